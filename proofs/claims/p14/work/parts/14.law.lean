theorem ic_7 : Int32.ofInt 7 = 7 := by decide
theorem bi_31 : (Int8.ofInt 31).toInt32 = 31 := by decide
def b_L_law (g : qG) (n : Nat) (j r : Nat) (K18 KS : Int32 → qM → qR) (a3 : Int32) (M : qM) : qR :=
  (if ((Int32.ofNat g.2.2.2.2.2.1) - (7 : Int32)) < a3 then some ((1 : Int32), M) else qg a3 g.2.2.2.2.2.1 (qsw ((g.2.2.2.2.2.2 a3.toNatClampNeg) &&& (31 : Int32)) [((0 : Int32), qg (a3 + (1 : Int32)) g.2.2.2.2.2.1 (qg (a3 + (2 : Int32)) g.2.2.2.2.2.1 (qg (a3 + (3 : Int32)) g.2.2.2.2.2.1 (qg (a3 + (4 : Int32)) g.2.2.2.2.2.1 (qc (f_X11_kind n (g.2.2.2.2.2.2 (a3 + (1 : Int32)).toNatClampNeg) (g.2.2.2.2.2.2 (a3 + (2 : Int32)).toNatClampNeg) (g.2.2.2.2.2.2 (a3 + (3 : Int32)).toNatClampNeg) (g.2.2.2.2.2.2 (a3 + (4 : Int32)).toNatClampNeg) M) (fun r2 m3 => qg (a3 + (1 : Int32)) g.2.2.2.2.2.1 (qg (a3 + (2 : Int32)) g.2.2.2.2.2.1 (qg (a3 + (3 : Int32)) g.2.2.2.2.2.1 (qg (a3 + (4 : Int32)) g.2.2.2.2.2.1 (qc (f_X12_kind n (g.2.2.2.2.2.2 (a3 + (1 : Int32)).toNatClampNeg) (g.2.2.2.2.2.2 (a3 + (2 : Int32)).toNatClampNeg) (g.2.2.2.2.2.2 (a3 + (3 : Int32)).toNatClampNeg) (g.2.2.2.2.2.2 (a3 + (4 : Int32)).toNatClampNeg) m3) (fun r4 m5 => ql (a3 + (7 : Int32)) (fun x6 => K18 x6 m5)))))))))))), ((1 : Int32), qg (a3 + (1 : Int32)) g.2.2.2.2.2.1 (qg (a3 + (2 : Int32)) g.2.2.2.2.2.1 (qc (f_X11_person n (g.2.2.2.2.2.2 (a3 + (1 : Int32)).toNatClampNeg) (g.2.2.2.2.2.2 (a3 + (2 : Int32)).toNatClampNeg) M) (fun r7 m8 => qg (a3 + (1 : Int32)) g.2.2.2.2.2.1 (qg (a3 + (2 : Int32)) g.2.2.2.2.2.1 (qc (f_X12_person n (g.2.2.2.2.2.2 (a3 + (1 : Int32)).toNatClampNeg) (g.2.2.2.2.2.2 (a3 + (2 : Int32)).toNatClampNeg) m8) (fun r9 m10 => ql (a3 + (7 : Int32)) (fun x11 => K18 x11 m10)))))))), ((2 : Int32), qg (a3 + (1 : Int32)) g.2.2.2.2.2.1 (qg (a3 + (2 : Int32)) g.2.2.2.2.2.1 (qg (a3 + (3 : Int32)) g.2.2.2.2.2.1 (qg (a3 + (4 : Int32)) g.2.2.2.2.2.1 (qg (a3 + (5 : Int32)) g.2.2.2.2.2.1 (qc (f_X11_feed n (g.2.2.2.2.2.2 (a3 + (1 : Int32)).toNatClampNeg) (g.2.2.2.2.2.2 (a3 + (2 : Int32)).toNatClampNeg) (g.2.2.2.2.2.2 (a3 + (3 : Int32)).toNatClampNeg) (g.2.2.2.2.2.2 (a3 + (4 : Int32)).toNatClampNeg) (g.2.2.2.2.2.2 (a3 + (5 : Int32)).toNatClampNeg) M) (fun r12 m13 => qg (a3 + (1 : Int32)) g.2.2.2.2.2.1 (qg (a3 + (2 : Int32)) g.2.2.2.2.2.1 (qg (a3 + (3 : Int32)) g.2.2.2.2.2.1 (qg (a3 + (4 : Int32)) g.2.2.2.2.2.1 (qg (a3 + (5 : Int32)) g.2.2.2.2.2.1 (qc (f_X12_feed n (g.2.2.2.2.2.2 (a3 + (1 : Int32)).toNatClampNeg) (g.2.2.2.2.2.2 (a3 + (2 : Int32)).toNatClampNeg) (g.2.2.2.2.2.2 (a3 + (3 : Int32)).toNatClampNeg) (g.2.2.2.2.2.2 (a3 + (4 : Int32)).toNatClampNeg) (g.2.2.2.2.2.2 (a3 + (5 : Int32)).toNatClampNeg) m13) (fun r14 m15 => ql (a3 + (7 : Int32)) (fun x16 => K18 x16 m15)))))))))))))), ((3 : Int32), qg (a3 + (1 : Int32)) g.2.2.2.2.2.1 (qc2 (f_X11_law n j r (g.2.2.2.2.2.2 (a3 + (1 : Int32)).toNatClampNeg) M) (f_X11_lawS n j r (g.2.2.2.2.2.2 (a3 + (1 : Int32)).toNatClampNeg) M) (fun r17 m18 => qg (a3 + (1 : Int32)) g.2.2.2.2.2.1 (qc (f_X12_law n (g.2.2.2.2.2.2 (a3 + (1 : Int32)).toNatClampNeg) m18) (fun r19 m20 => ql (a3 + (7 : Int32)) (fun x21 => K18 x21 m20)))) (fun r17 m18 => qg (a3 + (1 : Int32)) g.2.2.2.2.2.1 (qc (f_X12_law n (g.2.2.2.2.2.2 (a3 + (1 : Int32)).toNatClampNeg) m18) (fun r22 m23 => ql (a3 + (7 : Int32)) (fun x24 => KS x24 m23)))))), ((4 : Int32), qg (a3 + (1 : Int32)) g.2.2.2.2.2.1 (qg (a3 + (2 : Int32)) g.2.2.2.2.2.1 (qc (f_X11_plan n (g.2.2.2.2.2.2 (a3 + (1 : Int32)).toNatClampNeg) (g.2.2.2.2.2.2 (a3 + (2 : Int32)).toNatClampNeg) M) (fun r25 m26 => qg (a3 + (1 : Int32)) g.2.2.2.2.2.1 (qg (a3 + (2 : Int32)) g.2.2.2.2.2.1 (qc (f_X12_plan n (g.2.2.2.2.2.2 (a3 + (1 : Int32)).toNatClampNeg) (g.2.2.2.2.2.2 (a3 + (2 : Int32)).toNatClampNeg) m26) (fun r27 m28 => ql (a3 + (7 : Int32)) (fun x29 => K18 x29 m28)))))))), ((5 : Int32), qg (a3 + (1 : Int32)) g.2.2.2.2.2.1 (qg (a3 + (2 : Int32)) g.2.2.2.2.2.1 (qg (a3 + (3 : Int32)) g.2.2.2.2.2.1 (qc (f_X11_tries n j (g.2.2.2.2.2.2 (a3 + (1 : Int32)).toNatClampNeg) (g.2.2.2.2.2.2 (a3 + (2 : Int32)).toNatClampNeg) (g.2.2.2.2.2.2 (a3 + (3 : Int32)).toNatClampNeg) M) (fun r30 m31 => qg (a3 + (1 : Int32)) g.2.2.2.2.2.1 (qg (a3 + (2 : Int32)) g.2.2.2.2.2.1 (qg (a3 + (3 : Int32)) g.2.2.2.2.2.1 (qc (f_X12_tries n (g.2.2.2.2.2.2 (a3 + (1 : Int32)).toNatClampNeg) (g.2.2.2.2.2.2 (a3 + (2 : Int32)).toNatClampNeg) (g.2.2.2.2.2.2 (a3 + (3 : Int32)).toNatClampNeg) m31) (fun r32 m33 => ql (a3 + (7 : Int32)) (fun x34 => K18 x34 m33)))))))))), ((6 : Int32), qg (a3 + (1 : Int32)) g.2.2.2.2.2.1 (qg (a3 + (2 : Int32)) g.2.2.2.2.2.1 (qg (a3 + (3 : Int32)) g.2.2.2.2.2.1 (qc (f_X11_buys n j (g.2.2.2.2.2.2 (a3 + (1 : Int32)).toNatClampNeg) (g.2.2.2.2.2.2 (a3 + (2 : Int32)).toNatClampNeg) (g.2.2.2.2.2.2 (a3 + (3 : Int32)).toNatClampNeg) M) (fun r35 m36 => qg (a3 + (1 : Int32)) g.2.2.2.2.2.1 (qg (a3 + (2 : Int32)) g.2.2.2.2.2.1 (qg (a3 + (3 : Int32)) g.2.2.2.2.2.1 (qc (f_X12_buys n (g.2.2.2.2.2.2 (a3 + (1 : Int32)).toNatClampNeg) (g.2.2.2.2.2.2 (a3 + (2 : Int32)).toNatClampNeg) (g.2.2.2.2.2.2 (a3 + (3 : Int32)).toNatClampNeg) m36) (fun r37 m38 => ql (a3 + (7 : Int32)) (fun x39 => K18 x39 m38)))))))))), ((7 : Int32), qg (a3 + (1 : Int32)) g.2.2.2.2.2.1 (qc (f_X11_days n j (g.2.2.2.2.2.2 (a3 + (1 : Int32)).toNatClampNeg) M) (fun r40 m41 => qg (a3 + (1 : Int32)) g.2.2.2.2.2.1 (qc (f_X12_days n (g.2.2.2.2.2.2 (a3 + (1 : Int32)).toNatClampNeg) m41) (fun r42 m43 => ql (a3 + (7 : Int32)) (fun x44 => K18 x44 m43)))))), ((8 : Int32), qg (a3 + (1 : Int32)) g.2.2.2.2.2.1 (qg (a3 + (2 : Int32)) g.2.2.2.2.2.1 (qc (f_X11_tried n j (g.2.2.2.2.2.2 (a3 + (1 : Int32)).toNatClampNeg) (g.2.2.2.2.2.2 (a3 + (2 : Int32)).toNatClampNeg) M) (fun r45 m46 => qg (a3 + (1 : Int32)) g.2.2.2.2.2.1 (qg (a3 + (2 : Int32)) g.2.2.2.2.2.1 (qc (f_X12_tried n (g.2.2.2.2.2.2 (a3 + (1 : Int32)).toNatClampNeg) (g.2.2.2.2.2.2 (a3 + (2 : Int32)).toNatClampNeg) m46) (fun r47 m48 => ql (a3 + (7 : Int32)) (fun x49 => K18 x49 m48)))))))), ((9 : Int32), qg (a3 + (1 : Int32)) g.2.2.2.2.2.1 (qg (a3 + (2 : Int32)) g.2.2.2.2.2.1 (qg (a3 + (3 : Int32)) g.2.2.2.2.2.1 (qc (f_X11_has n j (g.2.2.2.2.2.2 (a3 + (1 : Int32)).toNatClampNeg) (g.2.2.2.2.2.2 (a3 + (2 : Int32)).toNatClampNeg) (g.2.2.2.2.2.2 (a3 + (3 : Int32)).toNatClampNeg) M) (fun r50 m51 => qg (a3 + (1 : Int32)) g.2.2.2.2.2.1 (qg (a3 + (2 : Int32)) g.2.2.2.2.2.1 (qg (a3 + (3 : Int32)) g.2.2.2.2.2.1 (qc (f_X12_has n (g.2.2.2.2.2.2 (a3 + (1 : Int32)).toNatClampNeg) (g.2.2.2.2.2.2 (a3 + (2 : Int32)).toNatClampNeg) (g.2.2.2.2.2.2 (a3 + (3 : Int32)).toNatClampNeg) m51) (fun r52 m53 => ql (a3 + (7 : Int32)) (fun x54 => K18 x54 m53)))))))))), ((10 : Int32), qg (a3 + (1 : Int32)) g.2.2.2.2.2.1 (qg (a3 + (2 : Int32)) g.2.2.2.2.2.1 (qc (f_X11_alike n j (g.2.2.2.2.2.2 (a3 + (1 : Int32)).toNatClampNeg) (g.2.2.2.2.2.2 (a3 + (2 : Int32)).toNatClampNeg) M) (fun r55 m56 => qg (a3 + (1 : Int32)) g.2.2.2.2.2.1 (qg (a3 + (2 : Int32)) g.2.2.2.2.2.1 (qc (f_X12_alike n (g.2.2.2.2.2.2 (a3 + (1 : Int32)).toNatClampNeg) (g.2.2.2.2.2.2 (a3 + (2 : Int32)).toNatClampNeg) m56) (fun r57 m58 => ql (a3 + (7 : Int32)) (fun x59 => K18 x59 m58)))))))), ((11 : Int32), qg (a3 + (1 : Int32)) g.2.2.2.2.2.1 (qg (a3 + (2 : Int32)) g.2.2.2.2.2.1 (qg (a3 + (3 : Int32)) g.2.2.2.2.2.1 (qc (f_X11_cost n j (g.2.2.2.2.2.2 (a3 + (1 : Int32)).toNatClampNeg) (g.2.2.2.2.2.2 (a3 + (2 : Int32)).toNatClampNeg) (g.2.2.2.2.2.2 (a3 + (3 : Int32)).toNatClampNeg) M) (fun r60 m61 => qg (a3 + (1 : Int32)) g.2.2.2.2.2.1 (qg (a3 + (2 : Int32)) g.2.2.2.2.2.1 (qg (a3 + (3 : Int32)) g.2.2.2.2.2.1 (qc (f_X12_cost n (g.2.2.2.2.2.2 (a3 + (1 : Int32)).toNatClampNeg) (g.2.2.2.2.2.2 (a3 + (2 : Int32)).toNatClampNeg) (g.2.2.2.2.2.2 (a3 + (3 : Int32)).toNatClampNeg) m61) (fun r62 m63 => ql (a3 + (7 : Int32)) (fun x64 => K18 x64 m63)))))))))), ((12 : Int32), qg (a3 + (1 : Int32)) g.2.2.2.2.2.1 (qg (a3 + (2 : Int32)) g.2.2.2.2.2.1 (qg (a3 + (3 : Int32)) g.2.2.2.2.2.1 (qg (a3 + (4 : Int32)) g.2.2.2.2.2.1 (qg (a3 + (5 : Int32)) g.2.2.2.2.2.1 (qc (f_X11_soonest n j (g.2.2.2.2.2.2 (a3 + (1 : Int32)).toNatClampNeg) (g.2.2.2.2.2.2 (a3 + (2 : Int32)).toNatClampNeg) (g.2.2.2.2.2.2 (a3 + (3 : Int32)).toNatClampNeg) (g.2.2.2.2.2.2 (a3 + (4 : Int32)).toNatClampNeg) (g.2.2.2.2.2.2 (a3 + (5 : Int32)).toNatClampNeg) M) (fun r65 m66 => qg (a3 + (1 : Int32)) g.2.2.2.2.2.1 (qg (a3 + (2 : Int32)) g.2.2.2.2.2.1 (qg (a3 + (3 : Int32)) g.2.2.2.2.2.1 (qg (a3 + (4 : Int32)) g.2.2.2.2.2.1 (qg (a3 + (5 : Int32)) g.2.2.2.2.2.1 (qc (f_X12_soonest n (g.2.2.2.2.2.2 (a3 + (1 : Int32)).toNatClampNeg) (g.2.2.2.2.2.2 (a3 + (2 : Int32)).toNatClampNeg) (g.2.2.2.2.2.2 (a3 + (3 : Int32)).toNatClampNeg) (g.2.2.2.2.2.2 (a3 + (4 : Int32)).toNatClampNeg) (g.2.2.2.2.2.2 (a3 + (5 : Int32)).toNatClampNeg) m66) (fun r67 m68 => (if r65 = r67 then ql (a3 + (7 : Int32)) (fun x69 => K18 x69 m68) else none)))))))))))))), ((13 : Int32), qg (a3 + (1 : Int32)) g.2.2.2.2.2.1 (qg (a3 + (2 : Int32)) g.2.2.2.2.2.1 (qg (a3 + (3 : Int32)) g.2.2.2.2.2.1 (qg (a3 + (4 : Int32)) g.2.2.2.2.2.1 (qg (a3 + (5 : Int32)) g.2.2.2.2.2.1 (qc (f_X11_cheapest n j (g.2.2.2.2.2.2 (a3 + (1 : Int32)).toNatClampNeg) (g.2.2.2.2.2.2 (a3 + (2 : Int32)).toNatClampNeg) (g.2.2.2.2.2.2 (a3 + (3 : Int32)).toNatClampNeg) (g.2.2.2.2.2.2 (a3 + (4 : Int32)).toNatClampNeg) (g.2.2.2.2.2.2 (a3 + (5 : Int32)).toNatClampNeg) M) (fun r70 m71 => qg (a3 + (1 : Int32)) g.2.2.2.2.2.1 (qg (a3 + (2 : Int32)) g.2.2.2.2.2.1 (qg (a3 + (3 : Int32)) g.2.2.2.2.2.1 (qg (a3 + (4 : Int32)) g.2.2.2.2.2.1 (qg (a3 + (5 : Int32)) g.2.2.2.2.2.1 (qc (f_X12_cheapest n (g.2.2.2.2.2.2 (a3 + (1 : Int32)).toNatClampNeg) (g.2.2.2.2.2.2 (a3 + (2 : Int32)).toNatClampNeg) (g.2.2.2.2.2.2 (a3 + (3 : Int32)).toNatClampNeg) (g.2.2.2.2.2.2 (a3 + (4 : Int32)).toNatClampNeg) (g.2.2.2.2.2.2 (a3 + (5 : Int32)).toNatClampNeg) m71) (fun r72 m73 => ql (a3 + (7 : Int32)) (fun x74 => K18 x74 m73)))))))))))))), ((14 : Int32), qg (a3 + (1 : Int32)) g.2.2.2.2.2.1 (qg (a3 + (2 : Int32)) g.2.2.2.2.2.1 (qg (a3 + (3 : Int32)) g.2.2.2.2.2.1 (qc (f_X11_loophole n j (g.2.2.2.2.2.2 (a3 + (1 : Int32)).toNatClampNeg) (g.2.2.2.2.2.2 (a3 + (2 : Int32)).toNatClampNeg) (g.2.2.2.2.2.2 (a3 + (3 : Int32)).toNatClampNeg) M) (fun r75 m76 => qg (a3 + (1 : Int32)) g.2.2.2.2.2.1 (qg (a3 + (2 : Int32)) g.2.2.2.2.2.1 (qg (a3 + (3 : Int32)) g.2.2.2.2.2.1 (qc (f_X12_loophole n (g.2.2.2.2.2.2 (a3 + (1 : Int32)).toNatClampNeg) (g.2.2.2.2.2.2 (a3 + (2 : Int32)).toNatClampNeg) (g.2.2.2.2.2.2 (a3 + (3 : Int32)).toNatClampNeg) m76) (fun r77 m78 => ql (a3 + (7 : Int32)) (fun x79 => K18 x79 m78)))))))))), ((15 : Int32), qg (a3 + (1 : Int32)) g.2.2.2.2.2.1 (qg (a3 + (2 : Int32)) g.2.2.2.2.2.1 (qg (a3 + (3 : Int32)) g.2.2.2.2.2.1 (qc (f_X11_jobs n j (g.2.2.2.2.2.2 (a3 + (1 : Int32)).toNatClampNeg) (g.2.2.2.2.2.2 (a3 + (2 : Int32)).toNatClampNeg) (g.2.2.2.2.2.2 (a3 + (3 : Int32)).toNatClampNeg) M) (fun r80 m81 => qg (a3 + (1 : Int32)) g.2.2.2.2.2.1 (qg (a3 + (2 : Int32)) g.2.2.2.2.2.1 (qg (a3 + (3 : Int32)) g.2.2.2.2.2.1 (qc (f_X12_jobs n (g.2.2.2.2.2.2 (a3 + (1 : Int32)).toNatClampNeg) (g.2.2.2.2.2.2 (a3 + (2 : Int32)).toNatClampNeg) (g.2.2.2.2.2.2 (a3 + (3 : Int32)).toNatClampNeg) m81) (fun r82 m83 => ql (a3 + (7 : Int32)) (fun x84 => K18 x84 m83)))))))))), ((16 : Int32), qg (a3 + (1 : Int32)) g.2.2.2.2.2.1 (qg (a3 + (2 : Int32)) g.2.2.2.2.2.1 (qg (a3 + (3 : Int32)) g.2.2.2.2.2.1 (qc (f_X11_rivals n (g.2.2.2.2.2.2 (a3 + (1 : Int32)).toNatClampNeg) (g.2.2.2.2.2.2 (a3 + (2 : Int32)).toNatClampNeg) (g.2.2.2.2.2.2 (a3 + (3 : Int32)).toNatClampNeg) M) (fun r85 m86 => qg (a3 + (1 : Int32)) g.2.2.2.2.2.1 (qg (a3 + (2 : Int32)) g.2.2.2.2.2.1 (qg (a3 + (3 : Int32)) g.2.2.2.2.2.1 (qc (f_X12_rivals n (g.2.2.2.2.2.2 (a3 + (1 : Int32)).toNatClampNeg) (g.2.2.2.2.2.2 (a3 + (2 : Int32)).toNatClampNeg) (g.2.2.2.2.2.2 (a3 + (3 : Int32)).toNatClampNeg) m86) (fun r87 m88 => ql (a3 + (7 : Int32)) (fun x89 => K18 x89 m88)))))))))), ((17 : Int32), qg (a3 + (1 : Int32)) g.2.2.2.2.2.1 (qg (a3 + (2 : Int32)) g.2.2.2.2.2.1 (qg (a3 + (3 : Int32)) g.2.2.2.2.2.1 (qg (a3 + (4 : Int32)) g.2.2.2.2.2.1 (qc (f_X11_histories n j (g.2.2.2.2.2.2 (a3 + (1 : Int32)).toNatClampNeg) (g.2.2.2.2.2.2 (a3 + (2 : Int32)).toNatClampNeg) (g.2.2.2.2.2.2 (a3 + (3 : Int32)).toNatClampNeg) (g.2.2.2.2.2.2 (a3 + (4 : Int32)).toNatClampNeg) M) (fun r90 m91 => qg (a3 + (1 : Int32)) g.2.2.2.2.2.1 (qg (a3 + (2 : Int32)) g.2.2.2.2.2.1 (qg (a3 + (3 : Int32)) g.2.2.2.2.2.1 (qg (a3 + (4 : Int32)) g.2.2.2.2.2.1 (qc (f_X12_histories n (g.2.2.2.2.2.2 (a3 + (1 : Int32)).toNatClampNeg) (g.2.2.2.2.2.2 (a3 + (2 : Int32)).toNatClampNeg) (g.2.2.2.2.2.2 (a3 + (3 : Int32)).toNatClampNeg) (g.2.2.2.2.2.2 (a3 + (4 : Int32)).toNatClampNeg) m91) (fun r92 m93 => ql (a3 + (7 : Int32)) (fun x94 => K18 x94 m93)))))))))))), ((18 : Int32), qg (a3 + (1 : Int32)) g.2.2.2.2.2.1 (qg (a3 + (2 : Int32)) g.2.2.2.2.2.1 (qg (a3 + (3 : Int32)) g.2.2.2.2.2.1 (qg (a3 + (4 : Int32)) g.2.2.2.2.2.1 ((if (g.2.2.2.2.2.2 (a3 + (4 : Int32)).toNatClampNeg) = (0 : Int32) then qg (a3 + (5 : Int32)) g.2.2.2.2.2.1 ((if (g.2.2.2.2.2.2 (a3 + (5 : Int32)).toNatClampNeg) = (0 : Int32) then qg (a3 + (6 : Int32)) g.2.2.2.2.2.1 (qc (f_X11_game n (g.2.2.2.2.2.2 (a3 + (1 : Int32)).toNatClampNeg) (g.2.2.2.2.2.2 (a3 + (2 : Int32)).toNatClampNeg) (g.2.2.2.2.2.2 (a3 + (3 : Int32)).toNatClampNeg) (0 : Int32) (0 : Int32) (g.2.2.2.2.2.2 (a3 + (6 : Int32)).toNatClampNeg) M) (fun r95 m96 => qg (a3 + (1 : Int32)) g.2.2.2.2.2.1 (qg (a3 + (2 : Int32)) g.2.2.2.2.2.1 (qg (a3 + (3 : Int32)) g.2.2.2.2.2.1 (qg (a3 + (4 : Int32)) g.2.2.2.2.2.1 ((if (g.2.2.2.2.2.2 (a3 + (4 : Int32)).toNatClampNeg) = (0 : Int32) then qg (a3 + (5 : Int32)) g.2.2.2.2.2.1 ((if (g.2.2.2.2.2.2 (a3 + (5 : Int32)).toNatClampNeg) = (0 : Int32) then qg (a3 + (6 : Int32)) g.2.2.2.2.2.1 (qc (f_X12_game n (g.2.2.2.2.2.2 (a3 + (1 : Int32)).toNatClampNeg) (g.2.2.2.2.2.2 (a3 + (2 : Int32)).toNatClampNeg) (g.2.2.2.2.2.2 (a3 + (3 : Int32)).toNatClampNeg) (0 : Int32) (0 : Int32) (g.2.2.2.2.2.2 (a3 + (6 : Int32)).toNatClampNeg) m96) (fun r97 m98 => ql (a3 + (7 : Int32)) (fun x99 => K18 x99 m98))) else qg (a3 + (6 : Int32)) g.2.2.2.2.2.1 (qc (f_X12_game n (g.2.2.2.2.2.2 (a3 + (1 : Int32)).toNatClampNeg) (g.2.2.2.2.2.2 (a3 + (2 : Int32)).toNatClampNeg) (g.2.2.2.2.2.2 (a3 + (3 : Int32)).toNatClampNeg) (0 : Int32) (1 : Int32) (g.2.2.2.2.2.2 (a3 + (6 : Int32)).toNatClampNeg) m96) (fun r100 m101 => ql (a3 + (7 : Int32)) (fun x102 => K18 x102 m101))))) else qg (a3 + (5 : Int32)) g.2.2.2.2.2.1 ((if (g.2.2.2.2.2.2 (a3 + (5 : Int32)).toNatClampNeg) = (0 : Int32) then qg (a3 + (6 : Int32)) g.2.2.2.2.2.1 (qc (f_X12_game n (g.2.2.2.2.2.2 (a3 + (1 : Int32)).toNatClampNeg) (g.2.2.2.2.2.2 (a3 + (2 : Int32)).toNatClampNeg) (g.2.2.2.2.2.2 (a3 + (3 : Int32)).toNatClampNeg) (1 : Int32) (0 : Int32) (g.2.2.2.2.2.2 (a3 + (6 : Int32)).toNatClampNeg) m96) (fun r103 m104 => ql (a3 + (7 : Int32)) (fun x105 => K18 x105 m104))) else qg (a3 + (6 : Int32)) g.2.2.2.2.2.1 (qc (f_X12_game n (g.2.2.2.2.2.2 (a3 + (1 : Int32)).toNatClampNeg) (g.2.2.2.2.2.2 (a3 + (2 : Int32)).toNatClampNeg) (g.2.2.2.2.2.2 (a3 + (3 : Int32)).toNatClampNeg) (1 : Int32) (1 : Int32) (g.2.2.2.2.2.2 (a3 + (6 : Int32)).toNatClampNeg) m96) (fun r106 m107 => ql (a3 + (7 : Int32)) (fun x108 => K18 x108 m107)))))))))))) else qg (a3 + (6 : Int32)) g.2.2.2.2.2.1 (qc (f_X11_game n (g.2.2.2.2.2.2 (a3 + (1 : Int32)).toNatClampNeg) (g.2.2.2.2.2.2 (a3 + (2 : Int32)).toNatClampNeg) (g.2.2.2.2.2.2 (a3 + (3 : Int32)).toNatClampNeg) (0 : Int32) (1 : Int32) (g.2.2.2.2.2.2 (a3 + (6 : Int32)).toNatClampNeg) M) (fun r109 m110 => qg (a3 + (1 : Int32)) g.2.2.2.2.2.1 (qg (a3 + (2 : Int32)) g.2.2.2.2.2.1 (qg (a3 + (3 : Int32)) g.2.2.2.2.2.1 (qg (a3 + (4 : Int32)) g.2.2.2.2.2.1 ((if (g.2.2.2.2.2.2 (a3 + (4 : Int32)).toNatClampNeg) = (0 : Int32) then qg (a3 + (5 : Int32)) g.2.2.2.2.2.1 ((if (g.2.2.2.2.2.2 (a3 + (5 : Int32)).toNatClampNeg) = (0 : Int32) then qg (a3 + (6 : Int32)) g.2.2.2.2.2.1 (qc (f_X12_game n (g.2.2.2.2.2.2 (a3 + (1 : Int32)).toNatClampNeg) (g.2.2.2.2.2.2 (a3 + (2 : Int32)).toNatClampNeg) (g.2.2.2.2.2.2 (a3 + (3 : Int32)).toNatClampNeg) (0 : Int32) (0 : Int32) (g.2.2.2.2.2.2 (a3 + (6 : Int32)).toNatClampNeg) m110) (fun r111 m112 => ql (a3 + (7 : Int32)) (fun x113 => K18 x113 m112))) else qg (a3 + (6 : Int32)) g.2.2.2.2.2.1 (qc (f_X12_game n (g.2.2.2.2.2.2 (a3 + (1 : Int32)).toNatClampNeg) (g.2.2.2.2.2.2 (a3 + (2 : Int32)).toNatClampNeg) (g.2.2.2.2.2.2 (a3 + (3 : Int32)).toNatClampNeg) (0 : Int32) (1 : Int32) (g.2.2.2.2.2.2 (a3 + (6 : Int32)).toNatClampNeg) m110) (fun r114 m115 => ql (a3 + (7 : Int32)) (fun x116 => K18 x116 m115))))) else qg (a3 + (5 : Int32)) g.2.2.2.2.2.1 ((if (g.2.2.2.2.2.2 (a3 + (5 : Int32)).toNatClampNeg) = (0 : Int32) then qg (a3 + (6 : Int32)) g.2.2.2.2.2.1 (qc (f_X12_game n (g.2.2.2.2.2.2 (a3 + (1 : Int32)).toNatClampNeg) (g.2.2.2.2.2.2 (a3 + (2 : Int32)).toNatClampNeg) (g.2.2.2.2.2.2 (a3 + (3 : Int32)).toNatClampNeg) (1 : Int32) (0 : Int32) (g.2.2.2.2.2.2 (a3 + (6 : Int32)).toNatClampNeg) m110) (fun r117 m118 => ql (a3 + (7 : Int32)) (fun x119 => K18 x119 m118))) else qg (a3 + (6 : Int32)) g.2.2.2.2.2.1 (qc (f_X12_game n (g.2.2.2.2.2.2 (a3 + (1 : Int32)).toNatClampNeg) (g.2.2.2.2.2.2 (a3 + (2 : Int32)).toNatClampNeg) (g.2.2.2.2.2.2 (a3 + (3 : Int32)).toNatClampNeg) (1 : Int32) (1 : Int32) (g.2.2.2.2.2.2 (a3 + (6 : Int32)).toNatClampNeg) m110) (fun r120 m121 => ql (a3 + (7 : Int32)) (fun x122 => K18 x122 m121)))))))))))))) else qg (a3 + (5 : Int32)) g.2.2.2.2.2.1 ((if (g.2.2.2.2.2.2 (a3 + (5 : Int32)).toNatClampNeg) = (0 : Int32) then qg (a3 + (6 : Int32)) g.2.2.2.2.2.1 (qc (f_X11_game n (g.2.2.2.2.2.2 (a3 + (1 : Int32)).toNatClampNeg) (g.2.2.2.2.2.2 (a3 + (2 : Int32)).toNatClampNeg) (g.2.2.2.2.2.2 (a3 + (3 : Int32)).toNatClampNeg) (1 : Int32) (0 : Int32) (g.2.2.2.2.2.2 (a3 + (6 : Int32)).toNatClampNeg) M) (fun r123 m124 => qg (a3 + (1 : Int32)) g.2.2.2.2.2.1 (qg (a3 + (2 : Int32)) g.2.2.2.2.2.1 (qg (a3 + (3 : Int32)) g.2.2.2.2.2.1 (qg (a3 + (4 : Int32)) g.2.2.2.2.2.1 ((if (g.2.2.2.2.2.2 (a3 + (4 : Int32)).toNatClampNeg) = (0 : Int32) then qg (a3 + (5 : Int32)) g.2.2.2.2.2.1 ((if (g.2.2.2.2.2.2 (a3 + (5 : Int32)).toNatClampNeg) = (0 : Int32) then qg (a3 + (6 : Int32)) g.2.2.2.2.2.1 (qc (f_X12_game n (g.2.2.2.2.2.2 (a3 + (1 : Int32)).toNatClampNeg) (g.2.2.2.2.2.2 (a3 + (2 : Int32)).toNatClampNeg) (g.2.2.2.2.2.2 (a3 + (3 : Int32)).toNatClampNeg) (0 : Int32) (0 : Int32) (g.2.2.2.2.2.2 (a3 + (6 : Int32)).toNatClampNeg) m124) (fun r125 m126 => ql (a3 + (7 : Int32)) (fun x127 => K18 x127 m126))) else qg (a3 + (6 : Int32)) g.2.2.2.2.2.1 (qc (f_X12_game n (g.2.2.2.2.2.2 (a3 + (1 : Int32)).toNatClampNeg) (g.2.2.2.2.2.2 (a3 + (2 : Int32)).toNatClampNeg) (g.2.2.2.2.2.2 (a3 + (3 : Int32)).toNatClampNeg) (0 : Int32) (1 : Int32) (g.2.2.2.2.2.2 (a3 + (6 : Int32)).toNatClampNeg) m124) (fun r128 m129 => ql (a3 + (7 : Int32)) (fun x130 => K18 x130 m129))))) else qg (a3 + (5 : Int32)) g.2.2.2.2.2.1 ((if (g.2.2.2.2.2.2 (a3 + (5 : Int32)).toNatClampNeg) = (0 : Int32) then qg (a3 + (6 : Int32)) g.2.2.2.2.2.1 (qc (f_X12_game n (g.2.2.2.2.2.2 (a3 + (1 : Int32)).toNatClampNeg) (g.2.2.2.2.2.2 (a3 + (2 : Int32)).toNatClampNeg) (g.2.2.2.2.2.2 (a3 + (3 : Int32)).toNatClampNeg) (1 : Int32) (0 : Int32) (g.2.2.2.2.2.2 (a3 + (6 : Int32)).toNatClampNeg) m124) (fun r131 m132 => ql (a3 + (7 : Int32)) (fun x133 => K18 x133 m132))) else qg (a3 + (6 : Int32)) g.2.2.2.2.2.1 (qc (f_X12_game n (g.2.2.2.2.2.2 (a3 + (1 : Int32)).toNatClampNeg) (g.2.2.2.2.2.2 (a3 + (2 : Int32)).toNatClampNeg) (g.2.2.2.2.2.2 (a3 + (3 : Int32)).toNatClampNeg) (1 : Int32) (1 : Int32) (g.2.2.2.2.2.2 (a3 + (6 : Int32)).toNatClampNeg) m124) (fun r134 m135 => ql (a3 + (7 : Int32)) (fun x136 => K18 x136 m135)))))))))))) else qg (a3 + (6 : Int32)) g.2.2.2.2.2.1 (qc (f_X11_game n (g.2.2.2.2.2.2 (a3 + (1 : Int32)).toNatClampNeg) (g.2.2.2.2.2.2 (a3 + (2 : Int32)).toNatClampNeg) (g.2.2.2.2.2.2 (a3 + (3 : Int32)).toNatClampNeg) (1 : Int32) (1 : Int32) (g.2.2.2.2.2.2 (a3 + (6 : Int32)).toNatClampNeg) M) (fun r137 m138 => qg (a3 + (1 : Int32)) g.2.2.2.2.2.1 (qg (a3 + (2 : Int32)) g.2.2.2.2.2.1 (qg (a3 + (3 : Int32)) g.2.2.2.2.2.1 (qg (a3 + (4 : Int32)) g.2.2.2.2.2.1 ((if (g.2.2.2.2.2.2 (a3 + (4 : Int32)).toNatClampNeg) = (0 : Int32) then qg (a3 + (5 : Int32)) g.2.2.2.2.2.1 ((if (g.2.2.2.2.2.2 (a3 + (5 : Int32)).toNatClampNeg) = (0 : Int32) then qg (a3 + (6 : Int32)) g.2.2.2.2.2.1 (qc (f_X12_game n (g.2.2.2.2.2.2 (a3 + (1 : Int32)).toNatClampNeg) (g.2.2.2.2.2.2 (a3 + (2 : Int32)).toNatClampNeg) (g.2.2.2.2.2.2 (a3 + (3 : Int32)).toNatClampNeg) (0 : Int32) (0 : Int32) (g.2.2.2.2.2.2 (a3 + (6 : Int32)).toNatClampNeg) m138) (fun r139 m140 => ql (a3 + (7 : Int32)) (fun x141 => K18 x141 m140))) else qg (a3 + (6 : Int32)) g.2.2.2.2.2.1 (qc (f_X12_game n (g.2.2.2.2.2.2 (a3 + (1 : Int32)).toNatClampNeg) (g.2.2.2.2.2.2 (a3 + (2 : Int32)).toNatClampNeg) (g.2.2.2.2.2.2 (a3 + (3 : Int32)).toNatClampNeg) (0 : Int32) (1 : Int32) (g.2.2.2.2.2.2 (a3 + (6 : Int32)).toNatClampNeg) m138) (fun r142 m143 => ql (a3 + (7 : Int32)) (fun x144 => K18 x144 m143))))) else qg (a3 + (5 : Int32)) g.2.2.2.2.2.1 ((if (g.2.2.2.2.2.2 (a3 + (5 : Int32)).toNatClampNeg) = (0 : Int32) then qg (a3 + (6 : Int32)) g.2.2.2.2.2.1 (qc (f_X12_game n (g.2.2.2.2.2.2 (a3 + (1 : Int32)).toNatClampNeg) (g.2.2.2.2.2.2 (a3 + (2 : Int32)).toNatClampNeg) (g.2.2.2.2.2.2 (a3 + (3 : Int32)).toNatClampNeg) (1 : Int32) (0 : Int32) (g.2.2.2.2.2.2 (a3 + (6 : Int32)).toNatClampNeg) m138) (fun r145 m146 => ql (a3 + (7 : Int32)) (fun x147 => K18 x147 m146))) else qg (a3 + (6 : Int32)) g.2.2.2.2.2.1 (qc (f_X12_game n (g.2.2.2.2.2.2 (a3 + (1 : Int32)).toNatClampNeg) (g.2.2.2.2.2.2 (a3 + (2 : Int32)).toNatClampNeg) (g.2.2.2.2.2.2 (a3 + (3 : Int32)).toNatClampNeg) (1 : Int32) (1 : Int32) (g.2.2.2.2.2.2 (a3 + (6 : Int32)).toNatClampNeg) m138) (fun r148 m149 => ql (a3 + (7 : Int32)) (fun x150 => K18 x150 m149)))))))))))))))))))), ((19 : Int32), qg (a3 + (1 : Int32)) g.2.2.2.2.2.1 (qg (a3 + (2 : Int32)) g.2.2.2.2.2.1 (qg (a3 + (3 : Int32)) g.2.2.2.2.2.1 (qg (a3 + (4 : Int32)) g.2.2.2.2.2.1 (qg (a3 + (5 : Int32)) g.2.2.2.2.2.1 (qg (a3 + (6 : Int32)) g.2.2.2.2.2.1 (qc (f_X11_court n (g.2.2.2.2.2.2 (a3 + (1 : Int32)).toNatClampNeg) (g.2.2.2.2.2.2 (a3 + (2 : Int32)).toNatClampNeg) (g.2.2.2.2.2.2 (a3 + (3 : Int32)).toNatClampNeg) (g.2.2.2.2.2.2 (a3 + (4 : Int32)).toNatClampNeg) (g.2.2.2.2.2.2 (a3 + (5 : Int32)).toNatClampNeg) (g.2.2.2.2.2.2 (a3 + (6 : Int32)).toNatClampNeg) M) (fun r151 m152 => qg (a3 + (1 : Int32)) g.2.2.2.2.2.1 (qg (a3 + (2 : Int32)) g.2.2.2.2.2.1 (qg (a3 + (3 : Int32)) g.2.2.2.2.2.1 (qg (a3 + (4 : Int32)) g.2.2.2.2.2.1 (qg (a3 + (5 : Int32)) g.2.2.2.2.2.1 (qg (a3 + (6 : Int32)) g.2.2.2.2.2.1 (qc (f_X12_court n (g.2.2.2.2.2.2 (a3 + (1 : Int32)).toNatClampNeg) (g.2.2.2.2.2.2 (a3 + (2 : Int32)).toNatClampNeg) (g.2.2.2.2.2.2 (a3 + (3 : Int32)).toNatClampNeg) (g.2.2.2.2.2.2 (a3 + (4 : Int32)).toNatClampNeg) (g.2.2.2.2.2.2 (a3 + (5 : Int32)).toNatClampNeg) (g.2.2.2.2.2.2 (a3 + (6 : Int32)).toNatClampNeg) m152) (fun r153 m154 => ql (a3 + (7 : Int32)) (fun x155 => K18 x155 m154)))))))))))))))), ((20 : Int32), qc (f_X11_keep n  M) (fun r156 m157 => qc (f_X12_keep n  m157) (fun r158 m159 => ql (a3 + (7 : Int32)) (fun x160 => K18 x160 m159)))), ((21 : Int32), qc (f_X11_undo n  M) (fun r161 m162 => qc (f_X12_undo n  m162) (fun r163 m164 => ql (a3 + (7 : Int32)) (fun x165 => K18 x165 m164)))), ((22 : Int32), qg (a3 + (1 : Int32)) g.2.2.2.2.2.1 (qg (a3 + (2 : Int32)) g.2.2.2.2.2.1 (qc (f_X11_check n (g.2.2.2.2.2.2 (a3 + (1 : Int32)).toNatClampNeg) (g.2.2.2.2.2.2 (a3 + (2 : Int32)).toNatClampNeg) M) (fun r166 m167 => qg (a3 + (1 : Int32)) g.2.2.2.2.2.1 (qg (a3 + (2 : Int32)) g.2.2.2.2.2.1 (qc (f_X12_check n (g.2.2.2.2.2.2 (a3 + (1 : Int32)).toNatClampNeg) (g.2.2.2.2.2.2 (a3 + (2 : Int32)).toNatClampNeg) m167) (fun r168 m169 => ql (a3 + (7 : Int32)) (fun x170 => K18 x170 m169)))))))), ((23 : Int32), qg (a3 + (1 : Int32)) g.2.2.2.2.2.1 (qc (f_X11_count n j (g.2.2.2.2.2.2 (a3 + (1 : Int32)).toNatClampNeg) M) (fun r171 m172 => qg (a3 + (1 : Int32)) g.2.2.2.2.2.1 (qc (f_X12_count n (g.2.2.2.2.2.2 (a3 + (1 : Int32)).toNatClampNeg) m172) (fun r173 m174 => ql (a3 + (7 : Int32)) (fun x175 => K18 x175 m174))))))] (ql (a3 + (7 : Int32)) (fun x1 => K18 x1 M))))
set_option maxRecDepth 8000 in
set_option maxHeartbeats 4000000 in
theorem wb_L_law {g : qG} {k : qK} {Z : List qSh} (hR : ∀ (Z : List qSh) (M : qM), qRT g k zL_law 1 (Z, M)) (n : Nat) (j r : Nat) (hj : q_isLaw j) (hr : q_isLaw r) (o : qOk g 68 zL_law k) (K18 KS : Int32 → qM → qR) (hK18 : ∀ (a3 : Int32) (M : qM), qAE g k zL_law Z 18 [some (.inr (some 1000)), some (.inr (some 0)), some (.inr (some 77)), some (.inl a3)] [] (qL j r, M) (K18 a3 M)) (hKS : ∀ (a3 : Int32) (M : qM), qAE g k zL_law Z 18 [some (.inr (some 1000)), some (.inr (some 0)), some (.inr (some 77)), some (.inl a3)] [] (qL r j, M) (KS a3 M)) (a3 : Int32) (M : qM) : qAE g k zL_law Z 18 [some (.inr (some 1000)), some (.inr (some 0)), some (.inr (some 77)), some (.inl a3)] [] (qL j r, M) (b_L_law g n j r K18 KS a3 M) := by
  unfold b_L_law
  refine qr_iload_n o (q_dm dm_L_law_0 10 rfl) rfl ?_
  refine qr_aload_n o (q_dm dm_L_law_0 11 rfl) rfl ?_
  refine qr_slen o (q_dm dm_L_law_0 12 rfl) ?_
  refine qr_bipush o (q_dm dm_L_law_0 13 rfl) bi_7 ?_
  refine qr_isub o (q_dm dm_L_law_0 14 rfl) ?_
  refine qr_icmp_gt (tgt := 1188) o (q_dm dm_L_law_0 15 rfl) (by decide) ?_ ?_
  · refine qr_iconst o (q_dm dm_L_law_14 58 rfl) ic_1 ?_
    exact qr_one o hR (q_dm dm_L_law_14 59 rfl)
  · refine qr_aload_n o (q_dm dm_L_law_0 16 rfl) rfl ?_
    refine qr_iload_n o (q_dm dm_L_law_0 17 rfl) rfl ?_
    refine qr_sald o (q_dm dm_L_law_0 18 rfl) ?_
    refine qr_bipush o (q_dm dm_L_law_0 19 rfl) bi_31 ?_
    refine qr_iand o (q_dm dm_L_law_0 20 rfl) ?_
    refine qr_tablep (tgt := 1182) o (q_dm dm_L_law_0 21 rfl) (by show (_ : Int) + (24 : Nat) = _; decide) (by decide) ?_ (q_tbc (111) 144 (by decide) rfl (by decide) ?_ (q_tbc (164) 197 (by decide) rfl (by decide) ?_ (q_tbc (197) 230 (by decide) rfl (by decide) ?_ (q_tbc (260) 293 (by decide) rfl (by decide) ?_ (q_tbc (283) 316 (by decide) rfl (by decide) ?_ (q_tbc (316) 349 (by decide) rfl (by decide) ?_ (q_tbc (359) 392 (by decide) rfl (by decide) ?_ (q_tbc (402) 435 (by decide) rfl (by decide) ?_ (q_tbc (425) 458 (by decide) rfl (by decide) ?_ (q_tbc (458) 491 (by decide) rfl (by decide) ?_ (q_tbc (501) 534 (by decide) rfl (by decide) ?_ (q_tbc (534) 567 (by decide) rfl (by decide) ?_ (q_tbc (577) 610 (by decide) rfl (by decide) ?_ (q_tbc (640) 673 (by decide) rfl (by decide) ?_ (q_tbc (703) 736 (by decide) rfl (by decide) ?_ (q_tbc (746) 779 (by decide) rfl (by decide) ?_ (q_tbc (789) 822 (by decide) rfl (by decide) ?_ (q_tbc (832) 865 (by decide) rfl (by decide) ?_ (q_tbc (885) 918 (by decide) rfl (by decide) ?_ (q_tbc (992) 1025 (by decide) rfl (by decide) ?_ (q_tbc (1067) 1100 (by decide) rfl (by decide) ?_ (q_tbc (1080) 1113 (by decide) rfl (by decide) ?_ (q_tbc (1093) 1126 (by decide) rfl (by decide) ?_ (q_tbc (1126) 1159 (by decide) rfl (by decide) ?_ q_tbn))))))))))))))))))))))))
    · refine qs_iincl2 (L' := fun x1 => [some (.inr (some 1000)), some (.inr (some 0)), some (.inr (some 77)), some (.inl x1)]) o (q_dm dm_L_law_14 56 rfl) rfl ic_7 (Nat.le_of_ble_eq_true rfl) (fun _ => rfl) (fun x1 => ?_)
      refine qr_goto (tgt := 18) o (q_dm dm_L_law_14 57 rfl) (by decide) ?_
      exact qr_loc (q_leS (q_leS (q_leS (q_leS q_le0)))) (hK18 x1 M)
    · refine qr_aload_n o (q_dm dm_L_law_0 22 rfl) rfl ?_
      refine qr_aload_n o (q_dm dm_L_law_0 23 rfl) rfl ?_
      refine qr_iload_n o (q_dm dm_L_law_0 24 rfl) rfl ?_
      refine qr_iconst o (q_dm dm_L_law_0 25 rfl) ic_1 ?_
      refine qr_iadd o (q_dm dm_L_law_0 26 rfl) ?_
      refine qr_sald o (q_dm dm_L_law_0 27 rfl) ?_
      refine qr_aload_n o (q_dm dm_L_law_0 28 rfl) rfl ?_
      refine qr_iload_n o (q_dm dm_L_law_0 29 rfl) rfl ?_
      refine qr_iconst o (q_dm dm_L_law_0 30 rfl) ic_2 ?_
      refine qr_iadd o (q_dm dm_L_law_0 31 rfl) ?_
      refine qr_sald o (q_dm dm_L_law_0 32 rfl) ?_
      refine qr_aload_n o (q_dm dm_L_law_0 33 rfl) rfl ?_
      refine qr_iload_n o (q_dm dm_L_law_0 34 rfl) rfl ?_
      refine qr_iconst o (q_dm dm_L_law_0 35 rfl) ic_3 ?_
      refine qr_iadd o (q_dm dm_L_law_0 36 rfl) ?_
      refine qr_sald o (q_dm dm_L_law_0 37 rfl) ?_
      refine qr_aload_n o (q_dm dm_L_law_0 38 rfl) rfl ?_
      refine qr_iload_n o (q_dm dm_L_law_0 39 rfl) rfl ?_
      refine qr_iconst o (q_dm dm_L_law_0 40 rfl) ic_4 ?_
      refine qr_iadd o (q_dm dm_L_law_0 41 rfl) ?_
      refine qr_sald o (q_dm dm_L_law_0 42 rfl) ?_
      refine qr_callv_i (As := [.inl (g.2.2.2.2.2.2 (a3 + (1 : Int32)).toNatClampNeg), .inl (g.2.2.2.2.2.2 (a3 + (2 : Int32)).toNatClampNeg), .inl (g.2.2.2.2.2.2 (a3 + (3 : Int32)).toNatClampNeg), .inl (g.2.2.2.2.2.2 (a3 + (4 : Int32)).toNatClampNeg)]) (S := []) o (a_X11_kind g k.2.1 n j r hj hr (g.2.2.2.2.2.2 (a3 + (1 : Int32)).toNatClampNeg) (g.2.2.2.2.2.2 (a3 + (2 : Int32)).toNatClampNeg) (g.2.2.2.2.2.2 (a3 + (3 : Int32)).toNatClampNeg) (g.2.2.2.2.2.2 (a3 + (4 : Int32)).toNatClampNeg) M) (Nat.le_of_ble_eq_true rfl) zv_X11_kind rfl cf_X11 (sh0 j r) ml_L_13 (Nat.le_of_ble_eq_true rfl) (q_dm dm_L_law_0 43 rfl) (fun r2 m3 => ?_)
      refine qr_pop o (q_dm dm_L_law_0 44 rfl) ?_
      refine qr_aload_n o (q_dm dm_L_law_0 45 rfl) rfl ?_
      refine qr_aload_n o (q_dm dm_L_law_0 46 rfl) rfl ?_
      refine qr_iload_n o (q_dm dm_L_law_0 47 rfl) rfl ?_
      refine qr_iconst o (q_dm dm_L_law_0 48 rfl) ic_1 ?_
      refine qr_iadd o (q_dm dm_L_law_0 49 rfl) ?_
      refine qr_sald o (q_dm dm_L_law_0 50 rfl) ?_
      refine qr_aload_n o (q_dm dm_L_law_0 51 rfl) rfl ?_
      refine qr_iload_n o (q_dm dm_L_law_0 52 rfl) rfl ?_
      refine qr_iconst o (q_dm dm_L_law_0 53 rfl) ic_2 ?_
      refine qr_iadd o (q_dm dm_L_law_0 54 rfl) ?_
      refine qr_sald o (q_dm dm_L_law_0 55 rfl) ?_
      refine qr_aload_n o (q_dm dm_L_law_0 56 rfl) rfl ?_
      refine qr_iload_n o (q_dm dm_L_law_0 57 rfl) rfl ?_
      refine qr_iconst o (q_dm dm_L_law_0 58 rfl) ic_3 ?_
      refine qr_iadd o (q_dm dm_L_law_0 59 rfl) ?_
      refine qr_sald o (q_dm dm_L_law_1 0 rfl) ?_
      refine qr_aload_n o (q_dm dm_L_law_1 1 rfl) rfl ?_
      refine qr_iload_n o (q_dm dm_L_law_1 2 rfl) rfl ?_
      refine qr_iconst o (q_dm dm_L_law_1 3 rfl) ic_4 ?_
      refine qr_iadd o (q_dm dm_L_law_1 4 rfl) ?_
      refine qr_sald o (q_dm dm_L_law_1 5 rfl) ?_
      refine qr_callv_i (As := [.inl (g.2.2.2.2.2.2 (a3 + (1 : Int32)).toNatClampNeg), .inl (g.2.2.2.2.2.2 (a3 + (2 : Int32)).toNatClampNeg), .inl (g.2.2.2.2.2.2 (a3 + (3 : Int32)).toNatClampNeg), .inl (g.2.2.2.2.2.2 (a3 + (4 : Int32)).toNatClampNeg)]) (S := []) o (a_X12_kind g k.2.1 n j r hj hr (g.2.2.2.2.2.2 (a3 + (1 : Int32)).toNatClampNeg) (g.2.2.2.2.2.2 (a3 + (2 : Int32)).toNatClampNeg) (g.2.2.2.2.2.2 (a3 + (3 : Int32)).toNatClampNeg) (g.2.2.2.2.2.2 (a3 + (4 : Int32)).toNatClampNeg) m3) (Nat.le_of_ble_eq_true rfl) zv_X12_kind rfl cf_X12 (sh77 j r) ml_L_17 (Nat.le_of_ble_eq_true rfl) (q_dm dm_L_law_1 6 rfl) (fun r4 m5 => ?_)
      refine qr_pop o (q_dm dm_L_law_1 7 rfl) ?_
      refine qr_goto (tgt := 1182) o (q_dm dm_L_law_1 8 rfl) (by decide) ?_
      refine qs_iincl2 (L' := fun x6 => [some (.inr (some 1000)), some (.inr (some 0)), some (.inr (some 77)), some (.inl x6)]) o (q_dm dm_L_law_14 56 rfl) rfl ic_7 (Nat.le_of_ble_eq_true rfl) (fun _ => rfl) (fun x6 => ?_)
      refine qr_goto (tgt := 18) o (q_dm dm_L_law_14 57 rfl) (by decide) ?_
      exact qr_loc (q_leS (q_leS (q_leS (q_leS q_le0)))) (hK18 x6 m5)
    · refine qr_aload_n o (q_dm dm_L_law_1 9 rfl) rfl ?_
      refine qr_aload_n o (q_dm dm_L_law_1 10 rfl) rfl ?_
      refine qr_iload_n o (q_dm dm_L_law_1 11 rfl) rfl ?_
      refine qr_iconst o (q_dm dm_L_law_1 12 rfl) ic_1 ?_
      refine qr_iadd o (q_dm dm_L_law_1 13 rfl) ?_
      refine qr_sald o (q_dm dm_L_law_1 14 rfl) ?_
      refine qr_aload_n o (q_dm dm_L_law_1 15 rfl) rfl ?_
      refine qr_iload_n o (q_dm dm_L_law_1 16 rfl) rfl ?_
      refine qr_iconst o (q_dm dm_L_law_1 17 rfl) ic_2 ?_
      refine qr_iadd o (q_dm dm_L_law_1 18 rfl) ?_
      refine qr_sald o (q_dm dm_L_law_1 19 rfl) ?_
      refine qr_callv_i (As := [.inl (g.2.2.2.2.2.2 (a3 + (1 : Int32)).toNatClampNeg), .inl (g.2.2.2.2.2.2 (a3 + (2 : Int32)).toNatClampNeg)]) (S := []) o (a_X11_person g k.2.1 n j r hj hr (g.2.2.2.2.2.2 (a3 + (1 : Int32)).toNatClampNeg) (g.2.2.2.2.2.2 (a3 + (2 : Int32)).toNatClampNeg) M) (Nat.le_of_ble_eq_true rfl) zv_X11_person rfl cf_X11 (sh0 j r) ml_L_18 (Nat.le_of_ble_eq_true rfl) (q_dm dm_L_law_1 20 rfl) (fun r7 m8 => ?_)
      refine qr_pop o (q_dm dm_L_law_1 21 rfl) ?_
      refine qr_aload_n o (q_dm dm_L_law_1 22 rfl) rfl ?_
      refine qr_aload_n o (q_dm dm_L_law_1 23 rfl) rfl ?_
      refine qr_iload_n o (q_dm dm_L_law_1 24 rfl) rfl ?_
      refine qr_iconst o (q_dm dm_L_law_1 25 rfl) ic_1 ?_
      refine qr_iadd o (q_dm dm_L_law_1 26 rfl) ?_
      refine qr_sald o (q_dm dm_L_law_1 27 rfl) ?_
      refine qr_aload_n o (q_dm dm_L_law_1 28 rfl) rfl ?_
      refine qr_iload_n o (q_dm dm_L_law_1 29 rfl) rfl ?_
      refine qr_iconst o (q_dm dm_L_law_1 30 rfl) ic_2 ?_
      refine qr_iadd o (q_dm dm_L_law_1 31 rfl) ?_
      refine qr_sald o (q_dm dm_L_law_1 32 rfl) ?_
      refine qr_callv_i (As := [.inl (g.2.2.2.2.2.2 (a3 + (1 : Int32)).toNatClampNeg), .inl (g.2.2.2.2.2.2 (a3 + (2 : Int32)).toNatClampNeg)]) (S := []) o (a_X12_person g k.2.1 n j r hj hr (g.2.2.2.2.2.2 (a3 + (1 : Int32)).toNatClampNeg) (g.2.2.2.2.2.2 (a3 + (2 : Int32)).toNatClampNeg) m8) (Nat.le_of_ble_eq_true rfl) zv_X12_person rfl cf_X12 (sh77 j r) ml_L_22 (Nat.le_of_ble_eq_true rfl) (q_dm dm_L_law_1 33 rfl) (fun r9 m10 => ?_)
      refine qr_pop o (q_dm dm_L_law_1 34 rfl) ?_
      refine qr_goto (tgt := 1182) o (q_dm dm_L_law_1 35 rfl) (by decide) ?_
      refine qs_iincl2 (L' := fun x11 => [some (.inr (some 1000)), some (.inr (some 0)), some (.inr (some 77)), some (.inl x11)]) o (q_dm dm_L_law_14 56 rfl) rfl ic_7 (Nat.le_of_ble_eq_true rfl) (fun _ => rfl) (fun x11 => ?_)
      refine qr_goto (tgt := 18) o (q_dm dm_L_law_14 57 rfl) (by decide) ?_
      exact qr_loc (q_leS (q_leS (q_leS (q_leS q_le0)))) (hK18 x11 m10)
    · refine qr_aload_n o (q_dm dm_L_law_1 36 rfl) rfl ?_
      refine qr_aload_n o (q_dm dm_L_law_1 37 rfl) rfl ?_
      refine qr_iload_n o (q_dm dm_L_law_1 38 rfl) rfl ?_
      refine qr_iconst o (q_dm dm_L_law_1 39 rfl) ic_1 ?_
      refine qr_iadd o (q_dm dm_L_law_1 40 rfl) ?_
      refine qr_sald o (q_dm dm_L_law_1 41 rfl) ?_
      refine qr_aload_n o (q_dm dm_L_law_1 42 rfl) rfl ?_
      refine qr_iload_n o (q_dm dm_L_law_1 43 rfl) rfl ?_
      refine qr_iconst o (q_dm dm_L_law_1 44 rfl) ic_2 ?_
      refine qr_iadd o (q_dm dm_L_law_1 45 rfl) ?_
      refine qr_sald o (q_dm dm_L_law_1 46 rfl) ?_
      refine qr_aload_n o (q_dm dm_L_law_1 47 rfl) rfl ?_
      refine qr_iload_n o (q_dm dm_L_law_1 48 rfl) rfl ?_
      refine qr_iconst o (q_dm dm_L_law_1 49 rfl) ic_3 ?_
      refine qr_iadd o (q_dm dm_L_law_1 50 rfl) ?_
      refine qr_sald o (q_dm dm_L_law_1 51 rfl) ?_
      refine qr_aload_n o (q_dm dm_L_law_1 52 rfl) rfl ?_
      refine qr_iload_n o (q_dm dm_L_law_1 53 rfl) rfl ?_
      refine qr_iconst o (q_dm dm_L_law_1 54 rfl) ic_4 ?_
      refine qr_iadd o (q_dm dm_L_law_1 55 rfl) ?_
      refine qr_sald o (q_dm dm_L_law_1 56 rfl) ?_
      refine qr_aload_n o (q_dm dm_L_law_1 57 rfl) rfl ?_
      refine qr_iload_n o (q_dm dm_L_law_1 58 rfl) rfl ?_
      refine qr_iconst o (q_dm dm_L_law_1 59 rfl) ic_5 ?_
      refine qr_iadd o (q_dm dm_L_law_2 0 rfl) ?_
      refine qr_sald o (q_dm dm_L_law_2 1 rfl) ?_
      refine qr_callv_i (As := [.inl (g.2.2.2.2.2.2 (a3 + (1 : Int32)).toNatClampNeg), .inl (g.2.2.2.2.2.2 (a3 + (2 : Int32)).toNatClampNeg), .inl (g.2.2.2.2.2.2 (a3 + (3 : Int32)).toNatClampNeg), .inl (g.2.2.2.2.2.2 (a3 + (4 : Int32)).toNatClampNeg), .inl (g.2.2.2.2.2.2 (a3 + (5 : Int32)).toNatClampNeg)]) (S := []) o (a_X11_feed g k.2.1 n j r hj hr (g.2.2.2.2.2.2 (a3 + (1 : Int32)).toNatClampNeg) (g.2.2.2.2.2.2 (a3 + (2 : Int32)).toNatClampNeg) (g.2.2.2.2.2.2 (a3 + (3 : Int32)).toNatClampNeg) (g.2.2.2.2.2.2 (a3 + (4 : Int32)).toNatClampNeg) (g.2.2.2.2.2.2 (a3 + (5 : Int32)).toNatClampNeg) M) (Nat.le_of_ble_eq_true rfl) zv_X11_feed rfl cf_X11 (sh0 j r) ml_L_23 (Nat.le_of_ble_eq_true rfl) (q_dm dm_L_law_2 2 rfl) (fun r12 m13 => ?_)
      refine qr_pop o (q_dm dm_L_law_2 3 rfl) ?_
      refine qr_aload_n o (q_dm dm_L_law_2 4 rfl) rfl ?_
      refine qr_aload_n o (q_dm dm_L_law_2 5 rfl) rfl ?_
      refine qr_iload_n o (q_dm dm_L_law_2 6 rfl) rfl ?_
      refine qr_iconst o (q_dm dm_L_law_2 7 rfl) ic_1 ?_
      refine qr_iadd o (q_dm dm_L_law_2 8 rfl) ?_
      refine qr_sald o (q_dm dm_L_law_2 9 rfl) ?_
      refine qr_aload_n o (q_dm dm_L_law_2 10 rfl) rfl ?_
      refine qr_iload_n o (q_dm dm_L_law_2 11 rfl) rfl ?_
      refine qr_iconst o (q_dm dm_L_law_2 12 rfl) ic_2 ?_
      refine qr_iadd o (q_dm dm_L_law_2 13 rfl) ?_
      refine qr_sald o (q_dm dm_L_law_2 14 rfl) ?_
      refine qr_aload_n o (q_dm dm_L_law_2 15 rfl) rfl ?_
      refine qr_iload_n o (q_dm dm_L_law_2 16 rfl) rfl ?_
      refine qr_iconst o (q_dm dm_L_law_2 17 rfl) ic_3 ?_
      refine qr_iadd o (q_dm dm_L_law_2 18 rfl) ?_
      refine qr_sald o (q_dm dm_L_law_2 19 rfl) ?_
      refine qr_aload_n o (q_dm dm_L_law_2 20 rfl) rfl ?_
      refine qr_iload_n o (q_dm dm_L_law_2 21 rfl) rfl ?_
      refine qr_iconst o (q_dm dm_L_law_2 22 rfl) ic_4 ?_
      refine qr_iadd o (q_dm dm_L_law_2 23 rfl) ?_
      refine qr_sald o (q_dm dm_L_law_2 24 rfl) ?_
      refine qr_aload_n o (q_dm dm_L_law_2 25 rfl) rfl ?_
      refine qr_iload_n o (q_dm dm_L_law_2 26 rfl) rfl ?_
      refine qr_iconst o (q_dm dm_L_law_2 27 rfl) ic_5 ?_
      refine qr_iadd o (q_dm dm_L_law_2 28 rfl) ?_
      refine qr_sald o (q_dm dm_L_law_2 29 rfl) ?_
      refine qr_callv_i (As := [.inl (g.2.2.2.2.2.2 (a3 + (1 : Int32)).toNatClampNeg), .inl (g.2.2.2.2.2.2 (a3 + (2 : Int32)).toNatClampNeg), .inl (g.2.2.2.2.2.2 (a3 + (3 : Int32)).toNatClampNeg), .inl (g.2.2.2.2.2.2 (a3 + (4 : Int32)).toNatClampNeg), .inl (g.2.2.2.2.2.2 (a3 + (5 : Int32)).toNatClampNeg)]) (S := []) o (a_X12_feed g k.2.1 n j r hj hr (g.2.2.2.2.2.2 (a3 + (1 : Int32)).toNatClampNeg) (g.2.2.2.2.2.2 (a3 + (2 : Int32)).toNatClampNeg) (g.2.2.2.2.2.2 (a3 + (3 : Int32)).toNatClampNeg) (g.2.2.2.2.2.2 (a3 + (4 : Int32)).toNatClampNeg) (g.2.2.2.2.2.2 (a3 + (5 : Int32)).toNatClampNeg) m13) (Nat.le_of_ble_eq_true rfl) zv_X12_feed rfl cf_X12 (sh77 j r) ml_L_27 (Nat.le_of_ble_eq_true rfl) (q_dm dm_L_law_2 30 rfl) (fun r14 m15 => ?_)
      refine qr_pop o (q_dm dm_L_law_2 31 rfl) ?_
      refine qr_goto (tgt := 1182) o (q_dm dm_L_law_2 32 rfl) (by decide) ?_
      refine qs_iincl2 (L' := fun x16 => [some (.inr (some 1000)), some (.inr (some 0)), some (.inr (some 77)), some (.inl x16)]) o (q_dm dm_L_law_14 56 rfl) rfl ic_7 (Nat.le_of_ble_eq_true rfl) (fun _ => rfl) (fun x16 => ?_)
      refine qr_goto (tgt := 18) o (q_dm dm_L_law_14 57 rfl) (by decide) ?_
      exact qr_loc (q_leS (q_leS (q_leS (q_leS q_le0)))) (hK18 x16 m15)
    · refine qr_aload_n o (q_dm dm_L_law_2 33 rfl) rfl ?_
      refine qr_aload_n o (q_dm dm_L_law_2 34 rfl) rfl ?_
      refine qr_iload_n o (q_dm dm_L_law_2 35 rfl) rfl ?_
      refine qr_iconst o (q_dm dm_L_law_2 36 rfl) ic_1 ?_
      refine qr_iadd o (q_dm dm_L_law_2 37 rfl) ?_
      refine qr_sald o (q_dm dm_L_law_2 38 rfl) ?_
      refine qr_law2 (As := [.inl (g.2.2.2.2.2.2 (a3 + (1 : Int32)).toNatClampNeg)]) (S := []) o (a_X11_law g k.2.1 n j r hj hr (g.2.2.2.2.2.2 (a3 + (1 : Int32)).toNatClampNeg) M) (a_X11_lawS g k.2.1 n j r hj hr (g.2.2.2.2.2.2 (a3 + (1 : Int32)).toNatClampNeg) M) (Nat.le_of_ble_eq_true rfl) zv_X11_law rfl cf_X11 (sh0 j r) ml_L_28 (Nat.le_of_ble_eq_true rfl) (q_dm dm_L_law_2 39 rfl) (fun r17 m18 => ?_) (fun r17 m18 => ?_)
      · refine qr_pop o (q_dm dm_L_law_2 40 rfl) ?_
        refine qr_aload_n o (q_dm dm_L_law_2 41 rfl) rfl ?_
        refine qr_aload_n o (q_dm dm_L_law_2 42 rfl) rfl ?_
        refine qr_iload_n o (q_dm dm_L_law_2 43 rfl) rfl ?_
        refine qr_iconst o (q_dm dm_L_law_2 44 rfl) ic_1 ?_
        refine qr_iadd o (q_dm dm_L_law_2 45 rfl) ?_
        refine qr_sald o (q_dm dm_L_law_2 46 rfl) ?_
        refine qr_callv_i (As := [.inl (g.2.2.2.2.2.2 (a3 + (1 : Int32)).toNatClampNeg)]) (S := []) o (a_X12_law g k.2.1 n j r hj hr (g.2.2.2.2.2.2 (a3 + (1 : Int32)).toNatClampNeg) m18) (Nat.le_of_ble_eq_true rfl) zv_X12_law rfl cf_X12 (sh77 j r) ml_L_32 (Nat.le_of_ble_eq_true rfl) (q_dm dm_L_law_2 47 rfl) (fun r19 m20 => ?_)
        refine qr_pop o (q_dm dm_L_law_2 48 rfl) ?_
        refine qr_goto (tgt := 1182) o (q_dm dm_L_law_2 49 rfl) (by decide) ?_
        refine qs_iincl2 (L' := fun x21 => [some (.inr (some 1000)), some (.inr (some 0)), some (.inr (some 77)), some (.inl x21)]) o (q_dm dm_L_law_14 56 rfl) rfl ic_7 (Nat.le_of_ble_eq_true rfl) (fun _ => rfl) (fun x21 => ?_)
        refine qr_goto (tgt := 18) o (q_dm dm_L_law_14 57 rfl) (by decide) ?_
        exact qr_loc (q_leS (q_leS (q_leS (q_leS q_le0)))) (hK18 x21 m20)
      · refine qr_pop o (q_dm dm_L_law_2 40 rfl) ?_
        refine qr_aload_n o (q_dm dm_L_law_2 41 rfl) rfl ?_
        refine qr_aload_n o (q_dm dm_L_law_2 42 rfl) rfl ?_
        refine qr_iload_n o (q_dm dm_L_law_2 43 rfl) rfl ?_
        refine qr_iconst o (q_dm dm_L_law_2 44 rfl) ic_1 ?_
        refine qr_iadd o (q_dm dm_L_law_2 45 rfl) ?_
        refine qr_sald o (q_dm dm_L_law_2 46 rfl) ?_
        refine qr_callv_i (As := [.inl (g.2.2.2.2.2.2 (a3 + (1 : Int32)).toNatClampNeg)]) (S := []) o (a_X12_law g k.2.1 n r j hr hj (g.2.2.2.2.2.2 (a3 + (1 : Int32)).toNatClampNeg) m18) (Nat.le_of_ble_eq_true rfl) zv_X12_law rfl cf_X12 (sh77 r j) ml_L_32 (Nat.le_of_ble_eq_true rfl) (q_dm dm_L_law_2 47 rfl) (fun r22 m23 => ?_)
        refine qr_pop o (q_dm dm_L_law_2 48 rfl) ?_
        refine qr_goto (tgt := 1182) o (q_dm dm_L_law_2 49 rfl) (by decide) ?_
        refine qs_iincl2 (L' := fun x24 => [some (.inr (some 1000)), some (.inr (some 0)), some (.inr (some 77)), some (.inl x24)]) o (q_dm dm_L_law_14 56 rfl) rfl ic_7 (Nat.le_of_ble_eq_true rfl) (fun _ => rfl) (fun x24 => ?_)
        refine qr_goto (tgt := 18) o (q_dm dm_L_law_14 57 rfl) (by decide) ?_
        exact qr_loc (q_leS (q_leS (q_leS (q_leS q_le0)))) (hKS x24 m23)
    · refine qr_aload_n o (q_dm dm_L_law_2 50 rfl) rfl ?_
      refine qr_aload_n o (q_dm dm_L_law_2 51 rfl) rfl ?_
      refine qr_iload_n o (q_dm dm_L_law_2 52 rfl) rfl ?_
      refine qr_iconst o (q_dm dm_L_law_2 53 rfl) ic_1 ?_
      refine qr_iadd o (q_dm dm_L_law_2 54 rfl) ?_
      refine qr_sald o (q_dm dm_L_law_2 55 rfl) ?_
      refine qr_aload_n o (q_dm dm_L_law_2 56 rfl) rfl ?_
      refine qr_iload_n o (q_dm dm_L_law_2 57 rfl) rfl ?_
      refine qr_iconst o (q_dm dm_L_law_2 58 rfl) ic_2 ?_
      refine qr_iadd o (q_dm dm_L_law_2 59 rfl) ?_
      refine qr_sald o (q_dm dm_L_law_3 0 rfl) ?_
      refine qr_callv_i (As := [.inl (g.2.2.2.2.2.2 (a3 + (1 : Int32)).toNatClampNeg), .inl (g.2.2.2.2.2.2 (a3 + (2 : Int32)).toNatClampNeg)]) (S := []) o (a_X11_plan g k.2.1 n j r hj hr (g.2.2.2.2.2.2 (a3 + (1 : Int32)).toNatClampNeg) (g.2.2.2.2.2.2 (a3 + (2 : Int32)).toNatClampNeg) M) (Nat.le_of_ble_eq_true rfl) zv_X11_plan rfl cf_X11 (sh0 j r) ml_L_33 (Nat.le_of_ble_eq_true rfl) (q_dm dm_L_law_3 1 rfl) (fun r25 m26 => ?_)
      refine qr_pop o (q_dm dm_L_law_3 2 rfl) ?_
      refine qr_aload_n o (q_dm dm_L_law_3 3 rfl) rfl ?_
      refine qr_aload_n o (q_dm dm_L_law_3 4 rfl) rfl ?_
      refine qr_iload_n o (q_dm dm_L_law_3 5 rfl) rfl ?_
      refine qr_iconst o (q_dm dm_L_law_3 6 rfl) ic_1 ?_
      refine qr_iadd o (q_dm dm_L_law_3 7 rfl) ?_
      refine qr_sald o (q_dm dm_L_law_3 8 rfl) ?_
      refine qr_aload_n o (q_dm dm_L_law_3 9 rfl) rfl ?_
      refine qr_iload_n o (q_dm dm_L_law_3 10 rfl) rfl ?_
      refine qr_iconst o (q_dm dm_L_law_3 11 rfl) ic_2 ?_
      refine qr_iadd o (q_dm dm_L_law_3 12 rfl) ?_
      refine qr_sald o (q_dm dm_L_law_3 13 rfl) ?_
      refine qr_callv_i (As := [.inl (g.2.2.2.2.2.2 (a3 + (1 : Int32)).toNatClampNeg), .inl (g.2.2.2.2.2.2 (a3 + (2 : Int32)).toNatClampNeg)]) (S := []) o (a_X12_plan g k.2.1 n j r hj hr (g.2.2.2.2.2.2 (a3 + (1 : Int32)).toNatClampNeg) (g.2.2.2.2.2.2 (a3 + (2 : Int32)).toNatClampNeg) m26) (Nat.le_of_ble_eq_true rfl) zv_X12_plan rfl cf_X12 (sh77 j r) ml_L_37 (Nat.le_of_ble_eq_true rfl) (q_dm dm_L_law_3 14 rfl) (fun r27 m28 => ?_)
      refine qr_pop o (q_dm dm_L_law_3 15 rfl) ?_
      refine qr_goto (tgt := 1182) o (q_dm dm_L_law_3 16 rfl) (by decide) ?_
      refine qs_iincl2 (L' := fun x29 => [some (.inr (some 1000)), some (.inr (some 0)), some (.inr (some 77)), some (.inl x29)]) o (q_dm dm_L_law_14 56 rfl) rfl ic_7 (Nat.le_of_ble_eq_true rfl) (fun _ => rfl) (fun x29 => ?_)
      refine qr_goto (tgt := 18) o (q_dm dm_L_law_14 57 rfl) (by decide) ?_
      exact qr_loc (q_leS (q_leS (q_leS (q_leS q_le0)))) (hK18 x29 m28)
    · refine qr_aload_n o (q_dm dm_L_law_3 17 rfl) rfl ?_
      refine qr_aload_n o (q_dm dm_L_law_3 18 rfl) rfl ?_
      refine qr_iload_n o (q_dm dm_L_law_3 19 rfl) rfl ?_
      refine qr_iconst o (q_dm dm_L_law_3 20 rfl) ic_1 ?_
      refine qr_iadd o (q_dm dm_L_law_3 21 rfl) ?_
      refine qr_sald o (q_dm dm_L_law_3 22 rfl) ?_
      refine qr_aload_n o (q_dm dm_L_law_3 23 rfl) rfl ?_
      refine qr_iload_n o (q_dm dm_L_law_3 24 rfl) rfl ?_
      refine qr_iconst o (q_dm dm_L_law_3 25 rfl) ic_2 ?_
      refine qr_iadd o (q_dm dm_L_law_3 26 rfl) ?_
      refine qr_sald o (q_dm dm_L_law_3 27 rfl) ?_
      refine qr_aload_n o (q_dm dm_L_law_3 28 rfl) rfl ?_
      refine qr_iload_n o (q_dm dm_L_law_3 29 rfl) rfl ?_
      refine qr_iconst o (q_dm dm_L_law_3 30 rfl) ic_3 ?_
      refine qr_iadd o (q_dm dm_L_law_3 31 rfl) ?_
      refine qr_sald o (q_dm dm_L_law_3 32 rfl) ?_
      refine qr_callv_i (As := [.inl (g.2.2.2.2.2.2 (a3 + (1 : Int32)).toNatClampNeg), .inl (g.2.2.2.2.2.2 (a3 + (2 : Int32)).toNatClampNeg), .inl (g.2.2.2.2.2.2 (a3 + (3 : Int32)).toNatClampNeg)]) (S := []) o (a_X11_tries g k.2.1 n j r hj hr (g.2.2.2.2.2.2 (a3 + (1 : Int32)).toNatClampNeg) (g.2.2.2.2.2.2 (a3 + (2 : Int32)).toNatClampNeg) (g.2.2.2.2.2.2 (a3 + (3 : Int32)).toNatClampNeg) M) (Nat.le_of_ble_eq_true rfl) zv_X11_tries rfl cf_X11 (sh0 j r) ml_L_38 (Nat.le_of_ble_eq_true rfl) (q_dm dm_L_law_3 33 rfl) (fun r30 m31 => ?_)
      refine qr_pop o (q_dm dm_L_law_3 34 rfl) ?_
      refine qr_aload_n o (q_dm dm_L_law_3 35 rfl) rfl ?_
      refine qr_aload_n o (q_dm dm_L_law_3 36 rfl) rfl ?_
      refine qr_iload_n o (q_dm dm_L_law_3 37 rfl) rfl ?_
      refine qr_iconst o (q_dm dm_L_law_3 38 rfl) ic_1 ?_
      refine qr_iadd o (q_dm dm_L_law_3 39 rfl) ?_
      refine qr_sald o (q_dm dm_L_law_3 40 rfl) ?_
      refine qr_aload_n o (q_dm dm_L_law_3 41 rfl) rfl ?_
      refine qr_iload_n o (q_dm dm_L_law_3 42 rfl) rfl ?_
      refine qr_iconst o (q_dm dm_L_law_3 43 rfl) ic_2 ?_
      refine qr_iadd o (q_dm dm_L_law_3 44 rfl) ?_
      refine qr_sald o (q_dm dm_L_law_3 45 rfl) ?_
      refine qr_aload_n o (q_dm dm_L_law_3 46 rfl) rfl ?_
      refine qr_iload_n o (q_dm dm_L_law_3 47 rfl) rfl ?_
      refine qr_iconst o (q_dm dm_L_law_3 48 rfl) ic_3 ?_
      refine qr_iadd o (q_dm dm_L_law_3 49 rfl) ?_
      refine qr_sald o (q_dm dm_L_law_3 50 rfl) ?_
      refine qr_callv_i (As := [.inl (g.2.2.2.2.2.2 (a3 + (1 : Int32)).toNatClampNeg), .inl (g.2.2.2.2.2.2 (a3 + (2 : Int32)).toNatClampNeg), .inl (g.2.2.2.2.2.2 (a3 + (3 : Int32)).toNatClampNeg)]) (S := []) o (a_X12_tries g k.2.1 n j r hj hr (g.2.2.2.2.2.2 (a3 + (1 : Int32)).toNatClampNeg) (g.2.2.2.2.2.2 (a3 + (2 : Int32)).toNatClampNeg) (g.2.2.2.2.2.2 (a3 + (3 : Int32)).toNatClampNeg) m31) (Nat.le_of_ble_eq_true rfl) zv_X12_tries rfl cf_X12 (sh77 j r) ml_L_42 (Nat.le_of_ble_eq_true rfl) (q_dm dm_L_law_3 51 rfl) (fun r32 m33 => ?_)
      refine qr_pop o (q_dm dm_L_law_3 52 rfl) ?_
      refine qr_goto (tgt := 1182) o (q_dm dm_L_law_3 53 rfl) (by decide) ?_
      refine qs_iincl2 (L' := fun x34 => [some (.inr (some 1000)), some (.inr (some 0)), some (.inr (some 77)), some (.inl x34)]) o (q_dm dm_L_law_14 56 rfl) rfl ic_7 (Nat.le_of_ble_eq_true rfl) (fun _ => rfl) (fun x34 => ?_)
      refine qr_goto (tgt := 18) o (q_dm dm_L_law_14 57 rfl) (by decide) ?_
      exact qr_loc (q_leS (q_leS (q_leS (q_leS q_le0)))) (hK18 x34 m33)
    · refine qr_aload_n o (q_dm dm_L_law_3 54 rfl) rfl ?_
      refine qr_aload_n o (q_dm dm_L_law_3 55 rfl) rfl ?_
      refine qr_iload_n o (q_dm dm_L_law_3 56 rfl) rfl ?_
      refine qr_iconst o (q_dm dm_L_law_3 57 rfl) ic_1 ?_
      refine qr_iadd o (q_dm dm_L_law_3 58 rfl) ?_
      refine qr_sald o (q_dm dm_L_law_3 59 rfl) ?_
      refine qr_aload_n o (q_dm dm_L_law_4 0 rfl) rfl ?_
      refine qr_iload_n o (q_dm dm_L_law_4 1 rfl) rfl ?_
      refine qr_iconst o (q_dm dm_L_law_4 2 rfl) ic_2 ?_
      refine qr_iadd o (q_dm dm_L_law_4 3 rfl) ?_
      refine qr_sald o (q_dm dm_L_law_4 4 rfl) ?_
      refine qr_aload_n o (q_dm dm_L_law_4 5 rfl) rfl ?_
      refine qr_iload_n o (q_dm dm_L_law_4 6 rfl) rfl ?_
      refine qr_iconst o (q_dm dm_L_law_4 7 rfl) ic_3 ?_
      refine qr_iadd o (q_dm dm_L_law_4 8 rfl) ?_
      refine qr_sald o (q_dm dm_L_law_4 9 rfl) ?_
      refine qr_callv_i (As := [.inl (g.2.2.2.2.2.2 (a3 + (1 : Int32)).toNatClampNeg), .inl (g.2.2.2.2.2.2 (a3 + (2 : Int32)).toNatClampNeg), .inl (g.2.2.2.2.2.2 (a3 + (3 : Int32)).toNatClampNeg)]) (S := []) o (a_X11_buys g k.2.1 n j r hj hr (g.2.2.2.2.2.2 (a3 + (1 : Int32)).toNatClampNeg) (g.2.2.2.2.2.2 (a3 + (2 : Int32)).toNatClampNeg) (g.2.2.2.2.2.2 (a3 + (3 : Int32)).toNatClampNeg) M) (Nat.le_of_ble_eq_true rfl) zv_X11_buys rfl cf_X11 (sh0 j r) ml_L_43 (Nat.le_of_ble_eq_true rfl) (q_dm dm_L_law_4 10 rfl) (fun r35 m36 => ?_)
      refine qr_pop o (q_dm dm_L_law_4 11 rfl) ?_
      refine qr_aload_n o (q_dm dm_L_law_4 12 rfl) rfl ?_
      refine qr_aload_n o (q_dm dm_L_law_4 13 rfl) rfl ?_
      refine qr_iload_n o (q_dm dm_L_law_4 14 rfl) rfl ?_
      refine qr_iconst o (q_dm dm_L_law_4 15 rfl) ic_1 ?_
      refine qr_iadd o (q_dm dm_L_law_4 16 rfl) ?_
      refine qr_sald o (q_dm dm_L_law_4 17 rfl) ?_
      refine qr_aload_n o (q_dm dm_L_law_4 18 rfl) rfl ?_
      refine qr_iload_n o (q_dm dm_L_law_4 19 rfl) rfl ?_
      refine qr_iconst o (q_dm dm_L_law_4 20 rfl) ic_2 ?_
      refine qr_iadd o (q_dm dm_L_law_4 21 rfl) ?_
      refine qr_sald o (q_dm dm_L_law_4 22 rfl) ?_
      refine qr_aload_n o (q_dm dm_L_law_4 23 rfl) rfl ?_
      refine qr_iload_n o (q_dm dm_L_law_4 24 rfl) rfl ?_
      refine qr_iconst o (q_dm dm_L_law_4 25 rfl) ic_3 ?_
      refine qr_iadd o (q_dm dm_L_law_4 26 rfl) ?_
      refine qr_sald o (q_dm dm_L_law_4 27 rfl) ?_
      refine qr_callv_i (As := [.inl (g.2.2.2.2.2.2 (a3 + (1 : Int32)).toNatClampNeg), .inl (g.2.2.2.2.2.2 (a3 + (2 : Int32)).toNatClampNeg), .inl (g.2.2.2.2.2.2 (a3 + (3 : Int32)).toNatClampNeg)]) (S := []) o (a_X12_buys g k.2.1 n j r hj hr (g.2.2.2.2.2.2 (a3 + (1 : Int32)).toNatClampNeg) (g.2.2.2.2.2.2 (a3 + (2 : Int32)).toNatClampNeg) (g.2.2.2.2.2.2 (a3 + (3 : Int32)).toNatClampNeg) m36) (Nat.le_of_ble_eq_true rfl) zv_X12_buys rfl cf_X12 (sh77 j r) ml_L_46 (Nat.le_of_ble_eq_true rfl) (q_dm dm_L_law_4 28 rfl) (fun r37 m38 => ?_)
      refine qr_pop o (q_dm dm_L_law_4 29 rfl) ?_
      refine qr_goto (tgt := 1182) o (q_dm dm_L_law_4 30 rfl) (by decide) ?_
      refine qs_iincl2 (L' := fun x39 => [some (.inr (some 1000)), some (.inr (some 0)), some (.inr (some 77)), some (.inl x39)]) o (q_dm dm_L_law_14 56 rfl) rfl ic_7 (Nat.le_of_ble_eq_true rfl) (fun _ => rfl) (fun x39 => ?_)
      refine qr_goto (tgt := 18) o (q_dm dm_L_law_14 57 rfl) (by decide) ?_
      exact qr_loc (q_leS (q_leS (q_leS (q_leS q_le0)))) (hK18 x39 m38)
    · refine qr_aload_n o (q_dm dm_L_law_4 31 rfl) rfl ?_
      refine qr_aload_n o (q_dm dm_L_law_4 32 rfl) rfl ?_
      refine qr_iload_n o (q_dm dm_L_law_4 33 rfl) rfl ?_
      refine qr_iconst o (q_dm dm_L_law_4 34 rfl) ic_1 ?_
      refine qr_iadd o (q_dm dm_L_law_4 35 rfl) ?_
      refine qr_sald o (q_dm dm_L_law_4 36 rfl) ?_
      refine qr_callv_i (As := [.inl (g.2.2.2.2.2.2 (a3 + (1 : Int32)).toNatClampNeg)]) (S := []) o (a_X11_days g k.2.1 n j r hj hr (g.2.2.2.2.2.2 (a3 + (1 : Int32)).toNatClampNeg) M) (Nat.le_of_ble_eq_true rfl) zv_X11_days rfl cf_X11 (sh0 j r) ml_L_47 (Nat.le_of_ble_eq_true rfl) (q_dm dm_L_law_4 37 rfl) (fun r40 m41 => ?_)
      refine qr_pop o (q_dm dm_L_law_4 38 rfl) ?_
      refine qr_aload_n o (q_dm dm_L_law_4 39 rfl) rfl ?_
      refine qr_aload_n o (q_dm dm_L_law_4 40 rfl) rfl ?_
      refine qr_iload_n o (q_dm dm_L_law_4 41 rfl) rfl ?_
      refine qr_iconst o (q_dm dm_L_law_4 42 rfl) ic_1 ?_
      refine qr_iadd o (q_dm dm_L_law_4 43 rfl) ?_
      refine qr_sald o (q_dm dm_L_law_4 44 rfl) ?_
      refine qr_callv_i (As := [.inl (g.2.2.2.2.2.2 (a3 + (1 : Int32)).toNatClampNeg)]) (S := []) o (a_X12_days g k.2.1 n j r hj hr (g.2.2.2.2.2.2 (a3 + (1 : Int32)).toNatClampNeg) m41) (Nat.le_of_ble_eq_true rfl) zv_X12_days rfl cf_X12 (sh77 j r) ml_L_50 (Nat.le_of_ble_eq_true rfl) (q_dm dm_L_law_4 45 rfl) (fun r42 m43 => ?_)
      refine qr_pop o (q_dm dm_L_law_4 46 rfl) ?_
      refine qr_goto (tgt := 1182) o (q_dm dm_L_law_4 47 rfl) (by decide) ?_
      refine qs_iincl2 (L' := fun x44 => [some (.inr (some 1000)), some (.inr (some 0)), some (.inr (some 77)), some (.inl x44)]) o (q_dm dm_L_law_14 56 rfl) rfl ic_7 (Nat.le_of_ble_eq_true rfl) (fun _ => rfl) (fun x44 => ?_)
      refine qr_goto (tgt := 18) o (q_dm dm_L_law_14 57 rfl) (by decide) ?_
      exact qr_loc (q_leS (q_leS (q_leS (q_leS q_le0)))) (hK18 x44 m43)
    · refine qr_aload_n o (q_dm dm_L_law_4 48 rfl) rfl ?_
      refine qr_aload_n o (q_dm dm_L_law_4 49 rfl) rfl ?_
      refine qr_iload_n o (q_dm dm_L_law_4 50 rfl) rfl ?_
      refine qr_iconst o (q_dm dm_L_law_4 51 rfl) ic_1 ?_
      refine qr_iadd o (q_dm dm_L_law_4 52 rfl) ?_
      refine qr_sald o (q_dm dm_L_law_4 53 rfl) ?_
      refine qr_aload_n o (q_dm dm_L_law_4 54 rfl) rfl ?_
      refine qr_iload_n o (q_dm dm_L_law_4 55 rfl) rfl ?_
      refine qr_iconst o (q_dm dm_L_law_4 56 rfl) ic_2 ?_
      refine qr_iadd o (q_dm dm_L_law_4 57 rfl) ?_
      refine qr_sald o (q_dm dm_L_law_4 58 rfl) ?_
      refine qr_callv_i (As := [.inl (g.2.2.2.2.2.2 (a3 + (1 : Int32)).toNatClampNeg), .inl (g.2.2.2.2.2.2 (a3 + (2 : Int32)).toNatClampNeg)]) (S := []) o (a_X11_tried g k.2.1 n j r hj hr (g.2.2.2.2.2.2 (a3 + (1 : Int32)).toNatClampNeg) (g.2.2.2.2.2.2 (a3 + (2 : Int32)).toNatClampNeg) M) (Nat.le_of_ble_eq_true rfl) zv_X11_tried rfl cf_X11 (sh0 j r) ml_L_51 (Nat.le_of_ble_eq_true rfl) (q_dm dm_L_law_4 59 rfl) (fun r45 m46 => ?_)
      refine qr_pop o (q_dm dm_L_law_5 0 rfl) ?_
      refine qr_aload_n o (q_dm dm_L_law_5 1 rfl) rfl ?_
      refine qr_aload_n o (q_dm dm_L_law_5 2 rfl) rfl ?_
      refine qr_iload_n o (q_dm dm_L_law_5 3 rfl) rfl ?_
      refine qr_iconst o (q_dm dm_L_law_5 4 rfl) ic_1 ?_
      refine qr_iadd o (q_dm dm_L_law_5 5 rfl) ?_
      refine qr_sald o (q_dm dm_L_law_5 6 rfl) ?_
      refine qr_aload_n o (q_dm dm_L_law_5 7 rfl) rfl ?_
      refine qr_iload_n o (q_dm dm_L_law_5 8 rfl) rfl ?_
      refine qr_iconst o (q_dm dm_L_law_5 9 rfl) ic_2 ?_
      refine qr_iadd o (q_dm dm_L_law_5 10 rfl) ?_
      refine qr_sald o (q_dm dm_L_law_5 11 rfl) ?_
      refine qr_callv_i (As := [.inl (g.2.2.2.2.2.2 (a3 + (1 : Int32)).toNatClampNeg), .inl (g.2.2.2.2.2.2 (a3 + (2 : Int32)).toNatClampNeg)]) (S := []) o (a_X12_tried g k.2.1 n j r hj hr (g.2.2.2.2.2.2 (a3 + (1 : Int32)).toNatClampNeg) (g.2.2.2.2.2.2 (a3 + (2 : Int32)).toNatClampNeg) m46) (Nat.le_of_ble_eq_true rfl) zv_X12_tried rfl cf_X12 (sh77 j r) ml_L_54 (Nat.le_of_ble_eq_true rfl) (q_dm dm_L_law_5 12 rfl) (fun r47 m48 => ?_)
      refine qr_pop o (q_dm dm_L_law_5 13 rfl) ?_
      refine qr_goto (tgt := 1182) o (q_dm dm_L_law_5 14 rfl) (by decide) ?_
      refine qs_iincl2 (L' := fun x49 => [some (.inr (some 1000)), some (.inr (some 0)), some (.inr (some 77)), some (.inl x49)]) o (q_dm dm_L_law_14 56 rfl) rfl ic_7 (Nat.le_of_ble_eq_true rfl) (fun _ => rfl) (fun x49 => ?_)
      refine qr_goto (tgt := 18) o (q_dm dm_L_law_14 57 rfl) (by decide) ?_
      exact qr_loc (q_leS (q_leS (q_leS (q_leS q_le0)))) (hK18 x49 m48)
    · refine qr_aload_n o (q_dm dm_L_law_5 15 rfl) rfl ?_
      refine qr_aload_n o (q_dm dm_L_law_5 16 rfl) rfl ?_
      refine qr_iload_n o (q_dm dm_L_law_5 17 rfl) rfl ?_
      refine qr_iconst o (q_dm dm_L_law_5 18 rfl) ic_1 ?_
      refine qr_iadd o (q_dm dm_L_law_5 19 rfl) ?_
      refine qr_sald o (q_dm dm_L_law_5 20 rfl) ?_
      refine qr_aload_n o (q_dm dm_L_law_5 21 rfl) rfl ?_
      refine qr_iload_n o (q_dm dm_L_law_5 22 rfl) rfl ?_
      refine qr_iconst o (q_dm dm_L_law_5 23 rfl) ic_2 ?_
      refine qr_iadd o (q_dm dm_L_law_5 24 rfl) ?_
      refine qr_sald o (q_dm dm_L_law_5 25 rfl) ?_
      refine qr_aload_n o (q_dm dm_L_law_5 26 rfl) rfl ?_
      refine qr_iload_n o (q_dm dm_L_law_5 27 rfl) rfl ?_
      refine qr_iconst o (q_dm dm_L_law_5 28 rfl) ic_3 ?_
      refine qr_iadd o (q_dm dm_L_law_5 29 rfl) ?_
      refine qr_sald o (q_dm dm_L_law_5 30 rfl) ?_
      refine qr_callv_i (As := [.inl (g.2.2.2.2.2.2 (a3 + (1 : Int32)).toNatClampNeg), .inl (g.2.2.2.2.2.2 (a3 + (2 : Int32)).toNatClampNeg), .inl (g.2.2.2.2.2.2 (a3 + (3 : Int32)).toNatClampNeg)]) (S := []) o (a_X11_has g k.2.1 n j r hj hr (g.2.2.2.2.2.2 (a3 + (1 : Int32)).toNatClampNeg) (g.2.2.2.2.2.2 (a3 + (2 : Int32)).toNatClampNeg) (g.2.2.2.2.2.2 (a3 + (3 : Int32)).toNatClampNeg) M) (Nat.le_of_ble_eq_true rfl) zv_X11_has rfl cf_X11 (sh0 j r) ml_L_55 (Nat.le_of_ble_eq_true rfl) (q_dm dm_L_law_5 31 rfl) (fun r50 m51 => ?_)
      refine qr_pop o (q_dm dm_L_law_5 32 rfl) ?_
      refine qr_aload_n o (q_dm dm_L_law_5 33 rfl) rfl ?_
      refine qr_aload_n o (q_dm dm_L_law_5 34 rfl) rfl ?_
      refine qr_iload_n o (q_dm dm_L_law_5 35 rfl) rfl ?_
      refine qr_iconst o (q_dm dm_L_law_5 36 rfl) ic_1 ?_
      refine qr_iadd o (q_dm dm_L_law_5 37 rfl) ?_
      refine qr_sald o (q_dm dm_L_law_5 38 rfl) ?_
      refine qr_aload_n o (q_dm dm_L_law_5 39 rfl) rfl ?_
      refine qr_iload_n o (q_dm dm_L_law_5 40 rfl) rfl ?_
      refine qr_iconst o (q_dm dm_L_law_5 41 rfl) ic_2 ?_
      refine qr_iadd o (q_dm dm_L_law_5 42 rfl) ?_
      refine qr_sald o (q_dm dm_L_law_5 43 rfl) ?_
      refine qr_aload_n o (q_dm dm_L_law_5 44 rfl) rfl ?_
      refine qr_iload_n o (q_dm dm_L_law_5 45 rfl) rfl ?_
      refine qr_iconst o (q_dm dm_L_law_5 46 rfl) ic_3 ?_
      refine qr_iadd o (q_dm dm_L_law_5 47 rfl) ?_
      refine qr_sald o (q_dm dm_L_law_5 48 rfl) ?_
      refine qr_callv_i (As := [.inl (g.2.2.2.2.2.2 (a3 + (1 : Int32)).toNatClampNeg), .inl (g.2.2.2.2.2.2 (a3 + (2 : Int32)).toNatClampNeg), .inl (g.2.2.2.2.2.2 (a3 + (3 : Int32)).toNatClampNeg)]) (S := []) o (a_X12_has g k.2.1 n j r hj hr (g.2.2.2.2.2.2 (a3 + (1 : Int32)).toNatClampNeg) (g.2.2.2.2.2.2 (a3 + (2 : Int32)).toNatClampNeg) (g.2.2.2.2.2.2 (a3 + (3 : Int32)).toNatClampNeg) m51) (Nat.le_of_ble_eq_true rfl) zv_X12_has rfl cf_X12 (sh77 j r) ml_L_58 (Nat.le_of_ble_eq_true rfl) (q_dm dm_L_law_5 49 rfl) (fun r52 m53 => ?_)
      refine qr_pop o (q_dm dm_L_law_5 50 rfl) ?_
      refine qr_goto (tgt := 1182) o (q_dm dm_L_law_5 51 rfl) (by decide) ?_
      refine qs_iincl2 (L' := fun x54 => [some (.inr (some 1000)), some (.inr (some 0)), some (.inr (some 77)), some (.inl x54)]) o (q_dm dm_L_law_14 56 rfl) rfl ic_7 (Nat.le_of_ble_eq_true rfl) (fun _ => rfl) (fun x54 => ?_)
      refine qr_goto (tgt := 18) o (q_dm dm_L_law_14 57 rfl) (by decide) ?_
      exact qr_loc (q_leS (q_leS (q_leS (q_leS q_le0)))) (hK18 x54 m53)
    · refine qr_aload_n o (q_dm dm_L_law_5 52 rfl) rfl ?_
      refine qr_aload_n o (q_dm dm_L_law_5 53 rfl) rfl ?_
      refine qr_iload_n o (q_dm dm_L_law_5 54 rfl) rfl ?_
      refine qr_iconst o (q_dm dm_L_law_5 55 rfl) ic_1 ?_
      refine qr_iadd o (q_dm dm_L_law_5 56 rfl) ?_
      refine qr_sald o (q_dm dm_L_law_5 57 rfl) ?_
      refine qr_aload_n o (q_dm dm_L_law_5 58 rfl) rfl ?_
      refine qr_iload_n o (q_dm dm_L_law_5 59 rfl) rfl ?_
      refine qr_iconst o (q_dm dm_L_law_6 0 rfl) ic_2 ?_
      refine qr_iadd o (q_dm dm_L_law_6 1 rfl) ?_
      refine qr_sald o (q_dm dm_L_law_6 2 rfl) ?_
      refine qr_callv_i (As := [.inl (g.2.2.2.2.2.2 (a3 + (1 : Int32)).toNatClampNeg), .inl (g.2.2.2.2.2.2 (a3 + (2 : Int32)).toNatClampNeg)]) (S := []) o (a_X11_alike g k.2.1 n j r hj hr (g.2.2.2.2.2.2 (a3 + (1 : Int32)).toNatClampNeg) (g.2.2.2.2.2.2 (a3 + (2 : Int32)).toNatClampNeg) M) (Nat.le_of_ble_eq_true rfl) zv_X11_alike rfl cf_X11 (sh0 j r) ml_L_59 (Nat.le_of_ble_eq_true rfl) (q_dm dm_L_law_6 3 rfl) (fun r55 m56 => ?_)
      refine qr_pop o (q_dm dm_L_law_6 4 rfl) ?_
      refine qr_aload_n o (q_dm dm_L_law_6 5 rfl) rfl ?_
      refine qr_aload_n o (q_dm dm_L_law_6 6 rfl) rfl ?_
      refine qr_iload_n o (q_dm dm_L_law_6 7 rfl) rfl ?_
      refine qr_iconst o (q_dm dm_L_law_6 8 rfl) ic_1 ?_
      refine qr_iadd o (q_dm dm_L_law_6 9 rfl) ?_
      refine qr_sald o (q_dm dm_L_law_6 10 rfl) ?_
      refine qr_aload_n o (q_dm dm_L_law_6 11 rfl) rfl ?_
      refine qr_iload_n o (q_dm dm_L_law_6 12 rfl) rfl ?_
      refine qr_iconst o (q_dm dm_L_law_6 13 rfl) ic_2 ?_
      refine qr_iadd o (q_dm dm_L_law_6 14 rfl) ?_
      refine qr_sald o (q_dm dm_L_law_6 15 rfl) ?_
      refine qr_callv_i (As := [.inl (g.2.2.2.2.2.2 (a3 + (1 : Int32)).toNatClampNeg), .inl (g.2.2.2.2.2.2 (a3 + (2 : Int32)).toNatClampNeg)]) (S := []) o (a_X12_alike g k.2.1 n j r hj hr (g.2.2.2.2.2.2 (a3 + (1 : Int32)).toNatClampNeg) (g.2.2.2.2.2.2 (a3 + (2 : Int32)).toNatClampNeg) m56) (Nat.le_of_ble_eq_true rfl) zv_X12_alike rfl cf_X12 (sh77 j r) ml_L_62 (Nat.le_of_ble_eq_true rfl) (q_dm dm_L_law_6 16 rfl) (fun r57 m58 => ?_)
      refine qr_pop o (q_dm dm_L_law_6 17 rfl) ?_
      refine qr_goto (tgt := 1182) o (q_dm dm_L_law_6 18 rfl) (by decide) ?_
      refine qs_iincl2 (L' := fun x59 => [some (.inr (some 1000)), some (.inr (some 0)), some (.inr (some 77)), some (.inl x59)]) o (q_dm dm_L_law_14 56 rfl) rfl ic_7 (Nat.le_of_ble_eq_true rfl) (fun _ => rfl) (fun x59 => ?_)
      refine qr_goto (tgt := 18) o (q_dm dm_L_law_14 57 rfl) (by decide) ?_
      exact qr_loc (q_leS (q_leS (q_leS (q_leS q_le0)))) (hK18 x59 m58)
    · refine qr_aload_n o (q_dm dm_L_law_6 19 rfl) rfl ?_
      refine qr_aload_n o (q_dm dm_L_law_6 20 rfl) rfl ?_
      refine qr_iload_n o (q_dm dm_L_law_6 21 rfl) rfl ?_
      refine qr_iconst o (q_dm dm_L_law_6 22 rfl) ic_1 ?_
      refine qr_iadd o (q_dm dm_L_law_6 23 rfl) ?_
      refine qr_sald o (q_dm dm_L_law_6 24 rfl) ?_
      refine qr_aload_n o (q_dm dm_L_law_6 25 rfl) rfl ?_
      refine qr_iload_n o (q_dm dm_L_law_6 26 rfl) rfl ?_
      refine qr_iconst o (q_dm dm_L_law_6 27 rfl) ic_2 ?_
      refine qr_iadd o (q_dm dm_L_law_6 28 rfl) ?_
      refine qr_sald o (q_dm dm_L_law_6 29 rfl) ?_
      refine qr_aload_n o (q_dm dm_L_law_6 30 rfl) rfl ?_
      refine qr_iload_n o (q_dm dm_L_law_6 31 rfl) rfl ?_
      refine qr_iconst o (q_dm dm_L_law_6 32 rfl) ic_3 ?_
      refine qr_iadd o (q_dm dm_L_law_6 33 rfl) ?_
      refine qr_sald o (q_dm dm_L_law_6 34 rfl) ?_
      refine qr_callv_i (As := [.inl (g.2.2.2.2.2.2 (a3 + (1 : Int32)).toNatClampNeg), .inl (g.2.2.2.2.2.2 (a3 + (2 : Int32)).toNatClampNeg), .inl (g.2.2.2.2.2.2 (a3 + (3 : Int32)).toNatClampNeg)]) (S := []) o (a_X11_cost g k.2.1 n j r hj hr (g.2.2.2.2.2.2 (a3 + (1 : Int32)).toNatClampNeg) (g.2.2.2.2.2.2 (a3 + (2 : Int32)).toNatClampNeg) (g.2.2.2.2.2.2 (a3 + (3 : Int32)).toNatClampNeg) M) (Nat.le_of_ble_eq_true rfl) zv_X11_cost rfl cf_X11 (sh0 j r) ml_L_63 (Nat.le_of_ble_eq_true rfl) (q_dm dm_L_law_6 35 rfl) (fun r60 m61 => ?_)
      refine qr_pop o (q_dm dm_L_law_6 36 rfl) ?_
      refine qr_aload_n o (q_dm dm_L_law_6 37 rfl) rfl ?_
      refine qr_aload_n o (q_dm dm_L_law_6 38 rfl) rfl ?_
      refine qr_iload_n o (q_dm dm_L_law_6 39 rfl) rfl ?_
      refine qr_iconst o (q_dm dm_L_law_6 40 rfl) ic_1 ?_
      refine qr_iadd o (q_dm dm_L_law_6 41 rfl) ?_
      refine qr_sald o (q_dm dm_L_law_6 42 rfl) ?_
      refine qr_aload_n o (q_dm dm_L_law_6 43 rfl) rfl ?_
      refine qr_iload_n o (q_dm dm_L_law_6 44 rfl) rfl ?_
      refine qr_iconst o (q_dm dm_L_law_6 45 rfl) ic_2 ?_
      refine qr_iadd o (q_dm dm_L_law_6 46 rfl) ?_
      refine qr_sald o (q_dm dm_L_law_6 47 rfl) ?_
      refine qr_aload_n o (q_dm dm_L_law_6 48 rfl) rfl ?_
      refine qr_iload_n o (q_dm dm_L_law_6 49 rfl) rfl ?_
      refine qr_iconst o (q_dm dm_L_law_6 50 rfl) ic_3 ?_
      refine qr_iadd o (q_dm dm_L_law_6 51 rfl) ?_
      refine qr_sald o (q_dm dm_L_law_6 52 rfl) ?_
      refine qr_callv_i (As := [.inl (g.2.2.2.2.2.2 (a3 + (1 : Int32)).toNatClampNeg), .inl (g.2.2.2.2.2.2 (a3 + (2 : Int32)).toNatClampNeg), .inl (g.2.2.2.2.2.2 (a3 + (3 : Int32)).toNatClampNeg)]) (S := []) o (a_X12_cost g k.2.1 n j r hj hr (g.2.2.2.2.2.2 (a3 + (1 : Int32)).toNatClampNeg) (g.2.2.2.2.2.2 (a3 + (2 : Int32)).toNatClampNeg) (g.2.2.2.2.2.2 (a3 + (3 : Int32)).toNatClampNeg) m61) (Nat.le_of_ble_eq_true rfl) zv_X12_cost rfl cf_X12 (sh77 j r) ml_L_66 (Nat.le_of_ble_eq_true rfl) (q_dm dm_L_law_6 53 rfl) (fun r62 m63 => ?_)
      refine qr_pop o (q_dm dm_L_law_6 54 rfl) ?_
      refine qr_goto (tgt := 1182) o (q_dm dm_L_law_6 55 rfl) (by decide) ?_
      refine qs_iincl2 (L' := fun x64 => [some (.inr (some 1000)), some (.inr (some 0)), some (.inr (some 77)), some (.inl x64)]) o (q_dm dm_L_law_14 56 rfl) rfl ic_7 (Nat.le_of_ble_eq_true rfl) (fun _ => rfl) (fun x64 => ?_)
      refine qr_goto (tgt := 18) o (q_dm dm_L_law_14 57 rfl) (by decide) ?_
      exact qr_loc (q_leS (q_leS (q_leS (q_leS q_le0)))) (hK18 x64 m63)
    · refine qr_aload_n o (q_dm dm_L_law_6 56 rfl) rfl ?_
      refine qr_aload_n o (q_dm dm_L_law_6 57 rfl) rfl ?_
      refine qr_iload_n o (q_dm dm_L_law_6 58 rfl) rfl ?_
      refine qr_iconst o (q_dm dm_L_law_6 59 rfl) ic_1 ?_
      refine qr_iadd o (q_dm dm_L_law_7 0 rfl) ?_
      refine qr_sald o (q_dm dm_L_law_7 1 rfl) ?_
      refine qr_aload_n o (q_dm dm_L_law_7 2 rfl) rfl ?_
      refine qr_iload_n o (q_dm dm_L_law_7 3 rfl) rfl ?_
      refine qr_iconst o (q_dm dm_L_law_7 4 rfl) ic_2 ?_
      refine qr_iadd o (q_dm dm_L_law_7 5 rfl) ?_
      refine qr_sald o (q_dm dm_L_law_7 6 rfl) ?_
      refine qr_aload_n o (q_dm dm_L_law_7 7 rfl) rfl ?_
      refine qr_iload_n o (q_dm dm_L_law_7 8 rfl) rfl ?_
      refine qr_iconst o (q_dm dm_L_law_7 9 rfl) ic_3 ?_
      refine qr_iadd o (q_dm dm_L_law_7 10 rfl) ?_
      refine qr_sald o (q_dm dm_L_law_7 11 rfl) ?_
      refine qr_aload_n o (q_dm dm_L_law_7 12 rfl) rfl ?_
      refine qr_iload_n o (q_dm dm_L_law_7 13 rfl) rfl ?_
      refine qr_iconst o (q_dm dm_L_law_7 14 rfl) ic_4 ?_
      refine qr_iadd o (q_dm dm_L_law_7 15 rfl) ?_
      refine qr_sald o (q_dm dm_L_law_7 16 rfl) ?_
      refine qr_aload_n o (q_dm dm_L_law_7 17 rfl) rfl ?_
      refine qr_iload_n o (q_dm dm_L_law_7 18 rfl) rfl ?_
      refine qr_iconst o (q_dm dm_L_law_7 19 rfl) ic_5 ?_
      refine qr_iadd o (q_dm dm_L_law_7 20 rfl) ?_
      refine qr_sald o (q_dm dm_L_law_7 21 rfl) ?_
      refine qr_callv_i (As := [.inl (g.2.2.2.2.2.2 (a3 + (1 : Int32)).toNatClampNeg), .inl (g.2.2.2.2.2.2 (a3 + (2 : Int32)).toNatClampNeg), .inl (g.2.2.2.2.2.2 (a3 + (3 : Int32)).toNatClampNeg), .inl (g.2.2.2.2.2.2 (a3 + (4 : Int32)).toNatClampNeg), .inl (g.2.2.2.2.2.2 (a3 + (5 : Int32)).toNatClampNeg)]) (S := []) o (a_X11_soonest g k.2.1 n j r hj hr (g.2.2.2.2.2.2 (a3 + (1 : Int32)).toNatClampNeg) (g.2.2.2.2.2.2 (a3 + (2 : Int32)).toNatClampNeg) (g.2.2.2.2.2.2 (a3 + (3 : Int32)).toNatClampNeg) (g.2.2.2.2.2.2 (a3 + (4 : Int32)).toNatClampNeg) (g.2.2.2.2.2.2 (a3 + (5 : Int32)).toNatClampNeg) M) (Nat.le_of_ble_eq_true rfl) zv_X11_soonest rfl cf_X11 (sh0 j r) ml_L_67 (Nat.le_of_ble_eq_true rfl) (q_dm dm_L_law_7 22 rfl) (fun r65 m66 => ?_)
      refine qr_aload_n o (q_dm dm_L_law_7 23 rfl) rfl ?_
      refine qr_aload_n o (q_dm dm_L_law_7 24 rfl) rfl ?_
      refine qr_iload_n o (q_dm dm_L_law_7 25 rfl) rfl ?_
      refine qr_iconst o (q_dm dm_L_law_7 26 rfl) ic_1 ?_
      refine qr_iadd o (q_dm dm_L_law_7 27 rfl) ?_
      refine qr_sald o (q_dm dm_L_law_7 28 rfl) ?_
      refine qr_aload_n o (q_dm dm_L_law_7 29 rfl) rfl ?_
      refine qr_iload_n o (q_dm dm_L_law_7 30 rfl) rfl ?_
      refine qr_iconst o (q_dm dm_L_law_7 31 rfl) ic_2 ?_
      refine qr_iadd o (q_dm dm_L_law_7 32 rfl) ?_
      refine qr_sald o (q_dm dm_L_law_7 33 rfl) ?_
      refine qr_aload_n o (q_dm dm_L_law_7 34 rfl) rfl ?_
      refine qr_iload_n o (q_dm dm_L_law_7 35 rfl) rfl ?_
      refine qr_iconst o (q_dm dm_L_law_7 36 rfl) ic_3 ?_
      refine qr_iadd o (q_dm dm_L_law_7 37 rfl) ?_
      refine qr_sald o (q_dm dm_L_law_7 38 rfl) ?_
      refine qr_aload_n o (q_dm dm_L_law_7 39 rfl) rfl ?_
      refine qr_iload_n o (q_dm dm_L_law_7 40 rfl) rfl ?_
      refine qr_iconst o (q_dm dm_L_law_7 41 rfl) ic_4 ?_
      refine qr_iadd o (q_dm dm_L_law_7 42 rfl) ?_
      refine qr_sald o (q_dm dm_L_law_7 43 rfl) ?_
      refine qr_aload_n o (q_dm dm_L_law_7 44 rfl) rfl ?_
      refine qr_iload_n o (q_dm dm_L_law_7 45 rfl) rfl ?_
      refine qr_iconst o (q_dm dm_L_law_7 46 rfl) ic_5 ?_
      refine qr_iadd o (q_dm dm_L_law_7 47 rfl) ?_
      refine qr_sald o (q_dm dm_L_law_7 48 rfl) ?_
      refine qr_callv_i (As := [.inl (g.2.2.2.2.2.2 (a3 + (1 : Int32)).toNatClampNeg), .inl (g.2.2.2.2.2.2 (a3 + (2 : Int32)).toNatClampNeg), .inl (g.2.2.2.2.2.2 (a3 + (3 : Int32)).toNatClampNeg), .inl (g.2.2.2.2.2.2 (a3 + (4 : Int32)).toNatClampNeg), .inl (g.2.2.2.2.2.2 (a3 + (5 : Int32)).toNatClampNeg)]) (S := [.inl r65]) o (a_X12_soonest g k.2.1 n j r hj hr (g.2.2.2.2.2.2 (a3 + (1 : Int32)).toNatClampNeg) (g.2.2.2.2.2.2 (a3 + (2 : Int32)).toNatClampNeg) (g.2.2.2.2.2.2 (a3 + (3 : Int32)).toNatClampNeg) (g.2.2.2.2.2.2 (a3 + (4 : Int32)).toNatClampNeg) (g.2.2.2.2.2.2 (a3 + (5 : Int32)).toNatClampNeg) m66) (Nat.le_of_ble_eq_true rfl) zv_X12_soonest rfl cf_X12 (sh77 j r) ml_L_70 (Nat.le_of_ble_eq_true rfl) (q_dm dm_L_law_7 49 rfl) (fun r67 m68 => ?_)
      refine qr_icmp_eq (tgt := 1182) o (q_dm dm_L_law_7 50 rfl) (by decide) ?_ ?_
      · refine qs_iincl2 (L' := fun x69 => [some (.inr (some 1000)), some (.inr (some 0)), some (.inr (some 77)), some (.inl x69)]) o (q_dm dm_L_law_14 56 rfl) rfl ic_7 (Nat.le_of_ble_eq_true rfl) (fun _ => rfl) (fun x69 => ?_)
        refine qr_goto (tgt := 18) o (q_dm dm_L_law_14 57 rfl) (by decide) ?_
        exact qr_loc (q_leS (q_leS (q_leS (q_leS q_le0)))) (hK18 x69 m68)
      · refine qr_iconst o (q_dm dm_L_law_7 51 rfl) ic_0 ?_
        exact qr_none
    · refine qr_aload_n o (q_dm dm_L_law_7 53 rfl) rfl ?_
      refine qr_aload_n o (q_dm dm_L_law_7 54 rfl) rfl ?_
      refine qr_iload_n o (q_dm dm_L_law_7 55 rfl) rfl ?_
      refine qr_iconst o (q_dm dm_L_law_7 56 rfl) ic_1 ?_
      refine qr_iadd o (q_dm dm_L_law_7 57 rfl) ?_
      refine qr_sald o (q_dm dm_L_law_7 58 rfl) ?_
      refine qr_aload_n o (q_dm dm_L_law_7 59 rfl) rfl ?_
      refine qr_iload_n o (q_dm dm_L_law_8 0 rfl) rfl ?_
      refine qr_iconst o (q_dm dm_L_law_8 1 rfl) ic_2 ?_
      refine qr_iadd o (q_dm dm_L_law_8 2 rfl) ?_
      refine qr_sald o (q_dm dm_L_law_8 3 rfl) ?_
      refine qr_aload_n o (q_dm dm_L_law_8 4 rfl) rfl ?_
      refine qr_iload_n o (q_dm dm_L_law_8 5 rfl) rfl ?_
      refine qr_iconst o (q_dm dm_L_law_8 6 rfl) ic_3 ?_
      refine qr_iadd o (q_dm dm_L_law_8 7 rfl) ?_
      refine qr_sald o (q_dm dm_L_law_8 8 rfl) ?_
      refine qr_aload_n o (q_dm dm_L_law_8 9 rfl) rfl ?_
      refine qr_iload_n o (q_dm dm_L_law_8 10 rfl) rfl ?_
      refine qr_iconst o (q_dm dm_L_law_8 11 rfl) ic_4 ?_
      refine qr_iadd o (q_dm dm_L_law_8 12 rfl) ?_
      refine qr_sald o (q_dm dm_L_law_8 13 rfl) ?_
      refine qr_aload_n o (q_dm dm_L_law_8 14 rfl) rfl ?_
      refine qr_iload_n o (q_dm dm_L_law_8 15 rfl) rfl ?_
      refine qr_iconst o (q_dm dm_L_law_8 16 rfl) ic_5 ?_
      refine qr_iadd o (q_dm dm_L_law_8 17 rfl) ?_
      refine qr_sald o (q_dm dm_L_law_8 18 rfl) ?_
      refine qr_callv_i (As := [.inl (g.2.2.2.2.2.2 (a3 + (1 : Int32)).toNatClampNeg), .inl (g.2.2.2.2.2.2 (a3 + (2 : Int32)).toNatClampNeg), .inl (g.2.2.2.2.2.2 (a3 + (3 : Int32)).toNatClampNeg), .inl (g.2.2.2.2.2.2 (a3 + (4 : Int32)).toNatClampNeg), .inl (g.2.2.2.2.2.2 (a3 + (5 : Int32)).toNatClampNeg)]) (S := []) o (a_X11_cheapest g k.2.1 n j r hj hr (g.2.2.2.2.2.2 (a3 + (1 : Int32)).toNatClampNeg) (g.2.2.2.2.2.2 (a3 + (2 : Int32)).toNatClampNeg) (g.2.2.2.2.2.2 (a3 + (3 : Int32)).toNatClampNeg) (g.2.2.2.2.2.2 (a3 + (4 : Int32)).toNatClampNeg) (g.2.2.2.2.2.2 (a3 + (5 : Int32)).toNatClampNeg) M) (Nat.le_of_ble_eq_true rfl) zv_X11_cheapest rfl cf_X11 (sh0 j r) ml_L_71 (Nat.le_of_ble_eq_true rfl) (q_dm dm_L_law_8 19 rfl) (fun r70 m71 => ?_)
      refine qr_pop o (q_dm dm_L_law_8 20 rfl) ?_
      refine qr_aload_n o (q_dm dm_L_law_8 21 rfl) rfl ?_
      refine qr_aload_n o (q_dm dm_L_law_8 22 rfl) rfl ?_
      refine qr_iload_n o (q_dm dm_L_law_8 23 rfl) rfl ?_
      refine qr_iconst o (q_dm dm_L_law_8 24 rfl) ic_1 ?_
      refine qr_iadd o (q_dm dm_L_law_8 25 rfl) ?_
      refine qr_sald o (q_dm dm_L_law_8 26 rfl) ?_
      refine qr_aload_n o (q_dm dm_L_law_8 27 rfl) rfl ?_
      refine qr_iload_n o (q_dm dm_L_law_8 28 rfl) rfl ?_
      refine qr_iconst o (q_dm dm_L_law_8 29 rfl) ic_2 ?_
      refine qr_iadd o (q_dm dm_L_law_8 30 rfl) ?_
      refine qr_sald o (q_dm dm_L_law_8 31 rfl) ?_
      refine qr_aload_n o (q_dm dm_L_law_8 32 rfl) rfl ?_
      refine qr_iload_n o (q_dm dm_L_law_8 33 rfl) rfl ?_
      refine qr_iconst o (q_dm dm_L_law_8 34 rfl) ic_3 ?_
      refine qr_iadd o (q_dm dm_L_law_8 35 rfl) ?_
      refine qr_sald o (q_dm dm_L_law_8 36 rfl) ?_
      refine qr_aload_n o (q_dm dm_L_law_8 37 rfl) rfl ?_
      refine qr_iload_n o (q_dm dm_L_law_8 38 rfl) rfl ?_
      refine qr_iconst o (q_dm dm_L_law_8 39 rfl) ic_4 ?_
      refine qr_iadd o (q_dm dm_L_law_8 40 rfl) ?_
      refine qr_sald o (q_dm dm_L_law_8 41 rfl) ?_
      refine qr_aload_n o (q_dm dm_L_law_8 42 rfl) rfl ?_
      refine qr_iload_n o (q_dm dm_L_law_8 43 rfl) rfl ?_
      refine qr_iconst o (q_dm dm_L_law_8 44 rfl) ic_5 ?_
      refine qr_iadd o (q_dm dm_L_law_8 45 rfl) ?_
      refine qr_sald o (q_dm dm_L_law_8 46 rfl) ?_
      refine qr_callv_i (As := [.inl (g.2.2.2.2.2.2 (a3 + (1 : Int32)).toNatClampNeg), .inl (g.2.2.2.2.2.2 (a3 + (2 : Int32)).toNatClampNeg), .inl (g.2.2.2.2.2.2 (a3 + (3 : Int32)).toNatClampNeg), .inl (g.2.2.2.2.2.2 (a3 + (4 : Int32)).toNatClampNeg), .inl (g.2.2.2.2.2.2 (a3 + (5 : Int32)).toNatClampNeg)]) (S := []) o (a_X12_cheapest g k.2.1 n j r hj hr (g.2.2.2.2.2.2 (a3 + (1 : Int32)).toNatClampNeg) (g.2.2.2.2.2.2 (a3 + (2 : Int32)).toNatClampNeg) (g.2.2.2.2.2.2 (a3 + (3 : Int32)).toNatClampNeg) (g.2.2.2.2.2.2 (a3 + (4 : Int32)).toNatClampNeg) (g.2.2.2.2.2.2 (a3 + (5 : Int32)).toNatClampNeg) m71) (Nat.le_of_ble_eq_true rfl) zv_X12_cheapest rfl cf_X12 (sh77 j r) ml_L_74 (Nat.le_of_ble_eq_true rfl) (q_dm dm_L_law_8 47 rfl) (fun r72 m73 => ?_)
      refine qr_pop o (q_dm dm_L_law_8 48 rfl) ?_
      refine qr_goto (tgt := 1182) o (q_dm dm_L_law_8 49 rfl) (by decide) ?_
      refine qs_iincl2 (L' := fun x74 => [some (.inr (some 1000)), some (.inr (some 0)), some (.inr (some 77)), some (.inl x74)]) o (q_dm dm_L_law_14 56 rfl) rfl ic_7 (Nat.le_of_ble_eq_true rfl) (fun _ => rfl) (fun x74 => ?_)
      refine qr_goto (tgt := 18) o (q_dm dm_L_law_14 57 rfl) (by decide) ?_
      exact qr_loc (q_leS (q_leS (q_leS (q_leS q_le0)))) (hK18 x74 m73)
    · refine qr_aload_n o (q_dm dm_L_law_8 50 rfl) rfl ?_
      refine qr_aload_n o (q_dm dm_L_law_8 51 rfl) rfl ?_
      refine qr_iload_n o (q_dm dm_L_law_8 52 rfl) rfl ?_
      refine qr_iconst o (q_dm dm_L_law_8 53 rfl) ic_1 ?_
      refine qr_iadd o (q_dm dm_L_law_8 54 rfl) ?_
      refine qr_sald o (q_dm dm_L_law_8 55 rfl) ?_
      refine qr_aload_n o (q_dm dm_L_law_8 56 rfl) rfl ?_
      refine qr_iload_n o (q_dm dm_L_law_8 57 rfl) rfl ?_
      refine qr_iconst o (q_dm dm_L_law_8 58 rfl) ic_2 ?_
      refine qr_iadd o (q_dm dm_L_law_8 59 rfl) ?_
      refine qr_sald o (q_dm dm_L_law_9 0 rfl) ?_
      refine qr_aload_n o (q_dm dm_L_law_9 1 rfl) rfl ?_
      refine qr_iload_n o (q_dm dm_L_law_9 2 rfl) rfl ?_
      refine qr_iconst o (q_dm dm_L_law_9 3 rfl) ic_3 ?_
      refine qr_iadd o (q_dm dm_L_law_9 4 rfl) ?_
      refine qr_sald o (q_dm dm_L_law_9 5 rfl) ?_
      refine qr_callv_i (As := [.inl (g.2.2.2.2.2.2 (a3 + (1 : Int32)).toNatClampNeg), .inl (g.2.2.2.2.2.2 (a3 + (2 : Int32)).toNatClampNeg), .inl (g.2.2.2.2.2.2 (a3 + (3 : Int32)).toNatClampNeg)]) (S := []) o (a_X11_loophole g k.2.1 n j r hj hr (g.2.2.2.2.2.2 (a3 + (1 : Int32)).toNatClampNeg) (g.2.2.2.2.2.2 (a3 + (2 : Int32)).toNatClampNeg) (g.2.2.2.2.2.2 (a3 + (3 : Int32)).toNatClampNeg) M) (Nat.le_of_ble_eq_true rfl) zv_X11_loophole rfl cf_X11 (sh0 j r) ml_L_75 (Nat.le_of_ble_eq_true rfl) (q_dm dm_L_law_9 6 rfl) (fun r75 m76 => ?_)
      refine qr_pop o (q_dm dm_L_law_9 7 rfl) ?_
      refine qr_aload_n o (q_dm dm_L_law_9 8 rfl) rfl ?_
      refine qr_aload_n o (q_dm dm_L_law_9 9 rfl) rfl ?_
      refine qr_iload_n o (q_dm dm_L_law_9 10 rfl) rfl ?_
      refine qr_iconst o (q_dm dm_L_law_9 11 rfl) ic_1 ?_
      refine qr_iadd o (q_dm dm_L_law_9 12 rfl) ?_
      refine qr_sald o (q_dm dm_L_law_9 13 rfl) ?_
      refine qr_aload_n o (q_dm dm_L_law_9 14 rfl) rfl ?_
      refine qr_iload_n o (q_dm dm_L_law_9 15 rfl) rfl ?_
      refine qr_iconst o (q_dm dm_L_law_9 16 rfl) ic_2 ?_
      refine qr_iadd o (q_dm dm_L_law_9 17 rfl) ?_
      refine qr_sald o (q_dm dm_L_law_9 18 rfl) ?_
      refine qr_aload_n o (q_dm dm_L_law_9 19 rfl) rfl ?_
      refine qr_iload_n o (q_dm dm_L_law_9 20 rfl) rfl ?_
      refine qr_iconst o (q_dm dm_L_law_9 21 rfl) ic_3 ?_
      refine qr_iadd o (q_dm dm_L_law_9 22 rfl) ?_
      refine qr_sald o (q_dm dm_L_law_9 23 rfl) ?_
      refine qr_callv_i (As := [.inl (g.2.2.2.2.2.2 (a3 + (1 : Int32)).toNatClampNeg), .inl (g.2.2.2.2.2.2 (a3 + (2 : Int32)).toNatClampNeg), .inl (g.2.2.2.2.2.2 (a3 + (3 : Int32)).toNatClampNeg)]) (S := []) o (a_X12_loophole g k.2.1 n j r hj hr (g.2.2.2.2.2.2 (a3 + (1 : Int32)).toNatClampNeg) (g.2.2.2.2.2.2 (a3 + (2 : Int32)).toNatClampNeg) (g.2.2.2.2.2.2 (a3 + (3 : Int32)).toNatClampNeg) m76) (Nat.le_of_ble_eq_true rfl) zv_X12_loophole rfl cf_X12 (sh77 j r) ml_L_78 (Nat.le_of_ble_eq_true rfl) (q_dm dm_L_law_9 24 rfl) (fun r77 m78 => ?_)
      refine qr_pop o (q_dm dm_L_law_9 25 rfl) ?_
      refine qr_goto (tgt := 1182) o (q_dm dm_L_law_9 26 rfl) (by decide) ?_
      refine qs_iincl2 (L' := fun x79 => [some (.inr (some 1000)), some (.inr (some 0)), some (.inr (some 77)), some (.inl x79)]) o (q_dm dm_L_law_14 56 rfl) rfl ic_7 (Nat.le_of_ble_eq_true rfl) (fun _ => rfl) (fun x79 => ?_)
      refine qr_goto (tgt := 18) o (q_dm dm_L_law_14 57 rfl) (by decide) ?_
      exact qr_loc (q_leS (q_leS (q_leS (q_leS q_le0)))) (hK18 x79 m78)
    · refine qr_aload_n o (q_dm dm_L_law_9 27 rfl) rfl ?_
      refine qr_aload_n o (q_dm dm_L_law_9 28 rfl) rfl ?_
      refine qr_iload_n o (q_dm dm_L_law_9 29 rfl) rfl ?_
      refine qr_iconst o (q_dm dm_L_law_9 30 rfl) ic_1 ?_
      refine qr_iadd o (q_dm dm_L_law_9 31 rfl) ?_
      refine qr_sald o (q_dm dm_L_law_9 32 rfl) ?_
      refine qr_aload_n o (q_dm dm_L_law_9 33 rfl) rfl ?_
      refine qr_iload_n o (q_dm dm_L_law_9 34 rfl) rfl ?_
      refine qr_iconst o (q_dm dm_L_law_9 35 rfl) ic_2 ?_
      refine qr_iadd o (q_dm dm_L_law_9 36 rfl) ?_
      refine qr_sald o (q_dm dm_L_law_9 37 rfl) ?_
      refine qr_aload_n o (q_dm dm_L_law_9 38 rfl) rfl ?_
      refine qr_iload_n o (q_dm dm_L_law_9 39 rfl) rfl ?_
      refine qr_iconst o (q_dm dm_L_law_9 40 rfl) ic_3 ?_
      refine qr_iadd o (q_dm dm_L_law_9 41 rfl) ?_
      refine qr_sald o (q_dm dm_L_law_9 42 rfl) ?_
      refine qr_callv_i (As := [.inl (g.2.2.2.2.2.2 (a3 + (1 : Int32)).toNatClampNeg), .inl (g.2.2.2.2.2.2 (a3 + (2 : Int32)).toNatClampNeg), .inl (g.2.2.2.2.2.2 (a3 + (3 : Int32)).toNatClampNeg)]) (S := []) o (a_X11_jobs g k.2.1 n j r hj hr (g.2.2.2.2.2.2 (a3 + (1 : Int32)).toNatClampNeg) (g.2.2.2.2.2.2 (a3 + (2 : Int32)).toNatClampNeg) (g.2.2.2.2.2.2 (a3 + (3 : Int32)).toNatClampNeg) M) (Nat.le_of_ble_eq_true rfl) zv_X11_jobs rfl cf_X11 (sh0 j r) ml_L_79 (Nat.le_of_ble_eq_true rfl) (q_dm dm_L_law_9 43 rfl) (fun r80 m81 => ?_)
      refine qr_pop o (q_dm dm_L_law_9 44 rfl) ?_
      refine qr_aload_n o (q_dm dm_L_law_9 45 rfl) rfl ?_
      refine qr_aload_n o (q_dm dm_L_law_9 46 rfl) rfl ?_
      refine qr_iload_n o (q_dm dm_L_law_9 47 rfl) rfl ?_
      refine qr_iconst o (q_dm dm_L_law_9 48 rfl) ic_1 ?_
      refine qr_iadd o (q_dm dm_L_law_9 49 rfl) ?_
      refine qr_sald o (q_dm dm_L_law_9 50 rfl) ?_
      refine qr_aload_n o (q_dm dm_L_law_9 51 rfl) rfl ?_
      refine qr_iload_n o (q_dm dm_L_law_9 52 rfl) rfl ?_
      refine qr_iconst o (q_dm dm_L_law_9 53 rfl) ic_2 ?_
      refine qr_iadd o (q_dm dm_L_law_9 54 rfl) ?_
      refine qr_sald o (q_dm dm_L_law_9 55 rfl) ?_
      refine qr_aload_n o (q_dm dm_L_law_9 56 rfl) rfl ?_
      refine qr_iload_n o (q_dm dm_L_law_9 57 rfl) rfl ?_
      refine qr_iconst o (q_dm dm_L_law_9 58 rfl) ic_3 ?_
      refine qr_iadd o (q_dm dm_L_law_9 59 rfl) ?_
      refine qr_sald o (q_dm dm_L_law_10 0 rfl) ?_
      refine qr_callv_i (As := [.inl (g.2.2.2.2.2.2 (a3 + (1 : Int32)).toNatClampNeg), .inl (g.2.2.2.2.2.2 (a3 + (2 : Int32)).toNatClampNeg), .inl (g.2.2.2.2.2.2 (a3 + (3 : Int32)).toNatClampNeg)]) (S := []) o (a_X12_jobs g k.2.1 n j r hj hr (g.2.2.2.2.2.2 (a3 + (1 : Int32)).toNatClampNeg) (g.2.2.2.2.2.2 (a3 + (2 : Int32)).toNatClampNeg) (g.2.2.2.2.2.2 (a3 + (3 : Int32)).toNatClampNeg) m81) (Nat.le_of_ble_eq_true rfl) zv_X12_jobs rfl cf_X12 (sh77 j r) ml_L_82 (Nat.le_of_ble_eq_true rfl) (q_dm dm_L_law_10 1 rfl) (fun r82 m83 => ?_)
      refine qr_pop o (q_dm dm_L_law_10 2 rfl) ?_
      refine qr_goto (tgt := 1182) o (q_dm dm_L_law_10 3 rfl) (by decide) ?_
      refine qs_iincl2 (L' := fun x84 => [some (.inr (some 1000)), some (.inr (some 0)), some (.inr (some 77)), some (.inl x84)]) o (q_dm dm_L_law_14 56 rfl) rfl ic_7 (Nat.le_of_ble_eq_true rfl) (fun _ => rfl) (fun x84 => ?_)
      refine qr_goto (tgt := 18) o (q_dm dm_L_law_14 57 rfl) (by decide) ?_
      exact qr_loc (q_leS (q_leS (q_leS (q_leS q_le0)))) (hK18 x84 m83)
    · refine qr_aload_n o (q_dm dm_L_law_10 4 rfl) rfl ?_
      refine qr_aload_n o (q_dm dm_L_law_10 5 rfl) rfl ?_
      refine qr_iload_n o (q_dm dm_L_law_10 6 rfl) rfl ?_
      refine qr_iconst o (q_dm dm_L_law_10 7 rfl) ic_1 ?_
      refine qr_iadd o (q_dm dm_L_law_10 8 rfl) ?_
      refine qr_sald o (q_dm dm_L_law_10 9 rfl) ?_
      refine qr_aload_n o (q_dm dm_L_law_10 10 rfl) rfl ?_
      refine qr_iload_n o (q_dm dm_L_law_10 11 rfl) rfl ?_
      refine qr_iconst o (q_dm dm_L_law_10 12 rfl) ic_2 ?_
      refine qr_iadd o (q_dm dm_L_law_10 13 rfl) ?_
      refine qr_sald o (q_dm dm_L_law_10 14 rfl) ?_
      refine qr_aload_n o (q_dm dm_L_law_10 15 rfl) rfl ?_
      refine qr_iload_n o (q_dm dm_L_law_10 16 rfl) rfl ?_
      refine qr_iconst o (q_dm dm_L_law_10 17 rfl) ic_3 ?_
      refine qr_iadd o (q_dm dm_L_law_10 18 rfl) ?_
      refine qr_sald o (q_dm dm_L_law_10 19 rfl) ?_
      refine qr_callv_i (As := [.inl (g.2.2.2.2.2.2 (a3 + (1 : Int32)).toNatClampNeg), .inl (g.2.2.2.2.2.2 (a3 + (2 : Int32)).toNatClampNeg), .inl (g.2.2.2.2.2.2 (a3 + (3 : Int32)).toNatClampNeg)]) (S := []) o (a_X11_rivals g k.2.1 n j r hj hr (g.2.2.2.2.2.2 (a3 + (1 : Int32)).toNatClampNeg) (g.2.2.2.2.2.2 (a3 + (2 : Int32)).toNatClampNeg) (g.2.2.2.2.2.2 (a3 + (3 : Int32)).toNatClampNeg) M) (Nat.le_of_ble_eq_true rfl) zv_X11_rivals rfl cf_X11 (sh0 j r) ml_L_83 (Nat.le_of_ble_eq_true rfl) (q_dm dm_L_law_10 20 rfl) (fun r85 m86 => ?_)
      refine qr_pop o (q_dm dm_L_law_10 21 rfl) ?_
      refine qr_aload_n o (q_dm dm_L_law_10 22 rfl) rfl ?_
      refine qr_aload_n o (q_dm dm_L_law_10 23 rfl) rfl ?_
      refine qr_iload_n o (q_dm dm_L_law_10 24 rfl) rfl ?_
      refine qr_iconst o (q_dm dm_L_law_10 25 rfl) ic_1 ?_
      refine qr_iadd o (q_dm dm_L_law_10 26 rfl) ?_
      refine qr_sald o (q_dm dm_L_law_10 27 rfl) ?_
      refine qr_aload_n o (q_dm dm_L_law_10 28 rfl) rfl ?_
      refine qr_iload_n o (q_dm dm_L_law_10 29 rfl) rfl ?_
      refine qr_iconst o (q_dm dm_L_law_10 30 rfl) ic_2 ?_
      refine qr_iadd o (q_dm dm_L_law_10 31 rfl) ?_
      refine qr_sald o (q_dm dm_L_law_10 32 rfl) ?_
      refine qr_aload_n o (q_dm dm_L_law_10 33 rfl) rfl ?_
      refine qr_iload_n o (q_dm dm_L_law_10 34 rfl) rfl ?_
      refine qr_iconst o (q_dm dm_L_law_10 35 rfl) ic_3 ?_
      refine qr_iadd o (q_dm dm_L_law_10 36 rfl) ?_
      refine qr_sald o (q_dm dm_L_law_10 37 rfl) ?_
      refine qr_callv_i (As := [.inl (g.2.2.2.2.2.2 (a3 + (1 : Int32)).toNatClampNeg), .inl (g.2.2.2.2.2.2 (a3 + (2 : Int32)).toNatClampNeg), .inl (g.2.2.2.2.2.2 (a3 + (3 : Int32)).toNatClampNeg)]) (S := []) o (a_X12_rivals g k.2.1 n j r hj hr (g.2.2.2.2.2.2 (a3 + (1 : Int32)).toNatClampNeg) (g.2.2.2.2.2.2 (a3 + (2 : Int32)).toNatClampNeg) (g.2.2.2.2.2.2 (a3 + (3 : Int32)).toNatClampNeg) m86) (Nat.le_of_ble_eq_true rfl) zv_X12_rivals rfl cf_X12 (sh77 j r) ml_L_86 (Nat.le_of_ble_eq_true rfl) (q_dm dm_L_law_10 38 rfl) (fun r87 m88 => ?_)
      refine qr_pop o (q_dm dm_L_law_10 39 rfl) ?_
      refine qr_goto (tgt := 1182) o (q_dm dm_L_law_10 40 rfl) (by decide) ?_
      refine qs_iincl2 (L' := fun x89 => [some (.inr (some 1000)), some (.inr (some 0)), some (.inr (some 77)), some (.inl x89)]) o (q_dm dm_L_law_14 56 rfl) rfl ic_7 (Nat.le_of_ble_eq_true rfl) (fun _ => rfl) (fun x89 => ?_)
      refine qr_goto (tgt := 18) o (q_dm dm_L_law_14 57 rfl) (by decide) ?_
      exact qr_loc (q_leS (q_leS (q_leS (q_leS q_le0)))) (hK18 x89 m88)
    · refine qr_aload_n o (q_dm dm_L_law_10 41 rfl) rfl ?_
      refine qr_aload_n o (q_dm dm_L_law_10 42 rfl) rfl ?_
      refine qr_iload_n o (q_dm dm_L_law_10 43 rfl) rfl ?_
      refine qr_iconst o (q_dm dm_L_law_10 44 rfl) ic_1 ?_
      refine qr_iadd o (q_dm dm_L_law_10 45 rfl) ?_
      refine qr_sald o (q_dm dm_L_law_10 46 rfl) ?_
      refine qr_aload_n o (q_dm dm_L_law_10 47 rfl) rfl ?_
      refine qr_iload_n o (q_dm dm_L_law_10 48 rfl) rfl ?_
      refine qr_iconst o (q_dm dm_L_law_10 49 rfl) ic_2 ?_
      refine qr_iadd o (q_dm dm_L_law_10 50 rfl) ?_
      refine qr_sald o (q_dm dm_L_law_10 51 rfl) ?_
      refine qr_aload_n o (q_dm dm_L_law_10 52 rfl) rfl ?_
      refine qr_iload_n o (q_dm dm_L_law_10 53 rfl) rfl ?_
      refine qr_iconst o (q_dm dm_L_law_10 54 rfl) ic_3 ?_
      refine qr_iadd o (q_dm dm_L_law_10 55 rfl) ?_
      refine qr_sald o (q_dm dm_L_law_10 56 rfl) ?_
      refine qr_aload_n o (q_dm dm_L_law_10 57 rfl) rfl ?_
      refine qr_iload_n o (q_dm dm_L_law_10 58 rfl) rfl ?_
      refine qr_iconst o (q_dm dm_L_law_10 59 rfl) ic_4 ?_
      refine qr_iadd o (q_dm dm_L_law_11 0 rfl) ?_
      refine qr_sald o (q_dm dm_L_law_11 1 rfl) ?_
      refine qr_callv_i (As := [.inl (g.2.2.2.2.2.2 (a3 + (1 : Int32)).toNatClampNeg), .inl (g.2.2.2.2.2.2 (a3 + (2 : Int32)).toNatClampNeg), .inl (g.2.2.2.2.2.2 (a3 + (3 : Int32)).toNatClampNeg), .inl (g.2.2.2.2.2.2 (a3 + (4 : Int32)).toNatClampNeg)]) (S := []) o (a_X11_histories g k.2.1 n j r hj hr (g.2.2.2.2.2.2 (a3 + (1 : Int32)).toNatClampNeg) (g.2.2.2.2.2.2 (a3 + (2 : Int32)).toNatClampNeg) (g.2.2.2.2.2.2 (a3 + (3 : Int32)).toNatClampNeg) (g.2.2.2.2.2.2 (a3 + (4 : Int32)).toNatClampNeg) M) (Nat.le_of_ble_eq_true rfl) zv_X11_histories rfl cf_X11 (sh0 j r) ml_L_87 (Nat.le_of_ble_eq_true rfl) (q_dm dm_L_law_11 2 rfl) (fun r90 m91 => ?_)
      refine qr_pop o (q_dm dm_L_law_11 3 rfl) ?_
      refine qr_aload_n o (q_dm dm_L_law_11 4 rfl) rfl ?_
      refine qr_aload_n o (q_dm dm_L_law_11 5 rfl) rfl ?_
      refine qr_iload_n o (q_dm dm_L_law_11 6 rfl) rfl ?_
      refine qr_iconst o (q_dm dm_L_law_11 7 rfl) ic_1 ?_
      refine qr_iadd o (q_dm dm_L_law_11 8 rfl) ?_
      refine qr_sald o (q_dm dm_L_law_11 9 rfl) ?_
      refine qr_aload_n o (q_dm dm_L_law_11 10 rfl) rfl ?_
      refine qr_iload_n o (q_dm dm_L_law_11 11 rfl) rfl ?_
      refine qr_iconst o (q_dm dm_L_law_11 12 rfl) ic_2 ?_
      refine qr_iadd o (q_dm dm_L_law_11 13 rfl) ?_
      refine qr_sald o (q_dm dm_L_law_11 14 rfl) ?_
      refine qr_aload_n o (q_dm dm_L_law_11 15 rfl) rfl ?_
      refine qr_iload_n o (q_dm dm_L_law_11 16 rfl) rfl ?_
      refine qr_iconst o (q_dm dm_L_law_11 17 rfl) ic_3 ?_
      refine qr_iadd o (q_dm dm_L_law_11 18 rfl) ?_
      refine qr_sald o (q_dm dm_L_law_11 19 rfl) ?_
      refine qr_aload_n o (q_dm dm_L_law_11 20 rfl) rfl ?_
      refine qr_iload_n o (q_dm dm_L_law_11 21 rfl) rfl ?_
      refine qr_iconst o (q_dm dm_L_law_11 22 rfl) ic_4 ?_
      refine qr_iadd o (q_dm dm_L_law_11 23 rfl) ?_
      refine qr_sald o (q_dm dm_L_law_11 24 rfl) ?_
      refine qr_callv_i (As := [.inl (g.2.2.2.2.2.2 (a3 + (1 : Int32)).toNatClampNeg), .inl (g.2.2.2.2.2.2 (a3 + (2 : Int32)).toNatClampNeg), .inl (g.2.2.2.2.2.2 (a3 + (3 : Int32)).toNatClampNeg), .inl (g.2.2.2.2.2.2 (a3 + (4 : Int32)).toNatClampNeg)]) (S := []) o (a_X12_histories g k.2.1 n j r hj hr (g.2.2.2.2.2.2 (a3 + (1 : Int32)).toNatClampNeg) (g.2.2.2.2.2.2 (a3 + (2 : Int32)).toNatClampNeg) (g.2.2.2.2.2.2 (a3 + (3 : Int32)).toNatClampNeg) (g.2.2.2.2.2.2 (a3 + (4 : Int32)).toNatClampNeg) m91) (Nat.le_of_ble_eq_true rfl) zv_X12_histories rfl cf_X12 (sh77 j r) ml_L_91 (Nat.le_of_ble_eq_true rfl) (q_dm dm_L_law_11 25 rfl) (fun r92 m93 => ?_)
      refine qr_pop o (q_dm dm_L_law_11 26 rfl) ?_
      refine qr_goto (tgt := 1182) o (q_dm dm_L_law_11 27 rfl) (by decide) ?_
      refine qs_iincl2 (L' := fun x94 => [some (.inr (some 1000)), some (.inr (some 0)), some (.inr (some 77)), some (.inl x94)]) o (q_dm dm_L_law_14 56 rfl) rfl ic_7 (Nat.le_of_ble_eq_true rfl) (fun _ => rfl) (fun x94 => ?_)
      refine qr_goto (tgt := 18) o (q_dm dm_L_law_14 57 rfl) (by decide) ?_
      exact qr_loc (q_leS (q_leS (q_leS (q_leS q_le0)))) (hK18 x94 m93)
    · refine qr_aload_n o (q_dm dm_L_law_11 28 rfl) rfl ?_
      refine qr_aload_n o (q_dm dm_L_law_11 29 rfl) rfl ?_
      refine qr_iload_n o (q_dm dm_L_law_11 30 rfl) rfl ?_
      refine qr_iconst o (q_dm dm_L_law_11 31 rfl) ic_1 ?_
      refine qr_iadd o (q_dm dm_L_law_11 32 rfl) ?_
      refine qr_sald o (q_dm dm_L_law_11 33 rfl) ?_
      refine qr_aload_n o (q_dm dm_L_law_11 34 rfl) rfl ?_
      refine qr_iload_n o (q_dm dm_L_law_11 35 rfl) rfl ?_
      refine qr_iconst o (q_dm dm_L_law_11 36 rfl) ic_2 ?_
      refine qr_iadd o (q_dm dm_L_law_11 37 rfl) ?_
      refine qr_sald o (q_dm dm_L_law_11 38 rfl) ?_
      refine qr_aload_n o (q_dm dm_L_law_11 39 rfl) rfl ?_
      refine qr_iload_n o (q_dm dm_L_law_11 40 rfl) rfl ?_
      refine qr_iconst o (q_dm dm_L_law_11 41 rfl) ic_3 ?_
      refine qr_iadd o (q_dm dm_L_law_11 42 rfl) ?_
      refine qr_sald o (q_dm dm_L_law_11 43 rfl) ?_
      refine qr_aload_n o (q_dm dm_L_law_11 44 rfl) rfl ?_
      refine qr_iload_n o (q_dm dm_L_law_11 45 rfl) rfl ?_
      refine qr_iconst o (q_dm dm_L_law_11 46 rfl) ic_4 ?_
      refine qr_iadd o (q_dm dm_L_law_11 47 rfl) ?_
      refine qr_sald o (q_dm dm_L_law_11 48 rfl) ?_
      refine qr_if_eq (tgt := 946) o (q_dm dm_L_law_11 49 rfl) (by decide) ?_ ?_
      · refine qr_iconst o (q_dm dm_L_law_11 52 rfl) ic_0 ?_
        refine qr_aload_n o (q_dm dm_L_law_11 53 rfl) rfl ?_
        refine qr_iload_n o (q_dm dm_L_law_11 54 rfl) rfl ?_
        refine qr_iconst o (q_dm dm_L_law_11 55 rfl) ic_5 ?_
        refine qr_iadd o (q_dm dm_L_law_11 56 rfl) ?_
        refine qr_sald o (q_dm dm_L_law_11 57 rfl) ?_
        refine qr_if_eq (tgt := 959) o (q_dm dm_L_law_11 58 rfl) (by decide) ?_ ?_
        · refine qr_iconst o (q_dm dm_L_law_12 1 rfl) ic_0 ?_
          refine qr_aload_n o (q_dm dm_L_law_12 2 rfl) rfl ?_
          refine qr_iload_n o (q_dm dm_L_law_12 3 rfl) rfl ?_
          refine qr_bipush o (q_dm dm_L_law_12 4 rfl) bi_6 ?_
          refine qr_iadd o (q_dm dm_L_law_12 5 rfl) ?_
          refine qr_sald o (q_dm dm_L_law_12 6 rfl) ?_
          refine qr_callv_i (As := [.inl (g.2.2.2.2.2.2 (a3 + (1 : Int32)).toNatClampNeg), .inl (g.2.2.2.2.2.2 (a3 + (2 : Int32)).toNatClampNeg), .inl (g.2.2.2.2.2.2 (a3 + (3 : Int32)).toNatClampNeg), .inl (0 : Int32), .inl (0 : Int32), .inl (g.2.2.2.2.2.2 (a3 + (6 : Int32)).toNatClampNeg)]) (S := []) o (a_X11_game g k.2.1 n j r hj hr (g.2.2.2.2.2.2 (a3 + (1 : Int32)).toNatClampNeg) (g.2.2.2.2.2.2 (a3 + (2 : Int32)).toNatClampNeg) (g.2.2.2.2.2.2 (a3 + (3 : Int32)).toNatClampNeg) (0 : Int32) (0 : Int32) (g.2.2.2.2.2.2 (a3 + (6 : Int32)).toNatClampNeg) M) (Nat.le_of_ble_eq_true rfl) zv_X11_game rfl cf_X11 (sh0 j r) ml_L_92 (Nat.le_of_ble_eq_true rfl) (q_dm dm_L_law_12 7 rfl) (fun r95 m96 => ?_)
          refine qr_pop o (q_dm dm_L_law_12 8 rfl) ?_
          refine qr_aload_n o (q_dm dm_L_law_12 9 rfl) rfl ?_
          refine qr_aload_n o (q_dm dm_L_law_12 10 rfl) rfl ?_
          refine qr_iload_n o (q_dm dm_L_law_12 11 rfl) rfl ?_
          refine qr_iconst o (q_dm dm_L_law_12 12 rfl) ic_1 ?_
          refine qr_iadd o (q_dm dm_L_law_12 13 rfl) ?_
          refine qr_sald o (q_dm dm_L_law_12 14 rfl) ?_
          refine qr_aload_n o (q_dm dm_L_law_12 15 rfl) rfl ?_
          refine qr_iload_n o (q_dm dm_L_law_12 16 rfl) rfl ?_
          refine qr_iconst o (q_dm dm_L_law_12 17 rfl) ic_2 ?_
          refine qr_iadd o (q_dm dm_L_law_12 18 rfl) ?_
          refine qr_sald o (q_dm dm_L_law_12 19 rfl) ?_
          refine qr_aload_n o (q_dm dm_L_law_12 20 rfl) rfl ?_
          refine qr_iload_n o (q_dm dm_L_law_12 21 rfl) rfl ?_
          refine qr_iconst o (q_dm dm_L_law_12 22 rfl) ic_3 ?_
          refine qr_iadd o (q_dm dm_L_law_12 23 rfl) ?_
          refine qr_sald o (q_dm dm_L_law_12 24 rfl) ?_
          refine qr_aload_n o (q_dm dm_L_law_12 25 rfl) rfl ?_
          refine qr_iload_n o (q_dm dm_L_law_12 26 rfl) rfl ?_
          refine qr_iconst o (q_dm dm_L_law_12 27 rfl) ic_4 ?_
          refine qr_iadd o (q_dm dm_L_law_12 28 rfl) ?_
          refine qr_sald o (q_dm dm_L_law_12 29 rfl) ?_
          refine qr_if_eq (tgt := 998) o (q_dm dm_L_law_12 30 rfl) (by decide) ?_ ?_
          · refine qr_iconst o (q_dm dm_L_law_12 33 rfl) ic_0 ?_
            refine qr_aload_n o (q_dm dm_L_law_12 34 rfl) rfl ?_
            refine qr_iload_n o (q_dm dm_L_law_12 35 rfl) rfl ?_
            refine qr_iconst o (q_dm dm_L_law_12 36 rfl) ic_5 ?_
            refine qr_iadd o (q_dm dm_L_law_12 37 rfl) ?_
            refine qr_sald o (q_dm dm_L_law_12 38 rfl) ?_
            refine qr_if_eq (tgt := 1011) o (q_dm dm_L_law_12 39 rfl) (by decide) ?_ ?_
            · refine qr_iconst o (q_dm dm_L_law_12 42 rfl) ic_0 ?_
              refine qr_aload_n o (q_dm dm_L_law_12 43 rfl) rfl ?_
              refine qr_iload_n o (q_dm dm_L_law_12 44 rfl) rfl ?_
              refine qr_bipush o (q_dm dm_L_law_12 45 rfl) bi_6 ?_
              refine qr_iadd o (q_dm dm_L_law_12 46 rfl) ?_
              refine qr_sald o (q_dm dm_L_law_12 47 rfl) ?_
              refine qr_callv_i (As := [.inl (g.2.2.2.2.2.2 (a3 + (1 : Int32)).toNatClampNeg), .inl (g.2.2.2.2.2.2 (a3 + (2 : Int32)).toNatClampNeg), .inl (g.2.2.2.2.2.2 (a3 + (3 : Int32)).toNatClampNeg), .inl (0 : Int32), .inl (0 : Int32), .inl (g.2.2.2.2.2.2 (a3 + (6 : Int32)).toNatClampNeg)]) (S := []) o (a_X12_game g k.2.1 n j r hj hr (g.2.2.2.2.2.2 (a3 + (1 : Int32)).toNatClampNeg) (g.2.2.2.2.2.2 (a3 + (2 : Int32)).toNatClampNeg) (g.2.2.2.2.2.2 (a3 + (3 : Int32)).toNatClampNeg) (0 : Int32) (0 : Int32) (g.2.2.2.2.2.2 (a3 + (6 : Int32)).toNatClampNeg) m96) (Nat.le_of_ble_eq_true rfl) zv_X12_game rfl cf_X12 (sh77 j r) ml_L_96 (Nat.le_of_ble_eq_true rfl) (q_dm dm_L_law_12 48 rfl) (fun r97 m98 => ?_)
              refine qr_pop o (q_dm dm_L_law_12 49 rfl) ?_
              refine qr_goto (tgt := 1182) o (q_dm dm_L_law_12 50 rfl) (by decide) ?_
              refine qs_iincl2 (L' := fun x99 => [some (.inr (some 1000)), some (.inr (some 0)), some (.inr (some 77)), some (.inl x99)]) o (q_dm dm_L_law_14 56 rfl) rfl ic_7 (Nat.le_of_ble_eq_true rfl) (fun _ => rfl) (fun x99 => ?_)
              refine qr_goto (tgt := 18) o (q_dm dm_L_law_14 57 rfl) (by decide) ?_
              exact qr_loc (q_leS (q_leS (q_leS (q_leS q_le0)))) (hK18 x99 m98)
            · refine qr_iconst o (q_dm dm_L_law_12 40 rfl) ic_1 ?_
              refine qr_goto (tgt := 1012) o (q_dm dm_L_law_12 41 rfl) (by decide) ?_
              refine qr_aload_n o (q_dm dm_L_law_12 43 rfl) rfl ?_
              refine qr_iload_n o (q_dm dm_L_law_12 44 rfl) rfl ?_
              refine qr_bipush o (q_dm dm_L_law_12 45 rfl) bi_6 ?_
              refine qr_iadd o (q_dm dm_L_law_12 46 rfl) ?_
              refine qr_sald o (q_dm dm_L_law_12 47 rfl) ?_
              refine qr_callv_i (As := [.inl (g.2.2.2.2.2.2 (a3 + (1 : Int32)).toNatClampNeg), .inl (g.2.2.2.2.2.2 (a3 + (2 : Int32)).toNatClampNeg), .inl (g.2.2.2.2.2.2 (a3 + (3 : Int32)).toNatClampNeg), .inl (0 : Int32), .inl (1 : Int32), .inl (g.2.2.2.2.2.2 (a3 + (6 : Int32)).toNatClampNeg)]) (S := []) o (a_X12_game g k.2.1 n j r hj hr (g.2.2.2.2.2.2 (a3 + (1 : Int32)).toNatClampNeg) (g.2.2.2.2.2.2 (a3 + (2 : Int32)).toNatClampNeg) (g.2.2.2.2.2.2 (a3 + (3 : Int32)).toNatClampNeg) (0 : Int32) (1 : Int32) (g.2.2.2.2.2.2 (a3 + (6 : Int32)).toNatClampNeg) m96) (Nat.le_of_ble_eq_true rfl) zv_X12_game rfl cf_X12 (sh77 j r) ml_L_96 (Nat.le_of_ble_eq_true rfl) (q_dm dm_L_law_12 48 rfl) (fun r100 m101 => ?_)
              refine qr_pop o (q_dm dm_L_law_12 49 rfl) ?_
              refine qr_goto (tgt := 1182) o (q_dm dm_L_law_12 50 rfl) (by decide) ?_
              refine qs_iincl2 (L' := fun x102 => [some (.inr (some 1000)), some (.inr (some 0)), some (.inr (some 77)), some (.inl x102)]) o (q_dm dm_L_law_14 56 rfl) rfl ic_7 (Nat.le_of_ble_eq_true rfl) (fun _ => rfl) (fun x102 => ?_)
              refine qr_goto (tgt := 18) o (q_dm dm_L_law_14 57 rfl) (by decide) ?_
              exact qr_loc (q_leS (q_leS (q_leS (q_leS q_le0)))) (hK18 x102 m101)
          · refine qr_iconst o (q_dm dm_L_law_12 31 rfl) ic_1 ?_
            refine qr_goto (tgt := 999) o (q_dm dm_L_law_12 32 rfl) (by decide) ?_
            refine qr_aload_n o (q_dm dm_L_law_12 34 rfl) rfl ?_
            refine qr_iload_n o (q_dm dm_L_law_12 35 rfl) rfl ?_
            refine qr_iconst o (q_dm dm_L_law_12 36 rfl) ic_5 ?_
            refine qr_iadd o (q_dm dm_L_law_12 37 rfl) ?_
            refine qr_sald o (q_dm dm_L_law_12 38 rfl) ?_
            refine qr_if_eq (tgt := 1011) o (q_dm dm_L_law_12 39 rfl) (by decide) ?_ ?_
            · refine qr_iconst o (q_dm dm_L_law_12 42 rfl) ic_0 ?_
              refine qr_aload_n o (q_dm dm_L_law_12 43 rfl) rfl ?_
              refine qr_iload_n o (q_dm dm_L_law_12 44 rfl) rfl ?_
              refine qr_bipush o (q_dm dm_L_law_12 45 rfl) bi_6 ?_
              refine qr_iadd o (q_dm dm_L_law_12 46 rfl) ?_
              refine qr_sald o (q_dm dm_L_law_12 47 rfl) ?_
              refine qr_callv_i (As := [.inl (g.2.2.2.2.2.2 (a3 + (1 : Int32)).toNatClampNeg), .inl (g.2.2.2.2.2.2 (a3 + (2 : Int32)).toNatClampNeg), .inl (g.2.2.2.2.2.2 (a3 + (3 : Int32)).toNatClampNeg), .inl (1 : Int32), .inl (0 : Int32), .inl (g.2.2.2.2.2.2 (a3 + (6 : Int32)).toNatClampNeg)]) (S := []) o (a_X12_game g k.2.1 n j r hj hr (g.2.2.2.2.2.2 (a3 + (1 : Int32)).toNatClampNeg) (g.2.2.2.2.2.2 (a3 + (2 : Int32)).toNatClampNeg) (g.2.2.2.2.2.2 (a3 + (3 : Int32)).toNatClampNeg) (1 : Int32) (0 : Int32) (g.2.2.2.2.2.2 (a3 + (6 : Int32)).toNatClampNeg) m96) (Nat.le_of_ble_eq_true rfl) zv_X12_game rfl cf_X12 (sh77 j r) ml_L_96 (Nat.le_of_ble_eq_true rfl) (q_dm dm_L_law_12 48 rfl) (fun r103 m104 => ?_)
              refine qr_pop o (q_dm dm_L_law_12 49 rfl) ?_
              refine qr_goto (tgt := 1182) o (q_dm dm_L_law_12 50 rfl) (by decide) ?_
              refine qs_iincl2 (L' := fun x105 => [some (.inr (some 1000)), some (.inr (some 0)), some (.inr (some 77)), some (.inl x105)]) o (q_dm dm_L_law_14 56 rfl) rfl ic_7 (Nat.le_of_ble_eq_true rfl) (fun _ => rfl) (fun x105 => ?_)
              refine qr_goto (tgt := 18) o (q_dm dm_L_law_14 57 rfl) (by decide) ?_
              exact qr_loc (q_leS (q_leS (q_leS (q_leS q_le0)))) (hK18 x105 m104)
            · refine qr_iconst o (q_dm dm_L_law_12 40 rfl) ic_1 ?_
              refine qr_goto (tgt := 1012) o (q_dm dm_L_law_12 41 rfl) (by decide) ?_
              refine qr_aload_n o (q_dm dm_L_law_12 43 rfl) rfl ?_
              refine qr_iload_n o (q_dm dm_L_law_12 44 rfl) rfl ?_
              refine qr_bipush o (q_dm dm_L_law_12 45 rfl) bi_6 ?_
              refine qr_iadd o (q_dm dm_L_law_12 46 rfl) ?_
              refine qr_sald o (q_dm dm_L_law_12 47 rfl) ?_
              refine qr_callv_i (As := [.inl (g.2.2.2.2.2.2 (a3 + (1 : Int32)).toNatClampNeg), .inl (g.2.2.2.2.2.2 (a3 + (2 : Int32)).toNatClampNeg), .inl (g.2.2.2.2.2.2 (a3 + (3 : Int32)).toNatClampNeg), .inl (1 : Int32), .inl (1 : Int32), .inl (g.2.2.2.2.2.2 (a3 + (6 : Int32)).toNatClampNeg)]) (S := []) o (a_X12_game g k.2.1 n j r hj hr (g.2.2.2.2.2.2 (a3 + (1 : Int32)).toNatClampNeg) (g.2.2.2.2.2.2 (a3 + (2 : Int32)).toNatClampNeg) (g.2.2.2.2.2.2 (a3 + (3 : Int32)).toNatClampNeg) (1 : Int32) (1 : Int32) (g.2.2.2.2.2.2 (a3 + (6 : Int32)).toNatClampNeg) m96) (Nat.le_of_ble_eq_true rfl) zv_X12_game rfl cf_X12 (sh77 j r) ml_L_96 (Nat.le_of_ble_eq_true rfl) (q_dm dm_L_law_12 48 rfl) (fun r106 m107 => ?_)
              refine qr_pop o (q_dm dm_L_law_12 49 rfl) ?_
              refine qr_goto (tgt := 1182) o (q_dm dm_L_law_12 50 rfl) (by decide) ?_
              refine qs_iincl2 (L' := fun x108 => [some (.inr (some 1000)), some (.inr (some 0)), some (.inr (some 77)), some (.inl x108)]) o (q_dm dm_L_law_14 56 rfl) rfl ic_7 (Nat.le_of_ble_eq_true rfl) (fun _ => rfl) (fun x108 => ?_)
              refine qr_goto (tgt := 18) o (q_dm dm_L_law_14 57 rfl) (by decide) ?_
              exact qr_loc (q_leS (q_leS (q_leS (q_leS q_le0)))) (hK18 x108 m107)
        · refine qr_iconst o (q_dm dm_L_law_11 59 rfl) ic_1 ?_
          refine qr_goto (tgt := 960) o (q_dm dm_L_law_12 0 rfl) (by decide) ?_
          refine qr_aload_n o (q_dm dm_L_law_12 2 rfl) rfl ?_
          refine qr_iload_n o (q_dm dm_L_law_12 3 rfl) rfl ?_
          refine qr_bipush o (q_dm dm_L_law_12 4 rfl) bi_6 ?_
          refine qr_iadd o (q_dm dm_L_law_12 5 rfl) ?_
          refine qr_sald o (q_dm dm_L_law_12 6 rfl) ?_
          refine qr_callv_i (As := [.inl (g.2.2.2.2.2.2 (a3 + (1 : Int32)).toNatClampNeg), .inl (g.2.2.2.2.2.2 (a3 + (2 : Int32)).toNatClampNeg), .inl (g.2.2.2.2.2.2 (a3 + (3 : Int32)).toNatClampNeg), .inl (0 : Int32), .inl (1 : Int32), .inl (g.2.2.2.2.2.2 (a3 + (6 : Int32)).toNatClampNeg)]) (S := []) o (a_X11_game g k.2.1 n j r hj hr (g.2.2.2.2.2.2 (a3 + (1 : Int32)).toNatClampNeg) (g.2.2.2.2.2.2 (a3 + (2 : Int32)).toNatClampNeg) (g.2.2.2.2.2.2 (a3 + (3 : Int32)).toNatClampNeg) (0 : Int32) (1 : Int32) (g.2.2.2.2.2.2 (a3 + (6 : Int32)).toNatClampNeg) M) (Nat.le_of_ble_eq_true rfl) zv_X11_game rfl cf_X11 (sh0 j r) ml_L_92 (Nat.le_of_ble_eq_true rfl) (q_dm dm_L_law_12 7 rfl) (fun r109 m110 => ?_)
          refine qr_pop o (q_dm dm_L_law_12 8 rfl) ?_
          refine qr_aload_n o (q_dm dm_L_law_12 9 rfl) rfl ?_
          refine qr_aload_n o (q_dm dm_L_law_12 10 rfl) rfl ?_
          refine qr_iload_n o (q_dm dm_L_law_12 11 rfl) rfl ?_
          refine qr_iconst o (q_dm dm_L_law_12 12 rfl) ic_1 ?_
          refine qr_iadd o (q_dm dm_L_law_12 13 rfl) ?_
          refine qr_sald o (q_dm dm_L_law_12 14 rfl) ?_
          refine qr_aload_n o (q_dm dm_L_law_12 15 rfl) rfl ?_
          refine qr_iload_n o (q_dm dm_L_law_12 16 rfl) rfl ?_
          refine qr_iconst o (q_dm dm_L_law_12 17 rfl) ic_2 ?_
          refine qr_iadd o (q_dm dm_L_law_12 18 rfl) ?_
          refine qr_sald o (q_dm dm_L_law_12 19 rfl) ?_
          refine qr_aload_n o (q_dm dm_L_law_12 20 rfl) rfl ?_
          refine qr_iload_n o (q_dm dm_L_law_12 21 rfl) rfl ?_
          refine qr_iconst o (q_dm dm_L_law_12 22 rfl) ic_3 ?_
          refine qr_iadd o (q_dm dm_L_law_12 23 rfl) ?_
          refine qr_sald o (q_dm dm_L_law_12 24 rfl) ?_
          refine qr_aload_n o (q_dm dm_L_law_12 25 rfl) rfl ?_
          refine qr_iload_n o (q_dm dm_L_law_12 26 rfl) rfl ?_
          refine qr_iconst o (q_dm dm_L_law_12 27 rfl) ic_4 ?_
          refine qr_iadd o (q_dm dm_L_law_12 28 rfl) ?_
          refine qr_sald o (q_dm dm_L_law_12 29 rfl) ?_
          refine qr_if_eq (tgt := 998) o (q_dm dm_L_law_12 30 rfl) (by decide) ?_ ?_
          · refine qr_iconst o (q_dm dm_L_law_12 33 rfl) ic_0 ?_
            refine qr_aload_n o (q_dm dm_L_law_12 34 rfl) rfl ?_
            refine qr_iload_n o (q_dm dm_L_law_12 35 rfl) rfl ?_
            refine qr_iconst o (q_dm dm_L_law_12 36 rfl) ic_5 ?_
            refine qr_iadd o (q_dm dm_L_law_12 37 rfl) ?_
            refine qr_sald o (q_dm dm_L_law_12 38 rfl) ?_
            refine qr_if_eq (tgt := 1011) o (q_dm dm_L_law_12 39 rfl) (by decide) ?_ ?_
            · refine qr_iconst o (q_dm dm_L_law_12 42 rfl) ic_0 ?_
              refine qr_aload_n o (q_dm dm_L_law_12 43 rfl) rfl ?_
              refine qr_iload_n o (q_dm dm_L_law_12 44 rfl) rfl ?_
              refine qr_bipush o (q_dm dm_L_law_12 45 rfl) bi_6 ?_
              refine qr_iadd o (q_dm dm_L_law_12 46 rfl) ?_
              refine qr_sald o (q_dm dm_L_law_12 47 rfl) ?_
              refine qr_callv_i (As := [.inl (g.2.2.2.2.2.2 (a3 + (1 : Int32)).toNatClampNeg), .inl (g.2.2.2.2.2.2 (a3 + (2 : Int32)).toNatClampNeg), .inl (g.2.2.2.2.2.2 (a3 + (3 : Int32)).toNatClampNeg), .inl (0 : Int32), .inl (0 : Int32), .inl (g.2.2.2.2.2.2 (a3 + (6 : Int32)).toNatClampNeg)]) (S := []) o (a_X12_game g k.2.1 n j r hj hr (g.2.2.2.2.2.2 (a3 + (1 : Int32)).toNatClampNeg) (g.2.2.2.2.2.2 (a3 + (2 : Int32)).toNatClampNeg) (g.2.2.2.2.2.2 (a3 + (3 : Int32)).toNatClampNeg) (0 : Int32) (0 : Int32) (g.2.2.2.2.2.2 (a3 + (6 : Int32)).toNatClampNeg) m110) (Nat.le_of_ble_eq_true rfl) zv_X12_game rfl cf_X12 (sh77 j r) ml_L_96 (Nat.le_of_ble_eq_true rfl) (q_dm dm_L_law_12 48 rfl) (fun r111 m112 => ?_)
              refine qr_pop o (q_dm dm_L_law_12 49 rfl) ?_
              refine qr_goto (tgt := 1182) o (q_dm dm_L_law_12 50 rfl) (by decide) ?_
              refine qs_iincl2 (L' := fun x113 => [some (.inr (some 1000)), some (.inr (some 0)), some (.inr (some 77)), some (.inl x113)]) o (q_dm dm_L_law_14 56 rfl) rfl ic_7 (Nat.le_of_ble_eq_true rfl) (fun _ => rfl) (fun x113 => ?_)
              refine qr_goto (tgt := 18) o (q_dm dm_L_law_14 57 rfl) (by decide) ?_
              exact qr_loc (q_leS (q_leS (q_leS (q_leS q_le0)))) (hK18 x113 m112)
            · refine qr_iconst o (q_dm dm_L_law_12 40 rfl) ic_1 ?_
              refine qr_goto (tgt := 1012) o (q_dm dm_L_law_12 41 rfl) (by decide) ?_
              refine qr_aload_n o (q_dm dm_L_law_12 43 rfl) rfl ?_
              refine qr_iload_n o (q_dm dm_L_law_12 44 rfl) rfl ?_
              refine qr_bipush o (q_dm dm_L_law_12 45 rfl) bi_6 ?_
              refine qr_iadd o (q_dm dm_L_law_12 46 rfl) ?_
              refine qr_sald o (q_dm dm_L_law_12 47 rfl) ?_
              refine qr_callv_i (As := [.inl (g.2.2.2.2.2.2 (a3 + (1 : Int32)).toNatClampNeg), .inl (g.2.2.2.2.2.2 (a3 + (2 : Int32)).toNatClampNeg), .inl (g.2.2.2.2.2.2 (a3 + (3 : Int32)).toNatClampNeg), .inl (0 : Int32), .inl (1 : Int32), .inl (g.2.2.2.2.2.2 (a3 + (6 : Int32)).toNatClampNeg)]) (S := []) o (a_X12_game g k.2.1 n j r hj hr (g.2.2.2.2.2.2 (a3 + (1 : Int32)).toNatClampNeg) (g.2.2.2.2.2.2 (a3 + (2 : Int32)).toNatClampNeg) (g.2.2.2.2.2.2 (a3 + (3 : Int32)).toNatClampNeg) (0 : Int32) (1 : Int32) (g.2.2.2.2.2.2 (a3 + (6 : Int32)).toNatClampNeg) m110) (Nat.le_of_ble_eq_true rfl) zv_X12_game rfl cf_X12 (sh77 j r) ml_L_96 (Nat.le_of_ble_eq_true rfl) (q_dm dm_L_law_12 48 rfl) (fun r114 m115 => ?_)
              refine qr_pop o (q_dm dm_L_law_12 49 rfl) ?_
              refine qr_goto (tgt := 1182) o (q_dm dm_L_law_12 50 rfl) (by decide) ?_
              refine qs_iincl2 (L' := fun x116 => [some (.inr (some 1000)), some (.inr (some 0)), some (.inr (some 77)), some (.inl x116)]) o (q_dm dm_L_law_14 56 rfl) rfl ic_7 (Nat.le_of_ble_eq_true rfl) (fun _ => rfl) (fun x116 => ?_)
              refine qr_goto (tgt := 18) o (q_dm dm_L_law_14 57 rfl) (by decide) ?_
              exact qr_loc (q_leS (q_leS (q_leS (q_leS q_le0)))) (hK18 x116 m115)
          · refine qr_iconst o (q_dm dm_L_law_12 31 rfl) ic_1 ?_
            refine qr_goto (tgt := 999) o (q_dm dm_L_law_12 32 rfl) (by decide) ?_
            refine qr_aload_n o (q_dm dm_L_law_12 34 rfl) rfl ?_
            refine qr_iload_n o (q_dm dm_L_law_12 35 rfl) rfl ?_
            refine qr_iconst o (q_dm dm_L_law_12 36 rfl) ic_5 ?_
            refine qr_iadd o (q_dm dm_L_law_12 37 rfl) ?_
            refine qr_sald o (q_dm dm_L_law_12 38 rfl) ?_
            refine qr_if_eq (tgt := 1011) o (q_dm dm_L_law_12 39 rfl) (by decide) ?_ ?_
            · refine qr_iconst o (q_dm dm_L_law_12 42 rfl) ic_0 ?_
              refine qr_aload_n o (q_dm dm_L_law_12 43 rfl) rfl ?_
              refine qr_iload_n o (q_dm dm_L_law_12 44 rfl) rfl ?_
              refine qr_bipush o (q_dm dm_L_law_12 45 rfl) bi_6 ?_
              refine qr_iadd o (q_dm dm_L_law_12 46 rfl) ?_
              refine qr_sald o (q_dm dm_L_law_12 47 rfl) ?_
              refine qr_callv_i (As := [.inl (g.2.2.2.2.2.2 (a3 + (1 : Int32)).toNatClampNeg), .inl (g.2.2.2.2.2.2 (a3 + (2 : Int32)).toNatClampNeg), .inl (g.2.2.2.2.2.2 (a3 + (3 : Int32)).toNatClampNeg), .inl (1 : Int32), .inl (0 : Int32), .inl (g.2.2.2.2.2.2 (a3 + (6 : Int32)).toNatClampNeg)]) (S := []) o (a_X12_game g k.2.1 n j r hj hr (g.2.2.2.2.2.2 (a3 + (1 : Int32)).toNatClampNeg) (g.2.2.2.2.2.2 (a3 + (2 : Int32)).toNatClampNeg) (g.2.2.2.2.2.2 (a3 + (3 : Int32)).toNatClampNeg) (1 : Int32) (0 : Int32) (g.2.2.2.2.2.2 (a3 + (6 : Int32)).toNatClampNeg) m110) (Nat.le_of_ble_eq_true rfl) zv_X12_game rfl cf_X12 (sh77 j r) ml_L_96 (Nat.le_of_ble_eq_true rfl) (q_dm dm_L_law_12 48 rfl) (fun r117 m118 => ?_)
              refine qr_pop o (q_dm dm_L_law_12 49 rfl) ?_
              refine qr_goto (tgt := 1182) o (q_dm dm_L_law_12 50 rfl) (by decide) ?_
              refine qs_iincl2 (L' := fun x119 => [some (.inr (some 1000)), some (.inr (some 0)), some (.inr (some 77)), some (.inl x119)]) o (q_dm dm_L_law_14 56 rfl) rfl ic_7 (Nat.le_of_ble_eq_true rfl) (fun _ => rfl) (fun x119 => ?_)
              refine qr_goto (tgt := 18) o (q_dm dm_L_law_14 57 rfl) (by decide) ?_
              exact qr_loc (q_leS (q_leS (q_leS (q_leS q_le0)))) (hK18 x119 m118)
            · refine qr_iconst o (q_dm dm_L_law_12 40 rfl) ic_1 ?_
              refine qr_goto (tgt := 1012) o (q_dm dm_L_law_12 41 rfl) (by decide) ?_
              refine qr_aload_n o (q_dm dm_L_law_12 43 rfl) rfl ?_
              refine qr_iload_n o (q_dm dm_L_law_12 44 rfl) rfl ?_
              refine qr_bipush o (q_dm dm_L_law_12 45 rfl) bi_6 ?_
              refine qr_iadd o (q_dm dm_L_law_12 46 rfl) ?_
              refine qr_sald o (q_dm dm_L_law_12 47 rfl) ?_
              refine qr_callv_i (As := [.inl (g.2.2.2.2.2.2 (a3 + (1 : Int32)).toNatClampNeg), .inl (g.2.2.2.2.2.2 (a3 + (2 : Int32)).toNatClampNeg), .inl (g.2.2.2.2.2.2 (a3 + (3 : Int32)).toNatClampNeg), .inl (1 : Int32), .inl (1 : Int32), .inl (g.2.2.2.2.2.2 (a3 + (6 : Int32)).toNatClampNeg)]) (S := []) o (a_X12_game g k.2.1 n j r hj hr (g.2.2.2.2.2.2 (a3 + (1 : Int32)).toNatClampNeg) (g.2.2.2.2.2.2 (a3 + (2 : Int32)).toNatClampNeg) (g.2.2.2.2.2.2 (a3 + (3 : Int32)).toNatClampNeg) (1 : Int32) (1 : Int32) (g.2.2.2.2.2.2 (a3 + (6 : Int32)).toNatClampNeg) m110) (Nat.le_of_ble_eq_true rfl) zv_X12_game rfl cf_X12 (sh77 j r) ml_L_96 (Nat.le_of_ble_eq_true rfl) (q_dm dm_L_law_12 48 rfl) (fun r120 m121 => ?_)
              refine qr_pop o (q_dm dm_L_law_12 49 rfl) ?_
              refine qr_goto (tgt := 1182) o (q_dm dm_L_law_12 50 rfl) (by decide) ?_
              refine qs_iincl2 (L' := fun x122 => [some (.inr (some 1000)), some (.inr (some 0)), some (.inr (some 77)), some (.inl x122)]) o (q_dm dm_L_law_14 56 rfl) rfl ic_7 (Nat.le_of_ble_eq_true rfl) (fun _ => rfl) (fun x122 => ?_)
              refine qr_goto (tgt := 18) o (q_dm dm_L_law_14 57 rfl) (by decide) ?_
              exact qr_loc (q_leS (q_leS (q_leS (q_leS q_le0)))) (hK18 x122 m121)
      · refine qr_iconst o (q_dm dm_L_law_11 50 rfl) ic_1 ?_
        refine qr_goto (tgt := 947) o (q_dm dm_L_law_11 51 rfl) (by decide) ?_
        refine qr_aload_n o (q_dm dm_L_law_11 53 rfl) rfl ?_
        refine qr_iload_n o (q_dm dm_L_law_11 54 rfl) rfl ?_
        refine qr_iconst o (q_dm dm_L_law_11 55 rfl) ic_5 ?_
        refine qr_iadd o (q_dm dm_L_law_11 56 rfl) ?_
        refine qr_sald o (q_dm dm_L_law_11 57 rfl) ?_
        refine qr_if_eq (tgt := 959) o (q_dm dm_L_law_11 58 rfl) (by decide) ?_ ?_
        · refine qr_iconst o (q_dm dm_L_law_12 1 rfl) ic_0 ?_
          refine qr_aload_n o (q_dm dm_L_law_12 2 rfl) rfl ?_
          refine qr_iload_n o (q_dm dm_L_law_12 3 rfl) rfl ?_
          refine qr_bipush o (q_dm dm_L_law_12 4 rfl) bi_6 ?_
          refine qr_iadd o (q_dm dm_L_law_12 5 rfl) ?_
          refine qr_sald o (q_dm dm_L_law_12 6 rfl) ?_
          refine qr_callv_i (As := [.inl (g.2.2.2.2.2.2 (a3 + (1 : Int32)).toNatClampNeg), .inl (g.2.2.2.2.2.2 (a3 + (2 : Int32)).toNatClampNeg), .inl (g.2.2.2.2.2.2 (a3 + (3 : Int32)).toNatClampNeg), .inl (1 : Int32), .inl (0 : Int32), .inl (g.2.2.2.2.2.2 (a3 + (6 : Int32)).toNatClampNeg)]) (S := []) o (a_X11_game g k.2.1 n j r hj hr (g.2.2.2.2.2.2 (a3 + (1 : Int32)).toNatClampNeg) (g.2.2.2.2.2.2 (a3 + (2 : Int32)).toNatClampNeg) (g.2.2.2.2.2.2 (a3 + (3 : Int32)).toNatClampNeg) (1 : Int32) (0 : Int32) (g.2.2.2.2.2.2 (a3 + (6 : Int32)).toNatClampNeg) M) (Nat.le_of_ble_eq_true rfl) zv_X11_game rfl cf_X11 (sh0 j r) ml_L_92 (Nat.le_of_ble_eq_true rfl) (q_dm dm_L_law_12 7 rfl) (fun r123 m124 => ?_)
          refine qr_pop o (q_dm dm_L_law_12 8 rfl) ?_
          refine qr_aload_n o (q_dm dm_L_law_12 9 rfl) rfl ?_
          refine qr_aload_n o (q_dm dm_L_law_12 10 rfl) rfl ?_
          refine qr_iload_n o (q_dm dm_L_law_12 11 rfl) rfl ?_
          refine qr_iconst o (q_dm dm_L_law_12 12 rfl) ic_1 ?_
          refine qr_iadd o (q_dm dm_L_law_12 13 rfl) ?_
          refine qr_sald o (q_dm dm_L_law_12 14 rfl) ?_
          refine qr_aload_n o (q_dm dm_L_law_12 15 rfl) rfl ?_
          refine qr_iload_n o (q_dm dm_L_law_12 16 rfl) rfl ?_
          refine qr_iconst o (q_dm dm_L_law_12 17 rfl) ic_2 ?_
          refine qr_iadd o (q_dm dm_L_law_12 18 rfl) ?_
          refine qr_sald o (q_dm dm_L_law_12 19 rfl) ?_
          refine qr_aload_n o (q_dm dm_L_law_12 20 rfl) rfl ?_
          refine qr_iload_n o (q_dm dm_L_law_12 21 rfl) rfl ?_
          refine qr_iconst o (q_dm dm_L_law_12 22 rfl) ic_3 ?_
          refine qr_iadd o (q_dm dm_L_law_12 23 rfl) ?_
          refine qr_sald o (q_dm dm_L_law_12 24 rfl) ?_
          refine qr_aload_n o (q_dm dm_L_law_12 25 rfl) rfl ?_
          refine qr_iload_n o (q_dm dm_L_law_12 26 rfl) rfl ?_
          refine qr_iconst o (q_dm dm_L_law_12 27 rfl) ic_4 ?_
          refine qr_iadd o (q_dm dm_L_law_12 28 rfl) ?_
          refine qr_sald o (q_dm dm_L_law_12 29 rfl) ?_
          refine qr_if_eq (tgt := 998) o (q_dm dm_L_law_12 30 rfl) (by decide) ?_ ?_
          · refine qr_iconst o (q_dm dm_L_law_12 33 rfl) ic_0 ?_
            refine qr_aload_n o (q_dm dm_L_law_12 34 rfl) rfl ?_
            refine qr_iload_n o (q_dm dm_L_law_12 35 rfl) rfl ?_
            refine qr_iconst o (q_dm dm_L_law_12 36 rfl) ic_5 ?_
            refine qr_iadd o (q_dm dm_L_law_12 37 rfl) ?_
            refine qr_sald o (q_dm dm_L_law_12 38 rfl) ?_
            refine qr_if_eq (tgt := 1011) o (q_dm dm_L_law_12 39 rfl) (by decide) ?_ ?_
            · refine qr_iconst o (q_dm dm_L_law_12 42 rfl) ic_0 ?_
              refine qr_aload_n o (q_dm dm_L_law_12 43 rfl) rfl ?_
              refine qr_iload_n o (q_dm dm_L_law_12 44 rfl) rfl ?_
              refine qr_bipush o (q_dm dm_L_law_12 45 rfl) bi_6 ?_
              refine qr_iadd o (q_dm dm_L_law_12 46 rfl) ?_
              refine qr_sald o (q_dm dm_L_law_12 47 rfl) ?_
              refine qr_callv_i (As := [.inl (g.2.2.2.2.2.2 (a3 + (1 : Int32)).toNatClampNeg), .inl (g.2.2.2.2.2.2 (a3 + (2 : Int32)).toNatClampNeg), .inl (g.2.2.2.2.2.2 (a3 + (3 : Int32)).toNatClampNeg), .inl (0 : Int32), .inl (0 : Int32), .inl (g.2.2.2.2.2.2 (a3 + (6 : Int32)).toNatClampNeg)]) (S := []) o (a_X12_game g k.2.1 n j r hj hr (g.2.2.2.2.2.2 (a3 + (1 : Int32)).toNatClampNeg) (g.2.2.2.2.2.2 (a3 + (2 : Int32)).toNatClampNeg) (g.2.2.2.2.2.2 (a3 + (3 : Int32)).toNatClampNeg) (0 : Int32) (0 : Int32) (g.2.2.2.2.2.2 (a3 + (6 : Int32)).toNatClampNeg) m124) (Nat.le_of_ble_eq_true rfl) zv_X12_game rfl cf_X12 (sh77 j r) ml_L_96 (Nat.le_of_ble_eq_true rfl) (q_dm dm_L_law_12 48 rfl) (fun r125 m126 => ?_)
              refine qr_pop o (q_dm dm_L_law_12 49 rfl) ?_
              refine qr_goto (tgt := 1182) o (q_dm dm_L_law_12 50 rfl) (by decide) ?_
              refine qs_iincl2 (L' := fun x127 => [some (.inr (some 1000)), some (.inr (some 0)), some (.inr (some 77)), some (.inl x127)]) o (q_dm dm_L_law_14 56 rfl) rfl ic_7 (Nat.le_of_ble_eq_true rfl) (fun _ => rfl) (fun x127 => ?_)
              refine qr_goto (tgt := 18) o (q_dm dm_L_law_14 57 rfl) (by decide) ?_
              exact qr_loc (q_leS (q_leS (q_leS (q_leS q_le0)))) (hK18 x127 m126)
            · refine qr_iconst o (q_dm dm_L_law_12 40 rfl) ic_1 ?_
              refine qr_goto (tgt := 1012) o (q_dm dm_L_law_12 41 rfl) (by decide) ?_
              refine qr_aload_n o (q_dm dm_L_law_12 43 rfl) rfl ?_
              refine qr_iload_n o (q_dm dm_L_law_12 44 rfl) rfl ?_
              refine qr_bipush o (q_dm dm_L_law_12 45 rfl) bi_6 ?_
              refine qr_iadd o (q_dm dm_L_law_12 46 rfl) ?_
              refine qr_sald o (q_dm dm_L_law_12 47 rfl) ?_
              refine qr_callv_i (As := [.inl (g.2.2.2.2.2.2 (a3 + (1 : Int32)).toNatClampNeg), .inl (g.2.2.2.2.2.2 (a3 + (2 : Int32)).toNatClampNeg), .inl (g.2.2.2.2.2.2 (a3 + (3 : Int32)).toNatClampNeg), .inl (0 : Int32), .inl (1 : Int32), .inl (g.2.2.2.2.2.2 (a3 + (6 : Int32)).toNatClampNeg)]) (S := []) o (a_X12_game g k.2.1 n j r hj hr (g.2.2.2.2.2.2 (a3 + (1 : Int32)).toNatClampNeg) (g.2.2.2.2.2.2 (a3 + (2 : Int32)).toNatClampNeg) (g.2.2.2.2.2.2 (a3 + (3 : Int32)).toNatClampNeg) (0 : Int32) (1 : Int32) (g.2.2.2.2.2.2 (a3 + (6 : Int32)).toNatClampNeg) m124) (Nat.le_of_ble_eq_true rfl) zv_X12_game rfl cf_X12 (sh77 j r) ml_L_96 (Nat.le_of_ble_eq_true rfl) (q_dm dm_L_law_12 48 rfl) (fun r128 m129 => ?_)
              refine qr_pop o (q_dm dm_L_law_12 49 rfl) ?_
              refine qr_goto (tgt := 1182) o (q_dm dm_L_law_12 50 rfl) (by decide) ?_
              refine qs_iincl2 (L' := fun x130 => [some (.inr (some 1000)), some (.inr (some 0)), some (.inr (some 77)), some (.inl x130)]) o (q_dm dm_L_law_14 56 rfl) rfl ic_7 (Nat.le_of_ble_eq_true rfl) (fun _ => rfl) (fun x130 => ?_)
              refine qr_goto (tgt := 18) o (q_dm dm_L_law_14 57 rfl) (by decide) ?_
              exact qr_loc (q_leS (q_leS (q_leS (q_leS q_le0)))) (hK18 x130 m129)
          · refine qr_iconst o (q_dm dm_L_law_12 31 rfl) ic_1 ?_
            refine qr_goto (tgt := 999) o (q_dm dm_L_law_12 32 rfl) (by decide) ?_
            refine qr_aload_n o (q_dm dm_L_law_12 34 rfl) rfl ?_
            refine qr_iload_n o (q_dm dm_L_law_12 35 rfl) rfl ?_
            refine qr_iconst o (q_dm dm_L_law_12 36 rfl) ic_5 ?_
            refine qr_iadd o (q_dm dm_L_law_12 37 rfl) ?_
            refine qr_sald o (q_dm dm_L_law_12 38 rfl) ?_
            refine qr_if_eq (tgt := 1011) o (q_dm dm_L_law_12 39 rfl) (by decide) ?_ ?_
            · refine qr_iconst o (q_dm dm_L_law_12 42 rfl) ic_0 ?_
              refine qr_aload_n o (q_dm dm_L_law_12 43 rfl) rfl ?_
              refine qr_iload_n o (q_dm dm_L_law_12 44 rfl) rfl ?_
              refine qr_bipush o (q_dm dm_L_law_12 45 rfl) bi_6 ?_
              refine qr_iadd o (q_dm dm_L_law_12 46 rfl) ?_
              refine qr_sald o (q_dm dm_L_law_12 47 rfl) ?_
              refine qr_callv_i (As := [.inl (g.2.2.2.2.2.2 (a3 + (1 : Int32)).toNatClampNeg), .inl (g.2.2.2.2.2.2 (a3 + (2 : Int32)).toNatClampNeg), .inl (g.2.2.2.2.2.2 (a3 + (3 : Int32)).toNatClampNeg), .inl (1 : Int32), .inl (0 : Int32), .inl (g.2.2.2.2.2.2 (a3 + (6 : Int32)).toNatClampNeg)]) (S := []) o (a_X12_game g k.2.1 n j r hj hr (g.2.2.2.2.2.2 (a3 + (1 : Int32)).toNatClampNeg) (g.2.2.2.2.2.2 (a3 + (2 : Int32)).toNatClampNeg) (g.2.2.2.2.2.2 (a3 + (3 : Int32)).toNatClampNeg) (1 : Int32) (0 : Int32) (g.2.2.2.2.2.2 (a3 + (6 : Int32)).toNatClampNeg) m124) (Nat.le_of_ble_eq_true rfl) zv_X12_game rfl cf_X12 (sh77 j r) ml_L_96 (Nat.le_of_ble_eq_true rfl) (q_dm dm_L_law_12 48 rfl) (fun r131 m132 => ?_)
              refine qr_pop o (q_dm dm_L_law_12 49 rfl) ?_
              refine qr_goto (tgt := 1182) o (q_dm dm_L_law_12 50 rfl) (by decide) ?_
              refine qs_iincl2 (L' := fun x133 => [some (.inr (some 1000)), some (.inr (some 0)), some (.inr (some 77)), some (.inl x133)]) o (q_dm dm_L_law_14 56 rfl) rfl ic_7 (Nat.le_of_ble_eq_true rfl) (fun _ => rfl) (fun x133 => ?_)
              refine qr_goto (tgt := 18) o (q_dm dm_L_law_14 57 rfl) (by decide) ?_
              exact qr_loc (q_leS (q_leS (q_leS (q_leS q_le0)))) (hK18 x133 m132)
            · refine qr_iconst o (q_dm dm_L_law_12 40 rfl) ic_1 ?_
              refine qr_goto (tgt := 1012) o (q_dm dm_L_law_12 41 rfl) (by decide) ?_
              refine qr_aload_n o (q_dm dm_L_law_12 43 rfl) rfl ?_
              refine qr_iload_n o (q_dm dm_L_law_12 44 rfl) rfl ?_
              refine qr_bipush o (q_dm dm_L_law_12 45 rfl) bi_6 ?_
              refine qr_iadd o (q_dm dm_L_law_12 46 rfl) ?_
              refine qr_sald o (q_dm dm_L_law_12 47 rfl) ?_
              refine qr_callv_i (As := [.inl (g.2.2.2.2.2.2 (a3 + (1 : Int32)).toNatClampNeg), .inl (g.2.2.2.2.2.2 (a3 + (2 : Int32)).toNatClampNeg), .inl (g.2.2.2.2.2.2 (a3 + (3 : Int32)).toNatClampNeg), .inl (1 : Int32), .inl (1 : Int32), .inl (g.2.2.2.2.2.2 (a3 + (6 : Int32)).toNatClampNeg)]) (S := []) o (a_X12_game g k.2.1 n j r hj hr (g.2.2.2.2.2.2 (a3 + (1 : Int32)).toNatClampNeg) (g.2.2.2.2.2.2 (a3 + (2 : Int32)).toNatClampNeg) (g.2.2.2.2.2.2 (a3 + (3 : Int32)).toNatClampNeg) (1 : Int32) (1 : Int32) (g.2.2.2.2.2.2 (a3 + (6 : Int32)).toNatClampNeg) m124) (Nat.le_of_ble_eq_true rfl) zv_X12_game rfl cf_X12 (sh77 j r) ml_L_96 (Nat.le_of_ble_eq_true rfl) (q_dm dm_L_law_12 48 rfl) (fun r134 m135 => ?_)
              refine qr_pop o (q_dm dm_L_law_12 49 rfl) ?_
              refine qr_goto (tgt := 1182) o (q_dm dm_L_law_12 50 rfl) (by decide) ?_
              refine qs_iincl2 (L' := fun x136 => [some (.inr (some 1000)), some (.inr (some 0)), some (.inr (some 77)), some (.inl x136)]) o (q_dm dm_L_law_14 56 rfl) rfl ic_7 (Nat.le_of_ble_eq_true rfl) (fun _ => rfl) (fun x136 => ?_)
              refine qr_goto (tgt := 18) o (q_dm dm_L_law_14 57 rfl) (by decide) ?_
              exact qr_loc (q_leS (q_leS (q_leS (q_leS q_le0)))) (hK18 x136 m135)
        · refine qr_iconst o (q_dm dm_L_law_11 59 rfl) ic_1 ?_
          refine qr_goto (tgt := 960) o (q_dm dm_L_law_12 0 rfl) (by decide) ?_
          refine qr_aload_n o (q_dm dm_L_law_12 2 rfl) rfl ?_
          refine qr_iload_n o (q_dm dm_L_law_12 3 rfl) rfl ?_
          refine qr_bipush o (q_dm dm_L_law_12 4 rfl) bi_6 ?_
          refine qr_iadd o (q_dm dm_L_law_12 5 rfl) ?_
          refine qr_sald o (q_dm dm_L_law_12 6 rfl) ?_
          refine qr_callv_i (As := [.inl (g.2.2.2.2.2.2 (a3 + (1 : Int32)).toNatClampNeg), .inl (g.2.2.2.2.2.2 (a3 + (2 : Int32)).toNatClampNeg), .inl (g.2.2.2.2.2.2 (a3 + (3 : Int32)).toNatClampNeg), .inl (1 : Int32), .inl (1 : Int32), .inl (g.2.2.2.2.2.2 (a3 + (6 : Int32)).toNatClampNeg)]) (S := []) o (a_X11_game g k.2.1 n j r hj hr (g.2.2.2.2.2.2 (a3 + (1 : Int32)).toNatClampNeg) (g.2.2.2.2.2.2 (a3 + (2 : Int32)).toNatClampNeg) (g.2.2.2.2.2.2 (a3 + (3 : Int32)).toNatClampNeg) (1 : Int32) (1 : Int32) (g.2.2.2.2.2.2 (a3 + (6 : Int32)).toNatClampNeg) M) (Nat.le_of_ble_eq_true rfl) zv_X11_game rfl cf_X11 (sh0 j r) ml_L_92 (Nat.le_of_ble_eq_true rfl) (q_dm dm_L_law_12 7 rfl) (fun r137 m138 => ?_)
          refine qr_pop o (q_dm dm_L_law_12 8 rfl) ?_
          refine qr_aload_n o (q_dm dm_L_law_12 9 rfl) rfl ?_
          refine qr_aload_n o (q_dm dm_L_law_12 10 rfl) rfl ?_
          refine qr_iload_n o (q_dm dm_L_law_12 11 rfl) rfl ?_
          refine qr_iconst o (q_dm dm_L_law_12 12 rfl) ic_1 ?_
          refine qr_iadd o (q_dm dm_L_law_12 13 rfl) ?_
          refine qr_sald o (q_dm dm_L_law_12 14 rfl) ?_
          refine qr_aload_n o (q_dm dm_L_law_12 15 rfl) rfl ?_
          refine qr_iload_n o (q_dm dm_L_law_12 16 rfl) rfl ?_
          refine qr_iconst o (q_dm dm_L_law_12 17 rfl) ic_2 ?_
          refine qr_iadd o (q_dm dm_L_law_12 18 rfl) ?_
          refine qr_sald o (q_dm dm_L_law_12 19 rfl) ?_
          refine qr_aload_n o (q_dm dm_L_law_12 20 rfl) rfl ?_
          refine qr_iload_n o (q_dm dm_L_law_12 21 rfl) rfl ?_
          refine qr_iconst o (q_dm dm_L_law_12 22 rfl) ic_3 ?_
          refine qr_iadd o (q_dm dm_L_law_12 23 rfl) ?_
          refine qr_sald o (q_dm dm_L_law_12 24 rfl) ?_
          refine qr_aload_n o (q_dm dm_L_law_12 25 rfl) rfl ?_
          refine qr_iload_n o (q_dm dm_L_law_12 26 rfl) rfl ?_
          refine qr_iconst o (q_dm dm_L_law_12 27 rfl) ic_4 ?_
          refine qr_iadd o (q_dm dm_L_law_12 28 rfl) ?_
          refine qr_sald o (q_dm dm_L_law_12 29 rfl) ?_
          refine qr_if_eq (tgt := 998) o (q_dm dm_L_law_12 30 rfl) (by decide) ?_ ?_
          · refine qr_iconst o (q_dm dm_L_law_12 33 rfl) ic_0 ?_
            refine qr_aload_n o (q_dm dm_L_law_12 34 rfl) rfl ?_
            refine qr_iload_n o (q_dm dm_L_law_12 35 rfl) rfl ?_
            refine qr_iconst o (q_dm dm_L_law_12 36 rfl) ic_5 ?_
            refine qr_iadd o (q_dm dm_L_law_12 37 rfl) ?_
            refine qr_sald o (q_dm dm_L_law_12 38 rfl) ?_
            refine qr_if_eq (tgt := 1011) o (q_dm dm_L_law_12 39 rfl) (by decide) ?_ ?_
            · refine qr_iconst o (q_dm dm_L_law_12 42 rfl) ic_0 ?_
              refine qr_aload_n o (q_dm dm_L_law_12 43 rfl) rfl ?_
              refine qr_iload_n o (q_dm dm_L_law_12 44 rfl) rfl ?_
              refine qr_bipush o (q_dm dm_L_law_12 45 rfl) bi_6 ?_
              refine qr_iadd o (q_dm dm_L_law_12 46 rfl) ?_
              refine qr_sald o (q_dm dm_L_law_12 47 rfl) ?_
              refine qr_callv_i (As := [.inl (g.2.2.2.2.2.2 (a3 + (1 : Int32)).toNatClampNeg), .inl (g.2.2.2.2.2.2 (a3 + (2 : Int32)).toNatClampNeg), .inl (g.2.2.2.2.2.2 (a3 + (3 : Int32)).toNatClampNeg), .inl (0 : Int32), .inl (0 : Int32), .inl (g.2.2.2.2.2.2 (a3 + (6 : Int32)).toNatClampNeg)]) (S := []) o (a_X12_game g k.2.1 n j r hj hr (g.2.2.2.2.2.2 (a3 + (1 : Int32)).toNatClampNeg) (g.2.2.2.2.2.2 (a3 + (2 : Int32)).toNatClampNeg) (g.2.2.2.2.2.2 (a3 + (3 : Int32)).toNatClampNeg) (0 : Int32) (0 : Int32) (g.2.2.2.2.2.2 (a3 + (6 : Int32)).toNatClampNeg) m138) (Nat.le_of_ble_eq_true rfl) zv_X12_game rfl cf_X12 (sh77 j r) ml_L_96 (Nat.le_of_ble_eq_true rfl) (q_dm dm_L_law_12 48 rfl) (fun r139 m140 => ?_)
              refine qr_pop o (q_dm dm_L_law_12 49 rfl) ?_
              refine qr_goto (tgt := 1182) o (q_dm dm_L_law_12 50 rfl) (by decide) ?_
              refine qs_iincl2 (L' := fun x141 => [some (.inr (some 1000)), some (.inr (some 0)), some (.inr (some 77)), some (.inl x141)]) o (q_dm dm_L_law_14 56 rfl) rfl ic_7 (Nat.le_of_ble_eq_true rfl) (fun _ => rfl) (fun x141 => ?_)
              refine qr_goto (tgt := 18) o (q_dm dm_L_law_14 57 rfl) (by decide) ?_
              exact qr_loc (q_leS (q_leS (q_leS (q_leS q_le0)))) (hK18 x141 m140)
            · refine qr_iconst o (q_dm dm_L_law_12 40 rfl) ic_1 ?_
              refine qr_goto (tgt := 1012) o (q_dm dm_L_law_12 41 rfl) (by decide) ?_
              refine qr_aload_n o (q_dm dm_L_law_12 43 rfl) rfl ?_
              refine qr_iload_n o (q_dm dm_L_law_12 44 rfl) rfl ?_
              refine qr_bipush o (q_dm dm_L_law_12 45 rfl) bi_6 ?_
              refine qr_iadd o (q_dm dm_L_law_12 46 rfl) ?_
              refine qr_sald o (q_dm dm_L_law_12 47 rfl) ?_
              refine qr_callv_i (As := [.inl (g.2.2.2.2.2.2 (a3 + (1 : Int32)).toNatClampNeg), .inl (g.2.2.2.2.2.2 (a3 + (2 : Int32)).toNatClampNeg), .inl (g.2.2.2.2.2.2 (a3 + (3 : Int32)).toNatClampNeg), .inl (0 : Int32), .inl (1 : Int32), .inl (g.2.2.2.2.2.2 (a3 + (6 : Int32)).toNatClampNeg)]) (S := []) o (a_X12_game g k.2.1 n j r hj hr (g.2.2.2.2.2.2 (a3 + (1 : Int32)).toNatClampNeg) (g.2.2.2.2.2.2 (a3 + (2 : Int32)).toNatClampNeg) (g.2.2.2.2.2.2 (a3 + (3 : Int32)).toNatClampNeg) (0 : Int32) (1 : Int32) (g.2.2.2.2.2.2 (a3 + (6 : Int32)).toNatClampNeg) m138) (Nat.le_of_ble_eq_true rfl) zv_X12_game rfl cf_X12 (sh77 j r) ml_L_96 (Nat.le_of_ble_eq_true rfl) (q_dm dm_L_law_12 48 rfl) (fun r142 m143 => ?_)
              refine qr_pop o (q_dm dm_L_law_12 49 rfl) ?_
              refine qr_goto (tgt := 1182) o (q_dm dm_L_law_12 50 rfl) (by decide) ?_
              refine qs_iincl2 (L' := fun x144 => [some (.inr (some 1000)), some (.inr (some 0)), some (.inr (some 77)), some (.inl x144)]) o (q_dm dm_L_law_14 56 rfl) rfl ic_7 (Nat.le_of_ble_eq_true rfl) (fun _ => rfl) (fun x144 => ?_)
              refine qr_goto (tgt := 18) o (q_dm dm_L_law_14 57 rfl) (by decide) ?_
              exact qr_loc (q_leS (q_leS (q_leS (q_leS q_le0)))) (hK18 x144 m143)
          · refine qr_iconst o (q_dm dm_L_law_12 31 rfl) ic_1 ?_
            refine qr_goto (tgt := 999) o (q_dm dm_L_law_12 32 rfl) (by decide) ?_
            refine qr_aload_n o (q_dm dm_L_law_12 34 rfl) rfl ?_
            refine qr_iload_n o (q_dm dm_L_law_12 35 rfl) rfl ?_
            refine qr_iconst o (q_dm dm_L_law_12 36 rfl) ic_5 ?_
            refine qr_iadd o (q_dm dm_L_law_12 37 rfl) ?_
            refine qr_sald o (q_dm dm_L_law_12 38 rfl) ?_
            refine qr_if_eq (tgt := 1011) o (q_dm dm_L_law_12 39 rfl) (by decide) ?_ ?_
            · refine qr_iconst o (q_dm dm_L_law_12 42 rfl) ic_0 ?_
              refine qr_aload_n o (q_dm dm_L_law_12 43 rfl) rfl ?_
              refine qr_iload_n o (q_dm dm_L_law_12 44 rfl) rfl ?_
              refine qr_bipush o (q_dm dm_L_law_12 45 rfl) bi_6 ?_
              refine qr_iadd o (q_dm dm_L_law_12 46 rfl) ?_
              refine qr_sald o (q_dm dm_L_law_12 47 rfl) ?_
              refine qr_callv_i (As := [.inl (g.2.2.2.2.2.2 (a3 + (1 : Int32)).toNatClampNeg), .inl (g.2.2.2.2.2.2 (a3 + (2 : Int32)).toNatClampNeg), .inl (g.2.2.2.2.2.2 (a3 + (3 : Int32)).toNatClampNeg), .inl (1 : Int32), .inl (0 : Int32), .inl (g.2.2.2.2.2.2 (a3 + (6 : Int32)).toNatClampNeg)]) (S := []) o (a_X12_game g k.2.1 n j r hj hr (g.2.2.2.2.2.2 (a3 + (1 : Int32)).toNatClampNeg) (g.2.2.2.2.2.2 (a3 + (2 : Int32)).toNatClampNeg) (g.2.2.2.2.2.2 (a3 + (3 : Int32)).toNatClampNeg) (1 : Int32) (0 : Int32) (g.2.2.2.2.2.2 (a3 + (6 : Int32)).toNatClampNeg) m138) (Nat.le_of_ble_eq_true rfl) zv_X12_game rfl cf_X12 (sh77 j r) ml_L_96 (Nat.le_of_ble_eq_true rfl) (q_dm dm_L_law_12 48 rfl) (fun r145 m146 => ?_)
              refine qr_pop o (q_dm dm_L_law_12 49 rfl) ?_
              refine qr_goto (tgt := 1182) o (q_dm dm_L_law_12 50 rfl) (by decide) ?_
              refine qs_iincl2 (L' := fun x147 => [some (.inr (some 1000)), some (.inr (some 0)), some (.inr (some 77)), some (.inl x147)]) o (q_dm dm_L_law_14 56 rfl) rfl ic_7 (Nat.le_of_ble_eq_true rfl) (fun _ => rfl) (fun x147 => ?_)
              refine qr_goto (tgt := 18) o (q_dm dm_L_law_14 57 rfl) (by decide) ?_
              exact qr_loc (q_leS (q_leS (q_leS (q_leS q_le0)))) (hK18 x147 m146)
            · refine qr_iconst o (q_dm dm_L_law_12 40 rfl) ic_1 ?_
              refine qr_goto (tgt := 1012) o (q_dm dm_L_law_12 41 rfl) (by decide) ?_
              refine qr_aload_n o (q_dm dm_L_law_12 43 rfl) rfl ?_
              refine qr_iload_n o (q_dm dm_L_law_12 44 rfl) rfl ?_
              refine qr_bipush o (q_dm dm_L_law_12 45 rfl) bi_6 ?_
              refine qr_iadd o (q_dm dm_L_law_12 46 rfl) ?_
              refine qr_sald o (q_dm dm_L_law_12 47 rfl) ?_
              refine qr_callv_i (As := [.inl (g.2.2.2.2.2.2 (a3 + (1 : Int32)).toNatClampNeg), .inl (g.2.2.2.2.2.2 (a3 + (2 : Int32)).toNatClampNeg), .inl (g.2.2.2.2.2.2 (a3 + (3 : Int32)).toNatClampNeg), .inl (1 : Int32), .inl (1 : Int32), .inl (g.2.2.2.2.2.2 (a3 + (6 : Int32)).toNatClampNeg)]) (S := []) o (a_X12_game g k.2.1 n j r hj hr (g.2.2.2.2.2.2 (a3 + (1 : Int32)).toNatClampNeg) (g.2.2.2.2.2.2 (a3 + (2 : Int32)).toNatClampNeg) (g.2.2.2.2.2.2 (a3 + (3 : Int32)).toNatClampNeg) (1 : Int32) (1 : Int32) (g.2.2.2.2.2.2 (a3 + (6 : Int32)).toNatClampNeg) m138) (Nat.le_of_ble_eq_true rfl) zv_X12_game rfl cf_X12 (sh77 j r) ml_L_96 (Nat.le_of_ble_eq_true rfl) (q_dm dm_L_law_12 48 rfl) (fun r148 m149 => ?_)
              refine qr_pop o (q_dm dm_L_law_12 49 rfl) ?_
              refine qr_goto (tgt := 1182) o (q_dm dm_L_law_12 50 rfl) (by decide) ?_
              refine qs_iincl2 (L' := fun x150 => [some (.inr (some 1000)), some (.inr (some 0)), some (.inr (some 77)), some (.inl x150)]) o (q_dm dm_L_law_14 56 rfl) rfl ic_7 (Nat.le_of_ble_eq_true rfl) (fun _ => rfl) (fun x150 => ?_)
              refine qr_goto (tgt := 18) o (q_dm dm_L_law_14 57 rfl) (by decide) ?_
              exact qr_loc (q_leS (q_leS (q_leS (q_leS q_le0)))) (hK18 x150 m149)
    · refine qr_aload_n o (q_dm dm_L_law_12 51 rfl) rfl ?_
      refine qr_aload_n o (q_dm dm_L_law_12 52 rfl) rfl ?_
      refine qr_iload_n o (q_dm dm_L_law_12 53 rfl) rfl ?_
      refine qr_iconst o (q_dm dm_L_law_12 54 rfl) ic_1 ?_
      refine qr_iadd o (q_dm dm_L_law_12 55 rfl) ?_
      refine qr_sald o (q_dm dm_L_law_12 56 rfl) ?_
      refine qr_aload_n o (q_dm dm_L_law_12 57 rfl) rfl ?_
      refine qr_iload_n o (q_dm dm_L_law_12 58 rfl) rfl ?_
      refine qr_iconst o (q_dm dm_L_law_12 59 rfl) ic_2 ?_
      refine qr_iadd o (q_dm dm_L_law_13 0 rfl) ?_
      refine qr_sald o (q_dm dm_L_law_13 1 rfl) ?_
      refine qr_aload_n o (q_dm dm_L_law_13 2 rfl) rfl ?_
      refine qr_iload_n o (q_dm dm_L_law_13 3 rfl) rfl ?_
      refine qr_iconst o (q_dm dm_L_law_13 4 rfl) ic_3 ?_
      refine qr_iadd o (q_dm dm_L_law_13 5 rfl) ?_
      refine qr_sald o (q_dm dm_L_law_13 6 rfl) ?_
      refine qr_aload_n o (q_dm dm_L_law_13 7 rfl) rfl ?_
      refine qr_iload_n o (q_dm dm_L_law_13 8 rfl) rfl ?_
      refine qr_iconst o (q_dm dm_L_law_13 9 rfl) ic_4 ?_
      refine qr_iadd o (q_dm dm_L_law_13 10 rfl) ?_
      refine qr_sald o (q_dm dm_L_law_13 11 rfl) ?_
      refine qr_aload_n o (q_dm dm_L_law_13 12 rfl) rfl ?_
      refine qr_iload_n o (q_dm dm_L_law_13 13 rfl) rfl ?_
      refine qr_iconst o (q_dm dm_L_law_13 14 rfl) ic_5 ?_
      refine qr_iadd o (q_dm dm_L_law_13 15 rfl) ?_
      refine qr_sald o (q_dm dm_L_law_13 16 rfl) ?_
      refine qr_aload_n o (q_dm dm_L_law_13 17 rfl) rfl ?_
      refine qr_iload_n o (q_dm dm_L_law_13 18 rfl) rfl ?_
      refine qr_bipush o (q_dm dm_L_law_13 19 rfl) bi_6 ?_
      refine qr_iadd o (q_dm dm_L_law_13 20 rfl) ?_
      refine qr_sald o (q_dm dm_L_law_13 21 rfl) ?_
      refine qr_callv_i (As := [.inl (g.2.2.2.2.2.2 (a3 + (1 : Int32)).toNatClampNeg), .inl (g.2.2.2.2.2.2 (a3 + (2 : Int32)).toNatClampNeg), .inl (g.2.2.2.2.2.2 (a3 + (3 : Int32)).toNatClampNeg), .inl (g.2.2.2.2.2.2 (a3 + (4 : Int32)).toNatClampNeg), .inl (g.2.2.2.2.2.2 (a3 + (5 : Int32)).toNatClampNeg), .inl (g.2.2.2.2.2.2 (a3 + (6 : Int32)).toNatClampNeg)]) (S := []) o (a_X11_court g k.2.1 n j r hj hr (g.2.2.2.2.2.2 (a3 + (1 : Int32)).toNatClampNeg) (g.2.2.2.2.2.2 (a3 + (2 : Int32)).toNatClampNeg) (g.2.2.2.2.2.2 (a3 + (3 : Int32)).toNatClampNeg) (g.2.2.2.2.2.2 (a3 + (4 : Int32)).toNatClampNeg) (g.2.2.2.2.2.2 (a3 + (5 : Int32)).toNatClampNeg) (g.2.2.2.2.2.2 (a3 + (6 : Int32)).toNatClampNeg) M) (Nat.le_of_ble_eq_true rfl) zv_X11_court rfl cf_X11 (sh0 j r) ml_L_97 (Nat.le_of_ble_eq_true rfl) (q_dm dm_L_law_13 22 rfl) (fun r151 m152 => ?_)
      refine qr_pop o (q_dm dm_L_law_13 23 rfl) ?_
      refine qr_aload_n o (q_dm dm_L_law_13 24 rfl) rfl ?_
      refine qr_aload_n o (q_dm dm_L_law_13 25 rfl) rfl ?_
      refine qr_iload_n o (q_dm dm_L_law_13 26 rfl) rfl ?_
      refine qr_iconst o (q_dm dm_L_law_13 27 rfl) ic_1 ?_
      refine qr_iadd o (q_dm dm_L_law_13 28 rfl) ?_
      refine qr_sald o (q_dm dm_L_law_13 29 rfl) ?_
      refine qr_aload_n o (q_dm dm_L_law_13 30 rfl) rfl ?_
      refine qr_iload_n o (q_dm dm_L_law_13 31 rfl) rfl ?_
      refine qr_iconst o (q_dm dm_L_law_13 32 rfl) ic_2 ?_
      refine qr_iadd o (q_dm dm_L_law_13 33 rfl) ?_
      refine qr_sald o (q_dm dm_L_law_13 34 rfl) ?_
      refine qr_aload_n o (q_dm dm_L_law_13 35 rfl) rfl ?_
      refine qr_iload_n o (q_dm dm_L_law_13 36 rfl) rfl ?_
      refine qr_iconst o (q_dm dm_L_law_13 37 rfl) ic_3 ?_
      refine qr_iadd o (q_dm dm_L_law_13 38 rfl) ?_
      refine qr_sald o (q_dm dm_L_law_13 39 rfl) ?_
      refine qr_aload_n o (q_dm dm_L_law_13 40 rfl) rfl ?_
      refine qr_iload_n o (q_dm dm_L_law_13 41 rfl) rfl ?_
      refine qr_iconst o (q_dm dm_L_law_13 42 rfl) ic_4 ?_
      refine qr_iadd o (q_dm dm_L_law_13 43 rfl) ?_
      refine qr_sald o (q_dm dm_L_law_13 44 rfl) ?_
      refine qr_aload_n o (q_dm dm_L_law_13 45 rfl) rfl ?_
      refine qr_iload_n o (q_dm dm_L_law_13 46 rfl) rfl ?_
      refine qr_iconst o (q_dm dm_L_law_13 47 rfl) ic_5 ?_
      refine qr_iadd o (q_dm dm_L_law_13 48 rfl) ?_
      refine qr_sald o (q_dm dm_L_law_13 49 rfl) ?_
      refine qr_aload_n o (q_dm dm_L_law_13 50 rfl) rfl ?_
      refine qr_iload_n o (q_dm dm_L_law_13 51 rfl) rfl ?_
      refine qr_bipush o (q_dm dm_L_law_13 52 rfl) bi_6 ?_
      refine qr_iadd o (q_dm dm_L_law_13 53 rfl) ?_
      refine qr_sald o (q_dm dm_L_law_13 54 rfl) ?_
      refine qr_callv_i (As := [.inl (g.2.2.2.2.2.2 (a3 + (1 : Int32)).toNatClampNeg), .inl (g.2.2.2.2.2.2 (a3 + (2 : Int32)).toNatClampNeg), .inl (g.2.2.2.2.2.2 (a3 + (3 : Int32)).toNatClampNeg), .inl (g.2.2.2.2.2.2 (a3 + (4 : Int32)).toNatClampNeg), .inl (g.2.2.2.2.2.2 (a3 + (5 : Int32)).toNatClampNeg), .inl (g.2.2.2.2.2.2 (a3 + (6 : Int32)).toNatClampNeg)]) (S := []) o (a_X12_court g k.2.1 n j r hj hr (g.2.2.2.2.2.2 (a3 + (1 : Int32)).toNatClampNeg) (g.2.2.2.2.2.2 (a3 + (2 : Int32)).toNatClampNeg) (g.2.2.2.2.2.2 (a3 + (3 : Int32)).toNatClampNeg) (g.2.2.2.2.2.2 (a3 + (4 : Int32)).toNatClampNeg) (g.2.2.2.2.2.2 (a3 + (5 : Int32)).toNatClampNeg) (g.2.2.2.2.2.2 (a3 + (6 : Int32)).toNatClampNeg) m152) (Nat.le_of_ble_eq_true rfl) zv_X12_court rfl cf_X12 (sh77 j r) ml_L_101 (Nat.le_of_ble_eq_true rfl) (q_dm dm_L_law_13 55 rfl) (fun r153 m154 => ?_)
      refine qr_pop o (q_dm dm_L_law_13 56 rfl) ?_
      refine qr_goto (tgt := 1182) o (q_dm dm_L_law_13 57 rfl) (by decide) ?_
      refine qs_iincl2 (L' := fun x155 => [some (.inr (some 1000)), some (.inr (some 0)), some (.inr (some 77)), some (.inl x155)]) o (q_dm dm_L_law_14 56 rfl) rfl ic_7 (Nat.le_of_ble_eq_true rfl) (fun _ => rfl) (fun x155 => ?_)
      refine qr_goto (tgt := 18) o (q_dm dm_L_law_14 57 rfl) (by decide) ?_
      exact qr_loc (q_leS (q_leS (q_leS (q_leS q_le0)))) (hK18 x155 m154)
    · refine qr_aload_n o (q_dm dm_L_law_13 58 rfl) rfl ?_
      refine qr_callv_i (As := []) (S := []) o (a_X11_keep g k.2.1 n j r hj hr  M) (Nat.le_of_ble_eq_true rfl) zv_X11_keep rfl cf_X11 (sh0 j r) ml_L_102 (Nat.le_of_ble_eq_true rfl) (q_dm dm_L_law_13 59 rfl) (fun r156 m157 => ?_)
      refine qr_pop o (q_dm dm_L_law_14 0 rfl) ?_
      refine qr_aload_n o (q_dm dm_L_law_14 1 rfl) rfl ?_
      refine qr_callv_i (As := []) (S := []) o (a_X12_keep g k.2.1 n j r hj hr  m157) (Nat.le_of_ble_eq_true rfl) zv_X12_keep rfl cf_X12 (sh77 j r) ml_L_106 (Nat.le_of_ble_eq_true rfl) (q_dm dm_L_law_14 2 rfl) (fun r158 m159 => ?_)
      refine qr_pop o (q_dm dm_L_law_14 3 rfl) ?_
      refine qr_goto (tgt := 1182) o (q_dm dm_L_law_14 4 rfl) (by decide) ?_
      refine qs_iincl2 (L' := fun x160 => [some (.inr (some 1000)), some (.inr (some 0)), some (.inr (some 77)), some (.inl x160)]) o (q_dm dm_L_law_14 56 rfl) rfl ic_7 (Nat.le_of_ble_eq_true rfl) (fun _ => rfl) (fun x160 => ?_)
      refine qr_goto (tgt := 18) o (q_dm dm_L_law_14 57 rfl) (by decide) ?_
      exact qr_loc (q_leS (q_leS (q_leS (q_leS q_le0)))) (hK18 x160 m159)
    · refine qr_aload_n o (q_dm dm_L_law_14 5 rfl) rfl ?_
      refine qr_callv_i (As := []) (S := []) o (a_X11_undo g k.2.1 n j r hj hr  M) (Nat.le_of_ble_eq_true rfl) zv_X11_undo rfl cf_X11 (sh0 j r) ml_L_107 (Nat.le_of_ble_eq_true rfl) (q_dm dm_L_law_14 6 rfl) (fun r161 m162 => ?_)
      refine qr_pop o (q_dm dm_L_law_14 7 rfl) ?_
      refine qr_aload_n o (q_dm dm_L_law_14 8 rfl) rfl ?_
      refine qr_callv_i (As := []) (S := []) o (a_X12_undo g k.2.1 n j r hj hr  m162) (Nat.le_of_ble_eq_true rfl) zv_X12_undo rfl cf_X12 (sh77 j r) ml_L_111 (Nat.le_of_ble_eq_true rfl) (q_dm dm_L_law_14 9 rfl) (fun r163 m164 => ?_)
      refine qr_pop o (q_dm dm_L_law_14 10 rfl) ?_
      refine qr_goto (tgt := 1182) o (q_dm dm_L_law_14 11 rfl) (by decide) ?_
      refine qs_iincl2 (L' := fun x165 => [some (.inr (some 1000)), some (.inr (some 0)), some (.inr (some 77)), some (.inl x165)]) o (q_dm dm_L_law_14 56 rfl) rfl ic_7 (Nat.le_of_ble_eq_true rfl) (fun _ => rfl) (fun x165 => ?_)
      refine qr_goto (tgt := 18) o (q_dm dm_L_law_14 57 rfl) (by decide) ?_
      exact qr_loc (q_leS (q_leS (q_leS (q_leS q_le0)))) (hK18 x165 m164)
    · refine qr_aload_n o (q_dm dm_L_law_14 12 rfl) rfl ?_
      refine qr_aload_n o (q_dm dm_L_law_14 13 rfl) rfl ?_
      refine qr_iload_n o (q_dm dm_L_law_14 14 rfl) rfl ?_
      refine qr_iconst o (q_dm dm_L_law_14 15 rfl) ic_1 ?_
      refine qr_iadd o (q_dm dm_L_law_14 16 rfl) ?_
      refine qr_sald o (q_dm dm_L_law_14 17 rfl) ?_
      refine qr_aload_n o (q_dm dm_L_law_14 18 rfl) rfl ?_
      refine qr_iload_n o (q_dm dm_L_law_14 19 rfl) rfl ?_
      refine qr_iconst o (q_dm dm_L_law_14 20 rfl) ic_2 ?_
      refine qr_iadd o (q_dm dm_L_law_14 21 rfl) ?_
      refine qr_sald o (q_dm dm_L_law_14 22 rfl) ?_
      refine qr_callv_i (As := [.inl (g.2.2.2.2.2.2 (a3 + (1 : Int32)).toNatClampNeg), .inl (g.2.2.2.2.2.2 (a3 + (2 : Int32)).toNatClampNeg)]) (S := []) o (a_X11_check g k.2.1 n j r hj hr (g.2.2.2.2.2.2 (a3 + (1 : Int32)).toNatClampNeg) (g.2.2.2.2.2.2 (a3 + (2 : Int32)).toNatClampNeg) M) (Nat.le_of_ble_eq_true rfl) zv_X11_check rfl cf_X11 (sh0 j r) ml_L_112 (Nat.le_of_ble_eq_true rfl) (q_dm dm_L_law_14 23 rfl) (fun r166 m167 => ?_)
      refine qr_pop o (q_dm dm_L_law_14 24 rfl) ?_
      refine qr_aload_n o (q_dm dm_L_law_14 25 rfl) rfl ?_
      refine qr_aload_n o (q_dm dm_L_law_14 26 rfl) rfl ?_
      refine qr_iload_n o (q_dm dm_L_law_14 27 rfl) rfl ?_
      refine qr_iconst o (q_dm dm_L_law_14 28 rfl) ic_1 ?_
      refine qr_iadd o (q_dm dm_L_law_14 29 rfl) ?_
      refine qr_sald o (q_dm dm_L_law_14 30 rfl) ?_
      refine qr_aload_n o (q_dm dm_L_law_14 31 rfl) rfl ?_
      refine qr_iload_n o (q_dm dm_L_law_14 32 rfl) rfl ?_
      refine qr_iconst o (q_dm dm_L_law_14 33 rfl) ic_2 ?_
      refine qr_iadd o (q_dm dm_L_law_14 34 rfl) ?_
      refine qr_sald o (q_dm dm_L_law_14 35 rfl) ?_
      refine qr_callv_i (As := [.inl (g.2.2.2.2.2.2 (a3 + (1 : Int32)).toNatClampNeg), .inl (g.2.2.2.2.2.2 (a3 + (2 : Int32)).toNatClampNeg)]) (S := []) o (a_X12_check g k.2.1 n j r hj hr (g.2.2.2.2.2.2 (a3 + (1 : Int32)).toNatClampNeg) (g.2.2.2.2.2.2 (a3 + (2 : Int32)).toNatClampNeg) m167) (Nat.le_of_ble_eq_true rfl) zv_X12_check rfl cf_X12 (sh77 j r) ml_L_115 (Nat.le_of_ble_eq_true rfl) (q_dm dm_L_law_14 36 rfl) (fun r168 m169 => ?_)
      refine qr_pop o (q_dm dm_L_law_14 37 rfl) ?_
      refine qr_goto (tgt := 1182) o (q_dm dm_L_law_14 38 rfl) (by decide) ?_
      refine qs_iincl2 (L' := fun x170 => [some (.inr (some 1000)), some (.inr (some 0)), some (.inr (some 77)), some (.inl x170)]) o (q_dm dm_L_law_14 56 rfl) rfl ic_7 (Nat.le_of_ble_eq_true rfl) (fun _ => rfl) (fun x170 => ?_)
      refine qr_goto (tgt := 18) o (q_dm dm_L_law_14 57 rfl) (by decide) ?_
      exact qr_loc (q_leS (q_leS (q_leS (q_leS q_le0)))) (hK18 x170 m169)
    · refine qr_aload_n o (q_dm dm_L_law_14 39 rfl) rfl ?_
      refine qr_aload_n o (q_dm dm_L_law_14 40 rfl) rfl ?_
      refine qr_iload_n o (q_dm dm_L_law_14 41 rfl) rfl ?_
      refine qr_iconst o (q_dm dm_L_law_14 42 rfl) ic_1 ?_
      refine qr_iadd o (q_dm dm_L_law_14 43 rfl) ?_
      refine qr_sald o (q_dm dm_L_law_14 44 rfl) ?_
      refine qr_callv_i (As := [.inl (g.2.2.2.2.2.2 (a3 + (1 : Int32)).toNatClampNeg)]) (S := []) o (a_X11_count g k.2.1 n j r hj hr (g.2.2.2.2.2.2 (a3 + (1 : Int32)).toNatClampNeg) M) (Nat.le_of_ble_eq_true rfl) zv_X11_count rfl cf_X11 (sh0 j r) ml_L_116 (Nat.le_of_ble_eq_true rfl) (q_dm dm_L_law_14 45 rfl) (fun r171 m172 => ?_)
      refine qr_pop o (q_dm dm_L_law_14 46 rfl) ?_
      refine qr_aload_n o (q_dm dm_L_law_14 47 rfl) rfl ?_
      refine qr_aload_n o (q_dm dm_L_law_14 48 rfl) rfl ?_
      refine qr_iload_n o (q_dm dm_L_law_14 49 rfl) rfl ?_
      refine qr_iconst o (q_dm dm_L_law_14 50 rfl) ic_1 ?_
      refine qr_iadd o (q_dm dm_L_law_14 51 rfl) ?_
      refine qr_sald o (q_dm dm_L_law_14 52 rfl) ?_
      refine qr_callv_i (As := [.inl (g.2.2.2.2.2.2 (a3 + (1 : Int32)).toNatClampNeg)]) (S := []) o (a_X12_count g k.2.1 n j r hj hr (g.2.2.2.2.2.2 (a3 + (1 : Int32)).toNatClampNeg) m172) (Nat.le_of_ble_eq_true rfl) zv_X12_count rfl cf_X12 (sh77 j r) ml_L_119 (Nat.le_of_ble_eq_true rfl) (q_dm dm_L_law_14 53 rfl) (fun r173 m174 => ?_)
      refine qr_pop o (q_dm dm_L_law_14 54 rfl) ?_
      refine qr_goto (tgt := 1182) o (q_dm dm_L_law_14 55 rfl) (by decide) ?_
      refine qs_iincl2 (L' := fun x175 => [some (.inr (some 1000)), some (.inr (some 0)), some (.inr (some 77)), some (.inl x175)]) o (q_dm dm_L_law_14 56 rfl) rfl ic_7 (Nat.le_of_ble_eq_true rfl) (fun _ => rfl) (fun x175 => ?_)
      refine qr_goto (tgt := 18) o (q_dm dm_L_law_14 57 rfl) (by decide) ?_
      exact qr_loc (q_leS (q_leS (q_leS (q_leS q_le0)))) (hK18 x175 m174)

def f_L_law (g : qG) (n : Nat) : Nat → Nat → Nat → Int32 → qM → qR
  | 0, _, _, _, _ => none
  | m + 1, j, r, a3, M => b_L_law g n j r (f_L_law g n m j r) (f_L_law g n m r j) a3 M
theorem w_L_law {g : qG} {k : qK} (hR : ∀ (Z : List qSh) (M : qM), qRT g k zL_law 1 (Z, M)) (n : Nat) (o : qOk g 68 zL_law k) : ∀ (m : Nat) (Z : List qSh) (j r : Nat), q_isLaw j → q_isLaw r → ∀ (a3 : Int32) (M : qM), qAE g k zL_law Z 18 [some (.inr (some 1000)), some (.inr (some 0)), some (.inr (some 77)), some (.inl a3)] [] (qL j r, M) (f_L_law g n m j r a3 M) := by
  intro m
  induction m with
  | zero =>
    intro Z j r hj hr a3 M
    exact qr_none
  | succ m ih =>
    intro Z j r hj hr a3 M
    exact wb_L_law hR n j r hj hr o (f_L_law g n m j r) (f_L_law g n m r j) (ih Z j r hj hr) (ih Z r j hr hj) a3 M
