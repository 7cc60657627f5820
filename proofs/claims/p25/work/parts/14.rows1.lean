section ER1
variable {a0 a1 a2 a3 a4 a5 a6 a7 a8 a9 a10 a11 a12 a13 a14 a15 a16 a17 a18 a19 s0 s1 s2 s3 s4 s5 s6 s7 : Value} {x y x0 x1 x2 x3 x4 x5 x6 x7 y0 y1 y2 y3 y4 y5 y6 y7 : Int32} {z z2 z0 z1 z2 z3 : Int64} {t u t0 t1 t2 t3 r0 r1 r2 r3 r4 r5 r6 r7 : Nat} {ls st : List Value} {h : fb_H} {Q : Option Value → fb_H → Prop}

end ER1
