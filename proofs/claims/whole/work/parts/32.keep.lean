set_option maxRecDepth 100000 in
theorem w_X4_keep_0 {ex : sm_O} {d n : Nat} {y : sm_Y} {I : Nat → Nat → Int32} {L : Nat → Nat → Int64} {R : Nat → Nat → Option Nat} {Q : sm_Q} {w1 : Option Value} {w2 : Option Value} {w3 : Option Value} {a0 : Nat} (ho0 : ok4 y R a0) (h1 : 1 ≤ d) (k : if (I a0 1) < 16 then (sm_W ex d 0 0 23 32 [some (.ref a0), w1, w2, w3] [] (n, y, I, L, R) Q) else (sm_W ex d 0 0 23 32 [some (.ref a0), w1, w2, w3] [] (n, y, sm_st (sm_cp I (a0 + 1) (12 : Int32).toNatClampNeg (a0 + 1) (0 : Int32).toNatClampNeg (180 : Int32).toNatClampNeg) a0 1 15, L, R) Q)) : sm_W ex d 0 0 23 0 [some (.ref a0), w1, w2, w3] [] (n, y, I, L, R) Q := sm_in (sm_in (And.intro (ok4_y0 ho0) (sm_in (sm_in (And.intro (fun c1 => have k1t := Eq.mp (if_pos c1) k; k1t) (fun c1 => have k1f := Eq.mp (if_neg c1) k; sm_in (sm_in (And.intro (ok4_y0 ho0) (sm_gfr rfl (ok4_r0 ho0) (sm_in (sm_in (sm_in (And.intro (ok4_y0 ho0) (sm_gfr rfl (ok4_r0 ho0) (sm_in (sm_in (sm_in (And.intro h1 (And.intro (Nat.le_of_ble_eq_true rfl) (Exists.intro 192 (Exists.intro 192 (And.intro (ok4_a1 ho0) (And.intro (ok4_a1 ho0) (And.intro (by decide) (And.intro (by decide) (And.intro (by decide) (And.intro (by decide) (And.intro (by decide) (sm_in (sm_in (sm_in (And.intro (ok4_y0 ho0) (k1f)))))))))))))))))))))))))))))))))
set_option maxRecDepth 100000 in
theorem w_X4_keep_32 {ex : sm_O} {d n : Nat} {y : sm_Y} {I : Nat → Nat → Int32} {L : Nat → Nat → Int64} {R : Nat → Nat → Option Nat} {Q : sm_Q} {w3 : Option Value} {a0 : Nat} {a1 : Int32} {a2 : Nat} (ho0 : ok4 y R a0) (k : vp_in ((I a0 1) * 12) 192 ∧ sm_W ex d 0 0 23 47 [some (.ref a0), some (.int a1), some (.ref a2), some (.int ((I a0 1) * 12))] [] (n, y, sm_st I (a0 + 1) (((I a0 1) * 12).toNatClampNeg) a1, L, R) Q) : sm_W ex d 0 0 23 32 [some (.ref a0), some (.int a1), some (.ref a2), w3] [] (n, y, I, L, R) Q := sm_in (sm_in (And.intro (ok4_y0 ho0) (sm_in (sm_in (sm_in (And.intro (Nat.le_of_ble_eq_true rfl) (sm_in (sm_in (And.intro (ok4_y0 ho0) (sm_gfr rfl (ok4_r0 ho0) (sm_in (sm_in ((have e1 := k.1; have k1 := k.2; sm_in (Exists.intro 192 (And.intro (ok4_a1 ho0) (And.intro e1 (k1))))))))))))))))))
set_option maxRecDepth 100000 in
theorem w_X4_keep_47 {ex : sm_O} {d n : Nat} {y : sm_Y} {I : Nat → Nat → Int32} {L : Nat → Nat → Int64} {R : Nat → Nat → Option Nat} {Q : sm_Q} {w1 : Option Value} {a0 : Nat} {a2 : Nat} {a3 : Int32} (ho0 : ok4 y R a0) (ho1 : ok9 y R a2) (k : vp_in (a3 + 1) 192 ∧ sm_W ex d 0 0 23 59 [some (.ref a0), w1, some (.ref a2), some (.int a3)] [] (n, y, sm_st I (a0 + 1) ((a3 + 1).toNatClampNeg) (I a2 6), L, R) Q) : sm_W ex d 0 0 23 47 [some (.ref a0), w1, some (.ref a2), some (.int a3)] [] (n, y, I, L, R) Q := sm_in (sm_in (And.intro (ok4_y0 ho0) (sm_gfr rfl (ok4_r0 ho0) (sm_in (sm_in (sm_in (sm_in (sm_in (And.intro (ok9_y0 ho1) ((have e1 := k.1; have k1 := k.2; sm_in (Exists.intro 192 (And.intro (ok4_a1 ho0) (And.intro e1 (k1)))))))))))))))
set_option maxRecDepth 100000 in
theorem w_X4_keep_59 {ex : sm_O} {d n : Nat} {y : sm_Y} {I : Nat → Nat → Int32} {L : Nat → Nat → Int64} {R : Nat → Nat → Option Nat} {Q : sm_Q} {w1 : Option Value} {a0 : Nat} {a2 : Nat} {a3 : Int32} (ho0 : ok4 y R a0) (ho1 : ok9 y R a2) (k : vp_in (a3 + 2) 192 ∧ sm_W ex d 0 0 23 71 [some (.ref a0), w1, some (.ref a2), some (.int a3)] [] (n, y, sm_st I (a0 + 1) ((a3 + 2).toNatClampNeg) (I a2 7), L, R) Q) : sm_W ex d 0 0 23 59 [some (.ref a0), w1, some (.ref a2), some (.int a3)] [] (n, y, I, L, R) Q := sm_in (sm_in (And.intro (ok4_y0 ho0) (sm_gfr rfl (ok4_r0 ho0) (sm_in (sm_in (sm_in (sm_in (sm_in (And.intro (ok9_y0 ho1) ((have e1 := k.1; have k1 := k.2; sm_in (Exists.intro 192 (And.intro (ok4_a1 ho0) (And.intro e1 (k1)))))))))))))))
set_option maxRecDepth 100000 in
theorem w_X4_keep_71 {ex : sm_O} {d n : Nat} {y : sm_Y} {I : Nat → Nat → Int32} {L : Nat → Nat → Int64} {R : Nat → Nat → Option Nat} {Q : sm_Q} {w1 : Option Value} {a0 : Nat} {a2 : Nat} {a3 : Int32} (ho0 : ok4 y R a0) (ho1 : ok9 y R a2) (k : vp_in (a3 + 3) 192 ∧ sm_W ex d 0 0 23 83 [some (.ref a0), w1, some (.ref a2), some (.int a3)] [] (n, y, sm_st I (a0 + 1) ((a3 + 3).toNatClampNeg) (I a2 5), L, R) Q) : sm_W ex d 0 0 23 71 [some (.ref a0), w1, some (.ref a2), some (.int a3)] [] (n, y, I, L, R) Q := sm_in (sm_in (And.intro (ok4_y0 ho0) (sm_gfr rfl (ok4_r0 ho0) (sm_in (sm_in (sm_in (sm_in (sm_in (And.intro (ok9_y0 ho1) ((have e1 := k.1; have k1 := k.2; sm_in (Exists.intro 192 (And.intro (ok4_a1 ho0) (And.intro e1 (k1)))))))))))))))
set_option maxRecDepth 100000 in
theorem w_X4_keep_83 {ex : sm_O} {d n : Nat} {y : sm_Y} {I : Nat → Nat → Int32} {L : Nat → Nat → Int64} {R : Nat → Nat → Option Nat} {Q : sm_Q} {w1 : Option Value} {a0 : Nat} {a2 : Nat} {a3 : Int32} (ho0 : ok4 y R a0) (ho1 : ok9 y R a2) (k : vp_in (a3 + 4) 192 ∧ sm_W ex d 0 0 23 97 [some (.ref a0), w1, some (.ref a2), some (.int a3)] [] (n, y, sm_st I (a0 + 1) ((a3 + 4).toNatClampNeg) (I (a2 + 4) 0), L, R) Q) : sm_W ex d 0 0 23 83 [some (.ref a0), w1, some (.ref a2), some (.int a3)] [] (n, y, I, L, R) Q := sm_in (sm_in (And.intro (ok4_y0 ho0) (sm_gfr rfl (ok4_r0 ho0) (sm_in (sm_in (sm_in (sm_in (sm_in (And.intro (ok9_y0 ho1) (sm_gfr rfl (ok9_r3 ho1) (sm_in (sm_in (Exists.intro 4 (And.intro (ok9_a4 ho1) (And.intro (sm_lin (by decide)) ((have e1 := k.1; have k1 := k.2; sm_in (Exists.intro 192 (And.intro (ok4_a1 ho0) (And.intro e1 (k1)))))))))))))))))))))
set_option maxRecDepth 100000 in
theorem w_X4_keep_97 {ex : sm_O} {d n : Nat} {y : sm_Y} {I : Nat → Nat → Int32} {L : Nat → Nat → Int64} {R : Nat → Nat → Option Nat} {Q : sm_Q} {w1 : Option Value} {a0 : Nat} {a2 : Nat} {a3 : Int32} (ho0 : ok9 y R a2) (ho1 : ok4 y R a0) (h1 : 1 ≤ d) (k : ¬ (a3 + 5) < 0 ∧ (a3 + 5).toNatClampNeg + (7 : Int32).toNatClampNeg ≤ 192 ∧ sm_W ex d 0 0 23 114 [some (.ref a0), w1, some (.ref a2), some (.int a3)] [] (n, y, sm_cp I (a2 + 3) (0 : Int32).toNatClampNeg (a0 + 1) (a3 + 5).toNatClampNeg (7 : Int32).toNatClampNeg, L, R) Q) : sm_W ex d 0 0 23 97 [some (.ref a0), w1, some (.ref a2), some (.int a3)] [] (n, y, I, L, R) Q := sm_in (sm_in (And.intro (ok9_y0 ho0) (sm_gfr rfl (ok9_r2 ho0) (sm_in (sm_in (sm_in (And.intro (ok4_y0 ho1) (sm_gfr rfl (ok4_r0 ho1) (sm_in (sm_in (sm_in (sm_in ((have e1 := k.1; have k1 := k.2; (have e2 := k1.1; have k2 := k1.2; sm_in (And.intro h1 (And.intro (Nat.le_of_ble_eq_true rfl) (Exists.intro 7 (Exists.intro 192 (And.intro (ok9_a3 ho0) (And.intro (ok4_a1 ho1) (And.intro (by decide) (And.intro e1 (And.intro (by decide) (And.intro (by decide) (And.intro e2 (k2)))))))))))))))))))))))))))
set_option maxRecDepth 100000 in
theorem w_X4_keep_114 {ex : sm_O} {d n : Nat} {y : sm_Y} {I : Nat → Nat → Int32} {L : Nat → Nat → Int64} {R : Nat → Nat → Option Nat} {Q : sm_Q} {w1 : Option Value} {w2 : Option Value} {w3 : Option Value} {a0 : Nat} (ho0 : ok4 y R a0) (k : Q none (n, y, sm_st I a0 1 ((I a0 1) + 1), L, R)) : sm_W ex d 0 0 23 114 [some (.ref a0), w1, w2, w3] [] (n, y, I, L, R) Q := sm_in (sm_in (And.intro rfl (sm_in (And.intro (ok4_y0 ho0) (sm_in (sm_in (sm_in (And.intro (ok4_y0 ho0) (sm_in (And.intro rfl (And.intro rfl k)))))))))))
set_option maxRecDepth 100000 in
theorem w_X4_takeBack_0 {ex : sm_O} {d n : Nat} {y : sm_Y} {I : Nat → Nat → Int32} {L : Nat → Nat → Int64} {R : Nat → Nat → Option Nat} {Q : sm_Q} {w2 : Option Value} {a0 : Nat} {a1 : Nat} (ho0 : ok4 y R a0) (k : if (I a0 1) = 0 then (Q (some (.int (-1))) (n, y, I, L, R)) else (sm_W ex d 0 0 24 27 [some (.ref a0), some (.ref a1), some (.int (((sm_st I a0 1 ((I a0 1) - 1)) a0 1) * 12))] [] (n, y, sm_st I a0 1 ((I a0 1) - 1), L, R) Q)) : sm_W ex d 0 0 24 0 [some (.ref a0), some (.ref a1), w2] [] (n, y, I, L, R) Q := sm_in (sm_in (And.intro (ok4_y0 ho0) (sm_in (And.intro (fun c1 => have k1f := Eq.mp (if_neg c1) k; sm_in (sm_in (And.intro rfl (sm_in (And.intro (ok4_y0 ho0) (sm_in (sm_in (sm_in (And.intro (ok4_y0 ho0) (sm_in (sm_in (And.intro (ok4_y0 ho0) (sm_in (sm_in (sm_in (And.intro (Nat.le_of_ble_eq_true rfl) (k1f))))))))))))))))) (fun c1 => have k1t := Eq.mp (if_pos c1) k; sm_in (sm_in (And.intro rfl k1t)))))))
set_option maxRecDepth 100000 in
theorem w_X4_takeBack_27 {ex : sm_O} {d n : Nat} {y : sm_Y} {I : Nat → Nat → Int32} {L : Nat → Nat → Int64} {R : Nat → Nat → Option Nat} {Q : sm_Q} {a0 : Nat} {a1 : Nat} {a2 : Int32} (ho0 : ok4 y R a0) (ho1 : ok9 y R a1) (k : vp_in (a2 + 1) 192 ∧ sm_W ex d 0 0 24 39 [some (.ref a0), some (.ref a1), some (.int a2)] [] (n, y, sm_st I a1 6 (I (a0 + 1) (a2 + 1).toNatClampNeg), L, R) Q) : sm_W ex d 0 0 24 27 [some (.ref a0), some (.ref a1), some (.int a2)] [] (n, y, I, L, R) Q := sm_in (sm_in (sm_in (And.intro (ok4_y0 ho0) (sm_gfr rfl (ok4_r0 ho0) (sm_in (sm_in (sm_in ((have e1 := k.1; have k1 := k.2; sm_in (Exists.intro 192 (And.intro (ok4_a1 ho0) (And.intro e1 (sm_in (And.intro (ok9_y0 ho1) (k1)))))))))))))))
set_option maxRecDepth 100000 in
theorem w_X4_takeBack_39 {ex : sm_O} {d n : Nat} {y : sm_Y} {I : Nat → Nat → Int32} {L : Nat → Nat → Int64} {R : Nat → Nat → Option Nat} {Q : sm_Q} {a0 : Nat} {a1 : Nat} {a2 : Int32} (ho0 : ok4 y R a0) (ho1 : ok9 y R a1) (k : vp_in (a2 + 2) 192 ∧ sm_W ex d 0 0 24 51 [some (.ref a0), some (.ref a1), some (.int a2)] [] (n, y, sm_st I a1 7 (I (a0 + 1) (a2 + 2).toNatClampNeg), L, R) Q) : sm_W ex d 0 0 24 39 [some (.ref a0), some (.ref a1), some (.int a2)] [] (n, y, I, L, R) Q := sm_in (sm_in (sm_in (And.intro (ok4_y0 ho0) (sm_gfr rfl (ok4_r0 ho0) (sm_in (sm_in (sm_in ((have e1 := k.1; have k1 := k.2; sm_in (Exists.intro 192 (And.intro (ok4_a1 ho0) (And.intro e1 (sm_in (And.intro (ok9_y0 ho1) (k1)))))))))))))))
set_option maxRecDepth 100000 in
theorem w_X4_takeBack_51 {ex : sm_O} {d n : Nat} {y : sm_Y} {I : Nat → Nat → Int32} {L : Nat → Nat → Int64} {R : Nat → Nat → Option Nat} {Q : sm_Q} {a0 : Nat} {a1 : Nat} {a2 : Int32} (ho0 : ok4 y R a0) (ho1 : ok9 y R a1) (k : vp_in (a2 + 3) 192 ∧ sm_W ex d 0 0 24 63 [some (.ref a0), some (.ref a1), some (.int a2)] [] (n, y, sm_st I a1 5 (I (a0 + 1) (a2 + 3).toNatClampNeg), L, R) Q) : sm_W ex d 0 0 24 51 [some (.ref a0), some (.ref a1), some (.int a2)] [] (n, y, I, L, R) Q := sm_in (sm_in (sm_in (And.intro (ok4_y0 ho0) (sm_gfr rfl (ok4_r0 ho0) (sm_in (sm_in (sm_in ((have e1 := k.1; have k1 := k.2; sm_in (Exists.intro 192 (And.intro (ok4_a1 ho0) (And.intro e1 (sm_in (And.intro (ok9_y0 ho1) (k1)))))))))))))))
set_option maxRecDepth 100000 in
theorem w_X4_takeBack_63 {ex : sm_O} {d n : Nat} {y : sm_Y} {I : Nat → Nat → Int32} {L : Nat → Nat → Int64} {R : Nat → Nat → Option Nat} {Q : sm_Q} {a0 : Nat} {a1 : Nat} {a2 : Int32} (ho0 : ok9 y R a1) (ho1 : ok4 y R a0) (k : vp_in (a2 + 4) 192 ∧ sm_W ex d 0 0 24 77 [some (.ref a0), some (.ref a1), some (.int a2)] [] (n, y, sm_st I (a1 + 4) 0 (I (a0 + 1) (a2 + 4).toNatClampNeg), L, R) Q) : sm_W ex d 0 0 24 63 [some (.ref a0), some (.ref a1), some (.int a2)] [] (n, y, I, L, R) Q := sm_in (sm_in (And.intro (ok9_y0 ho0) (sm_gfr rfl (ok9_r3 ho0) (sm_in (sm_in (sm_in (And.intro (ok4_y0 ho1) (sm_gfr rfl (ok4_r0 ho1) (sm_in (sm_in (sm_in ((have e1 := k.1; have k1 := k.2; sm_in (Exists.intro 192 (And.intro (ok4_a1 ho1) (And.intro e1 (sm_in (Exists.intro 4 (And.intro (ok9_a4 ho0) (And.intro (sm_lin (by decide)) (k1)))))))))))))))))))))
set_option maxRecDepth 100000 in
theorem w_X4_takeBack_77 {ex : sm_O} {d n : Nat} {y : sm_Y} {I : Nat → Nat → Int32} {L : Nat → Nat → Int64} {R : Nat → Nat → Option Nat} {Q : sm_Q} {a0 : Nat} {a1 : Nat} {a2 : Int32} (ho0 : ok4 y R a0) (ho1 : ok9 y R a1) (h1 : 1 ≤ d) (k : ¬ (a2 + 5) < 0 ∧ (a2 + 5).toNatClampNeg + (7 : Int32).toNatClampNeg ≤ 192 ∧ sm_W ex d 0 0 24 94 [some (.ref a0), some (.ref a1), some (.int a2)] [] (n, y, sm_cp I (a0 + 1) (a2 + 5).toNatClampNeg (a1 + 3) (0 : Int32).toNatClampNeg (7 : Int32).toNatClampNeg, L, R) Q) : sm_W ex d 0 0 24 77 [some (.ref a0), some (.ref a1), some (.int a2)] [] (n, y, I, L, R) Q := sm_in (sm_in (And.intro (ok4_y0 ho0) (sm_gfr rfl (ok4_r0 ho0) (sm_in (sm_in (sm_in (sm_in (sm_in (And.intro (ok9_y0 ho1) (sm_gfr rfl (ok9_r2 ho1) (sm_in (sm_in ((have e1 := k.1; have k1 := k.2; (have e2 := k1.1; have k2 := k1.2; sm_in (And.intro h1 (And.intro (Nat.le_of_ble_eq_true rfl) (Exists.intro 192 (Exists.intro 7 (And.intro (ok4_a1 ho0) (And.intro (ok9_a3 ho1) (And.intro e1 (And.intro (by decide) (And.intro (by decide) (And.intro e2 (And.intro (by decide) (k2)))))))))))))))))))))))))))
set_option maxRecDepth 100000 in
theorem w_X4_takeBack_94 {ex : sm_O} {d n : Nat} {y : sm_Y} {I : Nat → Nat → Int32} {L : Nat → Nat → Int64} {R : Nat → Nat → Option Nat} {Q : sm_Q} {w1 : Option Value} {a0 : Nat} {a2 : Int32} (ho0 : ok4 y R a0) (k : vp_in a2 192 ∧ Q (some (.int (I (a0 + 1) a2.toNatClampNeg))) (n, y, I, L, R)) : sm_W ex d 0 0 24 94 [some (.ref a0), w1, some (.int a2)] [] (n, y, I, L, R) Q := sm_in (sm_in (And.intro (ok4_y0 ho0) (sm_gfr rfl (ok4_r0 ho0) (sm_in ((have e1 := k.1; have k1 := k.2; sm_in (Exists.intro 192 (And.intro (ok4_a1 ho0) (And.intro e1 (sm_in (And.intro rfl k1)))))))))))
set_option maxRecDepth 100000 in
theorem w_X11_remember_0 {ex : sm_O} {d n : Nat} {y : sm_Y} {I : Nat → Nat → Int32} {L : Nat → Nat → Int64} {R : Nat → Nat → Option Nat} {Q : sm_Q} {w2 : Option Value} {a1 : Int32} {d1 : Nat} (hG : sm_G y R) (h1 : d1 < d) (k : if (I 123 8) = 16 then (sm_W ex d 0 0 133 11 [some (.ref 123), some (.int a1), some (.int 0)] [] (n, y, I, L, R) Q) else (sm_W ex d1 0 0 131 0 [some (.ref 123), some (.int (I 123 8)), none] [] (n, y, I, L, R) (fun r μ1 => sm_W ex d 0 0 133 85 [some (.ref 123), some (.int a1), w2] (r.toList ++ []) μ1 Q))) : sm_W ex d 0 0 133 0 [some (.ref 123), some (.int a1), w2] [] (n, y, I, L, R) Q := sm_in (sm_in (And.intro (hG.1 123 (Nat.le_of_ble_eq_true rfl)) (sm_in (sm_in (And.intro (fun c1 => have k1f := Eq.mp (if_neg c1) k; sm_in (sm_in (sm_in (And.intro (hG.1 123 (Nat.le_of_ble_eq_true rfl)) (sm_in (Exists.intro 11 (And.intro (hG.1 123 (Nat.le_of_ble_eq_true rfl)) (And.intro rfl (sm_calln h1 (Nat.le_of_ble_eq_true rfl) (Nat.le_of_ble_eq_true rfl) k1f))))))))) (fun c1 => have k1t := Eq.mp (if_pos c1) k; sm_in (sm_in (And.intro (Nat.le_of_ble_eq_true rfl) (k1t)))))))))
set_option maxRecDepth 100000 in
theorem w_X11_remember_11 {ex : sm_O} {d n : Nat} {y : sm_Y} {I : Nat → Nat → Int32} {L : Nat → Nat → Int64} {R : Nat → Nat → Option Nat} {Q : sm_Q} {a1 : Int32} {a2 : Int32} (hG : sm_G y R) (k : if 300 ≤ a2 then (sm_W ex d 0 0 133 41 [some (.ref 123), some (.int a1), some (.int 0)] [] (n, y, I, L, R) Q) else (vp_in (a2 + 20) 360 ∧ vp_in a2 360 ∧ sm_W ex d 0 0 133 11 [some (.ref 123), some (.int a1), some (.int (a2 + 1))] [] (n, y, sm_st I 128 a2.toNatClampNeg (I 128 (a2 + 20).toNatClampNeg), L, R) Q)) : sm_W ex d 0 0 133 11 [some (.ref 123), some (.int a1), some (.int a2)] [] (n, y, I, L, R) Q := sm_in (sm_in (sm_in (And.intro (fun c1 => have k1t := Eq.mp (if_pos c1) k; sm_in (sm_in (And.intro (Nat.le_of_ble_eq_true rfl) (k1t)))) (fun c1 => have k1f := Eq.mp (if_neg c1) k; sm_in (sm_in (And.intro (hG.1 123 (Nat.le_of_ble_eq_true rfl)) (sm_gfr rfl (hG.2 123 6 rfl) (sm_in (sm_in (sm_in (And.intro (hG.1 123 (Nat.le_of_ble_eq_true rfl)) (sm_gfr rfl (hG.2 123 6 rfl) (sm_in (sm_in (sm_in ((have e2 := k1f.1; have k2 := k1f.2; sm_in (Exists.intro 360 (And.intro (hG.1 128 (Nat.le_of_ble_eq_true rfl)) (And.intro e2 ((have e3 := k2.1; have k3 := k2.2; sm_in (Exists.intro 360 (And.intro (hG.1 128 (Nat.le_of_ble_eq_true rfl)) (And.intro e3 (sm_in (And.intro (Nat.le_of_ble_eq_true rfl) (sm_in (k3)))))))))))))))))))))))))))))
set_option maxRecDepth 100000 in
theorem w_X11_remember_41 {ex : sm_O} {d n : Nat} {y : sm_Y} {I : Nat → Nat → Int32} {L : Nat → Nat → Int64} {R : Nat → Nat → Option Nat} {Q : sm_Q} {a1 : Int32} {a2 : Int32} {d1 : Nat} (hG : sm_G y R) (h1 : d1 < d) (k : if 15 ≤ a2 then (sm_W ex d1 0 0 131 0 [some (.ref 123), some (.int ((I 123 8) - 1)), none] [] (n, y, sm_st I 123 8 ((I 123 8) - 1), L, R) (fun r μ1 => sm_W ex d 0 0 133 85 [some (.ref 123), some (.int a1), some (.int a2)] (r.toList ++ []) μ1 Q)) else (vp_in (a2 + 1) 16 ∧ vp_in a2 16 ∧ sm_W ex d 0 0 133 41 [some (.ref 123), some (.int a1), some (.int (a2 + 1))] [] (n, y, sm_st I 129 a2.toNatClampNeg (I 129 (a2 + 1).toNatClampNeg), L, R) Q)) : sm_W ex d 0 0 133 41 [some (.ref 123), some (.int a1), some (.int a2)] [] (n, y, I, L, R) Q := sm_in (sm_in (sm_in (And.intro (fun c1 => have k1t := Eq.mp (if_pos c1) k; sm_in (sm_in (And.intro rfl (sm_in (And.intro (hG.1 123 (Nat.le_of_ble_eq_true rfl)) (sm_in (sm_in (sm_in (And.intro (hG.1 123 (Nat.le_of_ble_eq_true rfl)) (sm_in (sm_in (sm_in (And.intro (hG.1 123 (Nat.le_of_ble_eq_true rfl)) (sm_in (Exists.intro 11 (And.intro (hG.1 123 (Nat.le_of_ble_eq_true rfl)) (And.intro rfl (sm_calln h1 (Nat.le_of_ble_eq_true rfl) (Nat.le_of_ble_eq_true rfl) k1t)))))))))))))))))) (fun c1 => have k1f := Eq.mp (if_neg c1) k; sm_in (sm_in (And.intro (hG.1 123 (Nat.le_of_ble_eq_true rfl)) (sm_gfr rfl (hG.2 123 7 rfl) (sm_in (sm_in (sm_in (And.intro (hG.1 123 (Nat.le_of_ble_eq_true rfl)) (sm_gfr rfl (hG.2 123 7 rfl) (sm_in (sm_in (sm_in ((have e2 := k1f.1; have k2 := k1f.2; sm_in (Exists.intro 16 (And.intro (hG.1 129 (Nat.le_of_ble_eq_true rfl)) (And.intro e2 ((have e3 := k2.1; have k3 := k2.2; sm_in (Exists.intro 16 (And.intro (hG.1 129 (Nat.le_of_ble_eq_true rfl)) (And.intro e3 (sm_in (And.intro (Nat.le_of_ble_eq_true rfl) (sm_in (k3)))))))))))))))))))))))))))))
set_option maxRecDepth 100000 in
theorem w_X11_remember_85 {ex : sm_O} {d n : Nat} {y : sm_Y} {I : Nat → Nat → Int32} {L : Nat → Nat → Int64} {R : Nat → Nat → Option Nat} {Q : sm_Q} {w2 : Option Value} {a1 : Int32} (hG : sm_G y R) (k : vp_in (I 123 8) 16 ∧ Q none (n, y, sm_st (sm_st I 129 ((I 123 8).toNatClampNeg) a1) 123 8 ((I 123 8) + 1), L, R)) : sm_W ex d 0 0 133 85 [some (.ref 123), some (.int a1), w2] [] (n, y, I, L, R) Q := sm_in (sm_in (And.intro (hG.1 123 (Nat.le_of_ble_eq_true rfl)) (sm_gfr rfl (hG.2 123 7 rfl) (sm_in (sm_in (And.intro (hG.1 123 (Nat.le_of_ble_eq_true rfl)) (sm_in ((have e1 := k.1; have k1 := k.2; sm_in (Exists.intro 16 (And.intro (hG.1 129 (Nat.le_of_ble_eq_true rfl)) (And.intro e1 (sm_in (sm_in (And.intro rfl (sm_in (And.intro (hG.1 123 (Nat.le_of_ble_eq_true rfl)) (sm_in (sm_in (sm_in (And.intro (hG.1 123 (Nat.le_of_ble_eq_true rfl)) (sm_in (And.intro rfl (And.intro rfl k1))))))))))))))))))))))))
set_option maxRecDepth 100000 in
theorem w_X1_act_0 {ex : sm_O} {d n : Nat} {y : sm_Y} {I : Nat → Nat → Int32} {L : Nat → Nat → Int64} {R : Nat → Nat → Option Nat} {Q : sm_Q} {a1 : Int32} {a2 : Int32} {d1 : Nat} (hG : sm_G y R) (hdep : 1 ≤ d) (h1 : d1 < d) (k : if a1 = 3 then (sm_W ex d1 0 0 28 0 [some (.ref 50), some (.int a1), some (.ref 1), some (.int a2)] [] (n, y, I, L, R) (fun r μ1 => sm_W ex d 0 0 6 32 [some (.ref 54), some (.int a1), some (.int a2)] (r.toList ++ []) μ1 Q)) else (if a2 < 0 then (Q (some (.int (-2))) (n, y, I, L, R)) else (if (I 1 4) ≤ a2 then (Q (some (.int (-2))) (n, y, I, L, R)) else (sm_W ex d1 0 0 28 0 [some (.ref 50), some (.int a1), some (.ref 1), some (.int a2)] [] (n, y, I, L, R) (fun r μ1 => sm_W ex d 0 0 6 32 [some (.ref 54), some (.int a1), some (.int a2)] (r.toList ++ []) μ1 Q))))) : sm_W ex d 0 0 6 0 [some (.ref 54), some (.int a1), some (.int a2)] [] (n, y, I, L, R) Q := sm_in (sm_in (sm_in (And.intro (fun c1 => have k1t := Eq.mp (if_pos c1) k; sm_in (sm_in (And.intro (hG.1 54 (Nat.le_of_ble_eq_true rfl)) (sm_gfr rfl (hG.2 54 1 rfl) (sm_in (sm_in (sm_in (And.intro (hG.1 54 (Nat.le_of_ble_eq_true rfl)) (sm_gfr rfl (hG.2 54 0 rfl) (sm_in (sm_in (Exists.intro 5 (And.intro (hG.1 50 (Nat.le_of_ble_eq_true rfl)) (And.intro rfl (sm_calln h1 (Nat.le_of_ble_eq_true rfl) (Nat.le_of_ble_eq_true rfl) k1t))))))))))))))) (fun c1 => have k1f := Eq.mp (if_neg c1) k; sm_in (sm_in (And.intro (hG.1 54 (Nat.le_of_ble_eq_true rfl)) (sm_gfr rfl (hG.2 54 0 rfl) (sm_in (sm_in (Exists.intro 9 (And.intro (hG.1 1 (Nat.le_of_ble_eq_true rfl)) (And.intro rfl (sm_calln (d1 := 0) (Nat.lt_of_lt_of_le (Nat.le_of_ble_eq_true rfl : 0 < 1) hdep) (Nat.le_of_ble_eq_true rfl) (Nat.le_of_ble_eq_true rfl) (sm_in (sm_in (And.intro (fun c2 => have k2t := Eq.mp (if_pos c2) k1f; sm_in (sm_in (And.intro rfl (And.intro (Or.inl rfl) (sm_in (And.intro (fun c => absurd (by decide : (0 : Int32) = 0) c) (fun _ => sm_in (sm_in (And.intro rfl k2t))))))))) (fun c2 => have k2f := Eq.mp (if_neg c2) k1f; sm_in (sm_in (sm_in (And.intro (hG.1 1 (Nat.le_of_ble_eq_true rfl)) (sm_in (And.intro (fun c3 => have k3t := Eq.mp (if_pos c3) k2f; sm_in (sm_in (And.intro rfl (And.intro (Or.inl rfl) (sm_in (And.intro (fun c => absurd (by decide : (0 : Int32) = 0) c) (fun _ => sm_in (sm_in (And.intro rfl k3t))))))))) (fun c3 => have k3f := Eq.mp (if_neg c3) k2f; sm_in (sm_in (sm_in (And.intro rfl (And.intro (Or.inr rfl) (sm_in (And.intro (fun _ => sm_in (sm_in (And.intro (hG.1 54 (Nat.le_of_ble_eq_true rfl)) (sm_gfr rfl (hG.2 54 1 rfl) (sm_in (sm_in (sm_in (And.intro (hG.1 54 (Nat.le_of_ble_eq_true rfl)) (sm_gfr rfl (hG.2 54 0 rfl) (sm_in (sm_in (Exists.intro 5 (And.intro (hG.1 50 (Nat.le_of_ble_eq_true rfl)) (And.intro rfl (sm_calln h1 (Nat.le_of_ble_eq_true rfl) (Nat.le_of_ble_eq_true rfl) k3f))))))))))))))) (fun c => absurd c (by decide : ¬ (1 : Int32) = 0)))))))))))))))))))))))))))))))
set_option maxRecDepth 100000 in
theorem w_X1_act_32 {ex : sm_O} {d n : Nat} {y : sm_Y} {I : Nat → Nat → Int32} {L : Nat → Nat → Int64} {R : Nat → Nat → Option Nat} {Q : sm_Q} {w2 : Option Value} {a1 : Int32} {s0 : Int32} {d1 : Nat} (hG : sm_G y R) (h1 : d1 < d) (k : if s0 = 0 then (Q (some (.int (-3))) (n, y, I, L, R)) else (sm_W ex d1 0 0 23 0 [some (.ref 65), some (.int a1), some (.ref 1), none] [] (n, y, I, L, R) (fun r μ1 => sm_W ex d 0 0 6 50 [some (.ref 54), some (.int a1), w2] (r.toList ++ []) μ1 Q))) : sm_W ex d 0 0 6 32 [some (.ref 54), some (.int a1), w2] [.int s0] (n, y, I, L, R) Q := sm_in (And.intro (fun c1 => have k1f := Eq.mp (if_neg c1) k; sm_in (sm_in (And.intro (hG.1 54 (Nat.le_of_ble_eq_true rfl)) (sm_gfr rfl (hG.2 54 5 rfl) (sm_in (sm_in (sm_in (And.intro (hG.1 54 (Nat.le_of_ble_eq_true rfl)) (sm_gfr rfl (hG.2 54 0 rfl) (sm_in (Exists.intro 4 (And.intro (hG.1 65 (Nat.le_of_ble_eq_true rfl)) (And.intro rfl (sm_calln h1 (Nat.le_of_ble_eq_true rfl) (Nat.le_of_ble_eq_true rfl) k1f)))))))))))))) (fun c1 => have k1t := Eq.mp (if_pos c1) k; sm_in (sm_in (And.intro rfl k1t))))
set_option maxRecDepth 100000 in
theorem w_X1_act_50 {ex : sm_O} {d n : Nat} {y : sm_Y} {I : Nat → Nat → Int32} {L : Nat → Nat → Int64} {R : Nat → Nat → Option Nat} {Q : sm_Q} {a1 : Int32} {a2 : Int32} {d1 : Nat} (hG : sm_G y R) (h1 : d1 < d) (k : if a1 = 3 then (sm_W ex d1 0 0 32 0 [some (.ref 50), some (.ref 1), none, none, none, none] [] (n, y, I, L, R) (fun r μ1 => sm_W ex d 0 0 6 66 [some (.ref 54), some (.int a1), some (.int a2)] (r.toList ++ []) μ1 Q)) else (sm_W ex d1 0 0 29 0 [some (.ref 50), some (.int a1), some (.ref 1), some (.int a2), none] [] (n, y, I, L, R) (fun r μ1 => sm_W ex d 0 0 6 82 [some (.ref 54), some (.int a1), some (.int a2)] (r.toList ++ []) μ1 Q))) : sm_W ex d 0 0 6 50 [some (.ref 54), some (.int a1), some (.int a2)] [] (n, y, I, L, R) Q := sm_in (sm_in (sm_in (And.intro (fun c1 => have k1f := Eq.mp (if_neg c1) k; sm_in (sm_in (And.intro (hG.1 54 (Nat.le_of_ble_eq_true rfl)) (sm_gfr rfl (hG.2 54 1 rfl) (sm_in (sm_in (sm_in (And.intro (hG.1 54 (Nat.le_of_ble_eq_true rfl)) (sm_gfr rfl (hG.2 54 0 rfl) (sm_in (sm_in (Exists.intro 5 (And.intro (hG.1 50 (Nat.le_of_ble_eq_true rfl)) (And.intro rfl (sm_calln h1 (Nat.le_of_ble_eq_true rfl) (Nat.le_of_ble_eq_true rfl) k1f))))))))))))))) (fun c1 => have k1t := Eq.mp (if_pos c1) k; sm_in (sm_in (And.intro (hG.1 54 (Nat.le_of_ble_eq_true rfl)) (sm_gfr rfl (hG.2 54 1 rfl) (sm_in (sm_in (And.intro (hG.1 54 (Nat.le_of_ble_eq_true rfl)) (sm_gfr rfl (hG.2 54 0 rfl) (sm_in (Exists.intro 5 (And.intro (hG.1 50 (Nat.le_of_ble_eq_true rfl)) (And.intro rfl (sm_calln h1 (Nat.le_of_ble_eq_true rfl) (Nat.le_of_ble_eq_true rfl) k1t))))))))))))))))
set_option maxRecDepth 100000 in
theorem w_X1_act_66 {ex : sm_O} {d n : Nat} {y : sm_Y} {I : Nat → Nat → Int32} {L : Nat → Nat → Int64} {R : Nat → Nat → Option Nat} {Q : sm_Q} {w0 : Option Value} {w1 : Option Value} {w2 : Option Value} {s0 : Int32} (k : sm_W ex d 0 0 6 82 [w0, w1, w2] [.int s0] (n, y, I, L, R) Q) : sm_W ex d 0 0 6 66 [w0, w1, w2] [.int s0] (n, y, I, L, R) Q := sm_in (k)
set_option maxRecDepth 100000 in
theorem w_X1_act_82 {ex : sm_O} {d n : Nat} {y : sm_Y} {I : Nat → Nat → Int32} {L : Nat → Nat → Int64} {R : Nat → Nat → Option Nat} {Q : sm_Q} {w0 : Option Value} {w1 : Option Value} {w2 : Option Value} {s0 : Int32} (k : Q (some (.int s0)) (n, y, I, L, R)) : sm_W ex d 0 0 6 82 [w0, w1, w2] [.int s0] (n, y, I, L, R) Q := sm_in (And.intro rfl k)
set_option maxRecDepth 100000 in
theorem w_X10_settled_0 {ex : sm_O} {d n : Nat} {y : sm_Y} {I : Nat → Nat → Int32} {L : Nat → Nat → Int64} {R : Nat → Nat → Option Nat} {Q : sm_Q} {a1 : Int32} {d1 : Nat} (hG : sm_G y R) (h1 : d1 < d) (k : if 0 ≤ a1 then (sm_W ex d1 0 0 121 0 [some (.ref 0), some (.int a1)] [] (n, y, I, L, R) (fun r μ1 => sm_W ex d 0 0 120 17 [some (.ref 0), some (.int a1)] (r.toList ++ []) μ1 Q)) else (sm_W ex d1 0 0 122 0 [some (.ref 0), some (.int a1)] [] (n, y, I, L, R) (fun r μ1 => sm_W ex d 0 0 120 9 [some (.ref 0), some (.int a1)] (r.toList ++ []) μ1 Q))) : sm_W ex d 0 0 120 0 [some (.ref 0), some (.int a1)] [] (n, y, I, L, R) Q := sm_in (sm_in (And.intro (fun c1 => have k1t := Eq.mp (if_pos c1) k; sm_in (sm_in (sm_in (Exists.intro 10 (And.intro (hG.1 0 (Nat.le_of_ble_eq_true rfl)) (And.intro rfl (sm_calln h1 (Nat.le_of_ble_eq_true rfl) (Nat.le_of_ble_eq_true rfl) k1t))))))) (fun c1 => have k1f := Eq.mp (if_neg c1) k; sm_in (sm_in (sm_in (Exists.intro 10 (And.intro (hG.1 0 (Nat.le_of_ble_eq_true rfl)) (And.intro rfl (sm_calln h1 (Nat.le_of_ble_eq_true rfl) (Nat.le_of_ble_eq_true rfl) k1f)))))))))
set_option maxRecDepth 100000 in
theorem w_X10_settled_9 {ex : sm_O} {d n : Nat} {y : sm_Y} {I : Nat → Nat → Int32} {L : Nat → Nat → Int64} {R : Nat → Nat → Option Nat} {Q : sm_Q} {w0 : Option Value} {w1 : Option Value} {s0 : Int32} (k : sm_W ex d 0 0 120 17 [w0, w1] [.int s0] (n, y, I, L, R) Q) : sm_W ex d 0 0 120 9 [w0, w1] [.int s0] (n, y, I, L, R) Q := sm_in (k)
set_option maxRecDepth 100000 in
theorem w_X10_settled_17 {ex : sm_O} {d n : Nat} {y : sm_Y} {I : Nat → Nat → Int32} {L : Nat → Nat → Int64} {R : Nat → Nat → Option Nat} {Q : sm_Q} {w0 : Option Value} {w1 : Option Value} {s0 : Int32} (k : Q (some (.int s0)) (n, y, I, L, R)) : sm_W ex d 0 0 120 17 [w0, w1] [.int s0] (n, y, I, L, R) Q := sm_in (And.intro rfl k)
set_option maxRecDepth 100000 in
theorem w_X10_relieve_0 {ex : sm_O} {d n : Nat} {y : sm_Y} {I : Nat → Nat → Int32} {L : Nat → Nat → Int64} {R : Nat → Nat → Option Nat} {Q : sm_Q} {a1 : Int32} {d1 : Nat} (hG : sm_G y R) (h1 : d1 < d) (k : sm_W ex d1 0 0 6 0 [some (.ref 54), some (.int 0), some (.int a1)] [] (n, y, I, L, R) (fun r μ1 => sm_W ex d 0 0 88 10 [some (.ref 0), some (.int a1)] (r.toList ++ [.ref 0]) μ1 Q)) : sm_W ex d 0 0 88 0 [some (.ref 0), some (.int a1)] [] (n, y, I, L, R) Q := sm_in (sm_in (sm_in (And.intro (hG.1 0 (Nat.le_of_ble_eq_true rfl)) (sm_gfr rfl (hG.2 0 3 rfl) (sm_in (sm_in (sm_in (Exists.intro 1 (And.intro (hG.1 54 (Nat.le_of_ble_eq_true rfl)) (And.intro rfl (sm_calln h1 (Nat.le_of_ble_eq_true rfl) (Nat.le_of_ble_eq_true rfl) k)))))))))))
set_option maxRecDepth 100000 in
theorem w_X10_relieve_10 {ex : sm_O} {d n : Nat} {y : sm_Y} {I : Nat → Nat → Int32} {L : Nat → Nat → Int64} {R : Nat → Nat → Option Nat} {Q : sm_Q} {w0 : Option Value} {w1 : Option Value} {s0 : Int32} {d1 : Nat} (hG : sm_G y R) (h1 : d1 < d) (k : sm_W ex d1 0 0 120 0 [some (.ref 0), some (.int s0)] [] (n, y, I, L, R) (fun r μ1 => sm_W ex d 0 0 88 13 [w0, w1] (r.toList ++ []) μ1 Q)) : sm_W ex d 0 0 88 10 [w0, w1] [.int s0, .ref 0] (n, y, I, L, R) Q := sm_in (Exists.intro 10 (And.intro (hG.1 0 (Nat.le_of_ble_eq_true rfl)) (And.intro rfl (sm_calln h1 (Nat.le_of_ble_eq_true rfl) (Nat.le_of_ble_eq_true rfl) k))))
set_option maxRecDepth 100000 in
theorem w_X10_relieve_13 {ex : sm_O} {d n : Nat} {y : sm_Y} {I : Nat → Nat → Int32} {L : Nat → Nat → Int64} {R : Nat → Nat → Option Nat} {Q : sm_Q} {w0 : Option Value} {w1 : Option Value} {s0 : Int32} (k : Q (some (.int s0)) (n, y, I, L, R)) : sm_W ex d 0 0 88 13 [w0, w1] [.int s0] (n, y, I, L, R) Q := sm_in (And.intro rfl k)
set_option maxRecDepth 100000 in
theorem w_X10_sneeze_0 {ex : sm_O} {d n : Nat} {y : sm_Y} {I : Nat → Nat → Int32} {L : Nat → Nat → Int64} {R : Nat → Nat → Option Nat} {Q : sm_Q} {a1 : Int32} {d1 : Nat} (hG : sm_G y R) (h1 : d1 < d) (k : sm_W ex d1 0 0 6 0 [some (.ref 54), some (.int 1), some (.int a1)] [] (n, y, I, L, R) (fun r μ1 => sm_W ex d 0 0 89 10 [some (.ref 0), some (.int a1)] (r.toList ++ [.ref 0]) μ1 Q)) : sm_W ex d 0 0 89 0 [some (.ref 0), some (.int a1)] [] (n, y, I, L, R) Q := sm_in (sm_in (sm_in (And.intro (hG.1 0 (Nat.le_of_ble_eq_true rfl)) (sm_gfr rfl (hG.2 0 3 rfl) (sm_in (sm_in (sm_in (Exists.intro 1 (And.intro (hG.1 54 (Nat.le_of_ble_eq_true rfl)) (And.intro rfl (sm_calln h1 (Nat.le_of_ble_eq_true rfl) (Nat.le_of_ble_eq_true rfl) k)))))))))))
set_option maxRecDepth 100000 in
theorem w_X10_sneeze_10 {ex : sm_O} {d n : Nat} {y : sm_Y} {I : Nat → Nat → Int32} {L : Nat → Nat → Int64} {R : Nat → Nat → Option Nat} {Q : sm_Q} {w0 : Option Value} {w1 : Option Value} {s0 : Int32} {d1 : Nat} (hG : sm_G y R) (h1 : d1 < d) (k : sm_W ex d1 0 0 120 0 [some (.ref 0), some (.int s0)] [] (n, y, I, L, R) (fun r μ1 => sm_W ex d 0 0 89 13 [w0, w1] (r.toList ++ []) μ1 Q)) : sm_W ex d 0 0 89 10 [w0, w1] [.int s0, .ref 0] (n, y, I, L, R) Q := sm_in (Exists.intro 10 (And.intro (hG.1 0 (Nat.le_of_ble_eq_true rfl)) (And.intro rfl (sm_calln h1 (Nat.le_of_ble_eq_true rfl) (Nat.le_of_ble_eq_true rfl) k))))
set_option maxRecDepth 100000 in
theorem w_X10_sneeze_13 {ex : sm_O} {d n : Nat} {y : sm_Y} {I : Nat → Nat → Int32} {L : Nat → Nat → Int64} {R : Nat → Nat → Option Nat} {Q : sm_Q} {w0 : Option Value} {w1 : Option Value} {s0 : Int32} (k : Q (some (.int s0)) (n, y, I, L, R)) : sm_W ex d 0 0 89 13 [w0, w1] [.int s0] (n, y, I, L, R) Q := sm_in (And.intro rfl k)
set_option maxRecDepth 100000 in
theorem w_X10_pardon_0 {ex : sm_O} {d n : Nat} {y : sm_Y} {I : Nat → Nat → Int32} {L : Nat → Nat → Int64} {R : Nat → Nat → Option Nat} {Q : sm_Q} {a1 : Int32} {d1 : Nat} (hG : sm_G y R) (h1 : d1 < d) (k : sm_W ex d1 0 0 6 0 [some (.ref 54), some (.int 2), some (.int a1)] [] (n, y, I, L, R) (fun r μ1 => sm_W ex d 0 0 90 10 [some (.ref 0), some (.int a1)] (r.toList ++ [.ref 0]) μ1 Q)) : sm_W ex d 0 0 90 0 [some (.ref 0), some (.int a1)] [] (n, y, I, L, R) Q := sm_in (sm_in (sm_in (And.intro (hG.1 0 (Nat.le_of_ble_eq_true rfl)) (sm_gfr rfl (hG.2 0 3 rfl) (sm_in (sm_in (sm_in (Exists.intro 1 (And.intro (hG.1 54 (Nat.le_of_ble_eq_true rfl)) (And.intro rfl (sm_calln h1 (Nat.le_of_ble_eq_true rfl) (Nat.le_of_ble_eq_true rfl) k)))))))))))
set_option maxRecDepth 100000 in
theorem w_X10_pardon_10 {ex : sm_O} {d n : Nat} {y : sm_Y} {I : Nat → Nat → Int32} {L : Nat → Nat → Int64} {R : Nat → Nat → Option Nat} {Q : sm_Q} {w0 : Option Value} {w1 : Option Value} {s0 : Int32} {d1 : Nat} (hG : sm_G y R) (h1 : d1 < d) (k : sm_W ex d1 0 0 120 0 [some (.ref 0), some (.int s0)] [] (n, y, I, L, R) (fun r μ1 => sm_W ex d 0 0 90 13 [w0, w1] (r.toList ++ []) μ1 Q)) : sm_W ex d 0 0 90 10 [w0, w1] [.int s0, .ref 0] (n, y, I, L, R) Q := sm_in (Exists.intro 10 (And.intro (hG.1 0 (Nat.le_of_ble_eq_true rfl)) (And.intro rfl (sm_calln h1 (Nat.le_of_ble_eq_true rfl) (Nat.le_of_ble_eq_true rfl) k))))
set_option maxRecDepth 100000 in
theorem w_X10_pardon_13 {ex : sm_O} {d n : Nat} {y : sm_Y} {I : Nat → Nat → Int32} {L : Nat → Nat → Int64} {R : Nat → Nat → Option Nat} {Q : sm_Q} {w0 : Option Value} {w1 : Option Value} {s0 : Int32} (k : Q (some (.int s0)) (n, y, I, L, R)) : sm_W ex d 0 0 90 13 [w0, w1] [.int s0] (n, y, I, L, R) Q := sm_in (And.intro rfl k)
set_option maxRecDepth 100000 in
theorem w_X10_pass_0 {ex : sm_O} {d n : Nat} {y : sm_Y} {I : Nat → Nat → Int32} {L : Nat → Nat → Int64} {R : Nat → Nat → Option Nat} {Q : sm_Q} {d1 : Nat} (hG : sm_G y R) (h1 : d1 < d) (k : sm_W ex d1 0 0 6 0 [some (.ref 54), some (.int 3), some (.int (-1))] [] (n, y, I, L, R) (fun r μ1 => sm_W ex d 0 0 91 10 [some (.ref 0)] (r.toList ++ [.ref 0]) μ1 Q)) : sm_W ex d 0 0 91 0 [some (.ref 0)] [] (n, y, I, L, R) Q := sm_in (sm_in (sm_in (And.intro (hG.1 0 (Nat.le_of_ble_eq_true rfl)) (sm_gfr rfl (hG.2 0 3 rfl) (sm_in (sm_in (sm_in (Exists.intro 1 (And.intro (hG.1 54 (Nat.le_of_ble_eq_true rfl)) (And.intro rfl (sm_calln h1 (Nat.le_of_ble_eq_true rfl) (Nat.le_of_ble_eq_true rfl) k)))))))))))
set_option maxRecDepth 100000 in
theorem w_X10_pass_10 {ex : sm_O} {d n : Nat} {y : sm_Y} {I : Nat → Nat → Int32} {L : Nat → Nat → Int64} {R : Nat → Nat → Option Nat} {Q : sm_Q} {w0 : Option Value} {s0 : Int32} {d1 : Nat} (hG : sm_G y R) (h1 : d1 < d) (k : sm_W ex d1 0 0 120 0 [some (.ref 0), some (.int s0)] [] (n, y, I, L, R) (fun r μ1 => sm_W ex d 0 0 91 13 [w0] (r.toList ++ []) μ1 Q)) : sm_W ex d 0 0 91 10 [w0] [.int s0, .ref 0] (n, y, I, L, R) Q := sm_in (Exists.intro 10 (And.intro (hG.1 0 (Nat.le_of_ble_eq_true rfl)) (And.intro rfl (sm_calln h1 (Nat.le_of_ble_eq_true rfl) (Nat.le_of_ble_eq_true rfl) k))))
set_option maxRecDepth 100000 in
theorem w_X10_pass_13 {ex : sm_O} {d n : Nat} {y : sm_Y} {I : Nat → Nat → Int32} {L : Nat → Nat → Int64} {R : Nat → Nat → Option Nat} {Q : sm_Q} {w0 : Option Value} {s0 : Int32} (k : Q (some (.int s0)) (n, y, I, L, R)) : sm_W ex d 0 0 91 13 [w0] [.int s0] (n, y, I, L, R) Q := sm_in (And.intro rfl k)
set_option maxRecDepth 100000 in
theorem w_X11_relieve_0 {ex : sm_O} {d n : Nat} {y : sm_Y} {I : Nat → Nat → Int32} {L : Nat → Nat → Int64} {R : Nat → Nat → Option Nat} {Q : sm_Q} {a1 : Int32} {d1 : Nat} (hG : sm_G y R) (h1 : d1 < d) (k : sm_W ex d1 0 0 191 0 [some (.ref 123), some (.int a1)] [] (n, y, sm_st I 123 0 0, L, R) (fun r μ1 => sm_W ex d 0 0 192 11 [some (.ref 123), some (.int a1)] (r.toList ++ [.ref 123]) μ1 Q)) : sm_W ex d 0 0 192 0 [some (.ref 123), some (.int a1)] [] (n, y, I, L, R) Q := sm_in (sm_in (sm_in (And.intro (hG.1 123 (Nat.le_of_ble_eq_true rfl)) (sm_in (sm_in (sm_in (sm_in (Exists.intro 11 (And.intro (hG.1 123 (Nat.le_of_ble_eq_true rfl)) (And.intro rfl (sm_calln h1 (Nat.le_of_ble_eq_true rfl) (Nat.le_of_ble_eq_true rfl) k)))))))))))
set_option maxRecDepth 100000 in
theorem w_X11_relieve_11 {ex : sm_O} {d n : Nat} {y : sm_Y} {I : Nat → Nat → Int32} {L : Nat → Nat → Int64} {R : Nat → Nat → Option Nat} {Q : sm_Q} {w0 : Option Value} {w1 : Option Value} {s0 : Int32} {d1 : Nat} (hG : sm_G y R) (h1 : d1 < d) (k : sm_W ex d1 0 0 128 0 [some (.ref 123), some (.int s0)] [] (n, y, I, L, R) (fun r μ1 => sm_W ex d 0 0 192 14 [w0, w1] (r.toList ++ []) μ1 Q)) : sm_W ex d 0 0 192 11 [w0, w1] [.int s0, .ref 123] (n, y, I, L, R) Q := sm_in (Exists.intro 11 (And.intro (hG.1 123 (Nat.le_of_ble_eq_true rfl)) (And.intro rfl (sm_calln h1 (Nat.le_of_ble_eq_true rfl) (Nat.le_of_ble_eq_true rfl) k))))
set_option maxRecDepth 100000 in
theorem w_X11_relieve_14 {ex : sm_O} {d n : Nat} {y : sm_Y} {I : Nat → Nat → Int32} {L : Nat → Nat → Int64} {R : Nat → Nat → Option Nat} {Q : sm_Q} {w0 : Option Value} {w1 : Option Value} {s0 : Int32} (k : Q (some (.int s0)) (n, y, I, L, R)) : sm_W ex d 0 0 192 14 [w0, w1] [.int s0] (n, y, I, L, R) Q := sm_in (And.intro rfl k)
set_option maxRecDepth 100000 in
theorem w_X11_sneeze_0 {ex : sm_O} {d n : Nat} {y : sm_Y} {I : Nat → Nat → Int32} {L : Nat → Nat → Int64} {R : Nat → Nat → Option Nat} {Q : sm_Q} {a1 : Int32} {d1 : Nat} (hG : sm_G y R) (h1 : d1 < d) (k : sm_W ex d1 0 0 194 0 [some (.ref 123), some (.int a1)] [] (n, y, sm_st I 123 0 0, L, R) (fun r μ1 => sm_W ex d 0 0 195 11 [some (.ref 123), some (.int a1)] (r.toList ++ [.ref 123]) μ1 Q)) : sm_W ex d 0 0 195 0 [some (.ref 123), some (.int a1)] [] (n, y, I, L, R) Q := sm_in (sm_in (sm_in (And.intro (hG.1 123 (Nat.le_of_ble_eq_true rfl)) (sm_in (sm_in (sm_in (sm_in (Exists.intro 11 (And.intro (hG.1 123 (Nat.le_of_ble_eq_true rfl)) (And.intro rfl (sm_calln h1 (Nat.le_of_ble_eq_true rfl) (Nat.le_of_ble_eq_true rfl) k)))))))))))
set_option maxRecDepth 100000 in
theorem w_X11_sneeze_11 {ex : sm_O} {d n : Nat} {y : sm_Y} {I : Nat → Nat → Int32} {L : Nat → Nat → Int64} {R : Nat → Nat → Option Nat} {Q : sm_Q} {w0 : Option Value} {w1 : Option Value} {s0 : Int32} {d1 : Nat} (hG : sm_G y R) (h1 : d1 < d) (k : sm_W ex d1 0 0 128 0 [some (.ref 123), some (.int s0)] [] (n, y, I, L, R) (fun r μ1 => sm_W ex d 0 0 195 14 [w0, w1] (r.toList ++ []) μ1 Q)) : sm_W ex d 0 0 195 11 [w0, w1] [.int s0, .ref 123] (n, y, I, L, R) Q := sm_in (Exists.intro 11 (And.intro (hG.1 123 (Nat.le_of_ble_eq_true rfl)) (And.intro rfl (sm_calln h1 (Nat.le_of_ble_eq_true rfl) (Nat.le_of_ble_eq_true rfl) k))))
set_option maxRecDepth 100000 in
theorem w_X11_sneeze_14 {ex : sm_O} {d n : Nat} {y : sm_Y} {I : Nat → Nat → Int32} {L : Nat → Nat → Int64} {R : Nat → Nat → Option Nat} {Q : sm_Q} {w0 : Option Value} {w1 : Option Value} {s0 : Int32} (k : Q (some (.int s0)) (n, y, I, L, R)) : sm_W ex d 0 0 195 14 [w0, w1] [.int s0] (n, y, I, L, R) Q := sm_in (And.intro rfl k)
set_option maxRecDepth 100000 in
theorem w_X11_pardon_0 {ex : sm_O} {d n : Nat} {y : sm_Y} {I : Nat → Nat → Int32} {L : Nat → Nat → Int64} {R : Nat → Nat → Option Nat} {Q : sm_Q} {a1 : Int32} {d1 : Nat} (hG : sm_G y R) (h1 : d1 < d) (k : sm_W ex d1 0 0 197 0 [some (.ref 123), some (.int a1)] [] (n, y, sm_st I 123 0 0, L, R) (fun r μ1 => sm_W ex d 0 0 198 11 [some (.ref 123), some (.int a1)] (r.toList ++ [.ref 123]) μ1 Q)) : sm_W ex d 0 0 198 0 [some (.ref 123), some (.int a1)] [] (n, y, I, L, R) Q := sm_in (sm_in (sm_in (And.intro (hG.1 123 (Nat.le_of_ble_eq_true rfl)) (sm_in (sm_in (sm_in (sm_in (Exists.intro 11 (And.intro (hG.1 123 (Nat.le_of_ble_eq_true rfl)) (And.intro rfl (sm_calln h1 (Nat.le_of_ble_eq_true rfl) (Nat.le_of_ble_eq_true rfl) k)))))))))))
set_option maxRecDepth 100000 in
theorem w_X11_pardon_11 {ex : sm_O} {d n : Nat} {y : sm_Y} {I : Nat → Nat → Int32} {L : Nat → Nat → Int64} {R : Nat → Nat → Option Nat} {Q : sm_Q} {w0 : Option Value} {w1 : Option Value} {s0 : Int32} {d1 : Nat} (hG : sm_G y R) (h1 : d1 < d) (k : sm_W ex d1 0 0 128 0 [some (.ref 123), some (.int s0)] [] (n, y, I, L, R) (fun r μ1 => sm_W ex d 0 0 198 14 [w0, w1] (r.toList ++ []) μ1 Q)) : sm_W ex d 0 0 198 11 [w0, w1] [.int s0, .ref 123] (n, y, I, L, R) Q := sm_in (Exists.intro 11 (And.intro (hG.1 123 (Nat.le_of_ble_eq_true rfl)) (And.intro rfl (sm_calln h1 (Nat.le_of_ble_eq_true rfl) (Nat.le_of_ble_eq_true rfl) k))))
set_option maxRecDepth 100000 in
theorem w_X11_pardon_14 {ex : sm_O} {d n : Nat} {y : sm_Y} {I : Nat → Nat → Int32} {L : Nat → Nat → Int64} {R : Nat → Nat → Option Nat} {Q : sm_Q} {w0 : Option Value} {w1 : Option Value} {s0 : Int32} (k : Q (some (.int s0)) (n, y, I, L, R)) : sm_W ex d 0 0 198 14 [w0, w1] [.int s0] (n, y, I, L, R) Q := sm_in (And.intro rfl k)
set_option maxRecDepth 100000 in
theorem w_X11_pass_0 {ex : sm_O} {d n : Nat} {y : sm_Y} {I : Nat → Nat → Int32} {L : Nat → Nat → Int64} {R : Nat → Nat → Option Nat} {Q : sm_Q} {d1 : Nat} (hG : sm_G y R) (h1 : d1 < d) (k : sm_W ex d1 0 0 200 0 [some (.ref 123)] [] (n, y, sm_st I 123 0 0, L, R) (fun r μ1 => sm_W ex d 0 0 201 10 [some (.ref 123)] (r.toList ++ [.ref 123]) μ1 Q)) : sm_W ex d 0 0 201 0 [some (.ref 123)] [] (n, y, I, L, R) Q := sm_in (sm_in (sm_in (And.intro (hG.1 123 (Nat.le_of_ble_eq_true rfl)) (sm_in (sm_in (sm_in (Exists.intro 11 (And.intro (hG.1 123 (Nat.le_of_ble_eq_true rfl)) (And.intro rfl (sm_calln h1 (Nat.le_of_ble_eq_true rfl) (Nat.le_of_ble_eq_true rfl) k))))))))))
set_option maxRecDepth 100000 in
theorem w_X11_pass_10 {ex : sm_O} {d n : Nat} {y : sm_Y} {I : Nat → Nat → Int32} {L : Nat → Nat → Int64} {R : Nat → Nat → Option Nat} {Q : sm_Q} {w0 : Option Value} {s0 : Int32} {d1 : Nat} (hG : sm_G y R) (h1 : d1 < d) (k : sm_W ex d1 0 0 128 0 [some (.ref 123), some (.int s0)] [] (n, y, I, L, R) (fun r μ1 => sm_W ex d 0 0 201 13 [w0] (r.toList ++ []) μ1 Q)) : sm_W ex d 0 0 201 10 [w0] [.int s0, .ref 123] (n, y, I, L, R) Q := sm_in (Exists.intro 11 (And.intro (hG.1 123 (Nat.le_of_ble_eq_true rfl)) (And.intro rfl (sm_calln h1 (Nat.le_of_ble_eq_true rfl) (Nat.le_of_ble_eq_true rfl) k))))
set_option maxRecDepth 100000 in
theorem w_X11_pass_13 {ex : sm_O} {d n : Nat} {y : sm_Y} {I : Nat → Nat → Int32} {L : Nat → Nat → Int64} {R : Nat → Nat → Option Nat} {Q : sm_Q} {w0 : Option Value} {s0 : Int32} (k : Q (some (.int s0)) (n, y, I, L, R)) : sm_W ex d 0 0 201 13 [w0] [.int s0] (n, y, I, L, R) Q := sm_in (And.intro rfl k)
set_option maxRecDepth 100000 in
theorem w_X10_undo_0 {ex : sm_O} {d n : Nat} {y : sm_Y} {I : Nat → Nat → Int32} {L : Nat → Nat → Int64} {R : Nat → Nat → Option Nat} {Q : sm_Q} {d1 : Nat} (hG : sm_G y R) (h1 : d1 < d) (k : if (I 65 1) = 0 then (sm_W ex d1 0 0 122 0 [some (.ref 0), some (.int (-3))] [] (n, y, I, L, R) (fun r μ1 => sm_W ex d 0 0 92 19 [some (.ref 0)] (r.toList ++ []) μ1 Q)) else (sm_W ex d1 0 0 24 0 [some (.ref 65), some (.ref 1), none] [] (n, y, I, L, R) (fun r μ1 => sm_W ex d 0 0 92 35 [some (.ref 0)] (r.toList ++ [.ref 0]) μ1 Q))) : sm_W ex d 0 0 92 0 [some (.ref 0)] [] (n, y, I, L, R) Q := sm_in (sm_in (And.intro (hG.1 0 (Nat.le_of_ble_eq_true rfl)) (sm_gfr rfl (hG.2 0 3 rfl) (sm_in (And.intro (hG.1 54 (Nat.le_of_ble_eq_true rfl)) (sm_gfr rfl (hG.2 54 5 rfl) (sm_in (And.intro (hG.1 65 (Nat.le_of_ble_eq_true rfl)) (sm_in (And.intro (fun c1 => have k1f := Eq.mp (if_neg c1) k; sm_in (sm_in (sm_in (And.intro (hG.1 0 (Nat.le_of_ble_eq_true rfl)) (sm_gfr rfl (hG.2 0 3 rfl) (sm_in (And.intro (hG.1 54 (Nat.le_of_ble_eq_true rfl)) (sm_gfr rfl (hG.2 54 5 rfl) (sm_in (sm_in (And.intro (hG.1 0 (Nat.le_of_ble_eq_true rfl)) (sm_gfr rfl (hG.2 0 0 rfl) (sm_in (Exists.intro 4 (And.intro (hG.1 65 (Nat.le_of_ble_eq_true rfl)) (And.intro rfl (sm_calln h1 (Nat.le_of_ble_eq_true rfl) (Nat.le_of_ble_eq_true rfl) k1f))))))))))))))))) (fun c1 => have k1t := Eq.mp (if_pos c1) k; sm_in (sm_in (sm_in (Exists.intro 10 (And.intro (hG.1 0 (Nat.le_of_ble_eq_true rfl)) (And.intro rfl (sm_calln h1 (Nat.le_of_ble_eq_true rfl) (Nat.le_of_ble_eq_true rfl) k1t)))))))))))))))))
set_option maxRecDepth 100000 in
theorem w_X10_undo_19 {ex : sm_O} {d n : Nat} {y : sm_Y} {I : Nat → Nat → Int32} {L : Nat → Nat → Int64} {R : Nat → Nat → Option Nat} {Q : sm_Q} {w0 : Option Value} {s0 : Int32} (k : Q (some (.int s0)) (n, y, I, L, R)) : sm_W ex d 0 0 92 19 [w0] [.int s0] (n, y, I, L, R) Q := sm_in (And.intro rfl k)
set_option maxRecDepth 100000 in
theorem w_X10_undo_35 {ex : sm_O} {d n : Nat} {y : sm_Y} {I : Nat → Nat → Int32} {L : Nat → Nat → Int64} {R : Nat → Nat → Option Nat} {Q : sm_Q} {w0 : Option Value} {s0 : Int32} {d1 : Nat} (hG : sm_G y R) (h1 : d1 < d) (k : sm_W ex d1 0 0 121 0 [some (.ref 0), some (.int s0)] [] (n, y, I, L, R) (fun r μ1 => sm_W ex d 0 0 92 38 [w0] (r.toList ++ []) μ1 Q)) : sm_W ex d 0 0 92 35 [w0] [.int s0, .ref 0] (n, y, I, L, R) Q := sm_in (Exists.intro 10 (And.intro (hG.1 0 (Nat.le_of_ble_eq_true rfl)) (And.intro rfl (sm_calln h1 (Nat.le_of_ble_eq_true rfl) (Nat.le_of_ble_eq_true rfl) k))))
set_option maxRecDepth 100000 in
theorem w_X10_undo_38 {ex : sm_O} {d n : Nat} {y : sm_Y} {I : Nat → Nat → Int32} {L : Nat → Nat → Int64} {R : Nat → Nat → Option Nat} {Q : sm_Q} {w0 : Option Value} {s0 : Int32} (k : Q (some (.int s0)) (n, y, I, L, R)) : sm_W ex d 0 0 92 38 [w0] [.int s0] (n, y, I, L, R) Q := sm_in (And.intro rfl k)
set_option maxRecDepth 100000 in
theorem w_X11_undo_0 {ex : sm_O} {d n : Nat} {y : sm_Y} {I : Nat → Nat → Int32} {L : Nat → Nat → Int64} {R : Nat → Nat → Option Nat} {Q : sm_Q} {d1 : Nat} (hG : sm_G y R) (h1 : d1 < d) (k : if (I 123 8) = 0 then (sm_W ex d1 0 0 128 0 [some (.ref 123), some (.int (-3))] [] (n, y, sm_st I 123 0 0, L, R) (fun r μ1 => sm_W ex d 0 0 134 18 [some (.ref 123)] (r.toList ++ []) μ1 Q)) else (sm_W ex d1 0 0 132 0 [some (.ref 123), some (.int ((I 123 8) - 1)), none] [] (n, y, sm_st (sm_st I 123 0 0) 123 8 ((I 123 8) - 1), L, R) (fun r μ1 => sm_W ex d 0 0 134 37 [some (.ref 123)] (r.toList ++ []) μ1 Q))) : sm_W ex d 0 0 134 0 [some (.ref 123)] [] (n, y, I, L, R) Q := sm_in (sm_in (sm_in (And.intro (hG.1 123 (Nat.le_of_ble_eq_true rfl)) (sm_in (sm_in (And.intro (hG.1 123 (Nat.le_of_ble_eq_true rfl)) (sm_in (And.intro (fun c1 => have k1f := Eq.mp (if_neg c1) k; sm_in (sm_in (And.intro rfl (sm_in (And.intro (hG.1 123 (Nat.le_of_ble_eq_true rfl)) (sm_in (sm_in (sm_in (And.intro (hG.1 123 (Nat.le_of_ble_eq_true rfl)) (sm_in (sm_in (sm_in (And.intro (hG.1 123 (Nat.le_of_ble_eq_true rfl)) (sm_in (Exists.intro 11 (And.intro (hG.1 123 (Nat.le_of_ble_eq_true rfl)) (And.intro rfl (sm_calln h1 (Nat.le_of_ble_eq_true rfl) (Nat.le_of_ble_eq_true rfl) k1f)))))))))))))))))) (fun c1 => have k1t := Eq.mp (if_pos c1) k; sm_in (sm_in (sm_in (Exists.intro 11 (And.intro (hG.1 123 (Nat.le_of_ble_eq_true rfl)) (And.intro rfl (sm_calln h1 (Nat.le_of_ble_eq_true rfl) (Nat.le_of_ble_eq_true rfl) k1t)))))))))))))))
set_option maxRecDepth 100000 in
theorem w_X11_undo_18 {ex : sm_O} {d n : Nat} {y : sm_Y} {I : Nat → Nat → Int32} {L : Nat → Nat → Int64} {R : Nat → Nat → Option Nat} {Q : sm_Q} {w0 : Option Value} {s0 : Int32} (k : Q (some (.int s0)) (n, y, I, L, R)) : sm_W ex d 0 0 134 18 [w0] [.int s0] (n, y, I, L, R) Q := sm_in (And.intro rfl k)
set_option maxRecDepth 100000 in
theorem w_X11_undo_37 {ex : sm_O} {d n : Nat} {y : sm_Y} {I : Nat → Nat → Int32} {L : Nat → Nat → Int64} {R : Nat → Nat → Option Nat} {Q : sm_Q} {d1 : Nat} (hG : sm_G y R) (h1 : d1 < d) (k : vp_in (I 123 8) 16 ∧ sm_W ex d1 0 0 128 0 [some (.ref 123), some (.int (I 129 (I 123 8).toNatClampNeg))] [] (n, y, I, L, R) (fun r μ1 => sm_W ex d 0 0 134 50 [some (.ref 123)] (r.toList ++ []) μ1 Q)) : sm_W ex d 0 0 134 37 [some (.ref 123)] [] (n, y, I, L, R) Q := sm_in (sm_in (sm_in (And.intro (hG.1 123 (Nat.le_of_ble_eq_true rfl)) (sm_gfr rfl (hG.2 123 7 rfl) (sm_in (sm_in (And.intro (hG.1 123 (Nat.le_of_ble_eq_true rfl)) ((have e1 := k.1; have k1 := k.2; sm_in (Exists.intro 16 (And.intro (hG.1 129 (Nat.le_of_ble_eq_true rfl)) (And.intro e1 (sm_in (Exists.intro 11 (And.intro (hG.1 123 (Nat.le_of_ble_eq_true rfl)) (And.intro rfl (sm_calln h1 (Nat.le_of_ble_eq_true rfl) (Nat.le_of_ble_eq_true rfl) k1)))))))))))))))))
set_option maxRecDepth 100000 in
theorem w_X11_undo_50 {ex : sm_O} {d n : Nat} {y : sm_Y} {I : Nat → Nat → Int32} {L : Nat → Nat → Int64} {R : Nat → Nat → Option Nat} {Q : sm_Q} {w0 : Option Value} {s0 : Int32} (k : Q (some (.int s0)) (n, y, I, L, R)) : sm_W ex d 0 0 134 50 [w0] [.int s0] (n, y, I, L, R) Q := sm_in (And.intro rfl k)
set_option maxRecDepth 100000 in
theorem w_X11_relieveNow_0 {ex : sm_O} {d n : Nat} {y : sm_Y} {I : Nat → Nat → Int32} {L : Nat → Nat → Int64} {R : Nat → Nat → Option Nat} {Q : sm_Q} {a1 : Int32} {d1 : Nat} (hG : sm_G y R) (hdep : 2 ≤ d) (h1 : d1 < d) (k : if 0 ≤ a1 ∧ a1 < I 125 0 then (sm_W ex d1 0 0 189 0 [some (.ref 123), some (.int a1)] [] (n, y, I, L, R) (fun r μ1 => sm_W ex d 0 0 191 16 [some (.ref 123), some (.int a1)] (r.toList ++ []) μ1 Q)) else (Q (some (.int (-2))) (n, y, I, L, R))) : sm_W ex d 0 0 191 0 [some (.ref 123), some (.int a1)] [] (n, y, I, L, R) Q := sm_in (sm_in (sm_in (Exists.intro 11 (And.intro (hG.1 123 (Nat.le_of_ble_eq_true rfl)) (And.intro rfl (sm_calln (d1 := 1) (Nat.lt_of_lt_of_le (Nat.lt_succ_self 1) (Nat.le_trans (Nat.le_of_ble_eq_true rfl) hdep)) (Nat.le_of_ble_eq_true rfl) (Nat.le_of_ble_eq_true rfl) (c_X11_isMan hG (sm_in (And.intro (fun c1 => have k1t := Eq.mp (if_pos (sm_b_n.mp c1)) k; sm_in (sm_in (sm_in (Exists.intro 11 (And.intro (hG.1 123 (Nat.le_of_ble_eq_true rfl)) (And.intro rfl (sm_calln h1 (Nat.le_of_ble_eq_true rfl) (Nat.le_of_ble_eq_true rfl) k1t))))))) (fun c1 => have k1f := Eq.mp (if_neg (sm_b_0.mp c1)) k; sm_in (sm_in (And.intro rfl k1f))))))))))))
set_option maxRecDepth 100000 in
theorem w_X11_relieveNow_16 {ex : sm_O} {d n : Nat} {y : sm_Y} {I : Nat → Nat → Int32} {L : Nat → Nat → Int64} {R : Nat → Nat → Option Nat} {Q : sm_Q} {w1 : Option Value} {s0 : Int32} {d1 : Nat} (hG : sm_G y R) (h1 : d1 < d) (k : if s0 = 0 then (Q (some (.int (-3))) (n, y, I, L, R)) else (sm_W ex d1 0 0 133 0 [some (.ref 123), some (.int 0), none] [] (n, y, I, L, R) (fun r μ1 => sm_W ex d 0 0 191 27 [some (.ref 123), w1] (r.toList ++ []) μ1 Q))) : sm_W ex d 0 0 191 16 [some (.ref 123), w1] [.int s0] (n, y, I, L, R) Q := sm_in (And.intro (fun c1 => have k1f := Eq.mp (if_neg c1) k; sm_in (sm_in (sm_in (Exists.intro 11 (And.intro (hG.1 123 (Nat.le_of_ble_eq_true rfl)) (And.intro rfl (sm_calln h1 (Nat.le_of_ble_eq_true rfl) (Nat.le_of_ble_eq_true rfl) k1f))))))) (fun c1 => have k1t := Eq.mp (if_pos c1) k; sm_in (sm_in (And.intro rfl k1t))))
set_option maxRecDepth 100000 in
theorem w_X11_relieveNow_27 {ex : sm_O} {d n : Nat} {y : sm_Y} {I : Nat → Nat → Int32} {L : Nat → Nat → Int64} {R : Nat → Nat → Option Nat} {Q : sm_Q} {a1 : Int32} {d1 : Nat} (hG : sm_G y R) (h1 : d1 < d) (k : sm_W ex d1 0 0 190 0 [some (.ref 123), some (.int a1), none] [] (n, y, I, L, R) (fun r μ1 => sm_W ex d 0 0 191 32 [some (.ref 123), some (.int a1)] (r.toList ++ []) μ1 Q)) : sm_W ex d 0 0 191 27 [some (.ref 123), some (.int a1)] [] (n, y, I, L, R) Q := sm_in (sm_in (sm_in (Exists.intro 11 (And.intro (hG.1 123 (Nat.le_of_ble_eq_true rfl)) (And.intro rfl (sm_calln h1 (Nat.le_of_ble_eq_true rfl) (Nat.le_of_ble_eq_true rfl) k))))))
set_option maxRecDepth 100000 in
theorem w_X11_relieveNow_32 {ex : sm_O} {d n : Nat} {y : sm_Y} {I : Nat → Nat → Int32} {L : Nat → Nat → Int64} {R : Nat → Nat → Option Nat} {Q : sm_Q} {w0 : Option Value} {w1 : Option Value} {s0 : Int32} (k : Q (some (.int s0)) (n, y, I, L, R)) : sm_W ex d 0 0 191 32 [w0, w1] [.int s0] (n, y, I, L, R) Q := sm_in (And.intro rfl k)
set_option maxRecDepth 100000 in
theorem w_X11_sneezeNow_0 {ex : sm_O} {d n : Nat} {y : sm_Y} {I : Nat → Nat → Int32} {L : Nat → Nat → Int64} {R : Nat → Nat → Option Nat} {Q : sm_Q} {a1 : Int32} {d1 : Nat} (hG : sm_G y R) (hdep : 3 ≤ d) (h1 : d1 < d) (k : if 0 ≤ a1 ∧ a1 < I 125 0 then (vp_in (17 + a1) 5450 ∧ (if (I 125 (17 + a1).toNatClampNeg) = 0 then (sm_W ex d1 0 0 133 0 [some (.ref 123), some (.int 1), none] [] (n, y, I, L, R) (fun r μ1 => sm_W ex d 0 0 194 27 [some (.ref 123), some (.int a1)] (r.toList ++ []) μ1 Q)) else (Q (some (.int (-3))) (n, y, I, L, R)))) else (Q (some (.int (-2))) (n, y, I, L, R))) : sm_W ex d 0 0 194 0 [some (.ref 123), some (.int a1)] [] (n, y, I, L, R) Q := sm_in (sm_in (sm_in (Exists.intro 11 (And.intro (hG.1 123 (Nat.le_of_ble_eq_true rfl)) (And.intro rfl (sm_calln (d1 := 1) (Nat.lt_of_lt_of_le (Nat.lt_succ_self 1) (Nat.le_trans (Nat.le_of_ble_eq_true rfl) hdep)) (Nat.le_of_ble_eq_true rfl) (Nat.le_of_ble_eq_true rfl) (c_X11_isMan hG (sm_in (And.intro (fun c1 => have k1t := Eq.mp (if_pos (sm_b_n.mp c1)) k; sm_in (sm_in (sm_in (Exists.intro 11 (And.intro (hG.1 123 (Nat.le_of_ble_eq_true rfl)) (And.intro rfl (sm_calln (d1 := 2) (Nat.lt_of_lt_of_le (Nat.le_of_ble_eq_true rfl : 2 < 3) hdep) (Nat.le_of_ble_eq_true rfl) (Nat.le_of_ble_eq_true rfl) (sm_in (sm_in (And.intro (hG.1 123 (Nat.le_of_ble_eq_true rfl)) (sm_gfr rfl (hG.2 123 3 rfl) (sm_in (sm_in (sm_in ((have e2 := k1t.1; have k2 := k1t.2; sm_in (Exists.intro 5450 (And.intro (hG.1 125 (Nat.le_of_ble_eq_true rfl)) (And.intro e2 (sm_in (And.intro (fun c3 => have k3f := Eq.mp (if_neg c3) k2; sm_in (sm_in (And.intro rfl (And.intro (Or.inl rfl) (sm_in (And.intro (fun c => absurd (by decide : (0 : Int32) = 0) c) (fun _ => sm_in (sm_in (And.intro rfl k3f))))))))) (fun c3 => have k3t := Eq.mp (if_pos c3) k2; sm_in (sm_in (sm_in (And.intro rfl (And.intro (Or.inr rfl) (sm_in (And.intro (fun _ => sm_in (sm_in (sm_in (Exists.intro 11 (And.intro (hG.1 123 (Nat.le_of_ble_eq_true rfl)) (And.intro rfl (sm_calln h1 (Nat.le_of_ble_eq_true rfl) (Nat.le_of_ble_eq_true rfl) k3t))))))) (fun c => absurd c (by decide : ¬ (1 : Int32) = 0)))))))))))))))))))))))))))))) (fun c1 => have k1f := Eq.mp (if_neg (sm_b_0.mp c1)) k; sm_in (sm_in (And.intro rfl k1f))))))))))))
set_option maxRecDepth 100000 in
theorem w_X11_sneezeNow_27 {ex : sm_O} {d n : Nat} {y : sm_Y} {I : Nat → Nat → Int32} {L : Nat → Nat → Int64} {R : Nat → Nat → Option Nat} {Q : sm_Q} {a1 : Int32} {d1 : Nat} (hG : sm_G y R) (h1 : d1 < d) (k : sm_W ex d1 0 0 193 0 [some (.ref 123), some (.int a1)] [] (n, y, I, L, R) (fun r μ1 => sm_W ex d 0 0 194 32 [some (.ref 123), some (.int a1)] (r.toList ++ []) μ1 Q)) : sm_W ex d 0 0 194 27 [some (.ref 123), some (.int a1)] [] (n, y, I, L, R) Q := sm_in (sm_in (sm_in (Exists.intro 11 (And.intro (hG.1 123 (Nat.le_of_ble_eq_true rfl)) (And.intro rfl (sm_calln h1 (Nat.le_of_ble_eq_true rfl) (Nat.le_of_ble_eq_true rfl) k))))))
set_option maxRecDepth 100000 in
theorem w_X11_sneezeNow_32 {ex : sm_O} {d n : Nat} {y : sm_Y} {I : Nat → Nat → Int32} {L : Nat → Nat → Int64} {R : Nat → Nat → Option Nat} {Q : sm_Q} {w1 : Option Value} {d1 : Nat} (hG : sm_G y R) (h1 : d1 < d) (k : sm_W ex d1 0 0 139 0 [some (.ref 123), none, none] [] (n, y, I, L, R) (fun r μ1 => sm_W ex d 0 0 194 36 [some (.ref 123), w1] (r.toList ++ []) μ1 Q)) : sm_W ex d 0 0 194 32 [some (.ref 123), w1] [] (n, y, I, L, R) Q := sm_in (sm_in (Exists.intro 11 (And.intro (hG.1 123 (Nat.le_of_ble_eq_true rfl)) (And.intro rfl (sm_calln h1 (Nat.le_of_ble_eq_true rfl) (Nat.le_of_ble_eq_true rfl) k)))))
set_option maxRecDepth 100000 in
theorem w_X11_sneezeNow_36 {ex : sm_O} {d n : Nat} {y : sm_Y} {I : Nat → Nat → Int32} {L : Nat → Nat → Int64} {R : Nat → Nat → Option Nat} {Q : sm_Q} {w0 : Option Value} {w1 : Option Value} {s0 : Int32} {d1 : Nat} (h1 : d1 < d) (k : sm_W ex d1 0 0 127 0 [some (.int s0), none, none] [] (n, y, I, L, R) (fun r μ1 => sm_W ex d 0 0 194 39 [w0, w1] (r.toList ++ []) μ1 Q)) : sm_W ex d 0 0 194 36 [w0, w1] [.int s0] (n, y, I, L, R) Q := sm_in (And.intro (Nat.le_of_ble_eq_true rfl) (sm_calln h1 (Nat.le_of_ble_eq_true rfl) (Nat.le_of_ble_eq_true rfl) k))
set_option maxRecDepth 100000 in
theorem w_X11_sneezeNow_39 {ex : sm_O} {d n : Nat} {y : sm_Y} {I : Nat → Nat → Int32} {L : Nat → Nat → Int64} {R : Nat → Nat → Option Nat} {Q : sm_Q} {w0 : Option Value} {w1 : Option Value} {s0 : Int32} (k : Q (some (.int s0)) (n, y, I, L, R)) : sm_W ex d 0 0 194 39 [w0, w1] [.int s0] (n, y, I, L, R) Q := sm_in (And.intro rfl k)
set_option maxRecDepth 100000 in
theorem w_X11_pardonNow_0 {ex : sm_O} {d n : Nat} {y : sm_Y} {I : Nat → Nat → Int32} {L : Nat → Nat → Int64} {R : Nat → Nat → Option Nat} {Q : sm_Q} {a1 : Int32} {d1 : Nat} (hG : sm_G y R) (hdep : 3 ≤ d) (h1 : d1 < d) (k : if 0 ≤ a1 ∧ a1 < I 125 0 then (vp_in (17 + a1) 5450 ∧ (if (I 125 (17 + a1).toNatClampNeg) = 0 then (Q (some (.int (-3))) (n, y, I, L, R)) else (sm_W ex d1 0 0 133 0 [some (.ref 123), some (.int 2), none] [] (n, y, I, L, R) (fun r μ1 => sm_W ex d 0 0 197 27 [some (.ref 123), some (.int a1)] (r.toList ++ []) μ1 Q)))) else (Q (some (.int (-2))) (n, y, I, L, R))) : sm_W ex d 0 0 197 0 [some (.ref 123), some (.int a1)] [] (n, y, I, L, R) Q := sm_in (sm_in (sm_in (Exists.intro 11 (And.intro (hG.1 123 (Nat.le_of_ble_eq_true rfl)) (And.intro rfl (sm_calln (d1 := 1) (Nat.lt_of_lt_of_le (Nat.lt_succ_self 1) (Nat.le_trans (Nat.le_of_ble_eq_true rfl) hdep)) (Nat.le_of_ble_eq_true rfl) (Nat.le_of_ble_eq_true rfl) (c_X11_isMan hG (sm_in (And.intro (fun c1 => have k1t := Eq.mp (if_pos (sm_b_n.mp c1)) k; sm_in (sm_in (sm_in (Exists.intro 11 (And.intro (hG.1 123 (Nat.le_of_ble_eq_true rfl)) (And.intro rfl (sm_calln (d1 := 2) (Nat.lt_of_lt_of_le (Nat.le_of_ble_eq_true rfl : 2 < 3) hdep) (Nat.le_of_ble_eq_true rfl) (Nat.le_of_ble_eq_true rfl) (sm_in (sm_in (And.intro (hG.1 123 (Nat.le_of_ble_eq_true rfl)) (sm_gfr rfl (hG.2 123 3 rfl) (sm_in (sm_in (sm_in ((have e2 := k1t.1; have k2 := k1t.2; sm_in (Exists.intro 5450 (And.intro (hG.1 125 (Nat.le_of_ble_eq_true rfl)) (And.intro e2 (sm_in (And.intro (fun c3 => have k3f := Eq.mp (if_neg c3) k2; sm_in (sm_in (And.intro rfl (And.intro (Or.inl rfl) (sm_in (And.intro (fun _ => sm_in (sm_in (sm_in (Exists.intro 11 (And.intro (hG.1 123 (Nat.le_of_ble_eq_true rfl)) (And.intro rfl (sm_calln h1 (Nat.le_of_ble_eq_true rfl) (Nat.le_of_ble_eq_true rfl) k3f))))))) (fun c => absurd (by decide : (0 : Int32) = 0) c))))))) (fun c3 => have k3t := Eq.mp (if_pos c3) k2; sm_in (sm_in (sm_in (And.intro rfl (And.intro (Or.inr rfl) (sm_in (And.intro (fun c => absurd c (by decide : ¬ (1 : Int32) = 0)) (fun _ => sm_in (sm_in (And.intro rfl k3t))))))))))))))))))))))))))))))) (fun c1 => have k1f := Eq.mp (if_neg (sm_b_0.mp c1)) k; sm_in (sm_in (And.intro rfl k1f))))))))))))
set_option maxRecDepth 100000 in
theorem w_X11_pardonNow_27 {ex : sm_O} {d n : Nat} {y : sm_Y} {I : Nat → Nat → Int32} {L : Nat → Nat → Int64} {R : Nat → Nat → Option Nat} {Q : sm_Q} {a1 : Int32} {d1 : Nat} (hG : sm_G y R) (h1 : d1 < d) (k : sm_W ex d1 0 0 196 0 [some (.ref 123), some (.int a1)] [] (n, y, I, L, R) (fun r μ1 => sm_W ex d 0 0 197 32 [some (.ref 123), some (.int a1)] (r.toList ++ []) μ1 Q)) : sm_W ex d 0 0 197 27 [some (.ref 123), some (.int a1)] [] (n, y, I, L, R) Q := sm_in (sm_in (sm_in (Exists.intro 11 (And.intro (hG.1 123 (Nat.le_of_ble_eq_true rfl)) (And.intro rfl (sm_calln h1 (Nat.le_of_ble_eq_true rfl) (Nat.le_of_ble_eq_true rfl) k))))))
set_option maxRecDepth 100000 in
theorem w_X11_pardonNow_32 {ex : sm_O} {d n : Nat} {y : sm_Y} {I : Nat → Nat → Int32} {L : Nat → Nat → Int64} {R : Nat → Nat → Option Nat} {Q : sm_Q} {w1 : Option Value} {d1 : Nat} (hG : sm_G y R) (h1 : d1 < d) (k : sm_W ex d1 0 0 139 0 [some (.ref 123), none, none] [] (n, y, I, L, R) (fun r μ1 => sm_W ex d 0 0 197 36 [some (.ref 123), w1] (r.toList ++ []) μ1 Q)) : sm_W ex d 0 0 197 32 [some (.ref 123), w1] [] (n, y, I, L, R) Q := sm_in (sm_in (Exists.intro 11 (And.intro (hG.1 123 (Nat.le_of_ble_eq_true rfl)) (And.intro rfl (sm_calln h1 (Nat.le_of_ble_eq_true rfl) (Nat.le_of_ble_eq_true rfl) k)))))
set_option maxRecDepth 100000 in
theorem w_X11_pardonNow_36 {ex : sm_O} {d n : Nat} {y : sm_Y} {I : Nat → Nat → Int32} {L : Nat → Nat → Int64} {R : Nat → Nat → Option Nat} {Q : sm_Q} {w0 : Option Value} {w1 : Option Value} {s0 : Int32} {d1 : Nat} (h1 : d1 < d) (k : sm_W ex d1 0 0 127 0 [some (.int s0), none, none] [] (n, y, I, L, R) (fun r μ1 => sm_W ex d 0 0 197 39 [w0, w1] (r.toList ++ []) μ1 Q)) : sm_W ex d 0 0 197 36 [w0, w1] [.int s0] (n, y, I, L, R) Q := sm_in (And.intro (Nat.le_of_ble_eq_true rfl) (sm_calln h1 (Nat.le_of_ble_eq_true rfl) (Nat.le_of_ble_eq_true rfl) k))
set_option maxRecDepth 100000 in
theorem w_X11_pardonNow_39 {ex : sm_O} {d n : Nat} {y : sm_Y} {I : Nat → Nat → Int32} {L : Nat → Nat → Int64} {R : Nat → Nat → Option Nat} {Q : sm_Q} {w0 : Option Value} {w1 : Option Value} {s0 : Int32} (k : Q (some (.int s0)) (n, y, I, L, R)) : sm_W ex d 0 0 197 39 [w0, w1] [.int s0] (n, y, I, L, R) Q := sm_in (And.intro rfl k)
set_option maxRecDepth 100000 in
theorem w_X11_passNow_0 {ex : sm_O} {d n : Nat} {y : sm_Y} {I : Nat → Nat → Int32} {L : Nat → Nat → Int64} {R : Nat → Nat → Option Nat} {Q : sm_Q} {d1 : Nat} (hG : sm_G y R) (h1 : d1 < d) (k : if (I 125 4) = 999 then (Q (some (.int (-3))) (n, y, I, L, R)) else (sm_W ex d1 0 0 133 0 [some (.ref 123), some (.int 3), none] [] (n, y, I, L, R) (fun r μ1 => sm_W ex d 0 0 200 20 [some (.ref 123)] (r.toList ++ []) μ1 Q))) : sm_W ex d 0 0 200 0 [some (.ref 123)] [] (n, y, I, L, R) Q := sm_in (sm_in (And.intro (hG.1 123 (Nat.le_of_ble_eq_true rfl)) (sm_gfr rfl (hG.2 123 3 rfl) (sm_in (sm_in (Exists.intro 5450 (And.intro (hG.1 125 (Nat.le_of_ble_eq_true rfl)) (And.intro (sm_lin (by decide)) (sm_in (sm_in (And.intro (fun c1 => have k1f := Eq.mp (if_neg c1) k; sm_in (sm_in (sm_in (Exists.intro 11 (And.intro (hG.1 123 (Nat.le_of_ble_eq_true rfl)) (And.intro rfl (sm_calln h1 (Nat.le_of_ble_eq_true rfl) (Nat.le_of_ble_eq_true rfl) k1f))))))) (fun c1 => have k1t := Eq.mp (if_pos c1) k; sm_in (sm_in (And.intro rfl k1t))))))))))))))
set_option maxRecDepth 100000 in
theorem w_X11_passNow_20 {ex : sm_O} {d n : Nat} {y : sm_Y} {I : Nat → Nat → Int32} {L : Nat → Nat → Int64} {R : Nat → Nat → Option Nat} {Q : sm_Q} {d1 : Nat} (hG : sm_G y R) (h1 : d1 < d) (k : sm_W ex d1 0 0 199 0 [some (.ref 123), none, none] [] (n, y, I, L, R) (fun r μ1 => sm_W ex d 0 0 200 24 [some (.ref 123)] (r.toList ++ []) μ1 Q)) : sm_W ex d 0 0 200 20 [some (.ref 123)] [] (n, y, I, L, R) Q := sm_in (sm_in (Exists.intro 11 (And.intro (hG.1 123 (Nat.le_of_ble_eq_true rfl)) (And.intro rfl (sm_calln h1 (Nat.le_of_ble_eq_true rfl) (Nat.le_of_ble_eq_true rfl) k)))))
set_option maxRecDepth 100000 in
theorem w_X11_passNow_24 {ex : sm_O} {d n : Nat} {y : sm_Y} {I : Nat → Nat → Int32} {L : Nat → Nat → Int64} {R : Nat → Nat → Option Nat} {Q : sm_Q} {w0 : Option Value} {s0 : Int32} (k : Q (some (.int s0)) (n, y, I, L, R)) : sm_W ex d 0 0 200 24 [w0] [.int s0] (n, y, I, L, R) Q := sm_in (And.intro rfl k)
-- KEEP, TAKE BACK
def sp_keep (u : List (Nat × St)) (x : Nat × St) : List (Nat × St) := (if u.length < 16 then u else u.drop 1) ++ [x]
theorem mk65 {y : sm_Y} {R : Nat → Nat → Option Nat} (hG : sm_G y R) : ok4 y R 65 := ⟨hG.1 65 (by decide), hG.2 65 0 rfl, hG.1 66 (by decide)⟩
theorem mk63 {y : sm_Y} {R : Nat → Nat → Option Nat} (hG : sm_G y R) : ok4 y R 63 := ⟨hG.1 63 (by decide), hG.2 63 0 rfl, hG.1 64 (by decide)⟩
def kval (k : Nat) (s : St) (j : Nat) : Int32 := match j with
  | 0 => nI k
  | 1 => sp_up (sUp s)
  | 2 => nI (sHeld s)
  | 3 => nI (sp_bits (sCash s) (sMen s))
  | _ => nI (sTerm s 0)
def kP (I1 : Nat → Nat → Int32) (c k : Nat) (s : St) (i : Nat) (X : Nat → Nat → Int32) : Prop := (∀ a j, ¬ (a = 66 ∧ 12 * c ≤ j ∧ j < 12 * c + 12) → X a j = I1 a j) ∧ ∀ j, j < i → X 66 (12 * c + j) = kval k s j
theorem kP_st {I1 X : Nat → Nat → Int32} {c k i : Nat} {s : St} {w : Int32} (hi : i < 12) (hw : w = kval k s i) (h : kP I1 c k s i X) : kP I1 c k s (i + 1) (sm_st X 66 (12 * c + i) w) := by
  refine ⟨fun a j q => by rw [sm_st_or _ _ (by omega)]; exact h.1 a j q, fun j hj => ?_⟩
  by_cases e : j = i
  · subst e
    rw [sm_st_s, hw]
  · rw [sm_st_j _ _ (by omega)]
    exact h.2 j (by omega)
set_option maxHeartbeats 1000000 in
theorem c_X4_keep {ex : sm_O} {n : Nat} {y : sm_Y} {I : Nat → Nat → Int32} {L : Nat → Nat → Int64} {R : Nat → Nat → Option Nat} {Q : sm_Q} {d k : Nat} {w3 : Option Value} {s : St} {u : List (Nat × St)} (hd : 1 ≤ d) (hG : sm_G y R) (hs : cS s 1 I) (hu : cU u 65 I) (hl : u.length ≤ 16) (h7 : sMen s ≤ 7) (hus : ∀ x ∈ u, sMen x.2 ≤ 7)
    (kk : ∀ (I' : Nat → Nat → Int32), (∀ a j, ¬ (a = 65 ∧ j = 1) → a ≠ 66 → I' a j = I a j) → cU (sp_keep u (k, s)) 65 I' → Q none (n, y, I', L, R)) : sm_W ex d 0 0 23 0 [some (.ref 65), some (.int (nI k)), some (.ref 1), w3] [] (n, y, I, L, R) Q := by
  have low : ∀ (I1 : Nat → Nat → Int32) (v : List (Nat × St)), v.length < 16 → cU v 65 I1 → (∀ a j, ¬ (a = 65 ∧ j = 1) → a ≠ 66 → I1 a j = I a j) → (∀ x ∈ v, sMen x.2 ≤ 7) → v ++ [(k, s)] = sp_keep u (k, s) → sm_W ex d 0 0 23 32 [some (.ref 65), some (.int (nI k)), some (.ref 1), w3] [] (n, y, I1, L, R) Q := by
    intro I1 v hv hcu hf hv7 he
    have hs1 : cS s 1 I1 := cS_kept2 (fun a j q => hf a j (by omega) (by omega)) hs
    have a1 : nI (12 * v.length) + 1 = nI (12 * v.length + 1) := nI_add _ 1
    have a2 : nI (12 * v.length) + 2 = nI (12 * v.length + 2) := nI_add _ 2
    have a3 : nI (12 * v.length) + 3 = nI (12 * v.length + 3) := nI_add _ 3
    have a4 : nI (12 * v.length) + 4 = nI (12 * v.length + 4) := nI_add _ 4
    have a5 : nI (12 * v.length) + 5 = nI (12 * v.length + 5) := nI_add _ 5
    have g97 : ∀ X, kP I1 v.length k s 5 X → sm_W ex d 0 0 23 97 [some (.ref 65), some (.int (nI k)), some (.ref 1), some (.int (nI (12 * v.length)))] [] (n, y, X, L, R) Q := by
      intro X hX
      refine w_X4_keep_97 (mk1 hG).1 (mk65 hG) hd ?_
      rw [a5]
      refine ⟨nI_pos (by omega), ?_, ?_⟩
      · rw [nI_clamp (by omega), z7]
        omega
      · rw [nI_clamp (by omega), z7, z0]
        refine w_X4_keep_114 (mk65 hG) ?_
        have e65 : (sm_cp X (1 + 3) 0 (65 + 1) (12 * v.length + 5) 7) 65 1 = nI v.length := by
          rw [sm_cp_or _ (by omega), hX.1 65 1 (by omega)]
          exact hcu.1
        rw [e65, sm_n1]
        have fr : ∀ a j, ¬ (a = 65 ∧ j = 1) → ¬ (a = 66 ∧ 12 * v.length ≤ j ∧ j < 12 * v.length + 12) → (sm_st (sm_cp X (1 + 3) 0 (65 + 1) (12 * v.length + 5) 7) 65 1 (nI (v.length + 1))) a j = I1 a j := fun a j q1 q2 => by
          rw [sm_st_or _ _ (by omega), sm_cp_or _ (by omega)]
          exact hX.1 a j q2
        refine kk _ (fun a j q1 q2 => (fr a j q1 (by omega)).trans (hf a j q1 q2)) ?_
        rw [← he]
        refine ⟨?_, fun i x hx => ?_⟩
        · rw [sm_st_s, List.length_append]
          rfl
        · by_cases hi : i < v.length
          · rw [List.getElem?_append_left hi] at hx
            have hx7 := hv7 x (List.mem_of_getElem? hx)
            obtain ⟨b1, b2, b3, b4, b5, b6⟩ := hcu.2 i x hx
            refine ⟨(fr 66 _ (by omega) (by omega)).trans b1, (fr 66 _ (by omega) (by omega)).trans b2, (fr 66 _ (by omega) (by omega)).trans b3, (fr 66 _ (by omega) (by omega)).trans b4, (fr 66 _ (by omega) (by omega)).trans b5, fun j hj => (fr 66 _ (by omega) (by omega)).trans (b6 j hj)⟩
          · rw [List.getElem?_append_right (by omega)] at hx
            obtain ⟨rfl, hi2⟩ : x = (k, s) ∧ i = v.length := by
              rcases Nat.eq_or_lt_of_le (Nat.le_of_not_lt hi) with e | e
              · rw [← e, Nat.sub_self] at hx
                exact ⟨(Option.some.inj hx).symm, e.symm⟩
              · rw [show i - v.length = (i - v.length - 1) + 1 by omega] at hx
                cases hx
            subst hi2
            have rd : ∀ j, j < 5 → (sm_st (sm_cp X (1 + 3) 0 (65 + 1) (12 * v.length + 5) 7) 65 1 (nI (v.length + 1))) 66 (12 * v.length + j) = kval k s j := fun j hj => by
              rw [sm_st_o _ _ (by decide), sm_cp_or _ (by omega)]
              exact hX.2 j hj
            refine ⟨rd 0 (by omega), rd 1 (by omega), rd 2 (by omega), rd 3 (by omega), rd 4 (by omega), fun j hj => ?_⟩
            have hj : j < sMen s := hj
            show (sm_st (sm_cp X (1 + 3) 0 (65 + 1) (12 * v.length + 5) 7) 65 1 (nI (v.length + 1))) (65 + 1) (12 * v.length + (5 + j)) = _
            rw [sm_st_o _ _ (by decide), sm_cp_in _ _ _ (by omega) (by omega), hX.1 _ _ (by omega)]
            rw [show 0 + (12 * v.length + (5 + j) - (12 * v.length + 5)) = j by omega]
            exact (hs1.2.1 j hj).2.2
    have g83 : ∀ X, kP I1 v.length k s 4 X → sm_W ex d 0 0 23 83 [some (.ref 65), some (.int (nI k)), some (.ref 1), some (.int (nI (12 * v.length)))] [] (n, y, X, L, R) Q := by
      intro X hX
      refine w_X4_keep_83 (mk65 hG) (mk1 hG).1 ?_
      rw [a4, nI_clamp (by omega)]
      exact ⟨vp_in_nI (by omega) (by decide), g97 _ (kP_st (by decide) ((hX.1 5 0 (by omega)).trans (hs1.2.2.2.2.2 0 (by decide))) hX)⟩
    have g71 : ∀ X, kP I1 v.length k s 3 X → sm_W ex d 0 0 23 71 [some (.ref 65), some (.int (nI k)), some (.ref 1), some (.int (nI (12 * v.length)))] [] (n, y, X, L, R) Q := by
      intro X hX
      refine w_X4_keep_71 (mk65 hG) (mk1 hG).1 ?_
      rw [a3, nI_clamp (by omega)]
      exact ⟨vp_in_nI (by omega) (by decide), g83 _ (kP_st (by decide) ((hX.1 1 5 (by omega)).trans hs1.2.2.1) hX)⟩
    have g59 : ∀ X, kP I1 v.length k s 2 X → sm_W ex d 0 0 23 59 [some (.ref 65), some (.int (nI k)), some (.ref 1), some (.int (nI (12 * v.length)))] [] (n, y, X, L, R) Q := by
      intro X hX
      refine w_X4_keep_59 (mk65 hG) (mk1 hG).1 ?_
      rw [a2, nI_clamp (by omega)]
      exact ⟨vp_in_nI (by omega) (by decide), g71 _ (kP_st (by decide) ((hX.1 1 7 (by omega)).trans hs1.2.2.2.2.1) hX)⟩
    have g47 : ∀ X, kP I1 v.length k s 1 X → sm_W ex d 0 0 23 47 [some (.ref 65), some (.int (nI k)), some (.ref 1), some (.int (nI (12 * v.length)))] [] (n, y, X, L, R) Q := by
      intro X hX
      refine w_X4_keep_47 (mk65 hG) (mk1 hG).1 ?_
      rw [a1, nI_clamp (by omega)]
      exact ⟨vp_in_nI (by omega) (by decide), g59 _ (kP_st (by decide) ((hX.1 1 6 (by omega)).trans hs1.2.2.2.1) hX)⟩
    refine w_X4_keep_32 (mk65 hG) ?_
    have e12 : I1 65 1 * 12 = nI (12 * v.length) := by rw [hcu.1, show (12 : Int32) = nI 12 from rfl, pk_mul, Nat.mul_comm]
    rw [e12, nI_clamp (by omega)]
    exact ⟨vp_in_nI (by omega) (by decide), g47 _ (kP_st (i := 0) (by decide) rfl ⟨fun _ _ _ => rfl, fun j hj => absurd hj (by omega)⟩)⟩
  refine w_X4_keep_0 (mk65 hG) hd ?_
  rw [hu.1]
  by_cases h16 : u.length < 16
  · rw [if_pos (by rw [sm_of 16, nI_ltI (by omega) (by decide)]; exact h16)]
    exact low I u h16 hu (fun _ _ _ _ => rfl) hus (by unfold sp_keep; rw [if_pos h16])
  · rw [if_neg (by rw [sm_of 16, nI_ltI (by omega) (by decide)]; exact h16)]
    refine low _ (u.drop 1) (by rw [List.length_drop]; omega) ⟨?_, fun i x hx => ?_⟩ (fun a j q1 q2 => by rw [sm_st_or _ _ (by omega), sm_cp_or _ (by omega)]) (fun x hx => hus x (List.mem_of_mem_drop hx)) (by unfold sp_keep; rw [if_neg h16])
    · rw [sm_st_s, List.length_drop, show u.length - 1 = 15 by omega]
      rfl
    · rw [List.getElem?_drop] at hx
      have hi : 1 + i < u.length := (List.getElem?_eq_some_iff.mp hx).1
      have hx7 := hus x (List.mem_of_getElem? hx)
      obtain ⟨b1, b2, b3, b4, b5, b6⟩ := hu.2 (1 + i) x hx
      have rd : ∀ j, j < 12 → (sm_st (sm_cp I (65 + 1) (12 : Int32).toNatClampNeg (65 + 1) (0 : Int32).toNatClampNeg (180 : Int32).toNatClampNeg) 65 1 15) (65 + 1) (12 * i + j) = I (65 + 1) (12 * (1 + i) + j) := fun j hj => by
        have z180 : (180 : Int32).toNatClampNeg = 180 := rfl
        have z12 : (12 : Int32).toNatClampNeg = 12 := rfl
        rw [sm_st_o _ _ (by decide), z180, z12, z0, sm_cp_in _ _ _ (by omega) (by omega)]
        exact congrArg (I 66) (by omega)
      exact ⟨(rd 0 (by omega)).trans b1, (rd 1 (by omega)).trans b2, (rd 2 (by omega)).trans b3, (rd 3 (by omega)).trans b4, (rd 4 (by omega)).trans b5, fun j hj => (rd (5 + j) (by omega)).trans (b6 j hj)⟩
set_option maxHeartbeats 1000000 in
theorem c_X4_takeBack {ex : sm_O} {n : Nat} {y : sm_Y} {I : Nat → Nat → Int32} {L : Nat → Nat → Int64} {R : Nat → Nat → Option Nat} {Q : sm_Q} {d : Nat} {w2 : Option Value} {s : St} {v : List (Nat × St)} {x : Nat × St} (hd : 1 ≤ d) (hG : sm_G y R) (hs : cS s 1 I) (hu : cU (v ++ [x]) 65 I) (hl : v.length < 16) (h7 : sMen s ≤ 7) (hsm : sp_same s x.2) (hus : ∀ x ∈ v, sMen x.2 ≤ 7)
    (kk : ∀ (I' : Nat → Nat → Int32), (∀ a j, ¬ (a = 65 ∧ j = 1) → ¬ (a = 1 ∧ 5 ≤ j ∧ j ≤ 7) → a ≠ 4 → ¬ (a = 5 ∧ j = 0) → I' a j = I a j) → cU v 65 I' → cS x.2 1 I' → Q (some (.int (nI x.1))) (n, y, I', L, R)) : sm_W ex d 0 0 24 0 [some (.ref 65), some (.ref 1), w2] [] (n, y, I, L, R) Q := by
  have hm1 : sMen x.2 = sMen s := hsm.1
  have hlast : (v ++ [x])[v.length]? = some x := by rw [List.getElem?_append_right (Nat.le_refl _), Nat.sub_self]; rfl
  obtain ⟨b0, b1, b2, b3, b4, b5⟩ := hu.2 v.length x hlast
  have b0 : I 66 (12 * v.length) = nI x.1 := b0
  have b1 : I 66 (12 * v.length + 1) = sp_up (sUp x.2) := b1
  have b2 : I 66 (12 * v.length + 2) = nI (sHeld x.2) := b2
  have b3 : I 66 (12 * v.length + 3) = nI (sp_bits (sCash x.2) (sMen x.2)) := b3
  have b4 : I 66 (12 * v.length + 4) = nI (sTerm x.2 0) := b4
  have b5 : ∀ i, i < sMen x.2 → I 66 (12 * v.length + (5 + i)) = nI (sTired x.2 i) := b5
  have a1 : nI (12 * v.length) + 1 = nI (12 * v.length + 1) := nI_add _ 1
  have a2 : nI (12 * v.length) + 2 = nI (12 * v.length + 2) := nI_add _ 2
  have a3 : nI (12 * v.length) + 3 = nI (12 * v.length + 3) := nI_add _ 3
  have a4 : nI (12 * v.length) + 4 = nI (12 * v.length + 4) := nI_add _ 4
  have a5 : nI (12 * v.length) + 5 = nI (12 * v.length + 5) := nI_add _ 5
  refine w_X4_takeBack_0 (mk65 hG) ?_
  have e65 : I 65 1 = nI (v.length + 1) := by rw [hu.1, List.length_append]; rfl
  rw [e65, if_neg (nI_ne0 (by omega) (by omega)), sm_st_s, nI_pred, show nI v.length * 12 = nI (12 * v.length) by rw [show (12 : Int32) = nI 12 from rfl, pk_mul, Nat.mul_comm]]
  -- up
  refine w_X4_takeBack_27 (mk65 hG) (mk1 hG).1 ?_
  rw [a1, nI_clamp (by omega)]
  refine ⟨vp_in_nI (by omega) (by decide), ?_⟩
  have r1 : (sm_st I 65 1 (nI v.length)) (65 + 1) (12 * v.length + 1) = sp_up (sUp x.2) := (sm_st_o _ _ (by decide)).trans b1
  rw [r1]
  -- held
  refine w_X4_takeBack_39 (mk65 hG) (mk1 hG).1 ?_
  rw [a2, nI_clamp (by omega)]
  refine ⟨vp_in_nI (by omega) (by decide), ?_⟩
  have r2 : (sm_st (sm_st I 65 1 (nI v.length)) 1 6 (sp_up (sUp x.2))) (65 + 1) (12 * v.length + 2) = nI (sHeld x.2) := (sm_st_o _ _ (by decide)).trans ((sm_st_o _ _ (by decide)).trans b2)
  rw [r2]
  -- cashiered
  refine w_X4_takeBack_51 (mk65 hG) (mk1 hG).1 ?_
  rw [a3, nI_clamp (by omega)]
  refine ⟨vp_in_nI (by omega) (by decide), ?_⟩
  have r3 : (sm_st (sm_st (sm_st I 65 1 (nI v.length)) 1 6 (sp_up (sUp x.2))) 1 7 (nI (sHeld x.2))) (65 + 1) (12 * v.length + 3) = nI (sp_bits (sCash x.2) (sMen x.2)) := (sm_st_o _ _ (by decide)).trans ((sm_st_o _ _ (by decide)).trans ((sm_st_o _ _ (by decide)).trans b3))
  rw [r3]
  -- hour
  refine w_X4_takeBack_63 (mk1 hG).1 (mk65 hG) ?_
  rw [a4, nI_clamp (by omega)]
  refine ⟨vp_in_nI (by omega) (by decide), ?_⟩
  have r4 : (sm_st (sm_st (sm_st (sm_st I 65 1 (nI v.length)) 1 6 (sp_up (sUp x.2))) 1 7 (nI (sHeld x.2))) 1 5 (nI (sp_bits (sCash x.2) (sMen x.2)))) (65 + 1) (12 * v.length + 4) = nI (sTerm x.2 0) := (sm_st_o _ _ (by decide)).trans ((sm_st_o _ _ (by decide)).trans ((sm_st_o _ _ (by decide)).trans ((sm_st_o _ _ (by decide)).trans b4)))
  rw [r4]
  generalize hX : sm_st (sm_st (sm_st (sm_st (sm_st I 65 1 (nI v.length)) 1 6 (sp_up (sUp x.2))) 1 7 (nI (sHeld x.2))) 1 5 (nI (sp_bits (sCash x.2) (sMen x.2)))) (1 + 4) 0 (nI (sTerm x.2 0)) = X
  have fX : ∀ a j, ¬ (a = 65 ∧ j = 1) → ¬ (a = 1 ∧ 5 ≤ j ∧ j ≤ 7) → ¬ (a = 5 ∧ j = 0) → X a j = I a j := fun a j q1 q2 q3 => by
    rw [← hX, sm_st_or _ _ (by omega), sm_st_or _ _ (by omega), sm_st_or _ _ (by omega), sm_st_or _ _ (by omega), sm_st_or _ _ (by omega)]
  have x65 : X 65 1 = nI v.length := by rw [← hX, sm_st_or _ _ (by omega), sm_st_or _ _ (by omega), sm_st_or _ _ (by omega), sm_st_or _ _ (by omega), sm_st_s]
  have x6 : X 1 6 = sp_up (sUp x.2) := by rw [← hX, sm_st_or _ _ (by omega), sm_st_or _ _ (by omega), sm_st_or _ _ (by omega), sm_st_s]
  have x7 : X 1 7 = nI (sHeld x.2) := by rw [← hX, sm_st_or _ _ (by omega), sm_st_or _ _ (by omega), sm_st_s]
  have x5 : X 1 5 = nI (sp_bits (sCash x.2) (sMen x.2)) := by rw [← hX, sm_st_or _ _ (by omega), sm_st_s]
  have x0 : X 5 0 = nI (sTerm x.2 0) := by rw [← hX]; exact sm_st_s _ _ _ _
  refine w_X4_takeBack_77 (mk65 hG) (mk1 hG).1 hd ?_
  rw [a5]
  refine ⟨nI_pos (by omega), by rw [nI_clamp (by omega), z7]; omega, ?_⟩
  rw [nI_clamp (by omega), z7, z0]
  refine w_X4_takeBack_94 (mk65 hG) ?_
  rw [nI_clamp (by omega)]
  refine ⟨vp_in_nI (by omega) (by decide), ?_⟩
  have fr : ∀ a j, ¬ (a = 65 ∧ j = 1) → ¬ (a = 1 ∧ 5 ≤ j ∧ j ≤ 7) → a ≠ 4 → ¬ (a = 5 ∧ j = 0) → (sm_cp X (65 + 1) (12 * v.length + 5) (1 + 3) 0 7) a j = I a j := fun a j q1 q2 q3 q4 => by
    rw [sm_cp_or _ (by omega)]
    exact fX a j q1 q2 q4
  have rr : (sm_cp X (65 + 1) (12 * v.length + 5) (1 + 3) 0 7) (65 + 1) (12 * v.length) = nI x.1 := (fr 66 _ (by omega) (by omega) (by omega) (by omega)).trans b0
  rw [rr]
  refine kk _ fr ⟨?_, fun i w hw => ?_⟩ ⟨?_, fun i hi => ⟨?_, ?_, ?_⟩, ?_, ?_, ?_, fun j hj => ?_⟩
  · rw [sm_cp_or _ (by omega)]
    exact x65
  · have hi : i < v.length := (List.getElem?_eq_some_iff.mp hw).1
    have hw7 := hus w (List.mem_of_getElem? hw)
    obtain ⟨c0, c1, c2, c3, c4, c5⟩ := hu.2 i w (by rw [List.getElem?_append_left hi]; exact hw)
    exact ⟨(fr 66 _ (by omega) (by omega) (by omega) (by omega)).trans c0, (fr 66 _ (by omega) (by omega) (by omega) (by omega)).trans c1, (fr 66 _ (by omega) (by omega) (by omega) (by omega)).trans c2, (fr 66 _ (by omega) (by omega) (by omega) (by omega)).trans c3, (fr 66 _ (by omega) (by omega) (by omega) (by omega)).trans c4, fun j hj => (fr 66 _ (by omega) (by omega) (by omega) (by omega)).trans (c5 j hj)⟩
  · rw [fr 1 4 (by omega) (by omega) (by omega) (by omega), hm1]
    exact hs.1
  · rw [fr (1 + 1) i (by omega) (by omega) (by omega) (by omega), hsm.2.1]
    exact (hs.2.1 i (by omega)).1
  · rw [fr (1 + 2) i (by omega) (by omega) (by omega) (by omega), hsm.2.2.1]
    exact (hs.2.1 i (by omega)).2.1
  · rw [sm_cp_in _ _ _ (by omega) (by omega), fX _ _ (by omega) (by omega) (by omega), show 12 * v.length + 5 + (i - 0) = 12 * v.length + (5 + i) by omega]
    exact b5 i hi
  · rw [sm_cp_or _ (by omega)]
    exact x5
  · rw [sm_cp_or _ (by omega)]
    exact x6
  · rw [sm_cp_or _ (by omega)]
    exact x7
  · by_cases hj0 : j = 0
    · subst hj0
      rw [sm_cp_or _ (by omega)]
      exact x0
    · rw [fr (1 + 4) j (by omega) (by omega) (by omega) (by omega), hsm.2.2.2 j (by omega)]
      exact hs.2.2.2.2.2 j hj
-- the model's
set_option maxHeartbeats 1000000 in
theorem c_X11_remember {ex : sm_O} {n : Nat} {y : sm_Y} {I : Nat → Nat → Int32} {L : Nat → Nat → Int64} {R : Nat → Nat → Option Nat} {Q : sm_Q} {d k : Nat} {w2 : Option Value} {s : St} {u : List (Nat × St)} (hd : 1 ≤ d) (hG : sm_G y R) (hs : mS s (I 125)) (hu : mU u I) (hl : u.length ≤ 16) (h7 : sMen s ≤ 7) (hus : ∀ x ∈ u, sMen x.2 ≤ 7)
    (kk : ∀ (I' : Nat → Nat → Int32), (∀ a j, ¬ (a = 123 ∧ j = 8) → a ≠ 129 → ¬ (a = 128 ∧ j < 320) → I' a j = I a j) → mU (sp_keep u (k, s)) I' → Q none (n, y, I', L, R)) : sm_W ex d 0 0 133 0 [some (.ref 123), some (.int (nI k)), w2] [] (n, y, I, L, R) Q := by
  have low : ∀ (I1 : Nat → Nat → Int32) (v : List (Nat × St)) (w2 : Option Value), v.length < 16 → mU v I1 → (∀ a j, ¬ (a = 123 ∧ j = 8) → a ≠ 129 → ¬ (a = 128 ∧ j < 320) → I1 a j = I a j) → (∀ x ∈ v, sMen x.2 ≤ 7) → v ++ [(k, s)] = sp_keep u (k, s) → sm_W ex 0 0 0 131 0 [some (.ref 123), some (.int (nI v.length)), none] [] (n, y, I1, L, R) (fun r μ1 => sm_W ex d 0 0 133 85 [some (.ref 123), some (.int (nI k)), w2] (r.toList ++ []) μ1 Q) := by
    intro I1 v w2 hv hmu hf hv7 he
    refine c_X11_keepAll (c := v.length) hG (by omega) ?_
    refine w_X11_remember_85 hG ?_
    have e8 : (sm_cp I1 125 4 128 (20 * v.length) 20) 123 8 = nI v.length := (sm_cp_or _ (by omega)).trans hmu.1
    rw [e8, nI_clamp (by omega), sm_n1]
    refine ⟨vp_in_nI hv (by decide), ?_⟩
    have fr : ∀ a j, ¬ (a = 123 ∧ j = 8) → ¬ (a = 129 ∧ j = v.length) → ¬ (a = 128 ∧ 20 * v.length ≤ j ∧ j < 20 * v.length + 20) → (sm_st (sm_st (sm_cp I1 125 4 128 (20 * v.length) 20) 129 v.length (nI k)) 123 8 (nI (v.length + 1))) a j = I1 a j := fun a j q1 q2 q3 => by
      rw [sm_st_or _ _ (by omega), sm_st_or _ _ (by omega), sm_cp_or _ (by omega)]
    refine kk _ (fun a j q1 q2 q3 => (fr a j q1 (by omega) (by omega)).trans (hf a j q1 q2 q3)) ?_
    rw [← he]
    refine ⟨?_, fun i x hx => ?_⟩
    · rw [sm_st_s, List.length_append]
      rfl
    · by_cases hi : i < v.length
      · rw [List.getElem?_append_left hi] at hx
        have hx7 := hv7 x (List.mem_of_getElem? hx)
        obtain ⟨b1, b2, b3, b4, b5⟩ := hmu.2 i x hx
        refine ⟨(fr 129 _ (by omega) (by omega) (by omega)).trans b1, fun j hj => (fr 128 _ (by omega) (by omega) (by omega)).trans (b2 j hj), (fr 128 _ (by omega) (by omega) (by omega)).trans b3, (fr 128 _ (by omega) (by omega) (by omega)).trans b4, fun j hj => ⟨(fr 128 _ (by omega) (by omega) (by omega)).trans (b5 j hj).1, (fr 128 _ (by omega) (by omega) (by omega)).trans (b5 j hj).2⟩⟩
      · rw [List.getElem?_append_right (by omega)] at hx
        obtain ⟨rfl, hi2⟩ : x = (k, s) ∧ i = v.length := by
          rcases Nat.eq_or_lt_of_le (Nat.le_of_not_lt hi) with e | e
          · rw [← e, Nat.sub_self] at hx
            exact ⟨(Option.some.inj hx).symm, e.symm⟩
          · rw [show i - v.length = (i - v.length - 1) + 1 by omega] at hx
            cases hx
        subst hi2
        have hs1 : mS s (I1 125) := mS_ext (fun j q => hf 125 j (by omega) (by omega) (by omega)) h7 hs
        have rd : ∀ j, j < 20 → (sm_st (sm_st (sm_cp I1 125 4 128 (20 * v.length) 20) 129 v.length (nI k)) 123 8 (nI (v.length + 1))) 128 (20 * v.length + j) = I1 125 (4 + j) := fun j hj => by
          rw [sm_st_o _ _ (by decide), sm_st_o _ _ (by decide), sm_cp_in _ _ _ (by omega) (by omega), show 4 + (20 * v.length + j - 20 * v.length) = 4 + j by omega]
        refine ⟨?_, fun j hj => (rd j (by omega)).trans (hs1.2.2.2.2 j hj), (rd 4 (by omega)).trans hs1.2.2.1, (rd 5 (by omega)).trans hs1.2.2.2.1, fun j hj => ⟨?_, ?_⟩⟩
        · rw [sm_st_o _ _ (by decide), sm_st_s]
        · have hj : j < sMen s := hj
          refine (rd (6 + j) (by omega)).trans ?_
          rw [show 4 + (6 + j) = 10 + j by omega]
          exact (hs1.2.1 j hj).2.2.1
        · have hj : j < sMen s := hj
          refine (rd (13 + j) (by omega)).trans ?_
          rw [show 4 + (13 + j) = 17 + j by omega]
          exact (hs1.2.1 j hj).2.2.2
  refine w_X11_remember_0 (d1 := 0) hG (by omega) ?_
  rw [hu.1]
  by_cases h16 : u.length < 16
  · rw [if_neg (by rw [sm_of 16, nI_eq (by omega) (by decide)]; omega)]
    exact low I u _ h16 hu (fun _ _ _ _ _ => rfl) hus (by unfold sp_keep; rw [if_pos h16])
  · have h16e : u.length = 16 := by omega
    rw [if_pos (by rw [h16e]; rfl)]
    -- the sorts
    have loop2 : ∀ (q j : Nat) (I1 : Nat → Nat → Int32), j + q = 15 → (∀ a i, a ≠ 128 → a ≠ 129 → I1 a i = I a i) → (∀ i, I1 128 i = if i < 300 then I 128 (i + 20) else I 128 i) → (∀ i, I1 129 i = if i < j then I 129 (i + 1) else I 129 i) → sm_W ex d 0 0 133 41 [some (.ref 123), some (.int (nI k)), some (.int (nI j))] [] (n, y, I1, L, R) Q := by
      intro q
      induction q with
      | zero =>
        intro j I1 hj hf h128 h129
        obtain rfl : j = 15 := by omega
        refine w_X11_remember_41 (d1 := 0) hG (by omega) ?_
        rw [if_pos (by decide), hf 123 8 (by decide) (by decide), hu.1, h16e, show nI 16 - 1 = nI 15 from nI_pred 15]
        have hl15 : (u.drop 1).length = 15 := by rw [List.length_drop]; omega
        rw [← hl15]
        refine low _ (u.drop 1) _ (by omega) ⟨sm_st_s _ _ _ _, fun i x hx => ?_⟩ (fun a j q1 q2 q3 => ?_) (fun x hx => hus x (List.mem_of_mem_drop hx)) (by unfold sp_keep; rw [if_neg h16])
        · rw [List.getElem?_drop] at hx
          have hi : 1 + i < u.length := (List.getElem?_eq_some_iff.mp hx).1
          have hx7 := hus x (List.mem_of_getElem? hx)
          obtain ⟨b1, b2, b3, b4, b5⟩ := hu.2 (1 + i) x hx
          have rd : ∀ j, j < 20 → (sm_st I1 123 8 (nI (u.drop 1).length)) 128 (20 * i + j) = I 128 (20 * (1 + i) + j) := fun j hj => by
            rw [sm_st_o _ _ (by decide), h128, if_pos (by omega)]
            exact congrArg (I 128) (by omega)
          refine ⟨?_, fun j hj => (rd j (by omega)).trans (b2 j hj), (rd 4 (by omega)).trans b3, (rd 5 (by omega)).trans b4, fun j hj => ⟨(rd (6 + j) (by omega)).trans (b5 j hj).1, (rd (13 + j) (by omega)).trans (b5 j hj).2⟩⟩
          rw [sm_st_o _ _ (by decide), h129, if_pos (by omega), Nat.add_comm i 1]
          exact b1
        · rw [sm_st_or _ _ (by omega)]
          by_cases ha : a = 128
          · subst ha
            rw [h128, if_neg (by omega)]
          · exact hf a j ha q2
      | succ q ih =>
        intro j I1 hj hf h128 h129
        refine w_X11_remember_41 (d1 := 0) hG (by omega) ?_
        rw [if_neg (by rw [sm_of 15, nI_leI (by decide) (by omega)]; omega), sm_n1, nI_clamp (by omega), nI_clamp (by omega)]
        refine ⟨vp_in_nI (by omega) (by decide), vp_in_nI (by omega) (by decide), ?_⟩
        refine ih (j + 1) _ (by omega) (fun a i q1 q2 => by rw [sm_st_o _ _ q2]; exact hf a i q1 q2) (fun i => by rw [sm_st_o _ _ (by decide)]; exact h128 i) (fun i => ?_)
        by_cases e : i = j
        · subst e
          rw [sm_st_s, if_pos (by omega), h129, if_neg (by omega)]
        · rw [sm_st_j _ _ e, h129]
          by_cases e2 : i < j
          · rw [if_pos e2, if_pos (by omega)]
          · rw [if_neg e2, if_neg (by omega)]
    have loop1 : ∀ (q j : Nat) (I1 : Nat → Nat → Int32), j + q = 300 → (∀ a i, a ≠ 128 → I1 a i = I a i) → (∀ i, I1 128 i = if i < j then I 128 (i + 20) else I 128 i) → sm_W ex d 0 0 133 11 [some (.ref 123), some (.int (nI k)), some (.int (nI j))] [] (n, y, I1, L, R) Q := by
      intro q
      induction q with
      | zero =>
        intro j I1 hj hf h128
        obtain rfl : j = 300 := by omega
        refine w_X11_remember_11 hG ?_
        rw [if_pos (by decide)]
        exact loop2 15 0 I1 (by omega) (fun a i q1 _ => hf a i q1) h128 (fun i => by rw [if_neg (by omega)]; exact hf 129 i (by decide))
      | succ q ih =>
        intro j I1 hj hf h128
        refine w_X11_remember_11 hG ?_
        have e20 : nI j + 20 = nI (j + 20) := nI_add j 20
        rw [if_neg (by rw [sm_of 300, nI_leI (by decide) (by omega)]; omega), sm_n1, e20, nI_clamp (by omega), nI_clamp (by omega)]
        refine ⟨vp_in_nI (by omega) (by decide), vp_in_nI (by omega) (by decide), ?_⟩
        refine ih (j + 1) _ (by omega) (fun a i q1 => by rw [sm_st_o _ _ q1]; exact hf a i q1) (fun i => ?_)
        by_cases e : i = j
        · subst e
          rw [sm_st_s, if_pos (by omega), h128, if_neg (by omega)]
        · rw [sm_st_j _ _ e, h128]
          by_cases e2 : i < j
          · rw [if_pos e2, if_pos (by omega)]
          · rw [if_neg e2, if_neg (by omega)]
    exact loop1 300 0 I (by omega) (fun _ _ _ => rfl) (fun i => by rw [if_neg (by omega)])

