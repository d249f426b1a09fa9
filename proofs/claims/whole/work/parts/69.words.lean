set_option maxRecDepth 100000 in
theorem w_X7_wordIn_0 {ex : sm_O} {d n : Nat} {y : sm_Y} {I : Nat → Nat → Int32} {L : Nat → Nat → Int64} {R : Nat → Nat → Option Nat} {Q : sm_Q} {w2 : Option Value} {w3 : Option Value} {w4 : Option Value} {w5 : Option Value} {w6 : Option Value} {a1 : Nat} (hG : sm_G y R) (k : if (I 120 6) = 1 then (sm_W ex d 0 0 53 23 [some (.ref 120), some (.retAddr a1), some (.int 0), some (.int (I 120 4)), some (.int 1), some (.int 0), w6] [] (n, y, I, L, R) Q) else (Q (some (.int (-1))) (n, y, I, L, R))) : sm_W ex d 0 0 53 0 [some (.ref 120), some (.retAddr a1), w2, w3, w4, w5, w6] [] (n, y, I, L, R) Q := sm_in (sm_in (And.intro (hG.1 120 (Nat.le_of_ble_eq_true rfl)) (sm_in (sm_in (And.intro (fun c1 => have k1t := Eq.mp (if_pos c1) k; sm_in (sm_in (And.intro (Nat.le_of_ble_eq_true rfl) (sm_in (sm_in (And.intro (hG.1 120 (Nat.le_of_ble_eq_true rfl)) (sm_in (And.intro (Nat.le_of_ble_eq_true rfl) (sm_in (sm_in (And.intro (Nat.le_of_ble_eq_true rfl) (sm_in (sm_in (And.intro (Nat.le_of_ble_eq_true rfl) (k1t))))))))))))))) (fun c1 => have k1f := Eq.mp (if_neg c1) k; sm_in (sm_in (And.intro rfl k1f))))))))
set_option maxRecDepth 100000 in
theorem w_X7_wordIn_23 {ex : sm_O} {d n : Nat} {y : sm_Y} {I : Nat → Nat → Int32} {L : Nat → Nat → Int64} {R : Nat → Nat → Option Nat} {Q : sm_Q} {w6 : Option Value} {a1 : Nat} {a2 : Int32} {a3 : Int32} {a4 : Int32} {a5 : Int32} (hG : sm_G y R) (h1 : 2 ≤ a1 ∧ a1 < 11) (h2 : 5 ≤ d) (k : if (nI (ex.2 a1).length) ≤ a5 then (if a4 = 0 then (Q (some (.int (-1))) (n, y, I, L, R)) else (if a3 = (I 120 5) then (Q (some (.int a2)) (n, y, I, L, R)) else (Q (some (.int (-1))) (n, y, I, L, R)))) else (vp_in a5 (ex.2 a1).length ∧ (if ((ex.2 a1).getD a5.toNatClampNeg 0) = 32 then (if a4 = 0 then (sm_W ex d 0 0 53 23 [some (.ref 120), some (.retAddr a1), some (.int (a2 + 1)), some (.int (I 120 4)), some (.int 1), some (.int (a5 + 1)), some (.int ((ex.2 a1).getD a5.toNatClampNeg 0))] [] (n, y, I, L, R) Q) else (if a3 = (I 120 5) then (Q (some (.int a2)) (n, y, I, L, R)) else (sm_W ex d 0 0 53 23 [some (.ref 120), some (.retAddr a1), some (.int (a2 + 1)), some (.int (I 120 4)), some (.int 1), some (.int (a5 + 1)), some (.int ((ex.2 a1).getD a5.toNatClampNeg 0))] [] (n, y, I, L, R) Q))) else (if a4 = 0 then (sm_W ex d 0 0 53 23 [some (.ref 120), some (.retAddr a1), some (.int a2), some (.int (a3 + 1)), some (.int 0), some (.int (a5 + 1)), some (.int ((ex.2 a1).getD a5.toNatClampNeg 0))] [] (n, y, I, L, R) Q) else (if (I 120 5) ≤ a3 then (sm_W ex d 0 0 53 23 [some (.ref 120), some (.retAddr a1), some (.int a2), some (.int (a3 + 1)), some (.int 0), some (.int (a5 + 1)), some (.int ((ex.2 a1).getD a5.toNatClampNeg 0))] [] (n, y, I, L, R) Q) else (vp_in a3 400 ∧ (if (I 119 a3.toNatClampNeg) = ((ex.2 a1).getD a5.toNatClampNeg 0) then (sm_W ex d 0 0 53 23 [some (.ref 120), some (.retAddr a1), some (.int a2), some (.int (a3 + 1)), some (.int 1), some (.int (a5 + 1)), some (.int ((ex.2 a1).getD a5.toNatClampNeg 0))] [] (n, y, I, L, R) Q) else (sm_W ex d 0 0 53 23 [some (.ref 120), some (.retAddr a1), some (.int a2), some (.int (a3 + 1)), some (.int 0), some (.int (a5 + 1)), some (.int ((ex.2 a1).getD a5.toNatClampNeg 0))] [] (n, y, I, L, R) Q)))))))) : sm_W ex d 0 0 53 23 [some (.ref 120), some (.retAddr a1), some (.int a2), some (.int a3), some (.int a4), some (.int a5), w6] [] (n, y, I, L, R) Q := sm_in (sm_in (sm_in (And.intro h1 (And.intro h2 (And.intro (Nat.le_of_ble_eq_true rfl) (sm_in (And.intro (fun c1 => have k1t := Eq.mp (if_pos c1) k; sm_in (sm_in (And.intro (fun c2 => have k2t := Eq.mp (if_pos c2) k1t; sm_in (sm_in (And.intro rfl k2t))) (fun c2 => have k2f := Eq.mp (if_neg c2) k1t; sm_in (sm_in (sm_in (And.intro (hG.1 120 (Nat.le_of_ble_eq_true rfl)) (sm_in (And.intro (fun c3 => have k3f := Eq.mp (if_neg c3) k2f; sm_in (sm_in (And.intro rfl k3f))) (fun c3 => have k3t := Eq.mp (if_pos c3) k2f; sm_in (sm_in (sm_in (And.intro rfl k3t))))))))))))) (fun c1 => have k1f := Eq.mp (if_neg c1) k; sm_in (sm_in ((have e4 := k1f.1; have k4 := k1f.2; sm_in (And.intro h1 (And.intro h2 (And.intro (Nat.le_of_ble_eq_true rfl) (And.intro e4 (sm_in (And.intro (Nat.le_of_ble_eq_true rfl) (sm_in (sm_in (sm_in (And.intro (fun c5 => have k5f := Eq.mp (if_neg c5) k4; sm_in (sm_in (And.intro (fun c8 => have k8t := Eq.mp (if_pos c8) k5f; sm_in (sm_in (And.intro (Nat.le_of_ble_eq_true rfl) (sm_in (And.intro (Nat.le_of_ble_eq_true rfl) (sm_in (And.intro (Nat.le_of_ble_eq_true rfl) (sm_in (k8t))))))))) (fun c8 => have k8f := Eq.mp (if_neg c8) k5f; sm_in (sm_in (sm_in (And.intro (hG.1 120 (Nat.le_of_ble_eq_true rfl)) (sm_in (And.intro (fun c9 => have k9t := Eq.mp (if_pos c9) k8f; sm_in (sm_in (And.intro (Nat.le_of_ble_eq_true rfl) (sm_in (And.intro (Nat.le_of_ble_eq_true rfl) (sm_in (And.intro (Nat.le_of_ble_eq_true rfl) (sm_in (k9t))))))))) (fun c9 => have k9f := Eq.mp (if_neg c9) k8f; sm_in (sm_in (And.intro (hG.1 120 (Nat.le_of_ble_eq_true rfl)) (sm_gfr rfl (hG.2 120 0 rfl) (sm_in ((have e10 := k9f.1; have k10 := k9f.2; sm_in (Exists.intro 400 (And.intro (hG.1 119 (Nat.le_of_ble_eq_true rfl)) (And.intro e10 (sm_in (sm_in (And.intro (fun c11 => have k11f := Eq.mp (if_neg c11) k10; sm_in (sm_in (And.intro (Nat.le_of_ble_eq_true rfl) (sm_in (And.intro (Nat.le_of_ble_eq_true rfl) (sm_in (And.intro (Nat.le_of_ble_eq_true rfl) (sm_in (k11f))))))))) (fun c11 => have k11t := Eq.mp (if_pos c11) k10; sm_in (sm_in (sm_in (And.intro (Nat.le_of_ble_eq_true rfl) (sm_in (And.intro (Nat.le_of_ble_eq_true rfl) (sm_in (And.intro (Nat.le_of_ble_eq_true rfl) (sm_in (k11t)))))))))))))))))))))))))))))))) (fun c5 => have k5t := Eq.mp (if_pos c5) k4; sm_in (sm_in (And.intro (fun c6 => have k6t := Eq.mp (if_pos c6) k5t; sm_in (And.intro (Nat.le_of_ble_eq_true rfl) (sm_in (sm_in (And.intro (hG.1 120 (Nat.le_of_ble_eq_true rfl)) (sm_in (And.intro (Nat.le_of_ble_eq_true rfl) (sm_in (sm_in (And.intro (Nat.le_of_ble_eq_true rfl) (sm_in (sm_in (And.intro (Nat.le_of_ble_eq_true rfl) (sm_in (k6t))))))))))))))) (fun c6 => have k6f := Eq.mp (if_neg c6) k5t; sm_in (sm_in (sm_in (And.intro (hG.1 120 (Nat.le_of_ble_eq_true rfl)) (sm_in (And.intro (fun c7 => have k7f := Eq.mp (if_neg c7) k6f; sm_in (And.intro (Nat.le_of_ble_eq_true rfl) (sm_in (sm_in (And.intro (hG.1 120 (Nat.le_of_ble_eq_true rfl)) (sm_in (And.intro (Nat.le_of_ble_eq_true rfl) (sm_in (sm_in (And.intro (Nat.le_of_ble_eq_true rfl) (sm_in (sm_in (And.intro (Nat.le_of_ble_eq_true rfl) (sm_in (k7f))))))))))))))) (fun c7 => have k7t := Eq.mp (if_pos c7) k6f; sm_in (sm_in (And.intro rfl k7t)))))))))))))))))))))))))))))))))
set_option maxRecDepth 100000 in
theorem w_X7_numberOf_0 {ex : sm_O} {d n : Nat} {y : sm_Y} {I : Nat → Nat → Int32} {L : Nat → Nat → Int64} {R : Nat → Nat → Option Nat} {Q : sm_Q} {w1 : Option Value} {w3 : Option Value} {w4 : Option Value} {a2 : Int32} (hG : sm_G y R) (k : if (I 120 6) = 2 then (sm_W ex d 0 0 54 18 [some (.ref 120), w1, some (.int a2), some (.int 0), some (.int (I 120 4))] [] (n, y, I, L, R) Q) else (Q (some (.int (-1))) (n, y, I, L, R))) : sm_W ex d 0 0 54 0 [some (.ref 120), w1, some (.int a2), w3, w4] [] (n, y, I, L, R) Q := sm_in (sm_in (And.intro (hG.1 120 (Nat.le_of_ble_eq_true rfl)) (sm_in (sm_in (And.intro (fun c1 => have k1t := Eq.mp (if_pos c1) k; sm_in (sm_in (And.intro (Nat.le_of_ble_eq_true rfl) (sm_in (sm_in (And.intro (hG.1 120 (Nat.le_of_ble_eq_true rfl)) (sm_in (And.intro (Nat.le_of_ble_eq_true rfl) (k1t))))))))) (fun c1 => have k1f := Eq.mp (if_neg c1) k; sm_in (sm_in (And.intro rfl k1f))))))))
set_option maxRecDepth 100000 in
theorem w_X7_numberOf_18 {ex : sm_O} {d n : Nat} {y : sm_Y} {I : Nat → Nat → Int32} {L : Nat → Nat → Int64} {R : Nat → Nat → Option Nat} {Q : sm_Q} {a1 : Int32} {a2 : Int32} {a3 : Int32} {a4 : Int32} (hG : sm_G y R) (h1 : 1 ≤ d) (k : if (I 120 5) ≤ a4 then (if a3 < a1 then (Q (some (.int (-1))) (n, y, I, L, R)) else (if a2 < a3 then (Q (some (.int (-1))) (n, y, I, L, R)) else (Q (some (.int a3)) (n, y, I, L, R)))) else (if (I 120 1) ≤ a4 then (if a3 < a1 then (Q (some (.int (-1))) (n, y, I, L, R)) else (if a2 < a3 then (Q (some (.int (-1))) (n, y, I, L, R)) else (Q (some (.int a3)) (n, y, I, L, R)))) else (vp_in a4 400 ∧ sm_W ex d 0 0 54 18 [some (.ref 120), some (.int a1), some (.int a2), some (.int (if 1000000 < (((a3 * 10) + (I 119 a4.toNatClampNeg)) - 48) then 1000000 else (((a3 * 10) + (I 119 a4.toNatClampNeg)) - 48))), some (.int (a4 + 1))] [] (n, y, I, L, R) Q))) : sm_W ex d 0 0 54 18 [some (.ref 120), some (.int a1), some (.int a2), some (.int a3), some (.int a4)] [] (n, y, I, L, R) Q := sm_in (sm_in (sm_in (And.intro (hG.1 120 (Nat.le_of_ble_eq_true rfl)) (sm_in (And.intro (fun c1 => have k1t := Eq.mp (if_pos c1) k; sm_in (sm_in (sm_in (And.intro (fun c2 => have k2t := Eq.mp (if_pos c2) k1t; sm_in (sm_in (And.intro rfl k2t))) (fun c2 => have k2f := Eq.mp (if_neg c2) k1t; sm_in (sm_in (sm_in (And.intro (fun c3 => have k3t := Eq.mp (if_pos c3) k2f; sm_in (sm_in (And.intro rfl k3t))) (fun c3 => have k3f := Eq.mp (if_neg c3) k2f; sm_in (sm_in (sm_in (And.intro rfl k3f)))))))))))) (fun c1 => have k1f := Eq.mp (if_neg c1) k; sm_in (sm_in (sm_in (And.intro (hG.1 120 (Nat.le_of_ble_eq_true rfl)) (sm_in (And.intro (fun c4 => have k4t := Eq.mp (if_pos c4) k1f; sm_in (sm_in (sm_in (And.intro (fun c5 => have k5t := Eq.mp (if_pos c5) k4t; sm_in (sm_in (And.intro rfl k5t))) (fun c5 => have k5f := Eq.mp (if_neg c5) k4t; sm_in (sm_in (sm_in (And.intro (fun c6 => have k6t := Eq.mp (if_pos c6) k5f; sm_in (sm_in (And.intro rfl k6t))) (fun c6 => have k6f := Eq.mp (if_neg c6) k5f; sm_in (sm_in (sm_in (And.intro rfl k6f)))))))))))) (fun c4 => have k4f := Eq.mp (if_neg c4) k1f; sm_in (sm_in (sm_in (sm_in (sm_in (And.intro (hG.1 120 (Nat.le_of_ble_eq_true rfl)) (sm_gfr rfl (hG.2 120 0 rfl) (sm_in ((have e7 := k4f.1; have k7 := k4f.2; sm_in (Exists.intro 400 (And.intro (hG.1 119 (Nat.le_of_ble_eq_true rfl)) (And.intro e7 (sm_in (sm_in (sm_in (sm_in (sm_in (And.intro h1 (And.intro (Nat.le_of_ble_eq_true rfl) (sm_in (And.intro (Nat.le_of_ble_eq_true rfl) (sm_in (And.intro (Nat.le_of_ble_eq_true rfl) (sm_in (k7)))))))))))))))))))))))))))))))))))))
set_option maxRecDepth 100000 in
theorem w_X6_put_0 {ex : sm_O} {d n : Nat} {y : sm_Y} {I : Nat → Nat → Int32} {L : Nat → Nat → Int64} {R : Nat → Nat → Option Nat} {Q : sm_Q} {a0 : Nat} {a1 : Int32} {a2 : Int32} {ns0 nc0 : Nat} (ho0 : ok6 y R a0 ns0 nc0) (k : if (I a0 6) < (nI ns0) then (vp_in (I a0 6) ns0 ∧ Q (some (.int 1)) (n, y, sm_st (sm_st I (a0 + 1) ((I a0 6).toNatClampNeg) (a1 ||| (a2 <<< ((4 : Int32) &&& 31)))) a0 6 (((sm_st I (a0 + 1) ((I a0 6).toNatClampNeg) (a1 ||| (a2 <<< ((4 : Int32) &&& 31)))) a0 6) + 1), L, R)) else (Q (some (.int 0)) (n, y, I, L, R))) : sm_W ex d 0 0 37 0 [some (.ref a0), some (.int a1), some (.int a2)] [] (n, y, I, L, R) Q := sm_in (sm_in (And.intro (ok6_y0 ho0) (sm_in (sm_in (And.intro (ok6_y0 ho0) (sm_gfr rfl (ok6_r0 ho0) (sm_in (Exists.intro ns0 (Exists.intro 0 (And.intro (ok6_a1 ho0) (sm_in (And.intro (fun c1 => have k1t := Eq.mp (if_pos c1) k; sm_in (sm_in (And.intro (ok6_y0 ho0) (sm_gfr rfl (ok6_r0 ho0) (sm_in (sm_in (And.intro (ok6_y0 ho0) (sm_in (sm_in (sm_in (sm_in (sm_in ((have e2 := k1t.1; have k2 := k1t.2; sm_in (Exists.intro ns0 (And.intro (ok6_a1 ho0) (And.intro e2 (sm_in (sm_in (And.intro rfl (sm_in (And.intro (ok6_y0 ho0) (sm_in (sm_in (sm_in (And.intro (ok6_y0 ho0) (sm_in (sm_in (And.intro rfl (And.intro (Or.inr rfl) k2)))))))))))))))))))))))))))))) (fun c1 => have k1f := Eq.mp (if_neg c1) k; sm_in (sm_in (And.intro rfl (And.intro (Or.inl rfl) k1f))))))))))))))))
set_option maxRecDepth 100000 in
theorem w_X6_closeSkip_0 {ex : sm_O} {d n : Nat} {y : sm_Y} {I : Nat → Nat → Int32} {L : Nat → Nat → Int64} {R : Nat → Nat → Option Nat} {Q : sm_Q} {a0 : Nat} {a1 : Int32} {ns0 nc0 : Nat} (ho0 : ok6 y R a0 ns0 nc0) (k : if a1 < 0 then (Q none (n, y, I, L, R)) else (if (I a0 6) ≤ a1 then (Q none (n, y, I, L, R)) else (vp_in a1 ns0 ∧ Q none (n, y, sm_st I (a0 + 1) a1.toNatClampNeg ((I (a0 + 1) a1.toNatClampNeg) ||| ((((I a0 6) - a1) - 1) <<< ((4 : Int32) &&& 31))), L, R)))) : sm_W ex d 0 0 38 0 [some (.ref a0), some (.int a1)] [] (n, y, I, L, R) Q := sm_in (sm_in (And.intro (fun c1 => have k1t := Eq.mp (if_pos c1) k; sm_in (And.intro rfl (And.intro rfl k1t))) (fun c1 => have k1f := Eq.mp (if_neg c1) k; sm_in (sm_in (sm_in (And.intro (ok6_y0 ho0) (sm_in (And.intro (fun c2 => have k2t := Eq.mp (if_pos c2) k1f; sm_in (And.intro rfl (And.intro rfl k2t))) (fun c2 => have k2f := Eq.mp (if_neg c2) k1f; sm_in (sm_in (And.intro (ok6_y0 ho0) (sm_gfr rfl (ok6_r0 ho0) (sm_in (sm_in (And.intro rfl (And.intro rfl ((have e3 := k2f.1; have k3 := k2f.2; sm_in (Exists.intro ns0 (And.intro (ok6_a1 ho0) (And.intro e3 (sm_in (sm_in (And.intro (ok6_y0 ho0) (sm_in (sm_in (sm_in (sm_in (sm_in (sm_in (sm_in (sm_in (Exists.intro ns0 (And.intro (ok6_a1 ho0) (And.intro e3 (sm_in (And.intro rfl (And.intro rfl k3))))))))))))))))))))))))))))))))))))))
set_option maxRecDepth 100000 in
theorem w_X6_open_0 {ex : sm_O} {d n : Nat} {y : sm_Y} {I : Nat → Nat → Int32} {L : Nat → Nat → Int64} {R : Nat → Nat → Option Nat} {Q : sm_Q} {a0 : Nat} {a1 : Int32} {ns0 nc0 : Nat} (ho0 : ok6 y R a0 ns0 nc0) (k : if (I a0 5) < (nI nc0) then (vp_in (I a0 5) nc0 ∧ vp_in ((sm_st I (a0 + 2) ((I a0 5).toNatClampNeg) a1) a0 5) nc0 ∧ vp_in ((sm_st (sm_st I (a0 + 2) ((I a0 5).toNatClampNeg) a1) (a0 + 3) (((sm_st I (a0 + 2) ((I a0 5).toNatClampNeg) a1) a0 5).toNatClampNeg) (-1)) a0 5) nc0 ∧ vp_in ((sm_st (sm_st (sm_st I (a0 + 2) ((I a0 5).toNatClampNeg) a1) (a0 + 3) (((sm_st I (a0 + 2) ((I a0 5).toNatClampNeg) a1) a0 5).toNatClampNeg) (-1)) (a0 + 4) (((sm_st (sm_st I (a0 + 2) ((I a0 5).toNatClampNeg) a1) (a0 + 3) (((sm_st I (a0 + 2) ((I a0 5).toNatClampNeg) a1) a0 5).toNatClampNeg) (-1)) a0 5).toNatClampNeg) (-1)) a0 5) nc0 ∧ Q (some (.int 1)) (n, y, sm_st (sm_st (sm_st (sm_st (sm_st I (a0 + 2) ((I a0 5).toNatClampNeg) a1) (a0 + 3) (((sm_st I (a0 + 2) ((I a0 5).toNatClampNeg) a1) a0 5).toNatClampNeg) (-1)) (a0 + 4) (((sm_st (sm_st I (a0 + 2) ((I a0 5).toNatClampNeg) a1) (a0 + 3) (((sm_st I (a0 + 2) ((I a0 5).toNatClampNeg) a1) a0 5).toNatClampNeg) (-1)) a0 5).toNatClampNeg) (-1)) (a0 + 5) (((sm_st (sm_st (sm_st I (a0 + 2) ((I a0 5).toNatClampNeg) a1) (a0 + 3) (((sm_st I (a0 + 2) ((I a0 5).toNatClampNeg) a1) a0 5).toNatClampNeg) (-1)) (a0 + 4) (((sm_st (sm_st I (a0 + 2) ((I a0 5).toNatClampNeg) a1) (a0 + 3) (((sm_st I (a0 + 2) ((I a0 5).toNatClampNeg) a1) a0 5).toNatClampNeg) (-1)) a0 5).toNatClampNeg) (-1)) a0 5).toNatClampNeg) 1) a0 5 (((sm_st (sm_st (sm_st (sm_st I (a0 + 2) ((I a0 5).toNatClampNeg) a1) (a0 + 3) (((sm_st I (a0 + 2) ((I a0 5).toNatClampNeg) a1) a0 5).toNatClampNeg) (-1)) (a0 + 4) (((sm_st (sm_st I (a0 + 2) ((I a0 5).toNatClampNeg) a1) (a0 + 3) (((sm_st I (a0 + 2) ((I a0 5).toNatClampNeg) a1) a0 5).toNatClampNeg) (-1)) a0 5).toNatClampNeg) (-1)) (a0 + 5) (((sm_st (sm_st (sm_st I (a0 + 2) ((I a0 5).toNatClampNeg) a1) (a0 + 3) (((sm_st I (a0 + 2) ((I a0 5).toNatClampNeg) a1) a0 5).toNatClampNeg) (-1)) (a0 + 4) (((sm_st (sm_st I (a0 + 2) ((I a0 5).toNatClampNeg) a1) (a0 + 3) (((sm_st I (a0 + 2) ((I a0 5).toNatClampNeg) a1) a0 5).toNatClampNeg) (-1)) a0 5).toNatClampNeg) (-1)) a0 5).toNatClampNeg) 1) a0 5) + 1), L, R)) else (Q (some (.int 0)) (n, y, I, L, R))) : sm_W ex d 0 0 36 0 [some (.ref a0), some (.int a1)] [] (n, y, I, L, R) Q := sm_in (sm_in (And.intro (ok6_y0 ho0) (sm_in (sm_in (And.intro (ok6_y0 ho0) (sm_gfr rfl (ok6_r1 ho0) (sm_in (Exists.intro nc0 (Exists.intro 0 (And.intro (ok6_a2 ho0) (sm_in (And.intro (fun c1 => have k1t := Eq.mp (if_pos c1) k; sm_in (sm_in (And.intro (ok6_y0 ho0) (sm_gfr rfl (ok6_r1 ho0) (sm_in (sm_in (And.intro (ok6_y0 ho0) (sm_in ((have e2 := k1t.1; have k2 := k1t.2; sm_in (Exists.intro nc0 (And.intro (ok6_a2 ho0) (And.intro e2 (sm_in (sm_in (And.intro (ok6_y0 ho0) (sm_gfr rfl (ok6_r2 ho0) (sm_in (sm_in (And.intro (ok6_y0 ho0) (sm_in ((have e3 := k2.1; have k3 := k2.2; sm_in (Exists.intro nc0 (And.intro (ok6_a3 ho0) (And.intro e3 (sm_in (sm_in (And.intro (ok6_y0 ho0) (sm_gfr rfl (ok6_r3 ho0) (sm_in (sm_in (And.intro (ok6_y0 ho0) (sm_in ((have e4 := k3.1; have k4 := k3.2; sm_in (Exists.intro nc0 (And.intro (ok6_a4 ho0) (And.intro e4 (sm_in (sm_in (And.intro (ok6_y0 ho0) (sm_gfr rfl (ok6_r4 ho0) (sm_in (sm_in (And.intro (ok6_y0 ho0) (sm_in ((have e5 := k4.1; have k5 := k4.2; sm_in (Exists.intro nc0 (And.intro (ok6_a5 ho0) (And.intro e5 (sm_in (sm_in (And.intro rfl (sm_in (And.intro (ok6_y0 ho0) (sm_in (sm_in (sm_in (And.intro (ok6_y0 ho0) (sm_in (sm_in (And.intro rfl (And.intro (Or.inr rfl) k5))))))))))))))))))))))))))))))))))))))))))))))))))))))))))))))))) (fun c1 => have k1f := Eq.mp (if_neg c1) k; sm_in (sm_in (And.intro rfl (And.intro (Or.inl rfl) k1f))))))))))))))))
-- WORDS
def txL : List (List Nat) → List Nat
  | [] => []
  | [w] => w
  | w :: r => w ++ 32 :: txL r
/-- the texts of the class, by number -/
def txOK (ex : sm_O) : Prop := ex.2 2 = (txL ordKinds).map nI ∧ ex.2 3 = (txL lawKinds).map nI ∧ ex.2 4 = wdTimes.map nI ∧ ex.2 5 = wdIf.map nI ∧ ex.2 6 = wdOr.map nI ∧ ex.2 7 = wdAnd.map nI ∧ ex.2 8 = wdNot.map nI ∧ ex.2 9 = (txL ordWords).map nI ∧ ex.2 10 = (txL lawWords).map nI
def wSc (t : Tp) (p e : Nat) : List Nat → Nat → Nat → Bool → Option Nat
  | [], wh, pl, sm => if sm = true ∧ pl = e then some wh else none
  | c :: r, wh, pl, sm => if c = 32 then (if sm = true ∧ pl = e then some wh else wSc t p e r (wh + 1) p true) else wSc t p e r wh (pl + 1) (sm && decide (pl < e ∧ t.2 pl = c))
def wMt (t : Tp) (e : Nat) : Nat → List Nat → Bool
  | _, [] => true
  | pl, c :: w => decide (pl < e ∧ t.2 pl = c) && wMt t e (pl + 1) w
theorem wSc_word (t : Tp) (p e : Nat) (r : List Nat) : ∀ (w : List Nat) (wh pl : Nat) (sm : Bool), (∀ c ∈ w, c ≠ 32) → wSc t p e (w ++ r) wh pl sm = wSc t p e r wh (pl + w.length) (sm && wMt t e pl w)
  | [], wh, pl, sm, _ => by simp [wMt]
  | c :: w, wh, pl, sm, h => by
    show (if c = 32 then _ else wSc t p e (w ++ r) wh (pl + 1) (sm && decide (pl < e ∧ t.2 pl = c))) = _
    rw [if_neg (h c List.mem_cons_self), wSc_word t p e r w wh (pl + 1) _ (fun c' h' => h c' (List.mem_cons_of_mem _ h'))]
    simp only [wMt, List.length_cons, Bool.and_assoc, Nat.add_assoc, Nat.add_comm 1]
theorem wMt_eq (t : Tp) (e : Nat) : ∀ (w : List Nat) (p : Nat), p ≤ e → ((wMt t e p w = true ∧ p + w.length = e) ↔ tkC t p (e - p) = w)
  | [], p, hp => by
    simp only [wMt, List.length_nil, Nat.add_zero, true_and]
    constructor
    · intro h
      rw [h, Nat.sub_self]
      rfl
    · intro h
      have := congrArg List.length h
      rw [tkC_len] at this
      simp at this
      omega
  | c :: w, p, hp => by
    by_cases hpe : p = e
    · subst hpe
      rw [Nat.sub_self]
      constructor
      · intro h
        have := h.2
        simp at this
      · intro h
        cases h
    · obtain ⟨m, hm⟩ : ∃ m, e - p = m + 1 := ⟨e - p - 1, by omega⟩
      have ih := wMt_eq t e w (p + 1) (by omega)
      rw [hm]
      show _ ↔ t.2 p :: tkC t (p + 1) m = c :: w
      rw [show e - (p + 1) = m by omega] at ih
      simp only [wMt, Bool.and_eq_true, decide_eq_true_eq, List.length_cons, List.cons.injEq, ← ih]
      constructor
      · intro h
        exact ⟨h.1.1.2, h.1.2, by omega⟩
      · intro h
        exact ⟨⟨⟨by omega, h.1⟩, h.2.1⟩, by omega⟩
theorem wSc_ix (t : Tp) (p e : Nat) (hp : p ≤ e) : ∀ (ws : List (List Nat)) (wh : Nat), ws ≠ [] → (∀ w ∈ ws, ∀ c ∈ w, c ≠ 32) → wSc t p e (txL ws) wh p true = (wIx ws (tkC t p (e - p))).map (· + wh)
  | [w], wh, _, h => by
    have e1 : txL [w] = w ++ [] := (List.append_nil w).symm
    rw [e1, wSc_word t p e [] w wh p true (h w List.mem_cons_self)]
    have := wMt_eq t e w p hp
    show (if (true && wMt t e p w) = true ∧ p + w.length = e then some wh else none) = _
    rw [Bool.true_and]
    show _ = (if tkC t p (e - p) = w then some 0 else (wIx [] _).map (· + 1)).map (· + wh)
    by_cases q : tkC t p (e - p) = w
    · rw [if_pos q, if_pos (this.mpr q)]
      simp
    · rw [if_neg q, if_neg (fun z => q (this.mp z))]
      rfl
  | w :: w2 :: r, wh, _, h => by
    have e1 : txL (w :: w2 :: r) = w ++ 32 :: txL (w2 :: r) := rfl
    rw [e1, wSc_word t p e _ w wh p true (h w List.mem_cons_self)]
    have := wMt_eq t e w p hp
    have ih := wSc_ix t p e hp (w2 :: r) (wh + 1) (by simp) (fun x hx => h x (List.mem_cons_of_mem _ hx))
    show (if 32 = 32 then (if (true && wMt t e p w) = true ∧ p + w.length = e then some wh else wSc t p e (txL (w2 :: r)) (wh + 1) p true) else _) = _
    rw [if_pos rfl, Bool.true_and, ih]
    show _ = (if tkC t p (e - p) = w then some 0 else (wIx (w2 :: r) _).map (· + 1)).map (· + wh)
    by_cases q : tkC t p (e - p) = w
    · rw [if_pos q, if_pos (this.mpr q)]
      simp
    · rw [if_neg q, if_neg (fun z => q (this.mp z)), Option.map_map]
      congr 1
      funext x
      simp only [Function.comp]
      omega
theorem wIx_nil : ∀ (ws : List (List Nat)), (∀ w ∈ ws, w ≠ []) → wIx ws [] = none
  | [], _ => rfl
  | w :: r, h => by
    show (if [] = w then some 0 else (wIx r []).map (· + 1)) = none
    rw [if_neg (fun q => h w List.mem_cons_self q.symm), wIx_nil r (fun x hx => h x (List.mem_cons_of_mem _ hx))]
    rfl
/-- the Reader at a place -/
def rS (t : Tp) (o : Bool) (P : Nat) (I : Nat → Nat → Int32) (R : Nat → Nat → Option Nat) (p pt : Nat) : Prop := cTk t I ∧ I 120 2 = (if o = true then 1 else 0) ∧ R 120 3 = some P ∧ I 120 4 = nI p ∧ I 120 5 = nI (tkE t p) ∧ I 120 6 = nI (tkK t p) ∧ I 120 7 = nI pt ∧ p ≤ t.1 ∧ pt ≤ 50 ∧ P + 5 < 119
def oI (o : Option Nat) : Int32 := match o with
  | some i => nI i
  | none => -1
set_option maxHeartbeats 1000000 in
theorem lp_wordIn {ex : sm_O} {y : sm_Y} {I : Nat → Nat → Int32} {L : Nat → Nat → Int64} {R : Nat → Nat → Option Nat} {Q : sm_Q} {d n j p e : Nat} {t : Tp} (hd : 5 ≤ d) (hG : sm_G y R) (ht : cTk t I) (hj : 2 ≤ j ∧ j < 11) (hp : I 120 4 = nI p) (he : I 120 5 = nI e) (het : e ≤ t.1) (hp4 : p ≤ 400) (tx : List Nat) (htx : ex.2 j = tx.map nI) (hlen : tx.length ≤ 1000) (hc : ∀ c ∈ tx, c < 256) :
    ∀ (r pre : List Nat) (wh pl : Nat) (sm : Bool) (w6 : Option Value), tx = pre ++ r → wh ≤ pre.length → pl ≤ 400 + pre.length → Q (some (.int (oI (wSc t p e r wh pl sm)))) (n, y, I, L, R) →
    sm_W ex d 0 0 53 23 [some (.ref 120), some (.retAddr j), some (.int (nI wh)), some (.int (nI pl)), some (.int (if sm = true then 1 else 0)), some (.int (nI pre.length)), w6] [] (n, y, I, L, R) Q := by
  have h400 := ht.2.1
  intro r
  induction r with
  | nil =>
    intro pre wh pl sm w6 hpr hwh hpl k
    refine w_X7_wordIn_23 hG hj hd ?_
    have hl : tx.length = pre.length := by rw [hpr]; simp
    rw [htx, List.length_map, hl, if_pos (Int32.le_refl _), he]
    have k : Q (some (.int (oI (if sm = true ∧ pl = e then some wh else none)))) (n, y, I, L, R) := k
    have epl : nI pl = nI e ↔ pl = e := nI_eq (by omega) (by omega)
    simp only [epl]
    cases sm with
    | false =>
      rw [if_neg (fun z => absurd z.1 (by decide))] at k
      rw [if_pos (by decide)]
      exact k
    | true =>
      rw [if_neg (by decide)]
      by_cases q : pl = e
      · rw [if_pos ⟨rfl, q⟩] at k
        rw [if_pos q]
        exact k
      · rw [if_neg (fun z => q z.2)] at k
        rw [if_neg q]
        exact k
  | cons c r ih =>
    intro pre wh pl sm w6 hpr hwh hpl k
    refine w_X7_wordIn_23 hG hj hd ?_
    have hl : pre.length < tx.length := by rw [hpr]; simp
    have hcc : c < 256 := hc c (by rw [hpr]; simp)
    have hget : ((ex.2 j).getD pre.length 0) = nI c := by
      rw [htx, List.getD_eq_getElem?_getD, List.getElem?_map, hpr, List.getElem?_append_right (Nat.le_refl _), Nat.sub_self]
      rfl
    have hlj : (ex.2 j).length = tx.length := by rw [htx, List.length_map]
    rw [nI_clamp (by omega), hget, hlj, if_neg (by rw [nI_leI (by omega) (by omega)]; omega), he, hp]
    refine ⟨vp_in_nI (by omega) (by omega), ?_⟩
    have k : Q (some (.int (oI (if c = 32 then (if sm = true ∧ pl = e then some wh else wSc t p e r (wh + 1) p true) else wSc t p e r wh (pl + 1) (sm && decide (pl < e ∧ t.2 pl = c)))))) (n, y, I, L, R) := k
    have e32 : nI c = 32 ↔ c = 32 := nI_eq (b := 32) (by omega) (by decide)
    have epl : nI pl = nI e ↔ pl = e := nI_eq (by omega) (by omega)
    have elt : nI e ≤ nI pl ↔ e ≤ pl := nI_leI (by omega) (by omega)
    have pre1 : tx = (pre ++ [c]) ++ r := by rw [hpr]; simp
    have len1 : (pre ++ [c]).length = pre.length + 1 := by simp
    simp only [e32, epl, elt, sm_n1]
    have ih1 := fun wh pl sm w6 a b cc => ih (pre ++ [c]) wh pl sm w6 pre1 a b cc
    rw [len1] at ih1
    by_cases c32 : c = 32
    · rw [if_pos c32] at k ⊢
      have nxt : ¬ (sm = true ∧ pl = e) → sm_W ex d 0 0 53 23 [some (.ref 120), some (.retAddr j), some (.int (nI (wh + 1))), some (.int (nI p)), some (.int 1), some (.int (nI (pre.length + 1))), some (.int (nI c))] [] (n, y, I, L, R) Q := fun z => by
        rw [if_neg z] at k
        exact ih1 (wh + 1) p true _ (by omega) (by omega) k
      cases sm with
      | false =>
        rw [if_pos (by decide)]
        exact nxt (fun z => absurd z.1 (by decide))
      | true =>
        rw [if_neg (by decide)]
        by_cases q : pl = e
        · rw [if_pos ⟨rfl, q⟩] at k
          rw [if_pos q]
          exact k
        · rw [if_neg q]
          exact nxt (fun z => q z.2)
    · rw [if_neg c32] at k ⊢
      have nxt : ∀ b : Bool, (sm && decide (pl < e ∧ t.2 pl = c)) = b → sm_W ex d 0 0 53 23 [some (.ref 120), some (.retAddr j), some (.int (nI wh)), some (.int (nI (pl + 1))), some (.int (if b = true then 1 else 0)), some (.int (nI (pre.length + 1))), some (.int (nI c))] [] (n, y, I, L, R) Q := fun b hb => by
        rw [hb] at k
        exact ih1 wh (pl + 1) b _ (by omega) (by omega) k
      cases sm with
      | false =>
        rw [if_pos (by decide)]
        exact nxt false rfl
      | true =>
        rw [if_neg (by decide)]
        by_cases q : e ≤ pl
        · rw [if_pos q]
          exact nxt false (by rw [Bool.true_and, decide_eq_false_iff_not]; omega)
        · have hb := ht.2.2 pl (by omega)
          rw [if_neg q, nI_clamp (by omega), hb.1]
          refine ⟨vp_in_nI (by omega) (by decide), ?_⟩
          have ecc : nI (t.2 pl) = nI c ↔ t.2 pl = c := nI_eq (by omega) (by omega)
          simp only [ecc]
          by_cases q2 : t.2 pl = c
          · rw [if_pos q2]
            exact nxt true (by rw [Bool.true_and, decide_eq_true_eq]; omega)
          · rw [if_neg q2]
            exact nxt false (by rw [Bool.true_and, decide_eq_false_iff_not]; omega)
theorem c_X7_wordIn {ex : sm_O} {n : Nat} {y : sm_Y} {I : Nat → Nat → Int32} {L : Nat → Nat → Int64} {R : Nat → Nat → Option Nat} {Q : sm_Q} {d p pt P j : Nat} {o : Bool} {t : Tp} {ws : List (List Nat)} {w2 w3 w4 w5 w6 : Option Value} (hd : 5 ≤ d) (hG : sm_G y R) (hs : rS t o P I R p pt) (hj : 2 ≤ j ∧ j < 11) (htx : ex.2 j = (txL ws).map nI) (hlen : (txL ws).length ≤ 1000) (hc : ∀ c ∈ txL ws, c < 256) (hne : ws ≠ []) (hw : ∀ w ∈ ws, w ≠ []) (h32 : ∀ w ∈ ws, ∀ c ∈ w, c ≠ 32)
    (k : Q (some (.int (oI (wIx ws (tkWd t p))))) (n, y, I, L, R)) : sm_W ex d 0 0 53 0 [some (.ref 120), some (.retAddr j), w2, w3, w4, w5, w6] [] (n, y, I, L, R) Q := by
  obtain ⟨s1, s2, s3, s4, s5, s6, s7, s8, s9, s10⟩ := hs
  have h400 := s1.2.1
  refine w_X7_wordIn_0 hG ?_
  have hle := tkK_le t p
  rw [s6, s4]
  have e1 : nI (tkK t p) = 1 ↔ tkK t p = 1 := nI_eq (b := 1) (by omega) (by decide)
  simp only [e1]
  unfold tkWd at k
  by_cases q : tkK t p = 1
  · rw [if_pos q] at k ⊢
    have hb := tkE_b s8
    have := lp_wordIn (Q := Q) (n := n) (L := L) hd hG s1 hj s4 s5 hb.2 (by omega) (txL ws) htx hlen hc (txL ws) [] 0 p true w6 rfl (Nat.le_refl _) (by omega) (by rw [wSc_ix t p (tkE t p) hb.1 ws 0 hne h32]; simpa using k)
    exact this
  · rw [if_neg q] at k ⊢
    rw [wIx_nil ws hw] at k
    exact k

-- NUMBERS
theorem dg_lt (t : Tp) (p : Nat) : ∀ i, (∀ k, k < i → 48 ≤ t.2 (p + k) ∧ t.2 (p + k) ≤ 57) → True := fun _ _ => trivial
set_option maxHeartbeats 1000000 in
theorem c_X7_numberOf {ex : sm_O} {n : Nat} {y : sm_Y} {I : Nat → Nat → Int32} {L : Nat → Nat → Int64} {R : Nat → Nat → Option Nat} {Q : sm_Q} {d p pt P lo hi : Nat} {o : Bool} {t : Tp} {w3 w4 : Option Value} (hd : 1 ≤ d) (hG : sm_G y R) (hs : rS t o P I R p pt) (hdg : tkK t p = 2 → ∀ i, p ≤ i → i < tkE t p → 48 ≤ t.2 i ∧ t.2 i ≤ 57) (hhi : hi ≤ 1000) (hlo : lo ≤ hi)
    (k : Q (some (.int (if tkK t p = 2 ∧ lo ≤ tkN t p ∧ tkN t p ≤ hi then nI (tkN t p) else -1))) (n, y, I, L, R)) : sm_W ex d 0 0 54 0 [some (.ref 120), some (.int (nI lo)), some (.int (nI hi)), w3, w4] [] (n, y, I, L, R) Q := by
  obtain ⟨s1, s2, s3, s4, s5, s6, s7, s8, s9, s10⟩ := hs
  have h400 := s1.2.1
  have hle := tkK_le t p
  refine w_X7_numberOf_0 hG ?_
  rw [s6, s4]
  have e2 : nI (tkK t p) = 2 ↔ tkK t p = 2 := nI_eq (b := 2) (by omega) (by decide)
  simp only [e2]
  by_cases q : ¬ tkK t p = 2
  · rw [if_neg (fun z => q z.1)] at k
    rw [if_neg q]
    exact k
  have q := Decidable.not_not.mp q
  rw [if_pos q]
  have hE := tkE_b s8
  have hdg := hdg q
  have lp : ∀ (r i : Nat), p + i + r = tkE t p → sm_W ex d 0 0 54 18 [some (.ref 120), some (.int (nI lo)), some (.int (nI hi)), some (.int (nI (min (dg t p i) 1000000))), some (.int (nI (p + i)))] [] (n, y, I, L, R) Q := by
    intro r
    induction r with
    | zero =>
      intro i hi'
      refine w_X7_numberOf_18 hG hd ?_
      rw [s5, show p + i = tkE t p by omega, if_pos (Int32.le_refl _)]
      have hN : tkN t p = dg t p i := by unfold tkN; rw [show tkE t p - p = i by omega]
      rw [hN] at k
      have f1 : nI (min (dg t p i) 1000000) < nI lo ↔ dg t p i < lo := by rw [nI_ltI (by omega) (by omega)]; omega
      have f2 : nI hi < nI (min (dg t p i) 1000000) ↔ hi < dg t p i := by rw [nI_ltI (by omega) (by omega)]; omega
      simp only [f1, f2]
      by_cases g1 : dg t p i < lo
      · rw [if_neg (by omega)] at k
        rw [if_pos g1]
        exact k
      · rw [if_neg g1]
        by_cases g2 : hi < dg t p i
        · rw [if_neg (by omega)] at k
          rw [if_pos g2]
          exact k
        · rw [if_pos ⟨q, by omega, by omega⟩] at k
          rw [if_neg g2, show min (dg t p i) 1000000 = dg t p i by omega]
          exact k
    | succ r ih =>
      intro i hi'
      refine w_X7_numberOf_18 hG hd ?_
      have hb := s1.2.2 (p + i) (by omega)
      have hd1 := hdg (p + i) (by omega) (by omega)
      rw [s5, s1.1, if_neg (by rw [nI_leI (by omega) (by omega)]; omega), if_neg (by rw [nI_leI (by omega) (by omega)]; omega), nI_clamp (by omega), hb.1, sm_n1]
      refine ⟨vp_in_nI (by omega) (by decide), ?_⟩
      have ih := ih (i + 1) (by omega)
      have ev : (nI (min (dg t p i) 1000000) * 10 + nI (t.2 (p + i))) - 48 = nI (min (dg t p i) 1000000 * 10 + (t.2 (p + i) - 48)) := by
        rw [sm_of 10, pk_mul, nI_add, sm_of 48, pk_sub (by omega)]
        congr 1
        omega
      rw [ev]
      have f3 : 1000000 < nI (min (dg t p i) 1000000 * 10 + (t.2 (p + i) - 48)) ↔ 1000000 < min (dg t p i) 1000000 * 10 + (t.2 (p + i) - 48) := nI_ltI (a := 1000000) (by decide) (by omega)
      have e3 : (if 1000000 < nI (min (dg t p i) 1000000 * 10 + (t.2 (p + i) - 48)) then (1000000 : Int32) else nI (min (dg t p i) 1000000 * 10 + (t.2 (p + i) - 48))) = nI (min (dg t p (i + 1)) 1000000) := by
        have hg : dg t p (i + 1) = dg t p i * 10 + (t.2 (p + i) - 48) := rfl
        rw [hg]
        by_cases g : 1000000 < min (dg t p i) 1000000 * 10 + (t.2 (p + i) - 48)
        · rw [if_pos (f3.mpr g), sm_of 1000000]
          congr 1
          omega
        · rw [if_neg (fun z => g (f3.mp z))]
          congr 1
          omega
      rw [e3]
      exact ih
  have := lp (tkE t p - p) 0 (by omega)
  exact this
theorem tkR_in (t : Tp) (k : Nat) : ∀ f p i, p ≤ i → i < tkR t k f p → tkK t i = k
  | 0, p, i, h1, h2 => absurd h2 (by show ¬ i < p; omega)
  | f + 1, p, i, h1, h2 => by
    unfold tkR at h2
    split at h2
    · rename_i h
      by_cases e : i = p
      · rw [e]; exact h.2
      · exact tkR_in t k f (p + 1) i (by omega) h2
    · omega
theorem tkE_in {t : Tp} {p : Nat} (h : tkK t p = 1 ∨ tkK t p = 2) {i : Nat} (h1 : p ≤ i) (h2 : i < tkE t p) : tkK t i = tkK t p := by
  unfold tkE at h2
  rw [if_neg (by omega), if_neg (by omega)] at h2
  by_cases e : i = p
  · rw [e]
  · exact tkR_in t _ 400 (p + 1) i (by omega) h2
theorem tkK_dig {t : Tp} {i : Nat} (h : tkK t i = 2) : 48 ≤ t.2 i ∧ t.2 i ≤ 57 := by
  unfold tkK at h
  split at h
  · split at h
    · cases h
    · split at h
      · assumption
      · cases h
  · cases h
theorem tkK_let {t : Tp} {i : Nat} (h : tkK t i = 1) : 97 ≤ t.2 i ∧ t.2 i ≤ 122 := by
  unfold tkK at h
  split at h
  · split at h
    · assumption
    · split at h <;> cases h
  · cases h
theorem tk_digs {t : Tp} {p : Nat} (q : tkK t p = 2) : ∀ i, p ≤ i → i < tkE t p → 48 ≤ t.2 i ∧ t.2 i ≤ 57 := fun i h1 h2 => tkK_dig ((tkE_in (Or.inr q) h1 h2).trans q)
-- STEPS
theorem or16 {s v : Nat} (hs : s < 16) (hv : v < 100000) : nI s ||| (nI v <<< ((4 : Int32) &&& 31)) = nI (s + 16 * v) := by
  rw [pk_shlN _ 4 (by decide) (by omega)]
  have e : s ||| v * 2 ^ 4 = s + 16 * v := by
    rw [Nat.or_comm, Nat.mul_comm, ← Nat.two_pow_add_eq_or_of_lt (by omega : s < 2 ^ 4) v]
    omega
  rw [← e]
  apply Int32.toBitVec_inj.mp
  show BitVec.ofNat 32 s ||| BitVec.ofNat 32 (v * 2 ^ 4) = BitVec.ofNat 32 (s ||| v * 2 ^ 4)
  apply BitVec.eq_of_toNat_eq
  simp only [BitVec.toNat_or, BitVec.toNat_ofNat, Nat.or_mod_two_pow]
def rF (P : Nat) (I I' : Nat → Nat → Int32) : Prop := ∀ a j, ¬ (a = 120 ∧ 4 ≤ j ∧ j ≤ 7) → ¬ (a = P ∧ j = 6) → a ≠ P + 1 → I' a j = I a j
theorem rF.rfl' (P : Nat) (I : Nat → Nat → Int32) : rF P I I := fun _ _ _ _ _ => rfl
theorem rF.trans {P : Nat} {I I' I2 : Nat → Nat → Int32} (h1 : rF P I I') (h2 : rF P I' I2) : rF P I I2 := fun a j q1 q2 q3 => (h2 a j q1 q2 q3).trans (h1 a j q1 q2 q3)
/-- only the token moved -/
def rFa (I I' : Nat → Nat → Int32) : Prop := ∀ a j, ¬ (a = 120 ∧ (j = 4 ∨ j = 5 ∨ j = 6)) → I' a j = I a j
theorem rFa.F {I I' : Nat → Nat → Int32} (h : rFa I I') (P : Nat) : rF P I I' := fun a j q _ _ => h a j (by omega)
/-- only a step more -/
def rFp (P : Nat) (I I' : Nat → Nat → Int32) : Prop := ∀ a j, ¬ (a = P ∧ j = 6) → a ≠ P + 1 → I' a j = I a j
theorem rFp.F {P : Nat} {I I' : Nat → Nat → Int32} (h : rFp P I I') : rF P I I' := fun a j _ q1 q2 => h a j q1 q2
theorem rFa.P {P len : Nat} {cd : Nat → Nat × Nat} {I I' : Nat → Nat → Int32} (h : rFa I I') (hP : P + 5 < 119) (hc : cPr I P cd len) : cPr I' P cd len := ⟨(h P 6 (by omega)).trans hc.1, hc.2.1, fun k hk => by rw [h (P + 1) k (by omega)]; exact hc.2.2 k hk⟩
theorem rFp.S {t : Tp} {o : Bool} {P p pt : Nat} {I I' : Nat → Nat → Int32} {R : Nat → Nat → Option Nat} (h : rFp P I I') (hs : rS t o P I R p pt) : rS t o P I' R p pt := by
  obtain ⟨s1, s2, s3, s4, s5, s6, s7, s8, s9, s10⟩ := hs
  have e : ∀ j, I' 120 j = I 120 j := fun j => h 120 j (by omega) (by omega)
  refine ⟨⟨(e 1).trans s1.1, s1.2.1, fun j hj => ⟨(h 119 j (by omega) (by omega)).trans (s1.2.2 j hj).1, (s1.2.2 j hj).2⟩⟩, (e 2).trans s2, s3, (e 4).trans s4, (e 5).trans s5, (e 6).trans s6, (e 7).trans s7, s8, s9, s10⟩
theorem c_adv {ex : sm_O} {n : Nat} {y : sm_Y} {I : Nat → Nat → Int32} {L : Nat → Nat → Int64} {R : Nat → Nat → Option Nat} {Q : sm_Q} {d p pt P : Nat} {o : Bool} {t : Tp} (hd : 1 ≤ d) (hG : sm_G y R) (hs : rS t o P I R p pt)
    (k : ∀ (I' : Nat → Nat → Int32), rFa I I' → rS t o P I' R (nx t p) pt → Q none (n, y, I', L, R)) : sm_W ex d 0 0 50 0 [some (.ref 120)] [] (n, y, I, L, R) Q := by
  obtain ⟨s1, s2, s3, s4, s5, s6, s7, s8, s9, s10⟩ := hs
  refine c_X7_advance hd hG s1 s5 (tkE_b s8).2 ?_
  intro I' f e4 e5 e6
  refine k I' f ⟨⟨(f 120 1 (by omega)).trans s1.1, s1.2.1, fun j hj => ⟨(f 119 j (by omega)).trans (s1.2.2 j hj).1, (s1.2.2 j hj).2⟩⟩, (f 120 2 (by omega)).trans s2, s3, e4, e5, e6, (f 120 7 (by omega)).trans s7, (nx_b s8).2, s9, s10⟩
def cdU (cd : Nat → Nat × Nat) (i : Nat) (v : Nat × Nat) (k : Nat) : Nat × Nat := if k = i then v else cd k
theorem c_put {ex : sm_O} {n : Nat} {y : sm_Y} {I : Nat → Nat → Int32} {L : Nat → Nat → Int64} {R : Nat → Nat → Option Nat} {Q : sm_Q} {d P len st v : Nat} {cd : Nat → Nat × Nat} (hP : ok6 y R P 200 12) (hc : cPr I P cd len) (hl : len < 200) (hst : st < 14) (hv : v < 100000)
    (k : ∀ (I' : Nat → Nat → Int32), rFp P I I' → cPr I' P (cdU cd len (st, v)) (len + 1) → Q (some (.int 1)) (n, y, I', L, R)) : sm_W ex d 0 0 37 0 [some (.ref P), some (.int (nI st)), some (.int (nI v))] [] (n, y, I, L, R) Q := by
  refine w_X6_put_0 hP ?_
  rw [hc.1, if_pos ((nI_ltI (by omega) (by omega)).mpr hl), or16 (by omega) hv, nI_clamp (by omega), sm_st_o _ _ (by omega), hc.1, sm_n1]
  refine ⟨vp_in_nI (by omega) (by decide), k _ (fun a j q1 q2 => by rw [sm_st_or _ _ (by omega), sm_st_o _ _ q2]) ⟨sm_st_s _ _ _ _, by omega, fun i hi => ?_⟩⟩
  rw [sm_st_o _ _ (by omega)]
  unfold cdU
  by_cases e : i = len
  · rw [if_pos e, e, sm_st_s]
    exact ⟨rfl, hst, hv⟩
  · rw [if_neg e, sm_st_j _ _ e]
    exact hc.2.2 i (by omega)
theorem c_skip {ex : sm_O} {n : Nat} {y : sm_Y} {I : Nat → Nat → Int32} {L : Nat → Nat → Int64} {R : Nat → Nat → Option Nat} {Q : sm_Q} {d P len st pl : Nat} {cd : Nat → Nat × Nat} (hP : ok6 y R P 200 12) (hc : cPr I P cd len) (hl : pl < len) (hst : st < 14) (hcd : cd pl = (st, 0))
    (k : ∀ (I' : Nat → Nat → Int32), rFp P I I' → cPr I' P (cdU cd pl (st, len - pl - 1)) len → Q none (n, y, I', L, R)) : sm_W ex d 0 0 38 0 [some (.ref P), some (.int (nI pl))] [] (n, y, I, L, R) Q := by
  have h200 := hc.2.1
  refine w_X6_closeSkip_0 hP ?_
  have h0 := (hc.2.2 pl hl).1
  rw [hcd] at h0
  rw [if_neg (nI_pos (by omega)), hc.1, if_neg (by rw [nI_leI (by omega) (by omega)]; omega), nI_clamp (by omega), h0, pk_sub (by omega), sm_of 1, pk_sub (by omega), show nI (((st, 0) : Nat × Nat).1 + 16 * ((st, 0) : Nat × Nat).2) = nI st from rfl, or16 (by omega) (by omega)]
  refine ⟨vp_in_nI (by omega) (by decide), k _ (fun a j q1 q2 => sm_st_o _ _ q2) ⟨(sm_st_o _ _ (by omega)).trans hc.1, by omega, fun i hi => ?_⟩⟩
  unfold cdU
  by_cases e : i = pl
  · rw [if_pos e, e, sm_st_s]
    exact ⟨rfl, hst, by show len - pl - 1 < 100000; omega⟩
  · rw [if_neg e, sm_st_j _ _ e]
    exact hc.2.2 i (by omega)
/-- a fault: a step that can't be closed, or is -/
theorem c_skipF {ex : sm_O} {n : Nat} {y : sm_Y} {I : Nat → Nat → Int32} {L : Nat → Nat → Int64} {R : Nat → Nat → Option Nat} {Q : sm_Q} {d P len pl : Nat} (hP : ok6 y R P 200 12) (h6 : I P 6 = nI len) (hl : len ≤ 200) (hpl : pl ≤ 200)
    (k : ∀ (I' : Nat → Nat → Int32), (∀ a j, a ≠ P + 1 → I' a j = I a j) → Q none (n, y, I', L, R)) : sm_W ex d 0 0 38 0 [some (.ref P), some (.int (nI pl))] [] (n, y, I, L, R) Q := by
  refine w_X6_closeSkip_0 hP ?_
  rw [if_neg (nI_pos (by omega)), h6]
  by_cases e : len ≤ pl
  · rw [if_pos ((nI_leI (by omega) (by omega)).mpr e)]
    exact k I (fun _ _ _ => rfl)
  · rw [if_neg (by rw [nI_leI (by omega) (by omega)]; exact e)]
    exact ⟨vp_in_nI (by omega) (by omega), k _ (fun a j q2 => sm_st_o _ _ q2)⟩

