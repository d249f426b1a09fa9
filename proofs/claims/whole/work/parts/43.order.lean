set_option maxRecDepth 100000 in
theorem w_X3_lookAtAll_0 {ex : sm_O} {d n : Nat} {y : sm_Y} {I : Nat → Nat → Int32} {L : Nat → Nat → Int64} {R : Nat → Nat → Option Nat} {Q : sm_Q} {w2 : Option Value} {w3 : Option Value} {a1 : Nat} (hG : sm_G y R) (k : if (I 102 2) = 0 then (sm_W ex d 0 0 14 10 [some (.ref 102), some (.ref a1), some (.int 0), w3] [] (n, y, I, L, R) Q) else (Q none (n, y, I, L, R))) : sm_W ex d 0 0 14 0 [some (.ref 102), some (.ref a1), w2, w3] [] (n, y, I, L, R) Q := sm_in (sm_in (And.intro (hG.1 102 (Nat.le_of_ble_eq_true rfl)) (sm_in (And.intro (fun c1 => have k1t := Eq.mp (if_pos c1) k; sm_in (sm_in (And.intro (Nat.le_of_ble_eq_true rfl) (k1t)))) (fun c1 => have k1f := Eq.mp (if_neg c1) k; sm_in (And.intro rfl (And.intro rfl k1f)))))))
set_option maxRecDepth 100000 in
theorem w_X3_lookAtAll_10 {ex : sm_O} {d n : Nat} {y : sm_Y} {I : Nat → Nat → Int32} {L : Nat → Nat → Int64} {R : Nat → Nat → Option Nat} {Q : sm_Q} {w3 : Option Value} {a1 : Nat} {a2 : Int32} (hG : sm_G y R) (ho0 : ok9 y R a1) (k : if (I a1 4) ≤ a2 then (Q none (n, y, sm_st I 102 2 1, L, R)) else (sm_W ex d 0 0 14 20 [some (.ref 102), some (.ref a1), some (.int a2), some (.int 0)] [] (n, y, I, L, R) Q)) : sm_W ex d 0 0 14 10 [some (.ref 102), some (.ref a1), some (.int a2), w3] [] (n, y, I, L, R) Q := sm_in (sm_in (sm_in (And.intro (ok9_y0 ho0) (sm_in (And.intro (fun c1 => have k1t := Eq.mp (if_pos c1) k; sm_in (sm_in (sm_in (And.intro (hG.1 102 (Nat.le_of_ble_eq_true rfl)) (And.intro (Or.inr rfl) (sm_in (And.intro rfl (And.intro rfl k1t)))))))) (fun c1 => have k1f := Eq.mp (if_neg c1) k; sm_in (sm_in (And.intro (Nat.le_of_ble_eq_true rfl) (k1f)))))))))
set_option maxRecDepth 100000 in
theorem w_X3_lookAtAll_20 {ex : sm_O} {d n : Nat} {y : sm_Y} {I : Nat → Nat → Int32} {L : Nat → Nat → Int64} {R : Nat → Nat → Option Nat} {Q : sm_Q} {a1 : Nat} {a2 : Int32} {a3 : Int32} {d1 : Nat} (hG : sm_G y R) (ho0 : ok9 y R a1) (h1 : d1 < d) (k : if (I a1 4) ≤ a3 then (sm_W ex d 0 0 14 10 [some (.ref 102), some (.ref a1), some (.int (a2 + 1)), some (.int a3)] [] (n, y, I, L, R) Q) else (if a3 = a2 then (sm_W ex d 0 0 14 68 [some (.ref 102), some (.ref a1), some (.int a2), some (.int a3)] [.int 0, .int ((a2 * 7) + a3), .ref 103] (n, y, I, L, R) Q) else (sm_W ex d1 0 0 4 0 [some (.ref 6)] [] (n, y, I, L, R) (fun r μ1 => sm_W ex d 0 0 14 61 [some (.ref 102), some (.ref a1), some (.int a2), some (.int a3)] (r.toList ++ [.ref 50, .int ((a2 * 7) + a3), .ref 103]) μ1 Q)))) : sm_W ex d 0 0 14 20 [some (.ref 102), some (.ref a1), some (.int a2), some (.int a3)] [] (n, y, I, L, R) Q := sm_in (sm_in (sm_in (And.intro (ok9_y0 ho0) (sm_in (And.intro (fun c1 => have k1t := Eq.mp (if_pos c1) k; sm_in (And.intro (Nat.le_of_ble_eq_true rfl) (sm_in (k1t)))) (fun c1 => have k1f := Eq.mp (if_neg c1) k; sm_in (sm_in (And.intro (hG.1 102 (Nat.le_of_ble_eq_true rfl)) (sm_gfr rfl (hG.2 102 1 rfl) (sm_in (sm_in (sm_in (sm_in (sm_in (sm_in (sm_in (sm_in (And.intro (fun c2 => have k2f := Eq.mp (if_neg c2) k1f; sm_in (sm_in (And.intro (hG.1 102 (Nat.le_of_ble_eq_true rfl)) (sm_gfr rfl (hG.2 102 0 rfl) (sm_in (sm_in (And.intro (hG.1 102 (Nat.le_of_ble_eq_true rfl)) (sm_gfr rfl (hG.2 102 0 rfl) (sm_in (And.intro (hG.1 50 (Nat.le_of_ble_eq_true rfl)) (sm_gfr rfl (hG.2 50 0 rfl) (sm_in (Exists.intro 0 (And.intro (hG.1 6 (Nat.le_of_ble_eq_true rfl)) (And.intro rfl (sm_calln h1 (Nat.le_of_ble_eq_true rfl) (Nat.le_of_ble_eq_true rfl) k2f)))))))))))))))) (fun c2 => have k2t := Eq.mp (if_pos c2) k1f; sm_in (sm_in (k2t)))))))))))))))))))))
set_option maxRecDepth 100000 in
theorem w_X3_lookAtAll_61 {ex : sm_O} {d n : Nat} {y : sm_Y} {I : Nat → Nat → Int32} {L : Nat → Nat → Int64} {R : Nat → Nat → Option Nat} {Q : sm_Q} {w0 : Option Value} {a1 : Nat} {a2 : Int32} {a3 : Int32} {s0 : Nat} {s2 : Int32} {d1 : Nat} (hG : sm_G y R) (h1 : d1 < d) (k : sm_W ex d1 0 0 26 0 [some (.ref 50), some (.ref s0), some (.int 2), some (.ref a1), some (.int a3), some (.int a2), none, none] [] (n, y, I, L, R) (fun r μ1 => sm_W ex d 0 0 14 68 [w0, some (.ref a1), some (.int a2), some (.int a3)] (r.toList ++ [.int s2, .ref 103]) μ1 Q)) : sm_W ex d 0 0 14 61 [w0, some (.ref a1), some (.int a2), some (.int a3)] [.ref s0, .ref 50, .int s2, .ref 103] (n, y, I, L, R) Q := sm_in (sm_in (sm_in (sm_in (sm_in (Exists.intro 5 (And.intro (hG.1 50 (Nat.le_of_ble_eq_true rfl)) (And.intro rfl (sm_calln h1 (Nat.le_of_ble_eq_true rfl) (Nat.le_of_ble_eq_true rfl) k))))))))
set_option maxRecDepth 100000 in
theorem w_X3_lookAtAll_68 {ex : sm_O} {d n : Nat} {y : sm_Y} {I : Nat → Nat → Int32} {L : Nat → Nat → Int64} {R : Nat → Nat → Option Nat} {Q : sm_Q} {w0 : Option Value} {w1 : Option Value} {a2 : Int32} {a3 : Int32} {s0 : Int32} {s1 : Int32} (hG : sm_G y R) (k : vp_in s1 49 ∧ sm_W ex d 0 0 14 20 [w0, w1, some (.int a2), some (.int (a3 + 1))] [] (n, y, sm_st I 103 s1.toNatClampNeg s0, L, R) Q) : sm_W ex d 0 0 14 68 [w0, w1, some (.int a2), some (.int a3)] [.int s0, .int s1, .ref 103] (n, y, I, L, R) Q := (have e1 := k.1; have k1 := k.2; sm_in (Exists.intro 49 (And.intro (hG.1 103 (Nat.le_of_ble_eq_true rfl)) (And.intro e1 (sm_in (And.intro (Nat.le_of_ble_eq_true rfl) (sm_in (k1))))))))
set_option maxRecDepth 100000 in
theorem w_X3_arrange_0 {ex : sm_O} {d n : Nat} {y : sm_Y} {I : Nat → Nat → Int32} {L : Nat → Nat → Int64} {R : Nat → Nat → Option Nat} {Q : sm_Q} {a1 : Nat} {d1 : Nat} (hG : sm_G y R) (h1 : d1 < d) (k : if (I 102 6) = 0 then (sm_W ex d1 0 0 14 0 [some (.ref 102), some (.ref a1), none, none] [] (n, y, I, L, R) (fun r μ1 => sm_W ex d 0 0 15 13 [some (.ref 102), some (.ref a1)] (r.toList ++ []) μ1 Q)) else (Q none (n, y, I, L, R))) : sm_W ex d 0 0 15 0 [some (.ref 102), some (.ref a1)] [] (n, y, I, L, R) Q := sm_in (sm_in (And.intro (hG.1 102 (Nat.le_of_ble_eq_true rfl)) (sm_in (And.intro (fun c1 => have k1t := Eq.mp (if_pos c1) k; sm_in (sm_in (sm_in (Exists.intro 3 (And.intro (hG.1 102 (Nat.le_of_ble_eq_true rfl)) (And.intro rfl (sm_calln h1 (Nat.le_of_ble_eq_true rfl) (Nat.le_of_ble_eq_true rfl) k1t))))))) (fun c1 => have k1f := Eq.mp (if_neg c1) k; sm_in (And.intro rfl (And.intro rfl k1f)))))))
set_option maxRecDepth 100000 in
theorem w_X3_arrange_13 {ex : sm_O} {d n : Nat} {y : sm_Y} {I : Nat → Nat → Int32} {L : Nat → Nat → Int64} {R : Nat → Nat → Option Nat} {Q : sm_Q} {a1 : Nat} {d1 : Nat} (hG : sm_G y R) (ho0 : ok9 y R a1) (h1 : d1 < d) (k : sm_W ex d1 0 0 16 0 [some (.ref 102), some (.ref a1), some (.int 0), some (.int ((sm_st I 102 5 1000000) a1 5)), some (.int 0), none, none, none] [] (n, y, sm_st I 102 5 1000000, L, R) (fun r μ1 => sm_W ex d 0 0 15 30 [some (.ref 102), some (.ref a1)] (r.toList ++ []) μ1 Q)) : sm_W ex d 0 0 15 13 [some (.ref 102), some (.ref a1)] [] (n, y, I, L, R) Q := sm_in (sm_in (sm_in (And.intro (hG.1 102 (Nat.le_of_ble_eq_true rfl)) (sm_in (sm_in (sm_in (sm_in (sm_in (And.intro (ok9_y0 ho0) (sm_in (sm_in (Exists.intro 3 (And.intro (hG.1 102 (Nat.le_of_ble_eq_true rfl)) (And.intro rfl (sm_calln h1 (Nat.le_of_ble_eq_true rfl) (Nat.le_of_ble_eq_true rfl) k)))))))))))))))
set_option maxRecDepth 100000 in
theorem w_X3_arrange_30 {ex : sm_O} {d n : Nat} {y : sm_Y} {I : Nat → Nat → Int32} {L : Nat → Nat → Int64} {R : Nat → Nat → Option Nat} {Q : sm_Q} {w1 : Option Value} (hG : sm_G y R) (k : Q none (n, y, sm_st I 102 6 1, L, R)) : sm_W ex d 0 0 15 30 [some (.ref 102), w1] [] (n, y, I, L, R) Q := sm_in (sm_in (sm_in (And.intro (hG.1 102 (Nat.le_of_ble_eq_true rfl)) (And.intro (Or.inr rfl) (sm_in (And.intro rfl (And.intro rfl k)))))))
set_option maxRecDepth 100000 in
theorem w_X3_place_0 {ex : sm_O} {d n : Nat} {y : sm_Y} {I : Nat → Nat → Int32} {L : Nat → Nat → Int64} {R : Nat → Nat → Option Nat} {Q : sm_Q} {w0 : Option Value} {w3 : Option Value} {w4 : Option Value} {w5 : Option Value} {w6 : Option Value} {w7 : Option Value} {a1 : Nat} {a2 : Int32} {d1 : Nat} (ho0 : ok9 y R a1) (h1 : d1 < d) (k : sm_W ex d1 0 0 66 0 [some (.ref a1)] [] (n, y, I, L, R) (fun r μ1 => sm_W ex d 0 0 16 5 [w0, some (.ref a1), some (.int a2), w3, w4, w5, w6, w7] (r.toList ++ [.int a2]) μ1 Q)) : sm_W ex d 0 0 16 0 [w0, some (.ref a1), some (.int a2), w3, w4, w5, w6, w7] [] (n, y, I, L, R) Q := sm_in (sm_in (sm_in (Exists.intro 9 (And.intro (ok9_y0 ho0) (And.intro rfl (sm_calln h1 (Nat.le_of_ble_eq_true rfl) (Nat.le_of_ble_eq_true rfl) k))))))
set_option maxRecDepth 100000 in
theorem w_X3_place_5 {ex : sm_O} {d n : Nat} {y : sm_Y} {I : Nat → Nat → Int32} {L : Nat → Nat → Int64} {R : Nat → Nat → Option Nat} {Q : sm_Q} {w0 : Option Value} {w1 : Option Value} {w3 : Option Value} {w5 : Option Value} {w6 : Option Value} {w7 : Option Value} {a2 : Int32} {a4 : Int32} {s0 : Int32} {s1 : Int32} (k : if s0 ≤ s1 then (sm_W ex d 0 0 16 14 [w0, w1, some (.int a2), w3, some (.int a4), w5, w6, w7] [] (n, y, I, L, R) Q) else (if a2 < 7 then (sm_W ex d 0 0 16 39 [w0, w1, some (.int a2), w3, some (.int a4), some (.int 0), w6, w7] [] (n, y, I, L, R) Q) else (sm_W ex d 0 0 16 14 [w0, w1, some (.int a2), w3, some (.int a4), w5, w6, w7] [] (n, y, I, L, R) Q))) : sm_W ex d 0 0 16 5 [w0, w1, some (.int a2), w3, some (.int a4), w5, w6, w7] [.int s0, .int s1] (n, y, I, L, R) Q := sm_in (And.intro (fun c1 => have k1t := Eq.mp (if_pos c1) k; k1t) (fun c1 => have k1f := Eq.mp (if_neg c1) k; sm_in (sm_in (sm_in (And.intro (fun c2 => have k2t := Eq.mp (if_pos c2) k1f; sm_in (sm_in (And.intro (Nat.le_of_ble_eq_true rfl) (k2t)))) (fun c2 => have k2f := Eq.mp (if_neg c2) k1f; k2f))))))
set_option maxRecDepth 100000 in
theorem w_X3_place_14 {ex : sm_O} {d n : Nat} {y : sm_Y} {I : Nat → Nat → Int32} {L : Nat → Nat → Int64} {R : Nat → Nat → Option Nat} {Q : sm_Q} {w1 : Option Value} {w2 : Option Value} {w3 : Option Value} {w5 : Option Value} {w6 : Option Value} {w7 : Option Value} {a4 : Int32} (hG : sm_G y R) (h1 : 1 ≤ d) (k : Q none (n, y, sm_cp (sm_st I 102 5 a4) 104 (0 : Int32).toNatClampNeg 105 (0 : Int32).toNatClampNeg (7 : Int32).toNatClampNeg, L, R)) : sm_W ex d 0 0 16 14 [some (.ref 102), w1, w2, w3, some (.int a4), w5, w6, w7] [] (n, y, I, L, R) Q := sm_in (sm_in (sm_in (And.intro (hG.1 102 (Nat.le_of_ble_eq_true rfl)) (sm_in (sm_in (And.intro (hG.1 102 (Nat.le_of_ble_eq_true rfl)) (sm_gfr rfl (hG.2 102 3 rfl) (sm_in (sm_in (sm_in (And.intro (hG.1 102 (Nat.le_of_ble_eq_true rfl)) (sm_gfr rfl (hG.2 102 4 rfl) (sm_in (sm_in (sm_in (And.intro h1 (And.intro (Nat.le_of_ble_eq_true rfl) (Exists.intro 7 (Exists.intro 7 (And.intro (hG.1 104 (Nat.le_of_ble_eq_true rfl)) (And.intro (hG.1 105 (Nat.le_of_ble_eq_true rfl)) (And.intro (by decide) (And.intro (by decide) (And.intro (by decide) (And.intro (by decide) (And.intro (by decide) (sm_in (And.intro rfl (And.intro rfl k)))))))))))))))))))))))))))))
set_option maxRecDepth 100000 in
theorem w_X3_place_39 {ex : sm_O} {d n : Nat} {y : sm_Y} {I : Nat → Nat → Int32} {L : Nat → Nat → Int64} {R : Nat → Nat → Option Nat} {Q : sm_Q} {w0 : Option Value} {w3 : Option Value} {w4 : Option Value} {w6 : Option Value} {w7 : Option Value} {a1 : Nat} {a2 : Int32} {a5 : Int32} (ho0 : ok9 y R a1) (k : if (I a1 4) ≤ a5 then (Q none (n, y, I, L, R)) else (if a2 = 0 then (if (I a1 6) = (-1) then (sm_W ex d 0 0 16 74 [w0, some (.ref a1), some (.int a2), w3, w4, some (.int a5), w6, w7] [.int 0] (n, y, I, L, R) Q) else (if (I a1 6) = a5 then (sm_W ex d 0 0 16 74 [w0, some (.ref a1), some (.int a2), w3, w4, some (.int a5), w6, w7] [.int 0] (n, y, I, L, R) Q) else (sm_W ex d 0 0 16 74 [w0, some (.ref a1), some (.int a2), w3, w4, some (.int a5), w6, w7] [.int 1] (n, y, I, L, R) Q))) else (sm_W ex d 0 0 16 74 [w0, some (.ref a1), some (.int a2), w3, w4, some (.int a5), w6, w7] [.int 0] (n, y, I, L, R) Q))) : sm_W ex d 0 0 16 39 [w0, some (.ref a1), some (.int a2), w3, w4, some (.int a5), w6, w7] [] (n, y, I, L, R) Q := sm_in (sm_in (sm_in (And.intro (ok9_y0 ho0) (sm_in (And.intro (fun c1 => have k1t := Eq.mp (if_pos c1) k; sm_in (And.intro rfl (And.intro rfl k1t))) (fun c1 => have k1f := Eq.mp (if_neg c1) k; sm_in (sm_in (And.intro (fun c2 => have k2f := Eq.mp (if_neg c2) k1f; sm_in (k2f)) (fun c2 => have k2t := Eq.mp (if_pos c2) k1f; sm_in (sm_in (And.intro (ok9_y0 ho0) (sm_in (sm_in (And.intro (fun c3 => have k3t := Eq.mp (if_pos c3) k2t; sm_in (k3t)) (fun c3 => have k3f := Eq.mp (if_neg c3) k2t; sm_in (sm_in (And.intro (ok9_y0 ho0) (sm_in (sm_in (And.intro (fun c4 => have k4t := Eq.mp (if_pos c4) k3f; sm_in (k4t)) (fun c4 => have k4f := Eq.mp (if_neg c4) k3f; sm_in (sm_in (k4f)))))))))))))))))))))))
set_option maxRecDepth 100000 in
theorem w_X3_place_74 {ex : sm_O} {d n : Nat} {y : sm_Y} {I : Nat → Nat → Int32} {L : Nat → Nat → Int64} {R : Nat → Nat → Option Nat} {Q : sm_Q} {w1 : Option Value} {w4 : Option Value} {w6 : Option Value} {w7 : Option Value} {a2 : Int32} {a3 : Int32} {a5 : Int32} {s0 : Int32} (hG : sm_G y R) (k : if s0 = 0 then (if ((a3 >>> (a5 &&& 31)) &&& 1) = 1 then (sm_W ex d 0 0 16 162 [some (.ref 102), w1, some (.int a2), some (.int a3), w4, some (.int a5), some (.int s0), w7] [] (n, y, I, L, R) Q) else (if a2 = 0 then (sm_W ex d 0 0 16 121 [some (.ref 102), w1, some (.int a2), some (.int a3), w4, some (.int a5), some (.int s0), w7] [.int 0] (n, y, I, L, R) Q) else (vp_in (a2 - 1) 7 ∧ vp_in (((I 104 (a2 - 1).toNatClampNeg) * 7) + a5) 49 ∧ sm_W ex d 0 0 16 121 [some (.ref 102), w1, some (.int a2), some (.int a3), w4, some (.int a5), some (.int s0), w7] [.int (I 103 (((I 104 (a2 - 1).toNatClampNeg) * 7) + a5).toNatClampNeg)] (n, y, I, L, R) Q))) else (sm_W ex d 0 0 16 162 [some (.ref 102), w1, some (.int a2), some (.int a3), w4, some (.int a5), some (.int s0), w7] [] (n, y, I, L, R) Q)) : sm_W ex d 0 0 16 74 [some (.ref 102), w1, some (.int a2), some (.int a3), w4, some (.int a5), w6, w7] [.int s0] (n, y, I, L, R) Q := sm_in (And.intro (Nat.le_of_ble_eq_true rfl) (sm_in (sm_in (And.intro (fun c1 => have k1f := Eq.mp (if_neg c1) k; k1f) (fun c1 => have k1t := Eq.mp (if_pos c1) k; sm_in (sm_in (sm_in (sm_in (sm_in (sm_in (sm_in (And.intro (fun c2 => have k2f := Eq.mp (if_neg c2) k1t; sm_in (sm_in (And.intro (fun c3 => have k3f := Eq.mp (if_neg c3) k2f; sm_in (sm_in (And.intro (hG.1 102 (Nat.le_of_ble_eq_true rfl)) (sm_gfr rfl (hG.2 102 1 rfl) (sm_in (sm_in (And.intro (hG.1 102 (Nat.le_of_ble_eq_true rfl)) (sm_gfr rfl (hG.2 102 3 rfl) (sm_in (sm_in (sm_in ((have e4 := k3f.1; have k4 := k3f.2; sm_in (Exists.intro 7 (And.intro (hG.1 104 (Nat.le_of_ble_eq_true rfl)) (And.intro e4 (sm_in (sm_in (sm_in (sm_in ((have e5 := k4.1; have k5 := k4.2; sm_in (Exists.intro 49 (And.intro (hG.1 103 (Nat.le_of_ble_eq_true rfl)) (And.intro e5 (k5)))))))))))))))))))))))))) (fun c3 => have k3t := Eq.mp (if_pos c3) k2f; sm_in (sm_in (k3t)))))) (fun c2 => have k2t := Eq.mp (if_pos c2) k1t; sm_in (k2t))))))))))))))
set_option maxRecDepth 100000 in
theorem w_X3_place_121 {ex : sm_O} {d n : Nat} {y : sm_Y} {I : Nat → Nat → Int32} {L : Nat → Nat → Int64} {R : Nat → Nat → Option Nat} {Q : sm_Q} {w7 : Option Value} {a1 : Nat} {a2 : Int32} {a3 : Int32} {a4 : Int32} {a5 : Int32} {a6 : Int32} {s0 : Int32} {d1 : Nat} (hG : sm_G y R) (h1 : d1 < d) (k : if (I 102 5) ≤ (a4 + s0) then (sm_W ex d 0 0 16 162 [some (.ref 102), some (.ref a1), some (.int a2), some (.int a3), some (.int a4), some (.int a5), some (.int a6), some (.int s0)] [] (n, y, I, L, R) Q) else (vp_in a2 7 ∧ sm_W ex d1 0 0 16 0 [some (.ref 102), some (.ref a1), some (.int (a2 + 1)), some (.int (a3 ||| ((1 : Int32) <<< (a5 &&& 31)))), some (.int (a4 + s0)), none, none, none] [] (n, y, sm_st I 104 a2.toNatClampNeg a5, L, R) (fun r μ1 => sm_W ex d 0 0 16 162 [some (.ref 102), some (.ref a1), some (.int a2), some (.int a3), some (.int a4), some (.int a5), some (.int a6), some (.int s0)] (r.toList ++ []) μ1 Q))) : sm_W ex d 0 0 16 121 [some (.ref 102), some (.ref a1), some (.int a2), some (.int a3), some (.int a4), some (.int a5), some (.int a6), w7] [.int s0] (n, y, I, L, R) Q := sm_in (And.intro (Nat.le_of_ble_eq_true rfl) (sm_in (sm_in (sm_in (sm_in (sm_in (And.intro (hG.1 102 (Nat.le_of_ble_eq_true rfl)) (sm_in (And.intro (fun c1 => have k1t := Eq.mp (if_pos c1) k; k1t) (fun c1 => have k1f := Eq.mp (if_neg c1) k; sm_in (sm_in (And.intro (hG.1 102 (Nat.le_of_ble_eq_true rfl)) (sm_gfr rfl (hG.2 102 3 rfl) (sm_in (sm_in ((have e2 := k1f.1; have k2 := k1f.2; sm_in (Exists.intro 7 (And.intro (hG.1 104 (Nat.le_of_ble_eq_true rfl)) (And.intro e2 (sm_in (sm_in (sm_in (sm_in (sm_in (sm_in (sm_in (sm_in (sm_in (sm_in (sm_in (sm_in (sm_in (sm_in (Exists.intro 3 (And.intro (hG.1 102 (Nat.le_of_ble_eq_true rfl)) (And.intro rfl (sm_calln h1 (Nat.le_of_ble_eq_true rfl) (Nat.le_of_ble_eq_true rfl) k2))))))))))))))))))))))))))))))))))))))
set_option maxRecDepth 100000 in
theorem w_X3_place_162 {ex : sm_O} {d n : Nat} {y : sm_Y} {I : Nat → Nat → Int32} {L : Nat → Nat → Int64} {R : Nat → Nat → Option Nat} {Q : sm_Q} {w0 : Option Value} {w1 : Option Value} {w2 : Option Value} {w3 : Option Value} {w6 : Option Value} {w7 : Option Value} {a4 : Int32} {a5 : Int32} (k : sm_W ex d 0 0 16 39 [w0, w1, w2, w3, some (.int a4), some (.int (a5 + 1)), w6, w7] [] (n, y, I, L, R) Q) : sm_W ex d 0 0 16 162 [w0, w1, w2, w3, some (.int a4), some (.int a5), w6, w7] [] (n, y, I, L, R) Q := sm_in (And.intro (Nat.le_of_ble_eq_true rfl) (sm_in (k)))
set_option maxRecDepth 100000 in
theorem w_X10_order_0 {ex : sm_O} {d n : Nat} {y : sm_Y} {I : Nat → Nat → Int32} {L : Nat → Nat → Int64} {R : Nat → Nat → Option Nat} {Q : sm_Q} {a1 : Int32} {d1 : Nat} (hG : sm_G y R) (h1 : d1 < d) (k : if a1 < (-1) then (Q (some (.int (-1))) (n, y, I, L, R)) else (sm_W ex d1 0 0 66 0 [some (.ref 1)] [] (n, y, I, L, R) (fun r μ1 => sm_W ex d 0 0 97 13 [some (.ref 0), some (.int a1)] (r.toList ++ [.int a1]) μ1 Q))) : sm_W ex d 0 0 97 0 [some (.ref 0), some (.int a1)] [] (n, y, I, L, R) Q := sm_in (sm_in (sm_in (And.intro (fun c1 => have k1t := Eq.mp (if_pos c1) k; sm_in (sm_in (And.intro rfl k1t))) (fun c1 => have k1f := Eq.mp (if_neg c1) k; sm_in (sm_in (sm_in (And.intro (hG.1 0 (Nat.le_of_ble_eq_true rfl)) (sm_gfr rfl (hG.2 0 0 rfl) (sm_in (Exists.intro 9 (And.intro (hG.1 1 (Nat.le_of_ble_eq_true rfl)) (And.intro rfl (sm_calln h1 (Nat.le_of_ble_eq_true rfl) (Nat.le_of_ble_eq_true rfl) k1f)))))))))))))
set_option maxRecDepth 100000 in
theorem w_X10_order_13 {ex : sm_O} {d n : Nat} {y : sm_Y} {I : Nat → Nat → Int32} {L : Nat → Nat → Int64} {R : Nat → Nat → Option Nat} {Q : sm_Q} {w1 : Option Value} {s0 : Int32} {s1 : Int32} {d1 : Nat} (hG : sm_G y R) (h1 : d1 < d) (k : if s1 < s0 then (sm_W ex d1 0 0 15 0 [some (.ref 102), some (.ref 1)] [] (n, y, I, L, R) (fun r μ1 => sm_W ex d 0 0 97 29 [some (.ref 0), w1] (r.toList ++ []) μ1 Q)) else (Q (some (.int (-1))) (n, y, I, L, R))) : sm_W ex d 0 0 97 13 [some (.ref 0), w1] [.int s0, .int s1] (n, y, I, L, R) Q := sm_in (And.intro (fun c1 => have k1t := Eq.mp (if_pos c1) k; sm_in (sm_in (And.intro (hG.1 0 (Nat.le_of_ble_eq_true rfl)) (sm_gfr rfl (hG.2 0 5 rfl) (sm_in (sm_in (And.intro (hG.1 0 (Nat.le_of_ble_eq_true rfl)) (sm_gfr rfl (hG.2 0 0 rfl) (sm_in (Exists.intro 3 (And.intro (hG.1 102 (Nat.le_of_ble_eq_true rfl)) (And.intro rfl (sm_calln h1 (Nat.le_of_ble_eq_true rfl) (Nat.le_of_ble_eq_true rfl) k1t))))))))))))) (fun c1 => have k1f := Eq.mp (if_neg c1) k; sm_in (sm_in (And.intro rfl k1f))))
set_option maxRecDepth 100000 in
theorem w_X10_order_29 {ex : sm_O} {d n : Nat} {y : sm_Y} {I : Nat → Nat → Int32} {L : Nat → Nat → Int64} {R : Nat → Nat → Option Nat} {Q : sm_Q} {a1 : Int32} (hG : sm_G y R) (k : if a1 = (-1) then (Q (some (.int (I 102 5))) (n, y, I, L, R)) else (vp_in a1 7 ∧ Q (some (.int (I 105 a1.toNatClampNeg))) (n, y, I, L, R))) : sm_W ex d 0 0 97 29 [some (.ref 0), some (.int a1)] [] (n, y, I, L, R) Q := sm_in (sm_in (sm_in (And.intro (fun c1 => have k1f := Eq.mp (if_neg c1) k; sm_in (sm_in (And.intro (hG.1 0 (Nat.le_of_ble_eq_true rfl)) (sm_gfr rfl (hG.2 0 5 rfl) (sm_in (And.intro (hG.1 102 (Nat.le_of_ble_eq_true rfl)) (sm_gfr rfl (hG.2 102 4 rfl) (sm_in ((have e2 := k1f.1; have k2 := k1f.2; sm_in (Exists.intro 7 (And.intro (hG.1 105 (Nat.le_of_ble_eq_true rfl)) (And.intro e2 (sm_in (And.intro rfl k2))))))))))))))) (fun c1 => have k1t := Eq.mp (if_pos c1) k; sm_in (sm_in (And.intro (hG.1 0 (Nat.le_of_ble_eq_true rfl)) (sm_gfr rfl (hG.2 0 5 rfl) (sm_in (And.intro (hG.1 102 (Nat.le_of_ble_eq_true rfl)) (sm_in (sm_in (And.intro rfl k1t))))))))))))
-- ORDER (the class)
def eyOk (F : Option (Nat × Law)) (s : St) (I : Nat → Nat → Int32) : Prop := ∀ a b, a < sMen s → b < sMen s → I 103 (7 * a + b) = nI (sp_ey F s a b)
theorem sp_ey_le (F : Option (Nat × Law)) (s : St) (a b : Nat) : sp_ey F s a b ≤ 99 := by
  unfold sp_ey
  split
  · omega
  · exact sp_notice_le _ _ _ _
def lkFr (I I' : Nat → Nat → Int32) : Prop := ∀ a j, ¬ (51 ≤ a ∧ a ≤ 53) → ¬ (a = 102 ∧ j = 2) → a ≠ 103 → I' a j = I a j
set_option maxHeartbeats 1000000 in
theorem c_X3_look {ex : sm_O} {n : Nat} {y : sm_Y} {I : Nat → Nat → Int32} {L : Nat → Nat → Int64} {R : Nat → Nat → Option Nat} {Q : sm_Q} {d : Nat} {w2 w3 : Option Value} {s : St} {F : Option (Nat × Law)} (hd : 3 ≤ d) (hG : sm_G y R) (hs : cS s 1 I) (hok : sp_ok s) (hF : cForce I F) (hca : cCa F s I)
    (k : ∀ (I' : Nat → Nat → Int32), lkFr I I' → cCa F s I' → eyOk F s I' → Q none (n, y, I', L, R)) : sm_W ex d 0 0 14 0 [some (.ref 102), some (.ref 1), w2, w3] [] (n, y, I, L, R) Q := by
  have h7 := hok.1
  obtain ⟨c1, c2, c3, c4⟩ := id hca
  refine w_X3_lookAtAll_0 hG ?_
  by_cases q0 : I 102 2 = 0
  · rw [if_pos q0]
    -- the rows of pairs
    have outer : ∀ (q i : Nat) (I1 : Nat → Nat → Int32) (w3 : Option Value), i + q = sMen s → (∀ a j, ¬ (51 ≤ a ∧ a ≤ 53) → a ≠ 103 → I1 a j = I a j) → (∀ a b, a < i → b < sMen s → I1 103 (7 * a + b) = nI (sp_ey F s a b)) → sm_W ex d 0 0 14 10 [some (.ref 102), some (.ref 1), some (.int (nI i)), w3] [] (n, y, I1, L, R) Q := by
      intro q
      induction q with
      | zero =>
        intro i I1 w3 hi f1 h1
        obtain rfl : i = sMen s := by omega
        have hs1 : cS s 1 I1 := cS_kept2 (fun a j q => f1 a j (by omega) (by omega)) hs
        refine w_X3_lookAtAll_10 hG (mk1 hG).1 ?_
        rw [hs1.1, if_pos (Int32.le_refl _)]
        have ey : eyOk F s (sm_st I1 102 2 1) := fun a b ha hb => by rw [sm_st_o _ _ (by decide)]; exact h1 a b ha hb
        refine k _ (fun a j q1 q2 q3 => by rw [sm_st_or _ _ (by omega)]; exact f1 a j q1 q3) ?_ ey
        have ca := cCa_kept (I' := sm_st I1 102 2 1) (F := F) (s := s) (I := fun a j => if a = 103 ∨ (a = 102 ∧ j = 2) then (sm_st I1 102 2 1) a j else I a j) (fun a j q => by
          show _ = if a = 103 ∨ (a = 102 ∧ j = 2) then (sm_st I1 102 2 1) a j else I a j
          by_cases e : a = 103 ∨ (a = 102 ∧ j = 2)
          · rw [if_pos e]
          · rw [if_neg e, sm_st_or _ _ (by omega)]
            exact f1 a j (by omega) (by omega)) ⟨c1, Or.inr rfl, fun _ => ey, c4⟩
        exact ca
      | succ q ih =>
        intro i I1 w3 hi f1 h1
        have him : i < sMen s := by omega
        have inner : ∀ (p j : Nat) (I2 : Nat → Nat → Int32), j + p = sMen s → (∀ a j, ¬ (51 ≤ a ∧ a ≤ 53) → a ≠ 103 → I2 a j = I a j) → (∀ a b, (a < i ∨ (a = i ∧ b < j)) → b < sMen s → I2 103 (7 * a + b) = nI (sp_ey F s a b)) → sm_W ex d 0 0 14 20 [some (.ref 102), some (.ref 1), some (.int (nI i)), some (.int (nI j))] [] (n, y, I2, L, R) Q := by
          intro p
          induction p with
          | zero =>
            intro j I2 hj f2 h2
            obtain rfl : j = sMen s := by omega
            have hs2 : cS s 1 I2 := cS_kept2 (fun a j q => f2 a j (by omega) (by omega)) hs
            refine w_X3_lookAtAll_20 (d1 := 2) hG (mk1 hG).1 (by omega) ?_
            rw [hs2.1, if_pos (Int32.le_refl _), sm_n1]
            exact ih (i + 1) I2 _ (by omega) f2 (fun a b ha hb => h2 a b (by omega) hb)
          | succ p ihp =>
            intro j I2 hj f2 h2
            have hjm : j < sMen s := by omega
            have hs2 : cS s 1 I2 := cS_kept2 (fun a j q => f2 a j (by omega) (by omega)) hs
            have hF2 : cForce I2 F := cForce_kept (fun a j _ _ => f2 a j (by omega) (by omega)) hF
            have e7 : nI i * 7 + nI j = nI (7 * i + j) := by rw [show (7 : Int32) = nI 7 from rfl, pk_mul, nI_add, Nat.mul_comm]
            have put : ∀ (I3 : Nat → Nat → Int32) (v : Nat), cFt I2 I3 → v = sp_ey F s i j → sm_W ex d 0 0 14 68 [some (.ref 102), some (.ref 1), some (.int (nI i)), some (.int (nI j))] [.int (nI v), .int (nI (7 * i + j)), .ref 103] (n, y, I3, L, R) Q := by
              intro I3 v f3 hv
              refine w_X3_lookAtAll_68 hG ?_
              rw [nI_clamp (by omega), sm_n1]
              refine ⟨vp_in_nI (by omega) (by decide), ihp (j + 1) _ (by omega) (fun a j q1 q2 => by rw [sm_st_o _ _ q2, f3 a j q1]; exact f2 a j q1 q2) (fun a b hab hb => ?_)⟩
              by_cases e : a = i ∧ b = j
              · obtain ⟨rfl, rfl⟩ := e
                rw [sm_st_s, hv]
              · rw [sm_st_j _ _ (by omega), f3 103 _ (by omega)]
                exact h2 a b (by omega) hb
            refine w_X3_lookAtAll_20 (d1 := 2) hG (mk1 hG).1 (by omega) ?_
            rw [hs2.1, if_neg (by rw [nI_leI (by omega) (by omega)]; omega), e7]
            by_cases eij : i = j
            · rw [if_pos (by rw [eij])]
              exact put I2 0 (cFt.rfl' I2) (by unfold sp_ey; rw [if_pos eij])
            · rw [if_neg (by rw [nI_eq (by omega) (by omega)]; omega)]
              refine c_X0_inForce (F := F) (by omega) hG hF2 ?_
              refine w_X3_lookAtAll_61 (d1 := 2) hG (by omega) ?_
              refine c_told (kd := 2) (other := some i) (by omega) hG (mk1 hG) hs2 hok hjm (fun q hq => by cases hq; exact him) hF2 (by decide) ?_
              intro I3 f3
              rw [sp_asked_n]
              exact put I3 _ f3 (by unfold sp_ey; rw [if_neg eij])
        have hs1 : cS s 1 I1 := cS_kept2 (fun a j q => f1 a j (by omega) (by omega)) hs
        refine w_X3_lookAtAll_10 hG (mk1 hG).1 ?_
        rw [hs1.1, if_neg (by rw [nI_leI (by omega) (by omega)]; omega)]
        exact inner (sMen s) 0 I1 (by omega) f1 (fun a b hab hb => h1 a b (by omega) hb)
    exact outer (sMen s) 0 I _ (by omega) (fun _ _ _ _ => rfl) (fun a b ha => absurd ha (by omega))
  · rw [if_neg q0]
    exact k I (fun _ _ _ _ _ => rfl) hca (c3 q0)
-- the search of orders
def plCond (up pv : Option Nat) (gone : Nat → Bool) (m : Nat) : Prop := (pv = none → up = none ∨ up = some m) ∧ gone m = false
def plCost (ey : Nat → Nat → Nat) (pv : Option Nat) (m : Nat) : Nat := match pv with
  | none => 0
  | some p => ey p m
def plStep (ey : Nat → Nat → Nat) (men : Nat) (up : Option Nat) (k : Nat) (pv : Option Nat) (gone : Nat → Bool) (e : Nat) (row : List Nat) (b : Bst) (m : Nat) : Bst := if (pv = none → up = none ∨ up = some m) ∧ gone m = false ∧ e + plCost ey pv m < sp_bst b then sp_place ey men up k (some m) (sm_up gone m true) (e + plCost ey pv m) (row ++ [m]) b else b
def plJ (ey : Nat → Nat → Nat) (men : Nat) (up : Option Nat) (k : Nat) (pv : Option Nat) (gone : Nat → Bool) (e : Nat) (row : List Nat) (b : Bst) (j : Nat) : Bst := (List.range j).foldl (plStep ey men up k pv gone e row) b
theorem sp_place_j (ey : Nat → Nat → Nat) (men : Nat) (up : Option Nat) (k : Nat) (pv : Option Nat) (gone : Nat → Bool) (e : Nat) (row : List Nat) (b : Bst) : sp_place ey men up (k + 1) pv gone e row b = plJ ey men up k pv gone e row b men := rfl
theorem plJ_s (ey : Nat → Nat → Nat) (men : Nat) (up : Option Nat) (k : Nat) (pv : Option Nat) (gone : Nat → Bool) (e : Nat) (row : List Nat) (b : Bst) (j : Nat) : plJ ey men up k pv gone e row b (j + 1) = plStep ey men up k pv gone e row (plJ ey men up k pv gone e row b j) j := by
  unfold plJ
  rw [List.range_succ, List.foldl_append]
  rfl
theorem sp_place_inv {ey : Nat → Nat → Nat} {men N : Nat} {up : Option Nat} (hey : ∀ a b, ey a b ≤ 99) : ∀ (k : Nat) (pv : Option Nat) (gone : Nat → Bool) (e : Nat) (row : List Nat) (b : Bst), row.length + k = N → e ≤ 99 * row.length → (∀ x, b = some x → x.2.length = N ∧ x.1 ≤ 99 * N) → ∀ x, sp_place ey men up k pv gone e row b = some x → x.2.length = N ∧ x.1 ≤ 99 * N := by
  intro k
  induction k with
  | zero =>
    intro pv gone e row b hl he hb x hx
    cases hx
    exact ⟨by show row.length = N; omega, by show e ≤ 99 * N; omega⟩
  | succ k ih =>
    intro pv gone e row b hl he hb
    rw [sp_place_j]
    have : ∀ j, ∀ x, plJ ey men up k pv gone e row b j = some x → x.2.length = N ∧ x.1 ≤ 99 * N := by
      intro j
      induction j with
      | zero => exact hb
      | succ j ihj =>
        rw [plJ_s]
        unfold plStep
        split
        · refine ih _ _ _ _ _ (by rw [List.length_append]; show row.length + 1 + k = N; omega) ?_ ihj
          rw [List.length_append]
          show _ ≤ 99 * (row.length + 1)
          cases pv with
          | none => show e + 0 ≤ _; omega
          | some p => have := hey p j; show e + ey p j ≤ _; omega
        · exact ihj
    exact this men
def pBest (b : Bst) (I : Nat → Nat → Int32) : Prop := I 102 5 = nI (sp_bst b) ∧ ∀ x, b = some x → rowI 105 I x.2
def pFr (l : Nat) (I I' : Nat → Nat → Int32) : Prop := ∀ a j, ¬ (a = 102 ∧ j = 5) → ¬ (a = 104 ∧ l ≤ j) → a ≠ 105 → I' a j = I a j
set_option maxHeartbeats 2000000 in
theorem c_X3_place {ex : sm_O} {n N : Nat} {y : sm_Y} {L : Nat → Nat → Int64} {R : Nat → Nat → Option Nat} {F : Option (Nat × Law)} {s : St} {I0 : Nat → Nat → Int32} (hG : sm_G y R) (hok : sp_ok s) (hN : sp_fit s = N) (hs0 : cS s 1 I0) (he0 : eyOk F s I0) :
    ∀ (k l : Nat) (pv : Option Nat) (gone : Nat → Bool) (e d : Nat) (row : List Nat) (b : Bst) (I : Nat → Nat → Int32) (Q : sm_Q) (w5 w6 w7 : Option Value), l + k = N → row.length = l → k + 2 ≤ d → pv = row.getLast? → (∀ p, pv = some p → p < sMen s) → (∀ a j, ¬ (a = 102 ∧ j = 5) → a ≠ 104 → a ≠ 105 → I a j = I0 a j) → rowI 104 I row → pBest b I → (∀ x, b = some x → x.2.length = N ∧ x.1 ≤ 99 * N) → e ≤ 99 * l →
    (∀ (I' : Nat → Nat → Int32), pFr l I I' → pBest (sp_place (sp_ey F s) (sMen s) (sUp s) k pv gone e row b) I' → Q none (n, y, I', L, R)) → sm_W ex d 0 0 16 0 [some (.ref 102), some (.ref 1), some (.int (nI l)), some (.int (nI (sp_bits gone (sMen s)))), some (.int (nI e)), w5, w6, w7] [] (n, y, I, L, R) Q := by
  have h7 := hok.1
  have hN7 : N ≤ 7 := by have := sp_fit_le s; omega
  intro k
  induction k with
  | zero =>
    intro l pv gone e d row b I Q w5 w6 w7 hlN hrl hd hpv hpm hf hrow hb hbx he kk
    obtain rfl : l = N := by omega
    have hs : cS s 1 I := cS_kept2 (fun a j q => hf a j (by omega) (by omega) (by omega)) hs0
    refine w_X3_place_0 (d1 := 1) (mk1 hG).1 (by omega) ?_
    refine c_X9_fit (Nat.le_refl 1) (mk1 hG).1 hs h7 ?_
    refine w_X3_place_5 ?_
    rw [hN, if_pos (Int32.le_refl _)]
    refine w_X3_place_14 hG (by omega) ?_
    rw [z0, z7]
    refine kk _ (fun a j q1 q2 q3 => by rw [sm_cp_or _ (by omega), sm_st_or _ _ (by omega)]) ⟨?_, fun x hx => ?_⟩
    · rw [sm_cp_or _ (by omega), sm_st_s]
      rfl
    · cases hx
      intro i v hv
      have hi : i < row.length := (List.getElem?_eq_some_iff.mp hv).1
      rw [sm_cp_in _ _ _ (by omega) (by omega), sm_st_o _ _ (by decide), show 0 + (i - 0) = i by omega]
      exact hrow i v hv
  | succ k ih =>
    intro l pv gone e d row b I Q w5 w6 w7 hlN hrl hd hpv hpm hf hrow hb hbx he kk
    have hs : cS s 1 I := cS_kept2 (fun a j q => hf a j (by omega) (by omega) (by omega)) hs0
    have hgl := cS_cash_lt h7 gone
    rw [sp_place_j] at kk
    have hpv0 : l = 0 ↔ pv = none := by
      rw [hpv, List.getLast?_eq_none_iff]
      constructor
      · intro z; exact List.length_eq_zero_iff.mp (by omega)
      · intro z; rw [z] at hrl; exact hrl.symm
    have key : ∀ (q j : Nat) (I1 : Nat → Nat → Int32) (w6 w7 : Option Value), j + q = sMen s → pFr l I I1 → pBest (plJ (sp_ey F s) (sMen s) (sUp s) k pv gone e row b j) I1 → (∀ x, plJ (sp_ey F s) (sMen s) (sUp s) k pv gone e row b j = some x → x.2.length = N ∧ x.1 ≤ 99 * N) → sm_W ex d 0 0 16 39 [some (.ref 102), some (.ref 1), some (.int (nI l)), some (.int (nI (sp_bits gone (sMen s)))), some (.int (nI e)), some (.int (nI j)), w6, w7] [] (n, y, I1, L, R) Q := by
      intro q
      induction q with
      | zero =>
        intro j I1 w6 w7 hj f1 b1 bx1
        obtain rfl : j = sMen s := by omega
        have hs1 : cS s 1 I1 := cS_kept2 (fun a j q => f1 a j (by omega) (by omega) (by omega)) hs
        refine w_X3_place_39 (mk1 hG).1 ?_
        rw [hs1.1, if_pos (Int32.le_refl _)]
        exact kk I1 f1 b1
      | succ q ihq =>
        intro j I1 w6 w7 hj f1 b1 bx1
        have hjm : j < sMen s := by omega
        have hs1 : cS s 1 I1 := cS_kept2 (fun a j q => f1 a j (by omega) (by omega) (by omega)) hs
        have hbl : sp_bst (plJ (sp_ey F s) (sMen s) (sUp s) k pv gone e row b j) ≤ 1000000 := by
          cases hx : plJ (sp_ey F s) (sMen s) (sUp s) k pv gone e row b j with
          | none => exact Nat.le_refl _
          | some x => have := bx1 x hx; show x.1 ≤ 1000000; omega
        have skip : ∀ (w6 w7 : Option Value), ¬ ((pv = none → sUp s = none ∨ sUp s = some j) ∧ gone j = false ∧ e + plCost (sp_ey F s) pv j < sp_bst (plJ (sp_ey F s) (sMen s) (sUp s) k pv gone e row b j)) → sm_W ex d 0 0 16 162 [some (.ref 102), some (.ref 1), some (.int (nI l)), some (.int (nI (sp_bits gone (sMen s)))), some (.int (nI e)), some (.int (nI j)), w6, w7] [] (n, y, I1, L, R) Q := by
          intro w6 w7 hn
          have es : plJ (sp_ey F s) (sMen s) (sUp s) k pv gone e row b (j + 1) = plJ (sp_ey F s) (sMen s) (sUp s) k pv gone e row b j := by rw [plJ_s]; unfold plStep; rw [if_neg hn]
          refine w_X3_place_162 ?_
          rw [sm_n1]
          exact ihq (j + 1) I1 _ _ (by omega) f1 (by rw [es]; exact b1) (by rw [es]; exact bx1)
        -- behind the first test
        have on : ∀ (w6 w7 : Option Value), (pv = none → sUp s = none ∨ sUp s = some j) → sm_W ex d 0 0 16 74 [some (.ref 102), some (.ref 1), some (.int (nI l)), some (.int (nI (sp_bits gone (sMen s)))), some (.int (nI e)), some (.int (nI j)), w6, w7] [.int 0] (n, y, I1, L, R) Q := by
          intro w6 w7 h1
          refine w_X3_place_74 hG ?_
          rw [if_pos rfl, sm_bit7 _ hgl j (by omega), sp_bits_tb, decide_eq_true hjm]
          cases hg : gone j with
          | true =>
            rw [if_pos (show (true && true) = true from rfl), if_pos rfl]
            exact skip _ _ (fun z => by rw [hg] at z; exact absurd z.2.1 (by decide))
          | false =>
            rw [if_neg (show ¬ (true && false) = true by decide), if_neg (show ¬ (0 : Int32) = 1 by decide)]
            -- what it costs
            have cost : ∀ (c : Nat) (w7 : Option Value), c ≤ 99 → c = plCost (sp_ey F s) pv j → sm_W ex d 0 0 16 121 [some (.ref 102), some (.ref 1), some (.int (nI l)), some (.int (nI (sp_bits gone (sMen s)))), some (.int (nI e)), some (.int (nI j)), some (.int 0), w7] [.int (nI c)] (n, y, I1, L, R) Q := by
              intro c w7 hc99 hc
              refine w_X3_place_121 (d1 := d - 1) hG (by omega) ?_
              rw [nI_add, b1.1]
              by_cases hlt : e + c < sp_bst (plJ (sp_ey F s) (sMen s) (sUp s) k pv gone e row b j)
              · rw [if_neg (by rw [nI_leI (by omega) (by omega)]; omega), nI_clamp (by omega), sm_n1, sm_shl7 j (by omega), sm_or7 _ hgl _ (two128 (by omega)), sp_bits_on gone hjm]
                have es : plJ (sp_ey F s) (sMen s) (sUp s) k pv gone e row b (j + 1) = sp_place (sp_ey F s) (sMen s) (sUp s) k (some j) (sm_up gone j true) (e + c) (row ++ [j]) (plJ (sp_ey F s) (sMen s) (sUp s) k pv gone e row b j) := by rw [plJ_s]; unfold plStep; rw [← hc, if_pos ⟨h1, hg, hlt⟩]
                refine ⟨vp_in_nI (by omega) (by decide), ?_⟩
                refine ih (l + 1) (some j) (sm_up gone j true) (e + c) (d - 1) (row ++ [j]) _ _ _ _ _ _ (by omega) (by rw [List.length_append]; show row.length + 1 = l + 1; omega) (by omega) (by rw [List.getLast?_append]; rfl) (fun p hp => by cases hp; exact hjm) (fun a i q1 q2 q3 => by rw [sm_st_o _ _ q2, f1 a i q1 (by omega) q3]; exact hf a i q1 q2 q3) (fun i v hv => ?_) ⟨by rw [sm_st_o _ _ (by decide)]; exact b1.1, fun x hx => rowI_kept (fun i => sm_st_o _ _ (by decide)) (b1.2 x hx)⟩ bx1 (by omega) ?_
                · have hi : i < (row ++ [j]).length := (List.getElem?_eq_some_iff.mp hv).1
                  rw [List.length_append] at hi
                  have hi : i < row.length + 1 := hi
                  by_cases hi2 : i < row.length
                  · rw [List.getElem?_append_left hi2] at hv
                    rw [sm_st_j _ _ (by omega), f1 104 i (by omega) (by omega) (by omega)]
                    exact hrow i v hv
                  · obtain rfl : i = row.length := by omega
                    rw [List.getElem?_append_right (Nat.le_refl _), Nat.sub_self] at hv
                    cases hv
                    rw [hrl, sm_st_s]
                · intro I2 f2 b2
                  refine w_X3_place_162 ?_
                  rw [sm_n1]
                  refine ihq (j + 1) I2 _ _ (by omega) (fun a i q1 q2 q3 => ?_) (by rw [es]; exact b2) ?_
                  · rw [f2 a i q1 (by omega) q3, sm_st_or _ _ (by omega)]
                    exact f1 a i q1 q2 q3
                  · rw [es]
                    exact sp_place_inv (sp_ey_le F s) k _ _ _ _ _ (by rw [List.length_append]; show row.length + 1 + k = N; omega) (by rw [List.length_append]; show _ ≤ 99 * (row.length + 1); omega) bx1
              · rw [if_pos (by rw [nI_leI (by omega) (by omega)]; omega)]
                exact skip _ _ (fun z => hlt (by rw [hc]; exact z.2.2))
            have fl0 : nI l = 0 ↔ l = 0 := nI_eq (b := 0) (by omega) (by decide)
            simp only [fl0]
            by_cases hl0 : l = 0
            · rw [if_pos hl0]
              exact cost 0 _ (by omega) (by rw [hpv0.mp hl0]; rfl)
            · rw [if_neg hl0]
              obtain ⟨l1, rfl⟩ : ∃ l1, l = l1 + 1 := ⟨l - 1, by omega⟩
              cases hpv2 : pv with
              | none => exact absurd (hpv0.mpr hpv2) hl0
              | some p =>
                have hp := hpm p hpv2
                have hlast : row[l1]? = some p := by
                  rw [hpv] at hpv2
                  rw [List.getLast?_eq_getElem?, hrl] at hpv2
                  exact hpv2
                have e104 : I1 104 l1 = nI p := (f1 104 l1 (by omega) (by omega) (by omega)).trans (hrow l1 p hlast)
                have e7 : nI p * 7 + nI j = nI (7 * p + j) := by rw [show (7 : Int32) = nI 7 from rfl, pk_mul, nI_add, Nat.mul_comm]
                have eey : I1 103 (7 * p + j) = nI (sp_ey F s p j) := by
                  rw [f1 103 _ (by omega) (by omega) (by omega), hf 103 _ (by omega) (by omega) (by omega)]
                  exact he0 p j hp hjm
                rw [nI_pred, nI_clamp (by omega), e104, e7, nI_clamp (by omega), eey]
                refine ⟨vp_in_nI (by omega) (by decide), vp_in_nI (by omega) (by decide), ?_⟩
                exact cost _ _ (sp_ey_le F s p j) (by rw [hpv2]; rfl)
        refine w_X3_place_39 (mk1 hG).1 ?_
        rw [hs1.1, if_neg (by rw [nI_leI (by omega) (by omega)]; omega), hs1.2.2.2.1]
        have fl0 : nI l = 0 ↔ l = 0 := nI_eq (b := 0) (by omega) (by decide)
        simp only [fl0, sp_up_eq hok.2.2.1 (by omega : sMen s ≤ 1000) hjm]
        by_cases hl0 : l = 0
        · rw [if_pos hl0]
          cases hu : sUp s with
          | none =>
            rw [if_pos (show sp_up none = -1 from rfl)]
            exact on _ _ (fun _ => Or.inl hu)
          | some u =>
            have hum := hok.2.2.1 u hu
            rw [if_neg (show ¬ sp_up (some u) = -1 from nI_m1 (by omega))]
            by_cases huj : u = j
            · rw [if_pos (by rw [huj])]
              exact on _ _ (fun _ => Or.inr (by rw [hu, huj]))
            · rw [if_neg (fun z => huj (Option.some.inj z))]
              refine w_X3_place_74 hG ?_
              rw [if_neg (by decide)]
              refine skip _ _ (fun z => ?_)
              rcases z.1 (hpv0.mp hl0) with z1 | z1
              · rw [hu] at z1; cases z1
              · rw [hu] at z1; exact huj (Option.some.inj z1)
        · rw [if_neg hl0]
          exact on _ _ (fun z => absurd (hpv0.mpr z) hl0)
    refine w_X3_place_0 (d1 := 1) (mk1 hG).1 (by omega) ?_
    refine c_X9_fit (Nat.le_refl 1) (mk1 hG).1 hs h7 ?_
    refine w_X3_place_5 ?_
    rw [hN, if_neg (by rw [nI_leI (by omega) (by omega)]; omega), if_pos (by rw [sm_of 7, nI_ltI (by omega) (by decide)]; omega)]
    exact key (sMen s) 0 I _ _ (by omega) (fun _ _ _ _ _ => rfl) hb hbx
def arOk (b : Bst) (I : Nat → Nat → Int32) : Prop := match b with
  | none => I 102 5 = 1000000
  | some x => I 102 5 = nI x.1 ∧ rowI 105 I x.2
def arFr (I I' : Nat → Nat → Int32) : Prop := ∀ a j, ¬ (51 ≤ a ∧ a ≤ 53) → ¬ (a = 102 ∧ (j = 2 ∨ j = 5 ∨ j = 6)) → ¬ (103 ≤ a ∧ a ≤ 105) → I' a j = I a j
theorem sp_arr_inv {F : Option (Nat × Law)} {s : St} {x : Nat × List Nat} (h : sp_arr F s = some x) : x.2.length = sp_fit s ∧ x.1 ≤ 99 * sp_fit s := sp_place_inv (sp_ey_le F s) (sp_fit s) none (sCash s) 0 [] none (by simp) (by simp) (fun x hx => by cases hx) x h
set_option maxHeartbeats 1000000 in
theorem c_X3_arrange {ex : sm_O} {n : Nat} {y : sm_Y} {I : Nat → Nat → Int32} {L : Nat → Nat → Int64} {R : Nat → Nat → Option Nat} {Q : sm_Q} {d : Nat} {s : St} {F : Option (Nat × Law)} (hd : 10 ≤ d) (hG : sm_G y R) (hs : cS s 1 I) (hok : sp_ok s) (hF : cForce I F) (hca : cCa F s I)
    (k : ∀ (I' : Nat → Nat → Int32), arFr I I' → cCa F s I' → arOk (sp_arr F s) I' → Q none (n, y, I', L, R)) : sm_W ex d 0 0 15 0 [some (.ref 102), some (.ref 1)] [] (n, y, I, L, R) Q := by
  have h7 := hok.1
  have hfit := sp_fit_le s
  refine w_X3_arrange_0 (d1 := 9) hG (by omega) ?_
  by_cases q0 : I 102 6 = 0
  · rw [if_pos q0]
    refine c_X3_look (by omega) hG hs hok hF hca ?_
    intro I1 f1 ca1 ey1
    refine w_X3_arrange_13 (d1 := 9) hG (mk1 hG).1 (by omega) ?_
    have hs1 : cS s 1 I1 := cS_kept2 (fun a j q => f1 a j (by omega) (by omega) (by omega)) hs
    have hs2 : cS s 1 (sm_st I1 102 5 1000000) := cS_kept2 (fun a j q => sm_st_o _ _ (by omega)) hs1
    rw [hs2.2.2.1]
    refine c_X3_place (N := sp_fit s) (F := F) (s := s) (I0 := sm_st I1 102 5 1000000) hG hok rfl hs2 (fun a b ha hb => by rw [sm_st_o _ _ (by decide)]; exact ey1 a b ha hb) (sp_fit s) 0 none (sCash s) 0 9 [] none _ _ _ _ _ (by omega) rfl (by omega) rfl (fun p hp => by cases hp) (fun _ _ _ _ _ => rfl) (fun i x hx => by cases hx) ⟨sm_st_s _ _ _ _, fun x hx => by cases hx⟩ (fun x hx => by cases hx) (Nat.le_refl 0) ?_
    intro I2 f2 b2
    refine w_X3_arrange_30 hG ?_
    have b2 : pBest (sp_arr F s) I2 := b2
    have ar : arOk (sp_arr F s) (sm_st I2 102 6 1) := by
      cases hx : sp_arr F s with
      | none =>
        rw [hx] at b2
        show (sm_st I2 102 6 1) 102 5 = 1000000
        rw [sm_st_j _ _ (by decide)]
        exact b2.1
      | some x =>
        rw [hx] at b2
        exact ⟨by rw [sm_st_j _ _ (by decide)]; exact b2.1, rowI_kept (fun j => sm_st_o _ _ (by decide)) (b2.2 x rfl)⟩
    have fr : ∀ a j, ¬ (a = 102 ∧ (j = 5 ∨ j = 6)) → a ≠ 104 → a ≠ 105 → (sm_st I2 102 6 1) a j = I1 a j := fun a j q1 q2 q3 => by
      rw [sm_st_or _ _ (by omega), f2 a j (by omega) (by omega) q3, sm_st_or _ _ (by omega)]
    refine k _ (fun a j q1 q2 q3 => (fr a j (by omega) (by omega) (by omega)).trans (f1 a j q1 (by omega) (by omega))) ?_ ar
    obtain ⟨c1, c2, c3, c4⟩ := ca1
    exact cCa_kept (I' := sm_st I2 102 6 1) (F := F) (s := s) (I := fun a j => if a = 105 ∨ (a = 102 ∧ (j = 5 ∨ j = 6)) then (sm_st I2 102 6 1) a j else I1 a j) (fun a j q => by
      show _ = if a = 105 ∨ (a = 102 ∧ (j = 5 ∨ j = 6)) then (sm_st I2 102 6 1) a j else I1 a j
      by_cases e : a = 105 ∨ (a = 102 ∧ (j = 5 ∨ j = 6))
      · rw [if_pos e]
      · rw [if_neg e]
        exact fr a j (by omega) (by omega) (by omega)) ⟨c1, c2, c3, Or.inr rfl, fun _ => ar⟩
  · rw [if_neg q0]
    exact k I (fun _ _ _ _ _ => rfl) hca (hca.2.2.2.2 q0)
def f_order (g : GG) (b : Int32) : Int32 := if -1 ≤ b ∧ b < nI (sp_fit (gS g)) then (match sp_arr (bF (gB g)) (gS g) with
    | none => -1
    | some x => if b = -1 then nI x.1 else nI (x.2.getD b.toNatClampNeg 0)) else -1
theorem CI_ar {g : GG} {n : Nat} {y : sm_Y} {I I' : Nat → Nat → Int32} {R : Nat → Nat → Option Nat} (hw : Wf g) (hc : CI g n y I R) (h : arFr I I') (hca : cCa (bF (gB g)) (gS g) I') : CI g n y I' R :=
  ⟨hc.1, hc.2.1, cS_kept2 (fun a j q => h a j (by omega) (by omega) (by omega)) hc.2.2.1, cP_kept (fun a j q => h a j (by omega) (by omega) (by omega)) hc.2.2.2.1, cB_kept hw.1.2.2.1 (fun a j q => h a j (by omega) (by omega) (by omega)) hc.2.2.2.2.1, cU_kept (fun a j q => h a j (by omega) (by omega) (by omega)) hc.2.2.2.2.2.1, cT_kept (fun a j q => h a j (by omega) (by omega) (by omega)) hc.2.2.2.2.2.2.1, cN_kept (fun a j q => h a j (by omega) (by omega) (by omega)) hc.2.2.2.2.2.2.2.1, cDr_kept (fun a j q => h a j (by omega) (by omega) (by omega)) hc.2.2.2.2.2.2.2.2.1, cIm_kept hw.2.2.2.1 (fun a j q => h a j (by omega) (by omega) (by omega)) hc.2.2.2.2.2.2.2.2.2.1, hca⟩
/-- there is an order whenever one may begin: said below, with the model -/
theorem C_order {ex : sm_O} {d : Nat} {g : GG} {b : Int32} (hd : 11 ≤ d) (hw : Wf g) (hsome : sp_arr (bF (gB g)) (gS g) ≠ none) : CM ex d 97 [some (.ref 0), some (.int b)] g (f_order g b) g := by
  intro n y I L R Q hc k
  have hs := hc.2.2.1
  have hG := hc.2.1
  have h7 : sMen (gS g) ≤ 7 := hw.1.1.1.1
  have hfit := sp_fit_le (gS g)
  unfold f_order at k
  have k0 := k I L hc (cKeep.rfl' I L)
  refine w_X10_order_0 (d1 := 10) hG (by omega) ?_
  by_cases q3 : b < -1
  · rw [if_pos q3]
    rw [if_neg (fun z => absurd q3 (Int32.not_lt.mpr z.1))] at k0
    exact k0
  rw [if_neg q3]
  refine c_X9_fit (by omega) (mk1 hG).1 hs h7 ?_
  refine w_X10_order_13 (d1 := 10) hG (by omega) ?_
  by_cases q4 : b < nI (sp_fit (gS g))
  · rw [if_pos q4]
    rw [if_pos ⟨Int32.not_lt.mp q3, q4⟩] at k
    refine c_X3_arrange (Nat.le_refl 10) hG hs hw.1.1.1 (hc.F hw) hc.2.2.2.2.2.2.2.2.2.2 ?_
    intro I1 f1 ca1 ar1
    have k1 := k I1 L (CI_ar hw hc f1 ca1) (cKeep_c (fun a j q => f1 a j (by omega) (by omega) (by omega)))
    refine w_X10_order_29 hG ?_
    cases hx : sp_arr (bF (gB g)) (gS g) with
    | none => exact absurd hx hsome
    | some x =>
      have hxi := sp_arr_inv hx
      rw [hx] at ar1 k1
      dsimp only at k1
      rcases m1_cases (Int32.not_lt.mp q3) with e | e
      · rw [if_pos e] at k1 ⊢
        rw [ar1.1]
        exact k1
      · have hne : ¬ b = -1 := fun z => by rw [z] at e; exact absurd e (by decide)
        rw [if_neg hne] at k1 ⊢
        obtain ⟨i, hi, rfl⟩ := nI_of (Int32.not_lt.mpr e)
        have hiN := (nI_ltI hi (by omega)).mp q4
        rw [nI_clamp hi] at k1 ⊢
        rw [rowI_get ar1.2 (by omega)]
        exact ⟨vp_in_nI (by omega) (by decide), k1⟩
  · rw [if_neg q4]
    rw [if_neg (fun z => q4 z.2)] at k0
    exact k0

