set_option maxRecDepth 100000 in
theorem w_J6_bitCount_0f7a4 {ex : sm_O} {d n : Nat} {y : sm_Y} {I : Nat → Nat → Int32} {L : Nat → Nat → Int64} {R : Nat → Nat → Option Nat} {Q : sm_Q} {a0 : Int32} (k : Q (some (.int ((((((((a0 - (((a0.toUInt32 >>> ((1 : Int32).toUInt32 &&& Int32.toUInt32 31)).toInt32) &&& 1431655765)) &&& 858993459) + ((((a0 - (((a0.toUInt32 >>> ((1 : Int32).toUInt32 &&& Int32.toUInt32 31)).toInt32) &&& 1431655765)).toUInt32 >>> ((2 : Int32).toUInt32 &&& Int32.toUInt32 31)).toInt32) &&& 858993459)) + (((((a0 - (((a0.toUInt32 >>> ((1 : Int32).toUInt32 &&& Int32.toUInt32 31)).toInt32) &&& 1431655765)) &&& 858993459) + ((((a0 - (((a0.toUInt32 >>> ((1 : Int32).toUInt32 &&& Int32.toUInt32 31)).toInt32) &&& 1431655765)).toUInt32 >>> ((2 : Int32).toUInt32 &&& Int32.toUInt32 31)).toInt32) &&& 858993459)).toUInt32 >>> ((4 : Int32).toUInt32 &&& Int32.toUInt32 31)).toInt32)) &&& 252645135) + (((((((a0 - (((a0.toUInt32 >>> ((1 : Int32).toUInt32 &&& Int32.toUInt32 31)).toInt32) &&& 1431655765)) &&& 858993459) + ((((a0 - (((a0.toUInt32 >>> ((1 : Int32).toUInt32 &&& Int32.toUInt32 31)).toInt32) &&& 1431655765)).toUInt32 >>> ((2 : Int32).toUInt32 &&& Int32.toUInt32 31)).toInt32) &&& 858993459)) + (((((a0 - (((a0.toUInt32 >>> ((1 : Int32).toUInt32 &&& Int32.toUInt32 31)).toInt32) &&& 1431655765)) &&& 858993459) + ((((a0 - (((a0.toUInt32 >>> ((1 : Int32).toUInt32 &&& Int32.toUInt32 31)).toInt32) &&& 1431655765)).toUInt32 >>> ((2 : Int32).toUInt32 &&& Int32.toUInt32 31)).toInt32) &&& 858993459)).toUInt32 >>> ((4 : Int32).toUInt32 &&& Int32.toUInt32 31)).toInt32)) &&& 252645135).toUInt32 >>> ((8 : Int32).toUInt32 &&& Int32.toUInt32 31)).toInt32)) + ((((((((a0 - (((a0.toUInt32 >>> ((1 : Int32).toUInt32 &&& Int32.toUInt32 31)).toInt32) &&& 1431655765)) &&& 858993459) + ((((a0 - (((a0.toUInt32 >>> ((1 : Int32).toUInt32 &&& Int32.toUInt32 31)).toInt32) &&& 1431655765)).toUInt32 >>> ((2 : Int32).toUInt32 &&& Int32.toUInt32 31)).toInt32) &&& 858993459)) + (((((a0 - (((a0.toUInt32 >>> ((1 : Int32).toUInt32 &&& Int32.toUInt32 31)).toInt32) &&& 1431655765)) &&& 858993459) + ((((a0 - (((a0.toUInt32 >>> ((1 : Int32).toUInt32 &&& Int32.toUInt32 31)).toInt32) &&& 1431655765)).toUInt32 >>> ((2 : Int32).toUInt32 &&& Int32.toUInt32 31)).toInt32) &&& 858993459)).toUInt32 >>> ((4 : Int32).toUInt32 &&& Int32.toUInt32 31)).toInt32)) &&& 252645135) + (((((((a0 - (((a0.toUInt32 >>> ((1 : Int32).toUInt32 &&& Int32.toUInt32 31)).toInt32) &&& 1431655765)) &&& 858993459) + ((((a0 - (((a0.toUInt32 >>> ((1 : Int32).toUInt32 &&& Int32.toUInt32 31)).toInt32) &&& 1431655765)).toUInt32 >>> ((2 : Int32).toUInt32 &&& Int32.toUInt32 31)).toInt32) &&& 858993459)) + (((((a0 - (((a0.toUInt32 >>> ((1 : Int32).toUInt32 &&& Int32.toUInt32 31)).toInt32) &&& 1431655765)) &&& 858993459) + ((((a0 - (((a0.toUInt32 >>> ((1 : Int32).toUInt32 &&& Int32.toUInt32 31)).toInt32) &&& 1431655765)).toUInt32 >>> ((2 : Int32).toUInt32 &&& Int32.toUInt32 31)).toInt32) &&& 858993459)).toUInt32 >>> ((4 : Int32).toUInt32 &&& Int32.toUInt32 31)).toInt32)) &&& 252645135).toUInt32 >>> ((8 : Int32).toUInt32 &&& Int32.toUInt32 31)).toInt32)).toUInt32 >>> ((16 : Int32).toUInt32 &&& Int32.toUInt32 31)).toInt32)) &&& 63))) (n, y, I, L, R)) : sm_W ex d 0 0 240 0 [some (.int a0)] [] (n, y, I, L, R) Q := sm_in (sm_in (sm_in (sm_in (sm_in (sm_in (sm_in (sm_in (And.intro (Nat.le_of_ble_eq_true rfl) (sm_in (sm_in (sm_in (sm_in (sm_in (sm_in (sm_in (sm_in (sm_in (sm_in (And.intro (Nat.le_of_ble_eq_true rfl) (sm_in (sm_in (sm_in (sm_in (sm_in (sm_in (sm_in (sm_in (And.intro (Nat.le_of_ble_eq_true rfl) (sm_in (sm_in (sm_in (sm_in (sm_in (sm_in (And.intro (Nat.le_of_ble_eq_true rfl) (sm_in (sm_in (sm_in (sm_in (sm_in (sm_in (And.intro (Nat.le_of_ble_eq_true rfl) (sm_in (sm_in (sm_in (sm_in (And.intro rfl k)))))))))))))))))))))))))))))))))))))))))))))))
set_option maxRecDepth 100000 in
theorem w_X9_isMan {ex : sm_O} {d n : Nat} {y : sm_Y} {I : Nat → Nat → Int32} {L : Nat → Nat → Int64} {R : Nat → Nat → Option Nat} {Q : sm_Q} {a0 : Nat} {a1 : Int32} (ho0 : ok9 y R a0) (k : if a1 < 0 then (Q (some (.int 0)) (n, y, I, L, R)) else (if (I a0 4) ≤ a1 then (Q (some (.int 0)) (n, y, I, L, R)) else (Q (some (.int 1)) (n, y, I, L, R)))) : sm_W ex d 0 0 64 0 [some (.ref a0), some (.int a1)] [] (n, y, I, L, R) Q := sm_in (sm_in (And.intro (fun c1 => have k1t := Eq.mp (if_pos c1) k; sm_in (sm_in (And.intro rfl (And.intro (Or.inl rfl) k1t)))) (fun c1 => have k1f := Eq.mp (if_neg c1) k; sm_in (sm_in (sm_in (And.intro (ok9_y0 ho0) (sm_in (And.intro (fun c2 => have k2t := Eq.mp (if_pos c2) k1f; sm_in (sm_in (And.intro rfl (And.intro (Or.inl rfl) k2t)))) (fun c2 => have k2f := Eq.mp (if_neg c2) k1f; sm_in (sm_in (sm_in (And.intro rfl (And.intro (Or.inr rfl) k2f)))))))))))))
set_option maxRecDepth 100000 in
theorem w_X9_isCashiered {ex : sm_O} {d n : Nat} {y : sm_Y} {I : Nat → Nat → Int32} {L : Nat → Nat → Int64} {R : Nat → Nat → Option Nat} {Q : sm_Q} {a0 : Nat} {a1 : Int32} (ho0 : ok9 y R a0) (k : if (((I a0 5) >>> (a1 &&& 31)) &&& 1) = 1 then (Q (some (.int 1)) (n, y, I, L, R)) else (Q (some (.int 0)) (n, y, I, L, R))) : sm_W ex d 0 0 65 0 [some (.ref a0), some (.int a1)] [] (n, y, I, L, R) Q := sm_in (sm_in (And.intro (ok9_y0 ho0) (sm_in (sm_in (sm_in (sm_in (sm_in (sm_in (And.intro (fun c1 => have k1f := Eq.mp (if_neg c1) k; sm_in (sm_in (And.intro rfl (And.intro (Or.inl rfl) k1f)))) (fun c1 => have k1t := Eq.mp (if_pos c1) k; sm_in (sm_in (sm_in (And.intro rfl (And.intro (Or.inr rfl) k1t))))))))))))))
set_option maxRecDepth 100000 in
theorem w_X9_fit_0 {ex : sm_O} {d n : Nat} {y : sm_Y} {I : Nat → Nat → Int32} {L : Nat → Nat → Int64} {R : Nat → Nat → Option Nat} {Q : sm_Q} {a0 : Nat} {d1 : Nat} (ho0 : ok9 y R a0) (h1 : d1 < d) (k : sm_W ex d1 0 0 240 0 [some (.int (I a0 5))] [] (n, y, I, L, R) (fun r μ1 => sm_W ex d 0 0 66 11 [some (.ref a0)] (r.toList ++ [.int (I a0 4)]) μ1 Q)) : sm_W ex d 0 0 66 0 [some (.ref a0)] [] (n, y, I, L, R) Q := sm_in (sm_in (And.intro (ok9_y0 ho0) (sm_in (sm_in (And.intro (ok9_y0 ho0) (sm_in (And.intro (Nat.le_of_ble_eq_true rfl) (sm_calln h1 (Nat.le_of_ble_eq_true rfl) (Nat.le_of_ble_eq_true rfl) k))))))))
set_option maxRecDepth 100000 in
theorem w_X9_fit_11 {ex : sm_O} {d n : Nat} {y : sm_Y} {I : Nat → Nat → Int32} {L : Nat → Nat → Int64} {R : Nat → Nat → Option Nat} {Q : sm_Q} {w0 : Option Value} {s0 : Int32} {s1 : Int32} (k : Q (some (.int (s1 - s0))) (n, y, I, L, R)) : sm_W ex d 0 0 66 11 [w0] [.int s0, .int s1] (n, y, I, L, R) Q := sm_in (sm_in (And.intro rfl k))
set_option maxRecDepth 100000 in
theorem w_X9_unlike_0 {ex : sm_O} {d n : Nat} {y : sm_Y} {I : Nat → Nat → Int32} {L : Nat → Nat → Int64} {R : Nat → Nat → Option Nat} {Q : sm_Q} {a0 : Nat} {a1 : Int32} {a2 : Int32} {d1 : Nat} (ho0 : ok9 y R a0) (h1 : d1 < d) (k : vp_in a1 7 ∧ vp_in a2 7 ∧ sm_W ex d1 0 0 240 0 [some (.int ((I (a0 + 2) a1.toNatClampNeg) ^^^ (I (a0 + 2) a2.toNatClampNeg)))] [] (n, y, I, L, R) (fun r μ1 => sm_W ex d 0 0 68 16 [some (.ref a0), some (.int a1), some (.int a2)] (r.toList ++ []) μ1 Q)) : sm_W ex d 0 0 68 0 [some (.ref a0), some (.int a1), some (.int a2)] [] (n, y, I, L, R) Q := sm_in (sm_in (And.intro (ok9_y0 ho0) (sm_gfr rfl (ok9_r1 ho0) (sm_in ((have e1 := k.1; have k1 := k.2; sm_in (Exists.intro 7 (And.intro (ok9_a2 ho0) (And.intro e1 (sm_in (sm_in (And.intro (ok9_y0 ho0) (sm_gfr rfl (ok9_r1 ho0) (sm_in ((have e2 := k1.1; have k2 := k1.2; sm_in (Exists.intro 7 (And.intro (ok9_a2 ho0) (And.intro e2 (sm_in (sm_in (And.intro (Nat.le_of_ble_eq_true rfl) (sm_calln h1 (Nat.le_of_ble_eq_true rfl) (Nat.le_of_ble_eq_true rfl) k2)))))))))))))))))))))))
set_option maxRecDepth 100000 in
theorem w_X9_unlike_16 {ex : sm_O} {d n : Nat} {y : sm_Y} {I : Nat → Nat → Int32} {L : Nat → Nat → Int64} {R : Nat → Nat → Option Nat} {Q : sm_Q} {w0 : Option Value} {w1 : Option Value} {w2 : Option Value} {s0 : Int32} (k : Q (some (.int s0)) (n, y, I, L, R)) : sm_W ex d 0 0 68 16 [w0, w1, w2] [.int s0] (n, y, I, L, R) Q := sm_in (And.intro rfl k)
set_option maxRecDepth 100000 in
theorem w_X0_isLawOrNone {ex : sm_O} {d n : Nat} {y : sm_Y} {I : Nat → Nat → Int32} {L : Nat → Nat → Int64} {R : Nat → Nat → Option Nat} {Q : sm_Q} {a0 : Nat} {a1 : Int32} (ho0 : ok0 y R a0) (k : if a1 < (-1) then (Q (some (.int 0)) (n, y, I, L, R)) else (if (I a0 2) ≤ a1 then (Q (some (.int 0)) (n, y, I, L, R)) else (Q (some (.int 1)) (n, y, I, L, R)))) : sm_W ex d 0 0 2 0 [some (.ref a0), some (.int a1)] [] (n, y, I, L, R) Q := sm_in (sm_in (sm_in (And.intro (fun c1 => have k1t := Eq.mp (if_pos c1) k; sm_in (sm_in (And.intro rfl (And.intro (Or.inl rfl) k1t)))) (fun c1 => have k1f := Eq.mp (if_neg c1) k; sm_in (sm_in (sm_in (And.intro (ok0_y0 ho0) (sm_in (And.intro (fun c2 => have k2t := Eq.mp (if_pos c2) k1f; sm_in (sm_in (And.intro rfl (And.intro (Or.inl rfl) k2t)))) (fun c2 => have k2f := Eq.mp (if_neg c2) k1f; sm_in (sm_in (sm_in (And.intro rfl (And.intro (Or.inr rfl) k2f))))))))))))))
set_option maxRecDepth 100000 in
theorem w_X0_lawOrNone {ex : sm_O} {d n : Nat} {y : sm_Y} {I : Nat → Nat → Int32} {L : Nat → Nat → Int64} {R : Nat → Nat → Option Nat} {Q : sm_Q} {a0 : Nat} {a1 : Int32} (ho0 : ok0 y R a0) (k : if a1 < 0 then (Q (some (.ref (a0 + 2))) (n, y, I, L, R)) else (if (I a0 2) ≤ a1 then (Q (some (.ref (a0 + 2))) (n, y, I, L, R)) else (vp_in a1 6 ∧ Q (some (.ref (a0 + (8 + 6 * a1.toNatClampNeg)))) (n, y, I, L, R)))) : sm_W ex d 0 0 3 0 [some (.ref a0), some (.int a1)] [] (n, y, I, L, R) Q := sm_in (sm_in (And.intro (fun c1 => have k1t := Eq.mp (if_pos c1) k; sm_in (sm_in (And.intro (ok0_y0 ho0) (sm_gfr rfl (ok0_r1 ho0) (sm_in (And.intro rfl k1t)))))) (fun c1 => have k1f := Eq.mp (if_neg c1) k; sm_in (sm_in (sm_in (And.intro (ok0_y0 ho0) (sm_in (And.intro (fun c2 => have k2t := Eq.mp (if_pos c2) k1f; sm_in (sm_in (And.intro (ok0_y0 ho0) (sm_gfr rfl (ok0_r1 ho0) (sm_in (And.intro rfl k2t)))))) (fun c2 => have k2f := Eq.mp (if_neg c2) k1f; sm_in (sm_in (And.intro (ok0_y0 ho0) (sm_gfr rfl (ok0_r0 ho0) (sm_in ((have e3 := k2f.1; have k3 := k2f.2; sm_in (Exists.intro 6 (Exists.intro 6 (And.intro (ok0_a1 ho0) (And.intro e3 (sm_rrs (ok0_l ho0 _ (sm_lt_in e3)).1 (sm_in (sm_in (And.intro rfl k3)))))))))))))))))))))))
set_option maxRecDepth 100000 in
theorem w_X0_inForce_0 {ex : sm_O} {d n : Nat} {y : sm_Y} {I : Nat → Nat → Int32} {L : Nat → Nat → Int64} {R : Nat → Nat → Option Nat} {Q : sm_Q} {a0 : Nat} {d1 : Nat} (ho0 : ok0 y R a0) (h1 : d1 < d) (k : sm_W ex d1 0 0 3 0 [some (.ref a0), some (.int (I a0 3))] [] (n, y, I, L, R) (fun r μ1 => sm_W ex d 0 0 4 8 [some (.ref a0)] (r.toList ++ []) μ1 Q)) : sm_W ex d 0 0 4 0 [some (.ref a0)] [] (n, y, I, L, R) Q := sm_in (sm_in (sm_in (And.intro (ok0_y0 ho0) (sm_in (Exists.intro 0 (And.intro (ok0_y0 ho0) (And.intro rfl (sm_calln h1 (Nat.le_of_ble_eq_true rfl) (Nat.le_of_ble_eq_true rfl) k))))))))
set_option maxRecDepth 100000 in
theorem w_X0_inForce_8 {ex : sm_O} {d n : Nat} {y : sm_Y} {I : Nat → Nat → Int32} {L : Nat → Nat → Int64} {R : Nat → Nat → Option Nat} {Q : sm_Q} {w0 : Option Value} {s0 : Nat} (k : Q (some (.ref s0)) (n, y, I, L, R)) : sm_W ex d 0 0 4 8 [w0] [.ref s0] (n, y, I, L, R) Q := sm_in (And.intro rfl k)
set_option maxRecDepth 100000 in
theorem w_X5_told_0 {ex : sm_O} {d n : Nat} {y : sm_Y} {I : Nat → Nat → Int32} {L : Nat → Nat → Int64} {R : Nat → Nat → Option Nat} {Q : sm_Q} {w0 : Option Value} {w1 : Option Value} {w6 : Option Value} {w7 : Option Value} {a2 : Int32} {a3 : Nat} {a4 : Int32} {a5 : Int32} {d1 : Nat} (ho0 : ok9 y R a3) (h1 : d1 < d) (k : if a2 = 2 then (if a5 = (-1) then (Q (some (.int 0)) (n, y, I, L, R)) else (sm_W ex d1 0 0 68 0 [some (.ref a3), some (.int a4), some (.int a5)] [] (n, y, I, L, R) (fun r μ1 => sm_W ex d 0 0 26 31 [w0, w1, some (.int a2), some (.ref a3), some (.int a4), some (.int a5), w6, w7] (r.toList ++ []) μ1 Q))) else (if a5 = (-1) then (sm_W ex d 0 0 26 31 [w0, w1, some (.int a2), some (.ref a3), some (.int a4), some (.int a5), w6, w7] [.int (-1)] (n, y, I, L, R) Q) else (sm_W ex d1 0 0 68 0 [some (.ref a3), some (.int a4), some (.int a5)] [] (n, y, I, L, R) (fun r μ1 => sm_W ex d 0 0 26 31 [w0, w1, some (.int a2), some (.ref a3), some (.int a4), some (.int a5), w6, w7] (r.toList ++ []) μ1 Q)))) : sm_W ex d 0 0 26 0 [w0, w1, some (.int a2), some (.ref a3), some (.int a4), some (.int a5), w6, w7] [] (n, y, I, L, R) Q := sm_in (sm_in (sm_in (And.intro (fun c1 => have k1f := Eq.mp (if_neg c1) k; sm_in (sm_in (sm_in (And.intro (fun c3 => have k3f := Eq.mp (if_neg c3) k1f; sm_in (sm_in (sm_in (sm_in (Exists.intro 9 (And.intro (ok9_y0 ho0) (And.intro rfl (sm_calln h1 (Nat.le_of_ble_eq_true rfl) (Nat.le_of_ble_eq_true rfl) k3f)))))))) (fun c3 => have k3t := Eq.mp (if_pos c3) k1f; sm_in (sm_in (k3t))))))) (fun c1 => have k1t := Eq.mp (if_pos c1) k; sm_in (sm_in (sm_in (And.intro (fun c2 => have k2f := Eq.mp (if_neg c2) k1t; sm_in (sm_in (sm_in (And.intro (fun _ => sm_in (sm_in (sm_in (sm_in (Exists.intro 9 (And.intro (ok9_y0 ho0) (And.intro rfl (sm_calln h1 (Nat.le_of_ble_eq_true rfl) (Nat.le_of_ble_eq_true rfl) k2f)))))))) (fun c => absurd c c2))))) (fun c2 => have k2t := Eq.mp (if_pos c2) k1t; sm_in (sm_in (And.intro rfl k2t))))))))))
set_option maxRecDepth 100000 in
theorem w_X5_told_31 {ex : sm_O} {d n : Nat} {y : sm_Y} {I : Nat → Nat → Int32} {L : Nat → Nat → Int64} {R : Nat → Nat → Option Nat} {Q : sm_Q} {w1 : Option Value} {w2 : Option Value} {w6 : Option Value} {w7 : Option Value} {a3 : Nat} {a4 : Int32} {a5 : Int32} {s0 : Int32} {d1 : Nat} (hG : sm_G y R) (h1 : d1 < d) (k : sm_W ex d1 0 0 27 0 [some (.ref 50), some (.ref a3), some (.int a4), some (.int a5), some (.int s0), none] [] (n, y, I, L, R) (fun r μ1 => sm_W ex d 0 0 26 44 [some (.ref 50), w1, w2, some (.ref a3), some (.int a4), some (.int a5), some (.int s0), w7] (r.toList ++ []) μ1 Q)) : sm_W ex d 0 0 26 31 [some (.ref 50), w1, w2, some (.ref a3), some (.int a4), some (.int a5), w6, w7] [.int s0] (n, y, I, L, R) Q := sm_in (And.intro (Nat.le_of_ble_eq_true rfl) (sm_in (sm_in (sm_in (sm_in (sm_in (sm_in (Exists.intro 5 (And.intro (hG.1 50 (Nat.le_of_ble_eq_true rfl)) (And.intro rfl (sm_calln h1 (Nat.le_of_ble_eq_true rfl) (Nat.le_of_ble_eq_true rfl) k)))))))))))
set_option maxRecDepth 100000 in
theorem w_X5_told_44 {ex : sm_O} {d n : Nat} {y : sm_Y} {I : Nat → Nat → Int32} {L : Nat → Nat → Int64} {R : Nat → Nat → Option Nat} {Q : sm_Q} {w0 : Option Value} {w2 : Option Value} {w3 : Option Value} {w4 : Option Value} {w5 : Option Value} {w7 : Option Value} {a1 : Nat} {a6 : Int32} {ns0 nc0 : Nat} (ho0 : ok6 y R a1 ns0 nc0) (k : sm_W ex d 0 0 26 52 [w0, some (.ref a1), w2, w3, w4, w5, some (.int a6), some (.int ((I a1 5) - 1))] [] (n, y, I, L, R) Q) : sm_W ex d 0 0 26 44 [w0, some (.ref a1), w2, w3, w4, w5, some (.int a6), w7] [] (n, y, I, L, R) Q := sm_in (sm_in (And.intro (ok6_y0 ho0) (sm_in (sm_in (sm_in (And.intro (Nat.le_of_ble_eq_true rfl) (k)))))))
set_option maxRecDepth 100000 in
theorem w_X5_told_52 {ex : sm_O} {d n : Nat} {y : sm_Y} {I : Nat → Nat → Int32} {L : Nat → Nat → Int64} {R : Nat → Nat → Option Nat} {Q : sm_Q} {w3 : Option Value} {w4 : Option Value} {w5 : Option Value} {a1 : Nat} {a2 : Int32} {a6 : Int32} {a7 : Int32} {ns0 nc0 : Nat} {d1 : Nat} (hG : sm_G y R) (ho0 : ok6 y R a1 ns0 nc0) (h1 : d1 < d) (k : if a7 < 0 then (if a2 = 3 then (Q (some (.int 0)) (n, y, I, L, R)) else (if a2 = 2 then (Q (some (.int a6)) (n, y, I, L, R)) else (Q (some (.int 1)) (n, y, I, L, R)))) else (vp_in a7 nc0 ∧ (if (I (a1 + 2) a7.toNatClampNeg) = a2 then (if (I (a1 + 4) a7.toNatClampNeg) = (-1) then (if a2 = 3 then (Q (some (.int 1)) (n, y, I, L, R)) else (sm_W ex d1 0 0 11 0 [some (.ref 51), some (.ref a1), some (.int (I (a1 + 3) a7.toNatClampNeg)), none, none, none] [] (n, y, I, L, R) (fun r μ1 => sm_W ex d 0 0 26 136 [some (.ref 50), some (.ref a1), some (.int a2), w3, w4, w5, some (.int a6), some (.int a7)] (r.toList ++ []) μ1 Q))) else (sm_W ex d1 0 0 11 0 [some (.ref 51), some (.ref a1), some (.int (I (a1 + 4) a7.toNatClampNeg)), none, none, none] [] (n, y, I, L, R) (fun r μ1 => sm_W ex d 0 0 26 97 [some (.ref 50), some (.ref a1), some (.int a2), w3, w4, w5, some (.int a6), some (.int a7)] (r.toList ++ []) μ1 Q))) else (sm_W ex d 0 0 26 52 [some (.ref 50), some (.ref a1), some (.int a2), w3, w4, w5, some (.int a6), some (.int (a7 + (-1)))] [] (n, y, I, L, R) Q)))) : sm_W ex d 0 0 26 52 [some (.ref 50), some (.ref a1), some (.int a2), w3, w4, w5, some (.int a6), some (.int a7)] [] (n, y, I, L, R) Q := sm_in (sm_in (And.intro (fun c1 => have k1t := Eq.mp (if_pos c1) k; sm_in (sm_in (sm_in (And.intro (fun c2 => have k2f := Eq.mp (if_neg c2) k1t; sm_in (sm_in (sm_in (And.intro (fun c3 => have k3f := Eq.mp (if_neg c3) k2f; sm_in (sm_in (And.intro rfl k3f))) (fun c3 => have k3t := Eq.mp (if_pos c3) k2f; sm_in (sm_in (sm_in (And.intro rfl k3t)))))))) (fun c2 => have k2t := Eq.mp (if_pos c2) k1t; sm_in (sm_in (And.intro rfl k2t))))))) (fun c1 => have k1f := Eq.mp (if_neg c1) k; sm_in (sm_in (And.intro (ok6_y0 ho0) (sm_gfr rfl (ok6_r1 ho0) (sm_in ((have e4 := k1f.1; have k4 := k1f.2; sm_in (Exists.intro nc0 (And.intro (ok6_a2 ho0) (And.intro e4 (sm_in (sm_in (And.intro (fun c5 => have k5t := Eq.mp (if_pos c5) k4; sm_in (sm_in (And.intro (ok6_y0 ho0) (sm_gfr rfl (ok6_r3 ho0) (sm_in (sm_in (Exists.intro nc0 (And.intro (ok6_a4 ho0) (And.intro e4 (sm_in (sm_in (And.intro (fun c6 => have k6t := Eq.mp (if_pos c6) k5t; sm_in (sm_in (sm_in (And.intro (fun c7 => have k7f := Eq.mp (if_neg c7) k6t; sm_in (sm_in (And.intro (hG.1 50 (Nat.le_of_ble_eq_true rfl)) (sm_gfr rfl (hG.2 50 1 rfl) (sm_in (sm_in (sm_in (And.intro (ok6_y0 ho0) (sm_gfr rfl (ok6_r2 ho0) (sm_in (sm_in (Exists.intro nc0 (And.intro (ok6_a3 ho0) (And.intro e4 (sm_in (Exists.intro 2 (And.intro (hG.1 51 (Nat.le_of_ble_eq_true rfl)) (And.intro rfl (sm_calln h1 (Nat.le_of_ble_eq_true rfl) (Nat.le_of_ble_eq_true rfl) k7f))))))))))))))))))) (fun c7 => have k7t := Eq.mp (if_pos c7) k6t; sm_in (sm_in (And.intro rfl k7t))))))) (fun c6 => have k6f := Eq.mp (if_neg c6) k5t; sm_in (sm_in (And.intro (hG.1 50 (Nat.le_of_ble_eq_true rfl)) (sm_gfr rfl (hG.2 50 1 rfl) (sm_in (sm_in (sm_in (And.intro (ok6_y0 ho0) (sm_gfr rfl (ok6_r3 ho0) (sm_in (sm_in (Exists.intro nc0 (And.intro (ok6_a4 ho0) (And.intro e4 (sm_in (Exists.intro 2 (And.intro (hG.1 51 (Nat.le_of_ble_eq_true rfl)) (And.intro rfl (sm_calln h1 (Nat.le_of_ble_eq_true rfl) (Nat.le_of_ble_eq_true rfl) k6f))))))))))))))))))))))))))))))) (fun c5 => have k5f := Eq.mp (if_neg c5) k4; sm_in (sm_in (And.intro (Nat.le_of_ble_eq_true rfl) (sm_in (k5f))))))))))))))))))))
set_option maxRecDepth 100000 in
theorem w_X5_told_97 {ex : sm_O} {d n : Nat} {y : sm_Y} {I : Nat → Nat → Int32} {L : Nat → Nat → Int64} {R : Nat → Nat → Option Nat} {Q : sm_Q} {w3 : Option Value} {w4 : Option Value} {w5 : Option Value} {a1 : Nat} {a2 : Int32} {a6 : Int32} {a7 : Int32} {s0 : Int32} {ns0 nc0 : Nat} {d1 : Nat} (hG : sm_G y R) (ho0 : ok6 y R a1 ns0 nc0) (h1 : d1 < d) (k : if s0 = 0 then (sm_W ex d 0 0 26 52 [some (.ref 50), some (.ref a1), some (.int a2), w3, w4, w5, some (.int a6), some (.int (a7 + (-1)))] [] (n, y, I, L, R) Q) else (if (I 51 3) = 1 then (if a2 = 3 then (Q (some (.int 1)) (n, y, I, L, R)) else (vp_in a7 nc0 ∧ sm_W ex d1 0 0 11 0 [some (.ref 51), some (.ref a1), some (.int (I (a1 + 3) a7.toNatClampNeg)), none, none, none] [] (n, y, I, L, R) (fun r μ1 => sm_W ex d 0 0 26 136 [some (.ref 50), some (.ref a1), some (.int a2), w3, w4, w5, some (.int a6), some (.int a7)] (r.toList ++ []) μ1 Q))) else (sm_W ex d 0 0 26 52 [some (.ref 50), some (.ref a1), some (.int a2), w3, w4, w5, some (.int a6), some (.int (a7 + (-1)))] [] (n, y, I, L, R) Q))) : sm_W ex d 0 0 26 97 [some (.ref 50), some (.ref a1), some (.int a2), w3, w4, w5, some (.int a6), some (.int a7)] [.int s0] (n, y, I, L, R) Q := sm_in (And.intro (fun c1 => have k1t := Eq.mp (if_pos c1) k; sm_in (And.intro (Nat.le_of_ble_eq_true rfl) (sm_in (k1t)))) (fun c1 => have k1f := Eq.mp (if_neg c1) k; sm_in (sm_in (And.intro (hG.1 50 (Nat.le_of_ble_eq_true rfl)) (sm_gfr rfl (hG.2 50 1 rfl) (sm_in (And.intro (hG.1 51 (Nat.le_of_ble_eq_true rfl)) (sm_in (sm_in (And.intro (fun c2 => have k2t := Eq.mp (if_pos c2) k1f; sm_in (sm_in (sm_in (And.intro (fun c3 => have k3f := Eq.mp (if_neg c3) k2t; sm_in (sm_in (And.intro (hG.1 50 (Nat.le_of_ble_eq_true rfl)) (sm_gfr rfl (hG.2 50 1 rfl) (sm_in (sm_in (sm_in (And.intro (ok6_y0 ho0) (sm_gfr rfl (ok6_r2 ho0) (sm_in ((have e4 := k3f.1; have k4 := k3f.2; sm_in (Exists.intro nc0 (And.intro (ok6_a3 ho0) (And.intro e4 (sm_in (Exists.intro 2 (And.intro (hG.1 51 (Nat.le_of_ble_eq_true rfl)) (And.intro rfl (sm_calln h1 (Nat.le_of_ble_eq_true rfl) (Nat.le_of_ble_eq_true rfl) k4)))))))))))))))))))) (fun c3 => have k3t := Eq.mp (if_pos c3) k2t; sm_in (sm_in (And.intro rfl k3t))))))) (fun c2 => have k2f := Eq.mp (if_neg c2) k1f; sm_in (sm_in (And.intro (Nat.le_of_ble_eq_true rfl) (sm_in (k2f)))))))))))))))
set_option maxRecDepth 100000 in
theorem w_X5_told_136 {ex : sm_O} {d n : Nat} {y : sm_Y} {I : Nat → Nat → Int32} {L : Nat → Nat → Int64} {R : Nat → Nat → Option Nat} {Q : sm_Q} {w1 : Option Value} {w3 : Option Value} {w4 : Option Value} {w5 : Option Value} {a2 : Int32} {a6 : Int32} {a7 : Int32} {s0 : Int32} (hG : sm_G y R) (h1 : 1 ≤ d) (k : if s0 = 0 then (sm_W ex d 0 0 26 52 [some (.ref 50), w1, some (.int a2), w3, w4, w5, some (.int a6), some (.int (a7 + (-1)))] [] (n, y, I, L, R) Q) else (if a2 = 2 then (Q (some (.int (if 0 < (if 99 < (I 51 3) then 99 else (I 51 3)) then (if 99 < (I 51 3) then 99 else (I 51 3)) else 0))) (n, y, I, L, R)) else (Q (some (.int (if 0 < (if 9 < (I 51 3) then 9 else (I 51 3)) then (if 9 < (I 51 3) then 9 else (I 51 3)) else 0))) (n, y, I, L, R)))) : sm_W ex d 0 0 26 136 [some (.ref 50), w1, some (.int a2), w3, w4, w5, some (.int a6), some (.int a7)] [.int s0] (n, y, I, L, R) Q := sm_in (And.intro (fun c1 => have k1t := Eq.mp (if_pos c1) k; sm_in (And.intro (Nat.le_of_ble_eq_true rfl) (sm_in (k1t)))) (fun c1 => have k1f := Eq.mp (if_neg c1) k; sm_in (sm_in (sm_in (And.intro (hG.1 50 (Nat.le_of_ble_eq_true rfl)) (sm_gfr rfl (hG.2 50 1 rfl) (sm_in (And.intro (hG.1 51 (Nat.le_of_ble_eq_true rfl)) (sm_in (sm_in (sm_in (And.intro (fun c2 => have k2f := Eq.mp (if_neg c2) k1f; sm_in (sm_in (And.intro h1 (And.intro (Nat.le_of_ble_eq_true rfl) (sm_in (And.intro h1 (And.intro (Nat.le_of_ble_eq_true rfl) (sm_in (And.intro rfl k2f))))))))) (fun c2 => have k2t := Eq.mp (if_pos c2) k1f; sm_in (sm_in (sm_in (And.intro h1 (And.intro (Nat.le_of_ble_eq_true rfl) (sm_in (And.intro h1 (And.intro (Nat.le_of_ble_eq_true rfl) (sm_in (And.intro rfl k2t))))))))))))))))))))))
set_option maxRecDepth 100000 in
theorem w_X5_setWords {ex : sm_O} {d n : Nat} {y : sm_Y} {I : Nat → Nat → Int32} {L : Nat → Nat → Int64} {R : Nat → Nat → Option Nat} {Q : sm_Q} {w5 : Option Value} {a1 : Nat} {a2 : Int32} {a3 : Int32} {a4 : Int32} (hG : sm_G y R) (ho0 : ok9 y R a1) (k : vp_in a2 7 ∧ Q none (n, y, sm_st (sm_st (sm_st (sm_st (sm_st (sm_st (sm_st (sm_st I 52 0 a2) 52 1 ((sm_st I 52 0 a2) (a1 + 1) a2.toNatClampNeg)) 52 2 ((sm_st (sm_st I 52 0 a2) 52 1 ((sm_st I 52 0 a2) (a1 + 1) a2.toNatClampNeg)) (a1 + 3) a2.toNatClampNeg)) 52 3 ((sm_st (sm_st (sm_st I 52 0 a2) 52 1 ((sm_st I 52 0 a2) (a1 + 1) a2.toNatClampNeg)) 52 2 ((sm_st (sm_st I 52 0 a2) 52 1 ((sm_st I 52 0 a2) (a1 + 1) a2.toNatClampNeg)) (a1 + 3) a2.toNatClampNeg)) a1 7)) 52 4 a3) 52 5 a4) 52 6 ((sm_st (sm_st (sm_st (sm_st (sm_st (sm_st I 52 0 a2) 52 1 ((sm_st I 52 0 a2) (a1 + 1) a2.toNatClampNeg)) 52 2 ((sm_st (sm_st I 52 0 a2) 52 1 ((sm_st I 52 0 a2) (a1 + 1) a2.toNatClampNeg)) (a1 + 3) a2.toNatClampNeg)) 52 3 ((sm_st (sm_st (sm_st I 52 0 a2) 52 1 ((sm_st I 52 0 a2) (a1 + 1) a2.toNatClampNeg)) 52 2 ((sm_st (sm_st I 52 0 a2) 52 1 ((sm_st I 52 0 a2) (a1 + 1) a2.toNatClampNeg)) (a1 + 3) a2.toNatClampNeg)) a1 7)) 52 4 a3) 52 5 a4) (a1 + 4) 0)) 52 7 ((sm_st (sm_st (sm_st (sm_st (sm_st (sm_st (sm_st I 52 0 a2) 52 1 ((sm_st I 52 0 a2) (a1 + 1) a2.toNatClampNeg)) 52 2 ((sm_st (sm_st I 52 0 a2) 52 1 ((sm_st I 52 0 a2) (a1 + 1) a2.toNatClampNeg)) (a1 + 3) a2.toNatClampNeg)) 52 3 ((sm_st (sm_st (sm_st I 52 0 a2) 52 1 ((sm_st I 52 0 a2) (a1 + 1) a2.toNatClampNeg)) 52 2 ((sm_st (sm_st I 52 0 a2) 52 1 ((sm_st I 52 0 a2) (a1 + 1) a2.toNatClampNeg)) (a1 + 3) a2.toNatClampNeg)) a1 7)) 52 4 a3) 52 5 a4) 52 6 ((sm_st (sm_st (sm_st (sm_st (sm_st (sm_st I 52 0 a2) 52 1 ((sm_st I 52 0 a2) (a1 + 1) a2.toNatClampNeg)) 52 2 ((sm_st (sm_st I 52 0 a2) 52 1 ((sm_st I 52 0 a2) (a1 + 1) a2.toNatClampNeg)) (a1 + 3) a2.toNatClampNeg)) 52 3 ((sm_st (sm_st (sm_st I 52 0 a2) 52 1 ((sm_st I 52 0 a2) (a1 + 1) a2.toNatClampNeg)) 52 2 ((sm_st (sm_st I 52 0 a2) 52 1 ((sm_st I 52 0 a2) (a1 + 1) a2.toNatClampNeg)) (a1 + 3) a2.toNatClampNeg)) a1 7)) 52 4 a3) 52 5 a4) (a1 + 4) 0)) (a1 + 4) 2), L, R)) : sm_W ex d 0 0 27 0 [some (.ref 50), some (.ref a1), some (.int a2), some (.int a3), some (.int a4), w5] [] (n, y, I, L, R) Q := sm_in (sm_in (And.intro (hG.1 50 (Nat.le_of_ble_eq_true rfl)) (sm_gfr rfl (hG.2 50 1 rfl) (sm_in (And.intro (hG.1 51 (Nat.le_of_ble_eq_true rfl)) (sm_gfr rfl (hG.2 51 0 rfl) (sm_in (And.intro (Nat.le_of_ble_eq_true rfl) (sm_in (sm_in (sm_in (sm_in (Exists.intro 13 (And.intro (hG.1 52 (Nat.le_of_ble_eq_true rfl)) (And.intro (sm_lin (by decide)) (sm_in (sm_in (sm_in (sm_in (And.intro (ok9_y0 ho0) (sm_gfr rfl (ok9_r0 ho0) (sm_in ((have e1 := k.1; have k1 := k.2; sm_in (Exists.intro 7 (And.intro (ok9_a1 ho0) (And.intro e1 (sm_in (Exists.intro 13 (And.intro (hG.1 52 (Nat.le_of_ble_eq_true rfl)) (And.intro (sm_lin (by decide)) (sm_in (sm_in (sm_in (sm_in (And.intro (ok9_y0 ho0) (sm_gfr rfl (ok9_r2 ho0) (sm_in (sm_in (Exists.intro 7 (And.intro (ok9_a3 ho0) (And.intro e1 (sm_in (Exists.intro 13 (And.intro (hG.1 52 (Nat.le_of_ble_eq_true rfl)) (And.intro (sm_lin (by decide)) (sm_in (sm_in (sm_in (sm_in (And.intro (ok9_y0 ho0) (sm_in (Exists.intro 13 (And.intro (hG.1 52 (Nat.le_of_ble_eq_true rfl)) (And.intro (sm_lin (by decide)) (sm_in (sm_in (sm_in (sm_in (Exists.intro 13 (And.intro (hG.1 52 (Nat.le_of_ble_eq_true rfl)) (And.intro (sm_lin (by decide)) (sm_in (sm_in (sm_in (sm_in (Exists.intro 13 (And.intro (hG.1 52 (Nat.le_of_ble_eq_true rfl)) (And.intro (sm_lin (by decide)) (sm_in (sm_in (sm_in (sm_in (And.intro (ok9_y0 ho0) (sm_gfr rfl (ok9_r3 ho0) (sm_in (sm_in (Exists.intro 4 (And.intro (ok9_a4 ho0) (And.intro (sm_lin (by decide)) (sm_in (Exists.intro 13 (And.intro (hG.1 52 (Nat.le_of_ble_eq_true rfl)) (And.intro (sm_lin (by decide)) (sm_in (sm_in (sm_in (sm_in (And.intro (ok9_y0 ho0) (sm_gfr rfl (ok9_r3 ho0) (sm_in (sm_in (Exists.intro 4 (And.intro (ok9_a4 ho0) (And.intro (sm_lin (by decide)) (sm_in (Exists.intro 13 (And.intro (hG.1 52 (Nat.le_of_ble_eq_true rfl)) (And.intro (sm_lin (by decide)) (sm_in (And.intro rfl (And.intro rfl k1))))))))))))))))))))))))))))))))))))))))))))))))))))))))))))))))))))))))))))))))))))))))))))))))))))))
-- THE CLASS'S STANDING; WHAT ITS LAWS TELL
def sm_bc (a : Int32) : Int32 := ((((((((a - (((a.toUInt32 >>> ((1 : Int32).toUInt32 &&& Int32.toUInt32 31)).toInt32) &&& 1431655765)) &&& 858993459) + ((((a - (((a.toUInt32 >>> ((1 : Int32).toUInt32 &&& Int32.toUInt32 31)).toInt32) &&& 1431655765)).toUInt32 >>> ((2 : Int32).toUInt32 &&& Int32.toUInt32 31)).toInt32) &&& 858993459)) + (((((a - (((a.toUInt32 >>> ((1 : Int32).toUInt32 &&& Int32.toUInt32 31)).toInt32) &&& 1431655765)) &&& 858993459) + ((((a - (((a.toUInt32 >>> ((1 : Int32).toUInt32 &&& Int32.toUInt32 31)).toInt32) &&& 1431655765)).toUInt32 >>> ((2 : Int32).toUInt32 &&& Int32.toUInt32 31)).toInt32) &&& 858993459)).toUInt32 >>> ((4 : Int32).toUInt32 &&& Int32.toUInt32 31)).toInt32)) &&& 252645135) + (((((((a - (((a.toUInt32 >>> ((1 : Int32).toUInt32 &&& Int32.toUInt32 31)).toInt32) &&& 1431655765)) &&& 858993459) + ((((a - (((a.toUInt32 >>> ((1 : Int32).toUInt32 &&& Int32.toUInt32 31)).toInt32) &&& 1431655765)).toUInt32 >>> ((2 : Int32).toUInt32 &&& Int32.toUInt32 31)).toInt32) &&& 858993459)) + (((((a - (((a.toUInt32 >>> ((1 : Int32).toUInt32 &&& Int32.toUInt32 31)).toInt32) &&& 1431655765)) &&& 858993459) + ((((a - (((a.toUInt32 >>> ((1 : Int32).toUInt32 &&& Int32.toUInt32 31)).toInt32) &&& 1431655765)).toUInt32 >>> ((2 : Int32).toUInt32 &&& Int32.toUInt32 31)).toInt32) &&& 858993459)).toUInt32 >>> ((4 : Int32).toUInt32 &&& Int32.toUInt32 31)).toInt32)) &&& 252645135).toUInt32 >>> ((8 : Int32).toUInt32 &&& Int32.toUInt32 31)).toInt32)) + ((((((((a - (((a.toUInt32 >>> ((1 : Int32).toUInt32 &&& Int32.toUInt32 31)).toInt32) &&& 1431655765)) &&& 858993459) + ((((a - (((a.toUInt32 >>> ((1 : Int32).toUInt32 &&& Int32.toUInt32 31)).toInt32) &&& 1431655765)).toUInt32 >>> ((2 : Int32).toUInt32 &&& Int32.toUInt32 31)).toInt32) &&& 858993459)) + (((((a - (((a.toUInt32 >>> ((1 : Int32).toUInt32 &&& Int32.toUInt32 31)).toInt32) &&& 1431655765)) &&& 858993459) + ((((a - (((a.toUInt32 >>> ((1 : Int32).toUInt32 &&& Int32.toUInt32 31)).toInt32) &&& 1431655765)).toUInt32 >>> ((2 : Int32).toUInt32 &&& Int32.toUInt32 31)).toInt32) &&& 858993459)).toUInt32 >>> ((4 : Int32).toUInt32 &&& Int32.toUInt32 31)).toInt32)) &&& 252645135) + (((((((a - (((a.toUInt32 >>> ((1 : Int32).toUInt32 &&& Int32.toUInt32 31)).toInt32) &&& 1431655765)) &&& 858993459) + ((((a - (((a.toUInt32 >>> ((1 : Int32).toUInt32 &&& Int32.toUInt32 31)).toInt32) &&& 1431655765)).toUInt32 >>> ((2 : Int32).toUInt32 &&& Int32.toUInt32 31)).toInt32) &&& 858993459)) + (((((a - (((a.toUInt32 >>> ((1 : Int32).toUInt32 &&& Int32.toUInt32 31)).toInt32) &&& 1431655765)) &&& 858993459) + ((((a - (((a.toUInt32 >>> ((1 : Int32).toUInt32 &&& Int32.toUInt32 31)).toInt32) &&& 1431655765)).toUInt32 >>> ((2 : Int32).toUInt32 &&& Int32.toUInt32 31)).toInt32) &&& 858993459)).toUInt32 >>> ((4 : Int32).toUInt32 &&& Int32.toUInt32 31)).toInt32)) &&& 252645135).toUInt32 >>> ((8 : Int32).toUInt32 &&& Int32.toUInt32 31)).toInt32)).toUInt32 >>> ((16 : Int32).toUInt32 &&& Int32.toUInt32 31)).toInt32)) &&& 63)
theorem sm_bc7 : ∀ s, s < 128 → sm_bc (nI s) = nI (sp_pop (fun i => s.testBit i) 7) := by decide +kernel
theorem sm_xor6 : ∀ s, s < 64 → ∀ t, t < 64 → nI s ^^^ nI t = nI (s ^^^ t) := by decide +kernel
theorem sp_pop_ext {p q : Nat → Bool} : ∀ n, (∀ i, i < n → p i = q i) → sp_pop p n = sp_pop q n
  | 0, _ => rfl
  | n + 1, h => by
    simp only [sp_pop, sp_pop_ext n (fun i hi => h i (by omega)), h n (by omega)]
theorem sp_pop_bits (p : Nat → Bool) (m : Nat) : ∀ j, m ≤ j → sp_pop (fun i => (sp_bits p m).testBit i) j = sp_pop p m
  | 0, h => by
    obtain rfl : m = 0 := by omega
    rfl
  | j + 1, h => by
    by_cases e : m = j + 1
    · subst e
      exact sp_pop_ext _ (fun i hi => by simp [sp_bits_tb, hi])
    · have ih := sp_pop_bits p m j (by omega)
      show sp_pop _ j + (if (sp_bits p m).testBit j = true then 1 else 0) = _
      rw [ih, sp_bits_tb]
      have : ¬ j < m := by omega
      simp [this]
theorem c_bc {ex : sm_O} {n : Nat} {y : sm_Y} {I : Nat → Nat → Int32} {L : Nat → Nat → Int64} {R : Nat → Nat → Option Nat} {Q : sm_Q} {d x : Nat} (hx : x < 128) (k : Q (some (.int (nI (sp_pop (fun i => x.testBit i) 7)))) (n, y, I, L, R)) : sm_W ex d 0 0 240 0 [some (.int (nI x))] [] (n, y, I, L, R) Q := by
  refine w_J6_bitCount_0f7a4 ?_
  rw [← sm_bc7 x hx] at k
  exact k
theorem c_bcb {ex : sm_O} {n : Nat} {y : sm_Y} {I : Nat → Nat → Int32} {L : Nat → Nat → Int64} {R : Nat → Nat → Option Nat} {Q : sm_Q} {d m : Nat} {p : Nat → Bool} (hm : m ≤ 7) (k : Q (some (.int (nI (sp_pop p m)))) (n, y, I, L, R)) : sm_W ex d 0 0 240 0 [some (.int (nI (sp_bits p m)))] [] (n, y, I, L, R) Q := by
  refine c_bc (Nat.lt_of_lt_of_le (sp_bits_lt p m) (Nat.pow_le_pow_right (by decide) hm)) ?_
  rw [sp_pop_bits p m 7 hm]
  exact k
/-- a Standing that lies apart from the Post's machine -/
def cSt (y : sm_Y) (R : Nat → Nat → Option Nat) (o : Nat) : Prop := ok9 y R o ∧ (o + 4 < 50 ∨ 53 < o)
theorem c_X9_isMan {ex : sm_O} {n : Nat} {y : sm_Y} {I : Nat → Nat → Int32} {L : Nat → Nat → Int64} {R : Nat → Nat → Option Nat} {Q : sm_Q} {d o : Nat} {a : Int32} (ho : ok9 y R o) (k : Q (some (.int (sm_b (0 ≤ a ∧ a < I o 4)))) (n, y, I, L, R)) : sm_W ex d 0 0 64 0 [some (.ref o), some (.int a)] [] (n, y, I, L, R) Q := by
  refine w_X9_isMan ho ?_
  by_cases h : a < 0
  · rw [if_pos h]
    rw [sm_b_f (fun q => absurd h (Int32.not_lt.mpr q.1))] at k
    exact k
  · rw [if_neg h]
    by_cases h2 : I o 4 ≤ a
    · rw [if_pos h2]
      rw [sm_b_f (fun q => absurd q.2 (Int32.not_lt.mpr h2))] at k
      exact k
    · rw [if_neg h2]
      rw [sm_b_t ⟨Int32.not_lt.mp h, Int32.not_le.mp h2⟩] at k
      exact k
theorem c_X9_isCashiered {ex : sm_O} {n : Nat} {y : sm_Y} {I : Nat → Nat → Int32} {L : Nat → Nat → Int64} {R : Nat → Nat → Option Nat} {Q : sm_Q} {d o m : Nat} {s : St} (ho : ok9 y R o) (hs : cS s o I) (h7 : sMen s ≤ 7) (hm : m < sMen s) (k : Q (some (.int (if sCash s m = true then 1 else 0))) (n, y, I, L, R)) : sm_W ex d 0 0 65 0 [some (.ref o), some (.int (nI m))] [] (n, y, I, L, R) Q := by
  refine w_X9_isCashiered ho ?_
  have hl : sp_bits (sCash s) (sMen s) < 128 := Nat.lt_of_lt_of_le (sp_bits_lt _ _) (show 2 ^ sMen s ≤ 2 ^ 7 from Nat.pow_le_pow_right (by decide) h7)
  rw [hs.2.2.1, sm_bit7 _ hl m (by omega), sp_bits_tb]
  simp only [hm, decide_true, Bool.true_and]
  cases hc : sCash s m with
  | true =>
    rw [hc] at k
    exact k
  | false =>
    rw [hc] at k
    exact k
theorem c_X9_fit {ex : sm_O} {n : Nat} {y : sm_Y} {I : Nat → Nat → Int32} {L : Nat → Nat → Int64} {R : Nat → Nat → Option Nat} {Q : sm_Q} {d o : Nat} {s : St} (hd : 1 ≤ d) (ho : ok9 y R o) (hs : cS s o I) (h7 : sMen s ≤ 7) (k : Q (some (.int (nI (sp_fit s)))) (n, y, I, L, R)) : sm_W ex d 0 0 66 0 [some (.ref o)] [] (n, y, I, L, R) Q := by
  refine w_X9_fit_0 (d1 := 0) ho (by omega) ?_
  rw [hs.2.2.1, hs.1]
  refine c_bcb h7 ?_
  refine w_X9_fit_11 ?_
  have e := sp_pop_not (sCash s) (sMen s)
  have e2 : sMen s - sp_pop (sCash s) (sMen s) = sp_fit s := by unfold sp_fit; omega
  rw [pk_sub (by have := sp_pop_le (sCash s) (sMen s); omega), e2]
  exact k
theorem c_X9_unlike {ex : sm_O} {n : Nat} {y : sm_Y} {I : Nat → Nat → Int32} {L : Nat → Nat → Int64} {R : Nat → Nat → Option Nat} {Q : sm_Q} {d o a b : Nat} {s : St} (hd : 1 ≤ d) (ho : ok9 y R o) (hs : cS s o I) (hok : sp_ok s) (ha : a < sMen s) (hb : b < sMen s) (k : Q (some (.int (nI (sp_unlike s a b)))) (n, y, I, L, R)) : sm_W ex d 0 0 68 0 [some (.ref o), some (.int (nI a)), some (.int (nI b))] [] (n, y, I, L, R) Q := by
  have h7 := hok.1
  refine w_X9_unlike_0 (d1 := 0) ho (by omega) ⟨vp_in_nI (by omega) (by decide), vp_in_nI (by omega) (by decide), ?_⟩
  have la := (hok.2.1 a ha).2.2.1
  have lb := (hok.2.1 b hb).2.2.1
  rw [nI_clamp (by omega), nI_clamp (by omega), (hs.2.1 a ha).2.1, (hs.2.1 b hb).2.1, sm_xor6 _ la _ lb]
  have hx : sLook s a ^^^ sLook s b < 64 := Nat.xor_lt_two_pow (n := 6) la lb
  refine c_bc (by omega) ?_
  refine w_X9_unlike_16 ?_
  have e : sp_pop (fun i => (sLook s a ^^^ sLook s b).testBit i) 7 = sp_unlike s a b := by
    show sp_pop _ 6 + (if (sLook s a ^^^ sLook s b).testBit 6 = true then 1 else 0) = _
    rw [Nat.testBit_lt_two_pow (i := 6) hx]
    unfold sp_unlike
    refine (Nat.add_zero _).trans (sp_pop_ext 6 (fun i _ => ?_))
    rw [Nat.testBit_xor]
  rw [e]
  exact k
def cW (N : Nat) (w : Nat → Int32) (i : Nat) : Int := if i < N then (w i).toInt else 0
def cD (N : Nat) (D : DD) : (Nat → Int32) → Option Int32 := fun w => (D (cW N w)).map Int32.ofInt
def cSg (N : Nat) (cd : Nat → Nat × Nat) (len : Nat) (at_ : Int32) (D : DD) : Prop := sp_inB D ∧ ∃ a b hh : Nat, at_ = nI a ∧ b < len ∧ hh ≤ 40 ∧ (cd b).1 = 0 ∧ cSeg cd a b hh (cD N D)
def sp_01 (T : DD) : Prop := ∀ env v, T env = some v → v = 0 ∨ v = 1
/-- the clause c of the Program p -/
def cCl (I : Nat → Nat → Int32) (p : Nat) (cd : Nat → Nat × Nat) (len c : Nat) (x : Nat × DD × Option DD) : Prop := I (p + 2) c = nI x.1 ∧ x.1 ≤ 3 ∧ (x.1 ≠ 3 → cSg 8 cd len (I (p + 3) c) x.2.1) ∧ (match x.2.2 with
  | none => I (p + 4) c = -1
  | some T => sp_01 T ∧ cSg 8 cd len (I (p + 4) c) T)
def cLaw (I : Nat → Nat → Int32) (p : Nat) (l : Law) : Prop := I p 5 = nI l.length ∧ l.length ≤ 12 ∧ ∃ (cd : Nat → Nat × Nat) (len : Nat), cPr I p cd len ∧ ∀ (c : Nat) (x : Nat × DD × Option DD), l[c]? = some x → cCl I p cd len c x
theorem cLaw_kept {I I' : Nat → Nat → Int32} {p : Nat} {l : Law} (h : ∀ a j, p ≤ a → a ≤ p + 5 → I' a j = I a j) (hl : cLaw I p l) : cLaw I' p l := by
  obtain ⟨h1, h2, cd, len, h3, h4⟩ := hl
  refine ⟨by rw [h p 5 (by omega) (by omega)]; exact h1, h2, cd, len, ⟨by rw [h p 6 (by omega) (by omega)]; exact h3.1, h3.2.1, fun k hk => by rw [h (p + 1) k (by omega) (by omega)]; exact h3.2.2 k hk⟩, fun c x hx => ?_⟩
  unfold cCl
  rw [h (p + 2) c (by omega) (by omega), h (p + 3) c (by omega) (by omega), h (p + 4) c (by omega) (by omega)]
  exact h4 c x hx
/-- what asking the Post touches -/
def cFt (I I' : Nat → Nat → Int32) : Prop := ∀ a j, ¬ (51 ≤ a ∧ a ≤ 53) → I' a j = I a j
theorem cFt.rfl' (I : Nat → Nat → Int32) : cFt I I := fun _ _ _ => rfl
theorem cFt.trans {I I' I2 : Nat → Nat → Int32} (h1 : cFt I I') (h2 : cFt I' I2) : cFt I I2 := fun a j h => (h2 a j h).trans (h1 a j h)
theorem cFr.ft {I I' : Nat → Nat → Int32} (h : cFr 51 I I') : cFt I I' := fun a j q => h a j (by omega) (by omega)
theorem cFt.st (I : Nat → Nat → Int32) {a : Nat} (ha : 51 ≤ a ∧ a ≤ 53) (j : Nat) (v : Int32) : cFt I (sm_st I a j v) := fun b i h => sm_st_o _ _ (fun e => h (e ▸ ha))
theorem cS_kept {I I' : Nat → Nat → Int32} {s : St} {o : Nat} (h : ∀ a j, o ≤ a → a ≤ o + 4 → I' a j = I a j) (hs : cS s o I) : cS s o I' := by
  unfold cS
  rw [h o 4 (by omega) (by omega), h o 5 (by omega) (by omega), h o 6 (by omega) (by omega), h o 7 (by omega) (by omega)]
  refine ⟨hs.1, fun i hi => ?_, hs.2.2.1, hs.2.2.2.1, hs.2.2.2.2.1, fun j hj => ?_⟩
  · rw [h (o + 1) i (by omega) (by omega), h (o + 2) i (by omega) (by omega), h (o + 3) i (by omega) (by omega)]
    exact hs.2.1 i hi
  · rw [h (o + 4) j (by omega) (by omega)]
    exact hs.2.2.2.2.2 j hj
theorem cFt.S {I I' : Nat → Nat → Int32} {s : St} {o : Nat} {y : sm_Y} {R : Nat → Nat → Option Nat} (h : cFt I I') (ho : cSt y R o) (hs : cS s o I) : cS s o I' := cS_kept (fun a j h1 h2 => h a j (by have := ho.2; omega)) hs
/-- what is answered out of what is told -/
def sp_an (kd : Nat) (u : Int32) (o : Option Int) : Int32 := if kd = 3 then (if o.isSome = true then 1 else 0) else match o with
  | some v => nI (sp_clN (if kd = 2 then 99 else 9) v)
  | none => if kd = 2 then u else 1
theorem sm_clN {hi : Nat} {v : Int} (hhi : hi < 1000) (h1 : -1000000000 ≤ v) (h2 : v ≤ 1000000000) : (if 0 < (if nI hi < Int32.ofInt v then nI hi else Int32.ofInt v) then (if nI hi < Int32.ofInt v then nI hi else Int32.ofInt v) else 0) = nI (sp_clN hi v) := by
  have e : (Int32.ofInt v).toInt = v := Int32.toInt_ofInt_of_le (by omega) (by omega)
  have eh : (nI hi).toInt = (hi : Int) := nI_toInt (by omega)
  have hlt : nI hi < Int32.ofInt v ↔ (hi : Int) < v := by rw [Int32.lt_iff_toInt_lt, e, eh]
  have h0v : (0 : Int32) < Int32.ofInt v ↔ 0 < v := by
    rw [Int32.lt_iff_toInt_lt, e]
    exact Iff.rfl
  have h0h : (0 : Int32) < nI hi ↔ 0 < hi := nI_ltI (a := 0) (by decide) (by omega)
  unfold sp_clN
  simp only [hlt]
  by_cases h3 : (hi : Int) < v
  · simp only [if_pos h3]
    rw [if_neg (show ¬ v < 0 by omega)]
    simp only [h0h]
    split
    · rfl
    · have : hi = 0 := by omega
      rw [this]
      rfl
  · simp only [if_neg h3, h0v]
    by_cases h0 : v < 0
    · rw [if_pos h0, if_neg (by omega)]
      rfl
    · rw [if_neg h0]
      have ev : Int32.ofInt v = nI v.toNat := by
        apply Int32.toInt_inj.mp
        rw [e, nI_toInt (by omega)]
        omega
      split
      · exact ev
      · have : v.toNat = 0 := by omega
        rw [this]
        rfl
theorem mk51 {y : sm_Y} {R : Nat → Nat → Option Nat} (hG : sm_G y R) : ok2 y R 51 := ⟨hG.1 51 (by decide), hG.2 51 0 rfl, hG.2 51 1 rfl, hG.1 52 (by decide), hG.1 53 (by decide)⟩
theorem mk55 {y : sm_Y} {R : Nat → Nat → Option Nat} (hG : sm_G y R) : ok2 y R 55 := ⟨hG.1 55 (by decide), hG.2 55 0 rfl, hG.2 55 1 rfl, hG.1 56 (by decide), hG.1 57 (by decide)⟩
set_option maxHeartbeats 1000000 in
theorem lp_told {ex : sm_O} {d n p ns nc kd : Nat} {y : sm_Y} {L : Nat → Nat → Int64} {R : Nat → Nat → Option Nat} {Q : sm_Q} {w3 w4 w5 : Option Value} {l : Law} {u : Int32} {env : Nat → Int} (he : eB env) (hd : 2 ≤ d) (hG : sm_G y R) (hp : ok6 y R p ns nc) (ha : cApart 51 p) (hn : l ≠ [] → ns = 200 ∧ nc = 12) (hpp : p + 5 < 51 ∨ 53 < p) (hkd : kd ≤ 3) :
    ∀ (c : Nat) (I : Nat → Nat → Int32), c ≤ l.length → cLaw I p l → cW 8 (I 52) = env →
    (∀ (I' : Nat → Nat → Int32), cFr 51 I I' → Q (some (.int (sp_an kd u (sp_told (l.take c) kd env)))) (n, y, I', L, R)) →
    sm_W ex d 0 0 26 52 [some (.ref 50), some (.ref p), some (.int (nI kd)), w3, w4, w5, some (.int u), some (.int (nI c + (-1)))] [] (n, y, I, L, R) Q := by
  intro c
  induction c with
  | zero =>
    intro I _ hl henv k
    refine w_X5_told_52 (d1 := 1) hG hp (by omega) ?_
    rw [if_pos (by decide)]
    have e3 : nI kd = 3 ↔ kd = 3 := nI_eq (b := 3) (by omega) (by decide)
    have e2 : nI kd = 2 ↔ kd = 2 := nI_eq (b := 2) (by omega) (by decide)
    simp only [e3, e2]
    have k := k I (cFr.rfl' 51 I)
    simp only [List.take_zero, sp_told, sp_an] at k
    by_cases h3 : kd = 3
    · rw [if_pos h3] at k ⊢
      exact k
    · rw [if_neg h3] at k ⊢
      by_cases h2 : kd = 2
      · rw [if_pos h2] at k ⊢
        exact k
      · rw [if_neg h2] at k ⊢
        exact k
  | succ c ih =>
    intro I hc hl henv k
    have hlt : c < l.length := by omega
    have hx : l[c]? = some l[c] := List.getElem?_eq_getElem hlt
    obtain ⟨l1, l2, cd, len, hpr, hcl⟩ := id hl
    obtain ⟨x0, x3, xs, xt⟩ := hcl c l[c] hx
    obtain ⟨rfl, rfl⟩ := hn (by intro q; rw [q] at hlt; exact absurd hlt (by simp))
    have htk : l.take (c + 1) = l.take c ++ [l[c]] := by rw [List.take_succ, hx]; rfl
    rw [pk_m1]
    rw [htk] at k
    simp only [sp_told_snoc] at k
    generalize l[c] = x at *
    have e3 : nI kd = 3 ↔ kd = 3 := nI_eq (b := 3) (by omega) (by decide)
    have e2 : nI kd = 2 ↔ kd = 2 := nI_eq (b := 2) (by omega) (by decide)
    have ex0 : (nI x.1 = nI kd) ↔ x.1 = kd := nI_eq (by omega) (by omega)
    -- the next clause
    have next : ∀ (I1 : Nat → Nat → Int32), cFr 51 I I1 → (if x.1 = kd then sp_cl x env else none) = none → sm_W ex d 0 0 26 52 [some (.ref 50), some (.ref p), some (.int (nI kd)), w3, w4, w5, some (.int u), some (.int (nI c + (-1)))] [] (n, y, I1, L, R) Q := by
      intro I1 hf hno
      refine ih I1 (by omega) (cLaw_kept (fun a j h1 h2 => hf a j (by omega) (by omega)) hl) ?_ ?_
      · rw [hf.w]
        exact henv
      · intro I2 hf2
        have := k I2 (hf.trans hf2)
        rw [hno] at this
        exact this
    -- behind the test
    have sum : ∀ (I1 : Nat → Nat → Int32), cFr 51 I I1 → x.1 = kd → sp_tb x.2.2 env = true → (kd = 3 → Q (some (.int 1)) (n, y, I1, L, R)) ∧ (kd ≠ 3 → sm_W ex 1 0 0 11 0 [some (.ref 51), some (.ref p), some (.int (I1 (p + 3) c)), none, none, none] [] (n, y, I1, L, R) (fun r μ1 => sm_W ex d 0 0 26 136 [some (.ref 50), some (.ref p), some (.int (nI kd)), w3, w4, w5, some (.int u), some (.int (nI c))] (r.toList ++ []) μ1 Q)) := by
      intro I1 hf hk htb
      refine ⟨fun h3 => ?_, fun h3 => ?_⟩
      · have := k I1 hf
        rw [if_pos hk] at this
        unfold sp_cl at this
        rw [if_pos htb, if_pos (hk.trans h3)] at this
        subst h3
        exact this
      · obtain ⟨hin, a, b, hh, ea, hb, h40, hb0, hsg⟩ := xs (by rw [hk]; exact h3)
        rw [hf (p + 3) c (by omega) (by omega), ea]
        refine c_X2_works (Nat.le_refl 1) (mk51 hG) hp rfl ha (hf.p ha hpr) hsg h40 hb hb0 ?_
        intro I2 hf2 hv
        have henv1 : cW 8 (I1 52) = env := by rw [hf.w]; exact henv
        have hD : cD 8 x.2.1 (I1 52) = (x.2.1 env).map Int32.ofInt := by unfold cD; rw [henv1]
        have hcl : sp_cl x env = x.2.1 env := by
          unfold sp_cl
          rw [if_pos htb, if_neg (by rw [hk]; exact h3)]
        rw [hD] at hv ⊢
        refine w_X5_told_136 hG (by omega) ?_
        cases hDv : x.2.1 env with
        | none =>
          rw [hDv] at hv
          rw [if_pos (by simp)]
          exact next I2 (hf.trans hf2) (by rw [if_pos hk, hcl, hDv])
        | some v =>
          rw [hDv] at hv
          have hv : I2 51 3 = Int32.ofInt v := hv
          have hb := hin env v he hDv
          rw [if_neg (by simp), hv]
          have k := k I2 (hf.trans hf2)
          rw [if_pos hk, hcl, hDv] at k
          unfold sp_an at k
          rw [if_neg h3] at k
          dsimp only at k
          have c99 := sm_clN (hi := 99) (by decide) hb.1 hb.2
          have c9 := sm_clN (hi := 9) (by decide) hb.1 hb.2
          simp only [e2]
          by_cases h2 : kd = 2
          · rw [if_pos h2] at k ⊢
            rw [← c99] at k
            exact k
          · rw [if_neg h2] at k ⊢
            rw [← c9] at k
            exact k
    refine w_X5_told_52 (d1 := 1) hG hp (by omega) ?_
    rw [if_neg (nI_pos (by omega))]
    refine ⟨vp_in_nI (by omega) (by decide), ?_⟩
    rw [nI_clamp (by omega), x0]
    by_cases hk : x.1 = kd
    · rw [if_pos (ex0.mpr hk)]
      match hT : x.2.2, xt with
      | none, xt =>
        rw [if_pos (show I (p + 4) c = -1 from xt)]
        have htb : sp_tb x.2.2 env = true := by rw [hT]; rfl
        obtain ⟨s1, s2⟩ := sum I (cFr.rfl' 51 I) hk htb
        simp only [e3]
        by_cases h3 : kd = 3
        · rw [if_pos h3]
          exact s1 h3
        · rw [if_neg h3]
          exact s2 h3
      | some T, xt =>
        obtain ⟨h01, hin, a, b, hh, ea, hb, h40, hb0, hsg⟩ := xt
        rw [ea, if_neg (by
          intro q
          have := congrArg Int32.toInt q
          rw [nI_toInt (by have := hsg.1; have := hpr.2.1; omega)] at this
          have z : (-1 : Int32).toInt = -1 := rfl
          omega)]
        refine c_X2_works (Nat.le_refl 1) (mk51 hG) hp rfl ha hpr hsg h40 hb hb0 ?_
        intro I2 hf2 hv
        have hD : cD 8 T (I 52) = (T env).map Int32.ofInt := by unfold cD; rw [henv]
        rw [hD] at hv ⊢
        refine w_X5_told_97 (d1 := 1) hG hp (by omega) ?_
        cases hDv : T env with
        | none =>
          rw [if_pos (by simp)]
          refine next I2 hf2 ?_
          rw [if_pos hk]
          have htb : sp_tb x.2.2 env = false := by
            rw [hT]
            unfold sp_tb
            dsimp only
            rw [hDv]
          unfold sp_cl
          rw [htb]
          rfl
        | some v =>
          rw [hDv] at hv
          have hv : I2 51 3 = Int32.ofInt v := hv
          rw [if_neg (by simp), hv]
          rcases h01 env v hDv with rfl | rfl
          · rw [if_neg (by decide)]
            refine next I2 hf2 ?_
            rw [if_pos hk]
            have htb : sp_tb x.2.2 env = false := by
              rw [hT]
              unfold sp_tb
              dsimp only
              rw [hDv]
              rfl
            unfold sp_cl
            rw [htb]
            rfl
          · rw [if_pos (by decide)]
            have htb : sp_tb x.2.2 env = true := by
              rw [hT]
              unfold sp_tb
              dsimp only
              rw [hDv]
              rfl
            obtain ⟨s1, s2⟩ := sum I2 hf2 hk htb
            simp only [e3]
            by_cases h3 : kd = 3
            · rw [if_pos h3]
              exact s1 h3
            · rw [if_neg h3]
              exact ⟨vp_in_nI (by omega) (by decide), by rw [nI_clamp (by omega)]; exact s2 h3⟩
    · rw [if_neg (fun q => hk (ex0.mp q))]
      exact next I (cFr.rfl' 51 I) (if_neg hk)
theorem sm_sub1 (x : Int32) : x - 1 = x + (-1) := Int32.sub_eq_add_neg x 1
set_option maxHeartbeats 1000000 in
theorem c_X5_setWords {ex : sm_O} {n : Nat} {y : sm_Y} {I : Nat → Nat → Int32} {L : Nat → Nat → Int64} {R : Nat → Nat → Option Nat} {Q : sm_Q} {d o m : Nat} {w5 : Option Value} {s : St} {other : Option Nat} {u : Int32} (hG : sm_G y R) (ho : cSt y R o) (hs : cS s o I) (hok : sp_ok s) (hm : m < sMen s) (ho2 : ∀ q, other = some q → q < sMen s) (hu : u.toInt = sp_env s m other 5)
    (k : ∀ (I' : Nat → Nat → Int32), cFt I I' → cW 8 (I' 52) = sp_env s m other → Q none (n, y, I', L, R)) : sm_W ex d 0 0 27 0 [some (.ref 50), some (.ref o), some (.int (nI m)), some (.int (sp_up other)), some (.int u), w5] [] (n, y, I, L, R) Q := by
  have h7 := hok.1
  refine w_X5_setWords hG ho.1 ⟨vp_in_nI (by omega) (by decide), ?_⟩
  have hm7 : (nI m).toNatClampNeg = m := nI_clamp (by omega)
  have hoo := ho.2
  have hman := hok.2.1 m hm
  have hst := hs.2.1 m hm
  rw [hm7]
  refine k _ ?_ ?_
  · intro a j h
    iterate 8 rw [sm_st_o _ _ (by omega)]
  · funext i
    have t0 := hs.2.2.2.2.2 0 (by omega)
    have t2 := hs.2.2.2.2.2 2 (by omega)
    have hup : (sp_up other).toInt = sp_otherI other := by
      cases hoth : other with
      | none => rfl
      | some q =>
        have := ho2 q hoth
        exact nI_toInt (by omega)
    unfold cW
    match i with
    | 0 =>
      rw [if_pos (by decide)]
      simp only [sm_st_j _ _ (show (0 : Nat) ≠ 1 by decide), sm_st_j _ _ (show (0 : Nat) ≠ 2 by decide), sm_st_j _ _ (show (0 : Nat) ≠ 3 by decide), sm_st_j _ _ (show (0 : Nat) ≠ 4 by decide), sm_st_j _ _ (show (0 : Nat) ≠ 5 by decide), sm_st_j _ _ (show (0 : Nat) ≠ 6 by decide), sm_st_j _ _ (show (0 : Nat) ≠ 7 by decide), sm_st_s]
      exact nI_toInt (by omega)
    | 1 =>
      rw [if_pos (by decide)]
      simp only [sm_st_j _ _ (show (1 : Nat) ≠ 2 by decide), sm_st_j _ _ (show (1 : Nat) ≠ 3 by decide), sm_st_j _ _ (show (1 : Nat) ≠ 4 by decide), sm_st_j _ _ (show (1 : Nat) ≠ 5 by decide), sm_st_j _ _ (show (1 : Nat) ≠ 6 by decide), sm_st_j _ _ (show (1 : Nat) ≠ 7 by decide), sm_st_s]
      rw [sm_st_o _ _ (by omega), hst.1]
      exact nI_toInt (by omega)
    | 2 =>
      rw [if_pos (by decide)]
      simp only [sm_st_j _ _ (show (2 : Nat) ≠ 3 by decide), sm_st_j _ _ (show (2 : Nat) ≠ 4 by decide), sm_st_j _ _ (show (2 : Nat) ≠ 5 by decide), sm_st_j _ _ (show (2 : Nat) ≠ 6 by decide), sm_st_j _ _ (show (2 : Nat) ≠ 7 by decide), sm_st_s]
      rw [sm_st_o _ _ (by omega), sm_st_o _ _ (by omega), hst.2.2]
      exact nI_toInt (by omega)
    | 3 =>
      rw [if_pos (by decide)]
      simp only [sm_st_j _ _ (show (3 : Nat) ≠ 4 by decide), sm_st_j _ _ (show (3 : Nat) ≠ 5 by decide), sm_st_j _ _ (show (3 : Nat) ≠ 6 by decide), sm_st_j _ _ (show (3 : Nat) ≠ 7 by decide), sm_st_s]
      rw [sm_st_o _ _ (by omega), sm_st_o _ _ (by omega), sm_st_o _ _ (by omega), hs.2.2.2.2.1]
      exact nI_toInt (by have := hok.2.2.2.1; omega)
    | 4 =>
      rw [if_pos (by decide)]
      simp only [sm_st_j _ _ (show (4 : Nat) ≠ 5 by decide), sm_st_j _ _ (show (4 : Nat) ≠ 6 by decide), sm_st_j _ _ (show (4 : Nat) ≠ 7 by decide), sm_st_s]
      exact hup
    | 5 =>
      rw [if_pos (by decide)]
      simp only [sm_st_j _ _ (show (5 : Nat) ≠ 6 by decide), sm_st_j _ _ (show (5 : Nat) ≠ 7 by decide), sm_st_s]
      exact hu
    | 6 =>
      rw [if_pos (by decide)]
      simp only [sm_st_j _ _ (show (6 : Nat) ≠ 7 by decide), sm_st_s]
      iterate 6 rw [sm_st_o _ _ (by omega)]
      rw [t0]
      exact nI_toInt (by have := hok.2.2.2.2.1; omega)
    | 7 =>
      rw [if_pos (by decide)]
      simp only [sm_st_s]
      iterate 7 rw [sm_st_o _ _ (by omega)]
      rw [t2]
      exact nI_toInt (by have := hok.2.2.2.2.2.2.1; omega)
    | i + 8 =>
      rw [if_neg (by omega)]
      rfl
def sp_asked (l : Law) (kd : Nat) (s : St) (m : Nat) (other : Option Nat) : Nat := if kd = 2 then (match other with
    | none => 0
    | some o => sp_clN 99 (sp_get (sp_told l 2 (sp_env s m other)) (sp_unlike s m o)))
  else if kd = 3 then (if (sp_told l 3 (sp_env s m other)).isSome = true then 1 else 0)
  else sp_clN 9 (sp_get (sp_told l kd (sp_env s m other)) 1)
set_option maxHeartbeats 1000000 in
theorem c_X5_told {ex : sm_O} {n : Nat} {y : sm_Y} {I : Nat → Nat → Int32} {L : Nat → Nat → Int64} {R : Nat → Nat → Option Nat} {Q : sm_Q} {d o m p ns nc kd : Nat} {w6 w7 : Option Value} {s : St} {other : Option Nat} {l : Law} (hd : 2 ≤ d) (hG : sm_G y R) (ho : cSt y R o) (hs : cS s o I) (hok : sp_ok s) (hm : m < sMen s) (ho2 : ∀ q, other = some q → q < sMen s) (hp : ok6 y R p ns nc) (hpp : p + 5 < 51 ∨ 53 < p) (hn : l ≠ [] → ns = 200 ∧ nc = 12) (hl : cLaw I p l) (hkd : kd ≤ 3)
    (k : ∀ (I' : Nat → Nat → Int32), cFt I I' → Q (some (.int (nI (sp_asked l kd s m other)))) (n, y, I', L, R)) : sm_W ex d 0 0 26 0 [some (.ref 50), some (.ref p), some (.int (nI kd)), some (.ref o), some (.int (nI m)), some (.int (sp_up other)), w6, w7] [] (n, y, I, L, R) Q := by
  have h7 := hok.1
  have e2 : nI kd = 2 ↔ kd = 2 := nI_eq (b := 2) (by omega) (by decide)
  have rest : ∀ (u : Int32) (v6 v7 : Option Value), u.toInt = sp_env s m other 5 → (kd = 2 → ∃ q, other = some q) → sm_W ex d 0 0 26 31 [some (.ref 50), some (.ref p), some (.int (nI kd)), some (.ref o), some (.int (nI m)), some (.int (sp_up other)), v6, v7] [.int u] (n, y, I, L, R) Q := by
    intro u v6 v7 hu hkq
    refine w_X5_told_31 (d1 := 0) hG (by omega) ?_
    refine c_X5_setWords hG ho hs hok hm ho2 hu ?_
    intro I1 hf1 henv
    refine w_X5_told_44 hp ?_
    have hl1 : cLaw I1 p l := cLaw_kept (fun a j h1 h2 => hf1 a j (by omega)) hl
    rw [hl1.1, sm_sub1]
    refine lp_told (sp_env_B hok hm ho2) hd hG hp (by unfold cApart; omega) hn hpp hkd l.length I1 (Nat.le_refl _) hl1 henv ?_
    intro I2 hf2
    have k := k I2 (hf1.trans hf2.ft)
    rw [List.take_length]
    have e : sp_an kd u (sp_told l kd (sp_env s m other)) = nI (sp_asked l kd s m other) := by
      unfold sp_an sp_asked
      by_cases h2 : kd = 2
      · subst h2
        obtain ⟨q, rfl⟩ := hkq rfl
        have hq := ho2 q rfl
        have hun : sp_unlike s m q ≤ 6 := sp_pop_le _ 6
        rw [if_neg (by decide), if_pos rfl]
        dsimp only
        cases hT : sp_told l 2 (sp_env s m (some q)) with
        | some v => rfl
        | none =>
          show u = nI (sp_clN 99 (sp_unlike s m q : Int))
          have hu : u.toInt = (sp_unlike s m q : Int) := hu
          have : sp_clN 99 (sp_unlike s m q : Int) = sp_unlike s m q := by
            unfold sp_clN
            rw [if_neg (by omega), if_neg (by omega)]
            omega
          rw [this]
          apply Int32.toInt_inj.mp
          rw [hu, nI_toInt (by omega)]
      · rw [if_neg h2]
        by_cases h3 : kd = 3
        · subst h3
          rw [if_pos rfl, if_pos rfl]
          split <;> rfl
        · rw [if_neg h3, if_neg h3]
          cases hT : sp_told l kd (sp_env s m other) with
          | some v =>
            dsimp only
            rw [if_neg h2]
            rfl
          | none =>
            dsimp only
            rw [if_neg h2, if_neg h2]
            rfl
    rw [e]
    exact k
  refine w_X5_told_0 (d1 := 1) ho.1 (by omega) ?_
  simp only [e2]
  match hoth : other, ho2 with
  | none, _ =>
    by_cases h2 : kd = 2
    · rw [if_pos h2, if_pos (show sp_up none = -1 from rfl)]
      have k := k I (cFt.rfl' I)
      unfold sp_asked at k
      rw [if_pos h2] at k
      exact k
    · rw [if_neg h2, if_pos (show sp_up none = -1 from rfl)]
      exact rest (-1) _ _ rfl (fun q => absurd q h2)
  | some q, ho2 =>
    have hq := ho2 q rfl
    have hne : ¬ sp_up (some q) = -1 := by
      intro z
      have := congrArg Int32.toInt z
      rw [show sp_up (some q) = nI q from rfl, nI_toInt (by omega)] at this
      have z : (-1 : Int32).toInt = -1 := rfl
      omega
    have un : sm_W ex 1 0 0 68 0 [some (.ref o), some (.int (nI m)), some (.int (sp_up (some q)))] [] (n, y, I, L, R) (fun r μ1 => sm_W ex d 0 0 26 31 [some (.ref 50), some (.ref p), some (.int (nI kd)), some (.ref o), some (.int (nI m)), some (.int (sp_up (some q))), w6, w7] (r.toList ++ []) μ1 Q) := by
      refine c_X9_unlike (s := s) (Nat.le_refl 1) ho.1 hs hok hm hq ?_
      refine rest _ _ _ ?_ (fun _ => ⟨q, rfl⟩)
      exact nI_toInt (by have : sp_unlike s m q ≤ 6 := sp_pop_le _ 6; omega)
    by_cases h2 : kd = 2
    · rw [if_pos h2, if_neg hne]
      exact un
    · rw [if_neg h2, if_neg hne]
      exact un

