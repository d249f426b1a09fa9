set_option maxRecDepth 100000 in
theorem w_X8_plan_0 {ex : sm_O} {d n : Nat} {y : sm_Y} {I : Nat → Nat → Int32} {L : Nat → Nat → Int64} {R : Nat → Nat → Option Nat} {Q : sm_Q} {w1 : Option Value} {w3 : Option Value} {a2 : Int32} (hG : sm_G y R) (k : if (I 73 6) = a2 then (Q none (n, y, I, L, R)) else (if a2 < 1 then (Q none (n, y, I, L, R)) else (if a2 ≤ 5 then (sm_W ex d 0 0 56 21 [some (.ref 73), w1, some (.int a2), some (.int 0)] [] (n, y, I, L, R) Q) else (Q none (n, y, I, L, R))))) : sm_W ex d 0 0 56 0 [some (.ref 73), w1, some (.int a2), w3] [] (n, y, I, L, R) Q := sm_in (sm_in (And.intro (hG.1 73 (Nat.le_of_ble_eq_true rfl)) (sm_in (sm_in (And.intro (fun c1 => have k1t := Eq.mp (if_pos c1) k; sm_in (And.intro rfl (And.intro rfl k1t))) (fun c1 => have k1f := Eq.mp (if_neg c1) k; sm_in (sm_in (sm_in (And.intro (fun c2 => have k2t := Eq.mp (if_pos c2) k1f; sm_in (And.intro rfl (And.intro rfl k2t))) (fun c2 => have k2f := Eq.mp (if_neg c2) k1f; sm_in (sm_in (sm_in (And.intro (fun c3 => have k3t := Eq.mp (if_pos c3) k2f; sm_in (sm_in (And.intro (Nat.le_of_ble_eq_true rfl) (k3t)))) (fun c3 => have k3f := Eq.mp (if_neg c3) k2f; sm_in (And.intro rfl (And.intro rfl k3f))))))))))))))))
set_option maxRecDepth 100000 in
theorem w_X8_plan_21 {ex : sm_O} {d n : Nat} {y : sm_Y} {I : Nat → Nat → Int32} {L : Nat → Nat → Int64} {R : Nat → Nat → Option Nat} {Q : sm_Q} {w1 : Option Value} {a2 : Int32} {a3 : Int32} {d1 : Nat} (hG : sm_G y R) (h1 : d1 < d) (k : if a2 ≤ a3 then (sm_W ex d1 0 0 57 0 [some (.ref 73), some (.int 0), some (.int 0), none, none, none] [] (n, y, sm_st (sm_st (sm_st I 73 6 a2) 73 5 0) 73 4 1000000, L, R) (fun r μ1 => sm_W ex d 0 0 56 64 [some (.ref 73), w1, some (.int a2), some (.int a3)] (r.toList ++ []) μ1 Q)) else (sm_W ex d 0 0 56 26 [some (.ref 73), w1, some (.int a2), some (.int a3)] [] (n, y, I, L, R) Q)) : sm_W ex d 0 0 56 21 [some (.ref 73), w1, some (.int a2), some (.int a3)] [] (n, y, I, L, R) Q := sm_in (sm_in (sm_in (And.intro (fun c1 => have k1t := Eq.mp (if_pos c1) k; sm_in (sm_in (sm_in (And.intro (hG.1 73 (Nat.le_of_ble_eq_true rfl)) (sm_in (sm_in (sm_in (And.intro (hG.1 73 (Nat.le_of_ble_eq_true rfl)) (And.intro (Or.inl rfl) (sm_in (sm_in (sm_in (And.intro (hG.1 73 (Nat.le_of_ble_eq_true rfl)) (sm_in (sm_in (sm_in (sm_in (Exists.intro 8 (And.intro (hG.1 73 (Nat.le_of_ble_eq_true rfl)) (And.intro rfl (sm_calln h1 (Nat.le_of_ble_eq_true rfl) (Nat.le_of_ble_eq_true rfl) k1t))))))))))))))))))))) (fun c1 => have k1f := Eq.mp (if_neg c1) k; k1f))))
set_option maxRecDepth 100000 in
theorem w_X8_plan_26 {ex : sm_O} {d n : Nat} {y : sm_Y} {I : Nat → Nat → Int32} {L : Nat → Nat → Int64} {R : Nat → Nat → Option Nat} {Q : sm_Q} {w2 : Option Value} {a1 : Nat} {a3 : Int32} {d1 : Nat} (hG : sm_G y R) (ho0 : ok9 y R (77 + 5 * a3.toNatClampNeg)) (h1 : d1 < d) (k : vp_in a3 5 ∧ sm_W ex d1 0 0 62 0 [some (.ref (77 + 5 * a3.toNatClampNeg)), some (.ref a1)] [] (n, y, I, L, R) (fun r μ1 => sm_W ex d 0 0 56 36 [some (.ref 73), some (.ref a1), w2, some (.int a3)] (r.toList ++ []) μ1 Q)) : sm_W ex d 0 0 56 26 [some (.ref 73), some (.ref a1), w2, some (.int a3)] [] (n, y, I, L, R) Q := sm_in (sm_in (And.intro (hG.1 73 (Nat.le_of_ble_eq_true rfl)) (sm_gfr rfl (hG.2 73 1 rfl) (sm_in ((have e1 := k.1; have k1 := k.2; sm_in (Exists.intro 5 (Exists.intro 9 (And.intro (hG.1 74 (Nat.le_of_ble_eq_true rfl)) (And.intro e1 (sm_rrs (sm_G74 hG e1) (sm_in (sm_in (Exists.intro 9 (And.intro (ok9_y0 ho0) (And.intro rfl (sm_calln h1 (Nat.le_of_ble_eq_true rfl) (Nat.le_of_ble_eq_true rfl) k1)))))))))))))))))
set_option maxRecDepth 100000 in
theorem w_X8_plan_36 {ex : sm_O} {d n : Nat} {y : sm_Y} {I : Nat → Nat → Int32} {L : Nat → Nat → Int64} {R : Nat → Nat → Option Nat} {Q : sm_Q} {w0 : Option Value} {w1 : Option Value} {a2 : Int32} {a3 : Int32} (k : sm_W ex d 0 0 56 21 [w0, w1, some (.int a2), some (.int (a3 + 1))] [] (n, y, I, L, R) Q) : sm_W ex d 0 0 56 36 [w0, w1, some (.int a2), some (.int a3)] [] (n, y, I, L, R) Q := sm_in (And.intro (Nat.le_of_ble_eq_true rfl) (sm_in (k)))
set_option maxRecDepth 100000 in
theorem w_X8_plan_64 {ex : sm_O} {d n : Nat} {y : sm_Y} {I : Nat → Nat → Int32} {L : Nat → Nat → Int64} {R : Nat → Nat → Option Nat} {Q : sm_Q} {w0 : Option Value} {w1 : Option Value} {w2 : Option Value} {w3 : Option Value} (k : Q none (n, y, I, L, R)) : sm_W ex d 0 0 56 64 [w0, w1, w2, w3] [] (n, y, I, L, R) Q := sm_in (And.intro rfl (And.intro rfl k))
set_option maxRecDepth 100000 in
theorem w_X8_search_0 {ex : sm_O} {d n : Nat} {y : sm_Y} {I : Nat → Nat → Int32} {L : Nat → Nat → Int64} {R : Nat → Nat → Option Nat} {Q : sm_Q} {w3 : Option Value} {w4 : Option Value} {w5 : Option Value} {a1 : Int32} {a2 : Int32} (hG : sm_G y R) (h1 : 1 ≤ d) (k : if a1 < (I 73 6) then (vp_in a1 5 ∧ sm_W ex d 0 0 57 46 [some (.ref 73), some (.int a1), some (.int a2), some (.ref (77 + 5 * a1.toNatClampNeg)), some (.int 0), w5] [] (n, y, I, L, R) Q) else (¬ (I 73 6) < 0 ∧ (0 : Int32).toNatClampNeg + (I 73 6).toNatClampNeg ≤ 5 ∧ Q none (n, y, sm_cp (sm_st (sm_st I 73 5 1) 73 4 a2) 75 (0 : Int32).toNatClampNeg 76 (0 : Int32).toNatClampNeg (I 73 6).toNatClampNeg, L, R))) : sm_W ex d 0 0 57 0 [some (.ref 73), some (.int a1), some (.int a2), w3, w4, w5] [] (n, y, I, L, R) Q := sm_in (sm_in (sm_in (And.intro (hG.1 73 (Nat.le_of_ble_eq_true rfl)) (sm_in (And.intro (fun c1 => have k1t := Eq.mp (if_pos c1) k; sm_in (sm_in (And.intro (hG.1 73 (Nat.le_of_ble_eq_true rfl)) (sm_gfr rfl (hG.2 73 1 rfl) (sm_in ((have e2 := k1t.1; have k2 := k1t.2; sm_in (Exists.intro 5 (Exists.intro 9 (And.intro (hG.1 74 (Nat.le_of_ble_eq_true rfl)) (And.intro e2 (sm_rrs (sm_G74 hG e2) (sm_in (And.intro (Nat.le_of_ble_eq_true rfl) (sm_in (sm_in (And.intro (Nat.le_of_ble_eq_true rfl) (k2)))))))))))))))))) (fun c1 => have k1f := Eq.mp (if_neg c1) k; sm_in (sm_in (sm_in (And.intro (hG.1 73 (Nat.le_of_ble_eq_true rfl)) (And.intro (Or.inr rfl) (sm_in (sm_in (sm_in (And.intro (hG.1 73 (Nat.le_of_ble_eq_true rfl)) (sm_in (sm_in (And.intro (hG.1 73 (Nat.le_of_ble_eq_true rfl)) (sm_gfr rfl (hG.2 73 2 rfl) (sm_in (sm_in (sm_in (And.intro (hG.1 73 (Nat.le_of_ble_eq_true rfl)) (sm_gfr rfl (hG.2 73 3 rfl) (sm_in (sm_in (sm_in (And.intro (hG.1 73 (Nat.le_of_ble_eq_true rfl)) ((have e3 := k1f.1; have k3 := k1f.2; (have e4 := k3.1; have k4 := k3.2; sm_in (And.intro h1 (And.intro (Nat.le_of_ble_eq_true rfl) (Exists.intro 5 (Exists.intro 5 (And.intro (hG.1 75 (Nat.le_of_ble_eq_true rfl)) (And.intro (hG.1 76 (Nat.le_of_ble_eq_true rfl)) (And.intro (by decide) (And.intro (by decide) (And.intro e3 (And.intro e4 (And.intro e4 (sm_in (And.intro rfl (And.intro rfl k4))))))))))))))))))))))))))))))))))))))))))))
set_option maxRecDepth 100000 in
theorem w_X8_search_46 {ex : sm_O} {d n : Nat} {y : sm_Y} {I : Nat → Nat → Int32} {L : Nat → Nat → Int64} {R : Nat → Nat → Option Nat} {Q : sm_Q} {w1 : Option Value} {w2 : Option Value} {w5 : Option Value} {a3 : Nat} {a4 : Int32} {d1 : Nat} (hG : sm_G y R) (ho0 : ok9 y R a3) (h1 : d1 < d) (k : if (I a3 4) ≤ a4 then (Q none (n, y, I, L, R)) else (sm_W ex d1 0 0 58 0 [some (.ref 73), some (.ref a3), some (.int a4)] [] (n, y, I, L, R) (fun r μ1 => sm_W ex d 0 0 57 62 [some (.ref 73), w1, w2, some (.ref a3), some (.int a4), w5] (r.toList ++ []) μ1 Q))) : sm_W ex d 0 0 57 46 [some (.ref 73), w1, w2, some (.ref a3), some (.int a4), w5] [] (n, y, I, L, R) Q := sm_in (sm_in (sm_in (And.intro (ok9_y0 ho0) (sm_in (And.intro (fun c1 => have k1t := Eq.mp (if_pos c1) k; sm_in (And.intro rfl (And.intro rfl k1t))) (fun c1 => have k1f := Eq.mp (if_neg c1) k; sm_in (sm_in (sm_in (sm_in (Exists.intro 8 (And.intro (hG.1 73 (Nat.le_of_ble_eq_true rfl)) (And.intro rfl (sm_calln h1 (Nat.le_of_ble_eq_true rfl) (Nat.le_of_ble_eq_true rfl) k1f)))))))))))))
set_option maxRecDepth 100000 in
theorem w_X8_search_62 {ex : sm_O} {d n : Nat} {y : sm_Y} {I : Nat → Nat → Int32} {L : Nat → Nat → Int64} {R : Nat → Nat → Option Nat} {Q : sm_Q} {w1 : Option Value} {w5 : Option Value} {a2 : Int32} {a3 : Nat} {a4 : Int32} {s0 : Int32} {d1 : Nat} (hG : sm_G y R) (h1 : d1 < d) (k : if s0 = (-1) then (sm_W ex d 0 0 57 138 [some (.ref 73), w1, some (.int a2), some (.ref a3), some (.int a4), some (.int s0)] [] (n, y, I, L, R) Q) else (if (I 73 4) ≤ (a2 + s0) then (sm_W ex d 0 0 57 138 [some (.ref 73), w1, some (.int a2), some (.ref a3), some (.int a4), some (.int s0)] [] (n, y, I, L, R) Q) else (sm_W ex d1 0 0 59 0 [some (.ref 73), some (.ref a3), some (.int a4), none, none, none] [] (n, y, I, L, R) (fun r μ1 => sm_W ex d 0 0 57 88 [some (.ref 73), w1, some (.int a2), some (.ref a3), some (.int a4), some (.int s0)] (r.toList ++ []) μ1 Q)))) : sm_W ex d 0 0 57 62 [some (.ref 73), w1, some (.int a2), some (.ref a3), some (.int a4), w5] [.int s0] (n, y, I, L, R) Q := sm_in (And.intro (Nat.le_of_ble_eq_true rfl) (sm_in (sm_in (sm_in (And.intro (fun c1 => have k1t := Eq.mp (if_pos c1) k; k1t) (fun c1 => have k1f := Eq.mp (if_neg c1) k; sm_in (sm_in (sm_in (sm_in (sm_in (And.intro (hG.1 73 (Nat.le_of_ble_eq_true rfl)) (sm_in (And.intro (fun c2 => have k2t := Eq.mp (if_pos c2) k1f; k2t) (fun c2 => have k2f := Eq.mp (if_neg c2) k1f; sm_in (sm_in (sm_in (sm_in (Exists.intro 8 (And.intro (hG.1 73 (Nat.le_of_ble_eq_true rfl)) (And.intro rfl (sm_calln h1 (Nat.le_of_ble_eq_true rfl) (Nat.le_of_ble_eq_true rfl) k2f)))))))))))))))))))))
set_option maxRecDepth 100000 in
theorem w_X8_search_88 {ex : sm_O} {d n : Nat} {y : sm_Y} {I : Nat → Nat → Int32} {L : Nat → Nat → Int64} {R : Nat → Nat → Option Nat} {Q : sm_Q} {w2 : Option Value} {w5 : Option Value} {a1 : Int32} {a3 : Nat} {a4 : Int32} {s0 : Int32} {d1 : Nat} (hG : sm_G y R) (h1 : d1 < d) (k : if s0 = 0 then (vp_in a1 5 ∧ (if (I 73 6) ≤ (a1 + 1) then (sm_W ex d 0 0 57 127 [some (.ref 73), some (.int a1), w2, some (.ref a3), some (.int a4), w5] [] (n, y, sm_st I 75 a1.toNatClampNeg a4, L, R) Q) else (vp_in (a1 + 1) 5 ∧ sm_W ex d1 0 0 60 0 [some (.ref 73), some (.ref a3), some (.int a4), some (.ref (77 + 5 * (a1 + 1).toNatClampNeg))] [] (n, y, sm_st I 75 a1.toNatClampNeg a4, L, R) (fun r μ1 => sm_W ex d 0 0 57 127 [some (.ref 73), some (.int a1), w2, some (.ref a3), some (.int a4), w5] (r.toList ++ []) μ1 Q)))) else (sm_W ex d 0 0 57 138 [some (.ref 73), some (.int a1), w2, some (.ref a3), some (.int a4), w5] [] (n, y, I, L, R) Q)) : sm_W ex d 0 0 57 88 [some (.ref 73), some (.int a1), w2, some (.ref a3), some (.int a4), w5] [.int s0] (n, y, I, L, R) Q := sm_in (And.intro (fun c1 => have k1t := Eq.mp (if_pos c1) k; sm_in (sm_in (And.intro (hG.1 73 (Nat.le_of_ble_eq_true rfl)) (sm_gfr rfl (hG.2 73 2 rfl) (sm_in (sm_in ((have e2 := k1t.1; have k2 := k1t.2; sm_in (Exists.intro 5 (And.intro (hG.1 75 (Nat.le_of_ble_eq_true rfl)) (And.intro e2 (sm_in (sm_in (sm_in (sm_in (sm_in (And.intro (hG.1 73 (Nat.le_of_ble_eq_true rfl)) (sm_in (And.intro (fun c3 => have k3t := Eq.mp (if_pos c3) k2; k3t) (fun c3 => have k3f := Eq.mp (if_neg c3) k2; sm_in (sm_in (sm_in (sm_in (sm_in (And.intro (hG.1 73 (Nat.le_of_ble_eq_true rfl)) (sm_gfr rfl (hG.2 73 1 rfl) (sm_in (sm_in (sm_in ((have e4 := k3f.1; have k4 := k3f.2; sm_in (Exists.intro 5 (Exists.intro 9 (And.intro (hG.1 74 (Nat.le_of_ble_eq_true rfl)) (And.intro e4 (sm_rrs (sm_G74 hG e4) (sm_in (Exists.intro 8 (And.intro (hG.1 73 (Nat.le_of_ble_eq_true rfl)) (And.intro rfl (sm_calln h1 (Nat.le_of_ble_eq_true rfl) (Nat.le_of_ble_eq_true rfl) k4))))))))))))))))))))))))))))))))))))))))) (fun c1 => have k1f := Eq.mp (if_neg c1) k; sm_in (k1f)))
set_option maxRecDepth 100000 in
theorem w_X8_search_127 {ex : sm_O} {d n : Nat} {y : sm_Y} {I : Nat → Nat → Int32} {L : Nat → Nat → Int64} {R : Nat → Nat → Option Nat} {Q : sm_Q} {w3 : Option Value} {w4 : Option Value} {a1 : Int32} {a2 : Int32} {a5 : Int32} {d1 : Nat} (hG : sm_G y R) (h1 : d1 < d) (k : sm_W ex d1 0 0 57 0 [some (.ref 73), some (.int (a1 + 1)), some (.int (a2 + a5)), none, none, none] [] (n, y, I, L, R) (fun r μ1 => sm_W ex d 0 0 57 138 [some (.ref 73), some (.int a1), some (.int a2), w3, w4, some (.int a5)] (r.toList ++ []) μ1 Q)) : sm_W ex d 0 0 57 127 [some (.ref 73), some (.int a1), some (.int a2), w3, w4, some (.int a5)] [] (n, y, I, L, R) Q := sm_in (sm_in (sm_in (sm_in (sm_in (sm_in (sm_in (sm_in (Exists.intro 8 (And.intro (hG.1 73 (Nat.le_of_ble_eq_true rfl)) (And.intro rfl (sm_calln h1 (Nat.le_of_ble_eq_true rfl) (Nat.le_of_ble_eq_true rfl) k)))))))))))
set_option maxRecDepth 100000 in
theorem w_X8_search_138 {ex : sm_O} {d n : Nat} {y : sm_Y} {I : Nat → Nat → Int32} {L : Nat → Nat → Int64} {R : Nat → Nat → Option Nat} {Q : sm_Q} {w0 : Option Value} {w1 : Option Value} {w2 : Option Value} {w5 : Option Value} {a3 : Nat} {a4 : Int32} (k : sm_W ex d 0 0 57 46 [w0, w1, w2, some (.ref a3), some (.int (a4 + 1)), w5] [] (n, y, I, L, R) Q) : sm_W ex d 0 0 57 138 [w0, w1, w2, some (.ref a3), some (.int a4), w5] [] (n, y, I, L, R) Q := sm_in (And.intro (Nat.le_of_ble_eq_true rfl) (sm_in (k)))
set_option maxRecDepth 100000 in
theorem w_X8_eyesFor_0 {ex : sm_O} {d n : Nat} {y : sm_Y} {I : Nat → Nat → Int32} {L : Nat → Nat → Int64} {R : Nat → Nat → Option Nat} {Q : sm_Q} {a1 : Nat} {a2 : Int32} {d1 : Nat} (hG : sm_G y R) (ho0 : ok9 y R a1) (h1 : d1 < d) (k : if (I a1 6) = a2 then (Q (some (.int 0)) (n, y, I, L, R)) else (sm_W ex d1 0 0 28 0 [some (.ref 50), some (.int 0), some (.ref a1), some (.int a2)] [] (n, y, I, L, R) (fun r μ1 => sm_W ex d 0 0 58 20 [some (.ref 73), some (.ref a1), some (.int a2)] (r.toList ++ []) μ1 Q))) : sm_W ex d 0 0 58 0 [some (.ref 73), some (.ref a1), some (.int a2)] [] (n, y, I, L, R) Q := sm_in (sm_in (And.intro (ok9_y0 ho0) (sm_in (sm_in (And.intro (fun c1 => have k1f := Eq.mp (if_neg c1) k; sm_in (sm_in (And.intro (hG.1 73 (Nat.le_of_ble_eq_true rfl)) (sm_gfr rfl (hG.2 73 0 rfl) (sm_in (sm_in (sm_in (sm_in (Exists.intro 5 (And.intro (hG.1 50 (Nat.le_of_ble_eq_true rfl)) (And.intro rfl (sm_calln h1 (Nat.le_of_ble_eq_true rfl) (Nat.le_of_ble_eq_true rfl) k1f)))))))))))) (fun c1 => have k1t := Eq.mp (if_pos c1) k; sm_in (sm_in (And.intro rfl k1t))))))))
set_option maxRecDepth 100000 in
theorem w_X8_eyesFor_20 {ex : sm_O} {d n : Nat} {y : sm_Y} {I : Nat → Nat → Int32} {L : Nat → Nat → Int64} {R : Nat → Nat → Option Nat} {Q : sm_Q} {w1 : Option Value} {w2 : Option Value} {s0 : Int32} {d1 : Nat} (hG : sm_G y R) (h1 : d1 < d) (k : if s0 = 0 then (Q (some (.int (-1))) (n, y, I, L, R)) else (sm_W ex d1 0 0 4 0 [some (.ref 6)] [] (n, y, I, L, R) (fun r μ1 => sm_W ex d 0 0 58 39 [some (.ref 73), w1, w2] (r.toList ++ [.ref 50]) μ1 Q))) : sm_W ex d 0 0 58 20 [some (.ref 73), w1, w2] [.int s0] (n, y, I, L, R) Q := sm_in (And.intro (fun c1 => have k1f := Eq.mp (if_neg c1) k; sm_in (sm_in (And.intro (hG.1 73 (Nat.le_of_ble_eq_true rfl)) (sm_gfr rfl (hG.2 73 0 rfl) (sm_in (sm_in (And.intro (hG.1 73 (Nat.le_of_ble_eq_true rfl)) (sm_gfr rfl (hG.2 73 0 rfl) (sm_in (And.intro (hG.1 50 (Nat.le_of_ble_eq_true rfl)) (sm_gfr rfl (hG.2 50 0 rfl) (sm_in (Exists.intro 0 (And.intro (hG.1 6 (Nat.le_of_ble_eq_true rfl)) (And.intro rfl (sm_calln h1 (Nat.le_of_ble_eq_true rfl) (Nat.le_of_ble_eq_true rfl) k1f)))))))))))))))) (fun c1 => have k1t := Eq.mp (if_pos c1) k; sm_in (sm_in (And.intro rfl k1t))))
set_option maxRecDepth 100000 in
theorem w_X8_eyesFor_39 {ex : sm_O} {d n : Nat} {y : sm_Y} {I : Nat → Nat → Int32} {L : Nat → Nat → Int64} {R : Nat → Nat → Option Nat} {Q : sm_Q} {w0 : Option Value} {a1 : Nat} {a2 : Int32} {s0 : Nat} {d1 : Nat} (hG : sm_G y R) (ho0 : ok9 y R a1) (h1 : d1 < d) (k : sm_W ex d1 0 0 26 0 [some (.ref 50), some (.ref s0), some (.int 2), some (.ref a1), some (.int a2), some (.int (I a1 6)), none, none] [] (n, y, I, L, R) (fun r μ1 => sm_W ex d 0 0 58 49 [w0, some (.ref a1), some (.int a2)] (r.toList ++ []) μ1 Q)) : sm_W ex d 0 0 58 39 [w0, some (.ref a1), some (.int a2)] [.ref s0, .ref 50] (n, y, I, L, R) Q := sm_in (sm_in (sm_in (sm_in (sm_in (And.intro (ok9_y0 ho0) (sm_in (Exists.intro 5 (And.intro (hG.1 50 (Nat.le_of_ble_eq_true rfl)) (And.intro rfl (sm_calln h1 (Nat.le_of_ble_eq_true rfl) (Nat.le_of_ble_eq_true rfl) k))))))))))
set_option maxRecDepth 100000 in
theorem w_X8_eyesFor_49 {ex : sm_O} {d n : Nat} {y : sm_Y} {I : Nat → Nat → Int32} {L : Nat → Nat → Int64} {R : Nat → Nat → Option Nat} {Q : sm_Q} {w0 : Option Value} {w1 : Option Value} {w2 : Option Value} {s0 : Int32} (k : Q (some (.int s0)) (n, y, I, L, R)) : sm_W ex d 0 0 58 49 [w0, w1, w2] [.int s0] (n, y, I, L, R) Q := sm_in (And.intro rfl k)
set_option maxRecDepth 100000 in
theorem w_X8_shakes_0 {ex : sm_O} {d n : Nat} {y : sm_Y} {I : Nat → Nat → Int32} {L : Nat → Nat → Int64} {R : Nat → Nat → Option Nat} {Q : sm_Q} {w3 : Option Value} {w4 : Option Value} {w5 : Option Value} {a1 : Nat} {a2 : Int32} {d1 : Nat} (hG : sm_G y R) (ho0 : ok9 y R a1) (h1 : d1 < d) (k : if (I a1 6) = a2 then (sm_W ex d1 0 0 33 0 [some (.ref 50), some (.ref a1), none] [] (n, y, sm_st (sm_st I a1 6 a2) a1 7 (I a1 7), L, R) (fun r μ1 => sm_W ex d 0 0 59 39 [some (.ref 73), some (.ref a1), some (.int a2), some (.int (I a1 6)), some (.int (I a1 7)), w5] (r.toList ++ []) μ1 Q)) else (sm_W ex d1 0 0 33 0 [some (.ref 50), some (.ref a1), none] [] (n, y, sm_st (sm_st I a1 6 a2) a1 7 0, L, R) (fun r μ1 => sm_W ex d 0 0 59 39 [some (.ref 73), some (.ref a1), some (.int a2), some (.int (I a1 6)), some (.int (I a1 7)), w5] (r.toList ++ []) μ1 Q))) : sm_W ex d 0 0 59 0 [some (.ref 73), some (.ref a1), some (.int a2), w3, w4, w5] [] (n, y, I, L, R) Q := sm_in (sm_in (And.intro (ok9_y0 ho0) (sm_in (And.intro (Nat.le_of_ble_eq_true rfl) (sm_in (sm_in (And.intro (ok9_y0 ho0) (sm_in (And.intro (Nat.le_of_ble_eq_true rfl) (sm_in (sm_in (sm_in (And.intro (ok9_y0 ho0) (sm_in (sm_in (sm_in (sm_in (And.intro (fun c1 => have k1f := Eq.mp (if_neg c1) k; sm_in (sm_in (And.intro (ok9_y0 ho0) (sm_in (sm_in (And.intro (hG.1 73 (Nat.le_of_ble_eq_true rfl)) (sm_gfr rfl (hG.2 73 0 rfl) (sm_in (sm_in (Exists.intro 5 (And.intro (hG.1 50 (Nat.le_of_ble_eq_true rfl)) (And.intro rfl (sm_calln h1 (Nat.le_of_ble_eq_true rfl) (Nat.le_of_ble_eq_true rfl) k1f))))))))))))) (fun c1 => have k1t := Eq.mp (if_pos c1) k; sm_in (sm_in (sm_in (And.intro (ok9_y0 ho0) (sm_in (sm_in (And.intro (hG.1 73 (Nat.le_of_ble_eq_true rfl)) (sm_gfr rfl (hG.2 73 0 rfl) (sm_in (sm_in (Exists.intro 5 (And.intro (hG.1 50 (Nat.le_of_ble_eq_true rfl)) (And.intro rfl (sm_calln h1 (Nat.le_of_ble_eq_true rfl) (Nat.le_of_ble_eq_true rfl) k1t))))))))))))))))))))))))))))))))
set_option maxRecDepth 100000 in
theorem w_X8_shakes_39 {ex : sm_O} {d n : Nat} {y : sm_Y} {I : Nat → Nat → Int32} {L : Nat → Nat → Int64} {R : Nat → Nat → Option Nat} {Q : sm_Q} {w0 : Option Value} {w2 : Option Value} {w5 : Option Value} {a1 : Nat} {a3 : Int32} {a4 : Int32} {s0 : Int32} (ho0 : ok9 y R a1) (k : (s0 = 0 ∨ s0 = 1) ∧ Q (some (.int s0)) (n, y, sm_st (sm_st I a1 6 a3) a1 7 a4, L, R)) : sm_W ex d 0 0 59 39 [w0, some (.ref a1), w2, some (.int a3), some (.int a4), w5] [.int s0] (n, y, I, L, R) Q := sm_in (And.intro (Nat.le_of_ble_eq_true rfl) (sm_in (sm_in (sm_in (And.intro (ok9_y0 ho0) (sm_in (sm_in (sm_in (And.intro (ok9_y0 ho0) (sm_in ((have e1 := k.1; have k1 := k.2; sm_in (And.intro rfl (And.intro e1 k1))))))))))))))
set_option maxRecDepth 100000 in
theorem w_X8_goOn_0 {ex : sm_O} {d n : Nat} {y : sm_Y} {I : Nat → Nat → Int32} {L : Nat → Nat → Int64} {R : Nat → Nat → Option Nat} {Q : sm_Q} {w0 : Option Value} {w2 : Option Value} {a1 : Nat} {a3 : Nat} {d1 : Nat} (ho0 : ok9 y R a3) (h1 : d1 < d) (k : sm_W ex d1 0 0 63 0 [some (.ref a3), some (.ref a1)] [] (n, y, I, L, R) (fun r μ1 => sm_W ex d 0 0 60 5 [w0, some (.ref a1), w2, some (.ref a3)] (r.toList ++ []) μ1 Q)) : sm_W ex d 0 0 60 0 [w0, some (.ref a1), w2, some (.ref a3)] [] (n, y, I, L, R) Q := sm_in (sm_in (sm_in (Exists.intro 9 (And.intro (ok9_y0 ho0) (And.intro rfl (sm_calln h1 (Nat.le_of_ble_eq_true rfl) (Nat.le_of_ble_eq_true rfl) k))))))
set_option maxRecDepth 100000 in
theorem w_X8_goOn_5 {ex : sm_O} {d n : Nat} {y : sm_Y} {I : Nat → Nat → Int32} {L : Nat → Nat → Int64} {R : Nat → Nat → Option Nat} {Q : sm_Q} {w1 : Option Value} {a2 : Int32} {a3 : Nat} (hG : sm_G y R) (ho0 : ok9 y R a3) (hdep : 1 ≤ d) (k : if (I a3 6) = a2 then (sm_W ex d 0 0 60 22 [some (.ref 73), w1, some (.int a2), some (.ref a3)] [] (n, y, I, L, R) Q) else (sm_W ex d 0 0 60 22 [some (.ref 73), w1, some (.int a2), some (.ref a3)] [] (n, y, sm_st (sm_st I a3 6 a2) a3 7 0, L, R) Q)) : sm_W ex d 0 0 60 5 [some (.ref 73), w1, some (.int a2), some (.ref a3)] [] (n, y, I, L, R) Q := sm_in (sm_in (And.intro (ok9_y0 ho0) (sm_in (sm_in (And.intro (fun c1 => have k1t := Eq.mp (if_pos c1) k; k1t) (fun c1 => have k1f := Eq.mp (if_neg c1) k; sm_in (sm_in (And.intro (hG.1 73 (Nat.le_of_ble_eq_true rfl)) (sm_gfr rfl (hG.2 73 0 rfl) (sm_in (sm_in (sm_in (Exists.intro 5 (And.intro (hG.1 50 (Nat.le_of_ble_eq_true rfl)) (And.intro rfl (sm_calln (d1 := 0) (Nat.lt_of_lt_of_le (Nat.le_of_ble_eq_true rfl : 0 < 1) hdep) (Nat.le_of_ble_eq_true rfl) (Nat.le_of_ble_eq_true rfl) (sm_in (sm_in (sm_in (And.intro (ok9_y0 ho0) (sm_in (sm_in (sm_in (And.intro (ok9_y0 ho0) (sm_in (And.intro rfl (And.intro rfl (k1f))))))))))))))))))))))))))))
set_option maxRecDepth 100000 in
theorem w_X8_goOn_22 {ex : sm_O} {d n : Nat} {y : sm_Y} {I : Nat → Nat → Int32} {L : Nat → Nat → Int64} {R : Nat → Nat → Option Nat} {Q : sm_Q} {w1 : Option Value} {w2 : Option Value} {a3 : Nat} {d1 : Nat} (hG : sm_G y R) (h1 : d1 < d) (k : sm_W ex d1 0 0 32 0 [some (.ref 50), some (.ref a3), none, none, none, none] [] (n, y, I, L, R) (fun r μ1 => sm_W ex d 0 0 60 30 [some (.ref 73), w1, w2, some (.ref a3)] (r.toList ++ []) μ1 Q)) : sm_W ex d 0 0 60 22 [some (.ref 73), w1, w2, some (.ref a3)] [] (n, y, I, L, R) Q := sm_in (sm_in (And.intro (hG.1 73 (Nat.le_of_ble_eq_true rfl)) (sm_gfr rfl (hG.2 73 0 rfl) (sm_in (sm_in (Exists.intro 5 (And.intro (hG.1 50 (Nat.le_of_ble_eq_true rfl)) (And.intro rfl (sm_calln h1 (Nat.le_of_ble_eq_true rfl) (Nat.le_of_ble_eq_true rfl) k)))))))))
set_option maxRecDepth 100000 in
theorem w_X8_goOn_30 {ex : sm_O} {d n : Nat} {y : sm_Y} {I : Nat → Nat → Int32} {L : Nat → Nat → Int64} {R : Nat → Nat → Option Nat} {Q : sm_Q} {w0 : Option Value} {w1 : Option Value} {w2 : Option Value} {w3 : Option Value} {s0 : Int32} (k : Q none (n, y, I, L, R)) : sm_W ex d 0 0 60 30 [w0, w1, w2, w3] [.int s0] (n, y, I, L, R) Q := sm_in (And.intro rfl (sm_in (And.intro rfl (And.intro rfl k))))
set_option maxRecDepth 100000 in
theorem w_X10_rota_0 {ex : sm_O} {d n : Nat} {y : sm_Y} {I : Nat → Nat → Int32} {L : Nat → Nat → Int64} {R : Nat → Nat → Option Nat} {Q : sm_Q} {a1 : Int32} {a2 : Int32} {d1 : Nat} (hG : sm_G y R) (h1 : d1 < d) (k : if a1 < 1 then (Q (some (.int (-1))) (n, y, I, L, R)) else (if 5 < a1 then (Q (some (.int (-1))) (n, y, I, L, R)) else (if a2 < (-1) then (Q (some (.int (-1))) (n, y, I, L, R)) else (if a2 < a1 then (sm_W ex d1 0 0 56 0 [some (.ref 73), some (.ref 1), some (.int a1), none] [] (n, y, I, L, R) (fun r μ1 => sm_W ex d 0 0 96 34 [some (.ref 0), some (.int a1), some (.int a2)] (r.toList ++ []) μ1 Q)) else (Q (some (.int (-1))) (n, y, I, L, R)))))) : sm_W ex d 0 0 96 0 [some (.ref 0), some (.int a1), some (.int a2)] [] (n, y, I, L, R) Q := sm_in (sm_in (sm_in (And.intro (fun c1 => have k1t := Eq.mp (if_pos c1) k; sm_in (sm_in (And.intro rfl k1t))) (fun c1 => have k1f := Eq.mp (if_neg c1) k; sm_in (sm_in (sm_in (And.intro (fun c2 => have k2t := Eq.mp (if_pos c2) k1f; sm_in (sm_in (And.intro rfl k2t))) (fun c2 => have k2f := Eq.mp (if_neg c2) k1f; sm_in (sm_in (sm_in (And.intro (fun c3 => have k3t := Eq.mp (if_pos c3) k2f; sm_in (sm_in (And.intro rfl k3t))) (fun c3 => have k3f := Eq.mp (if_neg c3) k2f; sm_in (sm_in (sm_in (And.intro (fun c4 => have k4t := Eq.mp (if_pos c4) k3f; sm_in (sm_in (And.intro (hG.1 0 (Nat.le_of_ble_eq_true rfl)) (sm_gfr rfl (hG.2 0 4 rfl) (sm_in (sm_in (And.intro (hG.1 0 (Nat.le_of_ble_eq_true rfl)) (sm_gfr rfl (hG.2 0 0 rfl) (sm_in (sm_in (Exists.intro 8 (And.intro (hG.1 73 (Nat.le_of_ble_eq_true rfl)) (And.intro rfl (sm_calln h1 (Nat.le_of_ble_eq_true rfl) (Nat.le_of_ble_eq_true rfl) k4t)))))))))))))) (fun c4 => have k4f := Eq.mp (if_neg c4) k3f; sm_in (sm_in (And.intro rfl k4f))))))))))))))))))
set_option maxRecDepth 100000 in
theorem w_X10_rota_34 {ex : sm_O} {d n : Nat} {y : sm_Y} {I : Nat → Nat → Int32} {L : Nat → Nat → Int64} {R : Nat → Nat → Option Nat} {Q : sm_Q} {w1 : Option Value} {a2 : Int32} (hG : sm_G y R) (k : if (I 73 5) = 0 then (Q (some (.int (-1))) (n, y, I, L, R)) else (if a2 = (-1) then (Q (some (.int (I 73 4))) (n, y, I, L, R)) else (vp_in a2 5 ∧ Q (some (.int (I 76 a2.toNatClampNeg))) (n, y, I, L, R)))) : sm_W ex d 0 0 96 34 [some (.ref 0), w1, some (.int a2)] [] (n, y, I, L, R) Q := sm_in (sm_in (And.intro (hG.1 0 (Nat.le_of_ble_eq_true rfl)) (sm_gfr rfl (hG.2 0 4 rfl) (sm_in (And.intro (hG.1 73 (Nat.le_of_ble_eq_true rfl)) (sm_in (And.intro (fun c1 => have k1f := Eq.mp (if_neg c1) k; sm_in (sm_in (sm_in (And.intro (fun c2 => have k2f := Eq.mp (if_neg c2) k1f; sm_in (sm_in (And.intro (hG.1 0 (Nat.le_of_ble_eq_true rfl)) (sm_gfr rfl (hG.2 0 4 rfl) (sm_in (And.intro (hG.1 73 (Nat.le_of_ble_eq_true rfl)) (sm_gfr rfl (hG.2 73 3 rfl) (sm_in ((have e3 := k2f.1; have k3 := k2f.2; sm_in (Exists.intro 5 (And.intro (hG.1 76 (Nat.le_of_ble_eq_true rfl)) (And.intro e3 (sm_in (And.intro rfl k3))))))))))))))) (fun c2 => have k2t := Eq.mp (if_pos c2) k1f; sm_in (sm_in (And.intro (hG.1 0 (Nat.le_of_ble_eq_true rfl)) (sm_gfr rfl (hG.2 0 4 rfl) (sm_in (And.intro (hG.1 73 (Nat.le_of_ble_eq_true rfl)) (sm_in (sm_in (And.intro rfl k2t))))))))))))) (fun c1 => have k1t := Eq.mp (if_pos c1) k; sm_in (sm_in (And.intro rfl k1t))))))))))
-- THE ROTA (the class)
theorem mk77 {y : sm_Y} {R : Nat → Nat → Option Nat} (hG : sm_G y R) (l : Nat) (hl : l < 5) : cSt y R (77 + 5 * l) := by
  match l, hl with
  | 0, _ => exact ⟨⟨hG.1 77 (by decide), hG.2 77 0 rfl, hG.2 77 1 rfl, hG.2 77 2 rfl, hG.2 77 3 rfl, hG.1 78 (by decide), hG.1 79 (by decide), hG.1 80 (by decide), hG.1 81 (by decide)⟩, by omega⟩
  | 1, _ => exact ⟨⟨hG.1 82 (by decide), hG.2 82 0 rfl, hG.2 82 1 rfl, hG.2 82 2 rfl, hG.2 82 3 rfl, hG.1 83 (by decide), hG.1 84 (by decide), hG.1 85 (by decide), hG.1 86 (by decide)⟩, by omega⟩
  | 2, _ => exact ⟨⟨hG.1 87 (by decide), hG.2 87 0 rfl, hG.2 87 1 rfl, hG.2 87 2 rfl, hG.2 87 3 rfl, hG.1 88 (by decide), hG.1 89 (by decide), hG.1 90 (by decide), hG.1 91 (by decide)⟩, by omega⟩
  | 3, _ => exact ⟨⟨hG.1 92 (by decide), hG.2 92 0 rfl, hG.2 92 1 rfl, hG.2 92 2 rfl, hG.2 92 3 rfl, hG.1 93 (by decide), hG.1 94 (by decide), hG.1 95 (by decide), hG.1 96 (by decide)⟩, by omega⟩
  | 4, _ => exact ⟨⟨hG.1 97 (by decide), hG.2 97 0 rfl, hG.2 97 1 rfl, hG.2 97 2 rfl, hG.2 97 3 rfl, hG.1 98 (by decide), hG.1 99 (by decide), hG.1 100 (by decide), hG.1 101 (by decide)⟩, by omega⟩
theorem sp_ad_eq (F : Option (Nat × Law)) (s : St) (m : Nat) : sp_ad F s m = (decide (sUp s = some m) || sp_canb F s m) := rfl
theorem sp_mo_le (F : Option (Nat × Law)) (s : St) (m : Nat) : sp_mo F s m ≤ 99 := by
  unfold sp_mo
  split
  · omega
  · exact sp_notice_le _ _ _ _
theorem c_X8_eyesFor {ex : sm_O} {n : Nat} {y : sm_Y} {I : Nat → Nat → Int32} {L : Nat → Nat → Int64} {R : Nat → Nat → Option Nat} {Q : sm_Q} {d l m : Nat} {s : St} {F : Option (Nat × Law)} (hd : 4 ≤ d) (hG : sm_G y R) (hl : l < 5) (hs : cS s (77 + 5 * l) I) (hok : sp_ok s) (hm : m < sMen s) (hF : cForce I F)
    (k : ∀ (I' : Nat → Nat → Int32) (x : Int32), cFt I I' → (sp_ad F s m = true ∧ x = nI (sp_mo F s m) ∨ sp_ad F s m = false ∧ x = -1) → Q (some (.int x)) (n, y, I', L, R)) : sm_W ex d 0 0 58 0 [some (.ref 73), some (.ref (77 + 5 * l)), some (.int (nI m))] [] (n, y, I, L, R) Q := by
  have h7 := hok.1
  have ho := mk77 hG l hl
  refine w_X8_eyesFor_0 (d1 := 3) hG ho.1 (by omega) ?_
  rw [hs.2.2.2.1]
  simp only [sp_up_eq hok.2.2.1 (by omega : sMen s ≤ 1000) hm]
  by_cases hu : sUp s = some m
  · rw [if_pos hu]
    exact k I 0 (cFt.rfl' I) (Or.inl ⟨by rw [sp_ad_eq, decide_eq_true hu]; rfl, by unfold sp_mo; rw [if_pos hu]; rfl⟩)
  · rw [if_neg hu]
    refine c_X5_can0 (Nat.le_refl 3) hG ho hs hok hm hF ?_
    intro I1 x f1 hx
    have hx := sp_canx hx
    refine w_X8_eyesFor_20 (d1 := 3) hG (by omega) ?_
    by_cases hc : sp_canb F s m = true
    · rw [if_pos hc] at hx
      rw [hx, if_neg (by decide)]
      have hF1 : cForce I1 F := cForce_kept (fun a j _ _ => f1 a j (by omega)) hF
      have hs1 := f1.S ho hs
      refine c_X0_inForce (F := F) (by omega) hG hF1 ?_
      refine w_X8_eyesFor_39 (d1 := 3) hG ho.1 (by omega) ?_
      rw [hs1.2.2.2.1]
      refine c_told (kd := 2) (by omega) hG ho hs1 hok hm hok.2.2.1 hF1 (by decide) ?_
      intro I2 f2
      rw [sp_asked_n]
      exact w_X8_eyesFor_49 (k I2 _ (f1.trans f2) (Or.inl ⟨by rw [sp_ad_eq, hc, Bool.or_true], by unfold sp_mo; rw [if_neg hu]⟩))
    · rw [if_neg hc] at hx
      rw [hx, if_pos rfl]
      exact k I1 _ f1 (Or.inr ⟨by rw [sp_ad_eq, decide_eq_false hu]; simpa using hc, rfl⟩)
theorem c_X8_shakes {ex : sm_O} {n : Nat} {y : sm_Y} {I : Nat → Nat → Int32} {L : Nat → Nat → Int64} {R : Nat → Nat → Option Nat} {Q : sm_Q} {d l m : Nat} {w3 w4 w5 : Option Value} {s : St} {F : Option (Nat × Law)} (hd : 4 ≤ d) (hG : sm_G y R) (hl : l < 5) (hs : cS s (77 + 5 * l) I) (hok : sp_ok s) (hm : m < sMen s) (hF : cForce I F)
    (k : ∀ (I' : Nat → Nat → Int32) (x : Int32), cFt I I' → ((sp_hour F (sp_mv s m)).2 = 1 ∧ x = 1 ∨ ¬ (sp_hour F (sp_mv s m)).2 = 1 ∧ x = 0) → Q (some (.int x)) (n, y, I', L, R)) : sm_W ex d 0 0 59 0 [some (.ref 73), some (.ref (77 + 5 * l)), some (.int (nI m)), w3, w4, w5] [] (n, y, I, L, R) Q := by
  have h7 := hok.1
  have ho := mk77 hG l hl
  have hmv := sp_mv_ok hok hm
  -- whatever was set
  have go : ∀ (v : Int32), cS (sp_mv s m) (77 + 5 * l) (sm_st (sm_st I (77 + 5 * l) 6 (nI m)) (77 + 5 * l) 7 v) → sm_W ex 3 0 0 33 0 [some (.ref 50), some (.ref (77 + 5 * l)), none] [] (n, y, sm_st (sm_st I (77 + 5 * l) 6 (nI m)) (77 + 5 * l) 7 v, L, R) (fun r μ1 => sm_W ex d 0 0 59 39 [some (.ref 73), some (.ref (77 + 5 * l)), some (.int (nI m)), some (.int (I (77 + 5 * l) 6)), some (.int (I (77 + 5 * l) 7)), w5] (r.toList ++ []) μ1 Q) := by
    intro v hsv
    have hFv : cForce (sm_st (sm_st I (77 + 5 * l) 6 (nI m)) (77 + 5 * l) 7 v) F := cForce_kept (fun a j _ _ => by rw [sm_st_o _ _ (by omega), sm_st_o _ _ (by omega)]) hF
    refine c_X5_wouldShake (Nat.le_refl 3) hG ho hsv hmv hFv ?_
    intro I2 x f2 hx
    rw [sp_shake_iff hmv] at hx
    refine w_X8_shakes_39 ho.1 ⟨by rcases hx with ⟨_, rfl⟩ | ⟨_, rfl⟩ <;> simp, k _ x (fun a j q => ?_) hx⟩
    by_cases e6 : a = 77 + 5 * l ∧ j = 6
    · obtain ⟨rfl, rfl⟩ := e6
      rw [sm_st_j _ _ (by decide), sm_st_s]
    · by_cases e7 : a = 77 + 5 * l ∧ j = 7
      · obtain ⟨rfl, rfl⟩ := e7
        rw [sm_st_s]
      · rw [sm_st_or _ _ (by omega), sm_st_or _ _ (by omega), f2 a j q, sm_st_or _ _ (by omega), sm_st_or _ _ (by omega)]
  refine w_X8_shakes_0 (d1 := 3) hG ho.1 (by omega) ?_
  have e6 := hs.2.2.2.1
  by_cases hu : sUp s = some m
  · rw [if_pos (by rw [e6]; exact (sp_up_eq hok.2.2.1 (by omega) hm).mpr hu)]
    refine go _ ?_
    have e : sp_mv s m = s := by unfold sp_mv; rw [if_pos hu]
    rw [e]
    have i1 : nI m = I (77 + 5 * l) 6 := by rw [e6, hu]; rfl
    rw [i1, sm_st_id, sm_st_id]
    exact hs
  · rw [if_neg (by rw [e6]; exact fun z => hu ((sp_up_eq hok.2.2.1 (by omega) hm).mp z))]
    refine go _ ?_
    have e : sp_mv s m = sp_relieve s m := by unfold sp_mv; rw [if_neg hu]
    rw [e]
    exact cS_relieve hs (by rw [sm_st_j _ _ (by decide), sm_st_s]) (sm_st_s _ _ _ _) (fun a j _ _ h => by rw [sm_st_or _ _ (by omega), sm_st_or _ _ (by omega)])
theorem sp_same_mv (s : St) (m : Nat) : sp_same s (sp_mv s m) := by
  unfold sp_mv
  split
  · exact sp_same_rfl s
  · exact sp_same_relieve s m
theorem c_X8_goOn {ex : sm_O} {n : Nat} {y : sm_Y} {I : Nat → Nat → Int32} {L : Nat → Nat → Int64} {R : Nat → Nat → Option Nat} {Q : sm_Q} {d l l' m : Nat} {s s1 : St} {F : Option (Nat × Law)} (hd : 4 ≤ d) (hG : sm_G y R) (hl : l < 5) (hl' : l' < 5) (hne : l ≠ l') (hs : cS s (77 + 5 * l) I) (hs1 : cS s1 (77 + 5 * l') I) (hsm : sp_same s1 s) (hok : sp_ok s) (ht : sTerm s 0 < 100000) (hm : m < sMen s) (hF : cForce I F)
    (k : ∀ (I' : Nat → Nat → Int32), (∀ a j, ¬ (51 ≤ a ∧ a ≤ 53) → ¬ (77 + 5 * l' ≤ a ∧ a ≤ 77 + 5 * l' + 4) → I' a j = I a j) → cS (sp_hour F (sp_mv s m)).1 (77 + 5 * l') I' → Q none (n, y, I', L, R)) : sm_W ex d 0 0 60 0 [some (.ref 73), some (.ref (77 + 5 * l)), some (.int (nI m)), some (.ref (77 + 5 * l'))] [] (n, y, I, L, R) Q := by
  have h7 := hok.1
  have ho := mk77 hG l hl
  have ho' := mk77 hG l' hl'
  have hmv := sp_mv_ok hok hm
  refine w_X8_goOn_0 (d1 := 3) ho'.1 (by omega) ?_
  refine c_X9_copyMoving (by omega) ho'.1 ho.1 (by unfold cApt; omega) h7 hs hs1 hsm ?_
  intro I1 f1 s2
  have fr1 : ∀ a j, ¬ (51 ≤ a ∧ a ≤ 53) → ¬ (77 + 5 * l' ≤ a ∧ a ≤ 77 + 5 * l' + 4) → I1 a j = I a j := fun a j _ h => f1 a j (by omega) (by omega) (by omega)
  have hour : ∀ (I2 : Nat → Nat → Int32), (∀ a j, ¬ (51 ≤ a ∧ a ≤ 53) → ¬ (77 + 5 * l' ≤ a ∧ a ≤ 77 + 5 * l' + 4) → I2 a j = I a j) → cS (sp_mv s m) (77 + 5 * l') I2 → sm_W ex d 0 0 60 22 [some (.ref 73), some (.ref (77 + 5 * l)), some (.int (nI m)), some (.ref (77 + 5 * l'))] [] (n, y, I2, L, R) Q := by
    intro I2 f2 s3
    refine w_X8_goOn_22 (d1 := 3) hG (by omega) ?_
    refine c_X5_hour (Nat.le_refl 3) hG ho' (by omega) s3 hmv (by rw [sp_mv_term]; exact ht) (cForce_kept (fun a j _ _ => f2 a j (by omega) (by omega)) hF) ?_
    intro I3 f3 s4
    exact w_X8_goOn_30 (k I3 (fun a j q1 q2 => (f3 a j q1 (by omega) (by omega) (by omega)).trans (f2 a j q1 q2)) s4)
  refine w_X8_goOn_5 hG ho'.1 (by omega) ?_
  rw [s2.2.2.2.1]
  simp only [sp_up_eq hok.2.2.1 (by omega : sMen s ≤ 1000) hm]
  by_cases hu : sUp s = some m
  · rw [if_pos hu]
    refine hour I1 fr1 ?_
    have e : sp_mv s m = s := by unfold sp_mv; rw [if_pos hu]
    rw [e]
    exact s2
  · rw [if_neg hu]
    refine hour _ (fun a j q1 q2 => by rw [sm_st_o _ _ (by omega), sm_st_o _ _ (by omega)]; exact fr1 a j q1 q2) ?_
    have e : sp_mv s m = sp_relieve s m := by unfold sp_mv; rw [if_neg hu]
    rw [e]
    exact cS_relieve s2 (by rw [sm_st_j _ _ (by decide), sm_st_s]) (sm_st_s _ _ _ _) (fun a j _ _ h => by rw [sm_st_or _ _ (by omega), sm_st_or _ _ (by omega)])
-- the search
def srStep (F : Option (Nat × Law)) (h : Nat) (s : St) (e : Nat) (row : List Nat) (b : Bst) (m : Nat) : Bst := if sp_ad F s m = true ∧ e + sp_mo F s m < sp_bst b ∧ (sp_hour F (sp_mv s m)).2 = 0 then sp_search F h (sp_hour F (sp_mv s m)).1 (e + sp_mo F s m) (row ++ [m]) b else b
def srJ (F : Option (Nat × Law)) (h : Nat) (s : St) (e : Nat) (row : List Nat) (b : Bst) (j : Nat) : Bst := (List.range j).foldl (srStep F h s e row) b
theorem sp_search_j (F : Option (Nat × Law)) (h : Nat) (s : St) (e : Nat) (row : List Nat) (b : Bst) : sp_search F (h + 1) s e row b = srJ F h s e row b (sMen s) := rfl
theorem srJ_s (F : Option (Nat × Law)) (h : Nat) (s : St) (e : Nat) (row : List Nat) (b : Bst) (j : Nat) : srJ F h s e row b (j + 1) = srStep F h s e row (srJ F h s e row b j) j := by
  unfold srJ
  rw [List.range_succ, List.foldl_append]
  rfl
/-- what is found is so long, and so little noticed -/
theorem sp_search_inv (F : Option (Nat × Law)) (N : Nat) : ∀ (h : Nat) (s : St) (e : Nat) (row : List Nat) (b : Bst), row.length + h = N → e ≤ 99 * row.length → (∀ x, b = some x → x.2.length = N ∧ x.1 ≤ 99 * N) → ∀ x, sp_search F h s e row b = some x → x.2.length = N ∧ x.1 ≤ 99 * N := by
  intro h
  induction h with
  | zero =>
    intro s e row b hl he hb x hx
    cases hx
    exact ⟨by show row.length = N; omega, by show e ≤ 99 * N; rw [← hl]; omega⟩
  | succ h ih =>
    intro s e row b hl he hb
    rw [sp_search_j]
    have : ∀ j, ∀ x, srJ F h s e row b j = some x → x.2.length = N ∧ x.1 ≤ 99 * N := by
      intro j
      induction j with
      | zero => exact hb
      | succ j ihj =>
        rw [srJ_s]
        unfold srStep
        split
        · have hmo := sp_mo_le F s j
          exact ih _ _ _ _ (by rw [List.length_append]; show row.length + 1 + h = N; omega) (by rw [List.length_append]; show _ ≤ 99 * (row.length + 1); omega) ihj
        · exact ihj
    exact this (sMen s)
def rBest (b : Bst) (I : Nat → Nat → Int32) : Prop := match b with
  | none => I 73 5 = 0 ∧ I 73 4 = 1000000
  | some x => I 73 5 = 1 ∧ I 73 4 = nI x.1 ∧ rowI 76 I x.2
def rFr (l : Nat) (I I' : Nat → Nat → Int32) : Prop := ∀ a j, ¬ (51 ≤ a ∧ a ≤ 53) → ¬ (a = 73 ∧ (j = 4 ∨ j = 5)) → ¬ (a = 75 ∧ l ≤ j) → a ≠ 76 → ¬ (82 + 5 * l ≤ a ∧ a ≤ 101) → I' a j = I a j
theorem rFr.rfl' (l : Nat) (I : Nat → Nat → Int32) : rFr l I I := fun _ _ _ _ _ _ _ => rfl
theorem rFr.trans {l : Nat} {I I' I2 : Nat → Nat → Int32} (h1 : rFr l I I') (h2 : rFr l I' I2) : rFr l I I2 := fun a j q1 q2 q3 q4 q5 => (h2 a j q1 q2 q3 q4 q5).trans (h1 a j q1 q2 q3 q4 q5)
theorem cFt.r {I I' : Nat → Nat → Int32} (l : Nat) (h : cFt I I') : rFr l I I' := fun a j q _ _ _ _ => h a j q
theorem rBest_kept {b : Bst} {I I' : Nat → Nat → Int32} (h : ∀ a j, (a = 73 ∧ (j = 4 ∨ j = 5)) ∨ a = 76 → I' a j = I a j) (hb : rBest b I) : rBest b I' := by
  cases b with
  | none => exact ⟨(h 73 5 (by omega)).trans hb.1, (h 73 4 (by omega)).trans hb.2⟩
  | some x => exact ⟨(h 73 5 (by omega)).trans hb.1, (h 73 4 (by omega)).trans hb.2.1, rowI_kept (fun j => h 76 j (by omega)) hb.2.2⟩
theorem rBest_4 {b : Bst} {I : Nat → Nat → Int32} (hb : rBest b I) : I 73 4 = nI (sp_bst b) := by
  cases b with
  | none => exact hb.2
  | some x => exact hb.2.1
/-- the standings that lie deeper -/
def rDeep (N l : Nat) (s : St) (I : Nat → Nat → Int32) : Prop := ∀ l', l < l' → l' < N → ∃ s1, cS s1 (77 + 5 * l') I ∧ sp_same s1 s
set_option maxHeartbeats 2000000 in
theorem c_X8_search {ex : sm_O} {n N : Nat} {y : sm_Y} {L : Nat → Nat → Int64} {R : Nat → Nat → Option Nat} {F : Option (Nat × Law)} (hG : sm_G y R) (hN : N ≤ 5) :
    ∀ (h l : Nat) (s : St) (e d : Nat) (row : List Nat) (b : Bst) (I : Nat → Nat → Int32) (Q : sm_Q) (w3 w4 w5 : Option Value), l + h = N → row.length = l → h + 5 ≤ d → I 73 6 = nI N → (0 < h → cS s (77 + 5 * l) I) → rDeep N l s I → sp_ok s → sTerm s 0 + h ≤ 2000 → rowI 75 I row → rBest b I → (∀ x, b = some x → x.1 ≤ 99 * N) → e ≤ 99 * l → cForce I F →
    (∀ (I' : Nat → Nat → Int32), rFr l I I' → rBest (sp_search F h s e row b) I' → rDeep N l s I' → Q none (n, y, I', L, R)) → sm_W ex d 0 0 57 0 [some (.ref 73), some (.int (nI l)), some (.int (nI e)), w3, w4, w5] [] (n, y, I, L, R) Q := by
  intro h
  induction h with
  | zero =>
    intro l s e d row b I Q w3 w4 w5 hlN hrl hd h6 _ hD hok ht hrow hb hbx he hF k
    obtain rfl : l = N := by omega
    refine w_X8_search_0 hG (by omega) ?_
    rw [h6, if_neg (by rw [nI_ltI (by omega) (by omega)]; omega)]
    refine ⟨nI_pos (by omega), by rw [nI_clamp (by omega), z0]; omega, ?_⟩
    rw [nI_clamp (by omega), z0]
    refine k _ (fun a j q1 q2 q3 q4 q5 => by rw [sm_cp_or _ (by omega), sm_st_or _ _ (by omega), sm_st_or _ _ (by omega)]) ?_ (fun l' h1 h2 => absurd h2 (by omega))
    refine ⟨?_, ?_, fun i x hx => ?_⟩
    · rw [sm_cp_or _ (by omega), sm_st_j _ _ (by decide), sm_st_s]
    · rw [sm_cp_or _ (by omega), sm_st_s]
    · have hi : i < row.length := (List.getElem?_eq_some_iff.mp hx).1
      rw [sm_cp_in _ _ _ (by omega) (by omega), sm_st_o _ _ (by decide), sm_st_o _ _ (by decide), show 0 + (i - 0) = i by omega]
      exact hrow i x hx
  | succ h ih =>
    intro l s e d row b I Q w3 w4 w5 hlN hrl hd h6 hs hD hok ht hrow hb hbx he hF k
    have h7 := hok.1
    have hs := hs (by omega)
    have hl5 : l < 5 := by omega
    have ho := mk77 hG l hl5
    rw [sp_search_j] at k
    have key : ∀ (q j : Nat) (I1 : Nat → Nat → Int32) (w5 : Option Value), j + q = sMen s → rFr l I I1 → rBest (srJ F h s e row b j) I1 → (∀ x, srJ F h s e row b j = some x → x.1 ≤ 99 * N) → rDeep N l s I1 → sm_W ex d 0 0 57 46 [some (.ref 73), some (.int (nI l)), some (.int (nI e)), some (.ref (77 + 5 * l)), some (.int (nI j)), w5] [] (n, y, I1, L, R) Q := by
      intro q
      induction q with
      | zero =>
        intro j I1 w5 hj f1 b1 bx1 D1
        obtain rfl : j = sMen s := by omega
        have hs1 : cS s (77 + 5 * l) I1 := cS_kept2 (fun a j q => f1 a j (by omega) (by omega) (by omega) (by omega) (by omega)) hs
        refine w_X8_search_46 (d1 := 4) hG ho.1 (by omega) ?_
        rw [hs1.1, if_pos (Int32.le_refl _)]
        exact k I1 f1 b1 D1
      | succ q ihq =>
        intro j I1 w5 hj f1 b1 bx1 D1
        have hjm : j < sMen s := by omega
        have hs1 : cS s (77 + 5 * l) I1 := cS_kept2 (fun a j q => f1 a j (by omega) (by omega) (by omega) (by omega) (by omega)) hs
        have hF1 : cForce I1 F := cForce_kept (fun a j _ _ => f1 a j (by omega) (by omega) (by omega) (by omega) (by omega)) hF
        have hmo := sp_mo_le F s j
        have hbl : sp_bst (srJ F h s e row b j) ≤ 1000000 := by
          cases hx : srJ F h s e row b j with
          | none => exact Nat.le_refl _
          | some x => have := bx1 x hx; show x.1 ≤ 1000000; omega
        -- nothing comes of him
        have skip : ∀ (I2 : Nat → Nat → Int32) (w5 : Option Value), cFt I1 I2 → ¬ (sp_ad F s j = true ∧ e + sp_mo F s j < sp_bst (srJ F h s e row b j) ∧ (sp_hour F (sp_mv s j)).2 = 0) → sm_W ex d 0 0 57 138 [some (.ref 73), some (.int (nI l)), some (.int (nI e)), some (.ref (77 + 5 * l)), some (.int (nI j)), w5] [] (n, y, I2, L, R) Q := by
          intro I2 w5 f2 hn
          have es : srJ F h s e row b (j + 1) = srJ F h s e row b j := by rw [srJ_s]; unfold srStep; rw [if_neg hn]
          refine w_X8_search_138 ?_
          rw [sm_n1]
          refine ihq (j + 1) I2 w5 (by omega) (f1.trans (f2.r l)) (by rw [es]; exact rBest_kept (fun a j q => f2 a j (by omega)) b1) (by rw [es]; exact bx1) (fun l' h1 h2 => ?_)
          obtain ⟨s1, c1, c2⟩ := D1 l' h1 h2
          exact ⟨s1, f2.S (mk77 hG l' (by omega)) c1, c2⟩
        refine w_X8_search_46 (d1 := 4) hG ho.1 (by omega) ?_
        rw [hs1.1, if_neg (by rw [nI_leI (by omega) (by omega)]; omega)]
        refine c_X8_eyesFor (Nat.le_refl 4) hG hl5 hs1 hok hjm hF1 ?_
        intro I2 x f2 hx
        refine w_X8_search_62 (d1 := 4) hG (by omega) ?_
        rcases hx with ⟨had, rfl⟩ | ⟨had, rfl⟩
        · rw [if_neg (nI_m1 (by omega)), nI_add, rBest_4 (rBest_kept (fun a j q => f2 a j (by omega)) b1)]
          by_cases hlt : e + sp_mo F s j < sp_bst (srJ F h s e row b j)
          · rw [if_neg (by rw [nI_leI (by omega) (by omega)]; omega)]
            have hs2 := f2.S ho hs1
            have hF2 : cForce I2 F := cForce_kept (fun a j _ _ => f2 a j (by omega)) hF1
            refine c_X8_shakes (Nat.le_refl 4) hG hl5 hs2 hok hjm hF2 ?_
            intro I3 x f3 hx
            refine w_X8_search_88 (d1 := 4) hG (by omega) ?_
            have f23 := f2.trans f3
            rcases hx with ⟨hsh, rfl⟩ | ⟨hsh, rfl⟩
            · rw [if_neg (by decide)]
              exact skip I3 _ f23 (fun z => by omega)
            · have hsh0 : (sp_hour F (sp_mv s j)).2 = 0 := by
                rcases sp_hour_01 F (sp_mv s j) with z | z
                · exact z
                · exact absurd z hsh
              have es : srJ F h s e row b (j + 1) = sp_search F h (sp_hour F (sp_mv s j)).1 (e + sp_mo F s j) (row ++ [j]) (srJ F h s e row b j) := by rw [srJ_s]; unfold srStep; rw [if_pos ⟨had, hlt, hsh0⟩]
              have bx2 : ∀ x, srJ F h s e row b (j + 1) = some x → x.1 ≤ 99 * N := by
                rw [es]
                have inv : ∀ (h : Nat) (s : St) (e : Nat) (row : List Nat) (b : Bst), row.length + h = N → e ≤ 99 * row.length → (∀ x, b = some x → x.1 ≤ 99 * N) → ∀ x, sp_search F h s e row b = some x → x.1 ≤ 99 * N := by
                  intro h
                  induction h with
                  | zero =>
                    intro s e row b hl he hb x hx
                    cases hx
                    show e ≤ 99 * N
                    omega
                  | succ h ih =>
                    intro s e row b hl he hb
                    rw [sp_search_j]
                    have : ∀ j, ∀ x, srJ F h s e row b j = some x → x.1 ≤ 99 * N := by
                      intro j
                      induction j with
                      | zero => exact hb
                      | succ j ihj =>
                        rw [srJ_s]
                        unfold srStep
                        split
                        · have hmo := sp_mo_le F s j
                          exact ih _ _ _ _ (by rw [List.length_append]; show row.length + 1 + h = N; omega) (by rw [List.length_append]; show _ ≤ 99 * (row.length + 1); omega) ihj
                        · exact ihj
                    exact this (sMen s)
                exact inv h _ _ _ _ (by rw [List.length_append]; show row.length + 1 + h = N; omega) (by rw [List.length_append]; show _ ≤ 99 * (row.length + 1); omega) bx1
              rw [if_pos rfl]
              refine ⟨vp_in_nI hl5 (by decide), ?_⟩
              rw [nI_clamp (by omega)]
              -- he is laid, then the rest
              have hs3 := f3.S ho hs2
              have hsm : sp_same s (sp_hour F (sp_mv s j)).1 := sp_same_trans (sp_same_mv s j) (sp_hour_same F _)
              have hok' : sp_ok (sp_hour F (sp_mv s j)).1 := sp_hour_ok (sp_mv_ok hok hjm) (by rw [sp_mv_term]; omega)
              have ht' : sTerm (sp_hour F (sp_mv s j)).1 0 + h ≤ 2000 := by rw [sp_hour_t0, sp_mv_term]; omega
              have rest : ∀ (I4 : Nat → Nat → Int32) (w3 w4 : Option Value), (∀ a i, ¬ (51 ≤ a ∧ a ≤ 53) → ¬ (a = 75 ∧ i = l) → ¬ (l + 1 < N ∧ 82 + 5 * l ≤ a ∧ a ≤ 86 + 5 * l) → I4 a i = I1 a i) → I4 75 l = nI j → (0 < h → cS (sp_hour F (sp_mv s j)).1 (77 + 5 * (l + 1)) I4) → sm_W ex d 0 0 57 127 [some (.ref 73), some (.int (nI l)), some (.int (nI e)), some (.ref (77 + 5 * l)), some (.int (nI j)), some (.int (nI (sp_mo F s j)))] [] (n, y, I4, L, R) Q := by
                intro I4 w3 w4 f4 h75 hs4
                refine w_X8_search_127 (d1 := d - 1) hG (by omega) ?_
                rw [sm_n1, nI_add]
                refine ih (l + 1) (sp_hour F (sp_mv s j)).1 (e + sp_mo F s j) (d - 1) (row ++ [j]) (srJ F h s e row b j) I4 _ _ _ _ (by omega) (by rw [List.length_append]; show row.length + 1 = l + 1; omega) (by omega) ?_ hs4 (fun l' h1 h2 => ?_) hok' ht' (fun i x hx => ?_) (rBest_kept (fun a j q => f4 a j (by omega) (by omega) (by omega)) b1) bx1 (by omega) (cForce_kept (fun a j _ _ => f4 a j (by omega) (by omega) (by omega)) hF1) ?_
                · rw [f4 73 6 (by omega) (by omega) (by omega), f1 73 6 (by omega) (by omega) (by omega) (by omega) (by omega)]
                  exact h6
                · obtain ⟨s1, c1, c2⟩ := D1 l' (by omega) h2
                  exact ⟨s1, cS_kept2 (fun a j q => f4 a j (by omega) (by omega) (by omega)) c1, sp_same_trans c2 hsm⟩
                · by_cases hi : i < row.length
                  · rw [List.getElem?_append_left hi] at hx
                    rw [f4 75 i (by omega) (by omega) (by omega), f1 75 i (by omega) (by omega) (by omega) (by omega) (by omega)]
                    exact hrow i x hx
                  · rw [List.getElem?_append_right (by omega)] at hx
                    rcases Nat.eq_or_lt_of_le (Nat.le_of_not_lt hi) with q | q
                    · rw [← q, Nat.sub_self] at hx
                      cases hx
                      rw [← q, hrl]
                      exact h75
                    · rw [show i - row.length = (i - row.length - 1) + 1 by omega] at hx
                      cases hx
                · intro I5 f5 b5 D5
                  refine w_X8_search_138 ?_
                  rw [sm_n1]
                  refine ihq (j + 1) I5 _ (by omega) (fun a i q1 q2 q3 q4 q5 => ?_) (by rw [es]; exact b5) bx2 (fun l' h1 h2 => ?_)
                  · rw [f5 a i q1 q2 (by omega) q4 (by omega), f4 a i q1 (by omega) (by omega)]
                    exact f1 a i q1 q2 q3 q4 q5
                  · by_cases e1 : l' = l + 1
                    · subst e1
                      exact ⟨_, cS_kept2 (fun a j q => f5 a j (by omega) (by omega) (by omega) (by omega) (by omega)) (hs4 (by omega)), sp_same_symm hsm⟩
                    · obtain ⟨s1, c1, c2⟩ := D5 l' (by omega) h2
                      exact ⟨s1, c1, sp_same_trans c2 (sp_same_symm hsm)⟩
              have h6' : (sm_st I3 75 l (nI j)) 73 6 = nI N := by
                rw [sm_st_o _ _ (by decide), f23 73 6 (by omega), f1 73 6 (by omega) (by omega) (by omega) (by omega) (by omega)]
                exact h6
              have h6'' : I3 73 6 = nI N := by rw [f23 73 6 (by omega), f1 73 6 (by omega) (by omega) (by omega) (by omega) (by omega)]; exact h6
              rw [h6'', sm_n1]
              by_cases hlast : N ≤ l + 1
              · rw [if_pos (by rw [nI_leI (by omega) (by omega)]; exact hlast)]
                refine rest _ none none (fun a i q1 q2 q3 => by rw [sm_st_or _ _ (by omega)]; exact f23 a i q1) (sm_st_s _ _ _ _) (fun z => by omega)
              · rw [if_neg (by rw [nI_leI (by omega) (by omega)]; exact hlast)]
                refine ⟨vp_in_nI (by omega) (by decide), ?_⟩
                rw [nI_clamp (by omega)]
                obtain ⟨s1, c1, c2⟩ := D1 (l + 1) (by omega) (by omega)
                have c1' : cS s1 (77 + 5 * (l + 1)) (sm_st I3 75 l (nI j)) := cS_kept2 (fun a i q => by rw [sm_st_o _ _ (by omega)]; exact f23 a i (by omega)) c1
                have hs3' : cS s (77 + 5 * l) (sm_st I3 75 l (nI j)) := cS_kept2 (fun a i q => sm_st_o _ _ (by omega)) hs3
                refine c_X8_goOn (Nat.le_refl 4) hG hl5 (by omega) (by omega) hs3' c1' c2 hok (by omega) hjm (cForce_kept (fun a i _ _ => by rw [sm_st_o _ _ (by omega)]; exact f3 a i (by omega)) hF2) ?_
                intro I4 f4 s4
                refine rest I4 none none (fun a i q1 q2 q3 => ?_) ?_ (fun _ => s4)
                · rw [f4 a i q1 (by omega), sm_st_or _ _ (by omega)]
                  exact f23 a i q1
                · rw [f4 75 l (by omega) (by omega)]
                  exact sm_st_s _ _ _ _
          · rw [if_pos (by rw [nI_leI (by omega) (by omega)]; omega)]
            exact skip I2 _ f2 (fun z => hlt z.2.1)
        · rw [if_pos rfl]
          exact skip I2 _ f2 (fun z => by rw [had] at z; exact absurd z.1 (by decide))
    refine w_X8_search_0 hG (by omega) ?_
    rw [h6, if_pos (by rw [nI_ltI (by omega) (by omega)]; omega), nI_clamp (by omega)]
    exact ⟨vp_in_nI hl5 (by decide), key (sMen s) 0 I _ (by omega) (rFr.rfl' l I) hb hbx hD⟩

