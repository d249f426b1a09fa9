set_option maxRecDepth 100000 in
theorem w_X7_clause_0 {ex : sm_O} {d n : Nat} {y : sm_Y} {I : Nat → Nat → Int32} {L : Nat → Nat → Int64} {R : Nat → Nat → Option Nat} {Q : sm_Q} {w1 : Option Value} {w2 : Option Value} {d1 : Nat} (hG : sm_G y R) (h1 : d1 < d) (k : if (I 120 2) = 0 then (sm_W ex d1 0 0 53 0 [some (.ref 120), some (.retAddr 3), none, none, none, none, none] [] (n, y, I, L, R) (fun r μ1 => sm_W ex d 0 0 41 18 [some (.ref 120), w1, w2] (r.toList ++ []) μ1 Q)) else (sm_W ex d1 0 0 53 0 [some (.ref 120), some (.retAddr 2), none, none, none, none, none] [] (n, y, I, L, R) (fun r μ1 => sm_W ex d 0 0 41 18 [some (.ref 120), w1, w2] (r.toList ++ []) μ1 Q))) : sm_W ex d 0 0 41 0 [some (.ref 120), w1, w2] [] (n, y, I, L, R) Q := sm_in (sm_in (sm_in (And.intro (hG.1 120 (Nat.le_of_ble_eq_true rfl)) (sm_in (And.intro (fun c1 => have k1t := Eq.mp (if_pos c1) k; sm_in (sm_in (Exists.intro 7 (And.intro (hG.1 120 (Nat.le_of_ble_eq_true rfl)) (And.intro rfl (sm_calln h1 (Nat.le_of_ble_eq_true rfl) (Nat.le_of_ble_eq_true rfl) k1t)))))) (fun c1 => have k1f := Eq.mp (if_neg c1) k; sm_in (sm_in (sm_in (Exists.intro 7 (And.intro (hG.1 120 (Nat.le_of_ble_eq_true rfl)) (And.intro rfl (sm_calln h1 (Nat.le_of_ble_eq_true rfl) (Nat.le_of_ble_eq_true rfl) k1f))))))))))))
set_option maxRecDepth 100000 in
theorem w_X7_clause_18 {ex : sm_O} {d n : Nat} {y : sm_Y} {I : Nat → Nat → Int32} {L : Nat → Nat → Int64} {R : Nat → Nat → Option Nat} {Q : sm_Q} {w1 : Option Value} {w2 : Option Value} {s0 : Int32} {q0 : Nat} {ns0 nc0 : Nat} {d1 : Nat} (hG : sm_G y R) (ho0 : ok6 y R q0 ns0 nc0) (h1 : R 120 3 = some q0) (h2 : d1 < d) (k : if s0 = (-1) then (Q (some (.int 0)) (n, y, I, L, R)) else (sm_W ex d1 0 0 36 0 [some (.ref q0), some (.int s0)] [] (n, y, I, L, R) (fun r μ1 => sm_W ex d 0 0 41 32 [some (.ref 120), some (.int s0), w2] (r.toList ++ []) μ1 Q))) : sm_W ex d 0 0 41 18 [some (.ref 120), w1, w2] [.int s0] (n, y, I, L, R) Q := sm_in (And.intro (Nat.le_of_ble_eq_true rfl) (sm_in (sm_in (sm_in (And.intro (fun c1 => have k1t := Eq.mp (if_pos c1) k; sm_in (sm_in (And.intro rfl (And.intro (Or.inl rfl) k1t)))) (fun c1 => have k1f := Eq.mp (if_neg c1) k; sm_in (sm_in (And.intro (hG.1 120 (Nat.le_of_ble_eq_true rfl)) (sm_gfr rfl h1 (sm_in (sm_in (Exists.intro 6 (And.intro (ok6_y0 ho0) (And.intro rfl (sm_calln h2 (Nat.le_of_ble_eq_true rfl) (Nat.le_of_ble_eq_true rfl) k1f)))))))))))))))
set_option maxRecDepth 100000 in
theorem w_X7_clause_32 {ex : sm_O} {d n : Nat} {y : sm_Y} {I : Nat → Nat → Int32} {L : Nat → Nat → Int64} {R : Nat → Nat → Option Nat} {Q : sm_Q} {w2 : Option Value} {a1 : Int32} {s0 : Int32} {q0 : Nat} {ns0 nc0 : Nat} {d1 : Nat} (hG : sm_G y R) (ho0 : ok6 y R q0 ns0 nc0) (h1 : R 120 3 = some q0) (h2 : d1 < d) (k : if s0 = 0 then (Q (some (.int 0)) (n, y, I, L, R)) else (sm_W ex d1 0 0 50 0 [some (.ref 120)] [] (n, y, I, L, R) (fun r μ1 => sm_W ex d 0 0 41 51 [some (.ref 120), some (.int a1), some (.int ((I q0 5) - 1))] (r.toList ++ []) μ1 Q))) : sm_W ex d 0 0 41 32 [some (.ref 120), some (.int a1), w2] [.int s0] (n, y, I, L, R) Q := sm_in (And.intro (fun c1 => have k1f := Eq.mp (if_neg c1) k; sm_in (sm_in (And.intro (hG.1 120 (Nat.le_of_ble_eq_true rfl)) (sm_gfr rfl h1 (sm_in (And.intro (ok6_y0 ho0) (sm_in (sm_in (sm_in (And.intro (Nat.le_of_ble_eq_true rfl) (sm_in (sm_in (Exists.intro 7 (And.intro (hG.1 120 (Nat.le_of_ble_eq_true rfl)) (And.intro rfl (sm_calln h2 (Nat.le_of_ble_eq_true rfl) (Nat.le_of_ble_eq_true rfl) k1f)))))))))))))))) (fun c1 => have k1t := Eq.mp (if_pos c1) k; sm_in (sm_in (And.intro rfl (And.intro (Or.inl rfl) k1t)))))
set_option maxRecDepth 100000 in
theorem w_X7_clause_51 {ex : sm_O} {d n : Nat} {y : sm_Y} {I : Nat → Nat → Int32} {L : Nat → Nat → Int64} {R : Nat → Nat → Option Nat} {Q : sm_Q} {a1 : Int32} {a2 : Int32} {d1 : Nat} {q0 : Nat} {ns0 nc0 : Nat} {q1 : Nat} {ns1 nc1 : Nat} (hG : sm_G y R) (ho0 : ok6 y R q0 ns0 nc0) (ho1 : ok6 y R q1 ns1 nc1) (h1 : d1 < d) (h2 : R 120 3 = some q0) (h3 : R 120 3 = some q1) (k : if a1 = 3 then (if (I 120 2) = 0 then (sm_W ex d 0 0 41 149 [some (.ref 120), some (.int a1), some (.int a2)] [] (n, y, I, L, R) Q) else (sm_W ex d1 0 0 53 0 [some (.ref 120), some (.retAddr 4), none, none, none, none, none] [] (n, y, I, L, R) (fun r μ1 => sm_W ex d 0 0 41 107 [some (.ref 120), some (.int a1), some (.int a2)] (r.toList ++ []) μ1 Q))) else (vp_in a2 nc0 ∧ sm_W ex d1 0 0 45 0 [some (.ref 120), some (.int 0), none, none, none] [] (n, y, sm_st I (q0 + 3) a2.toNatClampNeg (I q1 6), L, R) (fun r μ1 => sm_W ex d 0 0 41 77 [some (.ref 120), some (.int a1), some (.int a2)] (r.toList ++ []) μ1 Q))) : sm_W ex d 0 0 41 51 [some (.ref 120), some (.int a1), some (.int a2)] [] (n, y, I, L, R) Q := sm_in (sm_in (sm_in (And.intro (fun c1 => have k1t := Eq.mp (if_pos c1) k; sm_in (sm_in (And.intro (hG.1 120 (Nat.le_of_ble_eq_true rfl)) (sm_in (And.intro (fun c2 => have k2t := Eq.mp (if_pos c2) k1t; k2t) (fun c2 => have k2f := Eq.mp (if_neg c2) k1t; sm_in (sm_in (sm_in (Exists.intro 7 (And.intro (hG.1 120 (Nat.le_of_ble_eq_true rfl)) (And.intro rfl (sm_calln h1 (Nat.le_of_ble_eq_true rfl) (Nat.le_of_ble_eq_true rfl) k2f)))))))))))) (fun c1 => have k1f := Eq.mp (if_neg c1) k; sm_in (sm_in (And.intro (hG.1 120 (Nat.le_of_ble_eq_true rfl)) (sm_gfr rfl h2 (sm_in (And.intro (ok6_y0 ho0) (sm_gfr rfl (ok6_r2 ho0) (sm_in (sm_in (sm_in (And.intro (hG.1 120 (Nat.le_of_ble_eq_true rfl)) (sm_gfr rfl h3 (sm_in (And.intro (ok6_y0 ho1) ((have e3 := k1f.1; have k3 := k1f.2; sm_in (Exists.intro nc0 (And.intro (ok6_a3 ho0) (And.intro e3 (sm_in (sm_in (sm_in (Exists.intro 7 (And.intro (hG.1 120 (Nat.le_of_ble_eq_true rfl)) (And.intro rfl (sm_calln h1 (Nat.le_of_ble_eq_true rfl) (Nat.le_of_ble_eq_true rfl) k3)))))))))))))))))))))))))))))
set_option maxRecDepth 100000 in
theorem w_X7_clause_77 {ex : sm_O} {d n : Nat} {y : sm_Y} {I : Nat → Nat → Int32} {L : Nat → Nat → Int64} {R : Nat → Nat → Option Nat} {Q : sm_Q} {w1 : Option Value} {w2 : Option Value} {s0 : Int32} {q0 : Nat} {ns0 nc0 : Nat} {d1 : Nat} (hG : sm_G y R) (ho0 : ok6 y R q0 ns0 nc0) (h1 : R 120 3 = some q0) (h2 : d1 < d) (k : if s0 = 0 then (Q (some (.int 0)) (n, y, I, L, R)) else (sm_W ex d1 0 0 37 0 [some (.ref q0), some (.int 0), some (.int 0)] [] (n, y, I, L, R) (fun r μ1 => sm_W ex d 0 0 41 89 [some (.ref 120), w1, w2] (r.toList ++ []) μ1 Q))) : sm_W ex d 0 0 41 77 [some (.ref 120), w1, w2] [.int s0] (n, y, I, L, R) Q := sm_in (And.intro (fun c1 => have k1t := Eq.mp (if_pos c1) k; sm_in (sm_in (And.intro rfl (And.intro (Or.inl rfl) k1t)))) (fun c1 => have k1f := Eq.mp (if_neg c1) k; sm_in (sm_in (And.intro (hG.1 120 (Nat.le_of_ble_eq_true rfl)) (sm_gfr rfl h1 (sm_in (sm_in (sm_in (Exists.intro 6 (And.intro (ok6_y0 ho0) (And.intro rfl (sm_calln h2 (Nat.le_of_ble_eq_true rfl) (Nat.le_of_ble_eq_true rfl) k1f))))))))))))
set_option maxRecDepth 100000 in
theorem w_X7_clause_89 {ex : sm_O} {d n : Nat} {y : sm_Y} {I : Nat → Nat → Int32} {L : Nat → Nat → Int64} {R : Nat → Nat → Option Nat} {Q : sm_Q} {w1 : Option Value} {w2 : Option Value} {s0 : Int32} {d1 : Nat} (hG : sm_G y R) (h1 : d1 < d) (k : if s0 = 0 then (Q (some (.int 0)) (n, y, I, L, R)) else (if (I 120 2) = 0 then (sm_W ex d 0 0 41 149 [some (.ref 120), w1, w2] [] (n, y, I, L, R) Q) else (sm_W ex d1 0 0 53 0 [some (.ref 120), some (.retAddr 4), none, none, none, none, none] [] (n, y, I, L, R) (fun r μ1 => sm_W ex d 0 0 41 107 [some (.ref 120), w1, w2] (r.toList ++ []) μ1 Q)))) : sm_W ex d 0 0 41 89 [some (.ref 120), w1, w2] [.int s0] (n, y, I, L, R) Q := sm_in (And.intro (fun c1 => have k1f := Eq.mp (if_neg c1) k; sm_in (sm_in (And.intro (hG.1 120 (Nat.le_of_ble_eq_true rfl)) (sm_in (And.intro (fun c2 => have k2t := Eq.mp (if_pos c2) k1f; k2t) (fun c2 => have k2f := Eq.mp (if_neg c2) k1f; sm_in (sm_in (sm_in (Exists.intro 7 (And.intro (hG.1 120 (Nat.le_of_ble_eq_true rfl)) (And.intro rfl (sm_calln h1 (Nat.le_of_ble_eq_true rfl) (Nat.le_of_ble_eq_true rfl) k2f)))))))))))) (fun c1 => have k1t := Eq.mp (if_pos c1) k; sm_in (sm_in (And.intro rfl (And.intro (Or.inl rfl) k1t)))))
set_option maxRecDepth 100000 in
theorem w_X7_clause_107 {ex : sm_O} {d n : Nat} {y : sm_Y} {I : Nat → Nat → Int32} {L : Nat → Nat → Int64} {R : Nat → Nat → Option Nat} {Q : sm_Q} {w1 : Option Value} {w2 : Option Value} {s0 : Int32} {d1 : Nat} (hG : sm_G y R) (h1 : d1 < d) (k : if s0 = 0 then (sm_W ex d1 0 0 50 0 [some (.ref 120)] [] (n, y, I, L, R) (fun r μ1 => sm_W ex d 0 0 41 114 [some (.ref 120), w1, w2] (r.toList ++ []) μ1 Q)) else (sm_W ex d 0 0 41 149 [some (.ref 120), w1, w2] [] (n, y, I, L, R) Q)) : sm_W ex d 0 0 41 107 [some (.ref 120), w1, w2] [.int s0] (n, y, I, L, R) Q := sm_in (And.intro (fun c1 => have k1f := Eq.mp (if_neg c1) k; k1f) (fun c1 => have k1t := Eq.mp (if_pos c1) k; sm_in (sm_in (Exists.intro 7 (And.intro (hG.1 120 (Nat.le_of_ble_eq_true rfl)) (And.intro rfl (sm_calln h1 (Nat.le_of_ble_eq_true rfl) (Nat.le_of_ble_eq_true rfl) k1t)))))))
set_option maxRecDepth 100000 in
theorem w_X7_clause_114 {ex : sm_O} {d n : Nat} {y : sm_Y} {I : Nat → Nat → Int32} {L : Nat → Nat → Int64} {R : Nat → Nat → Option Nat} {Q : sm_Q} {w1 : Option Value} {a2 : Int32} {q0 : Nat} {ns0 nc0 : Nat} {d1 : Nat} (hG : sm_G y R) (ho0 : ok6 y R q0 ns0 nc0) (h1 : R 120 3 = some q0) (h2 : d1 < d) (k : sm_W ex d1 0 0 54 0 [some (.ref 120), some (.int 1), some (.int 20), none, none] [] (n, y, I, L, R) (fun r μ1 => sm_W ex d 0 0 41 129 [some (.ref 120), w1, some (.int a2)] (r.toList ++ [.int a2, .ref (q0 + 5)]) μ1 Q)) : sm_W ex d 0 0 41 114 [some (.ref 120), w1, some (.int a2)] [] (n, y, I, L, R) Q := sm_in (sm_in (And.intro (hG.1 120 (Nat.le_of_ble_eq_true rfl)) (sm_gfr rfl h1 (sm_in (And.intro (ok6_y0 ho0) (sm_gfr rfl (ok6_r4 ho0) (sm_in (sm_in (sm_in (sm_in (sm_in (Exists.intro 7 (And.intro (hG.1 120 (Nat.le_of_ble_eq_true rfl)) (And.intro rfl (sm_calln h2 (Nat.le_of_ble_eq_true rfl) (Nat.le_of_ble_eq_true rfl) k)))))))))))))))
set_option maxRecDepth 100000 in
theorem w_X7_clause_129 {ex : sm_O} {d n : Nat} {y : sm_Y} {I : Nat → Nat → Int32} {L : Nat → Nat → Int64} {R : Nat → Nat → Option Nat} {Q : sm_Q} {w1 : Option Value} {a2 : Int32} {s0 : Int32} {s1 : Int32} {s2 : Nat} {ns2 : Nat} {q0 : Nat} {ns0 nc0 : Nat} {d1 : Nat} (hG : sm_G y R) (ho0 : ok6 y R q0 ns0 nc0) (h1 : y s2 = some (.inr (0, ns2))) (h2 : R 120 3 = some q0) (h3 : d1 < d) (k : vp_in s1 ns2 ∧ vp_in a2 nc0 ∧ (if ((sm_st I s2 s1.toNatClampNeg s0) (q0 + 5) a2.toNatClampNeg) = (-1) then (Q (some (.int 0)) (n, y, sm_st I s2 s1.toNatClampNeg s0, L, R)) else (sm_W ex d1 0 0 50 0 [some (.ref 120)] [] (n, y, sm_st I s2 s1.toNatClampNeg s0, L, R) (fun r μ1 => sm_W ex d 0 0 41 149 [some (.ref 120), w1, some (.int a2)] (r.toList ++ []) μ1 Q)))) : sm_W ex d 0 0 41 129 [some (.ref 120), w1, some (.int a2)] [.int s0, .int s1, .ref s2] (n, y, I, L, R) Q := (have e1 := k.1; have k1 := k.2; sm_in (Exists.intro ns2 (And.intro h1 (And.intro e1 (sm_in (sm_in (And.intro (hG.1 120 (Nat.le_of_ble_eq_true rfl)) (sm_gfr rfl h2 (sm_in (And.intro (ok6_y0 ho0) (sm_gfr rfl (ok6_r4 ho0) (sm_in ((have e2 := k1.1; have k2 := k1.2; sm_in (Exists.intro nc0 (And.intro (ok6_a5 ho0) (And.intro e2 (sm_in (sm_in (And.intro (fun c3 => have k3f := Eq.mp (if_neg c3) k2; sm_in (sm_in (Exists.intro 7 (And.intro (hG.1 120 (Nat.le_of_ble_eq_true rfl)) (And.intro rfl (sm_calln h3 (Nat.le_of_ble_eq_true rfl) (Nat.le_of_ble_eq_true rfl) k3f)))))) (fun c3 => have k3t := Eq.mp (if_pos c3) k2; sm_in (sm_in (And.intro rfl (And.intro (Or.inl rfl) k3t))))))))))))))))))))))))
set_option maxRecDepth 100000 in
theorem w_X7_clause_149 {ex : sm_O} {d n : Nat} {y : sm_Y} {I : Nat → Nat → Int32} {L : Nat → Nat → Int64} {R : Nat → Nat → Option Nat} {Q : sm_Q} {w1 : Option Value} {w2 : Option Value} {d1 : Nat} (hG : sm_G y R) (h1 : d1 < d) (k : sm_W ex d1 0 0 53 0 [some (.ref 120), some (.retAddr 5), none, none, none, none, none] [] (n, y, I, L, R) (fun r μ1 => sm_W ex d 0 0 41 155 [some (.ref 120), w1, w2] (r.toList ++ []) μ1 Q)) : sm_W ex d 0 0 41 149 [some (.ref 120), w1, w2] [] (n, y, I, L, R) Q := sm_in (sm_in (sm_in (Exists.intro 7 (And.intro (hG.1 120 (Nat.le_of_ble_eq_true rfl)) (And.intro rfl (sm_calln h1 (Nat.le_of_ble_eq_true rfl) (Nat.le_of_ble_eq_true rfl) k))))))
set_option maxRecDepth 100000 in
theorem w_X7_clause_155 {ex : sm_O} {d n : Nat} {y : sm_Y} {I : Nat → Nat → Int32} {L : Nat → Nat → Int64} {R : Nat → Nat → Option Nat} {Q : sm_Q} {w1 : Option Value} {w2 : Option Value} {s0 : Int32} {d1 : Nat} (hG : sm_G y R) (h1 : d1 < d) (k : if s0 = 0 then (sm_W ex d1 0 0 50 0 [some (.ref 120)] [] (n, y, I, L, R) (fun r μ1 => sm_W ex d 0 0 41 162 [some (.ref 120), w1, w2] (r.toList ++ []) μ1 Q)) else (Q (some (.int 1)) (n, y, I, L, R))) : sm_W ex d 0 0 41 155 [some (.ref 120), w1, w2] [.int s0] (n, y, I, L, R) Q := sm_in (And.intro (fun c1 => have k1f := Eq.mp (if_neg c1) k; sm_in (sm_in (And.intro rfl (And.intro (Or.inr rfl) k1f)))) (fun c1 => have k1t := Eq.mp (if_pos c1) k; sm_in (sm_in (Exists.intro 7 (And.intro (hG.1 120 (Nat.le_of_ble_eq_true rfl)) (And.intro rfl (sm_calln h1 (Nat.le_of_ble_eq_true rfl) (Nat.le_of_ble_eq_true rfl) k1t)))))))
set_option maxRecDepth 100000 in
theorem w_X7_clause_162 {ex : sm_O} {d n : Nat} {y : sm_Y} {I : Nat → Nat → Int32} {L : Nat → Nat → Int64} {R : Nat → Nat → Option Nat} {Q : sm_Q} {w1 : Option Value} {a2 : Int32} {q0 : Nat} {ns0 nc0 : Nat} {q1 : Nat} {ns1 nc1 : Nat} {d1 : Nat} (hG : sm_G y R) (ho0 : ok6 y R q0 ns0 nc0) (ho1 : ok6 y R q1 ns1 nc1) (h1 : R 120 3 = some q0) (h2 : R 120 3 = some q1) (h3 : d1 < d) (k : vp_in a2 nc0 ∧ sm_W ex d1 0 0 42 0 [some (.ref 120), some (.int 0), none, none, none] [] (n, y, sm_st I (q0 + 4) a2.toNatClampNeg (I q1 6), L, R) (fun r μ1 => sm_W ex d 0 0 41 183 [some (.ref 120), w1, some (.int a2)] (r.toList ++ []) μ1 Q)) : sm_W ex d 0 0 41 162 [some (.ref 120), w1, some (.int a2)] [] (n, y, I, L, R) Q := sm_in (sm_in (And.intro (hG.1 120 (Nat.le_of_ble_eq_true rfl)) (sm_gfr rfl h1 (sm_in (And.intro (ok6_y0 ho0) (sm_gfr rfl (ok6_r3 ho0) (sm_in (sm_in (sm_in (And.intro (hG.1 120 (Nat.le_of_ble_eq_true rfl)) (sm_gfr rfl h2 (sm_in (And.intro (ok6_y0 ho1) ((have e1 := k.1; have k1 := k.2; sm_in (Exists.intro nc0 (And.intro (ok6_a4 ho0) (And.intro e1 (sm_in (sm_in (sm_in (Exists.intro 7 (And.intro (hG.1 120 (Nat.le_of_ble_eq_true rfl)) (And.intro rfl (sm_calln h3 (Nat.le_of_ble_eq_true rfl) (Nat.le_of_ble_eq_true rfl) k1)))))))))))))))))))))))))
set_option maxRecDepth 100000 in
theorem w_X7_clause_183 {ex : sm_O} {d n : Nat} {y : sm_Y} {I : Nat → Nat → Int32} {L : Nat → Nat → Int64} {R : Nat → Nat → Option Nat} {Q : sm_Q} {w1 : Option Value} {w2 : Option Value} {s0 : Int32} {q0 : Nat} {ns0 nc0 : Nat} {d1 : Nat} (hG : sm_G y R) (ho0 : ok6 y R q0 ns0 nc0) (h1 : R 120 3 = some q0) (h2 : d1 < d) (k : if s0 = 0 then (Q (some (.int 0)) (n, y, I, L, R)) else (sm_W ex d1 0 0 37 0 [some (.ref q0), some (.int 0), some (.int 0)] [] (n, y, I, L, R) (fun r μ1 => sm_W ex d 0 0 41 195 [some (.ref 120), w1, w2] (r.toList ++ []) μ1 Q))) : sm_W ex d 0 0 41 183 [some (.ref 120), w1, w2] [.int s0] (n, y, I, L, R) Q := sm_in (And.intro (fun c1 => have k1t := Eq.mp (if_pos c1) k; sm_in (sm_in (And.intro rfl (And.intro (Or.inl rfl) k1t)))) (fun c1 => have k1f := Eq.mp (if_neg c1) k; sm_in (sm_in (And.intro (hG.1 120 (Nat.le_of_ble_eq_true rfl)) (sm_gfr rfl h1 (sm_in (sm_in (sm_in (Exists.intro 6 (And.intro (ok6_y0 ho0) (And.intro rfl (sm_calln h2 (Nat.le_of_ble_eq_true rfl) (Nat.le_of_ble_eq_true rfl) k1f))))))))))))
set_option maxRecDepth 100000 in
theorem w_X7_clause_195 {ex : sm_O} {d n : Nat} {y : sm_Y} {I : Nat → Nat → Int32} {L : Nat → Nat → Int64} {R : Nat → Nat → Option Nat} {Q : sm_Q} {w0 : Option Value} {w1 : Option Value} {w2 : Option Value} {s0 : Int32} (k : if s0 = 0 then (Q (some (.int 0)) (n, y, I, L, R)) else (Q (some (.int 1)) (n, y, I, L, R))) : sm_W ex d 0 0 41 195 [w0, w1, w2] [.int s0] (n, y, I, L, R) Q := sm_in (And.intro (fun c1 => have k1t := Eq.mp (if_pos c1) k; sm_in (sm_in (And.intro rfl (And.intro (Or.inl rfl) k1t)))) (fun c1 => have k1f := Eq.mp (if_neg c1) k; sm_in (sm_in (sm_in (And.intro rfl (And.intro (Or.inr rfl) k1f))))))
set_option maxRecDepth 100000 in
theorem w_X7_faultOf_0 {ex : sm_O} {d n : Nat} {y : sm_Y} {I : Nat → Nat → Int32} {L : Nat → Nat → Int64} {R : Nat → Nat → Option Nat} {Q : sm_Q} {w4 : Option Value} {a1 : Int32} {a2 : Nat} {a3 : Int32} (hG : sm_G y R) (h1 : 1 ≤ d) (k : (a3 = 0 ∨ a3 = 1) ∧ sm_W ex d 0 0 40 20 [some (.ref 120), some (.int a1), some (.ref a2), some (.int a3), w4] [.ref a2, .ref 120] (n, y, sm_st (sm_st I 120 1 (if (nI 400) < a1 then (nI 400) else a1)) 120 2 a3, L, R) Q) : sm_W ex d 0 0 40 0 [some (.ref 120), some (.int a1), some (.ref a2), some (.int a3), w4] [] (n, y, I, L, R) Q := sm_in (sm_in (sm_in (sm_in (And.intro (hG.1 120 (Nat.le_of_ble_eq_true rfl)) (sm_gfr rfl (hG.2 120 0 rfl) (sm_in (Exists.intro 400 (Exists.intro 0 (And.intro (hG.1 119 (Nat.le_of_ble_eq_true rfl)) (sm_in (And.intro h1 (And.intro (Nat.le_of_ble_eq_true rfl) (sm_in (And.intro (hG.1 120 (Nat.le_of_ble_eq_true rfl)) (sm_in (sm_in ((have e1 := k.1; have k1 := k.2; sm_in (And.intro (hG.1 120 (Nat.le_of_ble_eq_true rfl)) (And.intro e1 (sm_in (sm_in (k1)))))))))))))))))))))))
set_option maxRecDepth 100000 in
theorem w_X7_faultOf_23 {ex : sm_O} {d n : Nat} {y : sm_Y} {I : Nat → Nat → Int32} {L : Nat → Nat → Int64} {R : Nat → Nat → Option Nat} {Q : sm_Q} {w1 : Option Value} {w2 : Option Value} {w3 : Option Value} {w4 : Option Value} {q0 : Nat} {ns0 nc0 : Nat} {q1 : Nat} {ns1 nc1 : Nat} {d1 : Nat} (hG : sm_G y R) (ho0 : ok6 y R q0 ns0 nc0) (ho1 : ok6 y R q1 ns1 nc1) (h1 : R 120 3 = some q0) (h2 : R 120 3 = some q1) (h3 : d1 < d) (k : sm_W ex d1 0 0 50 0 [some (.ref 120)] [] (n, y, sm_st (sm_st (sm_st (sm_st I q0 5 0) q1 6 0) 120 5 0) 120 7 0, L, R) (fun r μ1 => sm_W ex d 0 0 40 53 [some (.ref 120), w1, w2, w3, w4] (r.toList ++ []) μ1 Q)) : sm_W ex d 0 0 40 23 [some (.ref 120), w1, w2, w3, w4] [] (n, y, I, L, R) Q := sm_in (sm_in (And.intro (hG.1 120 (Nat.le_of_ble_eq_true rfl)) (sm_gfr rfl h1 (sm_in (sm_in (And.intro (ok6_y0 ho0) (sm_in (sm_in (And.intro (hG.1 120 (Nat.le_of_ble_eq_true rfl)) (sm_gfr rfl h2 (sm_in (sm_in (And.intro (ok6_y0 ho1) (sm_in (sm_in (sm_in (And.intro (hG.1 120 (Nat.le_of_ble_eq_true rfl)) (sm_in (sm_in (sm_in (And.intro (hG.1 120 (Nat.le_of_ble_eq_true rfl)) (sm_in (sm_in (Exists.intro 7 (And.intro (hG.1 120 (Nat.le_of_ble_eq_true rfl)) (And.intro rfl (sm_calln h3 (Nat.le_of_ble_eq_true rfl) (Nat.le_of_ble_eq_true rfl) k)))))))))))))))))))))))))))
set_option maxRecDepth 100000 in
theorem w_X7_faultOf_53 {ex : sm_O} {d n : Nat} {y : sm_Y} {I : Nat → Nat → Int32} {L : Nat → Nat → Int64} {R : Nat → Nat → Option Nat} {Q : sm_Q} {w0 : Option Value} {w1 : Option Value} {w2 : Option Value} {w4 : Option Value} {a3 : Int32} (k : sm_W ex d 0 0 40 56 [w0, w1, w2, some (.int a3), some (.int 0)] [] (n, y, I, L, R) Q) : sm_W ex d 0 0 40 53 [w0, w1, w2, some (.int a3), w4] [] (n, y, I, L, R) Q := sm_in (sm_in (And.intro (Nat.le_of_ble_eq_true rfl) (k)))
set_option maxRecDepth 100000 in
theorem w_X7_faultOf_56 {ex : sm_O} {d n : Nat} {y : sm_Y} {I : Nat → Nat → Int32} {L : Nat → Nat → Int64} {R : Nat → Nat → Option Nat} {Q : sm_Q} {w1 : Option Value} {w2 : Option Value} {w3 : Option Value} {a4 : Int32} {d1 : Nat} (hG : sm_G y R) (h1 : d1 < d) (k : if 12 ≤ a4 then (Q (some (.int (I 120 4))) (n, y, I, L, R)) else (sm_W ex d1 0 0 41 0 [some (.ref 120), none, none] [] (n, y, I, L, R) (fun r μ1 => sm_W ex d 0 0 40 67 [some (.ref 120), w1, w2, w3, some (.int a4)] (r.toList ++ []) μ1 Q))) : sm_W ex d 0 0 40 56 [some (.ref 120), w1, w2, w3, some (.int a4)] [] (n, y, I, L, R) Q := sm_in (sm_in (sm_in (And.intro (fun c1 => have k1t := Eq.mp (if_pos c1) k; sm_in (sm_in (And.intro (hG.1 120 (Nat.le_of_ble_eq_true rfl)) (sm_in (And.intro rfl k1t))))) (fun c1 => have k1f := Eq.mp (if_neg c1) k; sm_in (sm_in (Exists.intro 7 (And.intro (hG.1 120 (Nat.le_of_ble_eq_true rfl)) (And.intro rfl (sm_calln h1 (Nat.le_of_ble_eq_true rfl) (Nat.le_of_ble_eq_true rfl) k1f)))))))))
set_option maxRecDepth 100000 in
theorem w_X7_faultOf_67 {ex : sm_O} {d n : Nat} {y : sm_Y} {I : Nat → Nat → Int32} {L : Nat → Nat → Int64} {R : Nat → Nat → Option Nat} {Q : sm_Q} {w1 : Option Value} {w2 : Option Value} {w3 : Option Value} {w4 : Option Value} {s0 : Int32} {d1 : Nat} (hG : sm_G y R) (h1 : d1 < d) (k : if s0 = 0 then (Q (some (.int (I 120 4))) (n, y, I, L, R)) else (if (I 120 6) = 0 then (Q (some (.int (-1))) (n, y, I, L, R)) else (sm_W ex d1 0 0 52 0 [some (.ref 120), some (.int 59)] [] (n, y, I, L, R) (fun r μ1 => sm_W ex d 0 0 40 85 [some (.ref 120), w1, w2, w3, w4] (r.toList ++ []) μ1 Q)))) : sm_W ex d 0 0 40 67 [some (.ref 120), w1, w2, w3, w4] [.int s0] (n, y, I, L, R) Q := sm_in (And.intro (fun c1 => have k1t := Eq.mp (if_pos c1) k; sm_in (sm_in (And.intro (hG.1 120 (Nat.le_of_ble_eq_true rfl)) (sm_in (And.intro rfl k1t))))) (fun c1 => have k1f := Eq.mp (if_neg c1) k; sm_in (sm_in (And.intro (hG.1 120 (Nat.le_of_ble_eq_true rfl)) (sm_in (And.intro (fun c2 => have k2f := Eq.mp (if_neg c2) k1f; sm_in (sm_in (sm_in (Exists.intro 7 (And.intro (hG.1 120 (Nat.le_of_ble_eq_true rfl)) (And.intro rfl (sm_calln h1 (Nat.le_of_ble_eq_true rfl) (Nat.le_of_ble_eq_true rfl) k2f))))))) (fun c2 => have k2t := Eq.mp (if_pos c2) k1f; sm_in (sm_in (And.intro rfl k2t)))))))))
set_option maxRecDepth 100000 in
theorem w_X7_faultOf_85 {ex : sm_O} {d n : Nat} {y : sm_Y} {I : Nat → Nat → Int32} {L : Nat → Nat → Int64} {R : Nat → Nat → Option Nat} {Q : sm_Q} {w1 : Option Value} {w2 : Option Value} {w3 : Option Value} {w4 : Option Value} {s0 : Int32} {d1 : Nat} (hG : sm_G y R) (h1 : d1 < d) (k : if s0 = 0 then (Q (some (.int (I 120 4))) (n, y, I, L, R)) else (sm_W ex d1 0 0 50 0 [some (.ref 120)] [] (n, y, I, L, R) (fun r μ1 => sm_W ex d 0 0 40 97 [some (.ref 120), w1, w2, w3, w4] (r.toList ++ []) μ1 Q))) : sm_W ex d 0 0 40 85 [some (.ref 120), w1, w2, w3, w4] [.int s0] (n, y, I, L, R) Q := sm_in (And.intro (fun c1 => have k1f := Eq.mp (if_neg c1) k; sm_in (sm_in (Exists.intro 7 (And.intro (hG.1 120 (Nat.le_of_ble_eq_true rfl)) (And.intro rfl (sm_calln h1 (Nat.le_of_ble_eq_true rfl) (Nat.le_of_ble_eq_true rfl) k1f)))))) (fun c1 => have k1t := Eq.mp (if_pos c1) k; sm_in (sm_in (And.intro (hG.1 120 (Nat.le_of_ble_eq_true rfl)) (sm_in (And.intro rfl k1t))))))
set_option maxRecDepth 100000 in
theorem w_X7_faultOf_97 {ex : sm_O} {d n : Nat} {y : sm_Y} {I : Nat → Nat → Int32} {L : Nat → Nat → Int64} {R : Nat → Nat → Option Nat} {Q : sm_Q} {w0 : Option Value} {w1 : Option Value} {w2 : Option Value} {a3 : Int32} {a4 : Int32} (k : sm_W ex d 0 0 40 56 [w0, w1, w2, some (.int a3), some (.int (a4 + 1))] [] (n, y, I, L, R) Q) : sm_W ex d 0 0 40 97 [w0, w1, w2, some (.int a3), some (.int a4)] [] (n, y, I, L, R) Q := sm_in (And.intro (Nat.le_of_ble_eq_true rfl) (sm_in (k)))
-- WHERE READING GETS
def rB (t : Tp) (rd : Nat → Nat → Rr) : Prop := ∀ p pt, p ≤ t.1 → (∀ q, rd p pt = .inl q → p ≤ q ∧ q ≤ t.1) ∧ ∀ q pt' D, rd p pt = .inr (q, pt', D) → p < q ∧ q ≤ t.1
theorem rB_leaf (t : Tp) (o : Bool) : rB t (rLeaf t o) := by
  intro p pt hp
  have h1 := nx_b hp
  have h1e := tkE_b hp
  unfold rLeaf
  split
  · exact ⟨fun q h => by cases h; omega, fun q pt' D h => by cases h⟩
  · split
    · rename_i h2
      have := nx_lt (t := t) (p := p) (by omega)
      split
      · exact ⟨fun q h => (by cases h), fun q pt' D h => (by cases h; omega)⟩
      · exact ⟨fun q h => (by cases h; omega), fun q pt' D h => (by cases h)⟩
    · split
      · exact ⟨fun q h => (by cases h; omega), fun q pt' D h => (by cases h)⟩
      · rename_i i hi
        have hlen2 : 2 ≤ (tkWd t p).length := wIx_ne hi (by cases o <;> decide)
        obtain ⟨ek, eE, eN, ept⟩ := tkW_k (t := t) (p := p) rfl (by intro z; rw [z] at hlen2; exact absurd hlen2 (by decide))
        have h2 := nx_b h1.2
        have h2e := tkE_b h1.2
        split
        · split
          · exact ⟨fun q h => (by cases h), fun q pt' D h => (by cases h; omega)⟩
          · exact ⟨fun q h => (by cases h; omega), fun q pt' D h => (by cases h)⟩
        · exact ⟨fun q h => (by cases h), fun q pt' D h => (by cases h; omega)⟩
theorem rB_in {t : Tp} {c : Nat} {f : Nat → Nat → Rr} (hf : rB t f) {p pt : Nat} (hp : p ≤ t.1) : (∀ q, rIn t c f p pt = .inl q → p ≤ q ∧ q ≤ t.1) ∧ ∀ q pt' D, rIn t c f p pt = .inr (q, pt', D) → p < q ∧ q ≤ t.1 := by
  have h1 := nx_b hp
  have h1e := tkE_b hp
  have hh := hf (nx t p) pt h1.2
  unfold rIn
  cases e : f (nx t p) pt with
  | inl q =>
    have := hh.1 q e
    exact ⟨fun q h => (by cases h; omega), fun q pt' D h => (by cases h)⟩
  | inr x =>
    obtain ⟨q, pt', D⟩ := x
    have := hh.2 q pt' D e
    have h2 := nx_b this.2
    have h2e := tkE_b this.2
    dsimp only
    split
    · exact ⟨fun q h => (by cases h), fun q pt' D h => (by cases h; omega)⟩
    · exact ⟨fun q h => (by cases h; omega), fun q pt' D h => (by cases h)⟩
theorem rB_part {t : Tp} {o : Bool} {inn : Option (Nat → Nat → Rr)} (hi : ∀ f, inn = some f → rB t f) : rB t (rPart t o inn) := by
  intro p pt hp
  unfold rPart
  split
  · cases inn with
    | none => exact ⟨fun q h => (by cases h; omega), fun q pt' D h => (by cases h)⟩
    | some f => exact rB_in (hi f rfl) hp
  · exact rB_leaf t o p pt hp
theorem rB_loop {t : Tp} {op : Nat → Option Nat} {sub : Nat → Nat → Rr} (hs : rB t sub) : ∀ (f p pt : Nat) (D : DD), p ≤ t.1 → (∀ q, rLoop t op sub f p pt D = .inl q → p ≤ q ∧ q ≤ t.1) ∧ ∀ q pt' D', rLoop t op sub f p pt D = .inr (q, pt', D') → p ≤ q ∧ q ≤ t.1
  | 0, p, pt, D, hp => ⟨fun q h => (by cases h), fun q pt' D h => (by cases h; omega)⟩
  | f + 1, p, pt, D, hp => by
    unfold rLoop
    cases eo : op p with
    | none => exact ⟨fun q h => (by cases h), fun q pt' D h => (by cases h; omega)⟩
    | some st =>
      dsimp only
      have h1 := nx_b hp
      have h1e := tkE_b hp
      have hh := hs (nx t p) pt h1.2
      cases e : sub (nx t p) pt with
      | inl q =>
        have := hh.1 q e
        exact ⟨fun q h => (by cases h; omega), fun q pt' D h => (by cases h)⟩
      | inr x =>
        obtain ⟨q, pt', D'⟩ := x
        have := hh.2 q pt' D' e
        dsimp only
        have ih := rB_loop (op := op) hs f q pt' (dCo st D D') this.2
        exact ⟨fun q h => (by have := ih.1 q h; omega), fun q pt' D h => (by have := ih.2 q pt' D h; omega)⟩
theorem rB_seq {t : Tp} {op : Nat → Option Nat} {sub : Nat → Nat → Rr} (hs : rB t sub) : rB t (rSeq t op sub) := by
  intro p pt hp
  have hh := hs p pt hp
  unfold rSeq
  cases e : sub p pt with
  | inl q =>
    have := hh.1 q e
    exact ⟨fun q h => (by cases h; omega), fun q pt' D h => (by cases h)⟩
  | inr x =>
    obtain ⟨q, pt', D'⟩ := x
    have := hh.2 q pt' D' e
    dsimp only
    have ih := rB_loop (op := op) hs 400 q pt' D' this.2
    exact ⟨fun q h => (by have := ih.1 q h; omega), fun q pt' D h => (by have := ih.2 q pt' D h; omega)⟩
theorem rNots_le (t : Tp) : ∀ (f p : Nat) (b : Bool), p ≤ t.1 → (rNots t f p b).1 ≤ t.1
  | 0, p, b, h => h
  | f + 1, p, b, h => by
    unfold rNots
    split
    · exact rNots_le t f (nx t p) (!b) (nx_b h).2
    · exact h
theorem rB_plain {t : Tp} {inn : Option (Nat → Nat → Rr)} {sum : Nat → Nat → Rr} (hi : ∀ f, inn = some f → rB t f) (hs : rB t sum) : rB t (rPlain t inn sum) := by
  intro p pt hp
  have h1 := (rNots_b t 400 p false).1
  have h2 := rNots_le t 400 p false hp
  have bare : ∀ p, p ≤ t.1 → (∀ q, rBare t inn sum p pt = .inl q → p ≤ q ∧ q ≤ t.1) ∧ ∀ q pt' D, rBare t inn sum p pt = .inr (q, pt', D) → p < q ∧ q ≤ t.1 := by
    intro p hp
    unfold rBare
    split
    · cases inn with
      | none => exact ⟨fun q h => (by cases h; omega), fun q pt' D h => (by cases h)⟩
      | some f => exact rB_in (hi f rfl) hp
    · have hh := hs p pt hp
      unfold rCmp
      cases e : sum p pt with
      | inl q =>
        have := hh.1 q e
        exact ⟨fun q h => (by cases h; omega), fun q pt' D h => (by cases h)⟩
      | inr x =>
        obtain ⟨q, pt', D'⟩ := x
        have g := hh.2 q pt' D' e
        dsimp only
        cases eo : opCmp t q with
        | none => exact ⟨fun q h => (by cases h; omega), fun q pt' D h => (by cases h)⟩
        | some st =>
          dsimp only
          have g1 := nx_b g.2
          have g1e := tkE_b g.2
          have hh2 := hs (nx t q) pt' g1.2
          cases e2 : sum (nx t q) pt' with
          | inl q2 =>
            have := hh2.1 q2 e2
            exact ⟨fun q h => (by cases h; omega), fun q pt' D h => (by cases h)⟩
          | inr x2 =>
            obtain ⟨q2, pt2, D2⟩ := x2
            have := hh2.2 q2 pt2 D2 e2
            exact ⟨fun q h => (by cases h), fun q pt' D h => (by cases h; omega)⟩
  have hb := bare _ h2
  unfold rPlain
  cases e : rBare t inn sum (rNots t 400 p false).1 pt with
  | inl q =>
    have := hb.1 q e
    exact ⟨fun q h => (by cases h; omega), fun q pt' D h => (by cases h)⟩
  | inr x =>
    obtain ⟨q, pt', D'⟩ := x
    have := hb.2 q pt' D' e
    exact ⟨fun q h => (by cases h), fun q pt' D h => (by cases h; omega)⟩
theorem rB_sum (t : Tp) (o : Bool) : ∀ r, rB t (rSum t o r)
  | 0 => rB_seq (rB_seq (rB_part (fun f h => by cases h)))
  | r + 1 => rB_seq (rB_seq (rB_part (fun f h => by cases h; exact rB_sum t o r)))
theorem rB_test (t : Tp) (o : Bool) : ∀ r, rB t (rTest t o r)
  | 0 => rB_seq (rB_seq (rB_plain (fun f h => by cases h) (rB_sum t o 0)))
  | r + 1 => rB_seq (rB_seq (rB_plain (fun f h => by cases h; exact rB_test t o r) (rB_sum t o (r + 1))))
theorem rB_if {t : Tp} {o : Bool} {kd : Nat} {D : DD} {tm p pt : Nat} (hp : p ≤ t.1) : (∀ q, rIf t o kd D tm p pt = .inl q → p ≤ q ∧ q ≤ t.1) ∧ ∀ q pt' x, rIf t o kd D tm p pt = .inr (q, pt', x) → p ≤ q ∧ q ≤ t.1 := by
  have h1 := nx_b hp
  have h1e := tkE_b hp
  have hh := rB_test t o 8 (nx t p) pt h1.2
  unfold rIf
  split
  · cases e : rTest t o 8 (nx t p) pt with
    | inl q =>
      have := hh.1 q e
      exact ⟨fun q h => (by cases h; omega), fun q pt' D h => (by cases h)⟩
    | inr x =>
      obtain ⟨q, pt', D'⟩ := x
      have := hh.2 q pt' D' e
      exact ⟨fun q h => (by cases h), fun q pt' D h => (by cases h; omega)⟩
  · exact ⟨fun q h => (by cases h), fun q pt' D h => (by cases h; omega)⟩
theorem rB_times {t : Tp} {o : Bool} {kd : Nat} {D : DD} {p pt : Nat} (hp : p ≤ t.1) : (∀ q, rTimes t o kd D p pt = .inl q → p ≤ q ∧ q ≤ t.1) ∧ ∀ q pt' x, rTimes t o kd D p pt = .inr (q, pt', x) → p ≤ q ∧ q ≤ t.1 := by
  have h1 := nx_b hp
  have h1e := tkE_b hp
  have h2 := nx_b h1.2
  have h2e := tkE_b h1.2
  unfold rTimes
  split
  · split
    · have hh := rB_if (o := o) (kd := kd) (D := D) (tm := tkN t (nx t p)) (pt := pt) h2.2
      exact ⟨fun q h => (by have := hh.1 q h; omega), fun q pt' D h => (by have := hh.2 q pt' D h; omega)⟩
    · exact ⟨fun q h => (by cases h; omega), fun q pt' D h => (by cases h)⟩
  · exact rB_if hp
theorem rB_clause {t : Tp} {o : Bool} {p pt : Nat} (hp : p ≤ t.1) : (∀ q, rClause t o p pt = .inl q → p ≤ q ∧ q ≤ t.1) ∧ ∀ q pt' x, rClause t o p pt = .inr (q, pt', x) → p ≤ q ∧ q ≤ t.1 := by
  have h1 := nx_b hp
  have h1e := tkE_b hp
  unfold rClause
  split
  · exact ⟨fun q h => (by cases h; omega), fun q pt' D h => (by cases h)⟩
  · rename_i kd hk
    split
    · have hh := rB_times (o := o) (kd := kd) (D := dNum 0) (pt := pt) h1.2
      exact ⟨fun q h => (by have := hh.1 q h; omega), fun q pt' D h => (by have := hh.2 q pt' D h; omega)⟩
    · have hh := rB_sum t o 8 (nx t p) pt h1.2
      cases e : rSum t o 8 (nx t p) pt with
      | inl q =>
        have := hh.1 q e
        exact ⟨fun q h => (by cases h; omega), fun q pt' D h => (by cases h)⟩
      | inr x =>
        obtain ⟨q, pt', D'⟩ := x
        have g := hh.2 q pt' D' e
        have hh := rB_times (o := o) (kd := kd) (D := D') (pt := pt') g.2
        exact ⟨fun q h => (by have := hh.1 q h; omega), fun q pt' D h => (by have := hh.2 q pt' D h; omega)⟩
theorem rC_le {t : Tp} {o : Bool} {p pt q : Nat} (h : rClause t o p pt = .inl q) (hp : p ≤ 400) (ht : t.1 ≤ 400) : q ≤ 400 := by
  by_cases e : p ≤ t.1
  · have := (rB_clause e).1 q h
    omega
  · have hk : tkK t p = 0 := tkK_0.mpr (by omega)
    have hw : tkWd t p = [] := by unfold tkWd; rw [if_neg (by omega)]
    unfold rClause at h
    rw [hw, wIx_nil _ (by cases o <;> decide)] at h
    cases h
    exact hp
theorem sm_G_120 {y : sm_Y} {R : Nat → Nat → Option Nat} (hG : sm_G y R) (P : Nat) : sm_G y (sm_st R 120 3 (some P)) := ⟨hG.1, fun o j h => by
  by_cases e : o = 120 ∧ j = 3
  · rw [e.1, e.2] at h
    exact absurd h (by decide)
  · rw [sm_st_or _ _ (by omega)]
    exact hG.2 o j h⟩

-- CLAUSES OF THE CLASS
def cSgX (N : Nat) (cd : Nat → Nat × Nat) (len : Nat) (at_ : Int32) (D : DD) : Prop := sp_inB D ∧ ∃ a b hh : Nat, at_ = nI a ∧ b < len ∧ hh ≤ 40 ∧ (cd b).1 = 0 ∧ cSX N cd a b hh D
theorem cSgX.g {N : Nat} {cd : Nat → Nat × Nat} {len : Nat} {at_ : Int32} {D : DD} (h : cSgX N cd len at_ D) : cSg N cd len at_ D := by
  obtain ⟨h1, a, b, hh, h2, h3, h4, h5, h6⟩ := h
  exact ⟨h1, a, b, hh, h2, h3, h4, h5, h6 cd (fun _ _ _ => rfl)⟩
theorem cSgX.mono {N : Nat} {cd cd' : Nat → Nat × Nat} {len len' : Nat} {at_ at2 : Int32} {D : DD} (h : cSgX N cd len at_ D) (ha : at2 = at_) (hl : len ≤ len') (hc : ∀ k, k < len → cd' k = cd k) : cSgX N cd' len' at2 D := by
  obtain ⟨h1, a, b, hh, h2, h3, h4, h5, h6⟩ := h
  exact ⟨h1, a, b, hh, ha.trans h2, by omega, h4, by rw [hc b h3]; exact h5, h6.mono (fun k q1 q2 => hc k (by omega))⟩
def cC (N : Nat) (I : Nat → Nat → Int32) (P : Nat) (cd : Nat → Nat × Nat) (len c : Nat) (x : OC) : Prop := I (P + 2) c = nI x.1.1 ∧ x.1.1 ≤ 3 ∧ (x.1.1 ≠ 3 → cSgX N cd len (I (P + 3) c) x.1.2.1) ∧ (x.1.1 = 3 → I (P + 3) c = -1) ∧ (match x.1.2.2 with
  | none => I (P + 4) c = -1
  | some T => sp_01 T ∧ cSgX N cd len (I (P + 4) c) T) ∧ I (P + 5) c = nI x.2 ∧ x.2 ≤ 20
theorem cC.mono {N : Nat} {I I' : Nat → Nat → Int32} {P : Nat} {cd cd' : Nat → Nat × Nat} {len len' c : Nat} {x : OC} (h : cC N I P cd len c x) (hI : ∀ j, 2 ≤ j → j ≤ 5 → I' (P + j) c = I (P + j) c) (hl : len ≤ len') (hc : ∀ k, k < len → cd' k = cd k) : cC N I' P cd' len' c x := by
  obtain ⟨h1, h2, h3, h4, h5, h6, h7⟩ := h
  refine ⟨(hI 2 (by omega) (by omega)).trans h1, h2, fun q => (h3 q).mono (hI 3 (by omega) (by omega)) hl hc, fun q => (hI 3 (by omega) (by omega)).trans (h4 q), ?_, (hI 5 (by omega) (by omega)).trans h6, h7⟩
  cases hx : x.1.2.2 with
  | none =>
    rw [hx] at h5
    exact (hI 4 (by omega) (by omega)).trans h5
  | some T =>
    rw [hx] at h5
    exact ⟨h5.1, h5.2.mono (hI 4 (by omega) (by omega)) hl hc⟩
def cCs (o : Bool) (I : Nat → Nat → Int32) (P : Nat) (cd : Nat → Nat × Nat) (len : Nat) (l : List OC) : Prop := I P 5 = nI l.length ∧ l.length ≤ 12 ∧ ∀ (c : Nat) (x : OC), l[c]? = some x → cC (nN o) I P cd len c x
theorem cCs.mono {o : Bool} {I I' : Nat → Nat → Int32} {P : Nat} {cd cd' : Nat → Nat × Nat} {len len' : Nat} {l : List OC} (h : cCs o I P cd len l) (h5 : I' P 5 = I P 5) (hI : ∀ j c, 2 ≤ j → j ≤ 5 → I' (P + j) c = I (P + j) c) (hl : len ≤ len') (hc : ∀ k, k < len → cd' k = cd k) : cCs o I' P cd' len' l := ⟨h5.trans h.1, h.2.1, fun c x hx => (h.2.2 c x hx).mono (fun j q1 q2 => hI j c q1 q2) hl hc⟩
/-- the last one is set anew -/
theorem cCs.last {o : Bool} {I I' : Nat → Nat → Int32} {P : Nat} {cd cd' : Nat → Nat × Nat} {len len' : Nat} {l : List OC} {x x' : OC} (h : cCs o I P cd len (l ++ [x])) (h5 : I' P 5 = I P 5) (hI : ∀ j c, 2 ≤ j → j ≤ 5 → c < l.length → I' (P + j) c = I (P + j) c) (hl : len ≤ len') (hc : ∀ k, k < len → cd' k = cd k) (hx : cC (nN o) I' P cd' len' l.length x') : cCs o I' P cd' len' (l ++ [x']) := by
  obtain ⟨h1, h2, h3⟩ := h
  refine ⟨h5.trans (h1.trans (by simp)), by simpa using h2, fun c z hz => ?_⟩
  by_cases e : c < l.length
  · rw [List.getElem?_append_left e] at hz
    exact (h3 c z (by rw [List.getElem?_append_left e]; exact hz)).mono (fun j q1 q2 => hI j c q1 q2 e) hl hc
  · have hc' : c < (l ++ [x']).length := by
      have := List.getElem?_eq_some_iff.mp hz
      exact this.1
    have : c = l.length := by simp at hc'; omega
    subst this
    rw [List.getElem?_append_right (Nat.le_refl _), Nat.sub_self] at hz
    cases hz
    exact hx
theorem cCs.snoc {o : Bool} {I I' : Nat → Nat → Int32} {P : Nat} {cd cd' : Nat → Nat × Nat} {len len' : Nat} {l : List OC} {x : OC} (h : cCs o I P cd len l) (hl12 : l.length < 12) (h5 : I' P 5 = nI (l.length + 1)) (hI : ∀ j c, 2 ≤ j → j ≤ 5 → c < l.length → I' (P + j) c = I (P + j) c) (hl : len ≤ len') (hc : ∀ k, k < len → cd' k = cd k) (hx : cC (nN o) I' P cd' len' l.length x) : cCs o I' P cd' len' (l ++ [x]) := by
  obtain ⟨h1, h2, h3⟩ := h
  refine ⟨h5.trans (by simp), by simp; omega, fun c z hz => ?_⟩
  by_cases e : c < l.length
  · rw [List.getElem?_append_left e] at hz
    exact (h3 c z hz).mono (fun j q1 q2 => hI j c q1 q2 e) hl hc
  · have hc' : c < (l ++ [x]).length := by
      have := List.getElem?_eq_some_iff.mp hz
      exact this.1
    have : c = l.length := by simp at hc'; omega
    subst this
    rw [List.getElem?_append_right (Nat.le_refl _), Nat.sub_self] at hz
    cases hz
    exact hx
/-- what reading touches -/
def rG (P : Nat) (I I' : Nat → Nat → Int32) : Prop := ∀ a j, ¬ (a = 120 ∧ 4 ≤ j ∧ j ≤ 7) → ¬ (P ≤ a ∧ a ≤ P + 5) → I' a j = I a j
theorem rG.rfl' (P : Nat) (I : Nat → Nat → Int32) : rG P I I := fun _ _ _ _ => rfl
theorem rG.trans {P : Nat} {I I' I2 : Nat → Nat → Int32} (h1 : rG P I I') (h2 : rG P I' I2) : rG P I I2 := fun a j q1 q2 => (h2 a j q1 q2).trans (h1 a j q1 q2)
theorem rF.G {P : Nat} {I I' : Nat → Nat → Int32} (h : rF P I I') : rG P I I' := fun a j q1 q2 => h a j q1 (by omega) (by omega)
theorem rG.st (P : Nat) (I : Nat → Nat → Int32) {a : Nat} (ha : P ≤ a ∧ a ≤ P + 5) (j : Nat) (v : Int32) : rG P I (sm_st I a j v) := fun b i _ q => sm_st_o _ _ (fun e => q (e ▸ ha))
theorem rS_kept {t : Tp} {o : Bool} {P p pt : Nat} {I I' : Nat → Nat → Int32} {R : Nat → Nat → Option Nat} (h : ∀ a j, a = 119 ∨ a = 120 → I' a j = I a j) (hs : rS t o P I R p pt) : rS t o P I' R p pt := by
  obtain ⟨s1, s2, s3, s4, s5, s6, s7, s8, s9, s10⟩ := hs
  have e : ∀ j, I' 120 j = I 120 j := fun j => h 120 j (Or.inr rfl)
  exact ⟨⟨(e 1).trans s1.1, s1.2.1, fun j hj => ⟨(h 119 j (Or.inl rfl)).trans (s1.2.2 j hj).1, (s1.2.2 j hj).2⟩⟩, (e 2).trans s2, s3, (e 4).trans s4, (e 5).trans s5, (e 6).trans s6, (e 7).trans s7, s8, s9, s10⟩
theorem rF.Cs {t : Tp} {o : Bool} {P : Nat} {I I' : Nat → Nat → Int32} {cd cd' : Nat → Nat × Nat} {len len' : Nat} {l : List OC} (h : rF P I I') (hP : P + 5 < 119) (hs : cCs o I P cd len l) (hl : len ≤ len') (hc : ∀ k, k < len → cd' k = cd k) : cCs o I' P cd' len' l := hs.mono (h P 5 (by omega) (by omega) (by omega)) (fun j c q1 q2 => h (P + j) c (by omega) (by omega) (by omega)) hl hc
set_option maxHeartbeats 1000000 in
theorem c_if {ex : sm_O} {n : Nat} {y : sm_Y} {I : Nat → Nat → Int32} {L : Nat → Nat → Int64} {R : Nat → Nat → Option Nat} {Q : sm_Q} {d p pt P len kd tm : Nat} {o : Bool} {t : Tp} {cd : Nat → Nat × Nat} {l : List OC} {D : DD} {w1 : Option Value} (htx : txOK ex) (hd : 37 ≤ d) (hG : sm_G y R) (hP : ok6 y R P 200 12) (hs : rS t o P I R p pt) (hc : cPr I P cd len) (hb : 3 * len ≤ 4 * pt + p) (hcs : cCs o I P cd len (l ++ [((kd, D, none), tm)]))
    (k0 : ∀ (I' : Nat → Nat → Int32) (q : Nat), rIf t o kd D tm p pt = .inl q → rG P I I' → I' 120 4 = nI q → Q (some (.int 0)) (n, y, I', L, R))
    (k1 : ∀ (I' : Nat → Nat → Int32) (q pt' len' : Nat) (x : OC) (cd' : Nat → Nat × Nat), rIf t o kd D tm p pt = .inr (q, pt', x) → rG P I I' → rS t o P I' R q pt' → cPr I' P cd' len' → 3 * len' ≤ 4 * pt' + q → cCs o I' P cd' len' (l ++ [x]) → Q (some (.int 1)) (n, y, I', L, R)) :
    sm_W ex d 0 0 41 149 [some (.ref 120), w1, some (.int (nI l.length))] [] (n, y, I, L, R) Q := by
  have hpP := hs.2.2.2.2.2.2.2.2.2
  have h12 : l.length < 12 := by have := hcs.2.1; simp at this; omega
  refine w_X7_clause_149 (d1 := 36) hG (by omega) ?_
  refine c_isW (by omega) hG hs (by decide) htx.2.2.2.1 wd_ok.2.2.2.1 (fun e => ?_) (fun e => ?_)
  · refine w_X7_clause_155 (d1 := 36) hG (by omega) ?_
    rw [if_neg (by decide)]
    refine k1 I p pt len _ cd ?_ (rG.rfl' P I) hs hc hb hcs
    unfold rIf
    rw [if_neg e]
  · have hr : rIf t o kd D tm p pt = match rTest t o 8 (nx t p) pt with
      | .inl q => .inl q
      | .inr (q, pt', T) => .inr (q, pt', ((kd, D, some T), tm)) := by
      unfold rIf
      rw [if_pos e]
      rfl
    have hpn : p + 2 ≤ nx t p := (tkW_k e (by decide)).2.2.1
    refine w_X7_clause_155 (d1 := 36) hG (by omega) ?_
    rw [if_pos rfl]
    refine c_adv (by omega) hG hs ?_
    intro I1 f1 s1
    have c1 := f1.P hpP hc
    refine w_X7_clause_162 (d1 := 36) (q0 := P) (q1 := P) hG hP hP s1.2.2.1 s1.2.2.1 (by omega) ?_
    rw [c1.1, nI_clamp (by omega)]
    refine ⟨vp_in_nI (by omega) (by decide), ?_⟩
    have s2 : rS t o P (sm_st I1 (P + 4) l.length (nI len)) R (nx t p) pt := rS_kept (fun a j q => sm_st_o _ _ (by omega)) s1
    have c2 : cPr (sm_st I1 (P + 4) l.length (nI len)) P cd len := ⟨(sm_st_o _ _ (by omega)).trans c1.1, c1.2.1, fun k hk => by rw [sm_st_o _ _ (by omega)]; exact c1.2.2 k hk⟩
    have g2 : rG P I (sm_st I1 (P + 4) l.length (nI len)) := (f1.F P).G.trans (rG.st P I1 (by omega) _ _)
    refine cOk_testAll (o := o) (t := t) (P := P) htx 8 36 (Nat.le_refl 8) (by omega) n y _ L R _ (nx t p) pt len cd hG hP s2 c2 (by omega) (fun I' q e1 g e4 el => ?_) (fun I' q pt' T cd' len' e1 g s c ag sg t01 bd => ?_)
    · refine w_X7_clause_183 (d1 := 0) (q0 := P) hG hP s1.2.2.1 (by omega) ?_
      rw [if_pos rfl]
      refine k0 I' q ?_ (g2.trans g.G) e4
      rw [hr, e1]
    · refine w_X7_clause_183 (d1 := 0) (q0 := P) hG hP s1.2.2.1 (by omega) ?_
      rw [if_neg (by decide)]
      have hpt' := s.2.2.2.2.2.2.2.2.1
      have hq4 := lt_of_nx s
      have hll := sg.le
      refine c_put (st := 0) (v := 0) hP c (by omega) (by decide) (by decide) ?_
      intro I3 f3 c3
      refine w_X7_clause_195 ?_
      rw [if_neg (by decide)]
      refine k1 I3 q pt' (len' + 1) ((kd, D, some T), tm) _ (by rw [hr, e1]) ((g2.trans g.G).trans f3.F.G) (f3.S s) c3 (by omega) ?_
      have ee : ∀ j i, 2 ≤ j → j ≤ 5 → ¬ (j = 4 ∧ i = l.length) → I3 (P + j) i = I (P + j) i := fun j i q1 q2 q3 => by
        rw [f3 (P + j) i (by omega) (by omega), g (P + j) i (by omega) (by omega) (by omega), sm_st_or _ _ (by omega), f1 (P + j) i (by omega)]
      have e4 : I3 (P + 4) l.length = nI len := by
        rw [f3 (P + 4) _ (by omega) (by omega), g (P + 4) _ (by omega) (by omega) (by omega), sm_st_s]
      have ecd : ∀ k, k < len → cdU cd' len' (0, 0) k = cd k := fun k hk => by rw [cdU_o _ _ (by omega)]; exact ag k hk
      refine hcs.last ?_ (fun j i q1 q2 q3 => ee j i q1 q2 (by omega)) (by omega) ecd ?_
      · rw [f3 P 5 (by omega) (by omega), g P 5 (by omega) (by omega) (by omega), sm_st_o _ _ (by omega), f1 P 5 (by omega)]
      · have hx := (hcs.2.2 l.length _ (by rw [List.getElem?_append_right (Nat.le_refl _), Nat.sub_self]; rfl)).mono (I' := I) (cd' := cdU cd' len' (0, 0)) (len' := len' + 1) (fun _ _ _ => rfl) (by omega) ecd
        obtain ⟨x1, x2, x3, x4, x5, x6, x7⟩ := hx
        refine ⟨(ee 2 _ (by omega) (by omega) (by omega)).trans x1, x2, fun q => by rw [ee 3 _ (by omega) (by omega) (by omega)]; exact x3 q, fun q => (ee 3 _ (by omega) (by omega) (by omega)).trans (x4 q), ⟨t01, t01.R.B, len, len', 20, e4, by omega, by decide, by rw [cdU_s], sg.mono (fun k q1 q2 => cdU_o _ _ (by omega))⟩, (ee 5 _ (by omega) (by omega) (by omega)).trans x6, x7⟩
set_option maxHeartbeats 1000000 in
theorem c_times {ex : sm_O} {n : Nat} {y : sm_Y} {I : Nat → Nat → Int32} {L : Nat → Nat → Int64} {R : Nat → Nat → Option Nat} {Q : sm_Q} {d p pt P len kd : Nat} {o : Bool} {t : Tp} {cd : Nat → Nat × Nat} {l : List OC} {D : DD} {w1 : Option Value} (htx : txOK ex) (hd : 37 ≤ d) (hG : sm_G y R) (hP : ok6 y R P 200 12) (hs : rS t o P I R p pt) (hc : cPr I P cd len) (hb : 3 * len ≤ 4 * pt + p) (hcs : cCs o I P cd len (l ++ [((kd, D, none), 1)]))
    (k0 : ∀ (I' : Nat → Nat → Int32) (q : Nat), rTimes t o kd D p pt = .inl q → rG P I I' → I' 120 4 = nI q → Q (some (.int 0)) (n, y, I', L, R))
    (k1 : ∀ (I' : Nat → Nat → Int32) (q pt' len' : Nat) (x : OC) (cd' : Nat → Nat × Nat), rTimes t o kd D p pt = .inr (q, pt', x) → rG P I I' → rS t o P I' R q pt' → cPr I' P cd' len' → 3 * len' ≤ 4 * pt' + q → cCs o I' P cd' len' (l ++ [x]) → Q (some (.int 1)) (n, y, I', L, R)) :
    (o = false → sm_W ex d 0 0 41 149 [some (.ref 120), w1, some (.int (nI l.length))] [] (n, y, I, L, R) Q) ∧ (o = true → sm_W ex 36 0 0 53 0 [some (.ref 120), some (.retAddr 4), none, none, none, none, none] [] (n, y, I, L, R) (fun r μ1 => sm_W ex d 0 0 41 107 [some (.ref 120), w1, some (.int (nI l.length))] (r.toList ++ []) μ1 Q)) := by
  have hpP := hs.2.2.2.2.2.2.2.2.2
  have h12 : l.length < 12 := by have := hcs.2.1; simp at this; omega
  refine ⟨fun ho => ?_, fun ho => ?_⟩
  · have hr : rTimes t o kd D p pt = rIf t o kd D 1 p pt := by
      unfold rTimes
      rw [if_neg (fun z => by rw [ho] at z; exact absurd z.1 (by decide))]
    rw [hr] at k0 k1
    exact c_if htx hd hG hP hs hc hb hcs k0 k1
  · refine c_isW (by omega) hG hs (by decide) htx.2.2.1 wd_ok.2.2.2.2 (fun e => ?_) (fun e => ?_)
    · refine w_X7_clause_107 (d1 := 36) hG (by omega) ?_
      rw [if_neg (by decide)]
      have hr : rTimes t o kd D p pt = rIf t o kd D 1 p pt := by
        unfold rTimes
        rw [if_neg (fun z => e z.2)]
      rw [hr] at k0 k1
      exact c_if htx hd hG hP hs hc hb hcs k0 k1
    · have hr : rTimes t o kd D p pt = if tkK t (nx t p) = 2 ∧ 1 ≤ tkN t (nx t p) ∧ tkN t (nx t p) ≤ 20 then rIf t o kd D (tkN t (nx t p)) (nx t (nx t p)) pt else .inl (nx t p) := by
        unfold rTimes
        rw [if_pos ⟨ho, e⟩]
      have hpn : p + 5 ≤ nx t p := (tkW_k e (by decide)).2.2.1
      refine w_X7_clause_107 (d1 := 36) hG (by omega) ?_
      rw [if_pos rfl]
      refine c_adv (by omega) hG hs ?_
      intro I1 f1 s1
      have c1 := f1.P hpP hc
      refine w_X7_clause_114 (d1 := 36) (q0 := P) hG hP s1.2.2.1 (by omega) ?_
      refine c_X7_numberOf (lo := 1) (hi := 20) (by omega) hG s1 tk_digs (by decide) (by decide) ?_
      have y5 : y (P + 5) = some (.inr (0, 12)) := hP.2.2.2.2.2.2.2.2.2.2
      have e5 : ∀ v : Int32, sm_st I1 (P + 5) l.length v (P + 5) l.length = v := fun v => sm_st_s _ _ _ _
      by_cases hn : tkK t (nx t p) = 2 ∧ 1 ≤ tkN t (nx t p) ∧ tkN t (nx t p) ≤ 20
      · rw [if_pos hn] at hr ⊢
        rw [hr] at k0 k1
        refine w_X7_clause_129 (d1 := 36) (q0 := P) hG hP y5 s1.2.2.1 (by omega) ?_
        rw [nI_clamp (by omega), e5]
        refine ⟨vp_in_nI (by omega) (by decide), vp_in_nI (by omega) (by decide), ?_⟩
        rw [if_neg (nI_m1 (by omega))]
        have s2 : rS t o P (sm_st I1 (P + 5) l.length (nI (tkN t (nx t p)))) R (nx t p) pt := rS_kept (fun a j q => sm_st_o _ _ (by omega)) s1
        have c2 : cPr (sm_st I1 (P + 5) l.length (nI (tkN t (nx t p)))) P cd len := ⟨(sm_st_o _ _ (by omega)).trans c1.1, c1.2.1, fun k hk => by rw [sm_st_o _ _ (by omega)]; exact c1.2.2 k hk⟩
        refine c_adv (by omega) hG s2 ?_
        intro I3 f3 s3
        have hnn := nx_lt (t := t) (p := nx t p) (by omega)
        have g3 : rG P I I3 := ((f1.F P).G.trans (rG.st P I1 (a := P + 5) (by omega) l.length (nI (tkN t (nx t p))))).trans (f3.F P).G
        have ee : ∀ j i, 2 ≤ j → j ≤ 5 → ¬ (j = 5 ∧ i = l.length) → I3 (P + j) i = I (P + j) i := fun j i q1 q2 q3 => by
          rw [f3 (P + j) i (by omega), sm_st_or _ _ (by omega), f1 (P + j) i (by omega)]
        refine c_if (kd := kd) (D := D) (tm := tkN t (nx t p)) (l := l) htx hd hG hP s3 (f3.P hpP c2) (by omega) ?_ (fun I' q e1 g e4 => k0 I' q e1 (g3.trans g) e4) (fun I' q pt' len' x cd' e1 g s c b cs => k1 I' q pt' len' x cd' e1 (g3.trans g) s c b cs)
        refine hcs.last ?_ (fun j i q1 q2 q3 => ee j i q1 q2 (by omega)) (Nat.le_refl _) (fun _ _ => rfl) ?_
        · rw [f3 P 5 (by omega), sm_st_o _ _ (by omega), f1 P 5 (by omega)]
        · obtain ⟨x1, x2, x3, x4, x5, x6, x7⟩ := hcs.2.2 l.length _ (by rw [List.getElem?_append_right (Nat.le_refl _), Nat.sub_self]; rfl)
          exact ⟨(ee 2 _ (by omega) (by omega) (by omega)).trans x1, x2, fun q => by rw [ee 3 _ (by omega) (by omega) (by omega)]; exact x3 q, fun q => (ee 3 _ (by omega) (by omega) (by omega)).trans (x4 q), (ee 4 _ (by omega) (by omega) (by omega)).trans x5, by rw [f3 (P + 5) _ (by omega), e5], hn.2.2⟩
      · rw [if_neg hn] at hr ⊢
        refine w_X7_clause_129 (d1 := 36) (q0 := P) hG hP y5 s1.2.2.1 (by omega) ?_
        rw [nI_clamp (by omega), e5]
        refine ⟨vp_in_nI (by omega) (by decide), vp_in_nI (by omega) (by decide), ?_⟩
        rw [if_pos rfl]
        exact k0 _ _ hr ((f1.F P).G.trans (rG.st P I1 (by omega) _ _)) ((sm_st_o _ _ (by omega)).trans s1.2.2.2.1)
theorem c_open {ex : sm_O} {n : Nat} {y : sm_Y} {I : Nat → Nat → Int32} {L : Nat → Nat → Int64} {R : Nat → Nat → Option Nat} {Q : sm_Q} {d P c0 : Nat} {a : Int32} (hP : ok6 y R P 200 12) (h5 : I P 5 = nI c0) (hc : c0 < 12)
    (k : ∀ (I' : Nat → Nat → Int32), (∀ b j, ¬ (b = P ∧ j = 5) → ¬ (P + 2 ≤ b ∧ b ≤ P + 5 ∧ j = c0) → I' b j = I b j) → I' P 5 = nI (c0 + 1) → I' (P + 2) c0 = a → I' (P + 3) c0 = -1 → I' (P + 4) c0 = -1 → I' (P + 5) c0 = 1 → Q (some (.int 1)) (n, y, I', L, R)) : sm_W ex d 0 0 36 0 [some (.ref P), some (.int a)] [] (n, y, I, L, R) Q := by
  refine w_X6_open_0 hP ?_
  have e1 : ∀ (J : Nat → Nat → Int32) (b : Nat) (i : Nat) (v : Int32), b ≠ P → sm_st J b i v P 5 = J P 5 := fun J b i v h => sm_st_o _ _ (fun e => h e.symm)
  simp only [e1 _ _ _ _ (show P + 2 ≠ P by omega), e1 _ _ _ _ (show P + 3 ≠ P by omega), e1 _ _ _ _ (show P + 4 ≠ P by omega), e1 _ _ _ _ (show P + 5 ≠ P by omega), h5, nI_clamp (show c0 < 2 ^ 31 by omega), sm_n1]
  rw [if_pos ((nI_ltI (by omega) (by omega)).mpr hc)]
  have hv : vp_in (nI c0) 12 := vp_in_nI hc (by decide)
  refine ⟨hv, hv, hv, hv, k _ (fun b j q1 q2 => ?_) (sm_st_s _ _ _ _) ?_ ?_ ?_ ?_⟩
  · rw [sm_st_or _ _ (by omega), sm_st_or _ _ (by omega), sm_st_or _ _ (by omega), sm_st_or _ _ (by omega), sm_st_or _ _ (by omega)]
  · rw [sm_st_o _ _ (by omega), sm_st_o _ _ (by omega), sm_st_o _ _ (by omega), sm_st_o _ _ (by omega), sm_st_s]
  · rw [sm_st_o _ _ (by omega), sm_st_o _ _ (by omega), sm_st_o _ _ (by omega), sm_st_s]
  · rw [sm_st_o _ _ (by omega), sm_st_o _ _ (by omega), sm_st_s]
  · rw [sm_st_o _ _ (by omega), sm_st_s]
set_option maxHeartbeats 1000000 in
theorem c_clause {ex : sm_O} {n : Nat} {y : sm_Y} {I : Nat → Nat → Int32} {L : Nat → Nat → Int64} {R : Nat → Nat → Option Nat} {Q : sm_Q} {d p pt P len : Nat} {o : Bool} {t : Tp} {cd : Nat → Nat × Nat} {l : List OC} {w1 w2 : Option Value} (htx : txOK ex) (hd : 37 ≤ d) (hG : sm_G y R) (hP : ok6 y R P 200 12) (hs : rS t o P I R p pt) (hc : cPr I P cd len) (hb : 3 * len ≤ 4 * pt + p) (hcs : cCs o I P cd len l) (hl12 : l.length < 12)
    (k0 : ∀ (I' : Nat → Nat → Int32) (q : Nat), rClause t o p pt = .inl q → rG P I I' → I' 120 4 = nI q → Q (some (.int 0)) (n, y, I', L, R))
    (k1 : ∀ (I' : Nat → Nat → Int32) (q pt' len' : Nat) (x : OC) (cd' : Nat → Nat × Nat), rClause t o p pt = .inr (q, pt', x) → rG P I I' → rS t o P I' R q pt' → cPr I' P cd' len' → 3 * len' ≤ 4 * pt' + q → cCs o I' P cd' len' (l ++ [x]) → Q (some (.int 1)) (n, y, I', L, R)) :
    sm_W ex d 0 0 41 0 [some (.ref 120), w1, w2] [] (n, y, I, L, R) Q := by
  have hpP := hs.2.2.2.2.2.2.2.2.2
  have main : sm_W ex d 0 0 41 18 [some (.ref 120), w1, w2] [.int (oI (wIx (if o = true then ordKinds else lawKinds) (tkWd t p)))] (n, y, I, L, R) Q := by
    refine w_X7_clause_18 (d1 := 36) (q0 := P) hG hP hs.2.2.1 (by omega) ?_
    cases hw : wIx (if o = true then ordKinds else lawKinds) (tkWd t p) with
    | none =>
      rw [if_pos (show oI none = -1 from rfl)]
      refine k0 I p ?_ (rG.rfl' P I) hs.2.2.2.1
      unfold rClause
      rw [hw]
    | some kd =>
      have hr : rClause t o p pt = if kd = 3 then rTimes t o kd (dNum 0) (nx t p) pt else match rSum t o 8 (nx t p) pt with
        | .inl q => .inl q
        | .inr (q, pt', D) => rTimes t o kd D q pt' := by
        unfold rClause
        rw [hw]
        rfl
      have hk := (wIx_lt _ _ _ hw).1
      have hk4 : kd < 4 := by cases o <;> exact hk
      have hlen2 : 2 ≤ (tkWd t p).length := wIx_ne hw (by cases o <;> decide)
      obtain ⟨ek, eE, eN, ept⟩ := tkW_k (t := t) (p := p) rfl (by intro z; rw [z] at hlen2; exact absurd hlen2 (by decide))
      rw [show oI (some kd) = nI kd from rfl, if_neg (nI_m1 (by omega))]
      refine c_open hP hcs.1 hl12 ?_
      intro I1 f1 a5 a2 a3 a4 a6
      have s1 : rS t o P I1 R p pt := rS_kept (fun a j q => f1 a j (by omega) (by omega)) hs
      have c1 : cPr I1 P cd len := ⟨(f1 P 6 (by omega) (by omega)).trans hc.1, hc.2.1, fun k hk => by rw [f1 (P + 1) k (by omega) (by omega)]; exact hc.2.2 k hk⟩
      have g1 : rG P I I1 := fun a j q1 q2 => f1 a j (by omega) (by omega)
      refine w_X7_clause_32 (d1 := 36) (q0 := P) hG hP hs.2.2.1 (by omega) ?_
      rw [if_neg (by decide), a5, sm_of 1, pk_sub (by omega), Nat.add_sub_cancel]
      refine c_adv (by omega) hG s1 ?_
      intro I2 f2 s2
      have c2 := f2.P hpP c1
      have g2 := g1.trans (f2.F P).G
      have b2 : ∀ a j, a ≠ 120 → I2 a j = I1 a j := fun a j h => f2 a j (by omega)
      have ho2 : I2 120 2 = (if o = true then 1 else 0) := s2.2.1
      have oo : ∀ {A B : Prop}, (o = false → A) ∧ (o = true → B) → (if I2 120 2 = 0 then A else B) := by
        intro A B h
        rw [ho2]
        cases o with
        | false => rw [if_neg (show ¬ false = true by decide), if_pos rfl]; exact h.1 rfl
        | true => rw [if_pos rfl, if_neg (show ¬ (1 : Int32) = 0 by decide)]; exact h.2 rfl
      refine w_X7_clause_51 (d1 := 36) (q0 := P) (q1 := P) hG hP hP (by omega) s2.2.2.1 s2.2.2.1 ?_
      have e3 : nI kd = 3 ↔ kd = 3 := nI_eq (b := 3) (by omega) (by decide)
      simp only [e3]
      by_cases h3 : kd = 3
      · rw [if_pos h3] at hr ⊢
        rw [hr] at k0 k1
        refine oo (c_times (l := l) (kd := kd) (D := dNum 0) htx hd hG hP s2 c2 (by omega) ?_ (fun I' q e1 g e4 => k0 I' q e1 (g2.trans g) e4) (fun I' q pt' len' x cd' e1 g s c b cs => k1 I' q pt' len' x cd' e1 (g2.trans g) s c b cs))
        refine hcs.snoc hl12 (by rw [b2 P 5 (by omega)]; exact a5) (fun j c q1 q2 q3 => by rw [b2 (P + j) c (by omega)]; exact f1 (P + j) c (by omega) (by omega)) (Nat.le_refl _) (fun _ _ => rfl) ?_
        exact ⟨by rw [b2 _ _ (by omega)]; exact a2, by show kd ≤ 3; omega, fun q => absurd h3 q, fun _ => by rw [b2 _ _ (by omega)]; exact a3, by show I2 (P + 4) l.length = -1; rw [b2 _ _ (by omega)]; exact a4, by rw [b2 _ _ (by omega)]; exact a6, by show 1 ≤ 20; decide⟩
      · rw [if_neg h3] at hr ⊢
        rw [nI_clamp (by omega), c2.1]
        refine ⟨vp_in_nI (by omega) (by decide), ?_⟩
        have s3 : rS t o P (sm_st I2 (P + 3) l.length (nI len)) R (nx t p) pt := rS_kept (fun a j q => sm_st_o _ _ (by omega)) s2
        have c3 : cPr (sm_st I2 (P + 3) l.length (nI len)) P cd len := ⟨(sm_st_o _ _ (by omega)).trans c2.1, c2.2.1, fun k hk => by rw [sm_st_o _ _ (by omega)]; exact c2.2.2 k hk⟩
        have g3 : rG P I (sm_st I2 (P + 3) l.length (nI len)) := g2.trans (rG.st P I2 (by omega) _ _)
        have oo3 : ∀ (J : Nat → Nat → Int32) {A B : Prop}, J 120 2 = (if o = true then 1 else 0) → (o = false → A) ∧ (o = true → B) → (if J 120 2 = 0 then A else B) := by
          intro J A B hJ h
          rw [hJ]
          cases o with
          | false => rw [if_neg (show ¬ false = true by decide), if_pos rfl]; exact h.1 rfl
          | true => rw [if_pos rfl, if_neg (show ¬ (1 : Int32) = 0 by decide)]; exact h.2 rfl
        have hsa := cOk_sumAll (o := o) (t := t) (P := P) htx 8 36 (Nat.le_refl 8) (by omega)
        refine hsa n y _ L R _ (nx t p) pt len cd hG hP s3 c3 (by omega) (fun I' q e1 g e4 el => ?_) (fun I' q pt' D cd' len' e1 g s c ag sg dr bd => ?_)
        · refine w_X7_clause_77 (d1 := 0) (q0 := P) hG hP hs.2.2.1 (by omega) ?_
          rw [if_pos rfl]
          refine k0 I' q ?_ (g3.trans g.G) e4
          rw [hr, e1]
        · refine w_X7_clause_77 (d1 := 0) (q0 := P) hG hP hs.2.2.1 (by omega) ?_
          rw [if_neg (by decide)]
          have hpt' := s.2.2.2.2.2.2.2.2.1
          have hq4 := lt_of_nx s
          have hll := sg.le
          refine c_put (st := 0) (v := 0) hP c (by omega) (by decide) (by decide) ?_
          intro I4 f4 c4
          have s4 := f4.S s
          have g4 := (g3.trans g.G).trans f4.F.G
          have hr2 : rClause t o p pt = rTimes t o kd D q pt' := by rw [hr, e1]
          rw [hr2] at k0 k1
          have ee : ∀ j i, 2 ≤ j → j ≤ 5 → ¬ (j = 3 ∧ i = l.length) → I4 (P + j) i = I1 (P + j) i := fun j i q1 q2 q3 => by
            rw [f4 (P + j) i (by omega) (by omega), g (P + j) i (by omega) (by omega) (by omega), sm_st_or _ _ (by omega), b2 (P + j) i (by omega)]
          have e43 : I4 (P + 3) l.length = nI len := by
            rw [f4 (P + 3) _ (by omega) (by omega), g (P + 3) _ (by omega) (by omega) (by omega), sm_st_s]
          have ecd : ∀ k, k < len → cdU cd' len' (0, 0) k = cd k := fun k hk => by rw [cdU_o _ _ (by omega)]; exact ag k hk
          refine w_X7_clause_89 (d1 := 36) hG (by omega) ?_
          rw [if_neg (by decide)]
          refine oo3 I4 s4.2.1 (c_times (l := l) (kd := kd) (D := D) htx hd hG hP s4 c4 (by omega) ?_ (fun I' q e1 g e4 => k0 I' q e1 (g4.trans g) e4) (fun I' q pt' len' x cd' e1 g s c b cs => k1 I' q pt' len' x cd' e1 (g4.trans g) s c b cs))
          refine hcs.snoc hl12 ?_ (fun j c q1 q2 q3 => by rw [ee j c q1 q2 (by omega)]; exact f1 (P + j) c (by omega) (by omega)) (by omega) ecd ?_
          · rw [f4 P 5 (by omega) (by omega), g P 5 (by omega) (by omega) (by omega), sm_st_o _ _ (by omega), b2 P 5 (by omega)]
            exact a5
          · exact ⟨(ee 2 _ (by omega) (by omega) (by omega)).trans a2, by show kd ≤ 3; omega, fun _ => ⟨dr.B, len, len', 19, e43, by omega, by decide, by rw [cdU_s], sg.mono (fun k q1 q2 => cdU_o _ _ (by omega))⟩, fun z => absurd z h3, (ee 4 _ (by omega) (by omega) (by omega)).trans a4, (ee 5 _ (by omega) (by omega) (by omega)).trans a6, by show 1 ≤ 20; decide⟩
  refine w_X7_clause_0 (d1 := 36) hG (by omega) ?_
  rw [hs.2.1]
  obtain ⟨t2, t3, t4, t5, t6, t7, t8, t9, t10⟩ := htx
  by_cases ho : o = true
  · rw [if_pos ho, if_neg (show ¬ (1 : Int32) = 0 by decide)]
    rw [if_pos ho] at main
    exact c_X7_wordIn (by omega) hG hs (by decide) t2 ordKinds_ok.1 ordKinds_ok.2.1 ordKinds_ok.2.2.1 ordKinds_ok.2.2.2.1 ordKinds_ok.2.2.2.2 main
  · rw [if_neg ho, if_pos rfl]
    rw [if_neg ho] at main
    exact c_X7_wordIn (by omega) hG hs (by decide) t3 lawKinds_ok.1 lawKinds_ok.2.1 lawKinds_ok.2.2.1 lawKinds_ok.2.2.2.1 lawKinds_ok.2.2.2.2 main
set_option maxHeartbeats 1000000 in
theorem lp_fault {ex : sm_O} {t : Tp} {o : Bool} {P d n : Nat} {y : sm_Y} {L : Nat → Nat → Int64} {R : Nat → Nat → Option Nat} {Q : sm_Q} {I0 : Nat → Nat → Int32} {w1 w2 : Option Value} {a3 : Int32} (htx : txOK ex) (hd : 38 ≤ d) (hG : sm_G y R) (hP : ok6 y R P 200 12) :
    ∀ (f i : Nat) (I : Nat → Nat → Int32) (p pt len : Nat) (cd : Nat → Nat × Nat) (l : List OC), i + f = 12 → l.length = i → rG P I0 I → rS t o P I R p pt → cPr I P cd len → 3 * len ≤ 4 * pt + p → cCs o I P cd len l →
    (∀ (I' : Nat → Nat → Int32) (q : Nat), rText t o f p pt l = .inl q → q ≤ 400 → rG P I0 I' → Q (some (.int (nI q))) (n, y, I', L, R)) →
    (∀ (I' : Nat → Nat → Int32) (len' : Nat) (l' : List OC) (cd' : Nat → Nat × Nat), rText t o f p pt l = .inr l' → rG P I0 I' → cPr I' P cd' len' → cCs o I' P cd' len' l' → Q (some (.int (-1))) (n, y, I', L, R)) →
    sm_W ex d 0 0 40 56 [some (.ref 120), w1, w2, some (.int a3), some (.int (nI i))] [] (n, y, I, L, R) Q := by
  intro f
  induction f with
  | zero =>
    intro i I p pt len cd l hi hl fr hs hc hb hcs k0 k1
    refine w_X7_faultOf_56 (d1 := 37) hG (by omega) ?_
    rw [if_pos (show (12 : Int32) ≤ nI i from (nI_leI (a := 12) (by decide) (by omega)).mpr (by omega)), hs.2.2.2.1]
    exact k0 I p rfl (lt_of_nx hs) fr
  | succ f ih =>
    intro i I p pt len cd l hi hl fr hs hc hb hcs k0 k1
    refine w_X7_faultOf_56 (d1 := 37) hG (by omega) ?_
    rw [if_neg (show ¬ (12 : Int32) ≤ nI i from fun z => by have := (nI_leI (a := 12) (by decide) (by omega)).mp z; omega)]
    have hrt : rText t o (f + 1) p pt l = match rClause t o p pt with
      | .inl q => .inl q
      | .inr (q, pt', x) => if tkK t q = 0 then .inr (l ++ [x]) else if isG t q 59 then rText t o f (nx t q) pt' (l ++ [x]) else .inl q := rfl
    refine c_clause htx (by omega) hG hP hs hc hb hcs (by omega) (fun I' q e1 g e4 => ?_) (fun I' q pt' len' x cd' e1 g s c b cs => ?_)
    · refine w_X7_faultOf_67 (d1 := 37) hG (by omega) ?_
      rw [if_pos rfl, e4]
      refine k0 I' q (by rw [hrt, e1]) ?_ (fr.trans g)
      exact rC_le e1 (by have := hs.1.2.1; have := hs.2.2.2.2.2.2.2.1; omega) (by have := hs.1.2.1; omega)
    · rw [e1] at hrt
      have hrt : rText t o (f + 1) p pt l = if tkK t q = 0 then .inr (l ++ [x]) else if isG t q 59 then rText t o f (nx t q) pt' (l ++ [x]) else .inl q := hrt
      have hkl := tkK_le t q
      have e0 : nI (tkK t q) = 0 ↔ tkK t q = 0 := nI_eq (b := 0) (by omega) (by decide)
      refine w_X7_faultOf_67 (d1 := 37) hG (by omega) ?_
      rw [if_neg (by decide), s.2.2.2.2.2.1]
      simp only [e0]
      by_cases h0 : tkK t q = 0
      · rw [if_pos h0] at hrt ⊢
        exact k1 I' len' _ cd' hrt (fr.trans g) c cs
      · rw [if_neg h0] at hrt ⊢
        refine c_sign (c := 59) hG s (by decide) (fun hn => ?_) (fun hy => ?_)
        · rw [if_neg hn] at hrt
          refine w_X7_faultOf_85 (d1 := 37) hG (by omega) ?_
          rw [if_pos rfl, s.2.2.2.1]
          exact k0 I' q hrt (lt_of_nx s) (fr.trans g)
        · rw [if_pos hy] at hrt
          rw [hrt] at k0 k1
          refine w_X7_faultOf_85 (d1 := 37) hG (by omega) ?_
          rw [if_neg (by decide)]
          refine c_adv (by omega) hG s ?_
          intro I2 f2 s2
          refine w_X7_faultOf_97 ?_
          rw [sm_n1]
          have hqn := isG_lt hy
          exact ih (i + 1) I2 (nx t q) pt' len' cd' (l ++ [x]) (by omega) (by simp; omega) ((fr.trans g).trans (f2.F P).G) s2 (f2.P hs.2.2.2.2.2.2.2.2.2 c) (by omega) ((f2.F P).Cs (t := t) hs.2.2.2.2.2.2.2.2.2 cs (Nat.le_refl _) (fun _ _ => rfl)) k0 k1
theorem c_faultOf {ex : sm_O} {n : Nat} {y : sm_Y} {I : Nat → Nat → Int32} {L : Nat → Nat → Int64} {R : Nat → Nat → Option Nat} {Q : sm_Q} {d P : Nat} {o : Bool} {t : Tp} {w4 : Option Value} (htx : txOK ex) (hd : 38 ≤ d) (hG : sm_G y R) (hP : ok6 y R P 200 12) (hPP : P + 5 < 119) (ht : t.1 ≤ 400) (htt : ∀ j, j < t.1 → I 119 j = nI (t.2 j) ∧ t.2 j < 256)
    (k0 : ∀ (I' : Nat → Nat → Int32) (q : Nat), rAll t o = .inl q → q ≤ 400 → (∀ a j, a ≠ 120 → ¬ (P ≤ a ∧ a ≤ P + 5) → I' a j = I a j) → Q (some (.int (nI q))) (n, y, I', L, sm_st R 120 3 (some P)))
    (k1 : ∀ (I' : Nat → Nat → Int32) (len' : Nat) (l' : List OC) (cd' : Nat → Nat × Nat), rAll t o = .inr l' → (∀ a j, a ≠ 120 → ¬ (P ≤ a ∧ a ≤ P + 5) → I' a j = I a j) → cPr I' P cd' len' → cCs o I' P cd' len' l' → Q (some (.int (-1))) (n, y, I', L, sm_st R 120 3 (some P))) :
    sm_W ex d 0 0 40 0 [some (.ref 120), some (.int (nI t.1)), some (.ref P), some (.int (if o = true then 1 else 0)), w4] [] (n, y, I, L, R) Q := by
  refine w_X7_faultOf_0 hG (by omega) ?_
  refine ⟨by cases o <;> decide, ?_⟩
  rw [if_neg (show ¬ nI 400 < nI t.1 from fun z => by have := (nI_ltI (by decide) (by omega)).mp z; omega)]
  have hG' : sm_G y (sm_st R 120 3 (some P)) := sm_G_120 hG P
  have hP' : ok6 y (sm_st R 120 3 (some P)) P 200 12 := by
    obtain ⟨q1, q2, q3, q4, q5, q6, q7⟩ := hP
    exact ⟨q1, (sm_st_o _ _ (by omega)).trans q2, (sm_st_o _ _ (by omega)).trans q3, (sm_st_o _ _ (by omega)).trans q4, (sm_st_o _ _ (by omega)).trans q5, (sm_st_o _ _ (by omega)).trans q6, q7⟩
  have h3 : sm_st R 120 3 (some P) 120 3 = some P := sm_st_s _ _ _ _
  refine sm_in (And.intro (hG.1 120 (by decide)) ?_)
  refine w_X7_faultOf_23 (d1 := 37) (q0 := P) (q1 := P) hG' hP' hP' h3 h3 (by omega) ?_
  generalize hJ : sm_st (sm_st (sm_st (sm_st (sm_st (sm_st I 120 1 (nI t.1)) 120 2 (if o = true then 1 else 0)) P 5 0) P 6 0) 120 5 0) 120 7 0 = J
  have j1 : J 120 1 = nI t.1 := by rw [← hJ, sm_st_j _ _ (by decide), sm_st_j _ _ (by decide), sm_st_o _ _ (by omega), sm_st_o _ _ (by omega), sm_st_j _ _ (by decide), sm_st_s]
  have j2 : J 120 2 = (if o = true then 1 else 0) := by rw [← hJ, sm_st_j _ _ (by decide), sm_st_j _ _ (by decide), sm_st_o _ _ (by omega), sm_st_o _ _ (by omega), sm_st_s]
  have j5 : J 120 5 = nI 0 := by rw [← hJ, sm_st_j _ _ (by decide), sm_st_s]; rfl
  have j7 : J 120 7 = nI 0 := by rw [← hJ, sm_st_s]; rfl
  have jp5 : J P 5 = nI 0 := by rw [← hJ, sm_st_o _ _ (by omega), sm_st_o _ _ (by omega), sm_st_j _ _ (by decide), sm_st_s]; rfl
  have jp6 : J P 6 = nI 0 := by rw [← hJ, sm_st_o _ _ (by omega), sm_st_o _ _ (by omega), sm_st_s]; rfl
  have jo : ∀ a j, a ≠ 120 → a ≠ P → J a j = I a j := fun a j q1 q2 => by rw [← hJ, sm_st_o _ _ q1, sm_st_o _ _ q1, sm_st_o _ _ q2, sm_st_o _ _ q2, sm_st_o _ _ q1, sm_st_o _ _ q1]
  have ht' : cTk t J := ⟨j1, ht, fun j hj => ⟨(jo 119 j (by decide) (by omega)).trans (htt j hj).1, (htt j hj).2⟩⟩
  refine c_X7_advance (by omega) hG' ht' j5 (by omega) ?_
  intro I2 f2 e4 e5 e6
  refine w_X7_faultOf_53 ?_
  have s2 : rS t o P I2 (sm_st R 120 3 (some P)) (tkAt t 0) 0 := ⟨⟨(f2 120 1 (by omega)).trans j1, ht, fun j hj => ⟨(f2 119 j (by omega)).trans (ht'.2.2 j hj).1, (htt j hj).2⟩⟩, (f2 120 2 (by omega)).trans j2, h3, e4, e5, e6, (f2 120 7 (by omega)).trans j7, (tkS_b t 400 0).2 (by omega), by omega, hPP⟩
  have fin : ∀ I' : Nat → Nat → Int32, rG P I2 I' → ∀ a j, a ≠ 120 → ¬ (P ≤ a ∧ a ≤ P + 5) → I' a j = I a j := fun I' g a j q1 q2 => by rw [g a j (by omega) q2, f2 a j (by omega), jo a j q1 (by omega)]
  exact lp_fault (o := o) (P := P) (I0 := I2) htx hd hG' hP' 12 0 I2 (tkAt t 0) 0 0 (fun _ => (0, 0)) [] rfl rfl (rG.rfl' P I2) s2 ⟨(f2 P 6 (by omega)).trans jp6, by omega, fun k hk => absurd hk (by omega)⟩ (by omega) ⟨(f2 P 5 (by omega)).trans jp5, by simp, fun c x hx => by simp at hx⟩ (fun I' q e1 e2 g => k0 I' q e1 e2 (fin I' g)) (fun I' len' l' cd' e1 g c cs => k1 I' len' l' cd' e1 (fin I' g) c cs)

