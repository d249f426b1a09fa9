set_option maxRecDepth 100000 in
theorem w_X0_copyFrom_0 {ex : sm_O} {d n : Nat} {y : sm_Y} {I : Nat → Nat → Int32} {L : Nat → Nat → Int64} {R : Nat → Nat → Option Nat} {Q : sm_Q} {w0 : Option Value} {w2 : Option Value} {a1 : Nat} (k : sm_W ex d 0 0 1 2 [w0, some (.ref a1), some (.int 0)] [] (n, y, I, L, R) Q) : sm_W ex d 0 0 1 0 [w0, some (.ref a1), w2] [] (n, y, I, L, R) Q := sm_in (sm_in (And.intro (Nat.le_of_ble_eq_true rfl) (k)))
set_option maxRecDepth 100000 in
theorem w_X0_copyFrom_2 {ex : sm_O} {d n : Nat} {y : sm_Y} {I : Nat → Nat → Int32} {L : Nat → Nat → Int64} {R : Nat → Nat → Option Nat} {Q : sm_Q} {a0 : Nat} {a1 : Nat} {a2 : Int32} (ho0 : ok0 y R a1) (ho1 : ok0 y R a0) (k : if (I a1 2) ≤ a2 then (Q none (n, y, sm_st (sm_st I a0 2 (I a1 2)) a0 3 ((sm_st I a0 2 (I a1 2)) a1 3), L, R)) else (sm_W ex d 0 0 1 10 [some (.ref a0), some (.ref a1), some (.int a2)] [] (n, y, I, L, R) Q)) : sm_W ex d 0 0 1 2 [some (.ref a0), some (.ref a1), some (.int a2)] [] (n, y, I, L, R) Q := sm_in (sm_in (sm_in (And.intro (ok0_y0 ho0) (sm_in (And.intro (fun c1 => have k1t := Eq.mp (if_pos c1) k; sm_in (sm_in (sm_in (And.intro (ok0_y0 ho0) (sm_in (And.intro (ok0_y0 ho1) (sm_in (sm_in (sm_in (And.intro (ok0_y0 ho0) (sm_in (And.intro (ok0_y0 ho1) (sm_in (And.intro rfl (And.intro rfl k1t))))))))))))))) (fun c1 => have k1f := Eq.mp (if_neg c1) k; k1f))))))
set_option maxRecDepth 100000 in
theorem w_X0_copyFrom_10 {ex : sm_O} {d n : Nat} {y : sm_Y} {I : Nat → Nat → Int32} {L : Nat → Nat → Int64} {R : Nat → Nat → Option Nat} {Q : sm_Q} {a0 : Nat} {a1 : Nat} {a2 : Int32} {ns2 nc2 : Nat} {d1 : Nat} (ho0 : ok0 y R a0) (ho1 : ok0 y R a1) (ho2 : ok6 y R (a0 + (8 + 6 * a2.toNatClampNeg)) ns2 nc2) (h1 : d1 < d) (k : vp_in a2 6 ∧ sm_W ex d1 0 0 35 0 [some (.ref (a0 + (8 + 6 * a2.toNatClampNeg))), some (.ref (a1 + (8 + 6 * a2.toNatClampNeg)))] [] (n, y, I, L, R) (fun r μ1 => sm_W ex d 0 0 1 25 [some (.ref a0), some (.ref a1), some (.int a2)] (r.toList ++ []) μ1 Q)) : sm_W ex d 0 0 1 10 [some (.ref a0), some (.ref a1), some (.int a2)] [] (n, y, I, L, R) Q := sm_in (sm_in (And.intro (ok0_y0 ho0) (sm_gfr rfl (ok0_r0 ho0) (sm_in ((have e1 := k.1; have k1 := k.2; sm_in (Exists.intro 6 (Exists.intro 6 (And.intro (ok0_a1 ho0) (And.intro e1 (sm_rrs (ok0_l ho0 _ (sm_lt_in e1)).1 (sm_in (sm_in (And.intro (ok0_y0 ho1) (sm_gfr rfl (ok0_r0 ho1) (sm_in (sm_in (Exists.intro 6 (Exists.intro 6 (And.intro (ok0_a1 ho1) (And.intro e1 (sm_rrs (ok0_l ho1 _ (sm_lt_in e1)).1 (sm_in (Exists.intro 6 (And.intro (ok6_y0 ho2) (And.intro rfl (sm_calln h1 (Nat.le_of_ble_eq_true rfl) (Nat.le_of_ble_eq_true rfl) k1)))))))))))))))))))))))))))
set_option maxRecDepth 100000 in
theorem w_X0_copyFrom_25 {ex : sm_O} {d n : Nat} {y : sm_Y} {I : Nat → Nat → Int32} {L : Nat → Nat → Int64} {R : Nat → Nat → Option Nat} {Q : sm_Q} {w0 : Option Value} {a1 : Nat} {a2 : Int32} (k : sm_W ex d 0 0 1 2 [w0, some (.ref a1), some (.int (a2 + 1))] [] (n, y, I, L, R) Q) : sm_W ex d 0 0 1 25 [w0, some (.ref a1), some (.int a2)] [] (n, y, I, L, R) Q := sm_in (And.intro (Nat.le_of_ble_eq_true rfl) (sm_in (k)))
set_option maxRecDepth 100000 in
theorem w_X6_copyFrom_0 {ex : sm_O} {d n : Nat} {y : sm_Y} {I : Nat → Nat → Int32} {L : Nat → Nat → Int64} {R : Nat → Nat → Option Nat} {Q : sm_Q} {a0 : Nat} {a1 : Nat} {ns0 nc0 : Nat} {ns1 nc1 : Nat} (ho0 : ok6 y R a1 ns0 nc0) (ho1 : ok6 y R a0 ns1 nc1) (h1 : 1 ≤ d) (k : ¬ (I a1 6) < 0 ∧ (0 : Int32).toNatClampNeg + (I a1 6).toNatClampNeg ≤ ns0 ∧ (0 : Int32).toNatClampNeg + (I a1 6).toNatClampNeg ≤ ns1 ∧ sm_W ex d 0 0 35 17 [some (.ref a0), some (.ref a1)] [] (n, y, sm_cp I (a1 + 1) (0 : Int32).toNatClampNeg (a0 + 1) (0 : Int32).toNatClampNeg (I a1 6).toNatClampNeg, L, R) Q) : sm_W ex d 0 0 35 0 [some (.ref a0), some (.ref a1)] [] (n, y, I, L, R) Q := sm_in (sm_in (And.intro (ok6_y0 ho0) (sm_gfr rfl (ok6_r0 ho0) (sm_in (sm_in (sm_in (And.intro (ok6_y0 ho1) (sm_gfr rfl (ok6_r0 ho1) (sm_in (sm_in (sm_in (And.intro (ok6_y0 ho0) ((have e1 := k.1; have k1 := k.2; (have e2 := k1.1; have k2 := k1.2; (have e3 := k2.1; have k3 := k2.2; sm_in (And.intro h1 (And.intro (Nat.le_of_ble_eq_true rfl) (Exists.intro ns0 (Exists.intro ns1 (And.intro (ok6_a1 ho0) (And.intro (ok6_a1 ho1) (And.intro (by decide) (And.intro (by decide) (And.intro e1 (And.intro e2 (And.intro e3 (k3))))))))))))))))))))))))))))
set_option maxRecDepth 100000 in
theorem w_X6_copyFrom_17 {ex : sm_O} {d n : Nat} {y : sm_Y} {I : Nat → Nat → Int32} {L : Nat → Nat → Int64} {R : Nat → Nat → Option Nat} {Q : sm_Q} {a0 : Nat} {a1 : Nat} {ns0 nc0 : Nat} {ns1 nc1 : Nat} (ho0 : ok6 y R a1 ns0 nc0) (ho1 : ok6 y R a0 ns1 nc1) (h1 : 1 ≤ d) (k : ¬ (I a1 5) < 0 ∧ (0 : Int32).toNatClampNeg + (I a1 5).toNatClampNeg ≤ nc0 ∧ (0 : Int32).toNatClampNeg + (I a1 5).toNatClampNeg ≤ nc1 ∧ sm_W ex d 0 0 35 34 [some (.ref a0), some (.ref a1)] [] (n, y, sm_cp I (a1 + 2) (0 : Int32).toNatClampNeg (a0 + 2) (0 : Int32).toNatClampNeg (I a1 5).toNatClampNeg, L, R) Q) : sm_W ex d 0 0 35 17 [some (.ref a0), some (.ref a1)] [] (n, y, I, L, R) Q := sm_in (sm_in (And.intro (ok6_y0 ho0) (sm_gfr rfl (ok6_r1 ho0) (sm_in (sm_in (sm_in (And.intro (ok6_y0 ho1) (sm_gfr rfl (ok6_r1 ho1) (sm_in (sm_in (sm_in (And.intro (ok6_y0 ho0) ((have e1 := k.1; have k1 := k.2; (have e2 := k1.1; have k2 := k1.2; (have e3 := k2.1; have k3 := k2.2; sm_in (And.intro h1 (And.intro (Nat.le_of_ble_eq_true rfl) (Exists.intro nc0 (Exists.intro nc1 (And.intro (ok6_a2 ho0) (And.intro (ok6_a2 ho1) (And.intro (by decide) (And.intro (by decide) (And.intro e1 (And.intro e2 (And.intro e3 (k3))))))))))))))))))))))))))))
set_option maxRecDepth 100000 in
theorem w_X6_copyFrom_34 {ex : sm_O} {d n : Nat} {y : sm_Y} {I : Nat → Nat → Int32} {L : Nat → Nat → Int64} {R : Nat → Nat → Option Nat} {Q : sm_Q} {a0 : Nat} {a1 : Nat} {ns0 nc0 : Nat} {ns1 nc1 : Nat} (ho0 : ok6 y R a1 ns0 nc0) (ho1 : ok6 y R a0 ns1 nc1) (h1 : 1 ≤ d) (k : ¬ (I a1 5) < 0 ∧ (0 : Int32).toNatClampNeg + (I a1 5).toNatClampNeg ≤ nc0 ∧ (0 : Int32).toNatClampNeg + (I a1 5).toNatClampNeg ≤ nc1 ∧ sm_W ex d 0 0 35 51 [some (.ref a0), some (.ref a1)] [] (n, y, sm_cp I (a1 + 3) (0 : Int32).toNatClampNeg (a0 + 3) (0 : Int32).toNatClampNeg (I a1 5).toNatClampNeg, L, R) Q) : sm_W ex d 0 0 35 34 [some (.ref a0), some (.ref a1)] [] (n, y, I, L, R) Q := sm_in (sm_in (And.intro (ok6_y0 ho0) (sm_gfr rfl (ok6_r2 ho0) (sm_in (sm_in (sm_in (And.intro (ok6_y0 ho1) (sm_gfr rfl (ok6_r2 ho1) (sm_in (sm_in (sm_in (And.intro (ok6_y0 ho0) ((have e1 := k.1; have k1 := k.2; (have e2 := k1.1; have k2 := k1.2; (have e3 := k2.1; have k3 := k2.2; sm_in (And.intro h1 (And.intro (Nat.le_of_ble_eq_true rfl) (Exists.intro nc0 (Exists.intro nc1 (And.intro (ok6_a3 ho0) (And.intro (ok6_a3 ho1) (And.intro (by decide) (And.intro (by decide) (And.intro e1 (And.intro e2 (And.intro e3 (k3))))))))))))))))))))))))))))
set_option maxRecDepth 100000 in
theorem w_X6_copyFrom_51 {ex : sm_O} {d n : Nat} {y : sm_Y} {I : Nat → Nat → Int32} {L : Nat → Nat → Int64} {R : Nat → Nat → Option Nat} {Q : sm_Q} {a0 : Nat} {a1 : Nat} {ns0 nc0 : Nat} {ns1 nc1 : Nat} (ho0 : ok6 y R a1 ns0 nc0) (ho1 : ok6 y R a0 ns1 nc1) (h1 : 1 ≤ d) (k : ¬ (I a1 5) < 0 ∧ (0 : Int32).toNatClampNeg + (I a1 5).toNatClampNeg ≤ nc0 ∧ (0 : Int32).toNatClampNeg + (I a1 5).toNatClampNeg ≤ nc1 ∧ sm_W ex d 0 0 35 68 [some (.ref a0), some (.ref a1)] [] (n, y, sm_cp I (a1 + 4) (0 : Int32).toNatClampNeg (a0 + 4) (0 : Int32).toNatClampNeg (I a1 5).toNatClampNeg, L, R) Q) : sm_W ex d 0 0 35 51 [some (.ref a0), some (.ref a1)] [] (n, y, I, L, R) Q := sm_in (sm_in (And.intro (ok6_y0 ho0) (sm_gfr rfl (ok6_r3 ho0) (sm_in (sm_in (sm_in (And.intro (ok6_y0 ho1) (sm_gfr rfl (ok6_r3 ho1) (sm_in (sm_in (sm_in (And.intro (ok6_y0 ho0) ((have e1 := k.1; have k1 := k.2; (have e2 := k1.1; have k2 := k1.2; (have e3 := k2.1; have k3 := k2.2; sm_in (And.intro h1 (And.intro (Nat.le_of_ble_eq_true rfl) (Exists.intro nc0 (Exists.intro nc1 (And.intro (ok6_a4 ho0) (And.intro (ok6_a4 ho1) (And.intro (by decide) (And.intro (by decide) (And.intro e1 (And.intro e2 (And.intro e3 (k3))))))))))))))))))))))))))))
set_option maxRecDepth 100000 in
theorem w_X6_copyFrom_68 {ex : sm_O} {d n : Nat} {y : sm_Y} {I : Nat → Nat → Int32} {L : Nat → Nat → Int64} {R : Nat → Nat → Option Nat} {Q : sm_Q} {a0 : Nat} {a1 : Nat} {ns0 nc0 : Nat} {ns1 nc1 : Nat} (ho0 : ok6 y R a1 ns0 nc0) (ho1 : ok6 y R a0 ns1 nc1) (h1 : 1 ≤ d) (k : ¬ (I a1 5) < 0 ∧ (0 : Int32).toNatClampNeg + (I a1 5).toNatClampNeg ≤ nc0 ∧ (0 : Int32).toNatClampNeg + (I a1 5).toNatClampNeg ≤ nc1 ∧ sm_W ex d 0 0 35 85 [some (.ref a0), some (.ref a1)] [] (n, y, sm_cp I (a1 + 5) (0 : Int32).toNatClampNeg (a0 + 5) (0 : Int32).toNatClampNeg (I a1 5).toNatClampNeg, L, R) Q) : sm_W ex d 0 0 35 68 [some (.ref a0), some (.ref a1)] [] (n, y, I, L, R) Q := sm_in (sm_in (And.intro (ok6_y0 ho0) (sm_gfr rfl (ok6_r4 ho0) (sm_in (sm_in (sm_in (And.intro (ok6_y0 ho1) (sm_gfr rfl (ok6_r4 ho1) (sm_in (sm_in (sm_in (And.intro (ok6_y0 ho0) ((have e1 := k.1; have k1 := k.2; (have e2 := k1.1; have k2 := k1.2; (have e3 := k2.1; have k3 := k2.2; sm_in (And.intro h1 (And.intro (Nat.le_of_ble_eq_true rfl) (Exists.intro nc0 (Exists.intro nc1 (And.intro (ok6_a5 ho0) (And.intro (ok6_a5 ho1) (And.intro (by decide) (And.intro (by decide) (And.intro e1 (And.intro e2 (And.intro e3 (k3))))))))))))))))))))))))))))
set_option maxRecDepth 100000 in
theorem w_X6_copyFrom_85 {ex : sm_O} {d n : Nat} {y : sm_Y} {I : Nat → Nat → Int32} {L : Nat → Nat → Int64} {R : Nat → Nat → Option Nat} {Q : sm_Q} {a0 : Nat} {a1 : Nat} {ns0 nc0 : Nat} {ns1 nc1 : Nat} (ho0 : ok6 y R a1 ns0 nc0) (ho1 : ok6 y R a0 ns1 nc1) (k : Q none (n, y, sm_st (sm_st I a0 5 (I a1 5)) a0 6 ((sm_st I a0 5 (I a1 5)) a1 6), L, R)) : sm_W ex d 0 0 35 85 [some (.ref a0), some (.ref a1)] [] (n, y, I, L, R) Q := sm_in (sm_in (sm_in (And.intro (ok6_y0 ho0) (sm_in (And.intro (ok6_y0 ho1) (sm_in (sm_in (sm_in (And.intro (ok6_y0 ho0) (sm_in (And.intro (ok6_y0 ho1) (sm_in (And.intro rfl (And.intro rfl k))))))))))))))
set_option maxRecDepth 100000 in
theorem w_X10_back_0 {ex : sm_O} {d n : Nat} {y : sm_Y} {I : Nat → Nat → Int32} {L : Nat → Nat → Int64} {R : Nat → Nat → Option Nat} {Q : sm_Q} {w0 : Option Value} {a1 : Int32} (k : if a1 < 0 then (sm_W ex d 0 0 110 9 [w0, some (.int a1)] [] (n, y, I, L, R) Q) else (if a1 < 2 then (sm_W ex d 0 0 110 15 [w0, some (.int a1)] [] (n, y, I, L, R) Q) else (sm_W ex d 0 0 110 9 [w0, some (.int a1)] [] (n, y, I, L, R) Q))) : sm_W ex d 0 0 110 0 [w0, some (.int a1)] [] (n, y, I, L, R) Q := sm_in (sm_in (And.intro (fun c1 => have k1t := Eq.mp (if_pos c1) k; k1t) (fun c1 => have k1f := Eq.mp (if_neg c1) k; sm_in (sm_in (sm_in (And.intro (fun c2 => have k2t := Eq.mp (if_pos c2) k1f; k2t) (fun c2 => have k2f := Eq.mp (if_neg c2) k1f; k2f)))))))
set_option maxRecDepth 100000 in
theorem w_X10_back_9 {ex : sm_O} {d n : Nat} {y : sm_Y} {I : Nat → Nat → Int32} {L : Nat → Nat → Int64} {R : Nat → Nat → Option Nat} {Q : sm_Q} {w1 : Option Value} {d1 : Nat} (hG : sm_G y R) (h1 : d1 < d) (k : sm_W ex d1 0 0 122 0 [some (.ref 0), some (.int (-1))] [] (n, y, I, L, R) (fun r μ1 => sm_W ex d 0 0 110 14 [some (.ref 0), w1] (r.toList ++ []) μ1 Q)) : sm_W ex d 0 0 110 9 [some (.ref 0), w1] [] (n, y, I, L, R) Q := sm_in (sm_in (sm_in (Exists.intro 10 (And.intro (hG.1 0 (Nat.le_of_ble_eq_true rfl)) (And.intro rfl (sm_calln h1 (Nat.le_of_ble_eq_true rfl) (Nat.le_of_ble_eq_true rfl) k))))))
set_option maxRecDepth 100000 in
theorem w_X10_back_14 {ex : sm_O} {d n : Nat} {y : sm_Y} {I : Nat → Nat → Int32} {L : Nat → Nat → Int64} {R : Nat → Nat → Option Nat} {Q : sm_Q} {w0 : Option Value} {w1 : Option Value} {s0 : Int32} (k : Q (some (.int s0)) (n, y, I, L, R)) : sm_W ex d 0 0 110 14 [w0, w1] [.int s0] (n, y, I, L, R) Q := sm_in (And.intro rfl k)
set_option maxRecDepth 100000 in
theorem w_X10_back_33 {ex : sm_O} {d n : Nat} {y : sm_Y} {I : Nat → Nat → Int32} {L : Nat → Nat → Int64} {R : Nat → Nat → Option Nat} {Q : sm_Q} {w1 : Option Value} {d1 : Nat} (hG : sm_G y R) (h1 : d1 < d) (k : sm_W ex d1 0 0 122 0 [some (.ref 0), some (.int (-2))] [] (n, y, I, L, R) (fun r μ1 => sm_W ex d 0 0 110 39 [some (.ref 0), w1] (r.toList ++ []) μ1 Q)) : sm_W ex d 0 0 110 33 [some (.ref 0), w1] [] (n, y, I, L, R) Q := sm_in (sm_in (sm_in (Exists.intro 10 (And.intro (hG.1 0 (Nat.le_of_ble_eq_true rfl)) (And.intro rfl (sm_calln h1 (Nat.le_of_ble_eq_true rfl) (Nat.le_of_ble_eq_true rfl) k))))))
set_option maxRecDepth 100000 in
theorem w_X10_back_39 {ex : sm_O} {d n : Nat} {y : sm_Y} {I : Nat → Nat → Int32} {L : Nat → Nat → Int64} {R : Nat → Nat → Option Nat} {Q : sm_Q} {w0 : Option Value} {w1 : Option Value} {s0 : Int32} (k : Q (some (.int s0)) (n, y, I, L, R)) : sm_W ex d 0 0 110 39 [w0, w1] [.int s0] (n, y, I, L, R) Q := sm_in (And.intro rfl k)
set_option maxRecDepth 100000 in
theorem w_X10_back_40 {ex : sm_O} {d n : Nat} {y : sm_Y} {I : Nat → Nat → Int32} {L : Nat → Nat → Int64} {R : Nat → Nat → Option Nat} {Q : sm_Q} {a1 : Int32} {q0 : Nat} {d1 : Nat} (hG : sm_G y R) (h1 : R 117 a1.toNatClampNeg = some q0) (h2 : d1 < d) (k : vp_in a1 2 ∧ sm_W ex d1 0 0 62 0 [some (.ref 1), some (.ref q0)] [] (n, y, I, L, R) (fun r μ1 => sm_W ex d 0 0 110 53 [some (.ref 0), some (.int a1)] (r.toList ++ []) μ1 Q)) : sm_W ex d 0 0 110 40 [some (.ref 0), some (.int a1)] [] (n, y, I, L, R) Q := sm_in (sm_in (And.intro (hG.1 0 (Nat.le_of_ble_eq_true rfl)) (sm_gfr rfl (hG.2 0 0 rfl) (sm_in (sm_in (And.intro (hG.1 0 (Nat.le_of_ble_eq_true rfl)) (sm_gfr rfl (hG.2 0 9 rfl) (sm_in ((have e1 := k.1; have k1 := k.2; sm_in (Exists.intro 2 (Exists.intro 9 (And.intro (hG.1 117 (Nat.le_of_ble_eq_true rfl)) (And.intro e1 (sm_rrs h1 (sm_in (Exists.intro 9 (And.intro (hG.1 1 (Nat.le_of_ble_eq_true rfl)) (And.intro rfl (sm_calln h2 (Nat.le_of_ble_eq_true rfl) (Nat.le_of_ble_eq_true rfl) k1))))))))))))))))))))
set_option maxRecDepth 100000 in
theorem w_X10_back_53 {ex : sm_O} {d n : Nat} {y : sm_Y} {I : Nat → Nat → Int32} {L : Nat → Nat → Int64} {R : Nat → Nat → Option Nat} {Q : sm_Q} {a1 : Int32} {q0 : Nat} {d1 : Nat} (hG : sm_G y R) (h1 : R 118 a1.toNatClampNeg = some q0) (h2 : d1 < d) (k : vp_in a1 2 ∧ sm_W ex d1 0 0 1 0 [some (.ref 6), some (.ref q0), none] [] (n, y, I, L, R) (fun r μ1 => sm_W ex d 0 0 110 66 [some (.ref 0), some (.int a1)] (r.toList ++ []) μ1 Q)) : sm_W ex d 0 0 110 53 [some (.ref 0), some (.int a1)] [] (n, y, I, L, R) Q := sm_in (sm_in (And.intro (hG.1 0 (Nat.le_of_ble_eq_true rfl)) (sm_gfr rfl (hG.2 0 1 rfl) (sm_in (sm_in (And.intro (hG.1 0 (Nat.le_of_ble_eq_true rfl)) (sm_gfr rfl (hG.2 0 10 rfl) (sm_in ((have e1 := k.1; have k1 := k.2; sm_in (Exists.intro 2 (Exists.intro 0 (And.intro (hG.1 118 (Nat.le_of_ble_eq_true rfl)) (And.intro e1 (sm_rrs h1 (sm_in (Exists.intro 0 (And.intro (hG.1 6 (Nat.le_of_ble_eq_true rfl)) (And.intro rfl (sm_calln h2 (Nat.le_of_ble_eq_true rfl) (Nat.le_of_ble_eq_true rfl) k1))))))))))))))))))))
set_option maxRecDepth 100000 in
theorem w_X10_back_66 {ex : sm_O} {d n : Nat} {y : sm_Y} {I : Nat → Nat → Int32} {L : Nat → Nat → Int64} {R : Nat → Nat → Option Nat} {Q : sm_Q} {w1 : Option Value} {d1 : Nat} (hG : sm_G y R) (h1 : d1 < d) (k : sm_W ex d1 0 0 21 0 [some (.ref 65)] [] (n, y, I, L, R) (fun r μ1 => sm_W ex d 0 0 110 76 [some (.ref 0), w1] (r.toList ++ []) μ1 Q)) : sm_W ex d 0 0 110 66 [some (.ref 0), w1] [] (n, y, I, L, R) Q := sm_in (sm_in (And.intro (hG.1 0 (Nat.le_of_ble_eq_true rfl)) (sm_gfr rfl (hG.2 0 3 rfl) (sm_in (And.intro (hG.1 54 (Nat.le_of_ble_eq_true rfl)) (sm_gfr rfl (hG.2 54 5 rfl) (sm_in (Exists.intro 4 (And.intro (hG.1 65 (Nat.le_of_ble_eq_true rfl)) (And.intro rfl (sm_calln h1 (Nat.le_of_ble_eq_true rfl) (Nat.le_of_ble_eq_true rfl) k)))))))))))
set_option maxRecDepth 100000 in
theorem w_X10_back_76 {ex : sm_O} {d n : Nat} {y : sm_Y} {I : Nat → Nat → Int32} {L : Nat → Nat → Int64} {R : Nat → Nat → Option Nat} {Q : sm_Q} {w1 : Option Value} {d1 : Nat} (hG : sm_G y R) (h1 : d1 < d) (k : sm_W ex d1 0 0 121 0 [some (.ref 0), some (.int 0)] [] (n, y, I, L, R) (fun r μ1 => sm_W ex d 0 0 110 81 [some (.ref 0), w1] (r.toList ++ []) μ1 Q)) : sm_W ex d 0 0 110 76 [some (.ref 0), w1] [] (n, y, I, L, R) Q := sm_in (sm_in (sm_in (Exists.intro 10 (And.intro (hG.1 0 (Nat.le_of_ble_eq_true rfl)) (And.intro rfl (sm_calln h1 (Nat.le_of_ble_eq_true rfl) (Nat.le_of_ble_eq_true rfl) k))))))
set_option maxRecDepth 100000 in
theorem w_X10_back_81 {ex : sm_O} {d n : Nat} {y : sm_Y} {I : Nat → Nat → Int32} {L : Nat → Nat → Int64} {R : Nat → Nat → Option Nat} {Q : sm_Q} {w0 : Option Value} {w1 : Option Value} {s0 : Int32} (k : Q (some (.int s0)) (n, y, I, L, R)) : sm_W ex d 0 0 110 81 [w0, w1] [.int s0] (n, y, I, L, R) Q := sm_in (And.intro rfl k)
set_option maxRecDepth 100000 in
theorem w_X11_back_0 {ex : sm_O} {d n : Nat} {y : sm_Y} {I : Nat → Nat → Int32} {L : Nat → Nat → Int64} {R : Nat → Nat → Option Nat} {Q : sm_Q} {w2 : Option Value} {a1 : Int32} (hG : sm_G y R) (hdep : 1 ≤ d) (k : sm_W ex d 0 0 136 12 [some (.ref 123), some (.int a1), w2] [.int (sm_b ((0 : Int64) ≤ a1.toInt64 ∧ a1.toInt64 ≤ (1 : Int64)))] (n, y, sm_st I 123 0 0, L, R) Q) : sm_W ex d 0 0 136 0 [some (.ref 123), some (.int a1), w2] [] (n, y, I, L, R) Q := sm_in (sm_in (sm_in (And.intro (hG.1 123 (Nat.le_of_ble_eq_true rfl)) (sm_in (sm_in (sm_in (sm_in (sm_in (And.intro (Nat.le_of_ble_eq_true rfl) (sm_calln (d1 := 0) (Nat.lt_of_lt_of_le (Nat.lt_succ_self 0) (Nat.le_trans (Nat.le_of_ble_eq_true rfl) hdep)) (Nat.le_of_ble_eq_true rfl) (Nat.le_of_ble_eq_true rfl) (c_X11_in  (k))))))))))))
set_option maxRecDepth 100000 in
theorem w_X11_back_12 {ex : sm_O} {d n : Nat} {y : sm_Y} {I : Nat → Nat → Int32} {L : Nat → Nat → Int64} {R : Nat → Nat → Option Nat} {Q : sm_Q} {w2 : Option Value} {a1 : Int32} {s0 : Int32} {d1 : Nat} (hG : sm_G y R) (h1 : d1 < d) (k : if s0 = 0 then (sm_W ex d1 0 0 128 0 [some (.ref 123), some (.int (-1))] [] (n, y, I, L, R) (fun r μ1 => sm_W ex d 0 0 136 20 [some (.ref 123), some (.int a1), w2] (r.toList ++ []) μ1 Q)) else (vp_in a1 2 ∧ (if (I 127 a1.toNatClampNeg) = 0 then (sm_W ex d1 0 0 128 0 [some (.ref 123), some (.int (-2))] [] (n, y, I, L, R) (fun r μ1 => sm_W ex d 0 0 136 36 [some (.ref 123), some (.int a1), w2] (r.toList ++ []) μ1 Q)) else (sm_W ex d 0 0 136 39 [some (.ref 123), some (.int a1), some (.int 0)] [] (n, y, I, L, R) Q)))) : sm_W ex d 0 0 136 12 [some (.ref 123), some (.int a1), w2] [.int s0] (n, y, I, L, R) Q := sm_in (And.intro (fun c1 => have k1f := Eq.mp (if_neg c1) k; sm_in (sm_in (And.intro (hG.1 123 (Nat.le_of_ble_eq_true rfl)) (sm_gfr rfl (hG.2 123 5 rfl) (sm_in ((have e2 := k1f.1; have k2 := k1f.2; sm_in (Exists.intro 2 (And.intro (hG.1 127 (Nat.le_of_ble_eq_true rfl)) (And.intro e2 (sm_in (And.intro (fun c3 => have k3f := Eq.mp (if_neg c3) k2; sm_in (sm_in (And.intro (Nat.le_of_ble_eq_true rfl) (k3f)))) (fun c3 => have k3t := Eq.mp (if_pos c3) k2; sm_in (sm_in (sm_in (Exists.intro 11 (And.intro (hG.1 123 (Nat.le_of_ble_eq_true rfl)) (And.intro rfl (sm_calln h1 (Nat.le_of_ble_eq_true rfl) (Nat.le_of_ble_eq_true rfl) k3t))))))))))))))))))) (fun c1 => have k1t := Eq.mp (if_pos c1) k; sm_in (sm_in (sm_in (Exists.intro 11 (And.intro (hG.1 123 (Nat.le_of_ble_eq_true rfl)) (And.intro rfl (sm_calln h1 (Nat.le_of_ble_eq_true rfl) (Nat.le_of_ble_eq_true rfl) k1t))))))))
set_option maxRecDepth 100000 in
theorem w_X11_back_20 {ex : sm_O} {d n : Nat} {y : sm_Y} {I : Nat → Nat → Int32} {L : Nat → Nat → Int64} {R : Nat → Nat → Option Nat} {Q : sm_Q} {w0 : Option Value} {w1 : Option Value} {w2 : Option Value} {s0 : Int32} (k : Q (some (.int s0)) (n, y, I, L, R)) : sm_W ex d 0 0 136 20 [w0, w1, w2] [.int s0] (n, y, I, L, R) Q := sm_in (And.intro rfl k)
set_option maxRecDepth 100000 in
theorem w_X11_back_36 {ex : sm_O} {d n : Nat} {y : sm_Y} {I : Nat → Nat → Int32} {L : Nat → Nat → Int64} {R : Nat → Nat → Option Nat} {Q : sm_Q} {w0 : Option Value} {w1 : Option Value} {w2 : Option Value} {s0 : Int32} (k : Q (some (.int s0)) (n, y, I, L, R)) : sm_W ex d 0 0 136 36 [w0, w1, w2] [.int s0] (n, y, I, L, R) Q := sm_in (And.intro rfl k)
set_option maxRecDepth 100000 in
theorem w_X11_back_39 {ex : sm_O} {d n : Nat} {y : sm_Y} {I : Nat → Nat → Int32} {L : Nat → Nat → Int64} {R : Nat → Nat → Option Nat} {Q : sm_Q} {a1 : Int32} {a2 : Int32} {d1 : Nat} (hG : sm_G y R) (h1 : d1 < d) (k : if 5450 ≤ a2 then (sm_W ex d1 0 0 130 0 [some (.ref 123), some (.int 0)] [] (n, y, I, L, R) (fun r μ1 => sm_W ex d 0 0 136 75 [some (.ref 123), some (.int a1), some (.int a2)] (r.toList ++ []) μ1 Q)) else (vp_in ((5450 * a1) + a2) 10900 ∧ vp_in a2 5450 ∧ sm_W ex d 0 0 136 39 [some (.ref 123), some (.int a1), some (.int (a2 + 1))] [] (n, y, sm_st I 125 a2.toNatClampNeg (I 126 ((5450 * a1) + a2).toNatClampNeg), L, R) Q)) : sm_W ex d 0 0 136 39 [some (.ref 123), some (.int a1), some (.int a2)] [] (n, y, I, L, R) Q := sm_in (sm_in (sm_in (And.intro (fun c1 => have k1t := Eq.mp (if_pos c1) k; sm_in (sm_in (sm_in (Exists.intro 11 (And.intro (hG.1 123 (Nat.le_of_ble_eq_true rfl)) (And.intro rfl (sm_calln h1 (Nat.le_of_ble_eq_true rfl) (Nat.le_of_ble_eq_true rfl) k1t))))))) (fun c1 => have k1f := Eq.mp (if_neg c1) k; sm_in (sm_in (And.intro (hG.1 123 (Nat.le_of_ble_eq_true rfl)) (sm_gfr rfl (hG.2 123 3 rfl) (sm_in (sm_in (sm_in (And.intro (hG.1 123 (Nat.le_of_ble_eq_true rfl)) (sm_gfr rfl (hG.2 123 4 rfl) (sm_in (sm_in (sm_in (sm_in (sm_in ((have e2 := k1f.1; have k2 := k1f.2; sm_in (Exists.intro 10900 (And.intro (hG.1 126 (Nat.le_of_ble_eq_true rfl)) (And.intro e2 ((have e3 := k2.1; have k3 := k2.2; sm_in (Exists.intro 5450 (And.intro (hG.1 125 (Nat.le_of_ble_eq_true rfl)) (And.intro e3 (sm_in (And.intro (Nat.le_of_ble_eq_true rfl) (sm_in (k3)))))))))))))))))))))))))))))))
set_option maxRecDepth 100000 in
theorem w_X11_back_75 {ex : sm_O} {d n : Nat} {y : sm_Y} {I : Nat → Nat → Int32} {L : Nat → Nat → Int64} {R : Nat → Nat → Option Nat} {Q : sm_Q} {w0 : Option Value} {w1 : Option Value} {w2 : Option Value} {s0 : Int32} (k : Q (some (.int s0)) (n, y, I, L, R)) : sm_W ex d 0 0 136 75 [w0, w1, w2] [.int s0] (n, y, I, L, R) Q := sm_in (And.intro rfl k)
set_option maxRecDepth 100000 in
theorem w_X11_image_0 {ex : sm_O} {d n : Nat} {y : sm_Y} {I : Nat → Nat → Int32} {L : Nat → Nat → Int64} {R : Nat → Nat → Option Nat} {Q : sm_Q} {w2 : Option Value} {a1 : Int32} (hG : sm_G y R) (hdep : 1 ≤ d) (k : sm_W ex d 0 0 135 12 [some (.ref 123), some (.int a1), w2] [.int (sm_b ((0 : Int64) ≤ a1.toInt64 ∧ a1.toInt64 ≤ (1 : Int64)))] (n, y, sm_st I 123 0 0, L, R) Q) : sm_W ex d 0 0 135 0 [some (.ref 123), some (.int a1), w2] [] (n, y, I, L, R) Q := sm_in (sm_in (sm_in (And.intro (hG.1 123 (Nat.le_of_ble_eq_true rfl)) (sm_in (sm_in (sm_in (sm_in (sm_in (And.intro (Nat.le_of_ble_eq_true rfl) (sm_calln (d1 := 0) (Nat.lt_of_lt_of_le (Nat.lt_succ_self 0) (Nat.le_trans (Nat.le_of_ble_eq_true rfl) hdep)) (Nat.le_of_ble_eq_true rfl) (Nat.le_of_ble_eq_true rfl) (c_X11_in  (k))))))))))))
set_option maxRecDepth 100000 in
theorem w_X11_image_12 {ex : sm_O} {d n : Nat} {y : sm_Y} {I : Nat → Nat → Int32} {L : Nat → Nat → Int64} {R : Nat → Nat → Option Nat} {Q : sm_Q} {w2 : Option Value} {a1 : Int32} {s0 : Int32} {d1 : Nat} (hG : sm_G y R) (h1 : d1 < d) (k : if s0 = 0 then (sm_W ex d1 0 0 128 0 [some (.ref 123), some (.int (-1))] [] (n, y, I, L, R) (fun r μ1 => sm_W ex d 0 0 135 20 [some (.ref 123), some (.int a1), w2] (r.toList ++ []) μ1 Q)) else (sm_W ex d 0 0 135 23 [some (.ref 123), some (.int a1), some (.int 0)] [] (n, y, I, L, R) Q)) : sm_W ex d 0 0 135 12 [some (.ref 123), some (.int a1), w2] [.int s0] (n, y, I, L, R) Q := sm_in (And.intro (fun c1 => have k1f := Eq.mp (if_neg c1) k; sm_in (sm_in (And.intro (Nat.le_of_ble_eq_true rfl) (k1f)))) (fun c1 => have k1t := Eq.mp (if_pos c1) k; sm_in (sm_in (sm_in (Exists.intro 11 (And.intro (hG.1 123 (Nat.le_of_ble_eq_true rfl)) (And.intro rfl (sm_calln h1 (Nat.le_of_ble_eq_true rfl) (Nat.le_of_ble_eq_true rfl) k1t))))))))
set_option maxRecDepth 100000 in
theorem w_X11_image_20 {ex : sm_O} {d n : Nat} {y : sm_Y} {I : Nat → Nat → Int32} {L : Nat → Nat → Int64} {R : Nat → Nat → Option Nat} {Q : sm_Q} {w0 : Option Value} {w1 : Option Value} {w2 : Option Value} {s0 : Int32} (k : Q (some (.int s0)) (n, y, I, L, R)) : sm_W ex d 0 0 135 20 [w0, w1, w2] [.int s0] (n, y, I, L, R) Q := sm_in (And.intro rfl k)
set_option maxRecDepth 100000 in
theorem w_X11_image_23 {ex : sm_O} {d n : Nat} {y : sm_Y} {I : Nat → Nat → Int32} {L : Nat → Nat → Int64} {R : Nat → Nat → Option Nat} {Q : sm_Q} {a1 : Int32} {a2 : Int32} {d1 : Nat} (hG : sm_G y R) (h1 : d1 < d) (k : if 5450 ≤ a2 then (vp_in a1 2 ∧ sm_W ex d1 0 0 128 0 [some (.ref 123), some (.int 0)] [] (n, y, sm_st I 127 a1.toNatClampNeg 1, L, R) (fun r μ1 => sm_W ex d 0 0 135 66 [some (.ref 123), some (.int a1), some (.int a2)] (r.toList ++ []) μ1 Q)) else (vp_in a2 5450 ∧ vp_in ((5450 * a1) + a2) 10900 ∧ sm_W ex d 0 0 135 23 [some (.ref 123), some (.int a1), some (.int (a2 + 1))] [] (n, y, sm_st I 126 (((5450 * a1) + a2).toNatClampNeg) (I 125 a2.toNatClampNeg), L, R) Q)) : sm_W ex d 0 0 135 23 [some (.ref 123), some (.int a1), some (.int a2)] [] (n, y, I, L, R) Q := sm_in (sm_in (sm_in (And.intro (fun c1 => have k1t := Eq.mp (if_pos c1) k; sm_in (sm_in (And.intro (hG.1 123 (Nat.le_of_ble_eq_true rfl)) (sm_gfr rfl (hG.2 123 5 rfl) (sm_in (sm_in ((have e2 := k1t.1; have k2 := k1t.2; sm_in (Exists.intro 2 (And.intro (hG.1 127 (Nat.le_of_ble_eq_true rfl)) (And.intro e2 (And.intro (Or.inr rfl) (sm_in (sm_in (sm_in (Exists.intro 11 (And.intro (hG.1 123 (Nat.le_of_ble_eq_true rfl)) (And.intro rfl (sm_calln h1 (Nat.le_of_ble_eq_true rfl) (Nat.le_of_ble_eq_true rfl) k2))))))))))))))))))) (fun c1 => have k1f := Eq.mp (if_neg c1) k; sm_in (sm_in (And.intro (hG.1 123 (Nat.le_of_ble_eq_true rfl)) (sm_gfr rfl (hG.2 123 4 rfl) (sm_in (sm_in (sm_in (sm_in (sm_in (sm_in (sm_in (And.intro (hG.1 123 (Nat.le_of_ble_eq_true rfl)) (sm_gfr rfl (hG.2 123 3 rfl) (sm_in ((have e3 := k1f.1; have k3 := k1f.2; sm_in (Exists.intro 5450 (And.intro (hG.1 125 (Nat.le_of_ble_eq_true rfl)) (And.intro e3 ((have e4 := k3.1; have k4 := k3.2; sm_in (Exists.intro 10900 (And.intro (hG.1 126 (Nat.le_of_ble_eq_true rfl)) (And.intro e4 (sm_in (And.intro (Nat.le_of_ble_eq_true rfl) (sm_in (k4)))))))))))))))))))))))))))))))
set_option maxRecDepth 100000 in
theorem w_X11_image_66 {ex : sm_O} {d n : Nat} {y : sm_Y} {I : Nat → Nat → Int32} {L : Nat → Nat → Int64} {R : Nat → Nat → Option Nat} {Q : sm_Q} {w0 : Option Value} {w1 : Option Value} {w2 : Option Value} {s0 : Int32} (k : Q (some (.int s0)) (n, y, I, L, R)) : sm_W ex d 0 0 135 66 [w0, w1, w2] [.int s0] (n, y, I, L, R) Q := sm_in (And.intro rfl k)
-- IMAGES: back
theorem cLaw_copy {I I' : Nat → Nat → Int32} {o o1 : Nat} {l : Law} (hl : cLaw I o1 l) (h5 : I' o 5 = I o1 5) (h6 : I' o 6 = I o1 6) (h : ∀ len, I o1 6 = nI len → len ≤ 200 → ∀ k, k < len → I' (o + 1) k = I (o1 + 1) k) (hc : ∀ c, c < l.length → I' (o + 2) c = I (o1 + 2) c ∧ I' (o + 3) c = I (o1 + 3) c ∧ I' (o + 4) c = I (o1 + 4) c) : cLaw I' o l := by
  obtain ⟨h1, h2, cd, len, h3, h4⟩ := hl
  refine ⟨h5.trans h1, h2, cd, len, ⟨h6.trans h3.1, h3.2.1, fun k hk => ?_⟩, fun c x hx => ?_⟩
  · rw [h len h3.1 h3.2.1 k hk]
    exact h3.2.2 k hk
  · have hcl : c < l.length := (List.getElem?_eq_some_iff.mp hx).1
    obtain ⟨e2, e3, e4⟩ := hc c hcl
    unfold cCl
    rw [e2, e3, e4]
    exact h4 c x hx
set_option maxHeartbeats 1000000 in
theorem c_X6_copyFrom {ex : sm_O} {n : Nat} {y : sm_Y} {I : Nat → Nat → Int32} {L : Nat → Nat → Int64} {R : Nat → Nat → Option Nat} {Q : sm_Q} {d o o1 : Nat} {l : Law} (hd : 1 ≤ d) (ho : ok6 y R o 200 12) (ho1 : ok6 y R o1 200 12) (ha : o + 5 < o1 ∨ o1 + 5 < o) (hl : cLaw I o1 l)
    (k : ∀ (I' : Nat → Nat → Int32), (∀ a j, ¬ (o ≤ a ∧ a ≤ o + 5) → I' a j = I a j) → cLaw I' o l → Q none (n, y, I', L, R)) : sm_W ex d 0 0 35 0 [some (.ref o), some (.ref o1)] [] (n, y, I, L, R) Q := by
  have hl0 := hl
  obtain ⟨h1, h2, cd, len, h3, h4⟩ := hl
  have h3l := h3.2.1
  have cl : (nI len).toNatClampNeg = len := nI_clamp (by omega)
  have cc : (nI l.length).toNatClampNeg = l.length := nI_clamp (by omega)
  refine w_X6_copyFrom_0 ho1 ho hd ?_
  rw [h3.1, cl, z0, Nat.zero_add]
  refine ⟨nI_pos (by omega), by omega, by omega, ?_⟩
  generalize hI1 : sm_cp I (o1 + 1) 0 (o + 1) 0 len = I1
  have f1 : ∀ a j, a ≠ o + 1 → I1 a j = I a j := fun a j q => by rw [← hI1]; exact sm_cp_or _ (by omega)
  have g1 : ∀ j, j < len → I1 (o + 1) j = I (o1 + 1) j := fun j hj => by
    rw [← hI1]
    refine (sm_cp_in _ _ _ (by omega) (by omega)).trans ?_
    rw [Nat.zero_add, Nat.sub_zero]
  refine w_X6_copyFrom_17 ho1 ho hd ?_
  rw [f1 o1 5 (by omega), h1, cc, z0, Nat.zero_add]
  refine ⟨nI_pos (by omega), by omega, by omega, ?_⟩
  generalize hI2 : sm_cp I1 (o1 + 2) 0 (o + 2) 0 l.length = I2
  have f2 : ∀ a j, a ≠ o + 2 → I2 a j = I1 a j := fun a j q => by rw [← hI2]; exact sm_cp_or _ (by omega)
  have g2 : ∀ j, j < l.length → I2 (o + 2) j = I (o1 + 2) j := fun j hj => by
    rw [← hI2]
    refine (sm_cp_in _ _ _ (by omega) (by omega)).trans ?_
    rw [Nat.zero_add, Nat.sub_zero]
    exact f1 _ _ (by omega)
  refine w_X6_copyFrom_34 ho1 ho hd ?_
  rw [f2 o1 5 (by omega), f1 o1 5 (by omega), h1, cc, z0, Nat.zero_add]
  refine ⟨nI_pos (by omega), by omega, by omega, ?_⟩
  generalize hI3 : sm_cp I2 (o1 + 3) 0 (o + 3) 0 l.length = I3
  have f3 : ∀ a j, a ≠ o + 3 → I3 a j = I2 a j := fun a j q => by rw [← hI3]; exact sm_cp_or _ (by omega)
  have g3 : ∀ j, j < l.length → I3 (o + 3) j = I (o1 + 3) j := fun j hj => by
    rw [← hI3]
    refine (sm_cp_in _ _ _ (by omega) (by omega)).trans ?_
    rw [Nat.zero_add, Nat.sub_zero]
    exact (f2 _ _ (by omega)).trans (f1 _ _ (by omega))
  refine w_X6_copyFrom_51 ho1 ho hd ?_
  rw [f3 o1 5 (by omega), f2 o1 5 (by omega), f1 o1 5 (by omega), h1, cc, z0, Nat.zero_add]
  refine ⟨nI_pos (by omega), by omega, by omega, ?_⟩
  generalize hI4 : sm_cp I3 (o1 + 4) 0 (o + 4) 0 l.length = I4
  have f4 : ∀ a j, a ≠ o + 4 → I4 a j = I3 a j := fun a j q => by rw [← hI4]; exact sm_cp_or _ (by omega)
  have g4 : ∀ j, j < l.length → I4 (o + 4) j = I (o1 + 4) j := fun j hj => by
    rw [← hI4]
    refine (sm_cp_in _ _ _ (by omega) (by omega)).trans ?_
    rw [Nat.zero_add, Nat.sub_zero]
    exact (f3 _ _ (by omega)).trans ((f2 _ _ (by omega)).trans (f1 _ _ (by omega)))
  refine w_X6_copyFrom_68 ho1 ho hd ?_
  rw [f4 o1 5 (by omega), f3 o1 5 (by omega), f2 o1 5 (by omega), f1 o1 5 (by omega), h1, cc, z0, Nat.zero_add]
  refine ⟨nI_pos (by omega), by omega, by omega, ?_⟩
  generalize hI5 : sm_cp I4 (o1 + 5) 0 (o + 5) 0 l.length = I5
  have f5 : ∀ a j, a ≠ o + 5 → I5 a j = I4 a j := fun a j q => by rw [← hI5]; exact sm_cp_or _ (by omega)
  have f14 : ∀ a j, ¬ (o + 1 ≤ a ∧ a ≤ o + 5) → I5 a j = I a j := fun a j q => (f5 a j (by omega)).trans ((f4 a j (by omega)).trans ((f3 a j (by omega)).trans ((f2 a j (by omega)).trans (f1 a j (by omega)))))
  refine w_X6_copyFrom_85 ho1 ho ?_
  rw [sm_st_o _ _ (show o1 ≠ o by omega)]
  generalize hI6 : sm_st (sm_st I5 o 5 (I5 o1 5)) o 6 (I5 o1 6) = I6
  have f6 : ∀ a j, a ≠ o → I6 a j = I5 a j := fun a j q => by rw [← hI6, sm_st_o _ _ q, sm_st_o _ _ q]
  refine k I6 (fun a j q => (f6 a j (by omega)).trans (f14 a j (by omega))) (cLaw_copy hl0 ?_ ?_ (fun len2 e2 l2 j hj => ?_) (fun c hc => ⟨?_, ?_, ?_⟩))
  · rw [← hI6, sm_st_j _ _ (by decide), sm_st_s]
    exact f14 _ _ (by omega)
  · rw [← hI6, sm_st_s]
    exact f14 _ _ (by omega)
  · rw [h3.1, nI_eq (by omega) (by omega)] at e2
    subst e2
    exact (f6 _ _ (by omega)).trans ((f5 _ _ (by omega)).trans ((f4 _ _ (by omega)).trans ((f3 _ _ (by omega)).trans ((f2 _ _ (by omega)).trans (g1 j hj)))))
  · exact (f6 _ _ (by omega)).trans ((f5 _ _ (by omega)).trans ((f4 _ _ (by omega)).trans ((f3 _ _ (by omega)).trans (g2 c hc))))
  · exact (f6 _ _ (by omega)).trans ((f5 _ _ (by omega)).trans ((f4 _ _ (by omega)).trans (g3 c hc)))
  · exact (f6 _ _ (by omega)).trans ((f5 _ _ (by omega)).trans (g4 c hc))
set_option maxHeartbeats 1000000 in
theorem c_X0_copyFrom {ex : sm_O} {n : Nat} {y : sm_Y} {I : Nat → Nat → Int32} {L : Nat → Nat → Int64} {R : Nat → Nat → Option Nat} {Q : sm_Q} {d o o1 : Nat} {w2 : Option Value} {b : Bk} (hd : 2 ≤ d) (ho : ok0 y R o) (ho1 : ok0 y R o1) (ha : o + 43 < o1 ∨ o1 + 43 < o) (hb6 : b.1.length ≤ 6) (hb : cB b o1 I) (hz : cLaw I (o + 2) [])
    (k : ∀ (I' : Nat → Nat → Int32), (∀ a j, ¬ (o ≤ a ∧ a ≤ o + 43) → I' a j = I a j) → cB b o I' → Q none (n, y, I', L, R)) : sm_W ex d 0 0 1 0 [some (.ref o), some (.ref o1), w2] [] (n, y, I, L, R) Q := by
  have loop : ∀ (q i : Nat) (I2 : Nat → Nat → Int32), i + q = b.1.length → (∀ a j, ¬ (o + 8 ≤ a ∧ a ≤ o + 43) → I2 a j = I a j) → (∀ (i' : Nat) (l : Law), i' < i → b.1[i']? = some l → cLaw I2 (o + (8 + 6 * i')) l) → sm_W ex d 0 0 1 2 [some (.ref o), some (.ref o1), some (.int (nI i))] [] (n, y, I2, L, R) Q := by
    intro q
    induction q with
    | zero =>
      intro i I2 hi f2 h2
      obtain rfl : i = b.1.length := by omega
      have e2 : I2 o1 2 = nI b.1.length := (f2 o1 2 (by omega)).trans hb.1
      have e3 : I2 o1 3 = fI b.2 := (f2 o1 3 (by omega)).trans hb.2.1
      refine w_X0_copyFrom_2 ho1 ho ?_
      rw [e2, if_pos (Int32.le_refl _), sm_st_o _ _ (show o1 ≠ o by omega), e3]
      refine k _ (fun a j q => ?_) ⟨?_, ?_, ?_, fun i' l hl => ?_⟩
      · rw [sm_st_o _ _ (by omega), sm_st_o _ _ (by omega)]
        exact f2 a j (by omega)
      · rw [sm_st_j _ _ (by decide), sm_st_s]
      · rw [sm_st_s]
      · exact cLaw_kept (fun a j q1 q2 => by rw [sm_st_o _ _ (by omega), sm_st_o _ _ (by omega)]; exact f2 a j (by omega)) hz
      · exact cLaw_kept (fun a j q1 q2 => by rw [sm_st_o _ _ (by omega), sm_st_o _ _ (by omega)]) (h2 i' l (List.getElem?_eq_some_iff.mp hl).1 hl)
    | succ q ih =>
      intro i I2 hi f2 h2
      have hil : i < b.1.length := by omega
      have e2 : I2 o1 2 = nI b.1.length := (f2 o1 2 (by omega)).trans hb.1
      refine w_X0_copyFrom_2 ho1 ho ?_
      rw [e2, if_neg (by rw [nI_leI (by omega) (by omega)]; omega)]
      have hgl := (ho.2.2.2.2.2 i (by omega)).2
      have hgl1 := (ho1.2.2.2.2.2 i (by omega)).2
      have hcl : (nI i).toNatClampNeg = i := nI_clamp (by omega)
      refine w_X0_copyFrom_10 (ns2 := 200) (nc2 := 12) (d1 := 1) ho ho1 (by rw [hcl]; exact hgl) (by omega) ?_
      rw [hcl]
      refine ⟨vp_in_nI (by omega) (by decide), ?_⟩
      obtain ⟨l, hl⟩ : ∃ l, b.1[i]? = some l := ⟨b.1[i], List.getElem?_eq_getElem hil⟩
      have hcl1 : cLaw I2 (o1 + (8 + 6 * i)) l := cLaw_kept (fun a j q1 q2 => f2 a j (by omega)) (hb.2.2.2 i l hl)
      refine c_X6_copyFrom (Nat.le_refl 1) hgl hgl1 (by omega) hcl1 ?_
      intro I3 f3 l3
      refine w_X0_copyFrom_25 ?_
      rw [sm_n1]
      refine ih (i + 1) I3 (by omega) (fun a j q => (f3 a j (by omega)).trans (f2 a j (by omega))) (fun i' l' hi' hl' => ?_)
      by_cases e : i' = i
      · subst e
        rw [hl] at hl'
        cases hl'
        exact l3
      · exact cLaw_kept (fun a j q1 q2 => f3 a j (by omega)) (h2 i' l' (by omega) hl')
  refine w_X0_copyFrom_0 ?_
  exact loop b.1.length 0 I (by omega) (fun _ _ _ => rfl) (fun i' l hi => absurd hi (by omega))
def f_back (g : GG) (a : Int32) : Int32 × GG := if 0 ≤ a ∧ a < 2 then (match gI g a.toNatClampNeg with
  | none => (-2, gRe g 2)
  | some x => (0, gSt (x, [], g.2.2) 0)) else (-1, gRe g 1)
theorem Wf_back {g : GG} (hw : Wf g) (a : Int32) : Wf (f_back g a).2 := by
  unfold f_back
  by_cases h : 0 ≤ a ∧ a < 2
  · rw [if_pos h]
    cases hx : gI g a.toNatClampNeg with
    | none => exact hw
    | some x => exact ⟨hw.2.2.2.1 _ x hx, ⟨Nat.zero_le 16, fun z hz => by cases hz⟩, hw.2.2.1, hw.2.2.2.1, hw.2.2.2.2⟩
  · rw [if_neg h]
    exact hw
theorem le1_lt2 (a : Int32) : (0 ≤ a ∧ a ≤ 1) ↔ (0 ≤ a ∧ a < 2) := by
  rw [Int32.le_iff_toInt_le, Int32.le_iff_toInt_le, Int32.lt_iff_toInt_lt, show (0 : Int32).toInt = 0 from rfl, show (1 : Int32).toInt = 1 from rfl, show (2 : Int32).toInt = 2 from rfl]
  omega
theorem sm_rrn {r : Option Nat} {f : Value → Prop} (h : r = none) (k : f .null) : sm_rr r f := ⟨fun _ => k, fun q' hq => by rw [h] at hq; cases hq⟩
theorem w_X10_back_15n {ex : sm_O} {n : Nat} {y : sm_Y} {I : Nat → Nat → Int32} {L : Nat → Nat → Int64} {R : Nat → Nat → Option Nat} {Q : sm_Q} {d : Nat} {k0 : Nat} (hG : sm_G y R) (hk : k0 < 2) (hr : R 117 k0 = none) (k : sm_W ex d 0 0 110 33 [some (.ref 0), some (.int (nI k0))] [] (n, y, I, L, R) Q) : sm_W ex d 0 0 110 15 [some (.ref 0), some (.int (nI k0))] [] (n, y, I, L, R) Q := sm_in (sm_in (And.intro (hG.1 0 (Nat.le_of_ble_eq_true rfl)) (sm_gfr rfl (hG.2 0 9 rfl) (sm_in (sm_in (Exists.intro 2 (Exists.intro 9 (And.intro (hG.1 117 (Nat.le_of_ble_eq_true rfl)) (And.intro (vp_in_nI hk (by decide)) (sm_rrn (by rw [nI_clamp (by omega)]; exact hr) (sm_in k)))))))))))
theorem w_X10_back_15s {ex : sm_O} {n : Nat} {y : sm_Y} {I : Nat → Nat → Int32} {L : Nat → Nat → Int64} {R : Nat → Nat → Option Nat} {Q : sm_Q} {d : Nat} {k0 o : Nat} (hG : sm_G y R) (hk : k0 < 2) (hr : R 117 k0 = some o) (k : sm_W ex d 0 0 110 24 [some (.ref 0), some (.int (nI k0))] [] (n, y, I, L, R) Q) : sm_W ex d 0 0 110 15 [some (.ref 0), some (.int (nI k0))] [] (n, y, I, L, R) Q := sm_in (sm_in (And.intro (hG.1 0 (Nat.le_of_ble_eq_true rfl)) (sm_gfr rfl (hG.2 0 9 rfl) (sm_in (sm_in (Exists.intro 2 (Exists.intro 9 (And.intro (hG.1 117 (Nat.le_of_ble_eq_true rfl)) (And.intro (vp_in_nI hk (by decide)) (sm_rrs (by rw [nI_clamp (by omega)]; exact hr) (sm_in k)))))))))))
theorem w_X10_back_24s {ex : sm_O} {n : Nat} {y : sm_Y} {I : Nat → Nat → Int32} {L : Nat → Nat → Int64} {R : Nat → Nat → Option Nat} {Q : sm_Q} {d : Nat} {k0 o : Nat} (hG : sm_G y R) (hk : k0 < 2) (hr : R 118 k0 = some o) (k : sm_W ex d 0 0 110 40 [some (.ref 0), some (.int (nI k0))] [] (n, y, I, L, R) Q) : sm_W ex d 0 0 110 24 [some (.ref 0), some (.int (nI k0))] [] (n, y, I, L, R) Q := sm_in (sm_in (And.intro (hG.1 0 (Nat.le_of_ble_eq_true rfl)) (sm_gfr rfl (hG.2 0 10 rfl) (sm_in (sm_in (Exists.intro 2 (Exists.intro 0 (And.intro (hG.1 118 (Nat.le_of_ble_eq_true rfl)) (And.intro (vp_in_nI hk (by decide)) (sm_rrs (by rw [nI_clamp (by omega)]; exact hr) (sm_in k)))))))))))

set_option maxHeartbeats 1000000 in
theorem C_back {ex : sm_O} {d : Nat} {g : GG} {a : Int32} (hd : 4 ≤ d) (hw : Wf g) : CM ex d 110 [some (.ref 0), some (.int a)] g (f_back g a).1 (f_back g a).2 := by
  intro n y I L R Q hc k
  have hG := hc.2.1
  unfold f_back at k
  have ref1 : ¬ (0 ≤ a ∧ a < 2) → sm_W ex d 0 0 110 9 [some (.ref 0), some (.int a)] [] (n, y, I, L, R) Q := fun hn => by
    rw [if_neg hn] at k
    refine w_X10_back_9 (d1 := 0) hG (by omega) ?_
    refine c_X10_refused (j := 1) hG (by omega) rfl ?_
    exact w_X10_back_14 (k _ L (CI_ref hw hc (by omega)) (cKeep_ref 1 I L))
  refine w_X10_back_0 ?_
  by_cases q1 : a < 0
  · rw [if_pos q1]
    exact ref1 (fun z => absurd q1 (Int32.not_lt.mpr z.1))
  rw [if_neg q1]
  by_cases q2 : a < 2
  · rw [if_pos q2]
    rw [if_pos ⟨Int32.not_lt.mp q1, q2⟩] at k
    obtain ⟨x, hx, rfl⟩ := nI_of q1
    have hx2 : x < 2 := (nI_ltI (b := 2) hx (by decide)).mp q2
    have hcl : (nI x).toNatClampNeg = x := nI_clamp hx
    rw [hcl] at k
    obtain ⟨o, q, him, hap⟩ := hc.2.2.2.2.2.2.2.2.2.1
    have hix := him x hx2
    cases hgx : gI g x with
    | none =>
      rw [hgx] at hix k
      dsimp only at hix k
      refine w_X10_back_15n hG hx2 hix.1 ?_
      refine w_X10_back_33 (d1 := 0) hG (by omega) ?_
      refine c_X10_refused (j := 2) hG (by omega) rfl ?_
      exact w_X10_back_39 (k _ L (CI_ref hw hc (by omega)) (cKeep_ref 2 I L))
    | some sn =>
      rw [hgx] at hix k
      dsimp only at hix k
      obtain ⟨r1, r2, k9, k0, n1, n2, n3, hs, hp, hb⟩ := hix
      have hwx := hw.2.2.2.1 x sn hgx
      refine w_X10_back_15s hG hx2 r1 ?_
      refine w_X10_back_24s hG hx2 r2 ?_
      refine w_X10_back_40 (d1 := 3) hG (by rw [hcl]; exact r1) (by omega) ?_
      refine ⟨vp_in_nI hx2 (by decide), ?_⟩
      refine c_X9_copyFrom (by omega) (mk1 hG).1 k9 (by unfold cApt; omega) hwx.1.1.1 hs ?_
      intro I1 f1 s1 p1
      refine w_X10_back_53 (d1 := 3) hG (by rw [hcl]; exact r2) (by omega) ?_
      refine ⟨vp_in_nI hx2 (by decide), ?_⟩
      have hb1 : cB sn.2.2 (q x) I1 := cB_kept hwx.2.2.1 (fun a j q => f1 a j (by omega)) hb
      have hz1 : cLaw I1 (6 + 2) [] := cLaw_kept (fun a j q1 q2 => f1 a j (by omega)) hc.2.2.2.2.1.2.2.1
      refine c_X0_copyFrom (by omega) (mk0 hG) k0 (by omega) hwx.2.2.1 hb1 hz1 ?_
      intro I2 f2 b2
      refine w_X10_back_66 (d1 := 0) hG (by omega) ?_
      refine w_X4_clear ⟨hG.1 65 (by decide), hG.2 65 0 rfl, hG.1 66 (by decide)⟩ ?_
      refine w_X10_back_76 (d1 := 0) hG (by omega) ?_
      refine c_X10_accepted hG ?_
      refine w_X10_back_81 ?_
      generalize hI3 : sm_st I2 65 1 0 = I3
      have e3 : I3 65 1 = 0 := by rw [← hI3, sm_st_s]
      have f3 : ∀ a j, ¬ (a = 65 ∧ j = 1) → I3 a j = I2 a j := fun a j q => by rw [← hI3, sm_st_or _ _ (by omega)]
      have fr : ∀ a j, 50 ≤ a ∨ a = 0 → ¬ (a = 65 ∧ j = 1) → I3 a j = I a j := fun a j q1 q2 => (f3 a j q2).trans ((f2 a j (by omega)).trans (f1 a j (by omega)))
      have hwk : wK sn := hwx
      have hw2 : Wf (sn, [], g.2.2) := ⟨hwx, ⟨Nat.zero_le 16, fun z hz => by cases hz⟩, hw.2.2.1, hw.2.2.2.1, hw.2.2.2.2⟩
      have hcb : CIb (sn, [], g.2.2) n y I3 R := by
        refine ⟨hc.1, hG, ?_, ?_, ?_, ?_, ?_, ?_, ?_, ?_⟩
        · exact cS_kept2 (fun a j q => (f3 a j (by omega)).trans (f2 a j (by omega))) s1
        · show cP sn.2.1 1 I3
          unfold cP
          rw [f3 1 8 (by omega), f3 1 9 (by omega), f3 1 10 (by omega), f2 1 8 (by omega), f2 1 9 (by omega), f2 1 10 (by omega), p1.1, p1.2.1, p1.2.2]
          exact hp
        · exact cB_kept hwx.2.2.1 (fun a j q => f3 a j (by omega)) b2
        · exact ⟨e3, fun i x hx => by cases hx⟩
        · exact cT_kept (fun a j q => fr a j (by omega) (by omega)) hc.2.2.2.2.2.2.1
        · exact cN_kept (fun a j q => fr a j (by omega) (by omega)) hc.2.2.2.2.2.2.2.1
        · exact cDr_kept (fun a j q => fr a j (by omega) (by omega)) hc.2.2.2.2.2.2.2.2.1
        · exact cIm_kept hw.2.2.2.1 (fun a j q => fr a j (by omega) (by omega)) hc.2.2.2.2.2.2.2.2.2.1
      exact k _ L (CI_acc hw2 hcb) ((cKeep_c (fun a j q => fr a j (by omega) (by omega))).trans (cKeep_acc I3 L))
  · rw [if_neg q2]
    exact ref1 (fun z => q2 z.2)

set_option maxHeartbeats 1000000 in
theorem M_back {ex : sm_O} {d : Nat} {w2 : Option Value} {g : GG} {a : Int32} (hd : 3 ≤ d) (hw : Wf g) : MM ex d 136 [some (.ref 123), some (.int a), w2] g (f_back g a).1 (f_back g a).2 := by
  intro n y I0 L R Q hG hm k
  have hm := MI_thr hm
  have kp := mKeep_thr I0
  unfold f_back at k
  refine w_X11_back_0 hG (by omega) ?_
  generalize sm_st I0 123 0 0 = I at hm kp ⊢
  refine w_X11_back_12 (d1 := 2) hG (by omega) ?_
  have i2 : ((0 : Int64) ≤ a.toInt64 ∧ a.toInt64 ≤ (1 : Int64)) ↔ (0 ≤ a ∧ a ≤ 1) := sm_in64 (lo := 0) (hi := 1)
  have i3 : (0 ≤ a ∧ a ≤ 1) ↔ (0 ≤ a ∧ a < 2) := le1_lt2 a
  simp only [i2, i3, sm_b]
  by_cases q1 : 0 ≤ a ∧ a < 2
  · rw [if_pos q1, if_neg (show ¬ (1 : Int32) = 0 by decide)]
    rw [if_pos q1] at k
    obtain ⟨x, hx, rfl⟩ := nI_of (Int32.not_lt.mpr q1.1)
    have hx2 : x < 2 := (nI_ltI (b := 2) hx (by decide)).mp q1.2
    have hcl : (nI x).toNatClampNeg = x := nI_clamp hx
    rw [hcl] at k ⊢
    refine ⟨vp_in_nI hx2 (by decide), ?_⟩
    have him := hm.2.2.2.2.2.2.2.1 x hx2
    cases hgx : gI g x with
    | none =>
      rw [hgx] at him k
      dsimp only at him k
      rw [him, if_pos rfl]
      refine c_X11_tellN (j := 2) hG (by omega) rfl ?_
      exact w_X11_back_36 (k _ L (MI_ref hm) (kp.trans (mKeep_rfu 2 I)))
    | some sn =>
      rw [hgx] at him k
      dsimp only at him k
      have hwx := hw.2.2.2.1 x sn hgx
      rw [him.1, if_neg (show ¬ (1 : Int32) = 0 by decide)]
      have loop : ∀ (q j : Nat) (I2 : Nat → Nat → Int32), j + q = 5450 → (∀ a i, a ≠ 125 → I2 a i = I a i) → (∀ i, i < j → I2 125 i = I 126 (5450 * x + i)) → sm_W ex d 0 0 136 39 [some (.ref 123), some (.int (nI x)), some (.int (nI j))] [] (n, y, I2, L, R) Q := by
        intro q
        induction q with
        | zero =>
          intro j I2 hj f2 h2
          obtain rfl : j = 5450 := by omega
          refine w_X11_back_39 (d1 := 2) hG (by omega) ?_
          rw [if_pos (show (5450 : Int32) ≤ nI 5450 by decide)]
          refine c_X11_lastP (by omega) hG (by decide) ?_
          refine w_X11_back_75 ?_
          have hm2 : MI (sn, [], g.2.2) (sm_st I2 123 8 0) L := by
            obtain ⟨h1, h2', h3, h4, h5, h6, h7, h8, h9⟩ := hm
            have f3 : ∀ a i, a ≠ 125 → ¬ (a = 123 ∧ i = 8) → sm_st I2 123 8 0 a i = I a i := fun a i q1 q2 => by rw [sm_st_or _ _ (by omega)]; exact f2 a i q1
            have g3 : ∀ i, i < 5450 → sm_st I2 123 8 0 125 i = I 126 (5450 * x + i) := fun i hi => by rw [sm_st_o _ _ (by decide)]; exact h2 i hi
            refine ⟨mS_ext (fun j q => g3 j (by omega)) hwx.1.1.1 him.2.1, mP_ext (fun j q => g3 j (by omega)) hwx.2.1.1 him.2.2.1, mB_ext (fun j q => g3 j (by omega)) hwx.2.2.1 him.2.2.2, ⟨rfl, fun i x hx => by cases hx⟩, ⟨?_, fun j hj => ?_⟩, ⟨?_, ?_, ?_, ?_, ?_, fun j hj => ?_⟩, ?_, fun k hk => ?_, h9⟩
            · rw [f3 123 13 (by omega) (by omega)]; exact h5.1
            · rw [f3 132 j (by omega) (by omega)]; exact h5.2 j hj
            · rw [f3 123 11 (by omega) (by omega)]; exact h6.1
            · rw [f3 123 18 (by omega) (by omega)]; exact h6.2.1
            · rw [f3 123 55 (by omega) (by omega)]; exact h6.2.2.1
            · rw [f3 123 1 (by omega) (by omega)]; exact h6.2.2.2.1
            · rw [f3 123 20 (by omega) (by omega)]; exact h6.2.2.2.2.1
            · rw [f3 124 j (by omega) (by omega)]; exact h6.2.2.2.2.2 j hj
            · have e155 : sm_st I2 123 8 0 155 = I 155 := funext (fun i => f3 155 i (by omega) (by omega))
              have e59 := f3 123 59 (by omega) (by omega)
              show mDr (gD g) (sm_st I2 123 8 0)
              have h7 : mDr (gD g) I := h7
              revert h7
              unfold mDr
              rw [e59, e155]
              exact fun h => h
            · have e127 := f3 127 k (by omega) (by omega)
              have e126 : (fun j => sm_st I2 123 8 0 126 (5450 * k + j)) = fun j => I 126 (5450 * k + j) := funext (fun j => f3 126 _ (by omega) (by omega))
              have := h8 k hk
              show match gI g k with
                | none => _
                | some x => _
              rw [e127, e126]
              exact this
          exact k _ L (MI_acc hm2) (kp.trans (mKeep.trans (fun a i q => f2 a i (by omega)) ((mKeep.s I2 (by omega) 8 0).trans (mKeep_tel _))))
        | succ q ih =>
          intro j I2 hj f2 h2
          have e5 : 5450 * nI x + nI j = nI (5450 * x + j) := by rw [show (5450 : Int32) = nI 5450 from rfl, pk_mul, nI_add]
          refine w_X11_back_39 (d1 := 2) hG (by omega) ?_
          rw [if_neg (by rw [sm_of 5450, nI_leI (by omega) (by omega)]; omega), e5, nI_clamp (by omega), nI_clamp (by omega), sm_n1]
          refine ⟨vp_in_nI (by omega) (by decide), vp_in_nI (by omega) (by decide), ?_⟩
          refine ih (j + 1) _ (by omega) (fun a i q => by rw [sm_st_o _ _ q]; exact f2 a i q) (fun i hi => ?_)
          by_cases e : i = j
          · subst e
            rw [sm_st_s, f2 126 _ (by decide)]
          · rw [sm_st_j _ _ e]
            exact h2 i (by omega)
      exact loop 5450 0 I (by omega) (fun _ _ _ => rfl) (fun i hi => absurd hi (by omega))
  · rw [if_neg q1, if_pos rfl]
    rw [if_neg q1] at k
    refine c_X11_tellN (j := 1) hG (by omega) rfl ?_
    exact w_X11_back_20 (k _ L (MI_ref hm) (kp.trans (mKeep_rfu 1 I)))

