set_option maxRecDepth 100000 in
theorem w_X11_bounded_0 {ex : sm_O} {d n : Nat} {y : sm_Y} {I : Nat → Nat → Int32} {L : Nat → Nat → Int64} {R : Nat → Nat → Option Nat} {Q : sm_Q} {w1 : Option Value} {a0 : Int64} {a2 : Int32} {a3 : Int32} (k : if 0 ≤ (lg_cmp a0 a2.toInt64) then (if (lg_cmp a0 a3.toInt64) ≤ 0 then (Q (some (.int a0.toInt32)) (n, y, I, L, R)) else (Q (some (.int a3)) (n, y, I, L, R))) else (Q (some (.int a2)) (n, y, I, L, R))) : sm_W ex d 0 0 126 0 [some (.long a0), w1, some (.int a2), some (.int a3)] [] (n, y, I, L, R) Q := sm_in (sm_in (sm_in (sm_in (sm_in (And.intro (fun c1 => have k1t := Eq.mp (if_pos c1) k; sm_in (sm_in (sm_in (sm_in (sm_in (And.intro (fun c2 => have k2t := Eq.mp (if_pos c2) k1t; sm_in (sm_in (sm_in (And.intro rfl k2t)))) (fun c2 => have k2f := Eq.mp (if_neg c2) k1t; sm_in (sm_in (sm_in (And.intro rfl k2f)))))))))) (fun c1 => have k1f := Eq.mp (if_neg c1) k; sm_in (sm_in (sm_in (And.intro rfl k1f)))))))))
-- TIRING, RESTING, NOTICING, BARRING (the model)
def sp_clN (hi : Nat) (v : Int) : Nat := if v < 0 then 0 else if (hi : Int) < v then hi else v.toNat
theorem sp_clN_le (hi : Nat) (v : Int) : sp_clN hi v ≤ hi := by
  unfold sp_clN
  split
  · omega
  · split <;> omega
theorem c_X11_bounded {ex : sm_O} {n : Nat} {y : sm_Y} {I : Nat → Nat → Int32} {L : Nat → Nat → Int64} {R : Nat → Nat → Option Nat} {Q : sm_Q} {d hi : Nat} {w1 : Option Value} {v : Int64} (hhi : hi < 1000) (k : Q (some (.int (nI (sp_clN hi v.toInt)))) (n, y, I, L, R)) : sm_W ex d 0 0 126 0 [some (.long v), w1, some (.int 0), some (.int (nI hi))] [] (n, y, I, L, R) Q := by
  refine w_X11_bounded_0 ?_
  have e0 : (0 : Int32).toInt64 = (0 : Int64) := rfl
  have e1 : (nI hi).toInt64 = lN hi := nI_l (by omega)
  have el : (lN hi).toInt = (hi : Int) := lN_toInt (by omega)
  have hge : 0 ≤ lg_cmp v 0 ↔ ¬ v.toInt < 0 := by
    rw [← Int32.not_lt, sm_cmp_lt, Int64.lt_iff_toInt_lt]
    rfl
  have hle : lg_cmp v (lN hi) ≤ 0 ↔ ¬ (hi : Int) < v.toInt := by
    rw [← Int32.not_lt, sm_cmp_gt, Int64.lt_iff_toInt_lt, el]
  simp only [e0, e1, hge, hle]
  unfold sp_clN at k
  by_cases h : v.toInt < 0
  · rw [if_pos h] at k
    rw [if_neg (fun q => q h)]
    exact k
  · rw [if_neg h] at k
    rw [if_pos h]
    by_cases h2 : (hi : Int) < v.toInt
    · rw [if_pos h2] at k
      rw [if_neg (fun q => q h2)]
      exact k
    · rw [if_neg h2] at k
      rw [if_pos h2]
      obtain ⟨q, hq, rfl⟩ := pk_lOf (x := v) (fun z => h (by rw [Int64.lt_iff_toInt_lt] at z; exact z))
      rw [pk_lT hq] at k
      rw [lN_i]
      exact k

set_option maxRecDepth 100000 in
theorem w_X11_tires_0 {ex : sm_O} {d n : Nat} {y : sm_Y} {I : Nat → Nat → Int32} {L : Nat → Nat → Int64} {R : Nat → Nat → Option Nat} {Q : sm_Q} {a1 : Int32} {d1 : Nat} (hG : sm_G y R) (h1 : d1 < d) (k : sm_W ex d1 0 0 184 0 [some (.ref 123), some (.int 0), some (.int a1), some (.int (-1)), some (.long 1), none, none, none, none, none] [] (n, y, I, L, R) (fun r μ1 => sm_W ex d 0 0 185 8 [some (.ref 123), some (.int a1)] (r.toList ++ []) μ1 Q)) : sm_W ex d 0 0 185 0 [some (.ref 123), some (.int a1)] [] (n, y, I, L, R) Q := sm_in (sm_in (sm_in (sm_in (sm_in (sm_in (Exists.intro 11 (And.intro (hG.1 123 (Nat.le_of_ble_eq_true rfl)) (And.intro rfl (sm_calln h1 (Nat.le_of_ble_eq_true rfl) (Nat.le_of_ble_eq_true rfl) k)))))))))
set_option maxRecDepth 100000 in
theorem w_X11_tires_8 {ex : sm_O} {d n : Nat} {y : sm_Y} {I : Nat → Nat → Int32} {L : Nat → Nat → Int64} {R : Nat → Nat → Option Nat} {Q : sm_Q} {w0 : Option Value} {w1 : Option Value} {s0 : Int64} {d1 : Nat} (h1 : d1 < d) (k : sm_W ex d1 0 0 126 0 [some (.long s0), none, some (.int 0), some (.int 9)] [] (n, y, I, L, R) (fun r μ1 => sm_W ex d 0 0 185 14 [w0, w1] (r.toList ++ []) μ1 Q)) : sm_W ex d 0 0 185 8 [w0, w1] [.long s0] (n, y, I, L, R) Q := sm_in (sm_in (sm_in (And.intro (Nat.le_of_ble_eq_true rfl) (sm_calln h1 (Nat.le_of_ble_eq_true rfl) (Nat.le_of_ble_eq_true rfl) k))))
set_option maxRecDepth 100000 in
theorem w_X11_tires_14 {ex : sm_O} {d n : Nat} {y : sm_Y} {I : Nat → Nat → Int32} {L : Nat → Nat → Int64} {R : Nat → Nat → Option Nat} {Q : sm_Q} {w0 : Option Value} {w1 : Option Value} {s0 : Int32} (k : Q (some (.int s0)) (n, y, I, L, R)) : sm_W ex d 0 0 185 14 [w0, w1] [.int s0] (n, y, I, L, R) Q := sm_in (And.intro rfl k)
set_option maxRecDepth 100000 in
theorem w_X11_rests_0 {ex : sm_O} {d n : Nat} {y : sm_Y} {I : Nat → Nat → Int32} {L : Nat → Nat → Int64} {R : Nat → Nat → Option Nat} {Q : sm_Q} {a1 : Int32} {d1 : Nat} (hG : sm_G y R) (h1 : d1 < d) (k : sm_W ex d1 0 0 184 0 [some (.ref 123), some (.int 1), some (.int a1), some (.int (-1)), some (.long 1), none, none, none, none, none] [] (n, y, I, L, R) (fun r μ1 => sm_W ex d 0 0 186 8 [some (.ref 123), some (.int a1)] (r.toList ++ []) μ1 Q)) : sm_W ex d 0 0 186 0 [some (.ref 123), some (.int a1)] [] (n, y, I, L, R) Q := sm_in (sm_in (sm_in (sm_in (sm_in (sm_in (Exists.intro 11 (And.intro (hG.1 123 (Nat.le_of_ble_eq_true rfl)) (And.intro rfl (sm_calln h1 (Nat.le_of_ble_eq_true rfl) (Nat.le_of_ble_eq_true rfl) k)))))))))
set_option maxRecDepth 100000 in
theorem w_X11_rests_8 {ex : sm_O} {d n : Nat} {y : sm_Y} {I : Nat → Nat → Int32} {L : Nat → Nat → Int64} {R : Nat → Nat → Option Nat} {Q : sm_Q} {w0 : Option Value} {w1 : Option Value} {s0 : Int64} {d1 : Nat} (h1 : d1 < d) (k : sm_W ex d1 0 0 126 0 [some (.long s0), none, some (.int 0), some (.int 9)] [] (n, y, I, L, R) (fun r μ1 => sm_W ex d 0 0 186 14 [w0, w1] (r.toList ++ []) μ1 Q)) : sm_W ex d 0 0 186 8 [w0, w1] [.long s0] (n, y, I, L, R) Q := sm_in (sm_in (sm_in (And.intro (Nat.le_of_ble_eq_true rfl) (sm_calln h1 (Nat.le_of_ble_eq_true rfl) (Nat.le_of_ble_eq_true rfl) k))))
set_option maxRecDepth 100000 in
theorem w_X11_rests_14 {ex : sm_O} {d n : Nat} {y : sm_Y} {I : Nat → Nat → Int32} {L : Nat → Nat → Int64} {R : Nat → Nat → Option Nat} {Q : sm_Q} {w0 : Option Value} {w1 : Option Value} {s0 : Int32} (k : Q (some (.int s0)) (n, y, I, L, R)) : sm_W ex d 0 0 186 14 [w0, w1] [.int s0] (n, y, I, L, R) Q := sm_in (And.intro rfl k)
set_option maxRecDepth 100000 in
theorem w_X11_isBarred_0 {ex : sm_O} {d n : Nat} {y : sm_Y} {I : Nat → Nat → Int32} {L : Nat → Nat → Int64} {R : Nat → Nat → Option Nat} {Q : sm_Q} {a1 : Int32} {d1 : Nat} (hG : sm_G y R) (h1 : d1 < d) (k : sm_W ex d1 0 0 184 0 [some (.ref 123), some (.int 3), some (.int a1), some (.int (-1)), some (.long 0), none, none, none, none, none] [] (n, y, I, L, R) (fun r μ1 => sm_W ex d 0 0 187 8 [some (.ref 123), some (.int a1)] (r.toList ++ []) μ1 Q)) : sm_W ex d 0 0 187 0 [some (.ref 123), some (.int a1)] [] (n, y, I, L, R) Q := sm_in (sm_in (sm_in (sm_in (sm_in (sm_in (Exists.intro 11 (And.intro (hG.1 123 (Nat.le_of_ble_eq_true rfl)) (And.intro rfl (sm_calln h1 (Nat.le_of_ble_eq_true rfl) (Nat.le_of_ble_eq_true rfl) k)))))))))
set_option maxRecDepth 100000 in
theorem w_X11_isBarred_8 {ex : sm_O} {d n : Nat} {y : sm_Y} {I : Nat → Nat → Int32} {L : Nat → Nat → Int64} {R : Nat → Nat → Option Nat} {Q : sm_Q} {w0 : Option Value} {w1 : Option Value} {s0 : Int64} (k : if (lg_cmp s0 1) = 0 then (Q (some (.int 1)) (n, y, I, L, R)) else (Q (some (.int 0)) (n, y, I, L, R))) : sm_W ex d 0 0 187 8 [w0, w1] [.long s0] (n, y, I, L, R) Q := sm_in (sm_in (sm_in (And.intro (fun c1 => have k1f := Eq.mp (if_neg c1) k; sm_in (sm_in (And.intro rfl (And.intro (Or.inl rfl) k1f)))) (fun c1 => have k1t := Eq.mp (if_pos c1) k; sm_in (sm_in (sm_in (And.intro rfl (And.intro (Or.inr rfl) k1t))))))))
set_option maxRecDepth 100000 in
theorem w_X11_noticed_0 {ex : sm_O} {d n : Nat} {y : sm_Y} {I : Nat → Nat → Int32} {L : Nat → Nat → Int64} {R : Nat → Nat → Option Nat} {Q : sm_Q} {a1 : Int32} {a2 : Int32} {d1 : Nat} (hG : sm_G y R) (h1 : d1 < d) (k : if a2 = (-1) then (sm_W ex d 0 0 188 29 [some (.ref 123), some (.int a1), some (.int a2)] [.int 0] (n, y, I, L, R) Q) else (sm_W ex d1 0 0 140 0 [some (.ref 123), some (.int a1), some (.int a2), none, none] [] (n, y, I, L, R) (fun r μ1 => sm_W ex d 0 0 188 19 [some (.ref 123), some (.int a1), some (.int a2)] (r.toList ++ [.int a2, .int a1, .int 2, .ref 123]) μ1 Q))) : sm_W ex d 0 0 188 0 [some (.ref 123), some (.int a1), some (.int a2)] [] (n, y, I, L, R) Q := sm_in (sm_in (sm_in (And.intro (fun c1 => have k1f := Eq.mp (if_neg c1) k; sm_in (sm_in (sm_in (sm_in (sm_in (sm_in (sm_in (sm_in (Exists.intro 11 (And.intro (hG.1 123 (Nat.le_of_ble_eq_true rfl)) (And.intro rfl (sm_calln h1 (Nat.le_of_ble_eq_true rfl) (Nat.le_of_ble_eq_true rfl) k1f)))))))))))) (fun c1 => have k1t := Eq.mp (if_pos c1) k; sm_in (sm_in (k1t))))))
set_option maxRecDepth 100000 in
theorem w_X11_noticed_19 {ex : sm_O} {d n : Nat} {y : sm_Y} {I : Nat → Nat → Int32} {L : Nat → Nat → Int64} {R : Nat → Nat → Option Nat} {Q : sm_Q} {w0 : Option Value} {w1 : Option Value} {w2 : Option Value} {s0 : Int32} {s1 : Int32} {s2 : Int32} {s3 : Int32} {d1 : Nat} (hG : sm_G y R) (h1 : d1 < d) (k : sm_W ex d1 0 0 184 0 [some (.ref 123), some (.int s3), some (.int s2), some (.int s1), some (.long s0.toInt64), none, none, none, none, none] [] (n, y, I, L, R) (fun r μ1 => sm_W ex d 0 0 188 23 [w0, w1, w2] (r.toList ++ []) μ1 Q)) : sm_W ex d 0 0 188 19 [w0, w1, w2] [.int s0, .int s1, .int s2, .int s3, .ref 123] (n, y, I, L, R) Q := sm_in (sm_in (Exists.intro 11 (And.intro (hG.1 123 (Nat.le_of_ble_eq_true rfl)) (And.intro rfl (sm_calln h1 (Nat.le_of_ble_eq_true rfl) (Nat.le_of_ble_eq_true rfl) k)))))
set_option maxRecDepth 100000 in
theorem w_X11_noticed_23 {ex : sm_O} {d n : Nat} {y : sm_Y} {I : Nat → Nat → Int32} {L : Nat → Nat → Int64} {R : Nat → Nat → Option Nat} {Q : sm_Q} {w0 : Option Value} {w1 : Option Value} {w2 : Option Value} {s0 : Int64} {d1 : Nat} (h1 : d1 < d) (k : sm_W ex d1 0 0 126 0 [some (.long s0), none, some (.int 0), some (.int 99)] [] (n, y, I, L, R) (fun r μ1 => sm_W ex d 0 0 188 29 [w0, w1, w2] (r.toList ++ []) μ1 Q)) : sm_W ex d 0 0 188 23 [w0, w1, w2] [.long s0] (n, y, I, L, R) Q := sm_in (sm_in (sm_in (And.intro (Nat.le_of_ble_eq_true rfl) (sm_calln h1 (Nat.le_of_ble_eq_true rfl) (Nat.le_of_ble_eq_true rfl) k))))
set_option maxRecDepth 100000 in
theorem w_X11_noticed_29 {ex : sm_O} {d n : Nat} {y : sm_Y} {I : Nat → Nat → Int32} {L : Nat → Nat → Int64} {R : Nat → Nat → Option Nat} {Q : sm_Q} {w0 : Option Value} {w1 : Option Value} {w2 : Option Value} {s0 : Int32} (k : Q (some (.int s0)) (n, y, I, L, R)) : sm_W ex d 0 0 188 29 [w0, w1, w2] [.int s0] (n, y, I, L, R) Q := sm_in (And.intro rfl k)
set_option maxRecDepth 100000 in
theorem w_X11_canRelieve_0 {ex : sm_O} {d n : Nat} {y : sm_Y} {I : Nat → Nat → Int32} {L : Nat → Nat → Int64} {R : Nat → Nat → Option Nat} {Q : sm_Q} {a1 : Int32} {d1 : Nat} (hG : sm_G y R) (hdep : 1 ≤ d) (h1 : d1 < d) (k : if (I 125 8) = a1 then (Q (some (.int 0)) (n, y, I, L, R)) else (vp_in (17 + a1) 5450 ∧ (if (I 125 (17 + a1).toNatClampNeg) = 0 then (vp_in (10 + a1) 5450 ∧ vp_in (24 + a1) 5450 ∧ (if (I 125 (24 + a1).toNatClampNeg) ≤ (I 125 (10 + a1).toNatClampNeg) then (Q (some (.int 0)) (n, y, I, L, R)) else (sm_W ex d1 0 0 187 0 [some (.ref 123), some (.int a1)] [] (n, y, I, L, R) (fun r μ1 => sm_W ex d 0 0 189 45 [some (.ref 123), some (.int a1)] (r.toList ++ []) μ1 Q)))) else (Q (some (.int 0)) (n, y, I, L, R))))) : sm_W ex d 0 0 189 0 [some (.ref 123), some (.int a1)] [] (n, y, I, L, R) Q := sm_in (sm_in (And.intro (hG.1 123 (Nat.le_of_ble_eq_true rfl)) (sm_gfr rfl (hG.2 123 3 rfl) (sm_in (sm_in (Exists.intro 5450 (And.intro (hG.1 125 (Nat.le_of_ble_eq_true rfl)) (And.intro (sm_lin (by decide)) (sm_in (sm_in (And.intro (fun c1 => have k1t := Eq.mp (if_pos c1) k; sm_in (sm_in (And.intro rfl (And.intro (Or.inl rfl) k1t)))) (fun c1 => have k1f := Eq.mp (if_neg c1) k; sm_in (sm_in (sm_in (Exists.intro 11 (And.intro (hG.1 123 (Nat.le_of_ble_eq_true rfl)) (And.intro rfl (sm_calln (d1 := 0) (Nat.lt_of_lt_of_le (Nat.le_of_ble_eq_true rfl : 0 < 1) hdep) (Nat.le_of_ble_eq_true rfl) (Nat.le_of_ble_eq_true rfl) (sm_in (sm_in (And.intro (hG.1 123 (Nat.le_of_ble_eq_true rfl)) (sm_gfr rfl (hG.2 123 3 rfl) (sm_in (sm_in (sm_in ((have e2 := k1f.1; have k2 := k1f.2; sm_in (Exists.intro 5450 (And.intro (hG.1 125 (Nat.le_of_ble_eq_true rfl)) (And.intro e2 (sm_in (And.intro (fun c3 => have k3f := Eq.mp (if_neg c3) k2; sm_in (sm_in (And.intro rfl (And.intro (Or.inl rfl) (sm_in (And.intro (fun _ => sm_in (sm_in (And.intro rfl (And.intro (Or.inl rfl) k3f)))) (fun c => absurd (by decide : (0 : Int32) = 0) c))))))) (fun c3 => have k3t := Eq.mp (if_pos c3) k2; sm_in (sm_in (sm_in (And.intro rfl (And.intro (Or.inr rfl) (sm_in (And.intro (fun c => absurd c (by decide : ¬ (1 : Int32) = 0)) (fun _ => sm_in (sm_in (And.intro (hG.1 123 (Nat.le_of_ble_eq_true rfl)) (sm_gfr rfl (hG.2 123 3 rfl) (sm_in (sm_in (sm_in ((have e4 := k3t.1; have k4 := k3t.2; sm_in (Exists.intro 5450 (And.intro (hG.1 125 (Nat.le_of_ble_eq_true rfl)) (And.intro e4 (sm_in (sm_in (And.intro (hG.1 123 (Nat.le_of_ble_eq_true rfl)) (sm_gfr rfl (hG.2 123 3 rfl) (sm_in (sm_in (sm_in ((have e5 := k4.1; have k5 := k4.2; sm_in (Exists.intro 5450 (And.intro (hG.1 125 (Nat.le_of_ble_eq_true rfl)) (And.intro e5 (sm_in (And.intro (fun c6 => have k6t := Eq.mp (if_pos c6) k5; sm_in (sm_in (And.intro rfl (And.intro (Or.inl rfl) k6t)))) (fun c6 => have k6f := Eq.mp (if_neg c6) k5; sm_in (sm_in (sm_in (Exists.intro 11 (And.intro (hG.1 123 (Nat.le_of_ble_eq_true rfl)) (And.intro rfl (sm_calln h1 (Nat.le_of_ble_eq_true rfl) (Nat.le_of_ble_eq_true rfl) k6f))))))))))))))))))))))))))))))))))))))))))))))))))))))))))))))))))))))))
set_option maxRecDepth 100000 in
theorem w_X11_canRelieve_45 {ex : sm_O} {d n : Nat} {y : sm_Y} {I : Nat → Nat → Int32} {L : Nat → Nat → Int64} {R : Nat → Nat → Option Nat} {Q : sm_Q} {w0 : Option Value} {w1 : Option Value} {s0 : Int32} (k : if s0 = 0 then (Q (some (.int 1)) (n, y, I, L, R)) else (Q (some (.int 0)) (n, y, I, L, R))) : sm_W ex d 0 0 189 45 [w0, w1] [.int s0] (n, y, I, L, R) Q := sm_in (And.intro (fun c1 => have k1f := Eq.mp (if_neg c1) k; sm_in (sm_in (And.intro rfl (And.intro (Or.inl rfl) k1f)))) (fun c1 => have k1t := Eq.mp (if_pos c1) k; sm_in (sm_in (sm_in (And.intro rfl (And.intro (Or.inr rfl) k1t))))))
def sp_get (o : Option Int) (w : Int) : Int := match o with
  | some v => v
  | none => w
def sp_tires (F : Option (Nat × Law)) (s : St) (m : Nat) : Nat := sp_clN 9 (sp_get (sp_toldF F 0 (sp_env s m none)) 1)
def sp_rests (F : Option (Nat × Law)) (s : St) (m : Nat) : Nat := sp_clN 9 (sp_get (sp_toldF F 1 (sp_env s m none)) 1)
def sp_bars (F : Option (Nat × Law)) (s : St) (m : Nat) : Bool := (sp_toldF F 3 (sp_env s m none)).isSome
def sp_notice (F : Option (Nat × Law)) (s : St) (m : Nat) (other : Option Nat) : Nat := match other with
  | none => 0
  | some o => sp_clN 99 (sp_get (sp_toldF F 2 (sp_env s m (some o))) (sp_unlike s m o))
/-- laws whose sums stay within -/
def sp_lawok (l : Law) : Prop := ∀ x ∈ l, x.1 ≤ 3 ∧ (x.1 ≠ 3 → sp_inB x.2.1)
theorem sp_told_in {l : Law} (h : sp_lawok l) (kd : Nat) (env : Nat → Int) (he : eB env) (v : Int) (hv : sp_told l kd env = some v) : -1000000000 ≤ v ∧ v ≤ 1000000000 := by
  induction l with
  | nil => cases hv
  | cons c t ih =>
    simp only [sp_told] at hv
    cases ht : sp_told t kd env with
    | some u =>
      rw [ht] at hv
      cases hv
      exact ih (fun x hx => h x (List.mem_cons_of_mem _ hx)) ht
    | none =>
      rw [ht] at hv
      dsimp only at hv
      split at hv
      · unfold sp_cl at hv
        split at hv
        · split at hv
          · cases hv
            omega
          · rename_i h3
            exact (h c List.mem_cons_self).2 h3 env v he hv
        · cases hv
      · cases hv
theorem sp_told_bar {l : Law} (env : Nat → Int) (v : Int) (hv : sp_told l 3 env = some v) : v = 1 := by
  induction l with
  | nil => cases hv
  | cons c t ih =>
    simp only [sp_told] at hv
    cases ht : sp_told t 3 env with
    | some u =>
      rw [ht] at hv
      cases hv
      exact ih ht
    | none =>
      rw [ht] at hv
      dsimp only at hv
      split at hv
      · rename_i h3
        unfold sp_cl at hv
        split at hv
        · first
            | exact (Option.some.inj hv).symm
            | (rw [if_pos h3] at hv; exact (Option.some.inj hv).symm)
        · cases hv
      · cases hv
theorem mLaw_ok {I : Nat → Nat → Int32} {B : Nat} {l : Law} (h : mLaw I B l) : sp_lawok l := by
  intro x hx
  obtain ⟨c, hc⟩ := List.getElem?_of_mem hx
  obtain ⟨a, a', t, t', c0, c3, c4, c5, c6, c7, c8, c9, c10, c11, c12⟩ := h.2.2 c x hc
  exact ⟨c3, fun q => (c11 q).1⟩
theorem sp_env_B {s : St} {m : Nat} {other : Option Nat} (hok : sp_ok s) (hm : m < sMen s) (ho : ∀ o, other = some o → o < sMen s) : eB (sp_env s m other) := by
  obtain ⟨h1, h2, h3, h4, h5, h6, h7, h8⟩ := hok
  have h2 := h2 m hm
  intro i
  match i with
  | 0 => show -1000000000 ≤ (m : Int) ∧ (m : Int) ≤ 1000000000; omega
  | 1 => show -1000000000 ≤ (sHold s m : Int) ∧ (sHold s m : Int) ≤ 1000000000; omega
  | 2 => show -1000000000 ≤ (sTired s m : Int) ∧ (sTired s m : Int) ≤ 1000000000; omega
  | 3 => show -1000000000 ≤ (sHeld s : Int) ∧ (sHeld s : Int) ≤ 1000000000; omega
  | 4 =>
    show -1000000000 ≤ sp_otherI other ∧ sp_otherI other ≤ 1000000000
    cases other with
    | none => decide
    | some o => have := ho o rfl; show -1000000000 ≤ (o : Int) ∧ (o : Int) ≤ 1000000000; omega
  | 5 =>
    cases other with
    | none => show -1000000000 ≤ (-1 : Int) ∧ (-1 : Int) ≤ 1000000000; decide
    | some o =>
      have hu : sp_unlike s m o ≤ 6 := sp_pop_le _ 6
      show -1000000000 ≤ (sp_unlike s m o : Int) ∧ (sp_unlike s m o : Int) ≤ 1000000000
      omega
  | 6 => show -1000000000 ≤ (sTerm s 0 : Int) ∧ (sTerm s 0 : Int) ≤ 1000000000; omega
  | 7 => show -1000000000 ≤ (sTerm s 2 : Int) ∧ (sTerm s 2 : Int) ≤ 1000000000; omega
  | k + 8 => show -1000000000 ≤ (0 : Int) ∧ (0 : Int) ≤ 1000000000; decide
theorem mForce_in {I : Nat → Nat → Int32} {F : Option (Nat × Law)} (h : mForce I F) (kd : Nat) (env : Nat → Int) (he : eB env) (v : Int) (hv : sp_toldF F kd env = some v) : -1000000000 ≤ v ∧ v ≤ 1000000000 := by
  match F, h, hv with
  | some (j, l), h, hv => exact sp_told_in (mLaw_ok h.2.2) kd env he v hv
theorem sp_val_toInt {w : Int64} {o : Option Int} (h : ∀ v, o = some v → -1000000000 ≤ v ∧ v ≤ 1000000000) : (sp_val w o).toInt = sp_get o w.toInt := by
  cases o with
  | none => rfl
  | some v =>
    have := h v rfl
    show (Int64.ofInt v).toInt = v
    exact Int64.toInt_ofInt_of_le (by omega) (by omega)

theorem c_X11_tires {ex : sm_O} {n : Nat} {y : sm_Y} {I : Nat → Nat → Int32} {L : Nat → Nat → Int64} {R : Nat → Nat → Option Nat} {Q : sm_Q} {d m : Nat} {s : St} {F : Option (Nat × Law)} (hd : 5 ≤ d) (hG : sm_G y R) (hs : mS s (I 125)) (hok : sp_ok s) (hm : m < sMen s) (h20 : I 123 20 = 0) (hF : mForce I F)
    (k : ∀ (I' : Nat → Nat → Int32) (L' : Nat → Nat → Int64), mFt I I' L L' → Q (some (.int (nI (sp_tires F s m)))) (n, y, I', L', R)) : sm_W ex d 0 0 185 0 [some (.ref 123), some (.int (nI m))] [] (n, y, I, L, R) Q := by
  refine w_X11_tires_0 (d1 := 4) hG (by omega) ?_
  refine c_X11_tells (s := s) (F := F) (other := none) (kd := 0) (w := 1) (Nat.le_refl 4) hG hs hok hm (fun o h => by cases h) h20 hF (by decide) ?_
  intro I' L' hf
  refine w_X11_tires_8 (d1 := 0) (by omega) ?_
  refine c_X11_bounded (hi := 9) (by decide) ?_
  refine w_X11_tires_14 ?_
  rw [sp_val_toInt (mForce_in hF _ _ (sp_env_B hok hm (fun o h => by cases h)))]
  exact k I' L' hf

theorem c_X11_rests {ex : sm_O} {n : Nat} {y : sm_Y} {I : Nat → Nat → Int32} {L : Nat → Nat → Int64} {R : Nat → Nat → Option Nat} {Q : sm_Q} {d m : Nat} {s : St} {F : Option (Nat × Law)} (hd : 5 ≤ d) (hG : sm_G y R) (hs : mS s (I 125)) (hok : sp_ok s) (hm : m < sMen s) (h20 : I 123 20 = 0) (hF : mForce I F)
    (k : ∀ (I' : Nat → Nat → Int32) (L' : Nat → Nat → Int64), mFt I I' L L' → Q (some (.int (nI (sp_rests F s m)))) (n, y, I', L', R)) : sm_W ex d 0 0 186 0 [some (.ref 123), some (.int (nI m))] [] (n, y, I, L, R) Q := by
  refine w_X11_rests_0 (d1 := 4) hG (by omega) ?_
  refine c_X11_tells (s := s) (F := F) (other := none) (kd := 1) (w := 1) (Nat.le_refl 4) hG hs hok hm (fun o h => by cases h) h20 hF (by decide) ?_
  intro I' L' hf
  refine w_X11_rests_8 (d1 := 0) (by omega) ?_
  refine c_X11_bounded (hi := 9) (by decide) ?_
  refine w_X11_rests_14 ?_
  rw [sp_val_toInt (mForce_in hF _ _ (sp_env_B hok hm (fun o h => by cases h)))]
  exact k I' L' hf

theorem c_X11_isBarred {ex : sm_O} {n : Nat} {y : sm_Y} {I : Nat → Nat → Int32} {L : Nat → Nat → Int64} {R : Nat → Nat → Option Nat} {Q : sm_Q} {d m : Nat} {s : St} {F : Option (Nat × Law)} (hd : 5 ≤ d) (hG : sm_G y R) (hs : mS s (I 125)) (hok : sp_ok s) (hm : m < sMen s) (h20 : I 123 20 = 0) (hF : mForce I F)
    (k : ∀ (I' : Nat → Nat → Int32) (L' : Nat → Nat → Int64), mFt I I' L L' → Q (some (.int (sm_b (sp_bars F s m = true)))) (n, y, I', L', R)) : sm_W ex d 0 0 187 0 [some (.ref 123), some (.int (nI m))] [] (n, y, I, L, R) Q := by
  refine w_X11_isBarred_0 (d1 := 4) hG (by omega) ?_
  refine c_X11_tells (s := s) (F := F) (other := none) (kd := 3) (w := 0) (Nat.le_refl 4) hG hs hok hm (fun o h => by cases h) h20 hF (by decide) ?_
  intro I' L' hf
  refine w_X11_isBarred_8 ?_
  simp only [sm_cmp_eq]
  have k9 := k I' L' hf
  unfold sp_bars at k9
  cases hT : sp_toldF F 3 (sp_env s m none) with
  | none =>
    rw [hT] at k9
    rw [if_neg (show ¬ sp_val 0 none = 1 by decide)]
    exact k9
  | some v =>
    rw [hT] at k9
    have hv : v = 1 := by
      match F, hT with
      | some (j, l), hT => exact sp_told_bar _ v hT
    subst hv
    rw [if_pos (show sp_val 0 (some 1) = 1 by decide)]
    exact k9
theorem c_X11_noticed {ex : sm_O} {n : Nat} {y : sm_Y} {I : Nat → Nat → Int32} {L : Nat → Nat → Int64} {R : Nat → Nat → Option Nat} {Q : sm_Q} {d m : Nat} {s : St} {other : Option Nat} {F : Option (Nat × Law)} (hd : 5 ≤ d) (hG : sm_G y R) (hs : mS s (I 125)) (hok : sp_ok s) (hm : m < sMen s) (ho : ∀ o, other = some o → o < sMen s) (h20 : I 123 20 = 0) (hF : mForce I F)
    (k : ∀ (I' : Nat → Nat → Int32) (L' : Nat → Nat → Int64), mFt I I' L L' → Q (some (.int (nI (sp_notice F s m other)))) (n, y, I', L', R)) : sm_W ex d 0 0 188 0 [some (.ref 123), some (.int (nI m)), some (.int (sp_up other))] [] (n, y, I, L, R) Q := by
  have h7 := hok.1
  refine w_X11_noticed_0 (d1 := 1) hG (by omega) ?_
  cases other with
  | none =>
    rw [if_pos (show sp_up none = -1 from rfl)]
    refine w_X11_noticed_29 ?_
    exact k I L (mFt.rfl' I L)
  | some o =>
    have hoo := ho o rfl
    rw [if_neg (by
      intro q
      have := congrArg Int32.toInt q
      rw [show sp_up (some o) = nI o from rfl, nI_toInt (by omega)] at this
      have z : (-1 : Int32).toInt = -1 := rfl
      omega)]
    refine c_X11_unlike (s := s) (Nat.le_refl 1) hG hs hok hm hoo ?_
    refine w_X11_noticed_19 (d1 := 4) hG (by omega) ?_
    refine c_X11_tells (s := s) (F := F) (other := some o) (kd := 2) (Nat.le_refl 4) hG hs hok hm ho h20 hF (by decide) ?_
    intro I' L' hf
    refine w_X11_noticed_23 (d1 := 0) (by omega) ?_
    refine c_X11_bounded (hi := 99) (by decide) ?_
    refine w_X11_noticed_29 ?_
    have hu : sp_unlike s m o ≤ 6 := sp_pop_le _ 6
    rw [sp_val_toInt (mForce_in hF _ _ (sp_env_B hok hm ho)), sm_ni64 (by omega)]
    exact k I' L' hf
/-- he could relieve -/
def sp_can (F : Option (Nat × Law)) (s : St) (m : Nat) : Prop := sUp s ≠ some m ∧ sCash s m = false ∧ sTired s m < sHold s m ∧ sp_bars F s m = false
theorem sp_up_eq {u : Option Nat} {m M : Nat} (hu : ∀ v, u = some v → v < M) (hM : M ≤ 1000) (hm : m < M) : sp_up u = nI m ↔ u = some m := by
  cases u with
  | none =>
    refine ⟨fun q => ?_, fun q => by cases q⟩
    have := congrArg Int32.toInt q
    rw [nI_toInt (by omega)] at this
    have z : (sp_up none).toInt = -1 := rfl
    omega
  | some v =>
    have := hu v rfl
    show nI v = nI m ↔ _
    rw [nI_eq (by omega) (by omega)]
    exact ⟨fun q => by rw [q], fun q => Option.some.inj q⟩
theorem c_X11_canRelieve {ex : sm_O} {n : Nat} {y : sm_Y} {I : Nat → Nat → Int32} {L : Nat → Nat → Int64} {R : Nat → Nat → Option Nat} {Q : sm_Q} {d m : Nat} {s : St} {F : Option (Nat × Law)} (hd : 6 ≤ d) (hG : sm_G y R) (hs : mS s (I 125)) (hok : sp_ok s) (hm : m < sMen s) (h20 : I 123 20 = 0) (hF : mForce I F)
    (k : ∀ (I' : Nat → Nat → Int32) (L' : Nat → Nat → Int64) (x : Int32), mFt I I' L L' → (sp_can F s m ∧ x = 1 ∨ ¬ sp_can F s m ∧ x = 0) → Q (some (.int x)) (n, y, I', L', R)) : sm_W ex d 0 0 189 0 [some (.ref 123), some (.int (nI m))] [] (n, y, I, L, R) Q := by
  have h7 := hok.1
  have hmm := hok.2.1 m hm
  have hsm := hs.2.1 m hm
  refine w_X11_canRelieve_0 (d1 := 5) hG (by omega) (by omega) ?_
  rw [hs.2.2.1]
  by_cases h1 : sUp s = some m
  · rw [if_pos ((sp_up_eq hok.2.2.1 (by omega) hm).mpr h1)]
    exact k I L 0 (mFt.rfl' I L) (Or.inr ⟨fun q => q.1 h1, rfl⟩)
  · rw [if_neg (fun q => h1 ((sp_up_eq hok.2.2.1 (by omega) hm).mp q))]
    refine ⟨sm_ci17 (by omega) (by decide), ?_⟩
    rw [sm_cx17 (by omega), hsm.2.2.2]
    cases hc : sCash s m with
    | true =>
      rw [if_neg (by decide)]
      exact k I L 0 (mFt.rfl' I L) (Or.inr ⟨fun q => absurd (hc.symm.trans q.2.1) (by decide), rfl⟩)
    | false =>
      rw [if_pos (by decide)]
      refine ⟨sm_ci10 (by omega) (by decide), sm_ci24 (by omega) (by decide), ?_⟩
      rw [sm_cx10 (by omega), sm_cx24 (by omega), hsm.1, hsm.2.2.1]
      by_cases h3 : sTired s m < sHold s m
      · rw [if_neg (by rw [nI_leI (by omega) (by omega)]; omega)]
        refine c_X11_isBarred (s := s) (F := F) (Nat.le_refl 5) hG hs hok hm h20 hF ?_
        intro I' L' hf
        refine w_X11_canRelieve_45 ?_
        cases hb : sp_bars F s m with
        | true =>
          rw [if_neg (by decide)]
          exact k I' L' 0 hf (Or.inr ⟨fun q => absurd (hb.symm.trans q.2.2.2) (by decide), rfl⟩)
        | false =>
          rw [if_pos (by decide)]
          exact k I' L' 1 hf (Or.inl ⟨⟨h1, hc, h3, hb⟩, rfl⟩)
      · rw [if_pos (by rw [nI_leI (by omega) (by omega)]; omega)]
        exact k I L 0 (mFt.rfl' I L) (Or.inr ⟨fun q => h3 q.2.2.1, rfl⟩)

