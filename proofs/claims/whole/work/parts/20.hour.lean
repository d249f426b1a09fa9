set_option maxRecDepth 100000 in
theorem w_X11_passIt_0 {ex : sm_O} {d n : Nat} {y : sm_Y} {I : Nat → Nat → Int32} {L : Nat → Nat → Int64} {R : Nat → Nat → Option Nat} {Q : sm_Q} {w1 : Option Value} {w2 : Option Value} (hG : sm_G y R) (k : sm_W ex d 0 0 199 10 [some (.ref 123), some (.int (I 125 8)), some (.int 0)] [] (n, y, I, L, R) Q) : sm_W ex d 0 0 199 0 [some (.ref 123), w1, w2] [] (n, y, I, L, R) Q := sm_in (sm_in (And.intro (hG.1 123 (Nat.le_of_ble_eq_true rfl)) (sm_gfr rfl (hG.2 123 3 rfl) (sm_in (sm_in (Exists.intro 5450 (And.intro (hG.1 125 (Nat.le_of_ble_eq_true rfl)) (And.intro (sm_lin (by decide)) (sm_in (And.intro (Nat.le_of_ble_eq_true rfl) (sm_in (sm_in (And.intro (Nat.le_of_ble_eq_true rfl) (k))))))))))))))
set_option maxRecDepth 100000 in
theorem w_X11_passIt_10 {ex : sm_O} {d n : Nat} {y : sm_Y} {I : Nat → Nat → Int32} {L : Nat → Nat → Int64} {R : Nat → Nat → Option Nat} {Q : sm_Q} {a1 : Int32} {a2 : Int32} {d1 : Nat} (hG : sm_G y R) (h1 : d1 < d) (k : if (I 125 0) ≤ a2 then (sm_W ex d 0 0 199 72 [some (.ref 123), some (.int a1), some (.int 0)] [] (n, y, I, L, R) Q) else (if a2 = a1 then (vp_in (10 + a2) 5450 ∧ sm_W ex d1 0 0 185 0 [some (.ref 123), some (.int a2)] [] (n, y, I, L, R) (fun r μ1 => sm_W ex d 0 0 199 44 [some (.ref 123), some (.int a1), some (.int a2)] (r.toList ++ [.int (I 125 (10 + a2).toNatClampNeg), .int a2, .ref 144]) μ1 Q)) else (vp_in (10 + a2) 5450 ∧ sm_W ex d1 0 0 186 0 [some (.ref 123), some (.int a2)] [] (n, y, I, L, R) (fun r μ1 => sm_W ex d 0 0 199 62 [some (.ref 123), some (.int a1), some (.int a2)] (r.toList ++ [.int (I 125 (10 + a2).toNatClampNeg), .int a2, .ref 144]) μ1 Q)))) : sm_W ex d 0 0 199 10 [some (.ref 123), some (.int a1), some (.int a2)] [] (n, y, I, L, R) Q := sm_in (sm_in (sm_in (And.intro (hG.1 123 (Nat.le_of_ble_eq_true rfl)) (sm_gfr rfl (hG.2 123 3 rfl) (sm_in (sm_in (Exists.intro 5450 (And.intro (hG.1 125 (Nat.le_of_ble_eq_true rfl)) (And.intro (sm_lin (by decide)) (sm_in (And.intro (fun c1 => have k1t := Eq.mp (if_pos c1) k; sm_in (sm_in (And.intro (Nat.le_of_ble_eq_true rfl) (k1t)))) (fun c1 => have k1f := Eq.mp (if_neg c1) k; sm_in (sm_in (And.intro (hG.1 123 (Nat.le_of_ble_eq_true rfl)) (sm_gfr rfl (hG.2 123 41 rfl) (sm_in (sm_in (sm_in (sm_in (And.intro (fun c2 => have k2f := Eq.mp (if_neg c2) k1f; sm_in (sm_in (And.intro (hG.1 123 (Nat.le_of_ble_eq_true rfl)) (sm_gfr rfl (hG.2 123 3 rfl) (sm_in (sm_in (sm_in ((have e4 := k2f.1; have k4 := k2f.2; sm_in (Exists.intro 5450 (And.intro (hG.1 125 (Nat.le_of_ble_eq_true rfl)) (And.intro e4 (sm_in (sm_in (sm_in (Exists.intro 11 (And.intro (hG.1 123 (Nat.le_of_ble_eq_true rfl)) (And.intro rfl (sm_calln h1 (Nat.le_of_ble_eq_true rfl) (Nat.le_of_ble_eq_true rfl) k4))))))))))))))))))) (fun c2 => have k2t := Eq.mp (if_pos c2) k1f; sm_in (sm_in (And.intro (hG.1 123 (Nat.le_of_ble_eq_true rfl)) (sm_gfr rfl (hG.2 123 3 rfl) (sm_in (sm_in (sm_in ((have e3 := k2t.1; have k3 := k2t.2; sm_in (Exists.intro 5450 (And.intro (hG.1 125 (Nat.le_of_ble_eq_true rfl)) (And.intro e3 (sm_in (sm_in (sm_in (Exists.intro 11 (And.intro (hG.1 123 (Nat.le_of_ble_eq_true rfl)) (And.intro rfl (sm_calln h1 (Nat.le_of_ble_eq_true rfl) (Nat.le_of_ble_eq_true rfl) k3)))))))))))))))))))))))))))))))))))))))
set_option maxRecDepth 100000 in
theorem w_X11_passIt_44 {ex : sm_O} {d n : Nat} {y : sm_Y} {I : Nat → Nat → Int32} {L : Nat → Nat → Int64} {R : Nat → Nat → Option Nat} {Q : sm_Q} {w0 : Option Value} {a1 : Int32} {a2 : Int32} {s0 : Int32} {s1 : Int32} {s2 : Int32} (hG : sm_G y R) (k : vp_in s2 7 ∧ sm_W ex d 0 0 199 10 [w0, some (.int a1), some (.int (a2 + 1))] [] (n, y, sm_st I 144 s2.toNatClampNeg (s1 + s0), L, R) Q) : sm_W ex d 0 0 199 44 [w0, some (.int a1), some (.int a2)] [.int s0, .int s1, .int s2, .ref 144] (n, y, I, L, R) Q := sm_in (sm_in ((have e1 := k.1; have k1 := k.2; sm_in (Exists.intro 7 (And.intro (hG.1 144 (Nat.le_of_ble_eq_true rfl)) (And.intro e1 (sm_in (And.intro (Nat.le_of_ble_eq_true rfl) (sm_in (k1))))))))))
set_option maxRecDepth 100000 in
theorem w_X11_passIt_62 {ex : sm_O} {d n : Nat} {y : sm_Y} {I : Nat → Nat → Int32} {L : Nat → Nat → Int64} {R : Nat → Nat → Option Nat} {Q : sm_Q} {w0 : Option Value} {a1 : Int32} {a2 : Int32} {s0 : Int32} {s1 : Int32} {s2 : Int32} (hG : sm_G y R) (k : vp_in s2 7 ∧ sm_W ex d 0 0 199 10 [w0, some (.int a1), some (.int (a2 + 1))] [] (n, y, sm_st I 144 s2.toNatClampNeg (s1 - s0), L, R) Q) : sm_W ex d 0 0 199 62 [w0, some (.int a1), some (.int a2)] [.int s0, .int s1, .int s2, .ref 144] (n, y, I, L, R) Q := sm_in ((have e1 := k.1; have k1 := k.2; sm_in (Exists.intro 7 (And.intro (hG.1 144 (Nat.le_of_ble_eq_true rfl)) (And.intro e1 (sm_in (And.intro (Nat.le_of_ble_eq_true rfl) (sm_in (k1)))))))))
set_option maxRecDepth 100000 in
theorem w_X11_passIt_72 {ex : sm_O} {d n : Nat} {y : sm_Y} {I : Nat → Nat → Int32} {L : Nat → Nat → Int64} {R : Nat → Nat → Option Nat} {Q : sm_Q} {a1 : Int32} {a2 : Int32} {d1 : Nat} (hG : sm_G y R) (h1 : d1 < d) (k : if (I 125 0) ≤ a2 then (if a1 = (-1) then (Q (some (.int 0)) (n, y, sm_st I 125 4 ((I 125 4) + 1), L, R)) else (sm_W ex d1 0 0 126 0 [some (.long (((I 125 9).toInt64) + 1)), none, some (.int 0), some (.int 99)] [] (n, y, sm_st I 125 4 ((I 125 4) + 1), L, R) (fun r μ1 => sm_W ex d 0 0 199 149 [some (.ref 123), some (.int a1), some (.int a2)] (r.toList ++ [.int 9, .ref 125]) μ1 Q))) else (vp_in a2 7 ∧ sm_W ex d1 0 0 126 0 [some (.long ((I 144 a2.toNatClampNeg).toInt64)), none, some (.int 0), some (.int 99)] [] (n, y, I, L, R) (fun r μ1 => sm_W ex d 0 0 199 103 [some (.ref 123), some (.int a1), some (.int a2)] (r.toList ++ [.int (10 + a2), .ref 125]) μ1 Q))) : sm_W ex d 0 0 199 72 [some (.ref 123), some (.int a1), some (.int a2)] [] (n, y, I, L, R) Q := sm_in (sm_in (sm_in (And.intro (hG.1 123 (Nat.le_of_ble_eq_true rfl)) (sm_gfr rfl (hG.2 123 3 rfl) (sm_in (sm_in (Exists.intro 5450 (And.intro (hG.1 125 (Nat.le_of_ble_eq_true rfl)) (And.intro (sm_lin (by decide)) (sm_in (And.intro (fun c1 => have k1t := Eq.mp (if_pos c1) k; sm_in (sm_in (And.intro (hG.1 123 (Nat.le_of_ble_eq_true rfl)) (sm_gfr rfl (hG.2 123 3 rfl) (sm_in (sm_in (And.intro rfl (And.intro rfl (sm_in (Exists.intro 5450 (And.intro (hG.1 125 (Nat.le_of_ble_eq_true rfl)) (And.intro (sm_lin (by decide)) (sm_in (sm_in (sm_in (Exists.intro 5450 (And.intro (hG.1 125 (Nat.le_of_ble_eq_true rfl)) (And.intro (sm_lin (by decide)) (sm_in (sm_in (sm_in (And.intro (fun c2 => have k2f := Eq.mp (if_neg c2) k1t; sm_in (sm_in (And.intro (hG.1 123 (Nat.le_of_ble_eq_true rfl)) (sm_gfr rfl (hG.2 123 3 rfl) (sm_in (sm_in (sm_in (And.intro (hG.1 123 (Nat.le_of_ble_eq_true rfl)) (sm_gfr rfl (hG.2 123 3 rfl) (sm_in (sm_in (Exists.intro 5450 (And.intro (hG.1 125 (Nat.le_of_ble_eq_true rfl)) (And.intro (sm_lin (by decide)) (sm_in (sm_in (sm_in (sm_in (sm_in (sm_in (And.intro (Nat.le_of_ble_eq_true rfl) (sm_calln h1 (Nat.le_of_ble_eq_true rfl) (Nat.le_of_ble_eq_true rfl) k2f)))))))))))))))))))))) (fun c2 => have k2t := Eq.mp (if_pos c2) k1t; sm_in (sm_in (And.intro rfl k2t))))))))))))))))))))))))) (fun c1 => have k1f := Eq.mp (if_neg c1) k; sm_in (sm_in (And.intro (hG.1 123 (Nat.le_of_ble_eq_true rfl)) (sm_gfr rfl (hG.2 123 3 rfl) (sm_in (sm_in (sm_in (sm_in (sm_in (And.intro (hG.1 123 (Nat.le_of_ble_eq_true rfl)) (sm_gfr rfl (hG.2 123 41 rfl) (sm_in ((have e3 := k1f.1; have k3 := k1f.2; sm_in (Exists.intro 7 (And.intro (hG.1 144 (Nat.le_of_ble_eq_true rfl)) (And.intro e3 (sm_in (sm_in (sm_in (sm_in (And.intro (Nat.le_of_ble_eq_true rfl) (sm_calln h1 (Nat.le_of_ble_eq_true rfl) (Nat.le_of_ble_eq_true rfl) k3))))))))))))))))))))))))))))))))))
set_option maxRecDepth 100000 in
theorem w_X11_passIt_103 {ex : sm_O} {d n : Nat} {y : sm_Y} {I : Nat → Nat → Int32} {L : Nat → Nat → Int64} {R : Nat → Nat → Option Nat} {Q : sm_Q} {w0 : Option Value} {a1 : Int32} {a2 : Int32} {s0 : Int32} {s1 : Int32} (hG : sm_G y R) (k : vp_in s1 5450 ∧ sm_W ex d 0 0 199 72 [w0, some (.int a1), some (.int (a2 + 1))] [] (n, y, sm_st I 125 s1.toNatClampNeg s0, L, R) Q) : sm_W ex d 0 0 199 103 [w0, some (.int a1), some (.int a2)] [.int s0, .int s1, .ref 125] (n, y, I, L, R) Q := (have e1 := k.1; have k1 := k.2; sm_in (Exists.intro 5450 (And.intro (hG.1 125 (Nat.le_of_ble_eq_true rfl)) (And.intro e1 (sm_in (And.intro (Nat.le_of_ble_eq_true rfl) (sm_in (k1))))))))
set_option maxRecDepth 100000 in
theorem w_X11_passIt_149 {ex : sm_O} {d n : Nat} {y : sm_Y} {I : Nat → Nat → Int32} {L : Nat → Nat → Int64} {R : Nat → Nat → Option Nat} {Q : sm_Q} {w2 : Option Value} {a1 : Int32} {s0 : Int32} {s1 : Int32} {d1 : Nat} (hG : sm_G y R) (h1 : d1 < d) (k : vp_in s1 5450 ∧ vp_in (10 + a1) 5450 ∧ vp_in (24 + a1) 5450 ∧ (if ((sm_st I 125 s1.toNatClampNeg s0) 125 (24 + a1).toNatClampNeg) < ((sm_st I 125 s1.toNatClampNeg s0) 125 (10 + a1).toNatClampNeg) then (sm_W ex d1 0 0 193 0 [some (.ref 123), some (.int a1)] [] (n, y, sm_st I 125 s1.toNatClampNeg s0, L, R) (fun r μ1 => sm_W ex d 0 0 199 178 [some (.ref 123), some (.int a1), w2] (r.toList ++ []) μ1 Q)) else (Q (some (.int 0)) (n, y, sm_st I 125 s1.toNatClampNeg s0, L, R)))) : sm_W ex d 0 0 199 149 [some (.ref 123), some (.int a1), w2] [.int s0, .int s1, .ref 125] (n, y, I, L, R) Q := (have e1 := k.1; have k1 := k.2; sm_in (Exists.intro 5450 (And.intro (hG.1 125 (Nat.le_of_ble_eq_true rfl)) (And.intro e1 (sm_in (sm_in (And.intro (hG.1 123 (Nat.le_of_ble_eq_true rfl)) (sm_gfr rfl (hG.2 123 3 rfl) (sm_in (sm_in (sm_in ((have e2 := k1.1; have k2 := k1.2; sm_in (Exists.intro 5450 (And.intro (hG.1 125 (Nat.le_of_ble_eq_true rfl)) (And.intro e2 (sm_in (sm_in (And.intro (hG.1 123 (Nat.le_of_ble_eq_true rfl)) (sm_gfr rfl (hG.2 123 3 rfl) (sm_in (sm_in (sm_in ((have e3 := k2.1; have k3 := k2.2; sm_in (Exists.intro 5450 (And.intro (hG.1 125 (Nat.le_of_ble_eq_true rfl)) (And.intro e3 (sm_in (And.intro (fun c4 => have k4t := Eq.mp (if_pos c4) k3; sm_in (sm_in (sm_in (Exists.intro 11 (And.intro (hG.1 123 (Nat.le_of_ble_eq_true rfl)) (And.intro rfl (sm_calln h1 (Nat.le_of_ble_eq_true rfl) (Nat.le_of_ble_eq_true rfl) k4t))))))) (fun c4 => have k4f := Eq.mp (if_neg c4) k3; sm_in (sm_in (And.intro rfl k4f)))))))))))))))))))))))))))))))))
set_option maxRecDepth 100000 in
theorem w_X11_passIt_178 {ex : sm_O} {d n : Nat} {y : sm_Y} {I : Nat → Nat → Int32} {L : Nat → Nat → Int64} {R : Nat → Nat → Option Nat} {Q : sm_Q} {w0 : Option Value} {w1 : Option Value} {w2 : Option Value} (k : Q (some (.int 1)) (n, y, I, L, R)) : sm_W ex d 0 0 199 178 [w0, w1, w2] [] (n, y, I, L, R) Q := sm_in (sm_in (And.intro rfl k))
-- THE HOUR (the model)
def sp_tire (F : Option (Nat × Law)) (s : St) (m : Nat) : Nat := if sUp s = some m then min 99 (sTired s m + sp_tires F s m) else sTired s m - sp_rests F s m
def sp_hour0 (F : Option (Nat × Law)) (s : St) : St := (sMen s, sHold s, sLook s, sp_tire F s, sCash s, sUp s, (match sUp s with
  | none => sHeld s
  | some _ => min 99 (sHeld s + 1)), sm_up (sTerm s) 0 (sTerm s 0 + 1))
/-- an hour: the state behind it, how many shake -/
def sp_hour (F : Option (Nat × Law)) (s : St) : St × Nat := match sUp s with
  | none => (sp_hour0 F s, 0)
  | some u => if sp_tire F s u ≤ sHold s u then (sp_hour0 F s, 0) else (sp_cashier (sp_hour0 F s) u, 1)
def sp_tv (F : Option (Nat × Law)) (s : St) (m : Nat) : Int := if sUp s = some m then (sTired s m : Int) + sp_tires F s m else (sTired s m : Int) - sp_rests F s m
theorem sp_tv_cl (F : Option (Nat × Law)) (s : St) (m : Nat) (h : sTired s m ≤ 99) : sp_clN 99 (sp_tv F s m) = sp_tire F s m := by
  unfold sp_clN sp_tv sp_tire
  by_cases hu : sUp s = some m
  · simp only [if_pos hu]
    rw [if_neg (by omega)]
    split
    · omega
    · omega
  · simp only [if_neg hu]
    split
    · omega
    · split <;> omega
theorem sp_tire_le (F : Option (Nat × Law)) (s : St) (m : Nat) (h : sTired s m ≤ 99) : sp_tire F s m ≤ 99 := by
  rw [← sp_tv_cl F s m h]
  exact sp_clN_le 99 _
theorem sp_hour0_ok {F : Option (Nat × Law)} {s : St} (h : sp_ok s) (ht : sTerm s 0 < 100000) : sp_ok (sp_hour0 F s) := by
  obtain ⟨h1, h2, h3, h4, h5, h6, h7, h8⟩ := h
  refine ⟨h1, fun i hi => ⟨(h2 i hi).1, (h2 i hi).2.1, (h2 i hi).2.2.1, sp_tire_le F s i (h2 i hi).2.2.2⟩, h3, ?_, ?_, h6, h7, h8⟩
  · show (match sUp s with | none => sHeld s | some _ => min 99 (sHeld s + 1)) ≤ 99
    cases sUp s with
    | none => exact h4
    | some u => exact Nat.min_le_left 99 _
  · show sm_up (sTerm s) 0 (sTerm s 0 + 1) 0 ≤ 100000
    simp [sm_up]
    omega
theorem sp_cashier_ok {s : St} {m : Nat} (h : sp_ok s) : sp_ok (sp_cashier s m) := by
  obtain ⟨h1, h2, h3, h4, h5, h6, h7, h8⟩ := h
  refine ⟨h1, h2, fun u hu => ?_, ?_, h5, h6, h7, h8⟩
  · have hu : (if sUp s = some m then none else sUp s) = some u := hu
    split at hu
    · cases hu
    · exact h3 u hu
  · show (if sUp s = some m then 0 else sHeld s) ≤ 99
    split <;> omega
theorem sp_hour_ok {F : Option (Nat × Law)} {s : St} (h : sp_ok s) (ht : sTerm s 0 < 100000) : sp_ok (sp_hour F s).1 := by
  unfold sp_hour
  split
  · exact sp_hour0_ok h ht
  · split
    · exact sp_hour0_ok h ht
    · exact sp_cashier_ok (sp_hour0_ok h ht)
theorem sp_hour_term (F : Option (Nat × Law)) (s : St) : sTerm (sp_hour F s).1 = sm_up (sTerm s) 0 (sTerm s 0 + 1) := by
  unfold sp_hour
  split
  · rfl
  · split <;> rfl
set_option maxHeartbeats 2000000 in
theorem c_X11_passIt {ex : sm_O} {n : Nat} {y : sm_Y} {I : Nat → Nat → Int32} {L : Nat → Nat → Int64} {R : Nat → Nat → Option Nat} {Q : sm_Q} {d : Nat} {w1 w2 : Option Value} {s : St} {F : Option (Nat × Law)} (hd : 6 ≤ d) (hG : sm_G y R) (hs : mS s (I 125)) (hok : sp_ok s) (ht0 : sTerm s 0 < 100000) (h20 : I 123 20 = 0) (hF : mForce I F)
    (k : ∀ (I' : Nat → Nat → Int32) (L' : Nat → Nat → Int64), mFm I I' L L' → mS (sp_hour F s).1 (I' 125) → Q (some (.int (nI (sp_hour F s).2))) (n, y, I', L', R)) : sm_W ex d 0 0 199 0 [some (.ref 123), w1, w2] [] (n, y, I, L, R) Q := by
  have h7 := hok.1
  -- behind both loops
  have fin : ∀ (I2 : Nat → Nat → Int32) (L2 : Nat → Nat → Int64), mFm I I2 L L2 → (∀ x, I2 125 x = if 10 ≤ x ∧ x < 10 + sMen s then nI (sp_tire F s (x - 10)) else I 125 x) → sm_W ex d 0 0 199 72 [some (.ref 123), some (.int (sp_up (sUp s))), some (.int (nI (sMen s)))] [] (n, y, I2, L2, R) Q := by
    intro I2 L2 hf hr
    have r0 : I2 125 0 = nI (sMen s) := by rw [hr, if_neg (by omega)]; exact hs.1
    have r4 : I2 125 4 = nI (sTerm s 0) := by rw [hr, if_neg (by omega)]; exact hs.2.2.2.2 0 (by decide)
    refine w_X11_passIt_72 (d1 := 0) hG (by omega) ?_
    rw [r0, if_pos (Int32.le_refl _), r4, sm_n1]
    have hf4 : mFm I (sm_st I2 125 4 (nI (sTerm s 0 + 1))) L L2 := hf.trans (mFm.r I2 L2 _ (by decide) (by decide))
    have ho : ∀ x, x ≠ 4 → sm_st I2 125 4 (nI (sTerm s 0 + 1)) 125 x = if 10 ≤ x ∧ x < 10 + sMen s then nI (sp_tire F s (x - 10)) else I 125 x := fun x hx => by rw [sm_st_j _ _ hx]; exact hr x
    -- the state behind, whatever held is
    have hS : ∀ (I3 : Nat → Nat → Int32), I3 125 4 = nI (sTerm s 0 + 1) → I3 125 9 = nI (sHeld (sp_hour0 F s)) → (∀ x, x ≠ 4 → x ≠ 9 → I3 125 x = if 10 ≤ x ∧ x < 10 + sMen s then nI (sp_tire F s (x - 10)) else I 125 x) → mS (sp_hour0 F s) (I3 125) := by
      intro I3 e4 e9 eo
      refine ⟨by rw [eo 0 (by decide) (by decide), if_neg (by omega)]; exact hs.1, fun i hi => ?_, by rw [eo 8 (by decide) (by decide), if_neg (by omega)]; exact hs.2.2.1, e9, fun j hj => ?_⟩
      · have hi' : i < sMen s := hi
        have g := hs.2.1 i hi'
        refine ⟨by rw [eo (24 + i) (by omega) (by omega), if_neg (by omega)]; exact g.1, by rw [eo (31 + i) (by omega) (by omega), if_neg (by omega)]; exact g.2.1, ?_, by rw [eo (17 + i) (by omega) (by omega), if_neg (by omega)]; exact g.2.2.2⟩
        rw [eo (10 + i) (by omega) (by omega), if_pos (by omega), show 10 + i - 10 = i by omega]
        rfl
      · show I3 125 (4 + j) = nI (sm_up (sTerm s) 0 (sTerm s 0 + 1) j)
        by_cases e : j = 0
        · subst e
          simp only [sm_up, if_true]
          exact e4
        · rw [eo (4 + j) (by omega) (by omega), if_neg (by omega)]
          simp only [sm_up, if_neg e]
          exact hs.2.2.2.2 j hj
    cases hu : sUp s with
    | none =>
      rw [if_pos (show sp_up none = -1 from rfl)]
      have hh : sp_hour F s = (sp_hour0 F s, 0) := by unfold sp_hour; rw [hu]
      have k9 := k _ L2 hf4 (by
        rw [hh]
        refine hS _ (sm_st_s _ _ _ _) ?_ (fun x h4 _ => ho x h4)
        rw [ho 9 (by decide), if_neg (by omega)]
        show _ = nI (match sUp s with | none => sHeld s | some _ => min 99 (sHeld s + 1))
        rw [hu]
        exact hs.2.2.2.1)
      rw [hh] at k9
      exact k9
    | some u =>
      have hum : u < sMen s := hok.2.2.1 u hu
      rw [if_neg (by
        intro q
        have := congrArg Int32.toInt q
        rw [show sp_up (some u) = nI u from rfl, nI_toInt (by omega)] at this
        have z : (-1 : Int32).toInt = -1 := rfl
        omega)]
      have h9 : I2 125 9 = nI (sHeld s) := by rw [hr, if_neg (by omega)]; exact hs.2.2.2.1
      have hhe := hok.2.2.2.1
      rw [h9]
      refine c_X11_bounded (hi := 99) (by decide) ?_
      have ecl : sp_clN 99 (((nI (sHeld s)).toInt64 + 1).toInt) = min 99 (sHeld s + 1) := by
        have e1 : ((nI (sHeld s)).toInt64 + 1).toInt = (sHeld s : Int) + 1 := by
          rw [nI_l (by omega), lN_1, lN_toInt (by omega)]
          omega
        rw [e1]
        unfold sp_clN
        rw [if_neg (by omega)]
        split <;> omega
      rw [ecl]
      refine w_X11_passIt_149 (d1 := 0) hG (by omega) ?_
      have eh : sHeld (sp_hour0 F s) = min 99 (sHeld s + 1) := by
        show (match sUp s with | none => sHeld s | some _ => min 99 (sHeld s + 1)) = _
        rw [hu]
      have e9 : (9 : Int32).toNatClampNeg = 9 := rfl
      refine ⟨sm_lin (by decide), sm_ci10 (by omega) (by decide), sm_ci24 (by omega) (by decide), ?_⟩
      rw [e9, show sp_up (some u) = nI u from rfl, sm_cx10 (by omega), sm_cx24 (by omega)]
      have hf9 := hf4.trans (mFm.r (sm_st I2 125 4 (nI (sTerm s 0 + 1))) L2 (i := 9) (nI (min 99 (sHeld s + 1))) (by decide) (by decide))
      have hS9 : mS (sp_hour0 F s) (sm_st (sm_st I2 125 4 (nI (sTerm s 0 + 1))) 125 9 (nI (min 99 (sHeld s + 1))) 125) := hS _ (by rw [sm_st_j _ _ (by decide), sm_st_s]) (by rw [sm_st_s, eh]) (fun x h4 h9 => by rw [sm_st_j _ _ h9]; exact ho x h4)
      have gu := hS9.2.1 u hum
      rw [gu.1, gu.2.2.1]
      have htl := sp_tire_le F s u (hok.2.1 u hum).2.2.2
      have hhl := (hok.2.1 u hum).2.1
      by_cases hsh : sp_tire F s u ≤ sHold s u
      · have hh : sp_hour F s = (sp_hour0 F s, 0) := by unfold sp_hour; rw [hu]; dsimp only; rw [if_pos hsh]
        rw [if_neg (by
          rw [nI_ltI (by show sHold s u < _; omega) (by show sp_tire F s u < _; omega)]
          show ¬ sHold s u < sp_tire F s u
          omega)]
        have k9 := k _ L2 hf9 (by rw [hh]; exact hS9)
        rw [hh] at k9
        exact k9
      · have hh : sp_hour F s = (sp_cashier (sp_hour0 F s) u, 1) := by unfold sp_hour; rw [hu]; dsimp only; rw [if_neg hsh]
        rw [if_pos (by
          rw [nI_ltI (by show sHold s u < _; omega) (by show sp_tire F s u < _; omega)]
          show sHold s u < sp_tire F s u
          omega)]
        refine c_X11_cashier (s := sp_hour0 F s) hG hS9 (sp_hour0_ok hok ht0) hum ?_
        intro I4 hf5 hS5
        refine w_X11_passIt_178 ?_
        have k9 := k I4 L2 (hf9.trans hf5) (by rw [hh]; exact hS5)
        rw [hh] at k9
        exact k9
  -- the second loop
  have loop2 : ∀ (q j : Nat) (I2 : Nat → Nat → Int32) (L2 : Nat → Nat → Int64), j + q = sMen s → mFm I I2 L L2 → (∀ i, i < sMen s → (I2 144 i).toInt = sp_tv F s i) → (∀ x, I2 125 x = if 10 ≤ x ∧ x < 10 + j then nI (sp_tire F s (x - 10)) else I 125 x) → sm_W ex d 0 0 199 72 [some (.ref 123), some (.int (sp_up (sUp s))), some (.int (nI j))] [] (n, y, I2, L2, R) Q := by
    intro q
    induction q with
    | zero =>
      intro j I2 L2 hj hf _ hr
      obtain rfl : j = sMen s := by omega
      exact fin I2 L2 hf hr
    | succ q ih =>
      intro j I2 L2 hj hf hv hr
      have r0 : I2 125 0 = nI (sMen s) := by rw [hr, if_neg (by omega)]; exact hs.1
      refine w_X11_passIt_72 (d1 := 0) hG (by omega) ?_
      rw [r0, if_neg (by rw [nI_leI (by omega) (by omega)]; omega)]
      refine ⟨vp_in_nI (by omega) (by decide), ?_⟩
      rw [nI_clamp (by omega)]
      refine c_X11_bounded (hi := 99) (by decide) ?_
      rw [Int32.toInt_toInt64, hv j (by omega), sp_tv_cl F s j (hok.2.1 j (by omega)).2.2.2]
      refine w_X11_passIt_103 hG ?_
      refine ⟨sm_ci10 (by omega) (by decide), ?_⟩
      rw [sm_cx10 (by omega), sm_n1]
      refine ih (j + 1) _ L2 (by omega) (hf.trans (mFm.r I2 L2 _ (by omega) (by omega))) (fun i hi => by rw [sm_st_o _ _ (by decide)]; exact hv i hi) (fun x => ?_)
      by_cases hx : x = 10 + j
      · subst hx
        rw [sm_st_s, if_pos (by omega), show 10 + j - 10 = j by omega]
      · rw [sm_st_j _ _ hx, hr]
        by_cases h1 : 10 ≤ x ∧ x < 10 + j
        · rw [if_pos h1, if_pos (by omega)]
        · rw [if_neg h1, if_neg (by omega)]
  -- the first loop
  have loop1 : ∀ (q j : Nat) (I1 : Nat → Nat → Int32) (L1 : Nat → Nat → Int64), j + q = sMen s → mFm I I1 L L1 → (∀ x, I1 125 x = I 125 x) → (∀ i, i < j → (I1 144 i).toInt = sp_tv F s i) → sm_W ex d 0 0 199 10 [some (.ref 123), some (.int (sp_up (sUp s))), some (.int (nI j))] [] (n, y, I1, L1, R) Q := by
    intro q
    induction q with
    | zero =>
      intro j I1 L1 hj hf hr hv
      obtain rfl : j = sMen s := by omega
      refine w_X11_passIt_10 (d1 := 5) hG (by omega) ?_
      rw [hr 0, hs.1, if_pos (Int32.le_refl _)]
      exact loop2 (sMen s) 0 I1 L1 (by omega) hf hv (fun x => by rw [if_neg (by omega)]; exact hr x)
    | succ q ih =>
      intro j I1 L1 hj hf hr hv
      have hjm : j < sMen s := by omega
      have hs1 : mS s (I1 125) := by
        have : I1 125 = I 125 := funext hr
        rw [this]
        exact hs
      have h201 : I1 123 20 = 0 := by rw [hf.1 123 20 (by simp) (by simp) (by simp)]; exact h20
      have hF1 := hf.F hF
      have htj := (hok.2.1 j hjm).2.2.2
      -- on
      have go : ∀ (I2 : Nat → Nat → Int32) (L2 : Nat → Nat → Int64) (v : Int32), mFt I1 I2 L1 L2 → v.toInt = sp_tv F s j → sm_W ex d 0 0 199 10 [some (.ref 123), some (.int (sp_up (sUp s))), some (.int (nI j + 1))] [] (n, y, sm_st I2 144 j v, L2, R) Q := by
        intro I2 L2 v hft hvj
        rw [sm_n1]
        refine ih (j + 1) _ L2 (by omega) ((hf.trans hft.m).trans (mFm.t I2 L2 j v)) (fun x => ?_) (fun i hi => ?_)
        · rw [sm_st_o _ _ (by decide), hft.1 125 x (by simp)]
          exact hr x
        · by_cases e : i = j
          · subst e
            rw [sm_st_s]
            exact hvj
          · rw [sm_st_j _ _ e, hft.1 144 i (by simp)]
            exact hv i (by omega)
      refine w_X11_passIt_10 (d1 := 5) hG (by omega) ?_
      rw [hr 0, hs.1, if_neg (by rw [nI_leI (by omega) (by omega)]; omega)]
      rw [sm_cx10 (by omega), hr (10 + j), (hs.2.1 j hjm).2.2.1]
      by_cases hu : sUp s = some j
      · rw [if_pos ((sp_up_eq hok.2.2.1 (by omega) hjm).mpr hu).symm]
        refine ⟨sm_ci10 (by omega) (by decide), ?_⟩
        refine c_X11_tires (s := s) (F := F) (Nat.le_refl 5) hG hs1 hok hjm h201 hF1 ?_
        intro I2 L2 hft
        refine w_X11_passIt_44 hG ?_
        refine ⟨vp_in_nI (by omega) (by decide), ?_⟩
        rw [nI_clamp (by omega)]
        refine go I2 L2 _ hft ?_
        have := sp_clN_le 9 (sp_get (sp_toldF F 0 (sp_env s j none)) 1)
        have ht9 : sp_tires F s j ≤ 9 := this
        rw [nI_add, nI_toInt (by omega)]
        unfold sp_tv
        rw [if_pos hu]
        omega
      · rw [if_neg (fun z => hu ((sp_up_eq hok.2.2.1 (by omega) hjm).mp z.symm))]
        refine ⟨sm_ci10 (by omega) (by decide), ?_⟩
        refine c_X11_rests (s := s) (F := F) (Nat.le_refl 5) hG hs1 hok hjm h201 hF1 ?_
        intro I2 L2 hft
        refine w_X11_passIt_62 hG ?_
        refine ⟨vp_in_nI (by omega) (by decide), ?_⟩
        rw [nI_clamp (by omega)]
        refine go I2 L2 _ hft ?_
        have := sp_clN_le 9 (sp_get (sp_toldF F 1 (sp_env s j none)) 1)
        have ht9 : sp_rests F s j ≤ 9 := this
        rw [pk_sub_toInt (by omega) (by omega)]
        unfold sp_tv
        rw [if_neg hu]
  refine w_X11_passIt_0 hG ?_
  rw [hs.2.2.1]
  exact loop1 (sMen s) 0 I L (by omega) (mFm.rfl' I L) (fun _ => rfl) (fun i hi => absurd hi (by omega))

