set_option maxRecDepth 100000 in
theorem w_X10_law_0 {ex : sm_O} {d n : Nat} {y : sm_Y} {I : Nat → Nat → Int32} {L : Nat → Nat → Int64} {R : Nat → Nat → Option Nat} {Q : sm_Q} {w1 : Option Value} {d1 : Nat} (hG : sm_G y R) (h1 : d1 < d) (k : if (I 6 2) < 6 then (vp_in (I 6 2) 6 ∧ sm_W ex d1 0 0 40 0 [some (.ref 120), some (.int (I 0 12)), some (.ref (14 + 6 * (I 6 2).toNatClampNeg)), some (.int 0), none] [] (n, y, sm_st I 0 12 0, L, R) (fun r μ1 => sm_W ex d 0 0 83 54 [some (.ref 0), some (.int (I 0 12))] (r.toList ++ [.ref 0]) μ1 Q)) else (sm_W ex d1 0 0 122 0 [some (.ref 0), some (.int (-5))] [] (n, y, sm_st I 0 12 0, L, R) (fun r μ1 => sm_W ex d 0 0 83 28 [some (.ref 0), some (.int (I 0 12))] (r.toList ++ []) μ1 Q))) : sm_W ex d 0 0 83 0 [some (.ref 0), w1] [] (n, y, I, L, R) Q := sm_in (sm_in (And.intro (hG.1 0 (Nat.le_of_ble_eq_true rfl)) (sm_in (And.intro (Nat.le_of_ble_eq_true rfl) (sm_in (sm_in (sm_in (And.intro (hG.1 0 (Nat.le_of_ble_eq_true rfl)) (sm_in (sm_in (And.intro (hG.1 0 (Nat.le_of_ble_eq_true rfl)) (sm_gfr rfl (hG.2 0 1 rfl) (sm_in (And.intro (hG.1 6 (Nat.le_of_ble_eq_true rfl)) (sm_in (sm_in (And.intro (fun c1 => have k1t := Eq.mp (if_pos c1) k; sm_in (sm_in (sm_in (And.intro (hG.1 0 (Nat.le_of_ble_eq_true rfl)) (sm_gfr rfl (hG.2 0 13 rfl) (sm_in (sm_in (sm_in (And.intro (hG.1 0 (Nat.le_of_ble_eq_true rfl)) (sm_gfr rfl (hG.2 0 1 rfl) (sm_in (And.intro (hG.1 6 (Nat.le_of_ble_eq_true rfl)) (sm_gfr rfl (hG.2 6 0 rfl) (sm_in (sm_in (And.intro (hG.1 0 (Nat.le_of_ble_eq_true rfl)) (sm_gfr rfl (hG.2 0 1 rfl) (sm_in (And.intro (hG.1 6 (Nat.le_of_ble_eq_true rfl)) ((have e2 := k1t.1; have k2 := k1t.2; sm_in (Exists.intro 6 (Exists.intro 6 (And.intro (hG.1 7 (Nat.le_of_ble_eq_true rfl)) (And.intro e2 (sm_rrs (sm_G7 hG e2) (sm_in (sm_in (Exists.intro 7 (And.intro (hG.1 120 (Nat.le_of_ble_eq_true rfl)) (And.intro rfl (sm_calln h1 (Nat.le_of_ble_eq_true rfl) (Nat.le_of_ble_eq_true rfl) k2)))))))))))))))))))))))))))))))) (fun c1 => have k1f := Eq.mp (if_neg c1) k; sm_in (sm_in (sm_in (Exists.intro 10 (And.intro (hG.1 0 (Nat.le_of_ble_eq_true rfl)) (And.intro rfl (sm_calln h1 (Nat.le_of_ble_eq_true rfl) (Nat.le_of_ble_eq_true rfl) k1f))))))))))))))))))))))))
set_option maxRecDepth 100000 in
theorem w_X10_law_28 {ex : sm_O} {d n : Nat} {y : sm_Y} {I : Nat → Nat → Int32} {L : Nat → Nat → Int64} {R : Nat → Nat → Option Nat} {Q : sm_Q} {w0 : Option Value} {w1 : Option Value} {s0 : Int32} (k : Q (some (.int s0)) (n, y, I, L, R)) : sm_W ex d 0 0 83 28 [w0, w1] [.int s0] (n, y, I, L, R) Q := sm_in (And.intro rfl k)
set_option maxRecDepth 100000 in
theorem w_X10_law_54 {ex : sm_O} {d n : Nat} {y : sm_Y} {I : Nat → Nat → Int32} {L : Nat → Nat → Int64} {R : Nat → Nat → Option Nat} {Q : sm_Q} {w1 : Option Value} {s0 : Int32} {d1 : Nat} (hG : sm_G y R) (h1 : d1 < d) (k : if s0 = (-1) then (sm_W ex d1 0 0 121 0 [some (.ref 0), some (.int (((I 6 2) + 1) - 1))] [] (n, y, sm_st (sm_st I 0 16 s0) 6 2 ((I 6 2) + 1), L, R) (fun r μ1 => sm_W ex d 0 0 83 98 [some (.ref 0), w1] (r.toList ++ []) μ1 Q)) else (sm_W ex d1 0 0 122 0 [some (.ref 0), some (.int (-6))] [] (n, y, sm_st I 0 16 s0, L, R) (fun r μ1 => sm_W ex d 0 0 83 71 [some (.ref 0), w1] (r.toList ++ []) μ1 Q))) : sm_W ex d 0 0 83 54 [some (.ref 0), w1] [.int s0, .ref 0] (n, y, I, L, R) Q := sm_in (And.intro (hG.1 0 (Nat.le_of_ble_eq_true rfl)) (sm_in (sm_in (And.intro (hG.1 0 (Nat.le_of_ble_eq_true rfl)) (sm_in (sm_in (And.intro (fun c1 => have k1t := Eq.mp (if_pos c1) k; sm_in (sm_in (And.intro (hG.1 0 (Nat.le_of_ble_eq_true rfl)) (sm_gfr rfl (hG.2 0 1 rfl) (sm_in (And.intro rfl (sm_in (And.intro (hG.1 6 (Nat.le_of_ble_eq_true rfl)) (sm_in (sm_in (sm_in (And.intro (hG.1 6 (Nat.le_of_ble_eq_true rfl)) (sm_in (sm_in (sm_in (And.intro (hG.1 0 (Nat.le_of_ble_eq_true rfl)) (sm_gfr rfl (hG.2 0 1 rfl) (sm_in (And.intro (hG.1 6 (Nat.le_of_ble_eq_true rfl)) (sm_in (sm_in (sm_in (Exists.intro 10 (And.intro (hG.1 0 (Nat.le_of_ble_eq_true rfl)) (And.intro rfl (sm_calln h1 (Nat.le_of_ble_eq_true rfl) (Nat.le_of_ble_eq_true rfl) k1t)))))))))))))))))))))))))) (fun c1 => have k1f := Eq.mp (if_neg c1) k; sm_in (sm_in (sm_in (Exists.intro 10 (And.intro (hG.1 0 (Nat.le_of_ble_eq_true rfl)) (And.intro rfl (sm_calln h1 (Nat.le_of_ble_eq_true rfl) (Nat.le_of_ble_eq_true rfl) k1f))))))))))))))
set_option maxRecDepth 100000 in
theorem w_X10_law_71 {ex : sm_O} {d n : Nat} {y : sm_Y} {I : Nat → Nat → Int32} {L : Nat → Nat → Int64} {R : Nat → Nat → Option Nat} {Q : sm_Q} {w0 : Option Value} {w1 : Option Value} {s0 : Int32} (k : Q (some (.int s0)) (n, y, I, L, R)) : sm_W ex d 0 0 83 71 [w0, w1] [.int s0] (n, y, I, L, R) Q := sm_in (And.intro rfl k)
set_option maxRecDepth 100000 in
theorem w_X10_law_98 {ex : sm_O} {d n : Nat} {y : sm_Y} {I : Nat → Nat → Int32} {L : Nat → Nat → Int64} {R : Nat → Nat → Option Nat} {Q : sm_Q} {w0 : Option Value} {w1 : Option Value} {s0 : Int32} (k : Q (some (.int s0)) (n, y, I, L, R)) : sm_W ex d 0 0 83 98 [w0, w1] [.int s0] (n, y, I, L, R) Q := sm_in (And.intro rfl k)
set_option maxRecDepth 100000 in
theorem w_X10_orders_0 {ex : sm_O} {d n : Nat} {y : sm_Y} {I : Nat → Nat → Int32} {L : Nat → Nat → Int64} {R : Nat → Nat → Option Nat} {Q : sm_Q} {w1 : Option Value} {d1 : Nat} (hG : sm_G y R) (h1 : d1 < d) (k : sm_W ex d1 0 0 40 0 [some (.ref 120), some (.int (I 0 12)), some (.ref 67), some (.int 1), none] [] (n, y, sm_st (sm_st I 0 12 0) 54 9 (-1), L, R) (fun r μ1 => sm_W ex d 0 0 84 35 [some (.ref 0), some (.int (I 0 12))] (r.toList ++ [.ref 0]) μ1 Q)) : sm_W ex d 0 0 84 0 [some (.ref 0), w1] [] (n, y, I, L, R) Q := sm_in (sm_in (And.intro (hG.1 0 (Nat.le_of_ble_eq_true rfl)) (sm_in (And.intro (Nat.le_of_ble_eq_true rfl) (sm_in (sm_in (sm_in (And.intro (hG.1 0 (Nat.le_of_ble_eq_true rfl)) (sm_in (sm_in (And.intro (hG.1 0 (Nat.le_of_ble_eq_true rfl)) (sm_gfr rfl (hG.2 0 3 rfl) (sm_in (sm_in (And.intro (hG.1 54 (Nat.le_of_ble_eq_true rfl)) (sm_in (sm_in (sm_in (And.intro (hG.1 0 (Nat.le_of_ble_eq_true rfl)) (sm_gfr rfl (hG.2 0 13 rfl) (sm_in (sm_in (sm_in (And.intro (hG.1 0 (Nat.le_of_ble_eq_true rfl)) (sm_gfr rfl (hG.2 0 3 rfl) (sm_in (And.intro (hG.1 54 (Nat.le_of_ble_eq_true rfl)) (sm_gfr rfl (hG.2 54 6 rfl) (sm_in (sm_in (Exists.intro 7 (And.intro (hG.1 120 (Nat.le_of_ble_eq_true rfl)) (And.intro rfl (sm_calln h1 (Nat.le_of_ble_eq_true rfl) (Nat.le_of_ble_eq_true rfl) k))))))))))))))))))))))))))))))))))
set_option maxRecDepth 100000 in
theorem w_X10_orders_35 {ex : sm_O} {d n : Nat} {y : sm_Y} {I : Nat → Nat → Int32} {L : Nat → Nat → Int64} {R : Nat → Nat → Option Nat} {Q : sm_Q} {w1 : Option Value} {s0 : Int32} {d1 : Nat} (hG : sm_G y R) (h1 : d1 < d) (k : if s0 = (-1) then (sm_W ex d1 0 0 7 0 [some (.ref 54), none, none] [] (n, y, sm_st I 0 16 s0, L, R) (fun r μ1 => sm_W ex d 0 0 84 61 [some (.ref 0), w1] (r.toList ++ [.ref 0]) μ1 Q)) else (sm_W ex d1 0 0 122 0 [some (.ref 0), some (.int (-6))] [] (n, y, sm_st I 0 16 s0, L, R) (fun r μ1 => sm_W ex d 0 0 84 52 [some (.ref 0), w1] (r.toList ++ []) μ1 Q))) : sm_W ex d 0 0 84 35 [some (.ref 0), w1] [.int s0, .ref 0] (n, y, I, L, R) Q := sm_in (And.intro (hG.1 0 (Nat.le_of_ble_eq_true rfl)) (sm_in (sm_in (And.intro (hG.1 0 (Nat.le_of_ble_eq_true rfl)) (sm_in (sm_in (And.intro (fun c1 => have k1t := Eq.mp (if_pos c1) k; sm_in (sm_in (sm_in (And.intro (hG.1 0 (Nat.le_of_ble_eq_true rfl)) (sm_gfr rfl (hG.2 0 3 rfl) (sm_in (Exists.intro 1 (And.intro (hG.1 54 (Nat.le_of_ble_eq_true rfl)) (And.intro rfl (sm_calln h1 (Nat.le_of_ble_eq_true rfl) (Nat.le_of_ble_eq_true rfl) k1t)))))))))) (fun c1 => have k1f := Eq.mp (if_neg c1) k; sm_in (sm_in (sm_in (Exists.intro 10 (And.intro (hG.1 0 (Nat.le_of_ble_eq_true rfl)) (And.intro rfl (sm_calln h1 (Nat.le_of_ble_eq_true rfl) (Nat.le_of_ble_eq_true rfl) k1f))))))))))))))
set_option maxRecDepth 100000 in
theorem w_X10_orders_52 {ex : sm_O} {d n : Nat} {y : sm_Y} {I : Nat → Nat → Int32} {L : Nat → Nat → Int64} {R : Nat → Nat → Option Nat} {Q : sm_Q} {w0 : Option Value} {w1 : Option Value} {s0 : Int32} (k : Q (some (.int s0)) (n, y, I, L, R)) : sm_W ex d 0 0 84 52 [w0, w1] [.int s0] (n, y, I, L, R) Q := sm_in (And.intro rfl k)
set_option maxRecDepth 100000 in
theorem w_X10_orders_61 {ex : sm_O} {d n : Nat} {y : sm_Y} {I : Nat → Nat → Int32} {L : Nat → Nat → Int64} {R : Nat → Nat → Option Nat} {Q : sm_Q} {w0 : Option Value} {w1 : Option Value} {s0 : Int32} {d1 : Nat} (hG : sm_G y R) (h1 : d1 < d) (k : sm_W ex d1 0 0 120 0 [some (.ref 0), some (.int s0)] [] (n, y, I, L, R) (fun r μ1 => sm_W ex d 0 0 84 64 [w0, w1] (r.toList ++ []) μ1 Q)) : sm_W ex d 0 0 84 61 [w0, w1] [.int s0, .ref 0] (n, y, I, L, R) Q := sm_in (Exists.intro 10 (And.intro (hG.1 0 (Nat.le_of_ble_eq_true rfl)) (And.intro rfl (sm_calln h1 (Nat.le_of_ble_eq_true rfl) (Nat.le_of_ble_eq_true rfl) k))))
set_option maxRecDepth 100000 in
theorem w_X10_orders_64 {ex : sm_O} {d n : Nat} {y : sm_Y} {I : Nat → Nat → Int32} {L : Nat → Nat → Int64} {R : Nat → Nat → Option Nat} {Q : sm_Q} {w0 : Option Value} {w1 : Option Value} {s0 : Int32} (k : Q (some (.int s0)) (n, y, I, L, R)) : sm_W ex d 0 0 84 64 [w0, w1] [.int s0] (n, y, I, L, R) Q := sm_in (And.intro rfl k)
-- LAW() AND ORDERS() OF THE CLASS
theorem ok6_R {y : sm_Y} {R : Nat → Nat → Option Nat} {o ns nc : Nat} {v : Option Nat} (ho : o ≠ 120) (h : ok6 y R o ns nc) : ok6 y (sm_st R 120 3 v) o ns nc := by
  obtain ⟨q1, q2, q3, q4, q5, q6, q7⟩ := h
  exact ⟨q1, (sm_st_o _ _ ho).trans q2, (sm_st_o _ _ ho).trans q3, (sm_st_o _ _ ho).trans q4, (sm_st_o _ _ ho).trans q5, (sm_st_o _ _ ho).trans q6, q7⟩
theorem cIm_R {im : Nat → Option Sn} {n : Nat} {y : sm_Y} {I : Nat → Nat → Int32} {R : Nat → Nat → Option Nat} {v : Option Nat} (h : cIm im n y I R) : cIm im n y I (sm_st R 120 3 v) := by
  obtain ⟨o, q, h1, h2⟩ := h
  refine ⟨o, q, fun k hk => ?_, h2⟩
  have h1 := h1 k hk
  cases hx : im k with
  | none =>
    rw [hx] at h1
    exact ⟨(sm_st_o _ _ (by decide)).trans h1.1, (sm_st_o _ _ (by decide)).trans h1.2⟩
  | some x =>
    rw [hx] at h1
    obtain ⟨a1, a2, a3, a4, a5, a6, a7⟩ := h1
    refine ⟨(sm_st_o _ _ (by decide)).trans a1, (sm_st_o _ _ (by decide)).trans a2, ?_, ?_, a5, a6, a7⟩
    · obtain ⟨q1, q2, q3, q4, q5, q6⟩ := a3
      exact ⟨q1, (sm_st_o _ _ (by omega)).trans q2, (sm_st_o _ _ (by omega)).trans q3, (sm_st_o _ _ (by omega)).trans q4, (sm_st_o _ _ (by omega)).trans q5, q6⟩
    · obtain ⟨q1, q2, q3, q4, q5, q6⟩ := a4
      exact ⟨q1, (sm_st_o _ _ (by omega)).trans q2, (sm_st_o _ _ (by omega)).trans q3, q4, ok6_R (by omega) q5, fun i hi => ⟨(sm_st_o _ _ (by omega)).trans (q6 i hi).1, ok6_R (by omega) (q6 i hi).2⟩⟩
theorem cCs_law {I : Nat → Nat → Int32} {P len : Nat} {cd : Nat → Nat × Nat} {l : List OC} (h : cCs false I P cd len l) (hp : cPr I P cd len) : cLaw I P (l.map Prod.fst) := by
  obtain ⟨h1, h2, h3⟩ := h
  refine ⟨by rw [List.length_map]; exact h1, by rw [List.length_map]; exact h2, cd, len, hp, fun c x hx => ?_⟩
  rw [List.getElem?_map] at hx
  cases hz : l[c]? with
  | none => rw [hz] at hx; cases hx
  | some z =>
    rw [hz] at hx
    cases hx
    obtain ⟨a1, a2, a3, a4, a5, a6, a7⟩ := h3 c z hz
    refine ⟨a1, a2, fun q => (a3 q).g, ?_⟩
    show match z.1.2.2 with
      | none => I (P + 4) c = -1
      | some T => sp_01 T ∧ cSg 8 cd len (I (P + 4) c) T
    cases hT : z.1.2.2 with
    | none => rw [hT] at a5; exact a5
    | some T => rw [hT] at a5; exact ⟨a5.1, a5.2.g⟩
theorem cCs_ord {I : Nat → Nat → Int32} {len : Nat} {cd : Nat → Nat × Nat} {l : List OC} (h : cCs true I 67 cd len l) (hp : cPr I 67 cd len) : cOrd I l := by
  obtain ⟨h1, h2, h3⟩ := h
  refine ⟨h1, h2, cd, len, hp, fun c z hz => ?_⟩
  obtain ⟨a1, a2, a3, a4, a5, a6, a7⟩ := h3 c z hz
  refine ⟨a1, a2, fun q => (a3 q).g, a4, ?_, a6, a7⟩
  cases hT : z.1.2.2 with
  | none => rw [hT] at a5; exact a5
  | some T => rw [hT] at a5; exact ⟨a5.1, a5.2.g⟩
/-- a text read: the fault, stopped -/
def gRd (g : GG) (v w : Int32) : GG := gNu (gTa g (0, (gT g).2)) ((gN g).1, v, w, (gN g).2.2.2.1, (gN g).2.2.2.2)
theorem Wf_rd {g : GG} (h : Wf g) (v w : Int32) : Wf (gRd g v w) := ⟨h.1, h.2.1, h.2.2.1, h.2.2.2.1, Nat.zero_le _, h.2.2.2.2.2⟩
theorem CI_rd {g : GG} {n P : Nat} {y : sm_Y} {I I' : Nat → Nat → Int32} {R : Nat → Nat → Option Nat} {v w : Int32} (hw : Wf g) (hc : CI g n y I R) (hP : (∃ i, (gB g).1.length ≤ i ∧ i < 6 ∧ P = 14 + 6 * i) ∨ P = 67) (hf : ∀ a j, a ≠ 120 → ¬ (P ≤ a ∧ a ≤ P + 5) → ¬ (a = 0 ∧ (j = 12 ∨ j = 16)) → ¬ (a = 54 ∧ j = 9) → I' a j = I a j) (h12 : I' 0 12 = 0) (h16 : I' 0 16 = v) (h9 : I' 54 9 = w) : CI (gRd g v w) n y I' (sm_st R 120 3 (some P)) := by
  have hP' : 14 ≤ P ∧ P + 5 ≤ 49 ∨ P = 67 := by
    rcases hP with ⟨i, _, hi, rfl⟩ | h
    · omega
    · exact Or.inr h
  obtain ⟨c1, c2, c3, c4, c5, c6, c7, c8, c9, c10, c11⟩ := hc
  refine ⟨c1, sm_G_120 c2 P, cS_kept2 (fun a j q => hf a j (by omega) (by omega) (by omega) (by omega)) c3, cP_kept (fun a j q => hf a j (by omega) (by omega) (by omega) (by omega)) c4, ?_, cU_kept (fun a j q => hf a j (by omega) (by omega) (by omega) (by omega)) c6, ⟨h12, fun j hj => absurd hj (Nat.not_lt_zero _)⟩, ?_, cDr_kept (fun a j q => hf a j (by omega) (by omega) (by omega) (by omega)) c9, cIm_R (cIm_kept hw.2.2.2.1 (fun a j q => hf a j (by omega) (by omega) (by omega) (by omega)) c10), cCa_kept (fun a j q => hf a j (by omega) (by omega) (by omega) (by omega)) c11⟩
  · obtain ⟨b1, b2, b3, b4⟩ := c5
    have h6 := hw.1.2.2.1
    refine ⟨(hf 6 2 (by omega) (by omega) (by omega) (by omega)).trans b1, (hf 6 3 (by omega) (by omega) (by omega) (by omega)).trans b2, cLaw_kept (fun a j h1 h2 => hf a j (by omega) (by omega) (by omega) (by omega)) b3, fun i l hi => ?_⟩
    have hil : i < (gB g).1.length := (List.getElem?_eq_some_iff.mp hi).1
    have h6' : (gB g).1.length ≤ 6 := h6
    exact cLaw_kept (fun a j h1 h2 => hf a j (by omega) (by
      rcases hP with ⟨i', hi1, hi2, rfl⟩ | h
      · omega
      · omega) (by omega) (by omega)) (b4 i l hi)
  · obtain ⟨n1, n2, n3, n4, n5⟩ := c8
    exact ⟨(hf 0 15 (by omega) (by omega) (by omega) (by omega)).trans n1, h16, h9, (hf 0 18 (by omega) (by omega) (by omega) (by omega)).trans n4, fun j hj => (hf 122 j (by omega) (by omega) (by omega) (by omega)).trans (n5 j hj)⟩
def f_law (g : GG) : Int32 × GG := if (gB g).1.length = 6 then (-5, gRe (gTa g (0, (gT g).2)) 5) else match rAll (gT g) false with
  | .inl q => (-6, gRe (gRd g (nI q) (gN g).2.2.1) 6)
  | .inr l => (nI (gB g).1.length, gSt (gKe (gRd g (-1) (gN g).2.2.1) (gS g, gP g, (gB g).1 ++ [l.map Prod.fst], (gB g).2)) 0)
def CMR (ex : sm_O) (d k : Nat) (as : List (Option Value)) (g : GG) (r : Int32) (g' : GG) : Prop := ∀ (n : Nat) (y : sm_Y) (I : Nat → Nat → Int32) (L : Nat → Nat → Int64) (R : Nat → Nat → Option Nat) (Q : sm_Q), CI g n y I R → (∀ (I' : Nat → Nat → Int32) (L' : Nat → Nat → Int64) (R' : Nat → Nat → Option Nat), CI g' n y I' R' → cKeep I I' L L' → Q (some (.int r)) (n, y, I', L', R')) → sm_W ex d 0 0 k 0 as [] (n, y, I, L, R) Q
theorem C_law {ex : sm_O} {d : Nat} {g : GG} {w1 : Option Value} (hd : 39 ≤ d) (htx : txOK ex) (hw : Wf g) : CMR ex d 83 [some (.ref 0), w1] g (f_law g).1 (f_law g).2 := by
  intro n y I L R Q hc k
  have hG := hc.2.1
  have hb := hc.2.2.2.2.1
  have ht := hc.2.2.2.2.2.2.1
  have h6 : (gB g).1.length ≤ 6 := hw.1.2.2.1
  have h400 := hw.2.2.2.2.1
  refine w_X10_law_0 (d1 := 38) hG (by omega) ?_
  rw [hb.1, ht.1]
  unfold f_law at k
  have cI : ∀ n1 : Nat, n1 = 12 → ∀ a j, a ≠ 0 → sm_st I 0 12 0 a j = I a j := fun _ _ a j h => sm_st_o _ _ h
  by_cases h : (gB g).1.length = 6
  · rw [if_pos h] at k
    rw [if_neg (show ¬ nI (gB g).1.length < 6 from fun z => by have := (nI_ltI (b := 6) (by omega) (by decide)).mp z; omega)]
    refine c_X10_refused (j := 5) hG (by omega) (by decide) ?_
    refine w_X10_law_28 (k _ L R ?_ ((cKeep.s I L (by decide) _ _).trans (cKeep_ref 5 _ L)))
    have : CI (gTa g (0, (gT g).2)) n y (sm_st I 0 12 0) R := by
      obtain ⟨c1, c2, c3, c4, c5, c6, c7, c8, c9, c10, c11⟩ := hc
      exact ⟨c1, c2, cS_kept2 (fun a j q => sm_st_or _ _ (by omega)) c3, cP_kept (fun a j q => sm_st_or _ _ (by omega)) c4, cB_kept h6 (fun a j q => sm_st_or _ _ (by omega)) c5, cU_kept (fun a j q => sm_st_or _ _ (by omega)) c6, ⟨sm_st_s _ _ _ _, fun j hj => absurd hj (Nat.not_lt_zero _)⟩, cN_kept (fun a j q => sm_st_or _ _ (by omega)) c8, cDr_kept (fun a j q => sm_st_or _ _ (by omega)) c9, cIm_kept hw.2.2.2.1 (fun a j q => sm_st_or _ _ (by omega)) c10, cCa_kept (fun a j q => sm_st_or _ _ (by omega)) c11⟩
    exact CI_ref (g := gTa g (0, (gT g).2)) ⟨hw.1, hw.2.1, hw.2.2.1, hw.2.2.2.1, Nat.zero_le _, hw.2.2.2.2.2⟩ this (by omega)
  · rw [if_neg h] at k
    have hlt : (gB g).1.length < 6 := by omega
    rw [if_pos (show nI (gB g).1.length < 6 from (nI_ltI (b := 6) (by omega) (by decide)).mpr hlt), nI_clamp (by omega)]
    refine ⟨vp_in_nI hlt (by decide), ?_⟩
    have hP : (∃ i, (gB g).1.length ≤ i ∧ i < 6 ∧ 14 + 6 * (gB g).1.length = 14 + 6 * i) ∨ 14 + 6 * (gB g).1.length = 67 := Or.inl ⟨_, Nat.le_refl _, hlt, rfl⟩
    have hok := mk6 hG _ hlt
    generalize hlen : (gB g).1.length = len at *
    refine c_faultOf (o := false) (t := gT g) (P := 14 + 6 * len) htx (by omega) hG hok (by omega) h400 (fun j hj => ⟨(sm_st_o _ _ (by decide)).trans (ht.2 j hj), hw.2.2.2.2.2 j⟩) (fun I1 q e1 hq f1 => ?_) (fun I1 len1 l1 cd1 e1 f1 p1 cs1 => ?_)
    · rw [e1] at k
      have kp : cKeep I I1 L L := cKeep_c (fun a j q => by rw [f1 a j (by omega) (by omega), sm_st_o _ _ (by omega)])
      refine w_X10_law_54 (d1 := 38) (sm_G_120 hG _) (by omega) ?_
      rw [if_neg (nI_m1 (by omega))]
      refine c_X10_refused (j := 6) (sm_G_120 hG _) (by omega) (by decide) ?_
      refine w_X10_law_71 (k _ L _ ?_ ((kp.trans (cKeep.s _ L (by decide) _ _)).trans (cKeep_ref 6 _ L)))
      refine CI_ref (Wf_rd hw _ _) (CI_rd (P := 14 + 6 * len) hw hc (by rw [hlen]; exact hP) (fun a j q1 q2 q3 q4 => ?_) ?_ (sm_st_s _ _ _ _) ?_) (by omega)
      · rw [sm_st_or _ _ (by omega), f1 a j q1 q2, sm_st_or _ _ (by omega)]
      · rw [sm_st_j _ _ (by decide), f1 0 12 (by decide) (by omega), sm_st_s]
      · rw [sm_st_o _ _ (by decide), f1 54 9 (by decide) (by omega), sm_st_o _ _ (by decide)]
        exact hc.2.2.2.2.2.2.2.1.2.2.1
    · rw [e1] at k
      have kp : cKeep I I1 L L := cKeep_c (fun a j q => by rw [f1 a j (by omega) (by omega), sm_st_o _ _ (by omega)])
      have e62 : I1 6 2 = nI len := by rw [f1 6 2 (by decide) (by omega), sm_st_o _ _ (by decide)]; exact hb.1.trans (by rw [hlen])
      refine w_X10_law_54 (d1 := 38) (sm_G_120 hG _) (by omega) ?_
      rw [if_pos rfl, e62, sm_n1, sm_of 1, pk_sub (by omega), Nat.add_sub_cancel]
      refine c_X10_accepted (sm_G_120 hG _) ?_
      refine w_X10_law_98 (k _ L _ ?_ (((kp.trans (cKeep.s _ L (by decide) _ _)).trans (cKeep.s _ L (by decide) _ _)).trans (cKeep_acc _ L)))
      have base : CI (gRd g (-1) (gN g).2.2.1) n y (sm_st I1 0 16 (-1)) (sm_st R 120 3 (some (14 + 6 * len))) := by
        refine CI_rd (P := 14 + 6 * len) hw hc (by rw [hlen]; exact hP) (fun a j q1 q2 q3 q4 => ?_) ?_ (sm_st_s _ _ _ _) ?_
        · rw [sm_st_or _ _ (by omega), f1 a j q1 q2, sm_st_or _ _ (by omega)]
        · rw [sm_st_j _ _ (by decide), f1 0 12 (by decide) (by omega), sm_st_s]
        · rw [sm_st_o _ _ (by decide), f1 54 9 (by decide) (by omega), sm_st_o _ _ (by decide)]
          exact hc.2.2.2.2.2.2.2.1.2.2.1
      have hlaw : cLaw (sm_st (sm_st I1 0 16 (-1)) 6 2 (nI (len + 1))) (14 + 6 * len) (l1.map Prod.fst) := cLaw_kept (fun a j h1 h2 => by rw [sm_st_o _ _ (by omega), sm_st_o _ _ (by omega)]) (cCs_law cs1 p1)
      obtain ⟨c1, c2, c3, c4, c5, c6, c7, c8, c9, c10, c11⟩ := base
      refine CI_acc ?_ ⟨c1, c2, cS_kept2 (fun a j q => sm_st_or _ _ (by omega)) c3, cP_kept (fun a j q => sm_st_or _ _ (by omega)) c4, ?_, cU_kept (fun a j q => sm_st_or _ _ (by omega)) c6, cT_kept (fun a j q => sm_st_or _ _ (by omega)) c7, cN_kept (fun a j q => sm_st_or _ _ (by omega)) c8, cDr_kept (fun a j q => sm_st_or _ _ (by omega)) c9, cIm_kept hw.2.2.2.1 (fun a j q => sm_st_or _ _ (by omega)) c10⟩
      · refine ⟨⟨hw.1.1, hw.1.2.1, ?_, fun j hj => ?_⟩, hw.2.1, hw.2.2.1, hw.2.2.2.1, Nat.zero_le _, hw.2.2.2.2.2⟩
        · show ((gB g).1 ++ [l1.map Prod.fst]).length ≤ 6
          rw [List.length_append, hlen]
          show len + 1 ≤ 6
          omega
        · show j < ((gB g).1 ++ [l1.map Prod.fst]).length
          rw [List.length_append]
          have := hw.1.2.2.2 j hj
          have h' : j < (gB g).1.length := this
          omega
      · obtain ⟨b1, b2, b3, b4⟩ := c5
        refine ⟨?_, (sm_st_j _ _ (by decide)).trans b2, cLaw_kept (fun a j h1 h2 => sm_st_o _ _ (by omega)) b3, fun i l hi => ?_⟩
        · show sm_st (sm_st I1 0 16 (-1)) 6 2 (nI (len + 1)) 6 2 = nI ((gB g).1 ++ [l1.map Prod.fst]).length
          rw [sm_st_s, List.length_append, hlen]
          rfl
        · have hi : ((gB g).1 ++ [l1.map Prod.fst])[i]? = some l := hi
          by_cases e : i < len
          · rw [List.getElem?_append_left (by omega)] at hi
            exact cLaw_kept (fun a j h1 h2 => sm_st_o _ _ (by omega)) (b4 i l hi)
          · have hi2 : i < ((gB g).1 ++ [l1.map Prod.fst]).length := (List.getElem?_eq_some_iff.mp hi).1
            rw [List.length_append, hlen] at hi2
            have hi3 : i = len := by
              have : i < len + 1 := hi2
              omega
            rw [List.getElem?_append_right (by omega), hlen, hi3, Nat.sub_self] at hi
            cases hi
            rw [hi3, show 6 + (8 + 6 * len) = 14 + 6 * len by omega]
            exact hlaw
def f_orders (g : GG) : Int32 × GG := match rAll (gT g) true with
  | .inl q => (-6, gRe (gRd g (nI q) (-1)) 6)
  | .inr l => match or_all (bF (gB g)) l 0 (gS g, gU g, 0, none) with
    | .inl c => (-3, gRe (gRd g (-1) (nI c)) 3)
    | .inr z => (nI z.2.2.1, gSt (gAc (gRd g (-1) (-1)) z.1 z.2.1) 0)
theorem C_orders {ex : sm_O} {d : Nat} {g : GG} {w1 : Option Value} (hd : 39 ≤ d) (hE : exOK ex) (htx : txOK ex) (hw : Wf g) : CMR ex d 84 [some (.ref 0), w1] g (f_orders g).1 (f_orders g).2 := by
  intro n y I L R Q hc k
  have hG := hc.2.1
  have ht := hc.2.2.2.2.2.2.1
  have h6 : (gB g).1.length ≤ 6 := hw.1.2.2.1
  have h400 := hw.2.2.2.2.1
  refine w_X10_orders_0 (d1 := 38) hG (by omega) ?_
  rw [ht.1]
  unfold f_orders at k
  have hP : (∃ i, (gB g).1.length ≤ i ∧ i < 6 ∧ 67 = 14 + 6 * i) ∨ 67 = 67 := Or.inr rfl
  refine c_faultOf (o := true) (t := gT g) (P := 67) htx (by omega) hG (mk67 hG) (by omega) h400 (fun j hj => ⟨by rw [sm_st_o _ _ (by decide), sm_st_o _ _ (by decide)]; exact ht.2 j hj, hw.2.2.2.2.2 j⟩) (fun I1 q e1 hq f1 => ?_) (fun I1 len1 l1 cd1 e1 f1 p1 cs1 => ?_)
  · rw [e1] at k
    have kp : cKeep I I1 L L := cKeep_c (fun a j q => by rw [f1 a j (by omega) (by omega), sm_st_o _ _ (by omega), sm_st_o _ _ (by omega)])
    refine w_X10_orders_35 (d1 := 38) (sm_G_120 hG _) (by omega) ?_
    rw [if_neg (nI_m1 (by omega))]
    refine c_X10_refused (j := 6) (sm_G_120 hG _) (by omega) (by decide) ?_
    refine w_X10_orders_52 (k _ L _ ?_ ((kp.trans (cKeep.s _ L (by decide) _ _)).trans (cKeep_ref 6 _ L)))
    refine CI_ref (Wf_rd hw _ _) (CI_rd (P := 67) hw hc hP (fun a j q1 q2 q3 q4 => ?_) ?_ (sm_st_s _ _ _ _) ?_) (by omega)
    · rw [sm_st_or _ _ (by omega), f1 a j q1 q2, sm_st_or _ _ (by omega), sm_st_or _ _ (by omega)]
    · rw [sm_st_j _ _ (by decide), f1 0 12 (by decide) (by omega), sm_st_o _ _ (by decide), sm_st_s]
    · rw [sm_st_o _ _ (by decide), f1 54 9 (by decide) (by omega), sm_st_s]
  · rw [e1] at k
    dsimp only at k
    have kp : cKeep I I1 L L := cKeep_c (fun a j q => by rw [f1 a j (by omega) (by omega), sm_st_o _ _ (by omega), sm_st_o _ _ (by omega)])
    have base : CI (gRd g (-1) (-1)) n y (sm_st I1 0 16 (-1)) (sm_st R 120 3 (some 67)) := by
      refine CI_rd (P := 67) hw hc hP (fun a j q1 q2 q3 q4 => ?_) ?_ (sm_st_s _ _ _ _) ?_
      · rw [sm_st_or _ _ (by omega), f1 a j q1 q2, sm_st_or _ _ (by omega), sm_st_or _ _ (by omega)]
      · rw [sm_st_j _ _ (by decide), f1 0 12 (by decide) (by omega), sm_st_o _ _ (by decide), sm_st_s]
      · rw [sm_st_o _ _ (by decide), f1 54 9 (by decide) (by omega), sm_st_s]
    have hord : cOrd (sm_st I1 0 16 (-1)) l1 := by
      have cs2 : cCs true (sm_st I1 0 16 (-1)) 67 cd1 len1 l1 := cs1.mono (sm_st_o _ _ (by decide)) (fun j c q1 q2 => sm_st_o _ _ (by omega)) (Nat.le_refl _) (fun _ _ => rfl)
      exact cCs_ord cs2 ⟨(sm_st_o _ _ (by decide)).trans p1.1, p1.2.1, fun k hk => by rw [sm_st_o _ _ (by decide)]; exact p1.2.2 k hk⟩
    refine w_X10_orders_35 (d1 := 38) (sm_G_120 hG _) (by omega) ?_
    rw [if_pos rfl]
    have hwR := Wf_rd hw (-1) (-1)
    have kpR : ∀ I2 : Nat → Nat → Int32, cRu (sm_st I1 0 16 (-1)) I2 → cKeep I I2 L L := fun I2 f2 => (kp.trans (cKeep.s _ L (by decide) _ _)).trans (cKeep_c (fun a j q => f2.1 a j (by omega) (by omega) (by omega) (by omega)))
    refine c_X1_run (s := gS g) (u := gU g) (F := bF (gB g)) (by omega) hE (sm_G_120 hG _) base.2.2.1 base.2.2.2.2.2.1 hw.1.1 hw.2.1 (cB_F h6 hw.1.2.2.2 base.2.2.2.2.1) hord (fun c e2 I2 f2 s2 u2 h9 => ?_) (fun z e2 hz I2 f2 s2 u2 h9 => ?_)
    · rw [e2] at k
      refine w_X10_orders_61 (d1 := 38) (sm_G_120 hG _) (by omega) ?_
      refine c_X10_settledN (j := 3) (by omega) (sm_G_120 hG _) (by omega) (by decide) ?_
      refine w_X10_orders_64 (k _ L _ ?_ ((kpR I2 f2).trans (cKeep_ref 3 _ L)))
      obtain ⟨c1, c2, c3, c4, c5, c6, c7, c8, c9, c10, c11⟩ := base
      refine CI_ref (Wf_rd hw _ _) ⟨c1, c2, s2, ?_, cB_kept h6 (fun a j q => f2.1 a j (by omega) (by omega) (by omega) (by omega)) c5, u2, cT_kept (fun a j q => f2.1 a j (by omega) (by omega) (by omega) (by omega)) c7, ?_, cDr_kept (fun a j q => f2.1 a j (by omega) (by omega) (by omega) (by omega)) c9, cIm_kept hw.2.2.2.1 (fun a j q => f2.1 a j (by omega) (by omega) (by omega) (by omega)) c10, cCa_kept (fun a j q => f2.1 a j (by omega) (by omega) (by omega) (by omega)) c11⟩ (by omega)
      · exact ⟨(f2.2 8 (by omega) (by omega)).trans c4.1, (f2.2 9 (by omega) (by omega)).trans c4.2.1, (f2.2 10 (by omega) (by omega)).trans c4.2.2⟩
      · exact ⟨(f2.1 0 15 (by omega) (by omega) (by omega) (by omega)).trans c8.1, (f2.1 0 16 (by omega) (by omega) (by omega) (by omega)).trans c8.2.1, h9, (f2.1 0 18 (by omega) (by omega) (by omega) (by omega)).trans c8.2.2.2.1, fun j hj => (f2.1 122 j (by omega) (by omega) (by omega) (by omega)).trans (c8.2.2.2.2 j hj)⟩
    · rw [e2] at k
      refine w_X10_orders_61 (d1 := 38) (sm_G_120 hG _) (by omega) ?_
      refine c_X10_settledP (by omega) (sm_G_120 hG _) (nI_pos' (by have := hz.2.2.2.1; omega)) ?_
      refine w_X10_orders_64 (k _ L _ ?_ ((kpR I2 f2).trans (cKeep_acc _ L)))
      obtain ⟨c1, c2, c3, c4, c5, c6, c7, c8, c9, c10, c11⟩ := base
      refine CI_acc (Wf_gac hwR hz.1 hz.2.1) ⟨c1, c2, s2, ?_, cB_kept h6 (fun a j q => f2.1 a j (by omega) (by omega) (by omega) (by omega)) c5, u2, cT_kept (fun a j q => f2.1 a j (by omega) (by omega) (by omega) (by omega)) c7, ?_, cDr_kept (fun a j q => f2.1 a j (by omega) (by omega) (by omega) (by omega)) c9, cIm_kept hw.2.2.2.1 (fun a j q => f2.1 a j (by omega) (by omega) (by omega) (by omega)) c10⟩
      · exact ⟨(f2.2 8 (by omega) (by omega)).trans c4.1, (f2.2 9 (by omega) (by omega)).trans c4.2.1, (f2.2 10 (by omega) (by omega)).trans c4.2.2⟩
      · exact ⟨(f2.1 0 15 (by omega) (by omega) (by omega) (by omega)).trans c8.1, (f2.1 0 16 (by omega) (by omega) (by omega) (by omega)).trans c8.2.1, h9.trans c8.2.2.1, (f2.1 0 18 (by omega) (by omega) (by omega) (by omega)).trans c8.2.2.2.1, fun j hj => (f2.1 122 j (by omega) (by omega) (by omega) (by omega)).trans (c8.2.2.2.2 j hj)⟩

