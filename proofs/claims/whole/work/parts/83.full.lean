-- THE LAW AS A WHOLE
theorem Wf_law {g : GG} (hw : Wf g) : Wf (f_law g).2 := by
  unfold f_law
  split
  · exact ⟨hw.1, hw.2.1, hw.2.2.1, hw.2.2.2.1, Nat.zero_le _, hw.2.2.2.2.2⟩
  · rename_i h
    split
    · exact Wf_re (Wf_rd hw _ _) _
    · refine ⟨⟨hw.1.1, hw.1.2.1, ?_, fun j hj => ?_⟩, hw.2.1, hw.2.2.1, hw.2.2.2.1, Nat.zero_le _, hw.2.2.2.2.2⟩
      · show ((gB g).1 ++ [_]).length ≤ 6
        rw [List.length_append]
        have h6 : (gB g).1.length ≤ 6 := hw.1.2.2.1
        show (gB g).1.length + 1 ≤ 6
        omega
      · show j < ((gB g).1 ++ [_]).length
        rw [List.length_append]
        have h' : j < (gB g).1.length := hw.1.2.2.2 j hj
        omega
theorem gI_law (g : GG) : gI (f_law g).2 = gI g := by
  unfold f_law
  split
  · rfl
  · split <;> rfl
theorem or_times_w {F : Option (Nat × Law)} {x : Nat × DD × Option DD} {s0 : St} : ∀ (m : Nat) (z z' : ZZ), (∃ b, wZ s0 b z) → or_times F x m z = some z' → ∃ b, wZ s0 b z'
  | 0, z, z', h, hz => by cases hz; exact h
  | m + 1, z, z', ⟨b, h⟩, hz => by
    unfold or_times at hz
    cases e : or_one F x z with
    | none => rw [e] at hz; cases hz
    | some z1 =>
      rw [e] at hz
      exact or_times_w m z1 z' ⟨b + 1, or_one_w h e⟩ hz
theorem or_all_w {F : Option (Nat × Law)} {s0 : St} : ∀ (l : List OC) (c : Nat) (z z' : ZZ), (∃ b, wZ s0 b z) → or_all F l c z = .inr z' → ∃ b, wZ s0 b z'
  | [], c, z, z', h, hz => by cases hz; exact h
  | x :: l, c, z, z', h, hz => by
    unfold or_all at hz
    cases e : or_times F x.1 x.2 z with
    | none => rw [e] at hz; cases hz
    | some z1 =>
      rw [e] at hz
      exact or_all_w l (c + 1) z1 z' (or_times_w x.2 z z1 h e) hz
theorem Wf_orders {g : GG} (hw : Wf g) : Wf (f_orders g).2 := by
  unfold f_orders
  split
  · exact Wf_re (Wf_rd hw _ _) _
  · rename_i l hl
    split
    · exact Wf_re (Wf_rd hw _ _) _
    · rename_i z hz
      have := (or_all_w (s0 := gS g) l 0 (gS g, gU g, 0, none) z ⟨0, hw.1.1, hw.2.1, ⟨rfl, rfl, rfl, fun _ _ => rfl⟩, Nat.le_refl _, fun r hr => by cases hr⟩ hz).choose_spec
      exact Wf_st (Wf_gac (Wf_rd hw _ _) this.1 this.2.1) 0
theorem gI_orders (g : GG) : gI (f_orders g).2 = gI g := by
  unfold f_orders
  split
  · rfl
  · split <;> rfl
set_option maxRecDepth 100000 in
theorem lw_law {ex : sm_O} (htx : txOK ex) : lwOK ex 454 := by
  intro d bc bs n y I L R Q x0 i g hd hE hx0 hi hl hw hc hm k
  have hG := hc.2.1
  refine sm_in (sm_in (Exists.intro 10 (And.intro (hG.1 0 (Nat.le_of_ble_eq_true rfl)) (And.intro rfl (sm_cal 50 0 0 (by omega) (Nat.le_of_ble_eq_true rfl) (Nat.le_of_ble_eq_true rfl) (Nat.le_of_ble_eq_true rfl) (Nat.le_of_ble_eq_true rfl) ?_)))))
  refine C_law (by omega)  htx hw n y I L R _ hc ?_
  intro I1 L1 R1 hc1 kp1
  have hm1 := MI_ck hw hm kp1
  have hG1 := hc1.2.1
  refine sm_in (sm_in (Exists.intro 11 (And.intro (hG1.1 123 (Nat.le_of_ble_eq_true rfl)) (And.intro rfl (sm_cal 50 0 0 (by omega) (Nat.le_of_ble_eq_true rfl) (Nat.le_of_ble_eq_true rfl) (Nat.le_of_ble_eq_true rfl) (Nat.le_of_ble_eq_true rfl) ?_)))))
  refine M_law (by omega) hw n y I1 L1 R1 _ hG1 hm1 ?_
  intro I2 L2 hm2 kp2
  have hw2 := Wf_law hw
  have hfin := k (f_law g).2 I2 L2 R1 hw2 (gI_law g) (CI_mk hw2 hc1 kp2) hm2
  rw [← nI_add i 6] at hfin
  exact sm_in (And.intro (fun _ => sm_in (And.intro (Nat.le_of_ble_eq_true rfl) (sm_in hfin))) (fun h => absurd rfl h))
set_option maxRecDepth 100000 in
theorem lw_orders {ex : sm_O} (htx : txOK ex) : lwOK ex 467 := by
  intro d bc bs n y I L R Q x0 i g hd hE hx0 hi hl hw hc hm k
  have hG := hc.2.1
  refine sm_in (sm_in (Exists.intro 10 (And.intro (hG.1 0 (Nat.le_of_ble_eq_true rfl)) (And.intro rfl (sm_cal 50 0 0 (by omega) (Nat.le_of_ble_eq_true rfl) (Nat.le_of_ble_eq_true rfl) (Nat.le_of_ble_eq_true rfl) (Nat.le_of_ble_eq_true rfl) ?_)))))
  refine C_orders (by omega) hE htx hw n y I L R _ hc ?_
  intro I1 L1 R1 hc1 kp1
  have hm1 := MI_ck hw hm kp1
  have hG1 := hc1.2.1
  refine sm_in (sm_in (Exists.intro 11 (And.intro (hG1.1 123 (Nat.le_of_ble_eq_true rfl)) (And.intro rfl (sm_cal 50 0 0 (by omega) (Nat.le_of_ble_eq_true rfl) (Nat.le_of_ble_eq_true rfl) (Nat.le_of_ble_eq_true rfl) (Nat.le_of_ble_eq_true rfl) ?_)))))
  refine M_orders (by omega) hw n y I1 L1 R1 _ hG1 hm1 ?_
  intro I2 L2 hm2 kp2
  have hw2 := Wf_orders hw
  have hfin := k (f_orders g).2 I2 L2 R1 hw2 (gI_orders g) (CI_mk hw2 hc1 kp2) hm2
  rw [← nI_add i 6] at hfin
  exact sm_in (And.intro (fun _ => sm_in (And.intro (Nat.le_of_ble_eq_true rfl) (sm_in hfin))) (fun h => absurd rfl h))
theorem law_full {ex : sm_O} {d bc bs x0 : Nat} {y : sm_Y} {I : Nat → Nat → Int32} {L : Nat → Nat → Int64} {R : Nat → Nat → Option Nat} {Q : sm_Q} (hd : 60 ≤ d) (hE : exOK ex) (htx : txOK ex) (hx0 : x0 < 2) (hl : (ex.1 x0).1 ≤ 100000) (hQ : ∀ μ, Q (some (.int 1)) μ) (hbc : 254 ≤ bc) (hbs : 27274 ≤ bs) : sm_W ex d bc bs 241 0 [some (.retAddr x0), none, none, none] [] (0, y, I, L, R) Q := law_all hd hE hx0 hl (lw_law htx) (lw_orders htx) hQ hbc hbs

