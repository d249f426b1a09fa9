-- WHAT IS NEW: the class
set_option maxHeartbeats 1000000 in
theorem c_X10_init {ex : sm_O} {y : sm_Y} {I : Nat → Nat → Int32} {L : Nat → Nat → Int64} {R : Nat → Nat → Option Nat} {Q : sm_Q} {d o : Nat} (hd0 : 3 ≤ d) (hx : exOK ex) (hy : y o = some (.inl 10)) (k : ∀ (y' : sm_Y) (R' : Nat → Nat → Option Nat), nw o y y' R R' → y' (o + 1) = some (.inl 9) → R' o 0 = some (o + 1) → ok9 y' R' (o + 1) → y' (o + 6) = some (.inl 0) → R' o 1 = some (o + 6) → ok0 y' R' (o + 6) → y' (o + 50) = some (.inl 5) → R' o 2 = some (o + 50) → y' (o + 51) = some (.inl 2) → R' (o + 50) 1 = some (o + 51) → ok2 y' R' (o + 51) → R' (o + 50) 0 = some (o + 6) → y' (o + 54) = some (.inl 1) → R' o 3 = some (o + 54) → y' (o + 55) = some (.inl 2) → R' (o + 54) 2 = some (o + 55) → ok2 y' R' (o + 55) → y' (o + 58) = some (.inl 9) → R' (o + 54) 3 = some (o + 58) → ok9 y' R' (o + 58) → y' (o + 63) = some (.inl 4) → R' (o + 54) 4 = some (o + 63) → ok4 y' R' (o + 63) → y' (o + 65) = some (.inl 4) → R' (o + 54) 5 = some (o + 65) → ok4 y' R' (o + 65) → y' (o + 67) = some (.inl 6) → R' (o + 54) 6 = some (o + 67) → ok6 y' R' (o + 67) 200 12 → R' (o + 54) 0 = some (o + 1) → R' (o + 54) 1 = some (o + 50) → y' (o + 73) = some (.inl 8) → R' o 4 = some (o + 73) → ok8 y' R' (o + 73) (o + 50) → y' (o + 102) = some (.inl 3) → R' o 5 = some (o + 102) → y' (o + 103) = some (.inr (0, 49)) → R' (o + 102) 1 = some (o + 103) → y' (o + 104) = some (.inr (0, 7)) → R' (o + 102) 3 = some (o + 104) → y' (o + 105) = some (.inr (0, 7)) → R' (o + 102) 4 = some (o + 105) → y' (o + 106) = some (.inr (0, 7)) → R' (o + 102) 7 = some (o + 106) → R' (o + 102) 0 = some (o + 50) → y' (o + 107) = some (.inl 9) → R' o 6 = some (o + 107) → ok9 y' R' (o + 107) → y' (o + 112) = some (.inl 9) → R' o 7 = some (o + 112) → ok9 y' R' (o + 112) → y' (o + 117) = some (.inr (12, 2)) → R' o 9 = some (o + 117) → R' (o + 117) 0 = none → R' (o + 117) 1 = none → y' (o + 118) = some (.inr (3, 2)) → R' o 10 = some (o + 118) → R' (o + 118) 0 = none → R' (o + 118) 1 = none → y' (o + 119) = some (.inr (0, 400)) → R' o 11 = some (o + 119) → y' (o + 120) = some (.inl 7) → R' o 13 = some (o + 120) → R' (o + 120) 0 = some (o + 119) → R' (o + 120) 3 = some (o + 67) → y' (o + 121) = some (.inr (1, 20)) → R' o 14 = some (o + 121) → y' (o + 122) = some (.inr (0, 7)) → R' o 17 = some (o + 122) → Q none (o + 123, y', (sm_st (nI9 (o + 112) (nI9 (o + 107) (nI9s 5 (o + 73) (sm_st (nI9 (o + 54 + 4) (sm_st (nI9 (o + 1) I) (o + 6) 3 (-1))) (o + 54) 9 (-1))))) o 16 (-1)), L, R')) : sm_W ex d 122 3179 74 0 [some (.ref o)] [] (o + 1, y, I, L, R) Q := by
  have hd : 1 ≤ d := by omega
  have hyo : y o = some (.inl 10) := hy
  have Y0 : ∀ a, a ≤ o → y a = y a := fun _ _ => rfl
  have G0 : ∀ a j, a < o → R a j = R a j := fun _ _ _ => rfl
  refine sm_in (sm_in (And.intro hd (And.intro (Nat.zero_le 8) (sm_in (sm_in (And.intro (Nat.le_of_ble_eq_true rfl) (And.intro (Nat.le_of_ble_eq_true rfl) (sm_in (And.intro rfl (sm_in (sm_cal 1 4 25 (by omega) (Nat.le_of_ble_eq_true rfl) (Nat.le_of_ble_eq_true rfl) (Nat.le_of_ble_eq_true rfl) (Nat.le_of_ble_eq_true rfl) ?_)))))))))))
  refine c_X9_init (o := o + 1) (Nat.le_refl _) hx sm_up_s ?_
  intro ya1 Ra1 na1 q1_0
  have ey1 : ∀ a, a < o + 1 → ya1 a = y a := fun a h => (na1.1 a (by omega)).trans (sm_up_ne (by omega))
  have vy1 : ya1 (o + 1) = some (.inl 9) := (na1.1 _ (by omega)).trans sm_up_s
  have eq1 : ∀ a j, a < o + 1 → Ra1 a j = R a j := fun a j h => na1.2 a j h
  refine sm_in (And.intro ((ey1 o (by omega)).trans hyo) ?_)
  show sm_W ex d 117 3143 74 15 [some (.ref o)] [] (o + 6, ya1, (nI9 (o + 1) I), L, sm_st Ra1 o 0 (some (o + 1))) Q
  have er1 : ∀ a j, a < o + 1 → ¬ (a = o ∧ j = 0) → (sm_st Ra1 o 0 (some (o + 1))) a j = R a j := fun a j h1 h2 => (sm_st_or _ _ (by omega)).trans (eq1 a j h1)
  have vr1 : (sm_st Ra1 o 0 (some (o + 1))) o 0 = some (o + 1) := sm_st_s _ _ _ _
  have eh1 : ∀ a j, a ≠ o → (sm_st Ra1 o 0 (some (o + 1))) a j = Ra1 a j := fun a j h => sm_st_o _ _ h
  generalize sm_st Ra1 o 0 (some (o + 1)) = R1 at er1 vr1 eh1 ⊢
  have p1_0 : ok9 ya1 R1 (o + 1) := ok9_kept q1_0 (fun a h1 h2 => rfl) (fun j => (eh1 _ _ (by omega)))
  replace Y0 : ∀ a, a ≤ o → ya1 a = y a := fun a h => (ey1 a (by omega)).trans (Y0 a h)
  replace hyo : ya1 o = some (.inl 10) := (ey1 o (by omega)).trans hyo
  replace G0 : ∀ a j, a < o → R1 a j = R a j := fun a j h => (er1 a j (by omega) (by omega)).trans (G0 a j h)
  refine sm_in (sm_in (And.intro (Nat.le_of_ble_eq_true rfl) (And.intro (Nat.le_of_ble_eq_true rfl) (sm_in (And.intro rfl (sm_in (sm_cal 2 43 1543 (by omega) (Nat.le_of_ble_eq_true rfl) (Nat.le_of_ble_eq_true rfl) (Nat.le_of_ble_eq_true rfl) (Nat.le_of_ble_eq_true rfl) ?_)))))))
  refine c_X0_init (o := o + 6) (Nat.le_refl _) sm_up_s ?_
  intro ya2 Ra2 na2 q2_0
  have ey2 : ∀ a, a < o + 6 → ya2 a = ya1 a := fun a h => (na2.1 a (by omega)).trans (sm_up_ne (by omega))
  have vy2 : ya2 (o + 6) = some (.inl 0) := (na2.1 _ (by omega)).trans sm_up_s
  have eq2 : ∀ a j, a < o + 6 → Ra2 a j = R1 a j := fun a j h => na2.2 a j h
  refine sm_in (And.intro ((ey2 o (by omega)).trans hyo) ?_)
  show sm_W ex d 73 1596 74 26 [some (.ref o)] [] (o + 50, ya2, (sm_st (nI9 (o + 1) I) (o + 6) 3 (-1)), L, sm_st Ra2 o 1 (some (o + 6))) Q
  have er2 : ∀ a j, a < o + 6 → ¬ (a = o ∧ j = 1) → (sm_st Ra2 o 1 (some (o + 6))) a j = R1 a j := fun a j h1 h2 => (sm_st_or _ _ (by omega)).trans (eq2 a j h1)
  have vr2 : (sm_st Ra2 o 1 (some (o + 6))) o 1 = some (o + 6) := sm_st_s _ _ _ _
  have eh2 : ∀ a j, a ≠ o → (sm_st Ra2 o 1 (some (o + 6))) a j = Ra2 a j := fun a j h => sm_st_o _ _ h
  generalize sm_st Ra2 o 1 (some (o + 6)) = R2 at er2 vr2 eh2 ⊢
  have p2_0 : ok0 ya2 R2 (o + 6) := ok0_kept q2_0 (fun a h1 h2 => rfl) (fun a j h1 h2 => (eh2 _ _ (by omega)))
  replace vy1 : ya2 (o + 1) = some (.inl 9) := (ey2 _ (by omega)).trans vy1
  replace vr1 : R2 o 0 = some (o + 1) := (er2 _ _ (by omega) (by omega)).trans vr1
  replace p1_0 : ok9 ya2 R2 (o + 1) := ok9_kept p1_0 (fun a h1 h2 => (ey2 a (by omega))) (fun j => (er2 _ _ (by omega) (by omega)))
  replace Y0 : ∀ a, a ≤ o → ya2 a = y a := fun a h => (ey2 a (by omega)).trans (Y0 a h)
  replace hyo : ya2 o = some (.inl 10) := (ey2 o (by omega)).trans hyo
  replace G0 : ∀ a j, a < o → R2 a j = R a j := fun a j h => (er2 a j (by omega) (by omega)).trans (G0 a j h)
  refine sm_in (sm_in (And.intro (Nat.le_of_ble_eq_true rfl) (And.intro (Nat.le_of_ble_eq_true rfl) (sm_in (And.intro rfl (sm_in (sm_in (And.intro ((sm_up_ne (by omega)).trans hyo) (sm_gfr rfl vr2 (sm_in (sm_cal 2 3 57 (by omega) (Nat.le_of_ble_eq_true rfl) (Nat.le_of_ble_eq_true rfl) (Nat.le_of_ble_eq_true rfl) (Nat.le_of_ble_eq_true rfl) ?_)))))))))))
  refine c_X5_init (o := o + 50) (Nat.le_refl _) sm_up_s ?_
  intro ya3 Ra3 na3 q3_0 q3_1 q3_2 q3_3
  have ey3 : ∀ a, a < o + 50 → ya3 a = ya2 a := fun a h => (na3.1 a (by omega)).trans (sm_up_ne (by omega))
  have vy3 : ya3 (o + 50) = some (.inl 5) := (na3.1 _ (by omega)).trans sm_up_s
  have eq3 : ∀ a j, a < o + 50 → Ra3 a j = R2 a j := fun a j h => na3.2 a j h
  refine sm_in (And.intro ((ey3 o (by omega)).trans hyo) ?_)
  show sm_W ex d 69 1537 74 41 [some (.ref o)] [] (o + 54, ya3, (sm_st (nI9 (o + 1) I) (o + 6) 3 (-1)), L, sm_st Ra3 o 2 (some (o + 50))) Q
  have er3 : ∀ a j, a < o + 50 → ¬ (a = o ∧ j = 2) → (sm_st Ra3 o 2 (some (o + 50))) a j = R2 a j := fun a j h1 h2 => (sm_st_or _ _ (by omega)).trans (eq3 a j h1)
  have vr3 : (sm_st Ra3 o 2 (some (o + 50))) o 2 = some (o + 50) := sm_st_s _ _ _ _
  have eh3 : ∀ a j, a ≠ o → (sm_st Ra3 o 2 (some (o + 50))) a j = Ra3 a j := fun a j h => sm_st_o _ _ h
  generalize sm_st Ra3 o 2 (some (o + 50)) = R3 at er3 vr3 eh3 ⊢
  have p3_0 := q3_0
  have p3_1 : R3 (o + 50) 1 = some (o + 51) := (eh3 _ _ (by omega)).trans q3_1
  have p3_2 : ok2 ya3 R3 (o + 51) := ok2_kept q3_2 (fun a h1 h2 => rfl) (fun j => (eh3 _ _ (by omega)))
  have p3_3 : R3 (o + 50) 0 = some (o + 6) := (eh3 _ _ (by omega)).trans q3_3
  replace vy1 : ya3 (o + 1) = some (.inl 9) := (ey3 _ (by omega)).trans vy1
  replace vr1 : R3 o 0 = some (o + 1) := (er3 _ _ (by omega) (by omega)).trans vr1
  replace p1_0 : ok9 ya3 R3 (o + 1) := ok9_kept p1_0 (fun a h1 h2 => (ey3 a (by omega))) (fun j => (er3 _ _ (by omega) (by omega)))
  replace vy2 : ya3 (o + 6) = some (.inl 0) := (ey3 _ (by omega)).trans vy2
  replace vr2 : R3 o 1 = some (o + 6) := (er3 _ _ (by omega) (by omega)).trans vr2
  replace p2_0 : ok0 ya3 R3 (o + 6) := ok0_kept p2_0 (fun a h1 h2 => (ey3 a (by omega))) (fun a j h1 h2 => (er3 _ _ (by omega) (by omega)))
  replace Y0 : ∀ a, a ≤ o → ya3 a = y a := fun a h => (ey3 a (by omega)).trans (Y0 a h)
  replace hyo : ya3 o = some (.inl 10) := (ey3 o (by omega)).trans hyo
  replace G0 : ∀ a j, a < o → R3 a j = R a j := fun a j h => (er3 a j (by omega) (by omega)).trans (G0 a j h)
  refine sm_in (sm_in (And.intro (Nat.le_of_ble_eq_true rfl) (And.intro (Nat.le_of_ble_eq_true rfl) (sm_in (And.intro rfl (sm_in (sm_in (And.intro ((sm_up_ne (by omega)).trans hyo) (sm_gfr rfl vr1 (sm_in (sm_in (And.intro ((sm_up_ne (by omega)).trans hyo) (sm_gfr rfl vr3 (sm_in (sm_cal 2 18 736 (by omega) (Nat.le_of_ble_eq_true rfl) (Nat.le_of_ble_eq_true rfl) (Nat.le_of_ble_eq_true rfl) (Nat.le_of_ble_eq_true rfl) ?_)))))))))))))))
  refine c_X1_init (o := o + 54) (Nat.le_refl _) hx sm_up_s ?_
  intro ya4 Ra4 na4 q4_0 q4_1 q4_2 q4_3 q4_4 q4_5 q4_6 q4_7 q4_8 q4_9 q4_10 q4_11 q4_12 q4_13 q4_14 q4_15 q4_16
  have ey4 : ∀ a, a < o + 54 → ya4 a = ya3 a := fun a h => (na4.1 a (by omega)).trans (sm_up_ne (by omega))
  have vy4 : ya4 (o + 54) = some (.inl 1) := (na4.1 _ (by omega)).trans sm_up_s
  have eq4 : ∀ a j, a < o + 54 → Ra4 a j = R3 a j := fun a j h => na4.2 a j h
  refine sm_in (And.intro ((ey4 o (by omega)).trans hyo) ?_)
  show sm_W ex d 50 791 74 60 [some (.ref o)] [] (o + 73, ya4, (sm_st (nI9 (o + 54 + 4) (sm_st (nI9 (o + 1) I) (o + 6) 3 (-1))) (o + 54) 9 (-1)), L, sm_st Ra4 o 3 (some (o + 54))) Q
  have er4 : ∀ a j, a < o + 54 → ¬ (a = o ∧ j = 3) → (sm_st Ra4 o 3 (some (o + 54))) a j = R3 a j := fun a j h1 h2 => (sm_st_or _ _ (by omega)).trans (eq4 a j h1)
  have vr4 : (sm_st Ra4 o 3 (some (o + 54))) o 3 = some (o + 54) := sm_st_s _ _ _ _
  have eh4 : ∀ a j, a ≠ o → (sm_st Ra4 o 3 (some (o + 54))) a j = Ra4 a j := fun a j h => sm_st_o _ _ h
  generalize sm_st Ra4 o 3 (some (o + 54)) = R4 at er4 vr4 eh4 ⊢
  have p4_0 := q4_0
  have p4_1 : R4 (o + 54) 2 = some (o + 55) := (eh4 _ _ (by omega)).trans q4_1
  have p4_2 : ok2 ya4 R4 (o + 55) := ok2_kept q4_2 (fun a h1 h2 => rfl) (fun j => (eh4 _ _ (by omega)))
  have p4_3 := q4_3
  have p4_4 : R4 (o + 54) 3 = some (o + 58) := (eh4 _ _ (by omega)).trans q4_4
  have p4_5 : ok9 ya4 R4 (o + 58) := ok9_kept q4_5 (fun a h1 h2 => rfl) (fun j => (eh4 _ _ (by omega)))
  have p4_6 := q4_6
  have p4_7 : R4 (o + 54) 4 = some (o + 63) := (eh4 _ _ (by omega)).trans q4_7
  have p4_8 : ok4 ya4 R4 (o + 63) := ok4_kept q4_8 (fun a h1 h2 => rfl) (fun j => (eh4 _ _ (by omega)))
  have p4_9 := q4_9
  have p4_10 : R4 (o + 54) 5 = some (o + 65) := (eh4 _ _ (by omega)).trans q4_10
  have p4_11 : ok4 ya4 R4 (o + 65) := ok4_kept q4_11 (fun a h1 h2 => rfl) (fun j => (eh4 _ _ (by omega)))
  have p4_12 := q4_12
  have p4_13 : R4 (o + 54) 6 = some (o + 67) := (eh4 _ _ (by omega)).trans q4_13
  have p4_14 : ok6 ya4 R4 (o + 67) 200 12 := ok6_kept q4_14 (fun a h1 h2 => rfl) (fun j => (eh4 _ _ (by omega)))
  have p4_15 : R4 (o + 54) 0 = some (o + 1) := (eh4 _ _ (by omega)).trans q4_15
  have p4_16 : R4 (o + 54) 1 = some (o + 50) := (eh4 _ _ (by omega)).trans q4_16
  replace vy1 : ya4 (o + 1) = some (.inl 9) := (ey4 _ (by omega)).trans vy1
  replace vr1 : R4 o 0 = some (o + 1) := (er4 _ _ (by omega) (by omega)).trans vr1
  replace p1_0 : ok9 ya4 R4 (o + 1) := ok9_kept p1_0 (fun a h1 h2 => (ey4 a (by omega))) (fun j => (er4 _ _ (by omega) (by omega)))
  replace vy2 : ya4 (o + 6) = some (.inl 0) := (ey4 _ (by omega)).trans vy2
  replace vr2 : R4 o 1 = some (o + 6) := (er4 _ _ (by omega) (by omega)).trans vr2
  replace p2_0 : ok0 ya4 R4 (o + 6) := ok0_kept p2_0 (fun a h1 h2 => (ey4 a (by omega))) (fun a j h1 h2 => (er4 _ _ (by omega) (by omega)))
  replace vy3 : ya4 (o + 50) = some (.inl 5) := (ey4 _ (by omega)).trans vy3
  replace vr3 : R4 o 2 = some (o + 50) := (er4 _ _ (by omega) (by omega)).trans vr3
  replace p3_0 : ya4 (o + 51) = some (.inl 2) := (ey4 _ (by omega)).trans p3_0
  replace p3_1 : R4 (o + 50) 1 = some (o + 51) := (er4 _ _ (by omega) (by omega)).trans p3_1
  replace p3_2 : ok2 ya4 R4 (o + 51) := ok2_kept p3_2 (fun a h1 h2 => (ey4 a (by omega))) (fun j => (er4 _ _ (by omega) (by omega)))
  replace p3_3 : R4 (o + 50) 0 = some (o + 6) := (er4 _ _ (by omega) (by omega)).trans p3_3
  replace Y0 : ∀ a, a ≤ o → ya4 a = y a := fun a h => (ey4 a (by omega)).trans (Y0 a h)
  replace hyo : ya4 o = some (.inl 10) := (ey4 o (by omega)).trans hyo
  replace G0 : ∀ a j, a < o → R4 a j = R a j := fun a j h => (er4 a j (by omega) (by omega)).trans (G0 a j h)
  refine sm_in (sm_in (And.intro (Nat.le_of_ble_eq_true rfl) (And.intro (Nat.le_of_ble_eq_true rfl) (sm_in (And.intro rfl (sm_in (sm_in (And.intro ((sm_up_ne (by omega)).trans hyo) (sm_gfr rfl vr3 (sm_in (sm_cal 2 28 195 (by omega) (Nat.le_of_ble_eq_true rfl) (Nat.le_of_ble_eq_true rfl) (Nat.le_of_ble_eq_true rfl) (Nat.le_of_ble_eq_true rfl) ?_)))))))))))
  refine c_X8_init (o := o + 73) (Nat.le_refl _) hx sm_up_s ?_
  intro ya5 Ra5 na5 q5_0
  have ey5 : ∀ a, a < o + 73 → ya5 a = ya4 a := fun a h => (na5.1 a (by omega)).trans (sm_up_ne (by omega))
  have vy5 : ya5 (o + 73) = some (.inl 8) := (na5.1 _ (by omega)).trans sm_up_s
  have eq5 : ∀ a j, a < o + 73 → Ra5 a j = R4 a j := fun a j h => na5.2 a j h
  refine sm_in (And.intro ((ey5 o (by omega)).trans hyo) ?_)
  show sm_W ex d 21 589 74 75 [some (.ref o)] [] (o + 102, ya5, (nI9s 5 (o + 73) (sm_st (nI9 (o + 54 + 4) (sm_st (nI9 (o + 1) I) (o + 6) 3 (-1))) (o + 54) 9 (-1))), L, sm_st Ra5 o 4 (some (o + 73))) Q
  have er5 : ∀ a j, a < o + 73 → ¬ (a = o ∧ j = 4) → (sm_st Ra5 o 4 (some (o + 73))) a j = R4 a j := fun a j h1 h2 => (sm_st_or _ _ (by omega)).trans (eq5 a j h1)
  have vr5 : (sm_st Ra5 o 4 (some (o + 73))) o 4 = some (o + 73) := sm_st_s _ _ _ _
  have eh5 : ∀ a j, a ≠ o → (sm_st Ra5 o 4 (some (o + 73))) a j = Ra5 a j := fun a j h => sm_st_o _ _ h
  generalize sm_st Ra5 o 4 (some (o + 73)) = R5 at er5 vr5 eh5 ⊢
  have p5_0 : ok8 ya5 R5 (o + 73) (o + 50) := ok8_kept q5_0 (fun a h1 h2 => rfl) (fun a j h1 h2 => (eh5 _ _ (by omega)))
  replace vy1 : ya5 (o + 1) = some (.inl 9) := (ey5 _ (by omega)).trans vy1
  replace vr1 : R5 o 0 = some (o + 1) := (er5 _ _ (by omega) (by omega)).trans vr1
  replace p1_0 : ok9 ya5 R5 (o + 1) := ok9_kept p1_0 (fun a h1 h2 => (ey5 a (by omega))) (fun j => (er5 _ _ (by omega) (by omega)))
  replace vy2 : ya5 (o + 6) = some (.inl 0) := (ey5 _ (by omega)).trans vy2
  replace vr2 : R5 o 1 = some (o + 6) := (er5 _ _ (by omega) (by omega)).trans vr2
  replace p2_0 : ok0 ya5 R5 (o + 6) := ok0_kept p2_0 (fun a h1 h2 => (ey5 a (by omega))) (fun a j h1 h2 => (er5 _ _ (by omega) (by omega)))
  replace vy3 : ya5 (o + 50) = some (.inl 5) := (ey5 _ (by omega)).trans vy3
  replace vr3 : R5 o 2 = some (o + 50) := (er5 _ _ (by omega) (by omega)).trans vr3
  replace p3_0 : ya5 (o + 51) = some (.inl 2) := (ey5 _ (by omega)).trans p3_0
  replace p3_1 : R5 (o + 50) 1 = some (o + 51) := (er5 _ _ (by omega) (by omega)).trans p3_1
  replace p3_2 : ok2 ya5 R5 (o + 51) := ok2_kept p3_2 (fun a h1 h2 => (ey5 a (by omega))) (fun j => (er5 _ _ (by omega) (by omega)))
  replace p3_3 : R5 (o + 50) 0 = some (o + 6) := (er5 _ _ (by omega) (by omega)).trans p3_3
  replace vy4 : ya5 (o + 54) = some (.inl 1) := (ey5 _ (by omega)).trans vy4
  replace vr4 : R5 o 3 = some (o + 54) := (er5 _ _ (by omega) (by omega)).trans vr4
  replace p4_0 : ya5 (o + 55) = some (.inl 2) := (ey5 _ (by omega)).trans p4_0
  replace p4_1 : R5 (o + 54) 2 = some (o + 55) := (er5 _ _ (by omega) (by omega)).trans p4_1
  replace p4_2 : ok2 ya5 R5 (o + 55) := ok2_kept p4_2 (fun a h1 h2 => (ey5 a (by omega))) (fun j => (er5 _ _ (by omega) (by omega)))
  replace p4_3 : ya5 (o + 58) = some (.inl 9) := (ey5 _ (by omega)).trans p4_3
  replace p4_4 : R5 (o + 54) 3 = some (o + 58) := (er5 _ _ (by omega) (by omega)).trans p4_4
  replace p4_5 : ok9 ya5 R5 (o + 58) := ok9_kept p4_5 (fun a h1 h2 => (ey5 a (by omega))) (fun j => (er5 _ _ (by omega) (by omega)))
  replace p4_6 : ya5 (o + 63) = some (.inl 4) := (ey5 _ (by omega)).trans p4_6
  replace p4_7 : R5 (o + 54) 4 = some (o + 63) := (er5 _ _ (by omega) (by omega)).trans p4_7
  replace p4_8 : ok4 ya5 R5 (o + 63) := ok4_kept p4_8 (fun a h1 h2 => (ey5 a (by omega))) (fun j => (er5 _ _ (by omega) (by omega)))
  replace p4_9 : ya5 (o + 65) = some (.inl 4) := (ey5 _ (by omega)).trans p4_9
  replace p4_10 : R5 (o + 54) 5 = some (o + 65) := (er5 _ _ (by omega) (by omega)).trans p4_10
  replace p4_11 : ok4 ya5 R5 (o + 65) := ok4_kept p4_11 (fun a h1 h2 => (ey5 a (by omega))) (fun j => (er5 _ _ (by omega) (by omega)))
  replace p4_12 : ya5 (o + 67) = some (.inl 6) := (ey5 _ (by omega)).trans p4_12
  replace p4_13 : R5 (o + 54) 6 = some (o + 67) := (er5 _ _ (by omega) (by omega)).trans p4_13
  replace p4_14 : ok6 ya5 R5 (o + 67) 200 12 := ok6_kept p4_14 (fun a h1 h2 => (ey5 a (by omega))) (fun j => (er5 _ _ (by omega) (by omega)))
  replace p4_15 : R5 (o + 54) 0 = some (o + 1) := (er5 _ _ (by omega) (by omega)).trans p4_15
  replace p4_16 : R5 (o + 54) 1 = some (o + 50) := (er5 _ _ (by omega) (by omega)).trans p4_16
  replace Y0 : ∀ a, a ≤ o → ya5 a = y a := fun a h => (ey5 a (by omega)).trans (Y0 a h)
  replace hyo : ya5 o = some (.inl 10) := (ey5 o (by omega)).trans hyo
  replace G0 : ∀ a j, a < o → R5 a j = R a j := fun a j h => (er5 a j (by omega) (by omega)).trans (G0 a j h)
  refine sm_in (sm_in (And.intro (Nat.le_of_ble_eq_true rfl) (And.intro (Nat.le_of_ble_eq_true rfl) (sm_in (And.intro rfl (sm_in (sm_in (And.intro ((sm_up_ne (by omega)).trans hyo) (sm_gfr rfl vr3 (sm_in (sm_cal 1 4 70 (by omega) (Nat.le_of_ble_eq_true rfl) (Nat.le_of_ble_eq_true rfl) (Nat.le_of_ble_eq_true rfl) (Nat.le_of_ble_eq_true rfl) ?_)))))))))))
  refine c_X3_init (o := o + 102) (Nat.le_refl _) sm_up_s ?_
  intro ya6 Ra6 na6 q6_0 q6_1 q6_2 q6_3 q6_4 q6_5 q6_6 q6_7 q6_8
  have ey6 : ∀ a, a < o + 102 → ya6 a = ya5 a := fun a h => (na6.1 a (by omega)).trans (sm_up_ne (by omega))
  have vy6 : ya6 (o + 102) = some (.inl 3) := (na6.1 _ (by omega)).trans sm_up_s
  have eq6 : ∀ a j, a < o + 102 → Ra6 a j = R5 a j := fun a j h => na6.2 a j h
  refine sm_in (And.intro ((ey6 o (by omega)).trans hyo) ?_)
  show sm_W ex d 16 511 74 90 [some (.ref o)] [] (o + 107, ya6, (nI9s 5 (o + 73) (sm_st (nI9 (o + 54 + 4) (sm_st (nI9 (o + 1) I) (o + 6) 3 (-1))) (o + 54) 9 (-1))), L, sm_st Ra6 o 5 (some (o + 102))) Q
  have er6 : ∀ a j, a < o + 102 → ¬ (a = o ∧ j = 5) → (sm_st Ra6 o 5 (some (o + 102))) a j = R5 a j := fun a j h1 h2 => (sm_st_or _ _ (by omega)).trans (eq6 a j h1)
  have vr6 : (sm_st Ra6 o 5 (some (o + 102))) o 5 = some (o + 102) := sm_st_s _ _ _ _
  have eh6 : ∀ a j, a ≠ o → (sm_st Ra6 o 5 (some (o + 102))) a j = Ra6 a j := fun a j h => sm_st_o _ _ h
  generalize sm_st Ra6 o 5 (some (o + 102)) = R6 at er6 vr6 eh6 ⊢
  have p6_0 := q6_0
  have p6_1 : R6 (o + 102) 1 = some (o + 103) := (eh6 _ _ (by omega)).trans q6_1
  have p6_2 := q6_2
  have p6_3 : R6 (o + 102) 3 = some (o + 104) := (eh6 _ _ (by omega)).trans q6_3
  have p6_4 := q6_4
  have p6_5 : R6 (o + 102) 4 = some (o + 105) := (eh6 _ _ (by omega)).trans q6_5
  have p6_6 := q6_6
  have p6_7 : R6 (o + 102) 7 = some (o + 106) := (eh6 _ _ (by omega)).trans q6_7
  have p6_8 : R6 (o + 102) 0 = some (o + 50) := (eh6 _ _ (by omega)).trans q6_8
  replace vy1 : ya6 (o + 1) = some (.inl 9) := (ey6 _ (by omega)).trans vy1
  replace vr1 : R6 o 0 = some (o + 1) := (er6 _ _ (by omega) (by omega)).trans vr1
  replace p1_0 : ok9 ya6 R6 (o + 1) := ok9_kept p1_0 (fun a h1 h2 => (ey6 a (by omega))) (fun j => (er6 _ _ (by omega) (by omega)))
  replace vy2 : ya6 (o + 6) = some (.inl 0) := (ey6 _ (by omega)).trans vy2
  replace vr2 : R6 o 1 = some (o + 6) := (er6 _ _ (by omega) (by omega)).trans vr2
  replace p2_0 : ok0 ya6 R6 (o + 6) := ok0_kept p2_0 (fun a h1 h2 => (ey6 a (by omega))) (fun a j h1 h2 => (er6 _ _ (by omega) (by omega)))
  replace vy3 : ya6 (o + 50) = some (.inl 5) := (ey6 _ (by omega)).trans vy3
  replace vr3 : R6 o 2 = some (o + 50) := (er6 _ _ (by omega) (by omega)).trans vr3
  replace p3_0 : ya6 (o + 51) = some (.inl 2) := (ey6 _ (by omega)).trans p3_0
  replace p3_1 : R6 (o + 50) 1 = some (o + 51) := (er6 _ _ (by omega) (by omega)).trans p3_1
  replace p3_2 : ok2 ya6 R6 (o + 51) := ok2_kept p3_2 (fun a h1 h2 => (ey6 a (by omega))) (fun j => (er6 _ _ (by omega) (by omega)))
  replace p3_3 : R6 (o + 50) 0 = some (o + 6) := (er6 _ _ (by omega) (by omega)).trans p3_3
  replace vy4 : ya6 (o + 54) = some (.inl 1) := (ey6 _ (by omega)).trans vy4
  replace vr4 : R6 o 3 = some (o + 54) := (er6 _ _ (by omega) (by omega)).trans vr4
  replace p4_0 : ya6 (o + 55) = some (.inl 2) := (ey6 _ (by omega)).trans p4_0
  replace p4_1 : R6 (o + 54) 2 = some (o + 55) := (er6 _ _ (by omega) (by omega)).trans p4_1
  replace p4_2 : ok2 ya6 R6 (o + 55) := ok2_kept p4_2 (fun a h1 h2 => (ey6 a (by omega))) (fun j => (er6 _ _ (by omega) (by omega)))
  replace p4_3 : ya6 (o + 58) = some (.inl 9) := (ey6 _ (by omega)).trans p4_3
  replace p4_4 : R6 (o + 54) 3 = some (o + 58) := (er6 _ _ (by omega) (by omega)).trans p4_4
  replace p4_5 : ok9 ya6 R6 (o + 58) := ok9_kept p4_5 (fun a h1 h2 => (ey6 a (by omega))) (fun j => (er6 _ _ (by omega) (by omega)))
  replace p4_6 : ya6 (o + 63) = some (.inl 4) := (ey6 _ (by omega)).trans p4_6
  replace p4_7 : R6 (o + 54) 4 = some (o + 63) := (er6 _ _ (by omega) (by omega)).trans p4_7
  replace p4_8 : ok4 ya6 R6 (o + 63) := ok4_kept p4_8 (fun a h1 h2 => (ey6 a (by omega))) (fun j => (er6 _ _ (by omega) (by omega)))
  replace p4_9 : ya6 (o + 65) = some (.inl 4) := (ey6 _ (by omega)).trans p4_9
  replace p4_10 : R6 (o + 54) 5 = some (o + 65) := (er6 _ _ (by omega) (by omega)).trans p4_10
  replace p4_11 : ok4 ya6 R6 (o + 65) := ok4_kept p4_11 (fun a h1 h2 => (ey6 a (by omega))) (fun j => (er6 _ _ (by omega) (by omega)))
  replace p4_12 : ya6 (o + 67) = some (.inl 6) := (ey6 _ (by omega)).trans p4_12
  replace p4_13 : R6 (o + 54) 6 = some (o + 67) := (er6 _ _ (by omega) (by omega)).trans p4_13
  replace p4_14 : ok6 ya6 R6 (o + 67) 200 12 := ok6_kept p4_14 (fun a h1 h2 => (ey6 a (by omega))) (fun j => (er6 _ _ (by omega) (by omega)))
  replace p4_15 : R6 (o + 54) 0 = some (o + 1) := (er6 _ _ (by omega) (by omega)).trans p4_15
  replace p4_16 : R6 (o + 54) 1 = some (o + 50) := (er6 _ _ (by omega) (by omega)).trans p4_16
  replace vy5 : ya6 (o + 73) = some (.inl 8) := (ey6 _ (by omega)).trans vy5
  replace vr5 : R6 o 4 = some (o + 73) := (er6 _ _ (by omega) (by omega)).trans vr5
  replace p5_0 : ok8 ya6 R6 (o + 73) (o + 50) := ok8_kept p5_0 (fun a h1 h2 => (ey6 a (by omega))) (fun a j h1 h2 => (er6 _ _ (by omega) (by omega)))
  replace Y0 : ∀ a, a ≤ o → ya6 a = y a := fun a h => (ey6 a (by omega)).trans (Y0 a h)
  replace hyo : ya6 o = some (.inl 10) := (ey6 o (by omega)).trans hyo
  replace G0 : ∀ a j, a < o → R6 a j = R a j := fun a j h => (er6 a j (by omega) (by omega)).trans (G0 a j h)
  refine sm_in (sm_in (And.intro (Nat.le_of_ble_eq_true rfl) (And.intro (Nat.le_of_ble_eq_true rfl) (sm_in (And.intro rfl (sm_in (sm_cal 1 4 25 (by omega) (Nat.le_of_ble_eq_true rfl) (Nat.le_of_ble_eq_true rfl) (Nat.le_of_ble_eq_true rfl) (Nat.le_of_ble_eq_true rfl) ?_)))))))
  refine c_X9_init (o := o + 107) (Nat.le_refl _) hx sm_up_s ?_
  intro ya7 Ra7 na7 q7_0
  have ey7 : ∀ a, a < o + 107 → ya7 a = ya6 a := fun a h => (na7.1 a (by omega)).trans (sm_up_ne (by omega))
  have vy7 : ya7 (o + 107) = some (.inl 9) := (na7.1 _ (by omega)).trans sm_up_s
  have eq7 : ∀ a j, a < o + 107 → Ra7 a j = R6 a j := fun a j h => na7.2 a j h
  refine sm_in (And.intro ((ey7 o (by omega)).trans hyo) ?_)
  show sm_W ex d 11 475 74 101 [some (.ref o)] [] (o + 112, ya7, (nI9 (o + 107) (nI9s 5 (o + 73) (sm_st (nI9 (o + 54 + 4) (sm_st (nI9 (o + 1) I) (o + 6) 3 (-1))) (o + 54) 9 (-1)))), L, sm_st Ra7 o 6 (some (o + 107))) Q
  have er7 : ∀ a j, a < o + 107 → ¬ (a = o ∧ j = 6) → (sm_st Ra7 o 6 (some (o + 107))) a j = R6 a j := fun a j h1 h2 => (sm_st_or _ _ (by omega)).trans (eq7 a j h1)
  have vr7 : (sm_st Ra7 o 6 (some (o + 107))) o 6 = some (o + 107) := sm_st_s _ _ _ _
  have eh7 : ∀ a j, a ≠ o → (sm_st Ra7 o 6 (some (o + 107))) a j = Ra7 a j := fun a j h => sm_st_o _ _ h
  generalize sm_st Ra7 o 6 (some (o + 107)) = R7 at er7 vr7 eh7 ⊢
  have p7_0 : ok9 ya7 R7 (o + 107) := ok9_kept q7_0 (fun a h1 h2 => rfl) (fun j => (eh7 _ _ (by omega)))
  replace vy1 : ya7 (o + 1) = some (.inl 9) := (ey7 _ (by omega)).trans vy1
  replace vr1 : R7 o 0 = some (o + 1) := (er7 _ _ (by omega) (by omega)).trans vr1
  replace p1_0 : ok9 ya7 R7 (o + 1) := ok9_kept p1_0 (fun a h1 h2 => (ey7 a (by omega))) (fun j => (er7 _ _ (by omega) (by omega)))
  replace vy2 : ya7 (o + 6) = some (.inl 0) := (ey7 _ (by omega)).trans vy2
  replace vr2 : R7 o 1 = some (o + 6) := (er7 _ _ (by omega) (by omega)).trans vr2
  replace p2_0 : ok0 ya7 R7 (o + 6) := ok0_kept p2_0 (fun a h1 h2 => (ey7 a (by omega))) (fun a j h1 h2 => (er7 _ _ (by omega) (by omega)))
  replace vy3 : ya7 (o + 50) = some (.inl 5) := (ey7 _ (by omega)).trans vy3
  replace vr3 : R7 o 2 = some (o + 50) := (er7 _ _ (by omega) (by omega)).trans vr3
  replace p3_0 : ya7 (o + 51) = some (.inl 2) := (ey7 _ (by omega)).trans p3_0
  replace p3_1 : R7 (o + 50) 1 = some (o + 51) := (er7 _ _ (by omega) (by omega)).trans p3_1
  replace p3_2 : ok2 ya7 R7 (o + 51) := ok2_kept p3_2 (fun a h1 h2 => (ey7 a (by omega))) (fun j => (er7 _ _ (by omega) (by omega)))
  replace p3_3 : R7 (o + 50) 0 = some (o + 6) := (er7 _ _ (by omega) (by omega)).trans p3_3
  replace vy4 : ya7 (o + 54) = some (.inl 1) := (ey7 _ (by omega)).trans vy4
  replace vr4 : R7 o 3 = some (o + 54) := (er7 _ _ (by omega) (by omega)).trans vr4
  replace p4_0 : ya7 (o + 55) = some (.inl 2) := (ey7 _ (by omega)).trans p4_0
  replace p4_1 : R7 (o + 54) 2 = some (o + 55) := (er7 _ _ (by omega) (by omega)).trans p4_1
  replace p4_2 : ok2 ya7 R7 (o + 55) := ok2_kept p4_2 (fun a h1 h2 => (ey7 a (by omega))) (fun j => (er7 _ _ (by omega) (by omega)))
  replace p4_3 : ya7 (o + 58) = some (.inl 9) := (ey7 _ (by omega)).trans p4_3
  replace p4_4 : R7 (o + 54) 3 = some (o + 58) := (er7 _ _ (by omega) (by omega)).trans p4_4
  replace p4_5 : ok9 ya7 R7 (o + 58) := ok9_kept p4_5 (fun a h1 h2 => (ey7 a (by omega))) (fun j => (er7 _ _ (by omega) (by omega)))
  replace p4_6 : ya7 (o + 63) = some (.inl 4) := (ey7 _ (by omega)).trans p4_6
  replace p4_7 : R7 (o + 54) 4 = some (o + 63) := (er7 _ _ (by omega) (by omega)).trans p4_7
  replace p4_8 : ok4 ya7 R7 (o + 63) := ok4_kept p4_8 (fun a h1 h2 => (ey7 a (by omega))) (fun j => (er7 _ _ (by omega) (by omega)))
  replace p4_9 : ya7 (o + 65) = some (.inl 4) := (ey7 _ (by omega)).trans p4_9
  replace p4_10 : R7 (o + 54) 5 = some (o + 65) := (er7 _ _ (by omega) (by omega)).trans p4_10
  replace p4_11 : ok4 ya7 R7 (o + 65) := ok4_kept p4_11 (fun a h1 h2 => (ey7 a (by omega))) (fun j => (er7 _ _ (by omega) (by omega)))
  replace p4_12 : ya7 (o + 67) = some (.inl 6) := (ey7 _ (by omega)).trans p4_12
  replace p4_13 : R7 (o + 54) 6 = some (o + 67) := (er7 _ _ (by omega) (by omega)).trans p4_13
  replace p4_14 : ok6 ya7 R7 (o + 67) 200 12 := ok6_kept p4_14 (fun a h1 h2 => (ey7 a (by omega))) (fun j => (er7 _ _ (by omega) (by omega)))
  replace p4_15 : R7 (o + 54) 0 = some (o + 1) := (er7 _ _ (by omega) (by omega)).trans p4_15
  replace p4_16 : R7 (o + 54) 1 = some (o + 50) := (er7 _ _ (by omega) (by omega)).trans p4_16
  replace vy5 : ya7 (o + 73) = some (.inl 8) := (ey7 _ (by omega)).trans vy5
  replace vr5 : R7 o 4 = some (o + 73) := (er7 _ _ (by omega) (by omega)).trans vr5
  replace p5_0 : ok8 ya7 R7 (o + 73) (o + 50) := ok8_kept p5_0 (fun a h1 h2 => (ey7 a (by omega))) (fun a j h1 h2 => (er7 _ _ (by omega) (by omega)))
  replace vy6 : ya7 (o + 102) = some (.inl 3) := (ey7 _ (by omega)).trans vy6
  replace vr6 : R7 o 5 = some (o + 102) := (er7 _ _ (by omega) (by omega)).trans vr6
  replace p6_0 : ya7 (o + 103) = some (.inr (0, 49)) := (ey7 _ (by omega)).trans p6_0
  replace p6_1 : R7 (o + 102) 1 = some (o + 103) := (er7 _ _ (by omega) (by omega)).trans p6_1
  replace p6_2 : ya7 (o + 104) = some (.inr (0, 7)) := (ey7 _ (by omega)).trans p6_2
  replace p6_3 : R7 (o + 102) 3 = some (o + 104) := (er7 _ _ (by omega) (by omega)).trans p6_3
  replace p6_4 : ya7 (o + 105) = some (.inr (0, 7)) := (ey7 _ (by omega)).trans p6_4
  replace p6_5 : R7 (o + 102) 4 = some (o + 105) := (er7 _ _ (by omega) (by omega)).trans p6_5
  replace p6_6 : ya7 (o + 106) = some (.inr (0, 7)) := (ey7 _ (by omega)).trans p6_6
  replace p6_7 : R7 (o + 102) 7 = some (o + 106) := (er7 _ _ (by omega) (by omega)).trans p6_7
  replace p6_8 : R7 (o + 102) 0 = some (o + 50) := (er7 _ _ (by omega) (by omega)).trans p6_8
  replace Y0 : ∀ a, a ≤ o → ya7 a = y a := fun a h => (ey7 a (by omega)).trans (Y0 a h)
  replace hyo : ya7 o = some (.inl 10) := (ey7 o (by omega)).trans hyo
  replace G0 : ∀ a j, a < o → R7 a j = R a j := fun a j h => (er7 a j (by omega) (by omega)).trans (G0 a j h)
  refine sm_in (sm_in (And.intro (Nat.le_of_ble_eq_true rfl) (And.intro (Nat.le_of_ble_eq_true rfl) (sm_in (And.intro rfl (sm_in (sm_cal 1 4 25 (by omega) (Nat.le_of_ble_eq_true rfl) (Nat.le_of_ble_eq_true rfl) (Nat.le_of_ble_eq_true rfl) (Nat.le_of_ble_eq_true rfl) ?_)))))))
  refine c_X9_init (o := o + 112) (Nat.le_refl _) hx sm_up_s ?_
  intro ya8 Ra8 na8 q8_0
  have ey8 : ∀ a, a < o + 112 → ya8 a = ya7 a := fun a h => (na8.1 a (by omega)).trans (sm_up_ne (by omega))
  have vy8 : ya8 (o + 112) = some (.inl 9) := (na8.1 _ (by omega)).trans sm_up_s
  have eq8 : ∀ a j, a < o + 112 → Ra8 a j = R7 a j := fun a j h => na8.2 a j h
  refine sm_in (And.intro ((ey8 o (by omega)).trans hyo) ?_)
  show sm_W ex d 6 439 74 112 [some (.ref o)] [] (o + 117, ya8, (nI9 (o + 112) (nI9 (o + 107) (nI9s 5 (o + 73) (sm_st (nI9 (o + 54 + 4) (sm_st (nI9 (o + 1) I) (o + 6) 3 (-1))) (o + 54) 9 (-1))))), L, sm_st Ra8 o 7 (some (o + 112))) Q
  have er8 : ∀ a j, a < o + 112 → ¬ (a = o ∧ j = 7) → (sm_st Ra8 o 7 (some (o + 112))) a j = R7 a j := fun a j h1 h2 => (sm_st_or _ _ (by omega)).trans (eq8 a j h1)
  have vr8 : (sm_st Ra8 o 7 (some (o + 112))) o 7 = some (o + 112) := sm_st_s _ _ _ _
  have eh8 : ∀ a j, a ≠ o → (sm_st Ra8 o 7 (some (o + 112))) a j = Ra8 a j := fun a j h => sm_st_o _ _ h
  generalize sm_st Ra8 o 7 (some (o + 112)) = R8 at er8 vr8 eh8 ⊢
  have p8_0 : ok9 ya8 R8 (o + 112) := ok9_kept q8_0 (fun a h1 h2 => rfl) (fun j => (eh8 _ _ (by omega)))
  replace vy1 : ya8 (o + 1) = some (.inl 9) := (ey8 _ (by omega)).trans vy1
  replace vr1 : R8 o 0 = some (o + 1) := (er8 _ _ (by omega) (by omega)).trans vr1
  replace p1_0 : ok9 ya8 R8 (o + 1) := ok9_kept p1_0 (fun a h1 h2 => (ey8 a (by omega))) (fun j => (er8 _ _ (by omega) (by omega)))
  replace vy2 : ya8 (o + 6) = some (.inl 0) := (ey8 _ (by omega)).trans vy2
  replace vr2 : R8 o 1 = some (o + 6) := (er8 _ _ (by omega) (by omega)).trans vr2
  replace p2_0 : ok0 ya8 R8 (o + 6) := ok0_kept p2_0 (fun a h1 h2 => (ey8 a (by omega))) (fun a j h1 h2 => (er8 _ _ (by omega) (by omega)))
  replace vy3 : ya8 (o + 50) = some (.inl 5) := (ey8 _ (by omega)).trans vy3
  replace vr3 : R8 o 2 = some (o + 50) := (er8 _ _ (by omega) (by omega)).trans vr3
  replace p3_0 : ya8 (o + 51) = some (.inl 2) := (ey8 _ (by omega)).trans p3_0
  replace p3_1 : R8 (o + 50) 1 = some (o + 51) := (er8 _ _ (by omega) (by omega)).trans p3_1
  replace p3_2 : ok2 ya8 R8 (o + 51) := ok2_kept p3_2 (fun a h1 h2 => (ey8 a (by omega))) (fun j => (er8 _ _ (by omega) (by omega)))
  replace p3_3 : R8 (o + 50) 0 = some (o + 6) := (er8 _ _ (by omega) (by omega)).trans p3_3
  replace vy4 : ya8 (o + 54) = some (.inl 1) := (ey8 _ (by omega)).trans vy4
  replace vr4 : R8 o 3 = some (o + 54) := (er8 _ _ (by omega) (by omega)).trans vr4
  replace p4_0 : ya8 (o + 55) = some (.inl 2) := (ey8 _ (by omega)).trans p4_0
  replace p4_1 : R8 (o + 54) 2 = some (o + 55) := (er8 _ _ (by omega) (by omega)).trans p4_1
  replace p4_2 : ok2 ya8 R8 (o + 55) := ok2_kept p4_2 (fun a h1 h2 => (ey8 a (by omega))) (fun j => (er8 _ _ (by omega) (by omega)))
  replace p4_3 : ya8 (o + 58) = some (.inl 9) := (ey8 _ (by omega)).trans p4_3
  replace p4_4 : R8 (o + 54) 3 = some (o + 58) := (er8 _ _ (by omega) (by omega)).trans p4_4
  replace p4_5 : ok9 ya8 R8 (o + 58) := ok9_kept p4_5 (fun a h1 h2 => (ey8 a (by omega))) (fun j => (er8 _ _ (by omega) (by omega)))
  replace p4_6 : ya8 (o + 63) = some (.inl 4) := (ey8 _ (by omega)).trans p4_6
  replace p4_7 : R8 (o + 54) 4 = some (o + 63) := (er8 _ _ (by omega) (by omega)).trans p4_7
  replace p4_8 : ok4 ya8 R8 (o + 63) := ok4_kept p4_8 (fun a h1 h2 => (ey8 a (by omega))) (fun j => (er8 _ _ (by omega) (by omega)))
  replace p4_9 : ya8 (o + 65) = some (.inl 4) := (ey8 _ (by omega)).trans p4_9
  replace p4_10 : R8 (o + 54) 5 = some (o + 65) := (er8 _ _ (by omega) (by omega)).trans p4_10
  replace p4_11 : ok4 ya8 R8 (o + 65) := ok4_kept p4_11 (fun a h1 h2 => (ey8 a (by omega))) (fun j => (er8 _ _ (by omega) (by omega)))
  replace p4_12 : ya8 (o + 67) = some (.inl 6) := (ey8 _ (by omega)).trans p4_12
  replace p4_13 : R8 (o + 54) 6 = some (o + 67) := (er8 _ _ (by omega) (by omega)).trans p4_13
  replace p4_14 : ok6 ya8 R8 (o + 67) 200 12 := ok6_kept p4_14 (fun a h1 h2 => (ey8 a (by omega))) (fun j => (er8 _ _ (by omega) (by omega)))
  replace p4_15 : R8 (o + 54) 0 = some (o + 1) := (er8 _ _ (by omega) (by omega)).trans p4_15
  replace p4_16 : R8 (o + 54) 1 = some (o + 50) := (er8 _ _ (by omega) (by omega)).trans p4_16
  replace vy5 : ya8 (o + 73) = some (.inl 8) := (ey8 _ (by omega)).trans vy5
  replace vr5 : R8 o 4 = some (o + 73) := (er8 _ _ (by omega) (by omega)).trans vr5
  replace p5_0 : ok8 ya8 R8 (o + 73) (o + 50) := ok8_kept p5_0 (fun a h1 h2 => (ey8 a (by omega))) (fun a j h1 h2 => (er8 _ _ (by omega) (by omega)))
  replace vy6 : ya8 (o + 102) = some (.inl 3) := (ey8 _ (by omega)).trans vy6
  replace vr6 : R8 o 5 = some (o + 102) := (er8 _ _ (by omega) (by omega)).trans vr6
  replace p6_0 : ya8 (o + 103) = some (.inr (0, 49)) := (ey8 _ (by omega)).trans p6_0
  replace p6_1 : R8 (o + 102) 1 = some (o + 103) := (er8 _ _ (by omega) (by omega)).trans p6_1
  replace p6_2 : ya8 (o + 104) = some (.inr (0, 7)) := (ey8 _ (by omega)).trans p6_2
  replace p6_3 : R8 (o + 102) 3 = some (o + 104) := (er8 _ _ (by omega) (by omega)).trans p6_3
  replace p6_4 : ya8 (o + 105) = some (.inr (0, 7)) := (ey8 _ (by omega)).trans p6_4
  replace p6_5 : R8 (o + 102) 4 = some (o + 105) := (er8 _ _ (by omega) (by omega)).trans p6_5
  replace p6_6 : ya8 (o + 106) = some (.inr (0, 7)) := (ey8 _ (by omega)).trans p6_6
  replace p6_7 : R8 (o + 102) 7 = some (o + 106) := (er8 _ _ (by omega) (by omega)).trans p6_7
  replace p6_8 : R8 (o + 102) 0 = some (o + 50) := (er8 _ _ (by omega) (by omega)).trans p6_8
  replace vy7 : ya8 (o + 107) = some (.inl 9) := (ey8 _ (by omega)).trans vy7
  replace vr7 : R8 o 6 = some (o + 107) := (er8 _ _ (by omega) (by omega)).trans vr7
  replace p7_0 : ok9 ya8 R8 (o + 107) := ok9_kept p7_0 (fun a h1 h2 => (ey8 a (by omega))) (fun j => (er8 _ _ (by omega) (by omega)))
  replace Y0 : ∀ a, a ≤ o → ya8 a = y a := fun a h => (ey8 a (by omega)).trans (Y0 a h)
  replace hyo : ya8 o = some (.inl 10) := (ey8 o (by omega)).trans hyo
  replace G0 : ∀ a j, a < o → R8 a j = R a j := fun a j h => (er8 a j (by omega) (by omega)).trans (G0 a j h)
  refine sm_zr (fun hz9 => ?_)
  refine sm_in (sm_in (sm_in (And.intro (by decide) (And.intro (by decide) (And.intro (Nat.le_of_ble_eq_true rfl) (And.intro (Nat.le_of_ble_eq_true rfl) (sm_in (And.intro ((sm_up_ne (by omega)).trans hyo) (?_)))))))))
  show sm_W ex d 5 437 74 120 [some (.ref o)] [] (o + 118, sm_up ya8 (o + 117) (some (.inr (12, 2))), (nI9 (o + 112) (nI9 (o + 107) (nI9s 5 (o + 73) (sm_st (nI9 (o + 54 + 4) (sm_st (nI9 (o + 1) I) (o + 6) 3 (-1))) (o + 54) 9 (-1))))), L, sm_st R8 o 9 (some (o + 117))) Q
  have ey9 : ∀ a, a < o + 117 → (sm_up ya8 (o + 117) (some (.inr (12, 2)))) a = ya8 a := fun a h => sm_up_ne (by omega)
  have vy9 : (sm_up ya8 (o + 117) (some (.inr (12, 2)))) (o + 117) = some (.inr (12, 2)) := sm_up_s
  have er9 : ∀ a j, ¬ (a = o ∧ j = 9) → (sm_st R8 o 9 (some (o + 117))) a j = R8 a j := fun a j h => sm_st_or _ _ (by omega)
  have vr9 : (sm_st R8 o 9 (some (o + 117))) o 9 = some (o + 117) := sm_st_s _ _ _ _
  generalize sm_up ya8 (o + 117) (some (.inr (12, 2))) = y9 at ey9 vy9 ⊢
  generalize sm_st R8 o 9 (some (o + 117)) = R9 at er9 vr9 ⊢
  have rn9_0 : R9 (o + 117) 0 = none := (er9 _ _ (by omega)).trans (hz9 (o + 117) 0 (Nat.le_refl _)).2.2
  have rn9_1 : R9 (o + 117) 1 = none := (er9 _ _ (by omega)).trans (hz9 (o + 117) 1 (Nat.le_refl _)).2.2
  replace vy1 : y9 (o + 1) = some (.inl 9) := (ey9 _ (by omega)).trans vy1
  replace vr1 : R9 o 0 = some (o + 1) := (er9 _ _ (by omega)).trans vr1
  replace p1_0 : ok9 y9 R9 (o + 1) := ok9_kept p1_0 (fun a h1 h2 => (ey9 a (by omega))) (fun j => (er9 _ _ (by omega)))
  replace vy2 : y9 (o + 6) = some (.inl 0) := (ey9 _ (by omega)).trans vy2
  replace vr2 : R9 o 1 = some (o + 6) := (er9 _ _ (by omega)).trans vr2
  replace p2_0 : ok0 y9 R9 (o + 6) := ok0_kept p2_0 (fun a h1 h2 => (ey9 a (by omega))) (fun a j h1 h2 => (er9 _ _ (by omega)))
  replace vy3 : y9 (o + 50) = some (.inl 5) := (ey9 _ (by omega)).trans vy3
  replace vr3 : R9 o 2 = some (o + 50) := (er9 _ _ (by omega)).trans vr3
  replace p3_0 : y9 (o + 51) = some (.inl 2) := (ey9 _ (by omega)).trans p3_0
  replace p3_1 : R9 (o + 50) 1 = some (o + 51) := (er9 _ _ (by omega)).trans p3_1
  replace p3_2 : ok2 y9 R9 (o + 51) := ok2_kept p3_2 (fun a h1 h2 => (ey9 a (by omega))) (fun j => (er9 _ _ (by omega)))
  replace p3_3 : R9 (o + 50) 0 = some (o + 6) := (er9 _ _ (by omega)).trans p3_3
  replace vy4 : y9 (o + 54) = some (.inl 1) := (ey9 _ (by omega)).trans vy4
  replace vr4 : R9 o 3 = some (o + 54) := (er9 _ _ (by omega)).trans vr4
  replace p4_0 : y9 (o + 55) = some (.inl 2) := (ey9 _ (by omega)).trans p4_0
  replace p4_1 : R9 (o + 54) 2 = some (o + 55) := (er9 _ _ (by omega)).trans p4_1
  replace p4_2 : ok2 y9 R9 (o + 55) := ok2_kept p4_2 (fun a h1 h2 => (ey9 a (by omega))) (fun j => (er9 _ _ (by omega)))
  replace p4_3 : y9 (o + 58) = some (.inl 9) := (ey9 _ (by omega)).trans p4_3
  replace p4_4 : R9 (o + 54) 3 = some (o + 58) := (er9 _ _ (by omega)).trans p4_4
  replace p4_5 : ok9 y9 R9 (o + 58) := ok9_kept p4_5 (fun a h1 h2 => (ey9 a (by omega))) (fun j => (er9 _ _ (by omega)))
  replace p4_6 : y9 (o + 63) = some (.inl 4) := (ey9 _ (by omega)).trans p4_6
  replace p4_7 : R9 (o + 54) 4 = some (o + 63) := (er9 _ _ (by omega)).trans p4_7
  replace p4_8 : ok4 y9 R9 (o + 63) := ok4_kept p4_8 (fun a h1 h2 => (ey9 a (by omega))) (fun j => (er9 _ _ (by omega)))
  replace p4_9 : y9 (o + 65) = some (.inl 4) := (ey9 _ (by omega)).trans p4_9
  replace p4_10 : R9 (o + 54) 5 = some (o + 65) := (er9 _ _ (by omega)).trans p4_10
  replace p4_11 : ok4 y9 R9 (o + 65) := ok4_kept p4_11 (fun a h1 h2 => (ey9 a (by omega))) (fun j => (er9 _ _ (by omega)))
  replace p4_12 : y9 (o + 67) = some (.inl 6) := (ey9 _ (by omega)).trans p4_12
  replace p4_13 : R9 (o + 54) 6 = some (o + 67) := (er9 _ _ (by omega)).trans p4_13
  replace p4_14 : ok6 y9 R9 (o + 67) 200 12 := ok6_kept p4_14 (fun a h1 h2 => (ey9 a (by omega))) (fun j => (er9 _ _ (by omega)))
  replace p4_15 : R9 (o + 54) 0 = some (o + 1) := (er9 _ _ (by omega)).trans p4_15
  replace p4_16 : R9 (o + 54) 1 = some (o + 50) := (er9 _ _ (by omega)).trans p4_16
  replace vy5 : y9 (o + 73) = some (.inl 8) := (ey9 _ (by omega)).trans vy5
  replace vr5 : R9 o 4 = some (o + 73) := (er9 _ _ (by omega)).trans vr5
  replace p5_0 : ok8 y9 R9 (o + 73) (o + 50) := ok8_kept p5_0 (fun a h1 h2 => (ey9 a (by omega))) (fun a j h1 h2 => (er9 _ _ (by omega)))
  replace vy6 : y9 (o + 102) = some (.inl 3) := (ey9 _ (by omega)).trans vy6
  replace vr6 : R9 o 5 = some (o + 102) := (er9 _ _ (by omega)).trans vr6
  replace p6_0 : y9 (o + 103) = some (.inr (0, 49)) := (ey9 _ (by omega)).trans p6_0
  replace p6_1 : R9 (o + 102) 1 = some (o + 103) := (er9 _ _ (by omega)).trans p6_1
  replace p6_2 : y9 (o + 104) = some (.inr (0, 7)) := (ey9 _ (by omega)).trans p6_2
  replace p6_3 : R9 (o + 102) 3 = some (o + 104) := (er9 _ _ (by omega)).trans p6_3
  replace p6_4 : y9 (o + 105) = some (.inr (0, 7)) := (ey9 _ (by omega)).trans p6_4
  replace p6_5 : R9 (o + 102) 4 = some (o + 105) := (er9 _ _ (by omega)).trans p6_5
  replace p6_6 : y9 (o + 106) = some (.inr (0, 7)) := (ey9 _ (by omega)).trans p6_6
  replace p6_7 : R9 (o + 102) 7 = some (o + 106) := (er9 _ _ (by omega)).trans p6_7
  replace p6_8 : R9 (o + 102) 0 = some (o + 50) := (er9 _ _ (by omega)).trans p6_8
  replace vy7 : y9 (o + 107) = some (.inl 9) := (ey9 _ (by omega)).trans vy7
  replace vr7 : R9 o 6 = some (o + 107) := (er9 _ _ (by omega)).trans vr7
  replace p7_0 : ok9 y9 R9 (o + 107) := ok9_kept p7_0 (fun a h1 h2 => (ey9 a (by omega))) (fun j => (er9 _ _ (by omega)))
  replace vy8 : y9 (o + 112) = some (.inl 9) := (ey9 _ (by omega)).trans vy8
  replace vr8 : R9 o 7 = some (o + 112) := (er9 _ _ (by omega)).trans vr8
  replace p8_0 : ok9 y9 R9 (o + 112) := ok9_kept p8_0 (fun a h1 h2 => (ey9 a (by omega))) (fun j => (er9 _ _ (by omega)))
  replace Y0 : ∀ a, a ≤ o → y9 a = y a := fun a h => (ey9 a (by omega)).trans (Y0 a h)
  replace hyo : y9 o = some (.inl 10) := (ey9 o (by omega)).trans hyo
  replace G0 : ∀ a j, a < o → R9 a j = R a j := fun a j h => (er9 a j (by omega)).trans (G0 a j h)
  refine sm_zr (fun hz10 => ?_)
  refine sm_in (sm_in (sm_in (And.intro (by decide) (And.intro (by decide) (And.intro (Nat.le_of_ble_eq_true rfl) (And.intro (Nat.le_of_ble_eq_true rfl) (sm_in (And.intro ((sm_up_ne (by omega)).trans hyo) (?_)))))))))
  show sm_W ex d 4 435 74 128 [some (.ref o)] [] (o + 119, sm_up y9 (o + 118) (some (.inr (3, 2))), (nI9 (o + 112) (nI9 (o + 107) (nI9s 5 (o + 73) (sm_st (nI9 (o + 54 + 4) (sm_st (nI9 (o + 1) I) (o + 6) 3 (-1))) (o + 54) 9 (-1))))), L, sm_st R9 o 10 (some (o + 118))) Q
  have ey10 : ∀ a, a < o + 118 → (sm_up y9 (o + 118) (some (.inr (3, 2)))) a = y9 a := fun a h => sm_up_ne (by omega)
  have vy10 : (sm_up y9 (o + 118) (some (.inr (3, 2)))) (o + 118) = some (.inr (3, 2)) := sm_up_s
  have er10 : ∀ a j, ¬ (a = o ∧ j = 10) → (sm_st R9 o 10 (some (o + 118))) a j = R9 a j := fun a j h => sm_st_or _ _ (by omega)
  have vr10 : (sm_st R9 o 10 (some (o + 118))) o 10 = some (o + 118) := sm_st_s _ _ _ _
  generalize sm_up y9 (o + 118) (some (.inr (3, 2))) = y10 at ey10 vy10 ⊢
  generalize sm_st R9 o 10 (some (o + 118)) = R10 at er10 vr10 ⊢
  have rn10_0 : R10 (o + 118) 0 = none := (er10 _ _ (by omega)).trans (hz10 (o + 118) 0 (Nat.le_refl _)).2.2
  have rn10_1 : R10 (o + 118) 1 = none := (er10 _ _ (by omega)).trans (hz10 (o + 118) 1 (Nat.le_refl _)).2.2
  replace vy1 : y10 (o + 1) = some (.inl 9) := (ey10 _ (by omega)).trans vy1
  replace vr1 : R10 o 0 = some (o + 1) := (er10 _ _ (by omega)).trans vr1
  replace p1_0 : ok9 y10 R10 (o + 1) := ok9_kept p1_0 (fun a h1 h2 => (ey10 a (by omega))) (fun j => (er10 _ _ (by omega)))
  replace vy2 : y10 (o + 6) = some (.inl 0) := (ey10 _ (by omega)).trans vy2
  replace vr2 : R10 o 1 = some (o + 6) := (er10 _ _ (by omega)).trans vr2
  replace p2_0 : ok0 y10 R10 (o + 6) := ok0_kept p2_0 (fun a h1 h2 => (ey10 a (by omega))) (fun a j h1 h2 => (er10 _ _ (by omega)))
  replace vy3 : y10 (o + 50) = some (.inl 5) := (ey10 _ (by omega)).trans vy3
  replace vr3 : R10 o 2 = some (o + 50) := (er10 _ _ (by omega)).trans vr3
  replace p3_0 : y10 (o + 51) = some (.inl 2) := (ey10 _ (by omega)).trans p3_0
  replace p3_1 : R10 (o + 50) 1 = some (o + 51) := (er10 _ _ (by omega)).trans p3_1
  replace p3_2 : ok2 y10 R10 (o + 51) := ok2_kept p3_2 (fun a h1 h2 => (ey10 a (by omega))) (fun j => (er10 _ _ (by omega)))
  replace p3_3 : R10 (o + 50) 0 = some (o + 6) := (er10 _ _ (by omega)).trans p3_3
  replace vy4 : y10 (o + 54) = some (.inl 1) := (ey10 _ (by omega)).trans vy4
  replace vr4 : R10 o 3 = some (o + 54) := (er10 _ _ (by omega)).trans vr4
  replace p4_0 : y10 (o + 55) = some (.inl 2) := (ey10 _ (by omega)).trans p4_0
  replace p4_1 : R10 (o + 54) 2 = some (o + 55) := (er10 _ _ (by omega)).trans p4_1
  replace p4_2 : ok2 y10 R10 (o + 55) := ok2_kept p4_2 (fun a h1 h2 => (ey10 a (by omega))) (fun j => (er10 _ _ (by omega)))
  replace p4_3 : y10 (o + 58) = some (.inl 9) := (ey10 _ (by omega)).trans p4_3
  replace p4_4 : R10 (o + 54) 3 = some (o + 58) := (er10 _ _ (by omega)).trans p4_4
  replace p4_5 : ok9 y10 R10 (o + 58) := ok9_kept p4_5 (fun a h1 h2 => (ey10 a (by omega))) (fun j => (er10 _ _ (by omega)))
  replace p4_6 : y10 (o + 63) = some (.inl 4) := (ey10 _ (by omega)).trans p4_6
  replace p4_7 : R10 (o + 54) 4 = some (o + 63) := (er10 _ _ (by omega)).trans p4_7
  replace p4_8 : ok4 y10 R10 (o + 63) := ok4_kept p4_8 (fun a h1 h2 => (ey10 a (by omega))) (fun j => (er10 _ _ (by omega)))
  replace p4_9 : y10 (o + 65) = some (.inl 4) := (ey10 _ (by omega)).trans p4_9
  replace p4_10 : R10 (o + 54) 5 = some (o + 65) := (er10 _ _ (by omega)).trans p4_10
  replace p4_11 : ok4 y10 R10 (o + 65) := ok4_kept p4_11 (fun a h1 h2 => (ey10 a (by omega))) (fun j => (er10 _ _ (by omega)))
  replace p4_12 : y10 (o + 67) = some (.inl 6) := (ey10 _ (by omega)).trans p4_12
  replace p4_13 : R10 (o + 54) 6 = some (o + 67) := (er10 _ _ (by omega)).trans p4_13
  replace p4_14 : ok6 y10 R10 (o + 67) 200 12 := ok6_kept p4_14 (fun a h1 h2 => (ey10 a (by omega))) (fun j => (er10 _ _ (by omega)))
  replace p4_15 : R10 (o + 54) 0 = some (o + 1) := (er10 _ _ (by omega)).trans p4_15
  replace p4_16 : R10 (o + 54) 1 = some (o + 50) := (er10 _ _ (by omega)).trans p4_16
  replace vy5 : y10 (o + 73) = some (.inl 8) := (ey10 _ (by omega)).trans vy5
  replace vr5 : R10 o 4 = some (o + 73) := (er10 _ _ (by omega)).trans vr5
  replace p5_0 : ok8 y10 R10 (o + 73) (o + 50) := ok8_kept p5_0 (fun a h1 h2 => (ey10 a (by omega))) (fun a j h1 h2 => (er10 _ _ (by omega)))
  replace vy6 : y10 (o + 102) = some (.inl 3) := (ey10 _ (by omega)).trans vy6
  replace vr6 : R10 o 5 = some (o + 102) := (er10 _ _ (by omega)).trans vr6
  replace p6_0 : y10 (o + 103) = some (.inr (0, 49)) := (ey10 _ (by omega)).trans p6_0
  replace p6_1 : R10 (o + 102) 1 = some (o + 103) := (er10 _ _ (by omega)).trans p6_1
  replace p6_2 : y10 (o + 104) = some (.inr (0, 7)) := (ey10 _ (by omega)).trans p6_2
  replace p6_3 : R10 (o + 102) 3 = some (o + 104) := (er10 _ _ (by omega)).trans p6_3
  replace p6_4 : y10 (o + 105) = some (.inr (0, 7)) := (ey10 _ (by omega)).trans p6_4
  replace p6_5 : R10 (o + 102) 4 = some (o + 105) := (er10 _ _ (by omega)).trans p6_5
  replace p6_6 : y10 (o + 106) = some (.inr (0, 7)) := (ey10 _ (by omega)).trans p6_6
  replace p6_7 : R10 (o + 102) 7 = some (o + 106) := (er10 _ _ (by omega)).trans p6_7
  replace p6_8 : R10 (o + 102) 0 = some (o + 50) := (er10 _ _ (by omega)).trans p6_8
  replace vy7 : y10 (o + 107) = some (.inl 9) := (ey10 _ (by omega)).trans vy7
  replace vr7 : R10 o 6 = some (o + 107) := (er10 _ _ (by omega)).trans vr7
  replace p7_0 : ok9 y10 R10 (o + 107) := ok9_kept p7_0 (fun a h1 h2 => (ey10 a (by omega))) (fun j => (er10 _ _ (by omega)))
  replace vy8 : y10 (o + 112) = some (.inl 9) := (ey10 _ (by omega)).trans vy8
  replace vr8 : R10 o 7 = some (o + 112) := (er10 _ _ (by omega)).trans vr8
  replace p8_0 : ok9 y10 R10 (o + 112) := ok9_kept p8_0 (fun a h1 h2 => (ey10 a (by omega))) (fun j => (er10 _ _ (by omega)))
  replace vy9 : y10 (o + 117) = some (.inr (12, 2)) := (ey10 _ (by omega)).trans vy9
  replace vr9 : R10 o 9 = some (o + 117) := (er10 _ _ (by omega)).trans vr9
  replace rn9_0 : R10 (o + 117) 0 = none := (er10 _ _ (by omega)).trans rn9_0
  replace rn9_1 : R10 (o + 117) 1 = none := (er10 _ _ (by omega)).trans rn9_1
  replace Y0 : ∀ a, a ≤ o → y10 a = y a := fun a h => (ey10 a (by omega)).trans (Y0 a h)
  replace hyo : y10 o = some (.inl 10) := (ey10 o (by omega)).trans hyo
  replace G0 : ∀ a j, a < o → R10 a j = R a j := fun a j h => (er10 a j (by omega)).trans (G0 a j h)
  refine sm_in (sm_in (sm_in (And.intro (by decide) (And.intro (by decide) (And.intro (Nat.le_of_ble_eq_true rfl) (And.intro (Nat.le_of_ble_eq_true rfl) (sm_in (And.intro ((sm_up_ne (by omega)).trans hyo) (?_)))))))))
  show sm_W ex d 3 35 74 137 [some (.ref o)] [] (o + 120, sm_up y10 (o + 119) (some (.inr (0, 400))), (nI9 (o + 112) (nI9 (o + 107) (nI9s 5 (o + 73) (sm_st (nI9 (o + 54 + 4) (sm_st (nI9 (o + 1) I) (o + 6) 3 (-1))) (o + 54) 9 (-1))))), L, sm_st R10 o 11 (some (o + 119))) Q
  have ey11 : ∀ a, a < o + 119 → (sm_up y10 (o + 119) (some (.inr (0, 400)))) a = y10 a := fun a h => sm_up_ne (by omega)
  have vy11 : (sm_up y10 (o + 119) (some (.inr (0, 400)))) (o + 119) = some (.inr (0, 400)) := sm_up_s
  have er11 : ∀ a j, ¬ (a = o ∧ j = 11) → (sm_st R10 o 11 (some (o + 119))) a j = R10 a j := fun a j h => sm_st_or _ _ (by omega)
  have vr11 : (sm_st R10 o 11 (some (o + 119))) o 11 = some (o + 119) := sm_st_s _ _ _ _
  generalize sm_up y10 (o + 119) (some (.inr (0, 400))) = y11 at ey11 vy11 ⊢
  generalize sm_st R10 o 11 (some (o + 119)) = R11 at er11 vr11 ⊢
  replace vy1 : y11 (o + 1) = some (.inl 9) := (ey11 _ (by omega)).trans vy1
  replace vr1 : R11 o 0 = some (o + 1) := (er11 _ _ (by omega)).trans vr1
  replace p1_0 : ok9 y11 R11 (o + 1) := ok9_kept p1_0 (fun a h1 h2 => (ey11 a (by omega))) (fun j => (er11 _ _ (by omega)))
  replace vy2 : y11 (o + 6) = some (.inl 0) := (ey11 _ (by omega)).trans vy2
  replace vr2 : R11 o 1 = some (o + 6) := (er11 _ _ (by omega)).trans vr2
  replace p2_0 : ok0 y11 R11 (o + 6) := ok0_kept p2_0 (fun a h1 h2 => (ey11 a (by omega))) (fun a j h1 h2 => (er11 _ _ (by omega)))
  replace vy3 : y11 (o + 50) = some (.inl 5) := (ey11 _ (by omega)).trans vy3
  replace vr3 : R11 o 2 = some (o + 50) := (er11 _ _ (by omega)).trans vr3
  replace p3_0 : y11 (o + 51) = some (.inl 2) := (ey11 _ (by omega)).trans p3_0
  replace p3_1 : R11 (o + 50) 1 = some (o + 51) := (er11 _ _ (by omega)).trans p3_1
  replace p3_2 : ok2 y11 R11 (o + 51) := ok2_kept p3_2 (fun a h1 h2 => (ey11 a (by omega))) (fun j => (er11 _ _ (by omega)))
  replace p3_3 : R11 (o + 50) 0 = some (o + 6) := (er11 _ _ (by omega)).trans p3_3
  replace vy4 : y11 (o + 54) = some (.inl 1) := (ey11 _ (by omega)).trans vy4
  replace vr4 : R11 o 3 = some (o + 54) := (er11 _ _ (by omega)).trans vr4
  replace p4_0 : y11 (o + 55) = some (.inl 2) := (ey11 _ (by omega)).trans p4_0
  replace p4_1 : R11 (o + 54) 2 = some (o + 55) := (er11 _ _ (by omega)).trans p4_1
  replace p4_2 : ok2 y11 R11 (o + 55) := ok2_kept p4_2 (fun a h1 h2 => (ey11 a (by omega))) (fun j => (er11 _ _ (by omega)))
  replace p4_3 : y11 (o + 58) = some (.inl 9) := (ey11 _ (by omega)).trans p4_3
  replace p4_4 : R11 (o + 54) 3 = some (o + 58) := (er11 _ _ (by omega)).trans p4_4
  replace p4_5 : ok9 y11 R11 (o + 58) := ok9_kept p4_5 (fun a h1 h2 => (ey11 a (by omega))) (fun j => (er11 _ _ (by omega)))
  replace p4_6 : y11 (o + 63) = some (.inl 4) := (ey11 _ (by omega)).trans p4_6
  replace p4_7 : R11 (o + 54) 4 = some (o + 63) := (er11 _ _ (by omega)).trans p4_7
  replace p4_8 : ok4 y11 R11 (o + 63) := ok4_kept p4_8 (fun a h1 h2 => (ey11 a (by omega))) (fun j => (er11 _ _ (by omega)))
  replace p4_9 : y11 (o + 65) = some (.inl 4) := (ey11 _ (by omega)).trans p4_9
  replace p4_10 : R11 (o + 54) 5 = some (o + 65) := (er11 _ _ (by omega)).trans p4_10
  replace p4_11 : ok4 y11 R11 (o + 65) := ok4_kept p4_11 (fun a h1 h2 => (ey11 a (by omega))) (fun j => (er11 _ _ (by omega)))
  replace p4_12 : y11 (o + 67) = some (.inl 6) := (ey11 _ (by omega)).trans p4_12
  replace p4_13 : R11 (o + 54) 6 = some (o + 67) := (er11 _ _ (by omega)).trans p4_13
  replace p4_14 : ok6 y11 R11 (o + 67) 200 12 := ok6_kept p4_14 (fun a h1 h2 => (ey11 a (by omega))) (fun j => (er11 _ _ (by omega)))
  replace p4_15 : R11 (o + 54) 0 = some (o + 1) := (er11 _ _ (by omega)).trans p4_15
  replace p4_16 : R11 (o + 54) 1 = some (o + 50) := (er11 _ _ (by omega)).trans p4_16
  replace vy5 : y11 (o + 73) = some (.inl 8) := (ey11 _ (by omega)).trans vy5
  replace vr5 : R11 o 4 = some (o + 73) := (er11 _ _ (by omega)).trans vr5
  replace p5_0 : ok8 y11 R11 (o + 73) (o + 50) := ok8_kept p5_0 (fun a h1 h2 => (ey11 a (by omega))) (fun a j h1 h2 => (er11 _ _ (by omega)))
  replace vy6 : y11 (o + 102) = some (.inl 3) := (ey11 _ (by omega)).trans vy6
  replace vr6 : R11 o 5 = some (o + 102) := (er11 _ _ (by omega)).trans vr6
  replace p6_0 : y11 (o + 103) = some (.inr (0, 49)) := (ey11 _ (by omega)).trans p6_0
  replace p6_1 : R11 (o + 102) 1 = some (o + 103) := (er11 _ _ (by omega)).trans p6_1
  replace p6_2 : y11 (o + 104) = some (.inr (0, 7)) := (ey11 _ (by omega)).trans p6_2
  replace p6_3 : R11 (o + 102) 3 = some (o + 104) := (er11 _ _ (by omega)).trans p6_3
  replace p6_4 : y11 (o + 105) = some (.inr (0, 7)) := (ey11 _ (by omega)).trans p6_4
  replace p6_5 : R11 (o + 102) 4 = some (o + 105) := (er11 _ _ (by omega)).trans p6_5
  replace p6_6 : y11 (o + 106) = some (.inr (0, 7)) := (ey11 _ (by omega)).trans p6_6
  replace p6_7 : R11 (o + 102) 7 = some (o + 106) := (er11 _ _ (by omega)).trans p6_7
  replace p6_8 : R11 (o + 102) 0 = some (o + 50) := (er11 _ _ (by omega)).trans p6_8
  replace vy7 : y11 (o + 107) = some (.inl 9) := (ey11 _ (by omega)).trans vy7
  replace vr7 : R11 o 6 = some (o + 107) := (er11 _ _ (by omega)).trans vr7
  replace p7_0 : ok9 y11 R11 (o + 107) := ok9_kept p7_0 (fun a h1 h2 => (ey11 a (by omega))) (fun j => (er11 _ _ (by omega)))
  replace vy8 : y11 (o + 112) = some (.inl 9) := (ey11 _ (by omega)).trans vy8
  replace vr8 : R11 o 7 = some (o + 112) := (er11 _ _ (by omega)).trans vr8
  replace p8_0 : ok9 y11 R11 (o + 112) := ok9_kept p8_0 (fun a h1 h2 => (ey11 a (by omega))) (fun j => (er11 _ _ (by omega)))
  replace vy9 : y11 (o + 117) = some (.inr (12, 2)) := (ey11 _ (by omega)).trans vy9
  replace vr9 : R11 o 9 = some (o + 117) := (er11 _ _ (by omega)).trans vr9
  replace rn9_0 : R11 (o + 117) 0 = none := (er11 _ _ (by omega)).trans rn9_0
  replace rn9_1 : R11 (o + 117) 1 = none := (er11 _ _ (by omega)).trans rn9_1
  replace vy10 : y11 (o + 118) = some (.inr (3, 2)) := (ey11 _ (by omega)).trans vy10
  replace vr10 : R11 o 10 = some (o + 118) := (er11 _ _ (by omega)).trans vr10
  replace rn10_0 : R11 (o + 118) 0 = none := (er11 _ _ (by omega)).trans rn10_0
  replace rn10_1 : R11 (o + 118) 1 = none := (er11 _ _ (by omega)).trans rn10_1
  replace Y0 : ∀ a, a ≤ o → y11 a = y a := fun a h => (ey11 a (by omega)).trans (Y0 a h)
  replace hyo : y11 o = some (.inl 10) := (ey11 o (by omega)).trans hyo
  replace G0 : ∀ a j, a < o → R11 a j = R a j := fun a j h => (er11 a j (by omega)).trans (G0 a j h)
  refine sm_in (sm_in (And.intro (Nat.le_of_ble_eq_true rfl) (And.intro (Nat.le_of_ble_eq_true rfl) (sm_in (And.intro rfl (sm_in (sm_in (And.intro ((sm_up_ne (by omega)).trans hyo) (sm_gfr rfl vr11 (sm_in (sm_in (And.intro ((sm_up_ne (by omega)).trans hyo) (sm_gfr rfl vr4 (sm_in (And.intro ((sm_up_ne (by omega)).trans vy4) (sm_gfr rfl p4_13 (sm_in (sm_cal 1 0 0 (by omega) (Nat.le_of_ble_eq_true rfl) (Nat.le_of_ble_eq_true rfl) (Nat.le_of_ble_eq_true rfl) (Nat.le_of_ble_eq_true rfl) ?_))))))))))))))))))
  refine c_X7_init (o := o + 120) (Nat.le_refl _) sm_up_s ?_
  intro ya12 Ra12 na12 q12_0 q12_1
  have ey12 : ∀ a, a < o + 120 → ya12 a = y11 a := fun a h => (na12.1 a (by omega)).trans (sm_up_ne (by omega))
  have vy12 : ya12 (o + 120) = some (.inl 7) := (na12.1 _ (by omega)).trans sm_up_s
  have eq12 : ∀ a j, a < o + 120 → Ra12 a j = R11 a j := fun a j h => na12.2 a j h
  refine sm_in (And.intro ((ey12 o (by omega)).trans hyo) ?_)
  show sm_W ex d 2 27 74 159 [some (.ref o)] [] (o + 121, ya12, (nI9 (o + 112) (nI9 (o + 107) (nI9s 5 (o + 73) (sm_st (nI9 (o + 54 + 4) (sm_st (nI9 (o + 1) I) (o + 6) 3 (-1))) (o + 54) 9 (-1))))), L, sm_st Ra12 o 13 (some (o + 120))) Q
  have er12 : ∀ a j, a < o + 120 → ¬ (a = o ∧ j = 13) → (sm_st Ra12 o 13 (some (o + 120))) a j = R11 a j := fun a j h1 h2 => (sm_st_or _ _ (by omega)).trans (eq12 a j h1)
  have vr12 : (sm_st Ra12 o 13 (some (o + 120))) o 13 = some (o + 120) := sm_st_s _ _ _ _
  have eh12 : ∀ a j, a ≠ o → (sm_st Ra12 o 13 (some (o + 120))) a j = Ra12 a j := fun a j h => sm_st_o _ _ h
  generalize sm_st Ra12 o 13 (some (o + 120)) = R12 at er12 vr12 eh12 ⊢
  have p12_0 : R12 (o + 120) 0 = some (o + 119) := (eh12 _ _ (by omega)).trans q12_0
  have p12_1 : R12 (o + 120) 3 = some (o + 67) := (eh12 _ _ (by omega)).trans q12_1
  replace vy1 : ya12 (o + 1) = some (.inl 9) := (ey12 _ (by omega)).trans vy1
  replace vr1 : R12 o 0 = some (o + 1) := (er12 _ _ (by omega) (by omega)).trans vr1
  replace p1_0 : ok9 ya12 R12 (o + 1) := ok9_kept p1_0 (fun a h1 h2 => (ey12 a (by omega))) (fun j => (er12 _ _ (by omega) (by omega)))
  replace vy2 : ya12 (o + 6) = some (.inl 0) := (ey12 _ (by omega)).trans vy2
  replace vr2 : R12 o 1 = some (o + 6) := (er12 _ _ (by omega) (by omega)).trans vr2
  replace p2_0 : ok0 ya12 R12 (o + 6) := ok0_kept p2_0 (fun a h1 h2 => (ey12 a (by omega))) (fun a j h1 h2 => (er12 _ _ (by omega) (by omega)))
  replace vy3 : ya12 (o + 50) = some (.inl 5) := (ey12 _ (by omega)).trans vy3
  replace vr3 : R12 o 2 = some (o + 50) := (er12 _ _ (by omega) (by omega)).trans vr3
  replace p3_0 : ya12 (o + 51) = some (.inl 2) := (ey12 _ (by omega)).trans p3_0
  replace p3_1 : R12 (o + 50) 1 = some (o + 51) := (er12 _ _ (by omega) (by omega)).trans p3_1
  replace p3_2 : ok2 ya12 R12 (o + 51) := ok2_kept p3_2 (fun a h1 h2 => (ey12 a (by omega))) (fun j => (er12 _ _ (by omega) (by omega)))
  replace p3_3 : R12 (o + 50) 0 = some (o + 6) := (er12 _ _ (by omega) (by omega)).trans p3_3
  replace vy4 : ya12 (o + 54) = some (.inl 1) := (ey12 _ (by omega)).trans vy4
  replace vr4 : R12 o 3 = some (o + 54) := (er12 _ _ (by omega) (by omega)).trans vr4
  replace p4_0 : ya12 (o + 55) = some (.inl 2) := (ey12 _ (by omega)).trans p4_0
  replace p4_1 : R12 (o + 54) 2 = some (o + 55) := (er12 _ _ (by omega) (by omega)).trans p4_1
  replace p4_2 : ok2 ya12 R12 (o + 55) := ok2_kept p4_2 (fun a h1 h2 => (ey12 a (by omega))) (fun j => (er12 _ _ (by omega) (by omega)))
  replace p4_3 : ya12 (o + 58) = some (.inl 9) := (ey12 _ (by omega)).trans p4_3
  replace p4_4 : R12 (o + 54) 3 = some (o + 58) := (er12 _ _ (by omega) (by omega)).trans p4_4
  replace p4_5 : ok9 ya12 R12 (o + 58) := ok9_kept p4_5 (fun a h1 h2 => (ey12 a (by omega))) (fun j => (er12 _ _ (by omega) (by omega)))
  replace p4_6 : ya12 (o + 63) = some (.inl 4) := (ey12 _ (by omega)).trans p4_6
  replace p4_7 : R12 (o + 54) 4 = some (o + 63) := (er12 _ _ (by omega) (by omega)).trans p4_7
  replace p4_8 : ok4 ya12 R12 (o + 63) := ok4_kept p4_8 (fun a h1 h2 => (ey12 a (by omega))) (fun j => (er12 _ _ (by omega) (by omega)))
  replace p4_9 : ya12 (o + 65) = some (.inl 4) := (ey12 _ (by omega)).trans p4_9
  replace p4_10 : R12 (o + 54) 5 = some (o + 65) := (er12 _ _ (by omega) (by omega)).trans p4_10
  replace p4_11 : ok4 ya12 R12 (o + 65) := ok4_kept p4_11 (fun a h1 h2 => (ey12 a (by omega))) (fun j => (er12 _ _ (by omega) (by omega)))
  replace p4_12 : ya12 (o + 67) = some (.inl 6) := (ey12 _ (by omega)).trans p4_12
  replace p4_13 : R12 (o + 54) 6 = some (o + 67) := (er12 _ _ (by omega) (by omega)).trans p4_13
  replace p4_14 : ok6 ya12 R12 (o + 67) 200 12 := ok6_kept p4_14 (fun a h1 h2 => (ey12 a (by omega))) (fun j => (er12 _ _ (by omega) (by omega)))
  replace p4_15 : R12 (o + 54) 0 = some (o + 1) := (er12 _ _ (by omega) (by omega)).trans p4_15
  replace p4_16 : R12 (o + 54) 1 = some (o + 50) := (er12 _ _ (by omega) (by omega)).trans p4_16
  replace vy5 : ya12 (o + 73) = some (.inl 8) := (ey12 _ (by omega)).trans vy5
  replace vr5 : R12 o 4 = some (o + 73) := (er12 _ _ (by omega) (by omega)).trans vr5
  replace p5_0 : ok8 ya12 R12 (o + 73) (o + 50) := ok8_kept p5_0 (fun a h1 h2 => (ey12 a (by omega))) (fun a j h1 h2 => (er12 _ _ (by omega) (by omega)))
  replace vy6 : ya12 (o + 102) = some (.inl 3) := (ey12 _ (by omega)).trans vy6
  replace vr6 : R12 o 5 = some (o + 102) := (er12 _ _ (by omega) (by omega)).trans vr6
  replace p6_0 : ya12 (o + 103) = some (.inr (0, 49)) := (ey12 _ (by omega)).trans p6_0
  replace p6_1 : R12 (o + 102) 1 = some (o + 103) := (er12 _ _ (by omega) (by omega)).trans p6_1
  replace p6_2 : ya12 (o + 104) = some (.inr (0, 7)) := (ey12 _ (by omega)).trans p6_2
  replace p6_3 : R12 (o + 102) 3 = some (o + 104) := (er12 _ _ (by omega) (by omega)).trans p6_3
  replace p6_4 : ya12 (o + 105) = some (.inr (0, 7)) := (ey12 _ (by omega)).trans p6_4
  replace p6_5 : R12 (o + 102) 4 = some (o + 105) := (er12 _ _ (by omega) (by omega)).trans p6_5
  replace p6_6 : ya12 (o + 106) = some (.inr (0, 7)) := (ey12 _ (by omega)).trans p6_6
  replace p6_7 : R12 (o + 102) 7 = some (o + 106) := (er12 _ _ (by omega) (by omega)).trans p6_7
  replace p6_8 : R12 (o + 102) 0 = some (o + 50) := (er12 _ _ (by omega) (by omega)).trans p6_8
  replace vy7 : ya12 (o + 107) = some (.inl 9) := (ey12 _ (by omega)).trans vy7
  replace vr7 : R12 o 6 = some (o + 107) := (er12 _ _ (by omega) (by omega)).trans vr7
  replace p7_0 : ok9 ya12 R12 (o + 107) := ok9_kept p7_0 (fun a h1 h2 => (ey12 a (by omega))) (fun j => (er12 _ _ (by omega) (by omega)))
  replace vy8 : ya12 (o + 112) = some (.inl 9) := (ey12 _ (by omega)).trans vy8
  replace vr8 : R12 o 7 = some (o + 112) := (er12 _ _ (by omega) (by omega)).trans vr8
  replace p8_0 : ok9 ya12 R12 (o + 112) := ok9_kept p8_0 (fun a h1 h2 => (ey12 a (by omega))) (fun j => (er12 _ _ (by omega) (by omega)))
  replace vy9 : ya12 (o + 117) = some (.inr (12, 2)) := (ey12 _ (by omega)).trans vy9
  replace vr9 : R12 o 9 = some (o + 117) := (er12 _ _ (by omega) (by omega)).trans vr9
  replace rn9_0 : R12 (o + 117) 0 = none := (er12 _ _ (by omega) (by omega)).trans rn9_0
  replace rn9_1 : R12 (o + 117) 1 = none := (er12 _ _ (by omega) (by omega)).trans rn9_1
  replace vy10 : ya12 (o + 118) = some (.inr (3, 2)) := (ey12 _ (by omega)).trans vy10
  replace vr10 : R12 o 10 = some (o + 118) := (er12 _ _ (by omega) (by omega)).trans vr10
  replace rn10_0 : R12 (o + 118) 0 = none := (er12 _ _ (by omega) (by omega)).trans rn10_0
  replace rn10_1 : R12 (o + 118) 1 = none := (er12 _ _ (by omega) (by omega)).trans rn10_1
  replace vy11 : ya12 (o + 119) = some (.inr (0, 400)) := (ey12 _ (by omega)).trans vy11
  replace vr11 : R12 o 11 = some (o + 119) := (er12 _ _ (by omega) (by omega)).trans vr11
  replace Y0 : ∀ a, a ≤ o → ya12 a = y a := fun a h => (ey12 a (by omega)).trans (Y0 a h)
  replace hyo : ya12 o = some (.inl 10) := (ey12 o (by omega)).trans hyo
  replace G0 : ∀ a j, a < o → R12 a j = R a j := fun a j h => (er12 a j (by omega) (by omega)).trans (G0 a j h)
  refine sm_in (sm_in (sm_in (And.intro (by decide) (And.intro (by decide) (And.intro (Nat.le_of_ble_eq_true rfl) (And.intro (Nat.le_of_ble_eq_true rfl) (sm_in (And.intro ((sm_up_ne (by omega)).trans hyo) (?_)))))))))
  show sm_W ex d 1 7 74 167 [some (.ref o)] [] (o + 122, sm_up ya12 (o + 121) (some (.inr (1, 20))), (nI9 (o + 112) (nI9 (o + 107) (nI9s 5 (o + 73) (sm_st (nI9 (o + 54 + 4) (sm_st (nI9 (o + 1) I) (o + 6) 3 (-1))) (o + 54) 9 (-1))))), L, sm_st R12 o 14 (some (o + 121))) Q
  have ey13 : ∀ a, a < o + 121 → (sm_up ya12 (o + 121) (some (.inr (1, 20)))) a = ya12 a := fun a h => sm_up_ne (by omega)
  have vy13 : (sm_up ya12 (o + 121) (some (.inr (1, 20)))) (o + 121) = some (.inr (1, 20)) := sm_up_s
  have er13 : ∀ a j, ¬ (a = o ∧ j = 14) → (sm_st R12 o 14 (some (o + 121))) a j = R12 a j := fun a j h => sm_st_or _ _ (by omega)
  have vr13 : (sm_st R12 o 14 (some (o + 121))) o 14 = some (o + 121) := sm_st_s _ _ _ _
  generalize sm_up ya12 (o + 121) (some (.inr (1, 20))) = y13 at ey13 vy13 ⊢
  generalize sm_st R12 o 14 (some (o + 121)) = R13 at er13 vr13 ⊢
  replace vy1 : y13 (o + 1) = some (.inl 9) := (ey13 _ (by omega)).trans vy1
  replace vr1 : R13 o 0 = some (o + 1) := (er13 _ _ (by omega)).trans vr1
  replace p1_0 : ok9 y13 R13 (o + 1) := ok9_kept p1_0 (fun a h1 h2 => (ey13 a (by omega))) (fun j => (er13 _ _ (by omega)))
  replace vy2 : y13 (o + 6) = some (.inl 0) := (ey13 _ (by omega)).trans vy2
  replace vr2 : R13 o 1 = some (o + 6) := (er13 _ _ (by omega)).trans vr2
  replace p2_0 : ok0 y13 R13 (o + 6) := ok0_kept p2_0 (fun a h1 h2 => (ey13 a (by omega))) (fun a j h1 h2 => (er13 _ _ (by omega)))
  replace vy3 : y13 (o + 50) = some (.inl 5) := (ey13 _ (by omega)).trans vy3
  replace vr3 : R13 o 2 = some (o + 50) := (er13 _ _ (by omega)).trans vr3
  replace p3_0 : y13 (o + 51) = some (.inl 2) := (ey13 _ (by omega)).trans p3_0
  replace p3_1 : R13 (o + 50) 1 = some (o + 51) := (er13 _ _ (by omega)).trans p3_1
  replace p3_2 : ok2 y13 R13 (o + 51) := ok2_kept p3_2 (fun a h1 h2 => (ey13 a (by omega))) (fun j => (er13 _ _ (by omega)))
  replace p3_3 : R13 (o + 50) 0 = some (o + 6) := (er13 _ _ (by omega)).trans p3_3
  replace vy4 : y13 (o + 54) = some (.inl 1) := (ey13 _ (by omega)).trans vy4
  replace vr4 : R13 o 3 = some (o + 54) := (er13 _ _ (by omega)).trans vr4
  replace p4_0 : y13 (o + 55) = some (.inl 2) := (ey13 _ (by omega)).trans p4_0
  replace p4_1 : R13 (o + 54) 2 = some (o + 55) := (er13 _ _ (by omega)).trans p4_1
  replace p4_2 : ok2 y13 R13 (o + 55) := ok2_kept p4_2 (fun a h1 h2 => (ey13 a (by omega))) (fun j => (er13 _ _ (by omega)))
  replace p4_3 : y13 (o + 58) = some (.inl 9) := (ey13 _ (by omega)).trans p4_3
  replace p4_4 : R13 (o + 54) 3 = some (o + 58) := (er13 _ _ (by omega)).trans p4_4
  replace p4_5 : ok9 y13 R13 (o + 58) := ok9_kept p4_5 (fun a h1 h2 => (ey13 a (by omega))) (fun j => (er13 _ _ (by omega)))
  replace p4_6 : y13 (o + 63) = some (.inl 4) := (ey13 _ (by omega)).trans p4_6
  replace p4_7 : R13 (o + 54) 4 = some (o + 63) := (er13 _ _ (by omega)).trans p4_7
  replace p4_8 : ok4 y13 R13 (o + 63) := ok4_kept p4_8 (fun a h1 h2 => (ey13 a (by omega))) (fun j => (er13 _ _ (by omega)))
  replace p4_9 : y13 (o + 65) = some (.inl 4) := (ey13 _ (by omega)).trans p4_9
  replace p4_10 : R13 (o + 54) 5 = some (o + 65) := (er13 _ _ (by omega)).trans p4_10
  replace p4_11 : ok4 y13 R13 (o + 65) := ok4_kept p4_11 (fun a h1 h2 => (ey13 a (by omega))) (fun j => (er13 _ _ (by omega)))
  replace p4_12 : y13 (o + 67) = some (.inl 6) := (ey13 _ (by omega)).trans p4_12
  replace p4_13 : R13 (o + 54) 6 = some (o + 67) := (er13 _ _ (by omega)).trans p4_13
  replace p4_14 : ok6 y13 R13 (o + 67) 200 12 := ok6_kept p4_14 (fun a h1 h2 => (ey13 a (by omega))) (fun j => (er13 _ _ (by omega)))
  replace p4_15 : R13 (o + 54) 0 = some (o + 1) := (er13 _ _ (by omega)).trans p4_15
  replace p4_16 : R13 (o + 54) 1 = some (o + 50) := (er13 _ _ (by omega)).trans p4_16
  replace vy5 : y13 (o + 73) = some (.inl 8) := (ey13 _ (by omega)).trans vy5
  replace vr5 : R13 o 4 = some (o + 73) := (er13 _ _ (by omega)).trans vr5
  replace p5_0 : ok8 y13 R13 (o + 73) (o + 50) := ok8_kept p5_0 (fun a h1 h2 => (ey13 a (by omega))) (fun a j h1 h2 => (er13 _ _ (by omega)))
  replace vy6 : y13 (o + 102) = some (.inl 3) := (ey13 _ (by omega)).trans vy6
  replace vr6 : R13 o 5 = some (o + 102) := (er13 _ _ (by omega)).trans vr6
  replace p6_0 : y13 (o + 103) = some (.inr (0, 49)) := (ey13 _ (by omega)).trans p6_0
  replace p6_1 : R13 (o + 102) 1 = some (o + 103) := (er13 _ _ (by omega)).trans p6_1
  replace p6_2 : y13 (o + 104) = some (.inr (0, 7)) := (ey13 _ (by omega)).trans p6_2
  replace p6_3 : R13 (o + 102) 3 = some (o + 104) := (er13 _ _ (by omega)).trans p6_3
  replace p6_4 : y13 (o + 105) = some (.inr (0, 7)) := (ey13 _ (by omega)).trans p6_4
  replace p6_5 : R13 (o + 102) 4 = some (o + 105) := (er13 _ _ (by omega)).trans p6_5
  replace p6_6 : y13 (o + 106) = some (.inr (0, 7)) := (ey13 _ (by omega)).trans p6_6
  replace p6_7 : R13 (o + 102) 7 = some (o + 106) := (er13 _ _ (by omega)).trans p6_7
  replace p6_8 : R13 (o + 102) 0 = some (o + 50) := (er13 _ _ (by omega)).trans p6_8
  replace vy7 : y13 (o + 107) = some (.inl 9) := (ey13 _ (by omega)).trans vy7
  replace vr7 : R13 o 6 = some (o + 107) := (er13 _ _ (by omega)).trans vr7
  replace p7_0 : ok9 y13 R13 (o + 107) := ok9_kept p7_0 (fun a h1 h2 => (ey13 a (by omega))) (fun j => (er13 _ _ (by omega)))
  replace vy8 : y13 (o + 112) = some (.inl 9) := (ey13 _ (by omega)).trans vy8
  replace vr8 : R13 o 7 = some (o + 112) := (er13 _ _ (by omega)).trans vr8
  replace p8_0 : ok9 y13 R13 (o + 112) := ok9_kept p8_0 (fun a h1 h2 => (ey13 a (by omega))) (fun j => (er13 _ _ (by omega)))
  replace vy9 : y13 (o + 117) = some (.inr (12, 2)) := (ey13 _ (by omega)).trans vy9
  replace vr9 : R13 o 9 = some (o + 117) := (er13 _ _ (by omega)).trans vr9
  replace rn9_0 : R13 (o + 117) 0 = none := (er13 _ _ (by omega)).trans rn9_0
  replace rn9_1 : R13 (o + 117) 1 = none := (er13 _ _ (by omega)).trans rn9_1
  replace vy10 : y13 (o + 118) = some (.inr (3, 2)) := (ey13 _ (by omega)).trans vy10
  replace vr10 : R13 o 10 = some (o + 118) := (er13 _ _ (by omega)).trans vr10
  replace rn10_0 : R13 (o + 118) 0 = none := (er13 _ _ (by omega)).trans rn10_0
  replace rn10_1 : R13 (o + 118) 1 = none := (er13 _ _ (by omega)).trans rn10_1
  replace vy11 : y13 (o + 119) = some (.inr (0, 400)) := (ey13 _ (by omega)).trans vy11
  replace vr11 : R13 o 11 = some (o + 119) := (er13 _ _ (by omega)).trans vr11
  replace vy12 : y13 (o + 120) = some (.inl 7) := (ey13 _ (by omega)).trans vy12
  replace vr12 : R13 o 13 = some (o + 120) := (er13 _ _ (by omega)).trans vr12
  replace p12_0 : R13 (o + 120) 0 = some (o + 119) := (er13 _ _ (by omega)).trans p12_0
  replace p12_1 : R13 (o + 120) 3 = some (o + 67) := (er13 _ _ (by omega)).trans p12_1
  replace Y0 : ∀ a, a ≤ o → y13 a = y a := fun a h => (ey13 a (by omega)).trans (Y0 a h)
  replace hyo : y13 o = some (.inl 10) := (ey13 o (by omega)).trans hyo
  replace G0 : ∀ a j, a < o → R13 a j = R a j := fun a j h => (er13 a j (by omega)).trans (G0 a j h)
  refine sm_in (sm_in (sm_in (And.intro hyo (?_))))
  show sm_W ex d 1 7 74 172 [some (.ref o)] [] (o + 122, y13, (sm_st (nI9 (o + 112) (nI9 (o + 107) (nI9s 5 (o + 73) (sm_st (nI9 (o + 54 + 4) (sm_st (nI9 (o + 1) I) (o + 6) 3 (-1))) (o + 54) 9 (-1))))) o 16 (-1)), L, R13) Q
  refine sm_in (sm_in (sm_in (And.intro (by decide) (And.intro (by decide) (And.intro (Nat.le_of_ble_eq_true rfl) (And.intro (Nat.le_of_ble_eq_true rfl) (sm_in (And.intro ((sm_up_ne (by omega)).trans hyo) (?_)))))))))
  show sm_W ex d 0 0 74 180 [some (.ref o)] [] (o + 123, sm_up y13 (o + 122) (some (.inr (0, 7))), (sm_st (nI9 (o + 112) (nI9 (o + 107) (nI9s 5 (o + 73) (sm_st (nI9 (o + 54 + 4) (sm_st (nI9 (o + 1) I) (o + 6) 3 (-1))) (o + 54) 9 (-1))))) o 16 (-1)), L, sm_st R13 o 17 (some (o + 122))) Q
  have ey15 : ∀ a, a < o + 122 → (sm_up y13 (o + 122) (some (.inr (0, 7)))) a = y13 a := fun a h => sm_up_ne (by omega)
  have vy15 : (sm_up y13 (o + 122) (some (.inr (0, 7)))) (o + 122) = some (.inr (0, 7)) := sm_up_s
  have er15 : ∀ a j, ¬ (a = o ∧ j = 17) → (sm_st R13 o 17 (some (o + 122))) a j = R13 a j := fun a j h => sm_st_or _ _ (by omega)
  have vr15 : (sm_st R13 o 17 (some (o + 122))) o 17 = some (o + 122) := sm_st_s _ _ _ _
  generalize sm_up y13 (o + 122) (some (.inr (0, 7))) = y15 at ey15 vy15 ⊢
  generalize sm_st R13 o 17 (some (o + 122)) = R15 at er15 vr15 ⊢
  replace vy1 : y15 (o + 1) = some (.inl 9) := (ey15 _ (by omega)).trans vy1
  replace vr1 : R15 o 0 = some (o + 1) := (er15 _ _ (by omega)).trans vr1
  replace p1_0 : ok9 y15 R15 (o + 1) := ok9_kept p1_0 (fun a h1 h2 => (ey15 a (by omega))) (fun j => (er15 _ _ (by omega)))
  replace vy2 : y15 (o + 6) = some (.inl 0) := (ey15 _ (by omega)).trans vy2
  replace vr2 : R15 o 1 = some (o + 6) := (er15 _ _ (by omega)).trans vr2
  replace p2_0 : ok0 y15 R15 (o + 6) := ok0_kept p2_0 (fun a h1 h2 => (ey15 a (by omega))) (fun a j h1 h2 => (er15 _ _ (by omega)))
  replace vy3 : y15 (o + 50) = some (.inl 5) := (ey15 _ (by omega)).trans vy3
  replace vr3 : R15 o 2 = some (o + 50) := (er15 _ _ (by omega)).trans vr3
  replace p3_0 : y15 (o + 51) = some (.inl 2) := (ey15 _ (by omega)).trans p3_0
  replace p3_1 : R15 (o + 50) 1 = some (o + 51) := (er15 _ _ (by omega)).trans p3_1
  replace p3_2 : ok2 y15 R15 (o + 51) := ok2_kept p3_2 (fun a h1 h2 => (ey15 a (by omega))) (fun j => (er15 _ _ (by omega)))
  replace p3_3 : R15 (o + 50) 0 = some (o + 6) := (er15 _ _ (by omega)).trans p3_3
  replace vy4 : y15 (o + 54) = some (.inl 1) := (ey15 _ (by omega)).trans vy4
  replace vr4 : R15 o 3 = some (o + 54) := (er15 _ _ (by omega)).trans vr4
  replace p4_0 : y15 (o + 55) = some (.inl 2) := (ey15 _ (by omega)).trans p4_0
  replace p4_1 : R15 (o + 54) 2 = some (o + 55) := (er15 _ _ (by omega)).trans p4_1
  replace p4_2 : ok2 y15 R15 (o + 55) := ok2_kept p4_2 (fun a h1 h2 => (ey15 a (by omega))) (fun j => (er15 _ _ (by omega)))
  replace p4_3 : y15 (o + 58) = some (.inl 9) := (ey15 _ (by omega)).trans p4_3
  replace p4_4 : R15 (o + 54) 3 = some (o + 58) := (er15 _ _ (by omega)).trans p4_4
  replace p4_5 : ok9 y15 R15 (o + 58) := ok9_kept p4_5 (fun a h1 h2 => (ey15 a (by omega))) (fun j => (er15 _ _ (by omega)))
  replace p4_6 : y15 (o + 63) = some (.inl 4) := (ey15 _ (by omega)).trans p4_6
  replace p4_7 : R15 (o + 54) 4 = some (o + 63) := (er15 _ _ (by omega)).trans p4_7
  replace p4_8 : ok4 y15 R15 (o + 63) := ok4_kept p4_8 (fun a h1 h2 => (ey15 a (by omega))) (fun j => (er15 _ _ (by omega)))
  replace p4_9 : y15 (o + 65) = some (.inl 4) := (ey15 _ (by omega)).trans p4_9
  replace p4_10 : R15 (o + 54) 5 = some (o + 65) := (er15 _ _ (by omega)).trans p4_10
  replace p4_11 : ok4 y15 R15 (o + 65) := ok4_kept p4_11 (fun a h1 h2 => (ey15 a (by omega))) (fun j => (er15 _ _ (by omega)))
  replace p4_12 : y15 (o + 67) = some (.inl 6) := (ey15 _ (by omega)).trans p4_12
  replace p4_13 : R15 (o + 54) 6 = some (o + 67) := (er15 _ _ (by omega)).trans p4_13
  replace p4_14 : ok6 y15 R15 (o + 67) 200 12 := ok6_kept p4_14 (fun a h1 h2 => (ey15 a (by omega))) (fun j => (er15 _ _ (by omega)))
  replace p4_15 : R15 (o + 54) 0 = some (o + 1) := (er15 _ _ (by omega)).trans p4_15
  replace p4_16 : R15 (o + 54) 1 = some (o + 50) := (er15 _ _ (by omega)).trans p4_16
  replace vy5 : y15 (o + 73) = some (.inl 8) := (ey15 _ (by omega)).trans vy5
  replace vr5 : R15 o 4 = some (o + 73) := (er15 _ _ (by omega)).trans vr5
  replace p5_0 : ok8 y15 R15 (o + 73) (o + 50) := ok8_kept p5_0 (fun a h1 h2 => (ey15 a (by omega))) (fun a j h1 h2 => (er15 _ _ (by omega)))
  replace vy6 : y15 (o + 102) = some (.inl 3) := (ey15 _ (by omega)).trans vy6
  replace vr6 : R15 o 5 = some (o + 102) := (er15 _ _ (by omega)).trans vr6
  replace p6_0 : y15 (o + 103) = some (.inr (0, 49)) := (ey15 _ (by omega)).trans p6_0
  replace p6_1 : R15 (o + 102) 1 = some (o + 103) := (er15 _ _ (by omega)).trans p6_1
  replace p6_2 : y15 (o + 104) = some (.inr (0, 7)) := (ey15 _ (by omega)).trans p6_2
  replace p6_3 : R15 (o + 102) 3 = some (o + 104) := (er15 _ _ (by omega)).trans p6_3
  replace p6_4 : y15 (o + 105) = some (.inr (0, 7)) := (ey15 _ (by omega)).trans p6_4
  replace p6_5 : R15 (o + 102) 4 = some (o + 105) := (er15 _ _ (by omega)).trans p6_5
  replace p6_6 : y15 (o + 106) = some (.inr (0, 7)) := (ey15 _ (by omega)).trans p6_6
  replace p6_7 : R15 (o + 102) 7 = some (o + 106) := (er15 _ _ (by omega)).trans p6_7
  replace p6_8 : R15 (o + 102) 0 = some (o + 50) := (er15 _ _ (by omega)).trans p6_8
  replace vy7 : y15 (o + 107) = some (.inl 9) := (ey15 _ (by omega)).trans vy7
  replace vr7 : R15 o 6 = some (o + 107) := (er15 _ _ (by omega)).trans vr7
  replace p7_0 : ok9 y15 R15 (o + 107) := ok9_kept p7_0 (fun a h1 h2 => (ey15 a (by omega))) (fun j => (er15 _ _ (by omega)))
  replace vy8 : y15 (o + 112) = some (.inl 9) := (ey15 _ (by omega)).trans vy8
  replace vr8 : R15 o 7 = some (o + 112) := (er15 _ _ (by omega)).trans vr8
  replace p8_0 : ok9 y15 R15 (o + 112) := ok9_kept p8_0 (fun a h1 h2 => (ey15 a (by omega))) (fun j => (er15 _ _ (by omega)))
  replace vy9 : y15 (o + 117) = some (.inr (12, 2)) := (ey15 _ (by omega)).trans vy9
  replace vr9 : R15 o 9 = some (o + 117) := (er15 _ _ (by omega)).trans vr9
  replace rn9_0 : R15 (o + 117) 0 = none := (er15 _ _ (by omega)).trans rn9_0
  replace rn9_1 : R15 (o + 117) 1 = none := (er15 _ _ (by omega)).trans rn9_1
  replace vy10 : y15 (o + 118) = some (.inr (3, 2)) := (ey15 _ (by omega)).trans vy10
  replace vr10 : R15 o 10 = some (o + 118) := (er15 _ _ (by omega)).trans vr10
  replace rn10_0 : R15 (o + 118) 0 = none := (er15 _ _ (by omega)).trans rn10_0
  replace rn10_1 : R15 (o + 118) 1 = none := (er15 _ _ (by omega)).trans rn10_1
  replace vy11 : y15 (o + 119) = some (.inr (0, 400)) := (ey15 _ (by omega)).trans vy11
  replace vr11 : R15 o 11 = some (o + 119) := (er15 _ _ (by omega)).trans vr11
  replace vy12 : y15 (o + 120) = some (.inl 7) := (ey15 _ (by omega)).trans vy12
  replace vr12 : R15 o 13 = some (o + 120) := (er15 _ _ (by omega)).trans vr12
  replace p12_0 : R15 (o + 120) 0 = some (o + 119) := (er15 _ _ (by omega)).trans p12_0
  replace p12_1 : R15 (o + 120) 3 = some (o + 67) := (er15 _ _ (by omega)).trans p12_1
  replace vy13 : y15 (o + 121) = some (.inr (1, 20)) := (ey15 _ (by omega)).trans vy13
  replace vr13 : R15 o 14 = some (o + 121) := (er15 _ _ (by omega)).trans vr13
  replace Y0 : ∀ a, a ≤ o → y15 a = y a := fun a h => (ey15 a (by omega)).trans (Y0 a h)
  replace hyo : y15 o = some (.inl 10) := (ey15 o (by omega)).trans hyo
  replace G0 : ∀ a j, a < o → R15 a j = R a j := fun a j h => (er15 a j (by omega)).trans (G0 a j h)
  exact sm_in (And.intro rfl (And.intro rfl (k _ _ ⟨Y0, G0⟩ vy1 vr1 p1_0 vy2 vr2 p2_0 vy3 vr3 p3_0 p3_1 p3_2 p3_3 vy4 vr4 p4_0 p4_1 p4_2 p4_3 p4_4 p4_5 p4_6 p4_7 p4_8 p4_9 p4_10 p4_11 p4_12 p4_13 p4_14 p4_15 p4_16 vy5 vr5 p5_0 vy6 vr6 p6_0 p6_1 p6_2 p6_3 p6_4 p6_5 p6_6 p6_7 p6_8 vy7 vr7 p7_0 vy8 vr8 p8_0 vy9 vr9 rn9_0 rn9_1 vy10 vr10 rn10_0 rn10_1 vy11 vr11 vy12 vr12 p12_0 p12_1 vy13 vr13 vy15 vr15)))

