-- THE GRAPH of cells behind the two constructors
def sm_yl0 : List (Nat ⊕ (Nat × Nat)) := [.inl 10, .inl 9, .inr (0, 7), .inr (0, 7), .inr (0, 7), .inr (0, 4), .inl 0, .inr (9, 6), .inl 6, .inr (0, 0), .inr (0, 0), .inr (0, 0), .inr (0, 0), .inr (0, 0), .inl 6, .inr (0, 200), .inr (0, 12), .inr (0, 12), .inr (0, 12), .inr (0, 12), .inl 6, .inr (0, 200), .inr (0, 12), .inr (0, 12), .inr (0, 12), .inr (0, 12), .inl 6, .inr (0, 200), .inr (0, 12), .inr (0, 12), .inr (0, 12), .inr (0, 12), .inl 6, .inr (0, 200), .inr (0, 12), .inr (0, 12), .inr (0, 12), .inr (0, 12), .inl 6, .inr (0, 200), .inr (0, 12), .inr (0, 12), .inr (0, 12), .inr (0, 12), .inl 6, .inr (0, 200), .inr (0, 12), .inr (0, 12), .inr (0, 12), .inr (0, 12), .inl 5, .inl 2, .inr (0, 13), .inr (0, 40), .inl 1, .inl 2, .inr (0, 13), .inr (0, 40), .inl 9, .inr (0, 7), .inr (0, 7), .inr (0, 7), .inr (0, 4), .inl 4, .inr (0, 192), .inl 4, .inr (0, 192), .inl 6, .inr (0, 200), .inr (0, 12), .inr (0, 12), .inr (0, 12), .inr (0, 12), .inl 8, .inr (12, 5), .inr (0, 5), .inr (0, 5), .inl 9, .inr (0, 7), .inr (0, 7), .inr (0, 7), .inr (0, 4), .inl 9, .inr (0, 7), .inr (0, 7), .inr (0, 7), .inr (0, 4), .inl 9, .inr (0, 7), .inr (0, 7), .inr (0, 7), .inr (0, 4), .inl 9, .inr (0, 7), .inr (0, 7), .inr (0, 7), .inr (0, 4), .inl 9, .inr (0, 7), .inr (0, 7), .inr (0, 7), .inr (0, 4), .inl 3, .inr (0, 49), .inr (0, 7), .inr (0, 7), .inr (0, 7), .inl 9, .inr (0, 7), .inr (0, 7), .inr (0, 7), .inr (0, 4), .inl 9, .inr (0, 7), .inr (0, 7), .inr (0, 7), .inr (0, 4), .inr (12, 2), .inr (3, 2), .inr (0, 400), .inl 7, .inr (1, 20), .inr (0, 7), .inl 11, .inr (0, 7), .inr (0, 5450), .inr (0, 10900), .inr (2, 2), .inr (0, 360), .inr (0, 16), .inr (0, 320), .inr (0, 16), .inr (0, 400), .inr (0, 96), .inr (0, 400), .inr (0, 400), .inr (0, 400), .inr (0, 400), .inr (1, 8), .inr (1, 7), .inr (1, 4), .inr (1, 13), .inr (1, 13), .inr (1, 400), .inr (0, 7), .inr (0, 120), .inr (0, 6), .inr (0, 6), .inr (0, 6), .inr (0, 49), .inr (0, 896), .inr (0, 7), .inr (1, 21), .inr (1, 4), .inr (0, 96), .inr (0, 20)]
def sm_y0 (o : Nat) : Option (Nat ⊕ (Nat × Nat)) := some (sm_nth (.inl 0) sm_yl0 o)
def sm_rl0 : List (List Nat) := [[1, 6, 50, 54, 73, 102, 107, 112, 1000, 117, 118, 119, 1000, 120, 121, 1000, 1000, 122], [2, 3, 4, 5], [], [], [], [], [7, 8], [14, 20, 26, 32, 38, 44], [9, 10, 11, 12, 13], [], [], [], [], [], [15, 16, 17, 18, 19], [], [], [], [], [], [21, 22, 23, 24, 25], [], [], [], [], [], [27, 28, 29, 30, 31], [], [], [], [], [], [33, 34, 35, 36, 37], [], [], [], [], [], [39, 40, 41, 42, 43], [], [], [], [], [], [45, 46, 47, 48, 49], [], [], [], [], [], [6, 51], [52, 53], [], [], [1, 50, 55, 58, 63, 65, 67], [56, 57], [], [], [59, 60, 61, 62], [], [], [], [], [64], [], [66], [], [68, 69, 70, 71, 72], [], [], [], [], [], [50, 74, 75, 76], [77, 82, 87, 92, 97], [], [], [78, 79, 80, 81], [], [], [], [], [83, 84, 85, 86], [], [], [], [], [88, 89, 90, 91], [], [], [], [], [93, 94, 95, 96], [], [], [], [], [98, 99, 100, 101], [], [], [], [], [50, 103, 1000, 104, 105, 1000, 1000, 106], [], [], [], [], [108, 109, 110, 111], [], [], [], [], [113, 114, 115, 116], [], [], [], [], [], [], [], [119], [], [], [1000, 1000, 124, 125, 126, 127, 128, 129, 1000, 130, 131, 1000, 132, 1000, 1000, 1000, 1000, 1000, 1000, 1000, 1000, 1000, 133, 1000, 134, 135, 1000, 136, 137, 1000, 1000, 138, 139, 140, 1000, 141, 142, 143, 1000, 1000, 1000, 144, 145, 146, 147, 148, 1000, 149, 150, 151, 152, 153, 154, 1000, 1000, 1000, 1000, 1000, 155], [], [], [], [], [], [], [], [], [], [], [], [], [], [], [], [], [], [], [], [], [], [], [], [], [], [], [], [], [], [], [], []]
def sm_r0 (o j : Nat) : Nat := sm_nth 1000 (sm_nth [] sm_rl0 o) j
/-- the cells that are there from the start, and the references among them that stay -/
def sm_G (y : sm_Y) (R : Nat → Nat → Option Nat) : Prop := (∀ o, o < 156 → y o = sm_y0 o) ∧ ∀ o j, Nat.ble 1000 (sm_r0 o j) = false → R o j = some (sm_r0 o j)
def ok9 (y : sm_Y) (R : Nat → Nat → Option Nat) (o : Nat) : Prop := y o = some (.inl 9) ∧ R o 0 = some (o + 1) ∧ R o 1 = some (o + 2) ∧ R o 2 = some (o + 3) ∧ R o 3 = some (o + 4) ∧ y (o + 1) = some (.inr (0, 7)) ∧ y (o + 2) = some (.inr (0, 7)) ∧ y (o + 3) = some (.inr (0, 7)) ∧ y (o + 4) = some (.inr (0, 4))
theorem ok9_y0 {y : sm_Y} {R : Nat → Nat → Option Nat} {o : Nat} (h : ok9 y R o) : y o = some (.inl 9) := h.1
theorem ok9_r0 {y : sm_Y} {R : Nat → Nat → Option Nat} {o : Nat} (h : ok9 y R o) : R o 0 = some (o + 1) := h.2.1
theorem ok9_r1 {y : sm_Y} {R : Nat → Nat → Option Nat} {o : Nat} (h : ok9 y R o) : R o 1 = some (o + 2) := h.2.2.1
theorem ok9_r2 {y : sm_Y} {R : Nat → Nat → Option Nat} {o : Nat} (h : ok9 y R o) : R o 2 = some (o + 3) := h.2.2.2.1
theorem ok9_r3 {y : sm_Y} {R : Nat → Nat → Option Nat} {o : Nat} (h : ok9 y R o) : R o 3 = some (o + 4) := h.2.2.2.2.1
theorem ok9_a1 {y : sm_Y} {R : Nat → Nat → Option Nat} {o : Nat} (h : ok9 y R o) : y (o + 1) = some (.inr (0, 7)) := h.2.2.2.2.2.1
theorem ok9_a2 {y : sm_Y} {R : Nat → Nat → Option Nat} {o : Nat} (h : ok9 y R o) : y (o + 2) = some (.inr (0, 7)) := h.2.2.2.2.2.2.1
theorem ok9_a3 {y : sm_Y} {R : Nat → Nat → Option Nat} {o : Nat} (h : ok9 y R o) : y (o + 3) = some (.inr (0, 7)) := h.2.2.2.2.2.2.2.1
theorem ok9_a4 {y : sm_Y} {R : Nat → Nat → Option Nat} {o : Nat} (h : ok9 y R o) : y (o + 4) = some (.inr (0, 4)) := h.2.2.2.2.2.2.2.2
def ok6 (y : sm_Y) (R : Nat → Nat → Option Nat) (o : Nat) (ns nc : Nat) : Prop := y o = some (.inl 6) ∧ R o 0 = some (o + 1) ∧ R o 1 = some (o + 2) ∧ R o 2 = some (o + 3) ∧ R o 3 = some (o + 4) ∧ R o 4 = some (o + 5) ∧ y (o + 1) = some (.inr (0, ns)) ∧ y (o + 2) = some (.inr (0, nc)) ∧ y (o + 3) = some (.inr (0, nc)) ∧ y (o + 4) = some (.inr (0, nc)) ∧ y (o + 5) = some (.inr (0, nc))
theorem ok6_y0 {y : sm_Y} {R : Nat → Nat → Option Nat} {o ns nc : Nat} (h : ok6 y R o ns nc) : y o = some (.inl 6) := h.1
theorem ok6_r0 {y : sm_Y} {R : Nat → Nat → Option Nat} {o ns nc : Nat} (h : ok6 y R o ns nc) : R o 0 = some (o + 1) := h.2.1
theorem ok6_r1 {y : sm_Y} {R : Nat → Nat → Option Nat} {o ns nc : Nat} (h : ok6 y R o ns nc) : R o 1 = some (o + 2) := h.2.2.1
theorem ok6_r2 {y : sm_Y} {R : Nat → Nat → Option Nat} {o ns nc : Nat} (h : ok6 y R o ns nc) : R o 2 = some (o + 3) := h.2.2.2.1
theorem ok6_r3 {y : sm_Y} {R : Nat → Nat → Option Nat} {o ns nc : Nat} (h : ok6 y R o ns nc) : R o 3 = some (o + 4) := h.2.2.2.2.1
theorem ok6_r4 {y : sm_Y} {R : Nat → Nat → Option Nat} {o ns nc : Nat} (h : ok6 y R o ns nc) : R o 4 = some (o + 5) := h.2.2.2.2.2.1
theorem ok6_a1 {y : sm_Y} {R : Nat → Nat → Option Nat} {o ns nc : Nat} (h : ok6 y R o ns nc) : y (o + 1) = some (.inr (0, ns)) := h.2.2.2.2.2.2.1
theorem ok6_a2 {y : sm_Y} {R : Nat → Nat → Option Nat} {o ns nc : Nat} (h : ok6 y R o ns nc) : y (o + 2) = some (.inr (0, nc)) := h.2.2.2.2.2.2.2.1
theorem ok6_a3 {y : sm_Y} {R : Nat → Nat → Option Nat} {o ns nc : Nat} (h : ok6 y R o ns nc) : y (o + 3) = some (.inr (0, nc)) := h.2.2.2.2.2.2.2.2.1
theorem ok6_a4 {y : sm_Y} {R : Nat → Nat → Option Nat} {o ns nc : Nat} (h : ok6 y R o ns nc) : y (o + 4) = some (.inr (0, nc)) := h.2.2.2.2.2.2.2.2.2.1
theorem ok6_a5 {y : sm_Y} {R : Nat → Nat → Option Nat} {o ns nc : Nat} (h : ok6 y R o ns nc) : y (o + 5) = some (.inr (0, nc)) := h.2.2.2.2.2.2.2.2.2.2
def ok2 (y : sm_Y) (R : Nat → Nat → Option Nat) (o : Nat) : Prop := y o = some (.inl 2) ∧ R o 0 = some (o + 1) ∧ R o 1 = some (o + 2) ∧ y (o + 1) = some (.inr (0, 13)) ∧ y (o + 2) = some (.inr (0, 40))
theorem ok2_y0 {y : sm_Y} {R : Nat → Nat → Option Nat} {o : Nat} (h : ok2 y R o) : y o = some (.inl 2) := h.1
theorem ok2_r0 {y : sm_Y} {R : Nat → Nat → Option Nat} {o : Nat} (h : ok2 y R o) : R o 0 = some (o + 1) := h.2.1
theorem ok2_r1 {y : sm_Y} {R : Nat → Nat → Option Nat} {o : Nat} (h : ok2 y R o) : R o 1 = some (o + 2) := h.2.2.1
theorem ok2_a1 {y : sm_Y} {R : Nat → Nat → Option Nat} {o : Nat} (h : ok2 y R o) : y (o + 1) = some (.inr (0, 13)) := h.2.2.2.1
theorem ok2_a2 {y : sm_Y} {R : Nat → Nat → Option Nat} {o : Nat} (h : ok2 y R o) : y (o + 2) = some (.inr (0, 40)) := h.2.2.2.2
def ok4 (y : sm_Y) (R : Nat → Nat → Option Nat) (o : Nat) : Prop := y o = some (.inl 4) ∧ R o 0 = some (o + 1) ∧ y (o + 1) = some (.inr (0, 192))
theorem ok4_y0 {y : sm_Y} {R : Nat → Nat → Option Nat} {o : Nat} (h : ok4 y R o) : y o = some (.inl 4) := h.1
theorem ok4_r0 {y : sm_Y} {R : Nat → Nat → Option Nat} {o : Nat} (h : ok4 y R o) : R o 0 = some (o + 1) := h.2.1
theorem ok4_a1 {y : sm_Y} {R : Nat → Nat → Option Nat} {o : Nat} (h : ok4 y R o) : y (o + 1) = some (.inr (0, 192)) := h.2.2
def ok0 (y : sm_Y) (R : Nat → Nat → Option Nat) (o : Nat) : Prop := y o = some (.inl 0) ∧ R o 0 = some (o + 1) ∧ R o 1 = some (o + 2) ∧ y (o + 1) = some (.inr (9, 6)) ∧ ok6 y R (o + 2) 0 0 ∧ (∀ i, i < 6 → R (o + 1) i = some (o + (8 + 6 * i)) ∧ ok6 y R (o + (8 + 6 * i)) 200 12)
theorem ok0_y0 {y : sm_Y} {R : Nat → Nat → Option Nat} {o : Nat} (h : ok0 y R o) : y o = some (.inl 0) := h.1
theorem ok0_r0 {y : sm_Y} {R : Nat → Nat → Option Nat} {o : Nat} (h : ok0 y R o) : R o 0 = some (o + 1) := h.2.1
theorem ok0_r1 {y : sm_Y} {R : Nat → Nat → Option Nat} {o : Nat} (h : ok0 y R o) : R o 1 = some (o + 2) := h.2.2.1
theorem ok0_a1 {y : sm_Y} {R : Nat → Nat → Option Nat} {o : Nat} (h : ok0 y R o) : y (o + 1) = some (.inr (9, 6)) := h.2.2.2.1
theorem ok0_w {y : sm_Y} {R : Nat → Nat → Option Nat} {o : Nat} (h : ok0 y R o) : ok6 y R (o + 2) 0 0 := h.2.2.2.2.1
theorem ok0_l {y : sm_Y} {R : Nat → Nat → Option Nat} {o : Nat} (h : ok0 y R o) : (∀ i, i < 6 → R (o + 1) i = some (o + (8 + 6 * i)) ∧ ok6 y R (o + (8 + 6 * i)) 200 12) := h.2.2.2.2.2
theorem sm_rrs {r : Option Nat} {q : Nat} {f : Value → Prop} (h : r = some q) (k : f (.ref q)) : sm_rr r f := ⟨fun h0 => absurd (h.symm.trans h0) (by simp), fun q' hq => (Option.some.inj (h.symm.trans hq)) ▸ k⟩
theorem sm_gfr {kd o b q : Nat} {μ : sm_Mem} {f : Value → Prop} (hk : kd = 2) (h : μ.2.2.2.2 o b = some q) (k : f (.ref q)) : sm_gf kd o b μ f := by
  subst hk
  exact sm_rrs h k
theorem sm_calln {X : sm_X} {d d1 k pc k2 ml : Nat} {l : List (Option Value)} {μ : sm_Mem} {Q : sm_Q} {as rest : List Value} (h1 : d1 < d) (h8 : sm_ct rest ≤ 8) (has : sm_ct as ≤ ml) (hX : X d1 0 0 k2 0 (sm_en as ml) [] μ (fun r μ1 => X d 0 0 k (pc + 3) l (r.toList ++ rest) μ1 Q)) : sm_callN X d 0 0 k pc l μ Q k2 ml as rest := ⟨d1, 0, 0, _, h1, Nat.le_refl 0, Nat.le_refl 0, h8, has, hX, fun _ _ h => h⟩
/-- a call, from its start -/
abbrev sm_C (ex : sm_O) (d k : Nat) (as : List Value) (μ : sm_Mem) (Q : sm_Q) : Prop := sm_W ex d 0 0 k 0 (sm_en as (sm_ml k)) [] μ Q
theorem sm_tc {i : Nat} : True := trivial
theorem sm_lin {i : Int32} {n : Nat} (h : decide (¬ (i < 0 ∨ n ≤ i.toNatClampNeg)) = true) : vp_in i n := by
  have := of_decide_eq_true h
  exact this
theorem sm_lt_in {i : Int32} {n : Nat} (h : vp_in i n) : i.toNatClampNeg < n := Nat.not_le.mp fun q => h (Or.inr q)
theorem sm_G74 {y : sm_Y} {R : Nat → Nat → Option Nat} {i : Int32} (hG : sm_G y R) (h : vp_in i 5) : R 74 i.toNatClampNeg = some (77 + 5 * i.toNatClampNeg) := by
  have hl := sm_lt_in h
  generalize i.toNatClampNeg = j at hl ⊢
  match j, hl with
  | 0, _ => exact hG.2 74 0 rfl
  | 1, _ => exact hG.2 74 1 rfl
  | 2, _ => exact hG.2 74 2 rfl
  | 3, _ => exact hG.2 74 3 rfl
  | 4, _ => exact hG.2 74 4 rfl
theorem sm_G7 {y : sm_Y} {R : Nat → Nat → Option Nat} {i : Int32} (hG : sm_G y R) (h : vp_in i 6) : R 7 i.toNatClampNeg = some (14 + 6 * i.toNatClampNeg) := by
  have hl := sm_lt_in h
  generalize i.toNatClampNeg = j at hl ⊢
  match j, hl with
  | 0, _ => exact hG.2 7 0 rfl
  | 1, _ => exact hG.2 7 1 rfl
  | 2, _ => exact hG.2 7 2 rfl
  | 3, _ => exact hG.2 7 3 rfl
  | 4, _ => exact hG.2 7 4 rfl
  | 5, _ => exact hG.2 7 5 rfl
