-- THE LAW: its loop
def nNone (g : GG) : Nat := (if (gI g 0).isSome = true then 0 else 1) + (if (gI g 1).isSome = true then 0 else 1)
theorem nNone_image (g : GG) (a : Int32) : nimg g a + nNone (f_image g a).2 = nNone g := by
  unfold nimg f_image
  by_cases h : 0 ≤ a ∧ a < 2
  · rw [if_pos h, if_pos h]
    obtain ⟨x, hx, rfl⟩ := nI_of (Int32.not_lt.mpr h.1)
    have hx2 : x < 2 := (nI_ltI (b := 2) hx (by decide)).mp h.2
    rw [nI_clamp hx]
    have : x = 0 ∨ x = 1 := by omega
    rcases this with rfl | rfl
    · show (match gI g 0 with
        | none => 1
        | some _ => 0) + ((if (if (0 : Nat) = 0 then some (gK g) else gI g 0).isSome = true then 0 else 1) + (if (if (1 : Nat) = 0 then some (gK g) else gI g 1).isSome = true then 0 else 1)) = nNone g
      unfold nNone
      cases gI g 0 <;> simp <;> omega
    · show (match gI g 1 with
        | none => 1
        | some _ => 0) + ((if (if (0 : Nat) = 1 then some (gK g) else gI g 0).isSome = true then 0 else 1) + (if (if (1 : Nat) = 1 then some (gK g) else gI g 1).isSome = true then 0 else 1)) = nNone g
      unfold nNone
      cases gI g 1 with
      | none => simp; exact Nat.add_comm _ _
      | some z => simp
  · rw [if_neg h, if_neg h]
    exact Nat.zero_add _
/-- what a case of the law gives -/
def lwOK (ex : sm_O) (S : Nat) : Prop := ∀ {d bc bs n : Nat} {y : sm_Y} {I : Nat → Nat → Int32} {L : Nat → Nat → Int64} {R : Nat → Nat → Option Nat} {Q : sm_Q} {x0 i : Nat} {g : GG} (hd : 60 ≤ d) (hE : exOK ex) (hx0 : x0 < 2) (hi : i + 6 ≤ (ex.1 x0).1) (hl : (ex.1 x0).1 ≤ 100000) (hw : Wf g) (hc : CI g n y I R) (hm : MI g I L), (∀ (g' : GG) (I' : Nat → Nat → Int32) (L' : Nat → Nat → Int64) (R' : Nat → Nat → Option Nat), Wf g' → gI g' = gI g → CI g' n y I' R' → MI g' I' L' → sm_W ex d bc bs 241 18 [some (.retAddr x0), some (.ref 0), some (.ref 123), some (.int (nI (i + 6)))] [] (n, y, I', L', R') Q) → sm_W ex d bc bs 241 S [some (.retAddr x0), some (.ref 0), some (.ref 123), some (.int (nI i))] [] (n, y, I, L, R) Q
theorem lw_brk : ∀ len, len < 6 → nI len - 6 < 0 := by decide
set_option maxRecDepth 100000 in
set_option maxHeartbeats 2000000 in
theorem law_loop {ex : sm_O} {d x0 : Nat} {Q : sm_Q} (hd : 60 ≤ d) (hE : exOK ex) (hx0 : x0 < 2) (hl : (ex.1 x0).1 ≤ 100000) (h_law : lwOK ex 454) (h_orders : lwOK ex 467) (hQ : ∀ μ, Q (some (.int 1)) μ) : ∀ (q i bc bs n : Nat) (y : sm_Y) (I : Nat → Nat → Int32) (L : Nat → Nat → Int64) (R : Nat → Nat → Option Nat) (g : GG), (ex.1 x0).1 ≤ i + q → i ≤ 200000 → Wf g → CI g n y I R → MI g I L → 49 * nNone g ≤ bc → 1583 * nNone g ≤ bs → sm_W ex d bc bs 241 18 [some (.retAddr x0), some (.ref 0), some (.ref 123), some (.int (nI i))] [] (n, y, I, L, R) Q := by
  have ext : ∀ (i bc bs n : Nat) (y : sm_Y) (I : Nat → Nat → Int32) (L : Nat → Nat → Int64) (R : Nat → Nat → Option Nat), (i + 6 ≤ (ex.1 x0).1 → sm_W ex d bc bs 241 27 [some (.retAddr x0), some (.ref 0), some (.ref 123), some (.int (nI i))] [] (n, y, I, L, R) Q) → i ≤ 200000 → sm_W ex d bc bs 241 18 [some (.retAddr x0), some (.ref 0), some (.ref 123), some (.int (nI i))] [] (n, y, I, L, R) Q := by
    intro i bc bs n y I L R k hi2
    refine sm_in (sm_in (sm_in (And.intro hx0 (sm_in (sm_in (sm_in (And.intro (fun _ => sm_in (sm_in (And.intro (Or.inr rfl) (hQ _)))) (fun hn => k ?_))))))))
    by_cases h6 : (ex.1 x0).1 < 6
    · exact absurd (Int32.lt_of_lt_of_le (lw_brk _ h6) (nI_pos' (by omega))) hn
    · by_cases e : i + 6 ≤ (ex.1 x0).1
      · exact e
      · refine absurd ?_ hn
        show nI (ex.1 x0).1 - 6 < nI i
        rw [sm_of 6, pk_sub (by omega), nI_ltI (by omega) (by omega)]
        omega
  intro q
  induction q with
  | zero =>
    intro i bc bs n y I L R g hq hi2 hw hc hm hbc hbs
    exact ext i bc bs n y I L R (fun h => absurd h (by omega)) hi2
  | succ q ih =>
    intro i bc bs n y I L R g hq hi2 hw hc hm hbc hbs
    refine ext i bc bs n y I L R (fun hi => ?_) hi2
    have hd3 : 30 ≤ d := by omega
    have nxR : ∀ (g' : GG) (I' : Nat → Nat → Int32) (L' : Nat → Nat → Int64) (R' : Nat → Nat → Option Nat), Wf g' → gI g' = gI g → CI g' n y I' R' → MI g' I' L' → sm_W ex d bc bs 241 18 [some (.retAddr x0), some (.ref 0), some (.ref 123), some (.int (nI (i + 6)))] [] (n, y, I', L', R') Q := fun g' I' L' R' hw' hg' hc' hm' => ih (i + 6) bc bs n y I' L' R' g' (by omega) (by omega) hw' hc' hm' (by unfold nNone at hbc ⊢; rw [hg']; exact hbc) (by unfold nNone at hbs ⊢; rw [hg']; exact hbs)
    have nx : ∀ (g' : GG) (I' : Nat → Nat → Int32) (L' : Nat → Nat → Int64), Wf g' → gI g' = gI g → CI g' n y I' R → MI g' I' L' → sm_W ex d bc bs 241 18 [some (.retAddr x0), some (.ref 0), some (.ref 123), some (.int (nI (i + 6)))] [] (n, y, I', L', R) Q := fun g' I' L' hw' hg' hc' hm' => nxR g' I' L' R hw' hg' hc' hm'
    have img : sm_W ex d bc bs 241 1093 [some (.retAddr x0), some (.ref 0), some (.ref 123), some (.int (nI i))] [] (n, y, I, L, R) Q := by
      have hnn := nNone_image g ((ex.1 x0).2 (nI i + 1).toNatClampNeg)
      refine lw_image hd3 hE hx0 hi hl hw hc hm (by omega) (by omega) ?_
      intro n' y' I' L' R' hw' hc' hm'
      exact ih (i + 6) _ _ n' y' I' L' R' _ (by omega) (by omega) hw' hc' hm' (by omega) (by omega)
    have hdef : sm_W ex d bc bs 241 1175 [some (.retAddr x0), some (.ref 0), some (.ref 123), some (.int (nI i))] [] (n, y, I, L, R) Q := by
      have hfin := nx g I L hw rfl hc hm
      rw [← nI_add i 6] at hfin
      exact sm_in (And.intro (Nat.le_of_ble_eq_true rfl) (sm_in hfin))
    have hvp : vp_in (nI i) (ex.1 x0).1 := vp_in_nI (by omega) (by omega)
    exact sm_in (sm_in (sm_in (And.intro hx0 (And.intro hvp (sm_in (sm_in (sm_in (And.intro (fun _ => hdef) (fun j off ho hj => match j, ho, hj with
        | 0, ho, hj => by cases ho; exact lw_man hd3 hE hx0 hi hl hw hc hm nx
        | 1, ho, hj => by cases ho; exact lw_of hd3 hE hx0 hi hl hw hc hm nx
        | 2, ho, hj => by cases ho; exact lw_two hd3 hE hx0 hi hl hw hc hm nx
        | 3, ho, hj => by cases ho; exact lw_terms hd3 hE hx0 hi hl hw hc hm nx
        | 4, ho, hj => by cases ho; exact lw_feed hd3 hE hx0 hi hl hw hc hm nx
        | 5, ho, hj => by cases ho; exact lw_end hd3 hE hx0 hi hl hw hc hm nx
        | 6, ho, hj => by cases ho; exact lw_row hd3 hE hx0 hi hl hw hc hm nx
        | 7, ho, hj => by cases ho; exact lw_pigeons hd3 hE hx0 hi hl hw hc hm nx
        | 8, ho, hj => by cases ho; exact h_law hd hE hx0 hi hl hw hc hm nxR
        | 9, ho, hj => by cases ho; exact h_orders hd hE hx0 hi hl hw hc hm nxR
        | 10, ho, hj => by cases ho; exact lw_fault hd3 hE hx0 hi hl hw hc hm nx
        | 11, ho, hj => by cases ho; exact lw_stopped hd3 hE hx0 hi hl hw hc hm nx
        | 12, ho, hj => by cases ho; exact lw_force hd3 hE hx0 hi hl hw hc hm nx
        | 13, ho, hj => by cases ho; exact lw_relieve hd3 hE hx0 hi hl hw hc hm nx
        | 14, ho, hj => by cases ho; exact lw_sneeze hd3 hE hx0 hi hl hw hc hm nx
        | 15, ho, hj => by cases ho; exact lw_pardon hd3 hE hx0 hi hl hw hc hm nx
        | 16, ho, hj => by cases ho; exact lw_pass hd3 hE hx0 hi hl hw hc hm nx
        | 17, ho, hj => by cases ho; exact lw_undo hd3 hE hx0 hi hl hw hc hm nx
        | 18, ho, hj => by cases ho; exact lw_holds hd3 hE hx0 hi hl hw hc hm nx
        | 19, ho, hj => by cases ho; exact lw_later hd3 hE hx0 hi hl hw hc hm nx
        | 20, ho, hj => by cases ho; exact lw_moment hd3 hE hx0 hi hl hw hc hm nx
        | 21, ho, hj => by cases ho; exact lw_rota hd3 hE hx0 hi hl hw hc hm nx
        | 22, ho, hj => by cases ho; exact lw_order hd3 hE hx0 hi hl hw hc hm nx
        | 23, ho, hj => by cases ho; exact lw_chain hd3 hE hx0 hi hl hw hc hm nx
        | 24, ho, hj => by cases ho; exact lw_groups hd3 hE hx0 hi hl hw hc hm nx
        | 25, ho, hj => by cases ho; exact lw_likest hd3 hE hx0 hi hl hw hc hm nx
        | 26, ho, hj => by cases ho; exact lw_plate hd3 hE hx0 hi hl hw hc hm nx
        | 27, ho, hj => by cases ho; exact lw_forget hd3 hE hx0 hi hl hw hc hm nx
        | 28, ho, hj => by cases ho; exact lw_canBe hd3 hE hx0 hi hl hw hc hm nx
        | 29, ho, hj => by cases ho; exact lw_take hd3 hE hx0 hi hl hw hc hm nx
        | 30, ho, hj => by cases ho; exact lw_few hd3 hE hx0 hi hl hw hc hm nx
        | 31, ho, hj => by cases ho; exact lw_compare hd3 hE hx0 hi hl hw hc hm nx
        | 32, ho, hj => by cases ho; exact lw_years hd3 hE hx0 hi hl hw hc hm nx
        | 33, ho, hj => by cases ho; exact lw_drawn hd3 hE hx0 hi hl hw hc hm nx
        | 34, ho, hj => by cases ho; exact img
        | 35, ho, hj => by cases ho; exact lw_back hd3 hE hx0 hi hl hw hc hm nx
        | 36, ho, hj => by cases ho; exact lw_count hd3 hE hx0 hi hl hw hc hm nx
        | 37, ho, hj => by cases ho; exact lw_status hd3 hE hx0 hi hl hw hc hm nx
        | j + 38, ho, _ => by cases ho
        )))))))))

