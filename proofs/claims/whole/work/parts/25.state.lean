-- THE WHOLE STATE IN WORDS
/-- laws, which is in force -/
abbrev Bk : Type := List Law × Option Nat
/-- what an image keeps: men and terms, plates (feature, whether he has it), laws -/
abbrev Sn : Type := St × List (Nat × Nat) × Bk
/-- what is kept; the undo; what was drawn; the images; the tape; pigeons, fault, stopped, status, refusals -/
abbrev GG : Type := Sn × List (Nat × St) × Option St × (Nat → Option Sn) × (Nat × (Nat → Nat)) × (Int32 × Int32 × Int32 × Int32 × (Nat → Int32))
abbrev gK (g : GG) : Sn := g.1
abbrev gS (g : GG) : St := g.1.1
abbrev gP (g : GG) : List (Nat × Nat) := g.1.2.1
abbrev gB (g : GG) : Bk := g.1.2.2
abbrev gU (g : GG) : List (Nat × St) := g.2.1
abbrev gD (g : GG) : Option St := g.2.2.1
abbrev gI (g : GG) : Nat → Option Sn := g.2.2.2.1
abbrev gT (g : GG) : Nat × (Nat → Nat) := g.2.2.2.2.1
abbrev gN (g : GG) : Int32 × Int32 × Int32 × Int32 × (Nat → Int32) := g.2.2.2.2.2
def bF (b : Bk) : Option (Nat × Law) := match b.2 with
  | none => none
  | some j => match b.1[j]? with
    | none => none
    | some l => some (j, l)
/-- who is up is fit -/
def sp_uf (s : St) : Prop := ∀ u, sUp s = some u → sCash s u = false
def wS (s : St) : Prop := sp_ok s ∧ sTerm s 0 ≤ 999 ∧ sp_uf s
def wK (k : Sn) : Prop := wS k.1 ∧ (k.2.1.length ≤ 6 ∧ ∀ x ∈ k.2.1, x.1 < 6 ∧ x.2 ≤ 1) ∧ k.2.2.1.length ≤ 6 ∧ ∀ j, k.2.2.2 = some j → j < k.2.2.1.length
/-- men, holds, looks and three of the terms are the same -/
def sp_same (s s' : St) : Prop := sMen s' = sMen s ∧ sHold s' = sHold s ∧ sLook s' = sLook s ∧ ∀ j, 1 ≤ j → sTerm s' j = sTerm s j
def wU (s : St) (u : List (Nat × St)) : Prop := u.length ≤ 16 ∧ ∀ x ∈ u, x.1 ≤ 3 ∧ wS x.2 ∧ sp_same s x.2
def Wf (g : GG) : Prop := wK (gK g) ∧ wU (gS g) (gU g) ∧ (∀ d, gD g = some d → sp_ok d) ∧ (∀ k x, gI g k = some x → wK x) ∧ (gT g).1 ≤ 400 ∧ ∀ j, (gT g).2 j < 256
-- plates
def sp_pb (pl : List (Nat × Nat)) (b : Nat) : Nat := sp_bits (fun f => decide ((f, b) ∈ pl)) 6
def cP (pl : List (Nat × Nat)) (o : Nat) (I : Nat → Nat → Int32) : Prop := I o 8 = nI pl.length ∧ I o 9 = nI (sp_pb pl 1) ∧ I o 10 = nI (sp_pb pl 0)
def mP (pl : List (Nat × Nat)) (r : Nat → Int32) : Prop := r 1 = nI pl.length ∧ ∀ (k : Nat) (x : Nat × Nat), pl[k]? = some x → r (38 + 2 * k) = nI x.1 ∧ r (38 + 2 * k + 1) = nI x.2
def fI (f : Option Nat) : Int32 := sp_up f
-- laws
def cB (b : Bk) (q : Nat) (I : Nat → Nat → Int32) : Prop := I q 2 = nI b.1.length ∧ I q 3 = fI b.2 ∧ cLaw I (q + 2) [] ∧ ∀ (i : Nat) (l : Law), b.1[i]? = some l → cLaw I (q + (8 + 6 * i)) l
def mB (b : Bk) (r : Nat → Int32) : Prop := r 2 = nI b.1.length ∧ r 3 = fI b.2 ∧ ∀ (i : Nat) (l : Law), b.1[i]? = some l → mLaw (fun _ => r) (50 + 900 * i) l
-- the undo: a row of it
def cSn (s : St) (g : Nat → Int32) : Prop := g 1 = sp_up (sUp s) ∧ g 2 = nI (sHeld s) ∧ g 3 = nI (sp_bits (sCash s) (sMen s)) ∧ g 4 = nI (sTerm s 0) ∧ ∀ i, i < sMen s → g (5 + i) = nI (sTired s i)
def mSn (s : St) (g : Nat → Int32) : Prop := (∀ j, j < 4 → g j = nI (sTerm s j)) ∧ g 4 = sp_up (sUp s) ∧ g 5 = nI (sHeld s) ∧ ∀ i, i < sMen s → g (6 + i) = nI (sTired s i) ∧ g (13 + i) = if sCash s i then 1 else 0
def cU (u : List (Nat × St)) (o : Nat) (I : Nat → Nat → Int32) : Prop := I o 1 = nI u.length ∧ ∀ (i : Nat) (x : Nat × St), u[i]? = some x → I (o + 1) (12 * i) = nI x.1 ∧ cSn x.2 (fun j => I (o + 1) (12 * i + j))
def mU (u : List (Nat × St)) (I : Nat → Nat → Int32) : Prop := I 123 8 = nI u.length ∧ ∀ (i : Nat) (x : Nat × St), u[i]? = some x → I 129 i = nI x.1 ∧ mSn x.2 (fun j => I 128 (20 * i + j))
-- the tape
def cT (t : Nat × (Nat → Nat)) (I : Nat → Nat → Int32) : Prop := I 0 12 = nI t.1 ∧ ∀ j, j < t.1 → I 119 j = nI (t.2 j)
def mT (t : Nat × (Nat → Nat)) (I : Nat → Nat → Int32) : Prop := I 123 13 = nI t.1 ∧ ∀ j, j < t.1 → I 132 j = nI (t.2 j)
-- numbers
def cN (x : Int32 × Int32 × Int32 × Int32 × (Nat → Int32)) (I : Nat → Nat → Int32) : Prop := I 0 15 = x.1 ∧ I 0 16 = x.2.1 ∧ I 54 9 = x.2.2.1 ∧ I 0 18 = x.2.2.2.1 ∧ ∀ j, j < 7 → I 122 j = x.2.2.2.2 j
def mN (x : Int32 × Int32 × Int32 × Int32 × (Nat → Int32)) (I : Nat → Nat → Int32) : Prop := I 123 11 = x.1 ∧ I 123 18 = x.2.1 ∧ I 123 55 = x.2.2.1 ∧ I 123 1 = x.2.2.2.1 ∧ I 123 20 = 0 ∧ ∀ j, j < 7 → I 124 j = x.2.2.2.2 j
-- what was drawn
def cDr (d : Option St) (I : Nat → Nat → Int32) : Prop := match d with
  | none => I 0 8 = 0
  | some d => I 0 8 = 1 ∧ cS d 112 I
def mDr (d : Option St) (I : Nat → Nat → Int32) : Prop := match d with
  | none => I 123 59 = -1
  | some d => I 123 59 = nI (sMen d) ∧ mSn d (I 155)
-- images
def cIm (im : Nat → Option Sn) (n : Nat) (y : sm_Y) (I : Nat → Nat → Int32) (R : Nat → Nat → Option Nat) : Prop := ∃ (o q : Nat → Nat), (∀ k, k < 2 → match im k with
    | none => R 117 k = none ∧ R 118 k = none
    | some x => R 117 k = some (o k) ∧ R 118 k = some (q k) ∧ ok9 y R (o k) ∧ ok0 y R (q k) ∧ 156 ≤ o k ∧ o k + 4 < q k ∧ q k + 43 < n ∧ cS x.1 (o k) I ∧ cP x.2.1 (o k) I ∧ cB x.2.2 (q k) I) ∧ ((im 0).isSome = true → (im 1).isSome = true → q 0 + 43 < o 1 ∨ q 1 + 43 < o 0)
def mIm (im : Nat → Option Sn) (I : Nat → Nat → Int32) : Prop := ∀ k, k < 2 → match im k with
    | none => I 127 k = 0
    | some x => I 127 k = 1 ∧ mS x.1 (fun j => I 126 (5450 * k + j)) ∧ mP x.2.1 (fun j => I 126 (5450 * k + j)) ∧ mB x.2.2 (fun j => I 126 (5450 * k + j))
-- the searches
abbrev Bst : Type := Option (Nat × List Nat)
def sp_bst (b : Bst) : Nat := match b with
  | none => 1000000
  | some x => x.1
def sp_mv (s : St) (m : Nat) : St := if sUp s = some m then s else sp_relieve s m
def sp_mo (F : Option (Nat × Law)) (s : St) (m : Nat) : Nat := if sUp s = some m then 0 else sp_notice F s m (sUp s)
def sp_ad (F : Option (Nat × Law)) (s : St) (m : Nat) : Bool := decide (sUp s = some m) || (decide (sUp s ≠ some m) && !sCash s m && decide (sTired s m < sHold s m) && !sp_bars F s m)
/-- rotas: hours left, state, eyes so far, who so far, the best so far -/
def sp_search (F : Option (Nat × Law)) : Nat → St → Nat → List Nat → Bst → Bst
  | 0, _, e, row, _ => some (e, row)
  | h + 1, s, e, row, b => (List.range (sMen s)).foldl (fun b m => if sp_ad F s m = true ∧ e + sp_mo F s m < sp_bst b ∧ (sp_hour F (sp_mv s m)).2 = 0 then sp_search F h (sp_hour F (sp_mv s m)).1 (e + sp_mo F s m) (row ++ [m]) b else b) b
def sp_ey (F : Option (Nat × Law)) (s : St) (a b : Nat) : Nat := if a = b then 0 else sp_notice F s b (some a)
/-- orders of all men: places left, who stands ahead, who is gone, eyes so far, who so far, the best so far -/
def sp_place (ey : Nat → Nat → Nat) (men : Nat) (up : Option Nat) : Nat → Option Nat → (Nat → Bool) → Nat → List Nat → Bst → Bst
  | 0, _, _, e, row, _ => some (e, row)
  | k + 1, pv, gone, e, row, b => (List.range men).foldl (fun b m => if (pv = none → up = none ∨ up = some m) ∧ gone m = false ∧ e + (match pv with | none => 0 | some p => ey p m) < sp_bst b then sp_place ey men up k (some m) (sm_up gone m true) (e + (match pv with | none => 0 | some p => ey p m)) (row ++ [m]) b else b) b
def sp_rota (F : Option (Nat × Law)) (s : St) (h : Nat) : Bst := sp_search F h s 0 [] none
def sp_arr (F : Option (Nat × Law)) (s : St) : Bst := sp_place (sp_ey F s) (sMen s) (sUp s) (sp_fit s) none (sCash s) 0 [] none
def rowI (o : Nat) (I : Nat → Nat → Int32) (row : List Nat) : Prop := ∀ (i x : Nat), row[i]? = some x → I o i = nI x
def cCa (F : Option (Nat × Law)) (s : St) (I : Nat → Nat → Int32) : Prop :=
  (∃ h, I 73 6 = nI h ∧ h ≤ 5 ∧ (0 < h → match sp_rota F s h with
    | none => I 73 5 = 0
    | some x => I 73 5 = 1 ∧ I 73 4 = nI x.1 ∧ rowI 76 I x.2)) ∧
  (I 102 2 = 0 ∨ I 102 2 = 1) ∧ (I 102 2 ≠ 0 → ∀ a b, a < sMen s → b < sMen s → I 103 (7 * a + b) = nI (sp_ey F s a b)) ∧
  (I 102 6 = 0 ∨ I 102 6 = 1) ∧ (I 102 6 ≠ 0 → match sp_arr F s with
    | none => I 102 5 = 1000000
    | some x => I 102 5 = nI x.1 ∧ rowI 105 I x.2)
/-- the class bears g -/
def CI (g : GG) (n : Nat) (y : sm_Y) (I : Nat → Nat → Int32) (R : Nat → Nat → Option Nat) : Prop := 156 ≤ n ∧ sm_G y R ∧ cS (gS g) 1 I ∧ cP (gP g) 1 I ∧ cB (gB g) 6 I ∧ cU (gU g) 65 I ∧ cT (gT g) I ∧ cN (gN g) I ∧ cDr (gD g) I ∧ cIm (gI g) n y I R ∧ cCa (bF (gB g)) (gS g) I
/-- the words that the model reads by, in its arrays of longs -/
def mWs (L : Nat → Nat → Int64) : Prop := (L 138 0 = 13358 ∧ L 138 1 = 277892 ∧ L 138 2 = 21285028 ∧ L 138 3 = 267652 ∧ L 138 4 = 16392370 ∧ L 138 5 = 719725925 ∧ L 138 6 = 278194 ∧ L 138 7 = 24865546418) ∧ (L 139 0 = 278194 ∧ L 139 1 = 146885 ∧ L 139 2 = 404362868 ∧ L 139 3 = 688 ∧ L 139 4 = 267652 ∧ L 139 5 = 6452 ∧ L 139 6 = 21285028) ∧ (L 140 0 = 21285043 ∧ L 140 1 = 19058323 ∧ L 140 2 = 15556971699 ∧ L 140 3 = 67155) ∧ L 153 0 = 19508008645 ∧ L 153 1 = 652384069 ∧ L 153 2 = 538513902 ∧ L 153 3 = 525939
/-- the model bears g -/
def MI (g : GG) (I : Nat → Nat → Int32) (L : Nat → Nat → Int64) : Prop := mS (gS g) (I 125) ∧ mP (gP g) (I 125) ∧ mB (gB g) (I 125) ∧ mU (gU g) I ∧ mT (gT g) I ∧ mN (gN g) I ∧ mDr (gD g) I ∧ mIm (gI g) I ∧ mWs L
def cKeep (I I' : Nat → Nat → Int32) (L L' : Nat → Nat → Int64) : Prop := (∀ a j, 123 ≤ a → a < 156 → I' a j = I a j) ∧ ∀ a j, a ≠ 121 → L' a j = L a j
def mKeep (I I' : Nat → Nat → Int32) : Prop := ∀ a j, (a < 123 ∨ 156 ≤ a) → I' a j = I a j
-- what is kept
theorem cS_kept2 {I I' : Nat → Nat → Int32} {s : St} {o : Nat} (h : ∀ a j, o ≤ a ∧ a ≤ o + 4 ∧ (a = o → 4 ≤ j ∧ j ≤ 7) → I' a j = I a j) (hs : cS s o I) : cS s o I' := by
  unfold cS
  rw [h o 4 (by omega), h o 5 (by omega), h o 6 (by omega), h o 7 (by omega)]
  refine ⟨hs.1, fun i hi => ?_, hs.2.2.1, hs.2.2.2.1, hs.2.2.2.2.1, fun j hj => ?_⟩
  · rw [h (o + 1) i (by omega), h (o + 2) i (by omega), h (o + 3) i (by omega)]
    exact hs.2.1 i hi
  · rw [h (o + 4) j (by omega)]
    exact hs.2.2.2.2.2 j hj
theorem cP_kept {I I' : Nat → Nat → Int32} {pl : List (Nat × Nat)} {o : Nat} (h : ∀ a j, a = o ∧ 8 ≤ j ∧ j ≤ 10 → I' a j = I a j) (hs : cP pl o I) : cP pl o I' := by
  unfold cP
  rw [h o 8 (by omega), h o 9 (by omega), h o 10 (by omega)]
  exact hs
theorem cB_kept {I I' : Nat → Nat → Int32} {b : Bk} {q : Nat} (hl : b.1.length ≤ 6) (h : ∀ a j, q ≤ a ∧ a ≤ q + 43 → I' a j = I a j) (hs : cB b q I) : cB b q I' := by
  refine ⟨?_, ?_, ?_, fun i l hi => ?_⟩
  · rw [h q 2 (by omega)]; exact hs.1
  · rw [h q 3 (by omega)]; exact hs.2.1
  · exact cLaw_kept (fun a j h1 h2 => h a j (by omega)) hs.2.2.1
  · have : i < b.1.length := (List.getElem?_eq_some_iff.mp hi).1
    exact cLaw_kept (fun a j h1 h2 => h a j (by omega)) (hs.2.2.2 i l hi)
theorem cU_kept {I I' : Nat → Nat → Int32} {u : List (Nat × St)} {o : Nat} (h : ∀ a j, (a = o ∧ j = 1) ∨ a = o + 1 → I' a j = I a j) (hs : cU u o I) : cU u o I' := by
  refine ⟨?_, fun i x hi => ?_⟩
  · rw [h o 1 (by omega)]; exact hs.1
  · have e : ∀ j, I' (o + 1) j = I (o + 1) j := fun j => h (o + 1) j (by omega)
    unfold cSn
    simp only [e]
    exact hs.2 i x hi
theorem cT_kept {I I' : Nat → Nat → Int32} {t : Nat × (Nat → Nat)} (h : ∀ a j, (a = 0 ∧ j = 12) ∨ a = 119 → I' a j = I a j) (hs : cT t I) : cT t I' := ⟨by rw [h 0 12 (by omega)]; exact hs.1, fun j hj => by rw [h 119 j (by omega)]; exact hs.2 j hj⟩
theorem cN_kept {I I' : Nat → Nat → Int32} {x : Int32 × Int32 × Int32 × Int32 × (Nat → Int32)} (h : ∀ a j, (a = 0 ∧ (j = 15 ∨ j = 16 ∨ j = 18)) ∨ (a = 54 ∧ j = 9) ∨ a = 122 → I' a j = I a j) (hs : cN x I) : cN x I' := ⟨by rw [h 0 15 (by omega)]; exact hs.1, by rw [h 0 16 (by omega)]; exact hs.2.1, by rw [h 54 9 (by omega)]; exact hs.2.2.1, by rw [h 0 18 (by omega)]; exact hs.2.2.2.1, fun j hj => by rw [h 122 j (by omega)]; exact hs.2.2.2.2 j hj⟩
theorem cDr_kept {I I' : Nat → Nat → Int32} {d : Option St} (h : ∀ a j, (a = 0 ∧ j = 8) ∨ (112 ≤ a ∧ a ≤ 116) → I' a j = I a j) (hs : cDr d I) : cDr d I' := by
  match d, hs with
  | none, hs => show I' 0 8 = 0; rw [h 0 8 (by omega)]; exact hs
  | some d, hs => exact ⟨by rw [h 0 8 (by omega)]; exact hs.1, cS_kept2 (fun a j q => h a j (by omega)) hs.2⟩
theorem cIm_kept {I I' : Nat → Nat → Int32} {im : Nat → Option Sn} {n : Nat} {y : sm_Y} {R : Nat → Nat → Option Nat} (hw : ∀ k x, im k = some x → wK x) (h : ∀ a j, 156 ≤ a → I' a j = I a j) (hs : cIm im n y I R) : cIm im n y I' R := by
  obtain ⟨o, q, h1, h2⟩ := hs
  refine ⟨o, q, fun k hk => ?_, h2⟩
  have h1 := h1 k hk
  cases hi : im k with
  | none =>
    rw [hi] at h1
    exact h1
  | some x =>
    rw [hi] at h1
    obtain ⟨a1, a2, a3, a4, a5, a6, a7, a8, a9, a10⟩ := h1
    exact ⟨a1, a2, a3, a4, a5, a6, a7, cS_kept2 (fun a j q => h a j (by omega)) a8, cP_kept (fun a j q => h a j (by omega)) a9, cB_kept (hw k x hi).2.2.1 (fun a j q => h a j (by omega)) a10⟩
theorem rowI_kept {I I' : Nat → Nat → Int32} {o : Nat} {row : List Nat} (h : ∀ j, I' o j = I o j) (hs : rowI o I row) : rowI o I' row := fun i x hx => by rw [h]; exact hs i x hx
theorem cCa_kept {I I' : Nat → Nat → Int32} {F : Option (Nat × Law)} {s : St} (h : ∀ a j, (a = 73 ∧ 4 ≤ j ∧ j ≤ 6) ∨ a = 76 ∨ (a = 102 ∧ (j = 2 ∨ j = 5 ∨ j = 6)) ∨ a = 103 ∨ a = 105 → I' a j = I a j) (hs : cCa F s I) : cCa F s I' := by
  obtain ⟨⟨hh, h1, h2, h3⟩, h4, h5, h6, h7⟩ := hs
  refine ⟨⟨hh, by rw [h 73 6 (by omega)]; exact h1, h2, fun q => ?_⟩, by rw [h 102 2 (by omega)]; exact h4, fun q a b ha hb => ?_, by rw [h 102 6 (by omega)]; exact h6, fun q => ?_⟩
  · have h3 := h3 q
    cases hr : sp_rota F s hh with
    | none => rw [hr] at h3; show I' 73 5 = 0; rw [h 73 5 (by omega)]; exact h3
    | some x => rw [hr] at h3; exact ⟨by rw [h 73 5 (by omega)]; exact h3.1, by rw [h 73 4 (by omega)]; exact h3.2.1, rowI_kept (fun j => h 76 j (by omega)) h3.2.2⟩
  · rw [h 103 _ (by omega)]
    exact h5 (by rw [← h 102 2 (by omega)]; exact q) a b ha hb
  · have h7 := h7 (by rw [← h 102 6 (by omega)]; exact q)
    cases hr : sp_arr F s with
    | none => rw [hr] at h7; show I' 102 5 = 1000000; rw [h 102 5 (by omega)]; exact h7
    | some x => rw [hr] at h7; exact ⟨by rw [h 102 5 (by omega)]; exact h7.1, rowI_kept (fun j => h 105 j (by omega)) h7.2⟩
/-- no cache -/
theorem cCa_none {I : Nat → Nat → Int32} {F : Option (Nat × Law)} {s : St} (h1 : I 73 6 = 0) (h2 : I 102 2 = 0) (h3 : I 102 6 = 0) : cCa F s I := ⟨⟨0, h1, by omega, fun q => absurd q (by omega)⟩, Or.inl h2, fun q => absurd h2 q, Or.inl h3, fun q => absurd h3 q⟩
theorem CI_kept {g : GG} {n : Nat} {y : sm_Y} {I I' : Nat → Nat → Int32} {R : Nat → Nat → Option Nat} (hw : Wf g) (h : mKeep I I') (hc : CI g n y I R) : CI g n y I' R := by
  obtain ⟨h0, hG, h1, h2, h3, h4, h5, h6, h7, h8, h9⟩ := hc
  exact ⟨h0, hG, cS_kept2 (fun a j q => h a j (by omega)) h1, cP_kept (fun a j q => h a j (by omega)) h2, cB_kept hw.1.2.2.1 (fun a j q => h a j (by omega)) h3, cU_kept (fun a j q => h a j (by omega)) h4, cT_kept (fun a j q => h a j (by omega)) h5, cN_kept (fun a j q => h a j (by omega)) h6, cDr_kept (fun a j q => h a j (by omega)) h7, cIm_kept hw.2.2.2.1 (fun a j q => h a j (by omega)) h8, cCa_kept (fun a j q => h a j (by omega)) h9⟩
-- the model
theorem mS_ext {s : St} {r r' : Nat → Int32} (h : ∀ j, j = 0 ∨ (4 ≤ j ∧ j < 38) → r' j = r j) (h7 : sMen s ≤ 7) (hs : mS s r) : mS s r' := by
  refine ⟨by rw [h 0 (by omega)]; exact hs.1, fun i hi => ?_, by rw [h 8 (by omega)]; exact hs.2.2.1, by rw [h 9 (by omega)]; exact hs.2.2.2.1, fun j hj => by rw [h (4 + j) (by omega)]; exact hs.2.2.2.2 j hj⟩
  rw [h (24 + i) (by omega), h (31 + i) (by omega), h (10 + i) (by omega), h (17 + i) (by omega)]
  exact hs.2.1 i hi
theorem mP_ext {pl : List (Nat × Nat)} {r r' : Nat → Int32} (h : ∀ j, j = 1 ∨ (38 ≤ j ∧ j < 50) → r' j = r j) (h6 : pl.length ≤ 6) (hs : mP pl r) : mP pl r' := by
  refine ⟨by rw [h 1 (by omega)]; exact hs.1, fun k x hx => ?_⟩
  have : k < pl.length := (List.getElem?_eq_some_iff.mp hx).1
  rw [h (38 + 2 * k) (by omega), h (38 + 2 * k + 1) (by omega)]
  exact hs.2 k x hx
theorem mEv_congr {cd cd' : Nat → Int32 × Int32} {lf : Int32 → Int32 → Int64} {e : Nat} {P : Option (List Int64) → Prop} (h : ∀ k, k < e → cd' k = cd k) : ∀ (f k : Nat) (st : List Int64), mEv cd lf e f k st P → mEv cd' lf e f k st P := by
  intro f
  induction f with
  | zero => intro k st q; exact q
  | succ f ih =>
    intro k st q
    unfold mEv at q ⊢
    by_cases hk : k = e
    · rw [if_pos hk] at q ⊢
      exact q
    · rw [if_neg hk] at q ⊢
      obtain ⟨hlt, q⟩ := q
      refine ⟨hlt, ?_⟩
      rw [h k hlt]
      by_cases h20 : 20 ≤ (cd k).1
      · rw [if_pos h20] at q ⊢
        by_cases h28 : 28 ≤ (cd k).1
        · rw [if_pos h28] at q ⊢
          match st, q with
          | a :: t, q =>
            dsimp only at q ⊢
            by_cases h0 : (cd k).1 = 28
            · rw [if_pos h0] at q ⊢
              exact ih _ _ q
            · rw [if_neg h0] at q ⊢
              by_cases hc : a = (if (cd k).1 = 29 then 0 else 1)
              · rw [if_pos hc] at q ⊢
                obtain ⟨j, q1, q2, q3, q4⟩ := q
                exact ⟨j, q1, q2, q3, ih _ _ q4⟩
              · rw [if_neg hc] at q ⊢
                exact ih _ _ q
        · rw [if_neg h28] at q ⊢
          match st, q with
          | b :: a :: t, q =>
            dsimp only at q ⊢
            cases hr : sp_rk (cd k).1 a b with
            | none => rw [hr] at q; exact q
            | some v => rw [hr] at q; exact ih _ _ q
      · rw [if_neg h20] at q ⊢
        exact ⟨q.1, q.2.1, ih _ _ q.2.2⟩
theorem mEv_glue {cd : Nat → Int32 × Int32} {lf : Int32 → Int32 → Int64} {b e : Nat} {P P' : Option (List Int64) → Prop} (hbe : b ≤ e) (h1 : ∀ st', P' (some st') → ∃ f', mEv cd lf e f' b st' P) (h0 : P' none → P none) : ∀ (f k : Nat) (st : List Int64), mEv cd lf b f k st P' → ∃ f', mEv cd lf e f' k st P := by
  intro f
  induction f with
  | zero => intro k st q; exact q.elim
  | succ f ih =>
    intro k st q
    unfold mEv at q
    by_cases hk : k = b
    · rw [if_pos hk] at q
      rw [hk]
      exact h1 st q
    · rw [if_neg hk] at q
      obtain ⟨hlt, q⟩ := q
      have hne : ¬ k = e := by omega
      have hle : k < e := by omega
      by_cases h20 : 20 ≤ (cd k).1
      · rw [if_pos h20] at q
        by_cases h28 : 28 ≤ (cd k).1
        · rw [if_pos h28] at q
          match st, q with
          | a :: t, q =>
            dsimp only at q
            by_cases h0 : (cd k).1 = 28
            · rw [if_pos h0] at q
              obtain ⟨f', hf⟩ := ih _ _ q
              refine ⟨f' + 1, ?_⟩
              unfold mEv
              rw [if_neg hne, if_pos h20, if_pos h28]
              dsimp only
              rw [if_pos h0]
              exact ⟨hle, hf⟩
            · rw [if_neg h0] at q
              by_cases hc : a = (if (cd k).1 = 29 then 0 else 1)
              · rw [if_pos hc] at q
                obtain ⟨j, q1, q2, q3, q4⟩ := q
                obtain ⟨f', hf⟩ := ih _ _ q4
                refine ⟨f' + 1, ?_⟩
                unfold mEv
                rw [if_neg hne, if_pos h20, if_pos h28]
                dsimp only
                rw [if_neg h0, if_pos hc]
                exact ⟨hle, j, q1, q2, by omega, hf⟩
              · rw [if_neg hc] at q
                obtain ⟨f', hf⟩ := ih _ _ q
                refine ⟨f' + 1, ?_⟩
                unfold mEv
                rw [if_neg hne, if_pos h20, if_pos h28]
                dsimp only
                rw [if_neg h0, if_neg hc]
                exact ⟨hle, hf⟩
        · rw [if_neg h28] at q
          match st, q with
          | x :: a :: t, q =>
            dsimp only at q
            cases hr : sp_rk (cd k).1 a x with
            | none =>
              rw [hr] at q
              refine ⟨1, ?_⟩
              unfold mEv
              rw [if_neg hne, if_pos h20, if_neg h28]
              dsimp only
              rw [hr]
              exact ⟨hle, h0 q⟩
            | some v =>
              rw [hr] at q
              obtain ⟨f', hf⟩ := ih _ _ q
              refine ⟨f' + 1, ?_⟩
              unfold mEv
              rw [if_neg hne, if_pos h20, if_neg h28]
              dsimp only
              rw [hr]
              exact ⟨hle, hf⟩
      · rw [if_neg h20] at q
        obtain ⟨f', hf⟩ := ih _ _ q.2.2
        refine ⟨f' + 1, ?_⟩
        unfold mEv
        rw [if_neg hne, if_neg h20]
        exact ⟨hle, q.1, q.2.1, hf⟩
theorem mSeg_ext {cd cd' : Nat → Int32 × Int32} {a b : Nat} {D : (Int32 → Int32 → Int64) → Option Int64} (h : ∀ k, k < b → cd' k = cd k) (hs : mSeg cd a b D) : mSeg cd' a b D := by
  refine ⟨hs.1, fun lf e st P f hbe hm => ?_⟩
  obtain ⟨f', hf⟩ := hs.2 lf b st (fun o => o = (D lf).map (fun v => v :: st)) 1 (Nat.le_refl b) (by
    cases hD : D lf with
    | none => rfl
    | some v =>
      show mEv _ _ _ 1 _ _ _
      unfold mEv
      rw [if_pos rfl]
      rfl)
  refine mEv_glue hbe ?_ ?_ f' a st (mEv_congr h f' a st hf)
  · intro st' hst
    cases hD : D lf with
    | none => rw [hD] at hst; cases hst
    | some v =>
      rw [hD] at hst hm
      cases hst
      exact ⟨f, hm⟩
  · intro hst
    cases hD : D lf with
    | none => rw [hD] at hm; exact hm
    | some v => rw [hD] at hst; cases hst
theorem mLaw_ext {r r' : Nat → Int32} {B : Nat} {l : Law} (h : ∀ j, B ≤ j → j < B + 900 → r' j = r j) (hl : mLaw (fun _ => r) B l) : mLaw (fun _ => r') B l := by
  obtain ⟨h1, h2, h3⟩ := hl
  refine ⟨by show r' _ = _; rw [h _ (by omega) (by omega)]; exact h1, h2, fun c x hx => ?_⟩
  have hc : c < l.length := (List.getElem?_eq_some_iff.mp hx).1
  obtain ⟨a, a', t, t', e0, e1, e3, e4, e5, e6, e7, e8, e9, e10, e11⟩ := h3 c x hx
  have key : ∀ (u v : Nat) (D : DD), v ≤ 400 → mSeg (cdB (fun _ => r) B) u v (mD D) → mSeg (cdB (fun _ => r') B) u v (mD D) := by
    intro u v D hv hs
    refine mSeg_ext (fun k hk => ?_) hs
    show (r' _, r' _) = (r _, r _)
    rw [h _ (by omega) (by omega), h _ (by omega) (by omega)]
  refine ⟨a, a', t, t', ?_, e1, ?_, ?_, ?_, ?_, e7, e8, e9, fun q => ⟨(e10 q).1, key _ _ _ e7 (e10 q).2⟩, ?_⟩
  · show r' _ = _; rw [h _ (by omega) (by omega)]; exact e0
  · show r' _ = _; rw [h _ (by omega) (by omega)]; exact e3
  · show r' _ = _; rw [h _ (by omega) (by omega)]; exact e4
  · show r' _ = _; rw [h _ (by omega) (by omega)]; exact e5
  · show r' _ = _; rw [h _ (by omega) (by omega)]; exact e6
  · cases hT : x.2.2 with
    | none => rw [hT] at e11; exact e11
    | some T => rw [hT] at e11; exact ⟨e11.1, e11.2.1, key _ _ _ e8 e11.2.2⟩
theorem mB_ext {b : Bk} {r r' : Nat → Int32} (h : ∀ j, j = 2 ∨ j = 3 ∨ (50 ≤ j ∧ j < 5450) → r' j = r j) (h6 : b.1.length ≤ 6) (hs : mB b r) : mB b r' := by
  refine ⟨by rw [h 2 (by omega)]; exact hs.1, by rw [h 3 (by omega)]; exact hs.2.1, fun i l hi => ?_⟩
  have : i < b.1.length := (List.getElem?_eq_some_iff.mp hi).1
  exact mLaw_ext (fun j h1 h2 => h j (by omega)) (hs.2.2 i l hi)
theorem MI_kept {g : GG} {I I' : Nat → Nat → Int32} {L L' : Nat → Nat → Int64} (h : cKeep I I' L L') (hm : MI g I L) : MI g I' L' := by
  have e : ∀ a, 123 ≤ a → a < 156 → I' a = I a := fun a h1 h2 => funext fun j => h.1 a j h1 h2
  have el : ∀ a, a ≠ 121 → L' a = L a := fun a h1 => funext fun j => h.2 a j h1
  unfold MI mU mT mN mDr mIm mWs
  rw [e 125 (by omega) (by omega), e 123 (by omega) (by omega), e 129 (by omega) (by omega), e 128 (by omega) (by omega), e 132 (by omega) (by omega), e 124 (by omega) (by omega), e 155 (by omega) (by omega), e 127 (by omega) (by omega), e 126 (by omega) (by omega), el 138 (by omega), el 139 (by omega), el 140 (by omega), el 153 (by omega)]
  exact hm
/-- the laws in force -/
theorem cB_F {b : Bk} {I : Nat → Nat → Int32} (hl : b.1.length ≤ 6) (hf : ∀ j, b.2 = some j → j < b.1.length) (h : cB b 6 I) : cForce I (bF b) := by
  obtain ⟨h1, h2, h3, h4⟩ := h
  unfold bF
  match hb : b.2, h2, hf with
  | none, h2, _ => exact ⟨h3, h2⟩
  | some j, h2, hf =>
    have hj := hf j rfl
    have e : b.1[j]? = some b.1[j] := List.getElem?_eq_getElem hj
    simp only [e]
    refine ⟨?_, h2, by omega, b.1.length, h1, hl, hj⟩
    have := h4 j b.1[j] e
    rw [show 6 + (8 + 6 * j) = 14 + 6 * j by omega] at this
    exact this
theorem mB_F {b : Bk} {I : Nat → Nat → Int32} (hl : b.1.length ≤ 6) (hf : ∀ j, b.2 = some j → j < b.1.length) (h : mB b (I 125)) : mForce I (bF b) := by
  obtain ⟨h1, h2, h4⟩ := h
  unfold bF
  match hb : b.2, h2, hf with
  | none, h2, _ => exact h2
  | some j, h2, hf =>
    have hj := hf j rfl
    have e : b.1[j]? = some b.1[j] := List.getElem?_eq_getElem hj
    simp only [e]
    exact ⟨h2, by omega, mLaw_keptI (fun _ => rfl) (h4 j b.1[j] e)⟩
/-- a call of the class: from g to g', with the answer r -/
def CM (ex : sm_O) (d k : Nat) (as : List (Option Value)) (g : GG) (r : Int32) (g' : GG) : Prop := ∀ (n : Nat) (y : sm_Y) (I : Nat → Nat → Int32) (L : Nat → Nat → Int64) (R : Nat → Nat → Option Nat) (Q : sm_Q), CI g n y I R → (∀ (I' : Nat → Nat → Int32) (L' : Nat → Nat → Int64), CI g' n y I' R → cKeep I I' L L' → Q (some (.int r)) (n, y, I', L', R)) → sm_W ex d 0 0 k 0 as [] (n, y, I, L, R) Q
def MM (ex : sm_O) (d k : Nat) (as : List (Option Value)) (g : GG) (r : Int32) (g' : GG) : Prop := ∀ (n : Nat) (y : sm_Y) (I : Nat → Nat → Int32) (L : Nat → Nat → Int64) (R : Nat → Nat → Option Nat) (Q : sm_Q), sm_G y R → MI g I L → (∀ (I' : Nat → Nat → Int32) (L' : Nat → Nat → Int64), MI g' I' L' → mKeep I I' → Q (some (.int r)) (n, y, I', L', R)) → sm_W ex d 0 0 k 0 as [] (n, y, I, L, R) Q

