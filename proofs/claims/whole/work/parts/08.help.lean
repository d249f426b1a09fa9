-- SOUNDNESS, small rows
theorem sm_p1_e {st : List Value} {f : Int32 → List Value → Prop} (h : sm_p1 st f) : ∃ x t, st = .int x :: t ∧ f x t := by
  unfold sm_p1 at h
  split at h
  · exact ⟨_, _, rfl, h⟩
  · exact h.elim
theorem sm_p2_e {st : List Value} {f : Int32 → Int32 → List Value → Prop} (h : sm_p2 st f) : ∃ x y t, st = .int y :: .int x :: t ∧ f x y t := by
  unfold sm_p2 at h
  split at h
  · exact ⟨_, _, _, rfl, h⟩
  · exact h.elim
theorem sm_q1_e {st : List Value} {f : Int64 → List Value → Prop} (h : sm_q1 st f) : ∃ x t, st = .long x :: t ∧ f x t := by
  unfold sm_q1 at h
  split at h
  · exact ⟨_, _, rfl, h⟩
  · exact h.elim
theorem sm_q2_e {st : List Value} {f : Int64 → Int64 → List Value → Prop} (h : sm_q2 st f) : ∃ x y t, st = .long y :: .long x :: t ∧ f x y t := by
  unfold sm_q2 at h
  split at h
  · exact ⟨_, _, _, rfl, h⟩
  · exact h.elim
theorem sm_pr_e {st : List Value} {f : Nat → List Value → Prop} (h : sm_pr st f) : ∃ x t, st = .ref x :: t ∧ f x t := by
  unfold sm_pr at h
  split at h
  · exact ⟨_, _, rfl, h⟩
  · exact h.elim
theorem sm_pe_e {st : List Value} {f g : Nat → List Value → Prop} (h : sm_pe st f g) : (∃ x t, st = .ref x :: t ∧ f x t) ∨ ∃ x t, st = .retAddr x :: t ∧ g x t := by
  unfold sm_pe at h
  split at h
  · exact Or.inl ⟨_, _, rfl, h⟩
  · exact Or.inr ⟨_, _, rfl, h⟩
  · exact h.elim
theorem sm_ph_e {st : List Value} {f : Value → List Value → Prop} (h : sm_ph st f) : ∃ x t, st = x :: t ∧ f x t := by
  unfold sm_ph at h
  split at h
  · exact ⟨_, _, rfl, h⟩
  · exact h.elim
theorem sm_rt1_e {st : List Value} {f : Value → Prop} (h : sm_rt1 st f) : ∃ x, st = [x] ∧ f x := by
  unfold sm_rt1 at h
  split at h
  · exact ⟨_, rfl, h⟩
  · exact h.elim
theorem sm_li_e {l : List (Option Value)} {i : Nat} {f : Int32 → Prop} (h : sm_li l i f) : ∃ x, sm_ix l i = some (.int x) ∧ f x := by
  unfold sm_li at h
  split at h
  · exact ⟨_, by assumption, h⟩
  · exact h.elim
theorem sm_ll_e {l : List (Option Value)} {i : Nat} {f : Int64 → Prop} (h : sm_ll l i f) : ∃ x, sm_ix l i = some (.long x) ∧ f x := by
  unfold sm_ll at h
  split at h
  · exact ⟨_, by assumption, h⟩
  · exact h.elim
theorem sm_la_e {l : List (Option Value)} {i : Nat} {f : Value → Prop} (h : sm_la l i f) : (∃ x, sm_ix l i = some (.ref x) ∧ f (.ref x)) ∨ ∃ x, sm_ix l i = some (.retAddr x) ∧ f (.retAddr x) := by
  unfold sm_la at h
  split at h
  · exact Or.inl ⟨_, by assumption, h⟩
  · exact Or.inr ⟨_, by assumption, h⟩
  · exact h.elim
/-! locals -/
theorem sm_ix_lt {α : Type} : ∀ (l : List (Option α)) (i : Nat) (v : α), sm_ix l i = some v → i < l.length
  | [], _, _, h => by cases h
  | _ :: t, 0, _, _ => Nat.succ_pos _
  | _ :: t, n + 1, v, h => Nat.succ_lt_succ (sm_ix_lt t n v h)
theorem sm_se_len : ∀ (l : List (Option Value)) (i : Nat) (v : Option Value), (sm_se l i v).length = l.length
  | [], _, _ => by simp [sm_se]
  | _ :: t, 0, _ => by simp [sm_se]
  | [a], n + 1, _ => by simp [sm_se]
  | a :: b :: t, 1, v => by simp [sm_se]
  | a :: b :: t, n + 2, v => by simp [sm_se, sm_se_len (b :: t) (n + 1) v]
theorem sm_cl_len : ∀ (l : List (Option Value)) (i : Nat), (sm_cl l i).length = l.length
  | [], _ => by simp [sm_cl]
  | _ :: t, 0 => by simp [sm_cl]
  | a :: t, n + 1 => by simp [sm_cl, sm_cl_len t n]
theorem sm_iv_e {a : Option Value} {w : Value} (h : sm_iv a = some w) : a = some w ∧ ¬ w.category = 2 := by
  unfold sm_iv at h
  split at h
  · cases h
  · cases h
  · rename_i h1 h2
    subst h
    refine ⟨rfl, fun hc => ?_⟩
    cases w <;> first | exact h1 _ rfl | exact h2 _ rfl | (simp [Value.category] at hc)
theorem sm_se_ix : ∀ (l : List (Option Value)) (i : Nat) (v : Value) (j : Nat) (w : Value), sm_ix (sm_se l i (some v)) j = some w → i < l.length → (j = i ∧ w = v) ∨ (j ≠ i ∧ sm_ix l j = some w ∧ ¬ (j + 1 = i ∧ w.category = 2))
  | [], _, _, _, _, _, hi => by cases hi
  | a :: t, 0, v, 0, w, h, _ => by
    simp only [sm_se, sm_ix] at h
    exact Or.inl ⟨rfl, (Option.some.inj h).symm⟩
  | a :: t, 0, v, j + 1, w, h, _ => by
    simp only [sm_se, sm_ix] at h
    exact Or.inr ⟨by omega, h, fun q => by omega⟩
  | [a], n + 1, v, j, w, h, hi => by simp at hi
  | a :: b :: t, 1, v, 0, w, h, _ => by
    simp only [sm_se, sm_ix] at h
    have := sm_iv_e h
    exact Or.inr ⟨by omega, this.1, fun q => this.2 q.2⟩
  | a :: b :: t, 1, v, 1, w, h, _ => by
    simp only [sm_se, sm_ix] at h
    exact Or.inl ⟨rfl, (Option.some.inj h).symm⟩
  | a :: b :: t, 1, v, j + 2, w, h, _ => by
    simp only [sm_se, sm_ix] at h
    exact Or.inr ⟨by omega, h, fun q => by omega⟩
  | a :: b :: t, n + 2, v, 0, w, h, _ => by
    simp only [sm_se, sm_ix] at h
    exact Or.inr ⟨by omega, h, fun q => by omega⟩
  | a :: b :: t, n + 2, v, j + 1, w, h, hi => by
    simp only [sm_se, sm_ix] at h
    rcases sm_se_ix (b :: t) (n + 1) v j w h (by simpa using hi) with q | q
    · exact Or.inl ⟨by omega, q.2⟩
    · exact Or.inr ⟨by omega, q.2.1, fun r => q.2.2 ⟨by omega, r.2⟩⟩
theorem sm_cl_ix : ∀ (l : List (Option Value)) (i j : Nat) (w : Value), sm_ix (sm_cl l i) j = some w → j ≠ i ∧ sm_ix l j = some w
  | [], _, _, _, h => by cases h
  | a :: t, 0, 0, w, h => by cases h
  | a :: t, 0, j + 1, w, h => ⟨by omega, h⟩
  | a :: t, n + 1, 0, w, h => ⟨by omega, h⟩
  | a :: t, n + 1, j + 1, w, h => by
    have := sm_cl_ix t n j w h
    exact ⟨by omega, this.2⟩
def sm_lv (z : Nat) (E : Nat → Nat) (l : List (Option Value)) : List (Nat × Value) := (List.range l.length).filterMap fun i => (sm_ix l i).map fun v => (i, sm_v z E v)
theorem sm_lv_mem {z : Nat} {E : Nat → Nat} {l : List (Option Value)} {i : Nat} {v : Value} (h : sm_ix l i = some v) : (i, sm_v z E v) ∈ sm_lv z E l :=
  List.mem_filterMap.mpr ⟨i, List.mem_range.mpr (sm_ix_lt l i v h), by rw [h]; rfl⟩
theorem sm_L.has {z : Nat} {E : Nat → Nat} {ls : Array Slot} {nL : Nat} {l : List (Option Value)} (h : sm_L z E ls nL l) : lv_has ls nL (sm_lv z E l) := by
  refine ⟨h.2.1, h.2.2.1, fun q hq => ?_⟩
  obtain ⟨i, -, hi⟩ := List.mem_filterMap.mp hq
  cases hx : sm_ix l i with
  | none => rw [hx] at hi; cases hi
  | some v =>
    rw [hx] at hi
    cases hi
    exact h.2.2.2 i v hx
theorem sm_L.st1 {z : Nat} {E : Nat → Nat} {ls ls' : Array Slot} {nL : Nat} {l : List (Option Value)} {i : Nat} {v : Value} (h : sm_L z E ls nL l) (hi : i < l.length)
    (h' : lv_has ls' nL ((i, sm_v z E v) :: (sm_lv z E l).filter (fun q => !(q.1 == i) && !(q.1 + 1 == i && q.2.category == 2)))) : sm_L z E ls' nL (sm_se l i (some v)) := by
  refine ⟨by rw [sm_se_len]; exact h.1, h'.1, h'.2.1, fun j w hw => ?_⟩
  refine h'.2.2 (j, sm_v z E w) ?_
  rcases sm_se_ix l i v j w hw hi with ⟨rfl, rfl⟩ | ⟨q1, q2, q3⟩
  · exact List.mem_cons_self
  · refine List.mem_cons_of_mem _ (List.mem_filter.mpr ⟨sm_lv_mem q2, ?_⟩)
    simp only [sm_v_cat, Bool.and_eq_true, Bool.not_eq_true', beq_eq_false_iff_ne, Bool.and_eq_false_iff]
    refine ⟨q1, ?_⟩
    by_cases r : j + 1 = i
    · exact Or.inr (fun r2 => q3 ⟨r, r2⟩)
    · exact Or.inl r
theorem sm_L.st2 {z : Nat} {E : Nat → Nat} {ls ls' : Array Slot} {nL : Nat} {l : List (Option Value)} {i : Nat} {v : Value} (h : sm_L z E ls nL l) (hi : i + 1 < l.length)
    (h' : lv_has ls' nL ((i, sm_v z E v) :: (sm_lv z E l).filter (fun q => !(q.1 == i) && (!(q.1 == i + 1) && !(q.1 + 1 == i && q.2.category == 2))))) : sm_L z E ls' nL (sm_cl (sm_se l i (some v)) (i + 1)) := by
  refine ⟨by rw [sm_cl_len, sm_se_len]; exact h.1, h'.1, h'.2.1, fun j w hw => ?_⟩
  refine h'.2.2 (j, sm_v z E w) ?_
  obtain ⟨r0, hw⟩ := sm_cl_ix _ _ _ _ hw
  rcases sm_se_ix l i v j w hw (by omega) with ⟨rfl, rfl⟩ | ⟨q1, q2, q3⟩
  · exact List.mem_cons_self
  · refine List.mem_cons_of_mem _ (List.mem_filter.mpr ⟨sm_lv_mem q2, ?_⟩)
    simp only [sm_v_cat, Bool.and_eq_true, Bool.not_eq_true', beq_eq_false_iff_ne, Bool.and_eq_false_iff]
    refine ⟨q1, r0, ?_⟩
    by_cases r : j + 1 = i
    · exact Or.inr (fun r2 => q3 ⟨r, r2⟩)
    · exact Or.inl r
theorem sm_sl_ct : ∀ as : List Value, (lg_sl as).length = sm_ct as
  | [] => rfl
  | v :: t => by
    have e : (lg_sl (v :: t)).length = (if v.category = 2 then 2 else 1) + (lg_sl t).length := by
      simp only [lg_sl, List.flatMap_cons, List.length_append]
      split <;> rfl
    rw [e, sm_sl_ct t]
    cases v <;> rfl
theorem sm_en_nil : ∀ n : Nat, (sm_no n).length = n
  | 0 => rfl
  | n + 1 => by simp only [sm_no, List.length_cons, sm_en_nil n]
theorem sm_en_nix : ∀ (n i : Nat), sm_ix (sm_no n) i = none
  | 0, _ => rfl
  | n + 1, 0 => rfl
  | n + 1, i + 1 => by simp only [sm_no, sm_ix, sm_en_nix n i]
theorem sm_en_len : ∀ (as : List Value) (n : Nat), sm_ct as ≤ n → (sm_en as n).length = n := by
  intro as
  induction as with
  | nil => intro n _; simp only [sm_en]; exact sm_en_nil n
  | cons v t ih =>
    intro n hn
    cases v with
    | long x =>
      simp only [sm_ct, Value.category] at hn
      obtain ⟨n, rfl⟩ : ∃ q, n = q + 2 := ⟨n - 2, by omega⟩
      simp only [sm_en, List.length_cons]
      rw [ih n (by omega)]
    | double x =>
      simp only [sm_ct, Value.category] at hn
      obtain ⟨n, rfl⟩ : ∃ q, n = q + 2 := ⟨n - 2, by omega⟩
      simp only [sm_en, sm_en_nil]
    | _ =>
      simp only [sm_ct, Value.category] at hn
      obtain ⟨n, rfl⟩ : ∃ q, n = q + 1 := ⟨n - 1, by omega⟩
      simp only [sm_en, List.length_cons]
      rw [ih n (by omega)]
theorem sm_en_ix (z : Nat) (E : Nat → Nat) : ∀ (as : List Value) (n i o : Nat) (v : Value), sm_ct as ≤ n → sm_ix (sm_en as n) i = some v → (o + i, sm_v z E v) ∈ lv_args o (as.map (sm_v z E)) := by
  intro as
  induction as with
  | nil => intro n i o v _ h; simp only [sm_en] at h; rw [sm_en_nix] at h; cases h
  | cons a t ih =>
    intro n i o v hn h
    cases a with
    | long x =>
      simp only [sm_ct, Value.category] at hn
      obtain ⟨n, rfl⟩ : ∃ q, n = q + 2 := ⟨n - 2, by omega⟩
      simp only [sm_en] at h
      match i, h with
      | 0, h => cases h; exact List.mem_cons_self
      | 1, h => cases h
      | i + 2, h =>
        refine List.mem_cons_of_mem _ ?_
        have := ih n i (o + 2) v (by omega) h
        rw [show o + (i + 2) = o + 2 + i by omega]
        exact this
    | double x =>
      simp only [sm_ct, Value.category] at hn
      obtain ⟨n, rfl⟩ : ∃ q, n = q + 2 := ⟨n - 2, by omega⟩
      simp only [sm_en] at h
      rw [sm_en_nix] at h
      cases h
    | _ =>
      simp only [sm_ct, Value.category] at hn
      obtain ⟨n, rfl⟩ : ∃ q, n = q + 1 := ⟨n - 1, by omega⟩
      simp only [sm_en] at h
      match i, h with
      | 0, h => cases h; exact List.mem_cons_self
      | i + 1, h =>
        refine List.mem_cons_of_mem _ ?_
        have := ih n i (o + 1) v (by omega) h
        rw [show o + (i + 1) = o + 1 + i by omega]
        exact this
theorem sm_ct_map (z : Nat) (E : Nat → Nat) : ∀ as : List Value, sm_ct (as.map (sm_v z E)) = sm_ct as
  | [] => rfl
  | v :: t => by simp only [List.map_cons, sm_ct, sm_v_cat, sm_ct_map z E t]
theorem sm_ct_sum : ∀ as : List Value, (as.map fun v => v.category).sum = sm_ct as
  | [] => rfl
  | v :: t => by simp only [List.map_cons, List.sum_cons, sm_ct, sm_ct_sum t]
theorem sm_L_entry (z : Nat) (E : Nat → Nat) (as : List Value) (n : Nat) (h : sm_ct as ≤ n) : sm_L z E ((lg_sl (as.map (sm_v z E)) ++ List.replicate (n - (lg_sl (as.map (sm_v z E))).length) Slot.unset).toArray) n (sm_en as n) := by
  have hl := lv_entry (as.map (sm_v z E)) (n := n) (by rw [sm_sl_ct, sm_ct_map]; exact h)
  refine ⟨sm_en_len as n h, hl.1, hl.2.1, fun i v hv => ?_⟩
  have := sm_en_ix z E as n i 0 v h hv
  rw [Nat.zero_add] at this
  exact hl.2.2 _ this
/-! the world -/
theorem sm_ws_get {z : Nat} {cA : Nat → ClassId} {μ : sm_Mem} {k : Nat} (h : k < μ.1) : (sm_ws z cA μ)[k]? = some (z + k, sm_ce z (cA k) (μ.2.1 k) k μ) := by
  unfold sm_ws
  rw [List.getElem?_map, List.getElem?_range h]
  rfl
theorem sm_ws_len (z : Nat) (cA : Nat → ClassId) (μ : sm_Mem) : (sm_ws z cA μ).length = μ.1 := by simp [sm_ws]
theorem sm_ws_D (z : Nat) (cA : Nat → ClassId) (μ : sm_Mem) : va_D (z ≤ ·) (sm_ws z cA μ) := by
  have key : ∀ (k : Nat) (q : Nat × va_E), (sm_ws z cA μ)[k]? = some q → q.1 = z + k := by
    intro k q hq
    have hk : k < μ.1 := by rw [← sm_ws_len z cA μ]; exact (List.getElem?_eq_some_iff.mp hq).1
    rw [sm_ws_get hk] at hq
    cases hq
    rfl
  refine ⟨fun i j p q hi hj hpq => ?_, fun k q hq => ?_⟩
  · rw [key i p hi, key j q hj] at hpq
    omega
  · rw [key k q hq]
    exact Nat.le_add_right _ _
theorem sm_ws_set {z : Nat} {cA : Nat → ClassId} {μ μ' : sm_Mem} {o : Nat} (hn : μ'.1 = μ.1) (hy : μ'.2.1 = μ.2.1) (hc : ∀ k, k ≠ o → sm_ce z (cA k) (μ.2.1 k) k μ' = sm_ce z (cA k) (μ.2.1 k) k μ) : (sm_ws z cA μ).set o (z + o, sm_ce z (cA o) (μ.2.1 o) o μ') = sm_ws z cA μ' := by
  apply List.ext_getElem?
  intro k
  by_cases hk : k < μ.1
  · by_cases e : k = o
    · subst e
      rw [List.getElem?_set_self (by rw [sm_ws_len]; exact hk), sm_ws_get (by rw [hn]; exact hk), hy]
    · rw [List.getElem?_set_ne (Ne.symm e), sm_ws_get hk, sm_ws_get (by rw [hn]; exact hk), hy, hc k e]
  · rw [List.getElem?_eq_none (by rw [List.length_set, sm_ws_len]; omega), List.getElem?_eq_none (by rw [sm_ws_len, hn]; omega)]
theorem sm_ws_push {z : Nat} {cA : Nat → ClassId} {μ μ' : sm_Mem} {c0 : ClassId} (hn : μ'.1 = μ.1 + 1) (hy : ∀ k, k < μ.1 → μ'.2.1 k = μ.2.1 k) (h1 : μ'.2.2 = μ.2.2) : sm_ws z cA μ ++ [(z + μ.1, sm_ce z c0 (μ'.2.1 μ.1) μ.1 μ')] = sm_ws z (sm_up cA μ.1 c0) μ' := by
  obtain ⟨n, y, I, L, R⟩ := μ
  obtain ⟨n', y', I', L', R'⟩ := μ'
  simp only [Prod.mk.injEq] at h1 hn hy
  obtain ⟨rfl, rfl, rfl⟩ := h1
  subst hn
  apply List.ext_getElem?
  intro k
  rcases Nat.lt_trichotomy k n with hk | hk | hk
  · rw [List.getElem?_append_left (by rw [sm_ws_len]; exact hk), sm_ws_get (by exact hk), sm_ws_get (by show k < n + 1; omega)]
    have : sm_up cA n c0 k = cA k := by simp [sm_up, Nat.ne_of_lt hk]
    show some (z + k, sm_ce z (cA k) (y k) k (n, y, I', L', R')) = some (z + k, sm_ce z (sm_up cA n c0 k) (y' k) k (n + 1, y', I', L', R'))
    rw [this, hy k hk]
    rfl
  · subst hk
    rw [List.getElem?_append_right (by rw [sm_ws_len]; exact Nat.le_refl _), sm_ws_len, Nat.sub_self, sm_ws_get (by show k < k + 1; omega)]
    have : sm_up cA k c0 k = c0 := by simp [sm_up]
    show some (z + k, sm_ce z c0 (y' k) k (k + 1, y', I', L', R')) = some (z + k, sm_ce z (sm_up cA k c0 k) (y' k) k (k + 1, y', I', L', R'))
    rw [this]
  · rw [List.getElem?_eq_none (by simp [sm_ws_len]; omega), List.getElem?_eq_none (by rw [sm_ws_len]; show n + 1 ≤ k; omega)]
theorem sm_rm_get {α : Type} (f : Nat → α) {N j : Nat} (h : j < N) : ((List.range N).map f)[j]? = some (f j) := by rw [List.getElem?_map, List.getElem?_range h]; rfl
theorem sm_rm_set {α : Type} (f g : Nat → α) {N j : Nat} (v : α) (h : j < N) (hj : g j = v) (hk : ∀ k, k ≠ j → g k = f k) : ((List.range N).map f).set j v = (List.range N).map g := by
  apply List.ext_getElem?
  intro k
  by_cases hN : k < N
  · by_cases e : k = j
    · subst e
      rw [List.getElem?_set_self (by simp [hN]), sm_rm_get g hN, hj]
    · rw [List.getElem?_set_ne (Ne.symm e), sm_rm_get f hN, sm_rm_get g hN, hk k e]
  · rw [List.getElem?_eq_none (by simp; omega), List.getElem?_eq_none (by simp; omega)]
theorem sm_st_s {α : Type} (I : Nat → Nat → α) (o j : Nat) (v : α) : sm_st I o j v o j = v := by simp [sm_st]
theorem sm_st_o {α : Type} (I : Nat → Nat → α) {o j o' j' : Nat} (v : α) (h : o' ≠ o) : sm_st I o j v o' j' = I o' j' := by simp [sm_st, h]
theorem sm_st_j {α : Type} (I : Nat → Nat → α) {o j o' j' : Nat} (v : α) (h : j' ≠ j) : sm_st I o j v o' j' = I o' j' := by simp [sm_st, h]
