-- SOUNDNESS: fields, arrays, new cells
theorem sm_cls_at {a : Nat} (h : a < 12) : vwCl[a]? = some (sm_cn a, sm_T0 a, sm_nf a) := by
  match a, h with
  | 0, _ => rfl
  | 1, _ => rfl
  | 2, _ => rfl
  | 3, _ => rfl
  | 4, _ => rfl
  | 5, _ => rfl
  | 6, _ => rfl
  | 7, _ => rfl
  | 8, _ => rfl
  | 9, _ => rfl
  | 10, _ => rfl
  | 11, _ => rfl
theorem sm_cls_of {q : Nat} {r : vw_C} (h : vwCl[q]? = some r) : q < 12 ∧ r = (sm_cn q, sm_T0 q, sm_nf q) := by
  have hq : q < 12 := (List.getElem?_eq_some_iff.mp h).1
  exact ⟨hq, Option.some.inj (h.symm.trans (sm_cls_at hq))⟩
theorem sm_cls_ty {a : Nat} (h : a < 12) : ∀ j, j < sm_nf a → parseFieldDescriptor (sm_T0 a j).2.2.1 = some (sm_ty a j) := by
  match a, h with
  | 0, _ => exact tyX0_ok
  | 1, _ => exact tyX1_ok
  | 2, _ => exact tyX2_ok
  | 3, _ => exact tyX3_ok
  | 4, _ => exact tyX4_ok
  | 5, _ => exact tyX5_ok
  | 6, _ => exact tyX6_ok
  | 7, _ => exact tyX7_ok
  | 8, _ => exact tyX8_ok
  | 9, _ => exact tyX9_ok
  | 10, _ => exact tyX10_ok
  | 11, _ => exact tyX11_ok
theorem sm_cls_nm {a : Nat} (h : a < 12) : ∀ i, i < sm_nf a → ∀ j, j < sm_nf a → i ≠ j → (sm_T0 a i).2.1 ≠ (sm_T0 a j).2.1 := by
  match a, h with
  | 0, _ => exact nmX0
  | 1, _ => exact nmX1
  | 2, _ => exact nmX2
  | 3, _ => exact nmX3
  | 4, _ => exact nmX4
  | 5, _ => exact nmX5
  | 6, _ => exact nmX6
  | 7, _ => exact nmX7
  | 8, _ => exact nmX8
  | 9, _ => exact nmX9
  | 10, _ => exact nmX10
  | 11, _ => exact nmX11
theorem sm_cls_kb : ((List.range 12).all fun a => (List.range (sm_nf a)).all fun j => sm_kt (sm_kd a j) (sm_ty a j)) = true := by decide +kernel
theorem sm_cls_kd {a j : Nat} (h : a < 12) (hj : j < sm_nf a) : sm_kt (sm_kd a j) (sm_ty a j) = true := by
  have h1 := List.all_eq_true.mp sm_cls_kb a (List.mem_range.mpr h)
  exact List.all_eq_true.mp h1 j (List.mem_range.mpr hj)
theorem sm_cls_lb : ((List.range 12).all fun a => (List.range (sm_nf a)).all fun j => sm_wd (sm_nth 0 (sm_nth [] sm_lpl a) j) (u_lay (sm_cn a) (sm_T0 a) j)) = true := by decide +kernel
theorem sm_lay_good (C : String) (T : u_T) (j : Nat) : goodWord (u_lay C T j) = true := by
  unfold u_lay
  split <;> rfl
theorem sm_cls_w {a : Nat} (h : a < 12) : ∀ w ∈ u_ws (sm_cn a) (sm_T0 a) (sm_nf a), w ∈ sm_all := by
  intro w hw
  obtain ⟨j, hj, rfl⟩ := List.mem_map.mp hw
  have h1 := List.all_eq_true.mp sm_cls_lb a (List.mem_range.mpr h)
  exact sm_wd_all (List.all_eq_true.mp h1 j hj) (sm_lay_good _ _ _)
theorem sm_cls_ib : ((List.range 12).all fun a => sm_wd (sm_nth 0 sm_ipl a) (.instantiable (sm_cn a) (sm_nf a)) && sm_wd (sm_nth 0 sm_jpl a) (.initialized (sm_cn a))) = true := by decide +kernel
theorem sm_cls_i {a : Nat} (h : a < 12) : Cond.instantiable (sm_cn a) (sm_nf a) ∈ sm_all ∧ Cond.initialized (sm_cn a) ∈ sm_all := by
  have h1 := List.all_eq_true.mp sm_cls_ib a (List.mem_range.mpr h)
  rw [Bool.and_eq_true] at h1
  exact ⟨sm_wd_all h1.1 rfl, sm_wd_all h1.2 rfl⟩
theorem sm_gf_e {z : Nat} {E : Nat → Nat} {kd o b : Nat} {μ : sm_Mem} {f : Value → Prop} (h : sm_gf kd o b μ f) : ∃ x, f x ∧ sm_v z E x = sm_fv z kd o b μ := by
  unfold sm_gf at h
  split at h
  · exact ⟨_, h, rfl⟩
  · cases hr : μ.2.2.2.2 o b with
    | none => exact ⟨_, h.1 hr, by simp [sm_fv, hr, sm_rz, va_rf, sm_v]⟩
    | some q => exact ⟨_, h.2 q hr, by simp [sm_fv, hr, sm_rz, va_rf, sm_v]⟩
  · rename_i h1 h2
    refine ⟨_, h, ?_⟩
    unfold sm_fv
    split
    · exact (h1 rfl).elim
    · exact (h2 rfl).elim
    · rfl
theorem sm_rr_e {z : Nat} {E : Nat → Nat} {r : Option Nat} {f : Value → Prop} (h : sm_rr r f) : ∃ x, f x ∧ sm_v z E x = va_rf (sm_rz z r) := by
  cases r with
  | none => exact ⟨_, h.1 rfl, rfl⟩
  | some q => exact ⟨_, h.2 q rfl, rfl⟩
/-- nothing but place b of cell o differs -/
def sm_same (μ μ1 : sm_Mem) (o : Nat) (P : Nat → Prop) : Prop := μ1.1 = μ.1 ∧ μ1.2.1 = μ.2.1 ∧ ∀ k j, (k ≠ o ∨ ¬ P j) → μ1.2.2.1 k j = μ.2.2.1 k j ∧ μ1.2.2.2.1 k j = μ.2.2.2.1 k j ∧ μ1.2.2.2.2 k j = μ.2.2.2.2 k j
theorem sm_ce_congr {z : Nat} {cA : ClassId} {y : Option (Nat ⊕ (Nat × Nat))} {k : Nat} {μ μ1 : sm_Mem} (h : ∀ j, μ1.2.2.1 k j = μ.2.2.1 k j ∧ μ1.2.2.2.1 k j = μ.2.2.2.1 k j ∧ μ1.2.2.2.2 k j = μ.2.2.2.2 k j) : sm_ce z cA y k μ1 = sm_ce z cA y k μ := by
  have e1 : μ1.2.2.1 k = μ.2.2.1 k := funext fun j => (h j).1
  have e2 : μ1.2.2.2.1 k = μ.2.2.2.1 k := funext fun j => (h j).2.1
  have e3 : μ1.2.2.2.2 k = μ.2.2.2.2 k := funext fun j => (h j).2.2
  unfold sm_ce sm_fv
  rw [e1, e2, e3]
theorem sm_Dyn.set {z : Nat} {D : va_G} {R : Room} {s : State} {μ μ1 : sm_Mem} {H H1 : Heap} {locs locs1 : List Loc} {cells slots : Nat} {cA : Nat → ClassId} {bc bs o : Nat} {P : Nat → Prop} (h : sm_Dyn z D R s μ H locs cells slots cA bc bs) (ho : o < μ.1) (hs : sm_same μ μ1 o P)
    (hP : va_P D vwCl ((sm_ws z cA μ).set o (z + o, sm_ce z (cA o) (μ.2.1 o) o μ1)) H1) (hS : va_S (z ≤ ·) s.heap H1 locs1) : sm_Dyn z D R s μ1 H1 locs1 cells slots cA bc bs := by
  obtain ⟨⟨hA, -, hyn, hz0⟩, hcb, hsb, hn, -⟩ := h
  obtain ⟨e1, e2, e3⟩ := hs
  refine ⟨⟨fun o t n hq => hA o t n (by rw [← e2]; exact hq), ?_, fun o => by rw [e1, e2]; exact hyn o, fun k j hk => ?_⟩, hcb, hsb, by rw [e1]; exact hn, hS⟩
  · rw [sm_ws_set e1 e2 (fun k hk => sm_ce_congr (fun j => e3 k j (Or.inl hk)))] at hP
    exact hP
  · rw [e1] at hk
    obtain ⟨q1, q2, q3⟩ := e3 k j (Or.inl (by omega))
    rw [q1, q2, q3]
    exact hz0 k j hk
theorem sm_pf_e {z : Nat} {E : Nat → Nat} {kd o b : Nat} {v : Value} {ty : FieldType} {μ : sm_Mem} {N : sm_Mem → Prop} (h : sm_pf kd o b v μ N) (hk : sm_kt kd ty = true) : ∃ μ1, N μ1 ∧ sm_same μ μ1 o (· = b) ∧ sm_v z E v = sm_fv z kd o b μ1 ∧ narrow ty (sm_v z E v) = sm_v z E v ∧ fits ty (sm_v z E v) = true := by
  unfold sm_pf at h
  split at h
  · refine ⟨_, h, ⟨rfl, rfl, fun k j hj => ⟨?_, rfl, rfl⟩⟩, ?_⟩
    · rcases hj with hj | hj
      · exact sm_st_o _ _ hj
      · exact sm_st_j _ _ hj
    · cases ty <;> simp_all [sm_kt, sm_v, sm_fv, sm_st, narrow, fits]
  · obtain ⟨h01, h⟩ := h
    refine ⟨_, h, ⟨rfl, rfl, fun k j hj => ⟨?_, rfl, rfl⟩⟩, ?_⟩
    · rcases hj with hj | hj
      · exact sm_st_o _ _ hj
      · exact sm_st_j _ _ hj
    · rcases h01 with rfl | rfl <;> cases ty <;> simp_all [sm_kt, sm_v, sm_fv, sm_st, narrow, fits]
  · refine ⟨_, h, ⟨rfl, rfl, fun k j hj => ⟨rfl, ?_, rfl⟩⟩, ?_⟩
    · rcases hj with hj | hj
      · exact sm_st_o _ _ hj
      · exact sm_st_j _ _ hj
    · cases ty <;> simp_all [sm_kt, sm_v, sm_fv, sm_st, narrow, fits]
  · refine ⟨_, h, ⟨rfl, rfl, fun k j hj => ⟨rfl, rfl, ?_⟩⟩, ?_⟩
    · rcases hj with hj | hj
      · exact sm_st_o _ _ hj
      · exact sm_st_j _ _ hj
    · cases ty <;> simp_all [sm_kt, sm_v, sm_fv, sm_st, sm_rz, va_rf, narrow, fits]
  · exact h.elim
