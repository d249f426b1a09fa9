-- SOUNDNESS: calls
noncomputable def sm_wk (k : Nat) : List Cond := .code (sm_y k) (sm_by k) (sm_ml k) (sm_rt k) :: sm_all
theorem sm_goodIn {ws : List Cond} (h : ∀ w ∈ ws, w ∈ sm_all) : GoodIn sm_all ws := fun w hw => ⟨h w hw, good_of_word (List.mem_filter.mp (h w hw)).2⟩
theorem sm_mk_f {k : Nat} (h : k < sm_klaw) : Cond.code (sm_y k) (sm_by k) (sm_ml k) (sm_rt k) ∈ sm_all ∧ Cond.initialized (sm_y k).cls ∈ sm_all ∧ plainName (sm_y k).cls = true ∧ sm_ml k ≤ 22 ∧
    ((sm_y k).cls ≠ "java/lang/invoke/MethodHandle" ∧ (sm_y k).cls ≠ "java/lang/invoke/VarHandle" ∧ (parseMethodDescriptor (sm_y k).desc).map (fun d => d.parameters.length) = some (sm_nth (0, 0, 0, 0, 0, 0) sm_mkl k).2.2.2.2.2) ∧
    ((sm_nth (0, 0, 0, 0, 0, 0) sm_mkl k).1 = 0 → Cond.instanceMethod (sm_y k) ∈ sm_all ∧ Cond.selects (sm_y k).cls (sm_y k) (sm_y k) ∈ sm_all) ∧
    ((sm_nth (0, 0, 0, 0, 0, 0) sm_mkl k).1 = 1 → Cond.static (sm_y k) ∈ sm_all) ∧
    ((sm_nth (0, 0, 0, 0, 0, 0) sm_mkl k).1 = 2 → Cond.instanceMethod (sm_y k) ∈ sm_all ∧ (sm_y k).name = "<init>") := by
  have q := sm_mk_at h
  generalize sm_nth (0, 0, 0, 0, 0, 0) sm_mkl k = r at q ⊢
  obtain ⟨kd, p1, p2, p3, p4, n⟩ := r
  simp only [sm_mk, Bool.and_eq_true, decide_eq_true_eq] at q
  obtain ⟨⟨⟨⟨⟨q1, q2⟩, q3⟩, q4⟩, q5⟩, q6⟩ := q
  refine ⟨sm_wd_all q1 rfl, sm_wd_all q2 rfl, q3, q4, q5, fun e => ?_, fun e => ?_, fun e => ?_⟩
  · have e : kd = 0 := e
    subst e
    simp only [Bool.and_eq_true] at q6
    refine ⟨sm_wd_all q6.1 rfl, ?_⟩
    obtain ⟨-, q6⟩ := q6
    split at q6
    · have q7 := List.mem_of_getElem? (of_decide_eq_true q6)
      obtain ⟨y, hy, hy2⟩ := List.mem_map.mp q7
      refine List.mem_filter.mpr ⟨List.mem_append_left _ (List.mem_map.mpr ⟨y, hy, by rw [hy2]⟩), rfl⟩
    · exact sm_wd_all q6 rfl
  · have e : kd = 1 := e
    subst e
    exact sm_wd_all q6 rfl
  · have e : kd = 2 := e
    subst e
    simp only [Bool.and_eq_true, decide_eq_true_eq] at q6
    exact ⟨sm_wd_all q6.1 rfl, q6.2⟩
theorem sm_Rep.moved {z : Nat} {D : va_G} {cA : Nat → ClassId} {μ : sm_Mem} {u U : State} {H : Heap} (hvm : u.vm.Alike U.vm) (h : sm_Rep z D cA μ u H) : sm_Rep z D cA μ U H :=
  ⟨fun o t n hq => ⟨arrOfT_moved hvm (h.1 o t n hq).1, (h.1 o t n hq).2.moved hvm⟩, h.2⟩
theorem sm_nest_warm {s U : State} (hW : s.WarmedH U.vm) : ∀ w ∈ sm_nests, va_Nw w s → va_Nw w U := by
  intro w hw h
  have := (List.mem_filter.mp hw).2
  cases w <;> first | exact va_Nw.warmF hW h | exact va_Nw.warmM hW h | (cases this; done)
theorem sm_nest_same {s U : State} (hv : s.vm = U.vm) : ∀ w ∈ sm_nests, va_Nw w s → va_Nw w U := by
  intro w hw h
  have := (List.mem_filter.mp hw).2
  cases w <;> first | exact va_Nw.same rfl hv h | (cases this; done)
theorem sm_Ex.warm {z : Nat} {E : Nat → Nat} {ex : sm_O} {s U : State} (hW : s.WarmedH U.vm) (hq : ∀ a : Nat, a < s.heap.size → ¬ z ≤ a → U.heap[a]? = s.heap[a]?) (h : sm_Ex z E ex s) : sm_Ex z E ex U := by
  obtain ⟨h1, h2, h3, h4, ⟨⟨adV, g1⟩, g2, g3, g4, g5⟩, h6, h7⟩ := h
  have hA := hW.alike
  refine ⟨fun w hw => sm_nest_warm hW w hw (h1 w hw), h2.moved hA, h3.moved hA, h4.moved hA, ⟨⟨adV, (g1.moved hA).kept hq⟩, fun i hi => (g2 i hi).warm hW, g3, (g4.moved hA).kept hq, (g5.moved hA).kept hq⟩, (h6.moved hA).kept hq, fun o ho => ?_⟩
  obtain ⟨e1, cell, c1, c2, c3⟩ := h7 o ho
  exact ⟨e1, cell, by rw [hq _ (Array.getElem?_eq_some_iff.mp c1).1 (by omega)]; exact c1, State.isArrayOf_alike hA c2, c3⟩
theorem sm_Ex.same {z : Nat} {E : Nat → Nat} {ex : sm_O} {s U : State} (hv : s.vm = U.vm) (hh : U.heap = s.heap) (h : sm_Ex z E ex s) : sm_Ex z E ex U := by
  obtain ⟨h1, h2, h3, h4, ⟨⟨adV, g1⟩, g2, g3, g4, g5⟩, h6, h7⟩ := h
  have hA : s.vm.Alike U.vm := by rw [hv]; exact Vm.Alike.refl _
  refine ⟨fun w hw => sm_nest_same hv w hw (h1 w hw), h2.moved hA, h3.moved hA, h4.moved hA, ⟨⟨adV, by rw [hh]; exact g1.moved hA⟩, fun i hi => (g2 i hi).same hv.symm, g3, by rw [hh]; exact g4.moved hA, by rw [hh]; exact g5.moved hA⟩, by rw [hh]; exact h6.moved hA, fun o ho => ?_⟩
  obtain ⟨e1, cell, c1, c2, c3⟩ := h7 o ho
  exact ⟨e1, cell, by rw [hh]; exact c1, State.isArrayOf_alike hA c2, c3⟩
/-- a method's start -/
def sm_Pre (z : Nat) (E : Nat → Nat) (D : va_G) (ex : sm_O) (μ : sm_Mem) (U : State) : Prop := U.heap.size = z + μ.1 ∧ va_K D vwCl [] U ∧ sm_Ex z E ex U ∧ ∃ cA, sm_Rep z D cA μ U U.heap
theorem sm_Pre.same {z : Nat} {E : Nat → Nat} {D : va_G} {ex : sm_O} {μ : sm_Mem} {s U : State} (hv : s.vm = U.vm) (hh : U.heap = s.heap) (h : sm_Pre z E D ex μ s) : sm_Pre z E D ex μ U := by
  obtain ⟨h1, h2, h3, cA, h4⟩ := h
  have hA : s.vm.Alike U.vm := by rw [hv]; exact Vm.Alike.refl _
  exact ⟨by rw [hh]; exact h1, va_K.moved hA h2, h3.same hv hh, cA, by rw [hh]; exact h4.moved hA⟩
def sm_Pc (z : Nat) (E : Nat → Nat) (D : va_G) (ex : sm_O) (μ : sm_Mem) (as : List Value) : Array Value → State → Prop := fun a U => a = (as.map (sm_v z E)).toArray ∧ sm_Pre z E D ex μ U
def sm_Qc (z : Nat) (E : Nat → Nat) (D : va_G) (mc : Nat) (μ : sm_Mem) (Q : sm_Q) : Array Value → State → Outcome → State → Prop := fun _ st o t => (∃ (r : Option Value) (μ1 : sm_Mem) (cA : Nat → ClassId), o = .returned (r.map (sm_v z E)) ∧ Q r μ1 ∧ μ1.1 = μ.1 + mc ∧ sm_Rep z D cA μ1 t t.heap) ∧ va_F (z ≤ ·) st t
theorem sm_blind {z : Nat} {E : Nat → Nat} {D : va_G} {ex : sm_O} {μ : sm_Mem} {as : List Value} : FrameBlind (sm_Pc z E D ex μ as) := fun _ U _ _ q => ⟨q.1, sm_Pre.same (s := U) rfl rfl q.2⟩
set_option maxHeartbeats 1000000 in
theorem sm_met {ex : sm_O} {d mc ms k : Nat} {as : List Value} {μ : sm_Mem} {Q : sm_Q} (hk : k < sm_klaw) (has : sm_ct as ≤ sm_ml k) (hW : sm_W ex d mc ms k 0 (sm_en as (sm_ml k)) [] μ Q) (l0 : Launch) (z : Nat) (E : Nat → Nat) (D : va_G) :
    Met l0 (sm_y k) (sm_wk k) ({ frames := d, cells := mc, slots := ms, locals := 41 * d }) (sm_Pc z E D ex μ as) (sm_Qc z E D mc μ Q) mc ms (z ≤ ·) := by
  have hmk := sm_mk_f hk
  refine Met.ofW (cc := sm_by k) (maxL := sm_ml k) (ret := sm_rt k) hmk.2.2.1 rfl ?_
  intro p e s m args below meth c s₁ B hml hv
  obtain ⟨rfl, hsz, hK, hEx, cA, hR⟩ := hv
  have hts := atoms_spec (ws := sm_wk k) B.pre
  have hl := sm_L_entry z E as (sm_ml k) has
  rw [lg_entry_eq]
  generalize (lg_sl (as.map (sm_v z E)) ++ List.replicate (sm_ml k - (lg_sl (as.map (sm_v z E))).length) Slot.unset).toArray = ls at hl ⊢
  refine hW z E D p l0 e _ s m _ below meth c _ s.heap [] 0 0 cA ls ⟨B.exec, B.bytes, hml, (name_of_methodNamed B.named B.method).1, findClass_of_methodNamed B.named, fun w h => hts w (List.mem_cons_of_mem _ h), Nat.le_refl _, Nat.le_refl _, by omega, hK, hEx, ?_⟩ ⟨hR, by show 0 + mc = mc; omega, by show 0 + ms ≤ ms; omega, by omega, va_S.rf⟩ hl
  intro r μ1 H locs cells slots cA1 bc bs pc ls hY hbc hQ hri
  have hlocks := B.notSynchronized
  obtain ⟨hR1, hcb, hsb, hn, hS⟩ := hY
  have hbc : bc = 0 := hbc.elim id (fun q => absurd q (Nat.ne_of_lt hk))
  subst hbc
  have hce : cells = mc := hcb
  have hsl : slots ≤ ms := by have : slots + bs ≤ ms := hsb; omega
  subst hce
  have hpost : ∀ t : State, t.heap = H → s.WarmedH t.vm → sm_Qc z E D cells μ Q (as.map (sm_v z E)).toArray s (.returned (r.map (sm_v z E))) t := fun t ht hw => ⟨⟨r, μ1, cA1, rfl, hQ, by omega, by rw [ht]; exact hR1.moved hw.alike⟩, hS.F ht⟩
  refine W.widen (k := cells) (n := ms) (Nat.le_refl _) hsl ?_
  rcases hri with ⟨x, ty, rfl, hd, hrt, hna⟩ | ⟨x, rfl, hd, hrt⟩ | ⟨x, n, rfl, hd, hrt⟩ | ⟨rfl, hd, hrt⟩
  · exact W.zret (v := x) B.exec B.bytes (B.returns.trans hrt) hna hpost hS.2.2 hd
  · exact W.lret (v := x) B.exec B.bytes (B.returns.trans hrt) hpost hS.2.2 hd
  · exact W.aret (v := .ref (z + x)) B.exec B.bytes (B.returns.trans hrt) (Or.inl ⟨_, rfl⟩) (Or.inr ⟨_, rfl⟩) hpost hS.2.2 hd
  · exact W.vret B.exec B.bytes (B.returns.trans hrt) hpost hS.2.2 hd
/-- behind a call -/
theorem sm_callK {z : Nat} {E : Nat → Nat} {D : va_G} {ex : sm_O} {d bc bs k pc : Nat} {l : List (Option Value)} {μ : sm_Mem} {Q : sm_Q} {p : Program} {l0 : Launch} {e : Env} {R : Room} {s : State} {m : MethodId} {args : Array Value} {below : List Frame} {meth : Method} {c : Code} {Q' : State → Prop} {H : Heap} {locs : List Loc} {cells slots : Nat} {cA : Nat → ClassId} {ls : Array Slot} {c1 s1 : Nat} {st0 : List Value} {rest : List Value} {P : sm_Q} {a0 : Array Value}
    (hF : sm_Fix z E D ex d k Q p l0 e R s m args below meth c Q') (hY : sm_Dyn z D R s μ H locs cells slots cA bc bs) (hL : sm_L z E ls (sm_ml k) l) (h1 : c1 ≤ bc) (h2 : s1 ≤ bs)
    (hr : va_Run p l0 e R s m args below meth c H locs cells slots c1 s1 (F0 m pc ls st0) (rest.map (sm_v z E)) (sm_Qc z E D c1 μ P a0) (z ≤ ·))
    (hk : ∀ (r : Option Value) (μ1 : sm_Mem), P r μ1 → sm_W ex d (bc - c1) (bs - s1) k (pc + 3) l (r.toList ++ rest) μ1 Q) : W p l0 e R s m args below meth c H locs cells slots Q' (F0 m pc ls st0) := by
  intro T hT X
  obtain ⟨v, st₀, t, T', L, h0, X', hL', e1, e2, ⟨⟨r, μ1, cA1, hv, hP, hn1, hR1⟩, hz', hk'⟩, st⟩ := hr T hT X
  cases hv
  rw [h0] at hz' hk'
  obtain ⟨hR, hcb, hsb, hn, hS⟩ := hY
  have hal : s.vm.Alike t.vm := by rw [← e2]; exact X'.warmed.alike
  have hY1 : sm_Dyn z D R s μ1 T'.heap (locs ++ L) (cells + c1) (slots + s1) cA1 (bc - c1) (bs - s1) := by
    refine ⟨by rw [e1]; exact hR1.moved hal.symm, by omega, by omega, by omega, Nat.le_trans hS.1 (by rw [e1]; exact hz'), fun q g1 g2 => by rw [e1, hk' q (Nat.lt_of_lt_of_le g1 hS.1) g2]; exact hS.2.1 q g1 g2, fun q hq => ?_⟩
    rcases List.mem_append.mp hq with h | h
    · exact hS.2.2 q h
    · exact hL' q h
  have hw := hk r μ1 hP z E D p l0 e R s m args below meth c Q' T'.heap (locs ++ L) (cells + c1) (slots + s1) cA1 ls hF hY1 hL
  obtain ⟨t2, a1, b1⟩ := hw T' rfl X'
  refine ⟨t2, st t2 ?_, b1⟩
  rw [List.map_append] at a1
  cases r <;> exact a1
theorem sm_pre_at {z : Nat} {E : Nat → Nat} {D : va_G} {ex : sm_O} {d bc bs k : Nat} {μ : sm_Mem} {Q : sm_Q} {p : Program} {l0 : Launch} {e : Env} {R : Room} {s : State} {m : MethodId} {args : Array Value} {below : List Frame} {meth : Method} {c : Code} {Q' : State → Prop} {H : Heap} {locs : List Loc} {cells slots : Nat} {cA : Nat → ClassId}
    (hF : sm_Fix z E D ex d k Q p l0 e R s m args below meth c Q') (hY : sm_Dyn z D R s μ H locs cells slots cA bc bs) (hH : H.size = z + μ.1) (as : List Value) : ∀ U : State, U.heap = H → s.WarmedH U.vm → sm_Pc z E D ex μ as (as.map (sm_v z E)).toArray U := by
  intro U hU hW
  obtain ⟨hR, hcb, hsb, hn, hS⟩ := hY
  obtain ⟨hx, hb, hml, hnm, hown, hts, hfr, hlo, hz, hK, hEx, hret⟩ := hF
  exact ⟨rfl, by rw [hU]; exact hH, va_K.moved hW.alike hK, hEx.warm hW (fun a h1 h2 => by rw [hU]; exact hS.2.1 a h1 h2), cA, by rw [hU]; exact hR.moved hW.alike⟩
