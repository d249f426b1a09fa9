-- THE CLAIM
/-! THE CLAIM OUT OF ONE WALK OF THE LAW'S BODY. Your part is whole_start (and what it stands on); all else here is the same for every law, but numbers. -/
def R_law : String := "StatueReliefLaw"
def lw_P (b : Addr) (xs : List Int32) (args : Array Value) (s : State) : Prop := args = #[.ref b] ∧ s.IntsAt b xs ∧ xs.length ≤ 3072 ∧ (Jvm.Cond.and given_1 narrow_1).before args s = true
def lw_Q (_ : Array Value) (s : State) (o : Outcome) (t : State) : Prop := o = .returned (some (.int 1)) ∧ Framed s o t [] 600000 7302250
def lw_Z (below : List Frame) (a : Array Value) (s : State) : State → Prop := fun t => ∃ o, t.status = .running ∧ Ended t below o ∧ lw_Q a s o t
/-- the law's own end, with 1 on the stack, nothing written that was there before, its room as the claim has it -/
theorem lw_ret {p : Program} {l : Launch} {e : Env} {s : State} {m : MethodId} {below : List Frame} {meth : Method} {c : Code} {b : Nat} (hx : p.tables.exec = Jvm.exec) (hb : c.code = code) (hr : meth.sig.returnType = ret) (hlocks : meth.locks = false) {pc : Nat} {H : Heap} {ls : Array Slot} (hdg : decode code pc = .ok (.ireturn, 1)) : W p l e room_1 s m #[Value.ref b] below meth c H [] 600000 7302250 (lw_Z below #[Value.ref b] s) (F0 m pc ls [.int 1]) := by
  intro T hT X
  obtain ⟨fs, hret, hrun, hended, hW, hframe⟩ := X.leave (v := some (.int 1)) (hlocks := hlocks) (fun h => by rw [hr] at h; cases h)
  have hmeth' : T.vm.method? m = some meth := X.method'
  refine ⟨T.setFrames fs, ?_, .returned (some (.int 1)), hrun, hended, rfl, ⟨_, rfl⟩, hW, hframe⟩
  jvm_step X.here [X.here.top, hx, hb, hdg, hmeth', hr, ret, narrow_b1]
  (try refine ⟨rfl, ?_⟩); (try refine ⟨rfl, ?_⟩)
  first | (intro acts; rw [hret _ acts rfl rfl rfl]) | rw [hret _ _ rfl rfl rfl]
  exact Steps.refl _
/-- what holds at the law's entry: the machine, the code, the tables' words (any of lw_tbl by 'hts w (by decide +kernel)'), the script of L ints xs at the cell b, what the Statement gives of the start (any of its parts by flat_of_before) -/
def lw_At (p : Program) (s : State) (m : MethodId) (meth : Method) (c : Code) (b L : Nat) (xs : Nat → Int32) : Prop :=
  p.tables.exec = Jvm.exec ∧ c.code = code ∧ meth.sig.returnType = ret ∧ c.maxLocals = 4 ∧ s.vm.findClass R_law = some m.cls ∧ meth.name = x.name ∧ (∀ w ∈ lw_tbl, w.before #[Value.ref b] s = true) ∧ va_X b L xs s s.heap ∧ b < s.heap.size ∧ meth.locks = false ∧ (Jvm.Cond.and given_1 narrow_1).before #[Value.ref b] s = true
/-- the texts' terms -/
def st_tm (i : Nat) : Term := .string "StatueRelief$Reader" (sm_nth 0 sm_six i)
theorem st_ex : ∀ i : Nat, i < 9 → Cond.exactly (st_tm i) "java/lang/String" ∈ flatC (Jvm.Cond.and given_1 narrow_1) := by decide +kernel
theorem st_co : ∀ i : Nat, i < 9 → Cond.eq (.field (st_tm i) "java/lang/String" "coder" "B") (.int 0) ∈ flatC (Jvm.Cond.and given_1 narrow_1) := by decide +kernel
theorem st_ar : ∀ i : Nat, i < 9 → Cond.arrayOf (.field (st_tm i) "java/lang/String" "value" "[B") .byte ∈ flatC (Jvm.Cond.and given_1 narrow_1) := by decide +kernel
theorem st_le : ∀ i : Nat, i < 9 → Cond.eq (.length (.field (st_tm i) "java/lang/String" "value" "[B")) (.int (Int32.ofNat (sm_sl.getD i 0))) ∈ flatC (Jvm.Cond.and given_1 narrow_1) := by decide +kernel
theorem st_el : ∀ i : Nat, i < 9 → ∀ j : Nat, j < sm_sl.getD i 0 → Cond.eq (.elem (.field (st_tm i) "java/lang/String" "value" "[B") (.int (Int32.ofNat j))) (.int ((sm_sb.getD i []).getD j 0)) ∈ flatC (Jvm.Cond.and given_1 narrow_1) := by decide +kernel
theorem st_ne : ∀ i : Nat, i < 9 → ∀ j : Nat, j < 9 → i ≠ j → Cond.not (Cond.eq (st_tm i) (st_tm j)) ∈ flatC (Jvm.Cond.and given_1 narrow_1) ∨ Cond.not (Cond.eq (st_tm j) (st_tm i)) ∈ flatC (Jvm.Cond.and given_1 narrow_1) := by decide +kernel
theorem st_ta : Cond.arrayOf (.static "StatueRelief" "TERMS_MOST" "[I") .int ∈ flatC (Jvm.Cond.and given_1 narrow_1) := by decide +kernel
theorem st_tl : Cond.eq (.length (.static "StatueRelief" "TERMS_MOST" "[I")) (.int (Int32.ofNat 4)) ∈ flatC (Jvm.Cond.and given_1 narrow_1) := by decide +kernel
theorem st_te : ∀ j : Nat, j < 4 → Cond.eq (.elem (.static "StatueRelief" "TERMS_MOST" "[I") (.int (Int32.ofNat j))) (.int (sm_nth 0 [999, 10, 9, 99] j)) ∈ flatC (Jvm.Cond.and given_1 narrow_1) := by decide +kernel
theorem st_cs : Cond.eq (.static "java/lang/String" "COMPACT_STRINGS" "Z") (.int 1) ∈ flatC (Jvm.Cond.and given_1 narrow_1) := by decide +kernel
theorem st_sf : Cond.isRef (.static "jdk/internal/util/Preconditions" "SIOOBE_FORMATTER" "Ljava/util/function/BiFunction;") ∈ flatC (Jvm.Cond.and given_1 narrow_1) := by decide +kernel
def st_spl : List Nat := [576, 577, 669, 670, 689, 684, 683, 667, 668]
theorem st_sr : ∀ i : Nat, i < 9 → sm_wd (sm_nth 0 st_spl i) (.stringRef "StatueRelief$Reader" (sm_nth 0 sm_six i) (sm_nth "" sm_str i)) = true := by decide +kernel
theorem st_w0 : sm_wd 341 (.arrayOver (.object (sm_cn 0))) = true := by decide +kernel
theorem st_w1 : sm_wd 112 (.arrayOver (.object (sm_cn 6))) = true := by decide +kernel
theorem st_w2 : sm_wd 277 (.arrayOver (.object (sm_cn 9))) = true := by decide +kernel
theorem st_w3 : sm_wd 591 (.laysStatic "java/lang/String" "COMPACT_STRINGS" "Z") = true := by decide +kernel
theorem st_w4 : sm_wd 607 (.laysStatic "jdk/internal/util/Preconditions" "SIOOBE_FORMATTER" "Ljava/util/function/BiFunction;") = true := by decide +kernel
theorem st_w5 : sm_wd 35 (.laysStatic "StatueRelief" "TERMS_MOST" "[I") = true := by decide +kernel
theorem st_w6 : sm_wd 15 (.initialized "java/lang/String") = true := by decide +kernel
theorem st_w7 : sm_wd 17 (.initialized "jdk/internal/util/Preconditions") = true := by decide +kernel
theorem st_w8 : sm_wd 1 (.initialized "StatueRelief") = true := by decide +kernel
/-- what lies outside: the array of most words, the script, the texts -/
def st_out (L : Nat) (xs : Nat → Int32) : sm_O := (fun o => match o with
  | 0 => (4, fun j => sm_nth 0 [999, 10, 9, 99] j)
  | _ => (L, xs), fun i => sm_nth [] sm_sb (i - 2))
def st_E (t b : Nat) (adK : Nat → Nat) : Nat → Nat
  | 0 => t
  | 1 => b
  | i + 2 => adK i
theorem st_exOK (L : Nat) (xs : Nat → Int32) : exOK (st_out L xs) := ⟨rfl, rfl, rfl, rfl, rfl⟩
theorem st_txOK (L : Nat) (xs : Nat → Int32) : txOK (st_out L xs) := by
  refine ⟨?_, ?_, ?_, ?_, ?_, ?_, ?_, ?_, ?_⟩
  · show sm_nth [] sm_sb 0 = _
    decide +kernel
  · show sm_nth [] sm_sb 1 = _
    decide +kernel
  · show sm_nth [] sm_sb 2 = _
    decide +kernel
  · show sm_nth [] sm_sb 3 = _
    decide +kernel
  · show sm_nth [] sm_sb 4 = _
    decide +kernel
  · show sm_nth [] sm_sb 5 = _
    decide +kernel
  · show sm_nth [] sm_sb 6 = _
    decide +kernel
  · show sm_nth [] sm_sb 7 = _
    decide +kernel
  · show sm_nth [] sm_sb 8 = _
    decide +kernel
theorem st_Ex {s : State} {b L : Nat} {xs : Nat → Int32} (hts : ∀ w ∈ lw_tbl, w.before #[Value.ref b] s = true) (hX : va_X b L xs s s.heap) (hbl : b < s.heap.size) (hgv : (Jvm.Cond.and given_1 narrow_1).before #[Value.ref b] s = true) : ∃ E : Nat → Nat, E 1 = b ∧ sm_Ex s.heap.size E (st_out L xs) s := by
  have hs := flat_of_before _ hgv
  have hA : ∀ a : Nat, a < s.heap.size → ¬ (fun q : Nat => s.heap.size ≤ q) a := fun a h => Nat.not_le.mpr h
  have ht1 : ∀ w ∈ tables_1, w.before #[Value.ref b] s = true := fun w h => hts w (List.mem_append_right _ h)
  obtain ⟨adK, adV, hS, hK⟩ := vk_Sof (args := #[Value.ref b]) (s := s) (N := 9) (tm := st_tm) (len := sm_sl) (byt := sm_sb) (A := fun q : Nat => s.heap.size ≤ q) (by decide +kernel) (fun i hi => hs _ (st_ex i hi)) (fun i hi => hs _ (st_co i hi)) (fun i hi => hs _ (st_ar i hi)) (fun i hi => hs _ (st_le i hi)) (fun i hi j hj => hs _ (st_el i hi j hj)) (fun i j hi hj hij => (st_ne i hi j hj hij).elim (fun h => Or.inl (hs _ h)) (fun h => Or.inr (hs _ h))) hA
  obtain ⟨t, ht, hT⟩ := va_Tof (args := #[Value.ref b]) (s := s) (tm := (.static "StatueRelief" "TERMS_MOST" "[I")) (ty := .int) (N := 4) (f := fun j => .int (sm_nth 0 [999, 10, 9, 99] j)) (A := fun q : Nat => s.heap.size ≤ q) (by decide) (hs _ st_ta) (va_eqt (hs _ st_tl)) (fun j hj => va_eqt (hs _ (st_te j hj))) hA
  obtain ⟨cell, c1, c2, c3, c4, c5, c6, c7⟩ := hT
  refine ⟨st_E t b adK, rfl, fun w hw => ?_, va_AO.of (ht1 _ (sm_wd_tb st_w0)), va_AO.of (ht1 _ (sm_wd_tb st_w1)), va_AO.of (ht1 _ (sm_wd_tb st_w2)), ⟨⟨adV, hS⟩, fun i hi => vk_R.of (ht1 _ (sm_wd_tb (st_sr i hi))) (hK i hi), fun i hi => rfl, va_Zof (ht1 _ (sm_wd_tb st_w3)) (ht1 _ (sm_wd_tb st_w6)) (va_eqi (hs _ st_cs)) hA, va_Zqof (ht1 _ (sm_wd_tb st_w4)) (ht1 _ (sm_wd_tb st_w7)) (hs _ st_sf) hA⟩, va_Zref (ht1 _ (sm_wd_tb st_w5)) (ht1 _ (sm_wd_tb st_w8)) ht hA, fun o ho => ?_⟩
  · obtain ⟨h1, h2⟩ := List.mem_filter.mp hw
    cases w <;> first | exact va_Nw.of rfl (ht1 _ h1) | exact absurd h2 (by simp)
  · rcases (show o = 0 ∨ o = 1 by omega) with rfl | rfl
    · exact ⟨Nat.not_le.mp c7, cell, c1, c2, c3, ⟨c4, c5⟩, c6⟩
    · obtain ⟨scr, d1, d2, d3, d4, d5⟩ := hX
      exact ⟨hbl, scr, d1, d2, d3, ⟨Nat.le_of_eq d4.symm, by rw [d4]; rfl⟩, d5⟩
theorem st_K {s : State} {b : Nat} (hts : ∀ w ∈ lw_tbl, w.before #[Value.ref b] s = true) : ∃ D : va_G, va_K D vwCl [] s := by
  have hal : ∀ w ∈ sm_all, w.before #[Value.ref b] s = true := fun w h => hts w (List.mem_filter.mp h).1
  have h0 : ∀ a : Nat, ∃ q : ClassId × (Nat → Nat), a < 12 → u_Kn s (sm_cn a) (sm_T0 a) (sm_nf a) q.1 q.2 := by
    intro a
    by_cases ha : a < 12
    · obtain ⟨cC, iS, h⟩ := u_known (C := sm_cn a) (T := sm_T0 a) (N := sm_nf a) (n := sm_nf a) hal (sm_cls_w ha) (hal _ (sm_cls_i ha).1)
      exact ⟨(cC, iS), fun _ => h⟩
    · exact ⟨(0, fun _ => 0), fun h => absurd h ha⟩
  obtain ⟨f, hf⟩ := Classical.axiomOfChoice h0
  refine ⟨(fun a => (f a).1, fun a => (f a).2), fun a q hq => ?_, fun k q h => by simp at h⟩
  obtain ⟨ha, rfl⟩ := sm_cls_of hq
  exact hf a ha
set_option maxHeartbeats 4000000 in
/-- from the entry, for every script of at most 3072 ints, the law comes to its end with true -/
theorem whole_start {p : Program} {e : Env} {s : State} {m : MethodId} {below : List Frame} {meth : Method} {c : Code} (l : Launch) {b L : Nat} {xs : Nat → Int32} (hL : L ≤ 3072) (C0 : lw_At p s m meth c b L xs) : W p l e room_1 s m #[Value.ref b] below meth c s.heap [] 0 0 (lw_Z below #[Value.ref b] s) (entryFrame m ([Value.ref b] : List Value).toArray 4) := by
  obtain ⟨hx, hb, hr, hml, hown, hnm, hts, hX, hbl, hlocks, hgv⟩ := C0
  obtain ⟨E, hE1, hEx⟩ := st_Ex hts hX hbl hgv
  obtain ⟨D, hK⟩ := st_K hts
  have hl := sm_L_entry s.heap.size E [.retAddr 1] 4 (Nat.le_of_ble_eq_true rfl)
  have hv : ([Value.retAddr 1] : List Value).map (sm_v s.heap.size E) = [.ref b] := by rw [← hE1]; rfl
  rw [hv] at hl
  rw [lg_entry_eq]
  generalize (lg_sl ([.ref b]) ++ List.replicate (4 - (lg_sl ([.ref b])).length) Slot.unset).toArray = ls at hl ⊢
  have hW : sm_W (st_out L xs) 60 600000 7302250 241 0 [some (.retAddr 1), none, none, none] [] (0, fun _ => none, fun _ _ => 0, fun _ _ => 0, fun _ _ => none) (fun r _ => r = some (.int 1)) := law_full (Nat.le_refl _) (st_exOK L xs) (st_txOK L xs) (by decide) (show L ≤ 100000 by omega) (fun _ => rfl) (by decide) (by decide)
  refine hW s.heap.size E D p l e room_1 s m #[Value.ref b] below meth c _ s.heap [] 0 0 (fun _ => 0) ls ⟨hx, hb, hml, hnm, hown, fun w h => hts w (List.mem_filter.mp h).1, (by decide), (by decide), Nat.le_refl _, hK, hEx, ?_⟩ ⟨⟨fun o t n h => (by cases h), fun k q h => by simp [sm_ws] at h, fun o => ⟨fun h => absurd rfl h, fun h => absurd h (Nat.not_lt_zero _)⟩, fun o j _ => ⟨rfl, rfl, rfl⟩⟩, rfl, Nat.le_refl _, rfl, va_S.rf⟩ hl
  intro r μ H locs cells slots cA bc bs pc ls hY _ hQ hri
  obtain ⟨-, hcb, hsb, -, hS⟩ := hY
  subst hQ
  refine va_forget (fun q hq => hS.2.2 q hq) ?_
  refine W.widen (k := 600000) (n := 7302250) (by have : cells + bc = 600000 := hcb; omega) (by have : slots + bs ≤ 7302250 := hsb; omega) ?_
  rcases hri with ⟨x, ty, h1, hd, -, -⟩ | ⟨x, h1, -, -⟩ | ⟨x, n, h1, -, -⟩ | ⟨h1, -, -⟩
  · exact lw_ret hx hb hr hlocks hd
  · cases h1
  · cases h1
  · cases h1
set_option maxHeartbeats 4000000 in
theorem lw_walk (l : Launch) (b : Addr) (xs : List Int32) : MetFree l x (headSpec (Jvm.Cond.code x code maxLocals ret :: tables_1) room_1) (lw_P b xs) (fun _ _ _ _ _ => True) lw_Q := by
  refine MetFree.of_bodyS (code := code) (maxLocals := maxLocals) (ret := ret) (by decide) ?_ ?_
  · intro args s m h hn
    obtain ⟨meth, c, h1, h2, h3, h4, h5, h6, -, -⟩ := Cond.code_spec hn (atoms_spec (ws := Jvm.Cond.code x code maxLocals ret :: tables_1) h _ List.mem_cons_self)
    exact ⟨meth, c, h1, h2, h3, h4, h5, h6⟩
  · intro p e s m args below meth c s₁ B hml0 hP _
    obtain ⟨rfl, hx, hbd, hgv⟩ := hP
    obtain ⟨scr, harrAt, hlist, hof, hsmall⟩ := hx
    obtain ⟨hcb, hkn, -, -⟩ := State.arrayAt?_spec harrAt
    have hown : s.vm.findClass R_law = some m.cls := findClass_of_methodNamed B.named
    have hts0 : ∀ c ∈ (Jvm.Cond.code x code maxLocals ret :: tables_1), c.before #[Value.ref b] s = true := atoms_spec (ws := Jvm.Cond.code x code maxLocals ret :: tables_1) B.pre
    have hts : ∀ w ∈ lw_tbl, w.before #[Value.ref b] s = true := k2_hts_sels lw_privs (fun w hw => hts0 w (List.mem_cons_of_mem _ hw)) lw_privs_ok
    have hml : c.maxLocals = 4 := B.maxLocals_eq (hts0 _ List.mem_cons_self)
    have X₀ : Stand p l e room_1 s m #[Value.ref b] below meth c s₁ [] 0 0 := Stand.of_body B
    have hh0 : s₁.heap = s.heap := by rw [B.state]; rfl
    have hsz : scr.slots.size = xs.length := by rw [← Array.length_toList, hlist, List.length_map]
    have hval : ∀ j : Nat, j < xs.length → scr.slots[j]? = some (.int (xs.getD j 0)) := fun j hj => by
      rw [← Array.getElem?_toList, hlist]
      simp [hj]
    have hbl : b < s.heap.size := (Array.getElem?_eq_some_iff.mp hcb).1
    have hX : va_X b xs.length (fun j => xs.getD j 0) s s.heap := ⟨scr, hcb, hof, hkn, hsz, hval⟩
    have K : W p l e room_1 s m #[Value.ref b] below meth c s₁.heap [] 0 0 (lw_Z below #[Value.ref b] s) (entryFrame m ([Value.ref b] : List Value).toArray 4) := by
      rw [hh0]
      exact whole_start l hbd ⟨B.exec, B.bytes, B.returns, hml, hown, (name_of_methodNamed B.named B.method).1, hts, hX, hbl, B.notSynchronized, hgv⟩
    obtain ⟨t, a1, o, b1, b2, b3⟩ := K s₁ rfl X₀
    exact ⟨t, o, a1, b1, b2, b3⟩
theorem lw_pre_spec {args : Array Value} {s : State} (h : (Jvm.Cond.and given_1 narrow_1).before args s = true) (hr : rest_1_c.before args s = true) : ∃ (b : Addr) (xs : List Int32), lw_P b xs args s := by
  have hs := flat_of_before _ h
  have hq := flat_of_before _ hr
  have hc : (Cond.count 1).before args s = true := hs _ (by decide +kernel)
  have harr : (Cond.arrayOf (.arg 0) .int).before args s = true := hs _ (by decide +kernel)
  have hle : (Cond.le (.length (.arg 0)) (.int 3072)).before args s = true := hs _ (by decide +kernel)
  have hlen : (Cond.isInt (.length (.arg 0))).before args s = true := hq _ (by decide +kernel)
  have hall : (Cond.all (.arg 0) (.isInt (.elem (.arg 0) (.index 0)))).before args s = true := hq _ (by decide +kernel)
  obtain ⟨b, xs, hb, hx⟩ := State.ints_of_pre rfl harr hlen hall
  have hsm : xs.length < 2 ^ 31 := hx.choose_spec.2.2.2
  have hev : (Term.length (.arg 0)).eval args s none [] s = some (.int xs.length.toInt32) := hx.length_eval hb
  have hv := Cond.le_ints hev (show (Term.int 3072).eval args s none [] s = some (.int 3072) from rfl)
  have hd : xs.length.toInt32 ≤ 3072 := by
    simpa [Cond.before, Cond.holds, hv] using hle
  have hN : xs.length ≤ 3072 := (Int32.ofNat_le_ofNat hsm (by decide)).mp (show Int32.ofNat xs.length ≤ Int32.ofNat 3072 from hd)
  exact ⟨b, xs, Cond.one_arg hc (show args[0]? = some (.ref b) from hb), hx, hN, h⟩
theorem lw_comes (l : Launch) : Comes l x (Jvm.Cond.code x code maxLocals ret :: tables_1) room_1 (fun tb e args s => Calls_1 tb e args s ∧ rest_1 tb e args s ∧ Pre_1 tb e args s)
    (fun _ _ args s o t => lw_Q args s o t) := by
  intro p e ha hc hk s m args below hf hfit hheap happ hpre
  obtain ⟨b, xs, hP⟩ := lw_pre_spec hpre.2.2 hpre.2.1
  obtain ⟨k, o, h1, h2, h3, hQ⟩ := lw_walk l b xs p e ha hc hk s m args below hf ((Spec.applies_iff_loose hf).mp happ).1 hP trivial
  exact ⟨k, o, h1, h2, h3, hQ⟩
theorem lw_frame {s t : State} {o : Outcome} {args : Array Value} (h : Framed s o t [] 600000 7302250) :
    Framed s o t (fieldLocs frame_1_writes args s ++ arrayLocs frame_1_arrays args s ++ staticLocs frame_1_statics s) 600000 7302250 := h
theorem lw_limb (L : Cond) (hL : ∀ (args : Array Value) (s t : State), L.after args s (.returned (some (.int 1))) t = true) :
    ArmFor flags0 classFile x code maxLocals ret World_1 tables_1 room_1 Calls_1 rest_1 Pre_1
      (fun tb e a s o t => postC L tb e a s o t ∧ Framed s o t (fieldLocs frame_1_writes a s ++ arrayLocs frame_1_arrays a s ++ staticLocs frame_1_statics s) 600000 7302250) := by
  intro l _ _ _ p e ha hc hk s m args below hf hfit hheap happ hpre
  obtain ⟨k, o, h1, h2, h3, rfl, hF⟩ := lw_comes l p e ha hc hk s m args below hf hfit hheap happ hpre
  exact ⟨k, _, h1, h2, h3, hL args s _, lw_frame hF⟩
theorem i_vc : Claimed_1_1 ∧ Claimed_1_2 := ⟨lw_limb limb_1_1 (fun args s t => by simp [limb_1_1, Cond.after, Cond.holds, Cond.value]), lw_limb limb_1_2 (fun args s t => Cond.after_iff.mpr (by
  first | (rw [show limb_1_2 = Cond.eq .result (.int 1) from rfl, Cond.eq_ints (x := 1) (y := 1) rfl rfl]; simp; done) | (simp [limb_1_2, Cond.value, Term.eval]; done)))⟩
