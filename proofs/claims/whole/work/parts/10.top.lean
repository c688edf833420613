def R_law : String := "FieldCutterLaw"
def lw_P (b : Addr) (xs : List Int32) (args : Array Value) (s : State) : Prop := args = #[.ref b] ∧ s.IntsAt b xs ∧ xs.length ≤ 3584 ∧ (Jvm.Cond.and given_1 narrow_1).before args s = true
def lw_Q (_ : Array Value) (s : State) (o : Outcome) (t : State) : Prop := o = .returned (some (.int 1)) ∧ Framed s o t [] 600000 7302250
def lw_Z (below : List Frame) (a : Array Value) (s : State) : State → Prop := fun t => ∃ o, t.status = .running ∧ Ended t below o ∧ lw_Q a s o t
/-- the law's own end, with 1 on the stack, nothing written that was there before, its room as the claim has it -/
theorem lw_ret {p : Program} {l : Launch} {e : Env} {s : State} {m : MethodId} {below : List Frame} {meth : Method} {c : Code} {b : Nat} (hx : p.tables.exec = Jvm.exec) (hb : c.code = code) (hr : meth.sig.returnType = ret) (hlocks : meth.locks = false) {pc : Nat} {H : Heap} {ls : Array Slot} (hdg : decode code pc = .ok (.ireturn, 1)) : W p l e room_1 s m #[Value.ref b] below meth c H [] 600000 7302250 (lw_Z below #[Value.ref b] s) (F0 m pc ls [.int 1]) := by
  intro T hT X
  obtain ⟨fs, hret, hrun, hended, hW, hframe⟩ := X.leave (v := some (.int 1)) (hlocks := hlocks) (fun h => by rw [hr] at h; cases h)
  have hmeth' : T.vm.method? m = some meth := X.method'
  refine ⟨T.setFrames fs, ?_, .returned (some (.int 1)), hrun, hended, rfl, ⟨_, rfl⟩, hW, hframe⟩
  jvm_step X.here [X.here.top, hx, hb, hdg, hmeth', hr, ret, narrow_b1]
  (try refine ⟨rfl, ?_⟩); (try refine ⟨rfl, ?_⟩)
  first | (intro acts; rw [hret _ acts rfl rfl rfl]) | rw [hret _ _ rfl rfl rfl]
  exact Steps.refl _
/-- what holds at the law's entry: the machine, the code, the tables' words (any of lw_tbl by 'hts w (by decide +kernel)'), the script of L ints xs at the cell b, what the Statement gives of the start (any of its parts by flat_of_before) -/
def lw_At (p : Program) (s : State) (m : MethodId) (meth : Method) (c : Code) (b L : Nat) (xs : Nat → Int32) : Prop :=
  p.tables.exec = Jvm.exec ∧ c.code = code ∧ meth.sig.returnType = ret ∧ c.maxLocals = 4 ∧ s.vm.findClass R_law = some m.cls ∧ (∀ w ∈ lw_tbl, w.before #[Value.ref b] s = true) ∧ va_X b L xs s s.heap ∧ b < s.heap.size ∧ meth.locks = false ∧ (Jvm.Cond.and given_1 narrow_1).before #[Value.ref b] s = true
/-! ===== the law from the judgement over the typed memory ===== -/
def mLaw : mM := (yL_law, code, 4, some .boolean)
theorem mNst_in : ∀ q ∈ mNst, Cond.methodLinkNest q.1 q.2.1 q.2.2 "FieldCutter" ∈ lw_tbl := by
  intro q hq
  have h : mNst.map (fun q => Cond.methodLinkNest q.1 q.2.1 q.2.2 "FieldCutter") = ([158, 188, 195, 248, 304, 341, 375, 406, 419, 538, 545, 664, 737, 831, 832, 833, 834, 840, 859, 898, 922, 936, 943, 1150, 1231] : List Nat).filterMap (fun i => lw_tbl[i]?) := by decide +kernel
  have h1 : Cond.methodLinkNest q.1 q.2.1 q.2.2 "FieldCutter" ∈ mNst.map (fun q => Cond.methodLinkNest q.1 q.2.1 q.2.2 "FieldCutter") := List.mem_map.mpr ⟨q, hq, rfl⟩
  rw [h] at h1
  obtain ⟨i, -, hi⟩ := List.mem_filterMap.mp h1
  exact List.mem_of_getElem? hi
theorem mInst (ci : Nat) (h : ci < 13) : Cond.instantiable (mCn ci) (mCz ci) ∈ mTbl := by
  match ci, h with
  | 0, _ => exact mTbl_in 303 (by decide +kernel) rfl
  | 1, _ => exact mTbl_in 157 (by decide +kernel) rfl
  | 2, _ => exact mTbl_in 340 (by decide +kernel) rfl
  | 3, _ => exact mTbl_in 240 (by decide +kernel) rfl
  | 4, _ => exact mTbl_in 930 (by decide +kernel) rfl
  | 5, _ => exact mTbl_in 405 (by decide +kernel) rfl
  | 6, _ => exact mTbl_in 643 (by decide +kernel) rfl
  | 7, _ => exact mTbl_in 187 (by decide +kernel) rfl
  | 8, _ => exact mTbl_in 247 (by decide +kernel) rfl
  | 9, _ => exact mTbl_in 418 (by decide +kernel) rfl
  | 10, _ => exact mTbl_in 374 (by decide +kernel) rfl
  | 11, _ => exact mTbl_in 149 (by decide +kernel) rfl
  | 12, _ => exact mTbl_in 1251 (by decide +kernel) rfl
  | n + 13, h => omega
theorem mInit (ci : Nat) (h : ci < 13) : Cond.initialized (mCn ci) ∈ mTbl := by
  match ci, h with
  | 0, _ => exact mTbl_in 135 (by decide +kernel) rfl
  | 1, _ => exact mTbl_in 131 (by decide +kernel) rfl
  | 2, _ => exact mTbl_in 136 (by decide +kernel) rfl
  | 3, _ => exact mTbl_in 133 (by decide +kernel) rfl
  | 4, _ => exact mTbl_in 146 (by decide +kernel) rfl
  | 5, _ => exact mTbl_in 138 (by decide +kernel) rfl
  | 6, _ => exact mTbl_in 144 (by decide +kernel) rfl
  | 7, _ => exact mTbl_in 132 (by decide +kernel) rfl
  | 8, _ => exact mTbl_in 134 (by decide +kernel) rfl
  | 9, _ => exact mTbl_in 139 (by decide +kernel) rfl
  | 10, _ => exact mTbl_in 137 (by decide +kernel) rfl
  | 11, _ => exact mTbl_in 130 (by decide +kernel) rfl
  | 12, _ => exact mTbl_in 140 (by decide +kernel) rfl
  | n + 13, h => omega
theorem wAc13 : Cond.arrayClass .byte ∈ mTbl := mTbl_in 182 (by decide +kernel) rfl
theorem wAc14 : Cond.arrayClass .int ∈ mTbl := mTbl_in 184 (by decide +kernel) rfl
theorem wAc15 : Cond.arrayClass .long ∈ mTbl := mTbl_in 183 (by decide +kernel) rfl
theorem wAc16 : Cond.arrayClass .boolean ∈ mTbl := mTbl_in 185 (by decide +kernel) rfl
theorem wAo17 : Cond.arrayOver (.object RX8) ∈ lw_tbl := List.mem_of_getElem? (i := 246) (by decide +kernel)
theorem wAo18 : Cond.arrayOver (.object RX9) ∈ lw_tbl := List.mem_of_getElem? (i := 301) (by decide +kernel)
theorem wAo19 : Cond.arrayOver (.object RX6) ∈ lw_tbl := List.mem_of_getElem? (i := 253) (by decide +kernel)
theorem wAo20 : Cond.arrayOver (.object RX4) ∈ lw_tbl := List.mem_of_getElem? (i := 255) (by decide +kernel)
theorem wAo21 : Cond.arrayOver (.array .long) ∈ lw_tbl := List.mem_of_getElem? (i := 193) (by decide +kernel)
theorem wCstJ : Cond.castable "[J" "java/lang/Cloneable" ∈ lw_tbl := List.mem_of_getElem? (i := 660) (by decide +kernel)
theorem wCstI : Cond.castable "[I" "java/lang/Cloneable" ∈ lw_tbl := List.mem_of_getElem? (i := 1037) (by decide +kernel)
theorem mAO_long {args : Array Value} {s : State} (h : (Cond.arrayOver (.array .long)).before args s = true) : ∃ c k comp, s.vm.findClass ("[" ++ (FieldType.array .long).toString) = some c ∧ s.vm.classes[c]? = some k ∧ k.kind = .array comp (.array .long) := by
  unfold Cond.before Cond.holds at h
  simp only [Cond.value] at h
  cases hc : s.vm.findClass (FieldType.array .long).toString with
  | none => simp [hc] at h
  | some comp =>
    simp only [hc, Option.bind_some] at h
    generalize hi : Array.findIdx? _ s.vm.classes = oi at h
    cases oi with
    | none => simp at h
    | some c =>
      simp only [Option.bind_some] at h
      cases hk : s.vm.classes[c]? with
      | none => rw [hk] at h; simp at h
      | some k =>
        rw [hk] at h
        simp only [Option.map_some] at h
        cases hkind : k.kind with
        | array comp2 ty =>
          rw [hkind] at h
          simp at h
          exact ⟨c, k, comp2, h.2, hk, by rw [hkind, h.1]⟩
        | _ => rw [hkind] at h; simp at h
theorem mKX_start {args : Array Value} {s : State} (hts : ∀ w ∈ lw_tbl, w.before args s = true) : ∃ (D : va_G) (aC : Nat → ClassId), mKX D aC s := by
  have htm : ∀ w ∈ mTbl, w.before args s = true := fun w hw => hts w (List.mem_filter.mp hw).1
  have h1 : ∀ ci, ∃ q : ClassId × (Nat → Nat), ci < 13 → u_Kn s (mCn ci) (mCt ci) (mCz ci) q.1 q.2 := by
    intro ci
    by_cases hc : ci < 13
    · obtain ⟨cC, iS, hk⟩ := u_known (n := mCz ci) htm (mCls ci hc).2.1 (htm _ (mInst ci hc))
      exact ⟨(cC, iS), fun _ => hk⟩
    · exact ⟨(0, fun _ => 0), fun q => absurd q hc⟩
  have hprim : ∀ ty : FieldType, (Cond.arrayClass ty).before args s = true → ∃ cA, ArrOfT s cA ty ∧ s.vm.findClass ("[" ++ ty.toString) = some cA := by
    intro ty h
    obtain ⟨c, k, comp, q1, q2, q3⟩ := Cond.arrayClass_spec h
    exact ⟨c, fun N z => ⟨(fun k h => by cases h), k, q2, comp, q3⟩, q1⟩
  have hobj : ∀ C : String, (Cond.arrayOver (.object C)).before args s = true → ∃ cA, ArrOfT s cA (.object C) ∧ va_RA s cA (.object C) := by
    intro C h
    obtain ⟨comp, c, k, q1, q2, q3, q4, q5⟩ := Cond.arrayOver_spec h
    exact ⟨c, fun N z => ⟨(fun k h => by cases h), k, q3, comp, q4⟩, k, comp, q3, q4, q1, q5⟩
  have h2 : ∀ kd, ∃ cA, 13 ≤ kd → kd < 22 → ArrOfT s cA (mAy kd) ∧ va_RA s cA (mAy kd) := by
    intro kd
    by_cases hc : 13 ≤ kd ∧ kd < 22
    · have : ∃ cA, ArrOfT s cA (mAy kd) ∧ va_RA s cA (mAy kd) := by
        match kd, hc with
        | 13, _ => exact hprim .byte (htm _ wAc13)
        | 14, _ => exact hprim .int (htm _ wAc14)
        | 15, _ => exact hprim .long (htm _ wAc15)
        | 16, _ => exact hprim .boolean (htm _ wAc16)
        | 17, _ => exact hobj RX8 (hts _ wAo17)
        | 18, _ => exact hobj RX9 (hts _ wAo18)
        | 19, _ => exact hobj RX6 (hts _ wAo19)
        | 20, _ => exact hobj RX4 (hts _ wAo20)
        | 21, _ =>
          obtain ⟨c, k, comp, q1, q2, q3⟩ := mAO_long (hts _ wAo21)
          exact ⟨c, fun N z => ⟨(fun k h => by cases h), k, q2, comp, q3⟩, q1⟩
        | n + 22, h => omega
      obtain ⟨cA, h⟩ := this
      exact ⟨cA, fun _ _ => h⟩
    · exact ⟨0, fun q1 q2 => absurd ⟨q1, q2⟩ hc⟩
  obtain ⟨f, hf⟩ := Classical.skolem.mp h1
  obtain ⟨aC, haC⟩ := Classical.skolem.mp h2
  refine ⟨(fun ci => (f ci).1, fun ci => (f ci).2), aC, ⟨fun c q hq => ?_, fun k q hk => ?_⟩, fun q hq => va_Nw.of rfl (hts _ (mNst_in q hq)), fun C hC => ?_, va_Nw.of rfl (hts _ wCstJ), va_Nw.of rfl (hts _ wCstI), hts _ wAo21⟩
  · have hc : c < 13 := (List.getElem?_eq_some_iff.mp hq).1
    rw [(mCls c hc).1] at hq
    cases hq
    exact hf c hc
  · have hc : k < 9 := by
      have := (List.getElem?_eq_some_iff.mp hk).1
      simpa [mTys] using this
    have e := mTys_at aC (kd := 13 + k) (by omega) (by omega)
    rw [show 13 + k - 13 = k by omega] at e
    rw [e] at hk
    cases hk
    exact haC (13 + k) (by omega) (by omega)
  · have : C = RX8 ∨ C = RX9 ∨ C = RX6 ∨ C = RX4 := by simpa using hC
    rcases this with rfl | rfl | rfl | rfl
    · exact va_AO.of (hts _ wAo17)
    · exact va_AO.of (hts _ wAo18)
    · exact va_AO.of (hts _ wAo19)
    · exact va_AO.of (hts _ wAo20)
/-- the memory as the law begins -/
def h0 (L : Nat) (xs : Nat → Int32) : mH := ((0, 0), (fun x => if x = scrA then (99, L) else (0, 0)), (fun x y => if x = scrA then xs y else 0), (fun _ _ => 0), (fun _ _ => none))
theorem law_of {p : Program} {e : Env} {s : State} {m : MethodId} {below : List Frame} {meth : Method} {c : Code} (l : Launch) {b L : Nat} {xs : Nat → Int32} (C0 : lw_At p s m meth c b L xs)
    (w : Wp mLaw 13 554 0 [some (.ref scrA), none, none, none] [] (h0 L xs) (fun r h' => r = some (.int 1) ∧ hN h' ≤ 600000 ∧ hU h' ≤ 7302250)) :
    W p l e room_1 s m #[Value.ref b] below meth c s.heap [] 0 0 (lw_Z below #[Value.ref b] s) (entryFrame m ([Value.ref b] : List Value).toArray 4) := by
  obtain ⟨hx, hb, hr, hml, hown, hts, hX, hbl, hlocks, hgv⟩ := C0
  obtain ⟨D, aC, hKX⟩ := mKX_start hts
  obtain ⟨r, h', E, rfl, hn, hu⟩ := w
  have hl := lv_entry ([.ref b]) (n := 4) (Nat.le_of_ble_eq_true rfl)
  rw [lg_entry_eq]
  generalize (lg_sl ([.ref b]) ++ List.replicate (4 - (lg_sl ([.ref b])).length) Slot.unset).toArray = ls at hl ⊢
  have hL : mL b s.heap.size ls 4 [some (.ref scrA), none, none, none] := by
    refine ⟨hl.1, hl.2.1, fun k v hk => ?_⟩
    match k, hk with
    | 0, hk =>
      cases hk
      have := hl.2.2 (0, .ref b) List.mem_cons_self
      rw [show mV b s.heap.size (.ref scrA) = .ref b by show Value.ref (mAd b s.heap.size scrA) = _; unfold mAd; rw [if_pos rfl]]
      exact this
    | 1, hk => cases hk
    | 2, hk => cases hk
    | 3, hk => cases hk
    | k + 4, hk => simp at hk
  have C : mCx mLaw p room_1 s m #[Value.ref b] meth c D aC b s.heap.size L xs 13 554 :=
    ⟨hx, hb, hr, hml, hown, fun w hw => hts w (List.mem_filter.mp hw).1, hlocks, fun h9 => absurd h9 (by decide), hKX, hX, hbl, Nat.le_refl _, Nat.le_refl _, Nat.le_refl _⟩
  have hR : mR D aC b s.heap.size L xs s (h0 L xs) s.heap [] := by
    refine ⟨fun k q hk => ?_, va_S.rf, rfl, ?_, ?_⟩
    · have := (List.getElem?_eq_some_iff.mp hk).1
      rw [mW_len] at this
      exact absurd this (Nat.not_lt_zero _)
    · show (if scrA = scrA then (99, L) else (0, 0)) = _
      rw [if_pos rfl]
    · funext y
      show (if scrA = scrA then xs y else 0) = _
      rw [if_pos rfl]
  have hz : hN h' ≤ scrA := Nat.le_trans hn (Nat.le_of_ble_eq_true rfl)
  have e0 : hN (h0 L xs) = 0 := rfl
  have e1 : hU (h0 L xs) = 0 := rfl
  refine E.2 p l e room_1 s m _ below meth c D aC b s.heap.size L xs s.heap [] 0 0 _ ls C hz (by rw [e0]; show 0 + (hN h' - 0) ≤ 600000; omega) (by rw [e1]; show 0 + (hU h' - 0) ≤ 7302250; omega) hR hL ?_
  intro H' locs' pc' ls' hR' hok hd
  refine va_forget (fun q hq => hR'.2.1.2.2 q hq) ?_
  refine W.widen (k := 600000) (n := 7302250) (by rw [e0]; omega) (by rw [e1]; omega) ?_
  exact lw_ret hx hb hr hlocks hd
