/-! ===== calls: a method's judgement at its entry is its contract ===== -/
def mEl : List Value → List (Option Value)
  | [] => []
  | v :: r => if v.category = 2 then some v :: none :: mEl r else some v :: mEl r
/-- the locals at the entry -/
def mEn (n : Nat) (as : List Value) : List (Option Value) := mEl as ++ List.replicate (n - (mEl as).length) none
theorem mEl_at (b B : Nat) : ∀ (as : List Value) (i k : Nat) (v : Value), (mEl as)[k]? = some (some v) → (i + k, mV b B v) ∈ lv_args i (as.map (mV b B))
  | [], i, k, v, h => by simp [mEl] at h
  | w :: r, i, 0, v, h => by
    have e : w = v := by
      unfold mEl at h
      split at h <;> simpa using h
    subst e
    exact List.mem_cons_self
  | w :: r, i, k + 1, v, h => by
    refine List.mem_cons_of_mem _ ?_
    unfold mEl at h
    rw [mV_cat]
    by_cases hc : w.category = 2
    · rw [if_pos hc] at h ⊢
      rw [List.getElem?_cons_succ] at h
      match k, h with
      | 0, h => simp at h
      | k + 1, h =>
        rw [List.getElem?_cons_succ] at h
        have := mEl_at b B r (i + 2) k v h
        rwa [show i + 2 + k = i + (k + 1 + 1) by omega] at this
    · rw [if_neg hc] at h ⊢
      rw [List.getElem?_cons_succ] at h
      have := mEl_at b B r (i + 1) k v h
      rwa [show i + 1 + k = i + (k + 1) by omega] at this
theorem mEl_len (b B : Nat) : ∀ as : List Value, (lg_sl (as.map (mV b B))).length = (mEl as).length
  | [] => rfl
  | v :: r => by
    have ih := mEl_len b B r
    unfold lg_sl at ih ⊢
    rw [List.map_cons, List.flatMap_cons, List.length_append, ih, mV_cat]
    rw [show mEl (v :: r) = (if v.category = 2 then some v :: none :: mEl r else some v :: mEl r) from rfl]
    split
    · simp; omega
    · simp; omega
def mPc (D : va_G) (aC : Nat → ClassId) (b B L : Nat) (xs : Nat → Int32) (as : List Value) (h : mH) : Array Value → State → Prop := fun v U =>
  v = (as.map (mV b B)).toArray ∧ va_P D vwCl (mW aC (mAd b B) h) U.heap ∧ U.heap.size = B + hN h ∧ hK h scrA = (99, L) ∧ hI h scrA = xs ∧ mKX D aC U ∧ va_X b L xs U U.heap
def mQc (D : va_G) (aC : Nat → ClassId) (b B L : Nat) (xs : Nat → Int32) (r : Option Value) (h' : mH) : Array Value → State → Outcome → State → Prop := fun _ st oc t =>
  oc = .returned (r.map (mV b B)) ∧ va_P D vwCl (mW aC (mAd b B) h') t.heap ∧ t.heap.size = B + hN h' ∧ hK h' scrA = (99, L) ∧ hI h' scrA = xs ∧ st.heap.size ≤ t.heap.size ∧ ∀ q : Nat, q < st.heap.size → ¬ B ≤ q → t.heap[q]? = st.heap[q]?
/-- what is said of a method once: its code, its class, how many arguments -/
def mMt (N : mM) (n : Nat) : Prop := Cond.code N.1 N.2.1 N.2.2.1 N.2.2.2 ∈ mTbl ∧ Cond.initialized N.1.cls ∈ mTbl ∧ plainFor N.1 = true ∧ N.1.cls ≠ "java/lang/invoke/MethodHandle" ∧ N.1.cls ≠ "java/lang/invoke/VarHandle" ∧ (parseMethodDescriptor N.1.desc).map (fun d => d.parameters.length) = some n
theorem mTbl_good : ∀ w ∈ mTbl, goodWord w = true := fun w h => (List.mem_filter.mp h).2
theorem mGood {N : mM} {n : Nat} (hM : mMt N n) : GoodIn mTbl (Cond.code N.1 N.2.1 N.2.2.1 N.2.2.2 :: mTbl) := by
  intro w hw
  rcases List.mem_cons.mp hw with rfl | h
  · exact ⟨hM.1, good_of_word (mTbl_good _ hM.1)⟩
  · exact ⟨h, good_of_word (mTbl_good _ h)⟩
theorem mKX.warm {D : va_G} {aC : Nat → ClassId} {s U : State} (hW : s.WarmedH U.vm) (h : mKX D aC s) : mKX D aC U := by
  obtain ⟨h1, h2, h3, h4, h5, h6⟩ := h
  have h7 : (Cond.arrayOver (.array .long)).before #[] (s.setVm U.vm) = true := Cond.before_shiftedOver (State.Shifted.of_warmed hW) _ rfl h6
  exact ⟨va_K.moved hW.alike h1, fun q hq => va_Nw.warmM hW (h2 q hq), fun C hC => va_AO.moved hW.alike (h3 C hC), va_Nw.warmC hW h4, va_Nw.warmC hW h5, h7⟩
theorem mKX.calling {D : va_G} {aC : Nat → ClassId} {U : State} (g : JFrame) (mk : MethodId) (a : Array Value) (h : mKX D aC U) : mKX D aC (U.calling g mk a) := by
  obtain ⟨h1, h2, h3, h4, h5, h6⟩ := h
  exact ⟨va_K.moved (u := U) (U := U.calling g mk a) (Vm.Alike.refl U.vm) h1, fun q hq => va_Nw.same rfl (u := U) (U := U.calling g mk a) rfl (h2 q hq), fun C hC => va_AO.moved (u := U) (U := U.calling g mk a) (Vm.Alike.refl U.vm) (h3 C hC), va_Nw.same rfl (u := U) (U := U.calling g mk a) rfl h4, va_Nw.same rfl (u := U) (U := U.calling g mk a) rfl h5, h6⟩
theorem mPc_blind {D : va_G} {aC : Nat → ClassId} {b B L : Nat} {xs : Nat → Int32} {as : List Value} {h : mH} : FrameBlind (mPc D aC b B L xs as h) := by
  intro a U g mk q
  obtain ⟨q0, q1, q2, q3, q4, q5, q6⟩ := q
  exact ⟨q0, q1, q2, q3, q4, q5.calling g mk a, va_X.moved (u := U) (U := U.calling g mk a) (Vm.Alike.refl U.vm) q6⟩
theorem met_ofW {l : Launch} {y : MethodName} {ws ws' : List Cond} {rm : Room} {Pc : Array Value → State → Prop} {Qc : Array Value → State → Outcome → State → Prop} {mc ms : Nat} {free : Addr → Prop} {cc : ByteArray} {maxL : Nat} {ret : Option FieldType} (hy : plainFor y = true) (hw : ws = Cond.code y cc maxL ret :: ws')
    (body : ∀ p e s m args below meth c s₁, BodyLoose p l y (headSpec ws rm) cc maxL ret e s m args below meth c s₁ → c.maxLocals = maxL → Pc args s →
      W p l e (headSpec ws rm).room s m args below meth c s.heap [] 0 0 (MQ below Qc args s mc ms free) (entryFrame m args maxL)) : Met l y ws rm Pc Qc mc ms free := by
  refine MetFree.of_bodySF (code := cc) (maxLocals := maxL) (ret := ret) hy ?_ ?_
  · intro args s m h hn
    obtain ⟨meth, c, h1, h2, h3, h4, h5, h6, -, -⟩ := Cond.code_spec hn (atoms_spec (ws := ws) h _ (by rw [hw]; exact List.mem_cons_self))
    exact ⟨meth, c, h1, h2, h3, h4, h5, h6⟩
  · intro p e s m args below meth c s₁ B hml hP _
    have hh0 : s₁.heap = s.heap := by rw [B.state]; rfl
    obtain ⟨t, a1, o, b1, b2, b3⟩ := body p e s m args below meth c s₁ B hml hP s₁ hh0 (Stand.of_body B)
    exact ⟨t, o, a1, b1, b2, ⟨b3.1, b3.2⟩⟩
theorem met_of {N : mM} {n fr lo : Nat} {as : List Value} {h h' : mH} {r : Option Value} (l : Launch) (hM : mMt N n) (D : va_G) (aC : Nat → ClassId) (b B L : Nat) (xs : Nat → Int32) (hbB : b < B) (hz : hN h' ≤ scrA) (hlen : (mEl as).length ≤ N.2.2.1) (E : Ev N fr lo 0 (mEn N.2.2.1 as) [] h r h') :
    Met l N.1 (Cond.code N.1 N.2.1 N.2.2.1 N.2.2.2 :: mTbl) ({ frames := fr, cells := hN h' - hN h, slots := hU h' - hU h, locals := lo }) (mPc D aC b B L xs as h) (mQc D aC b B L xs r h') (hN h' - hN h) (hU h' - hU h) (fun q => B ≤ q) := by
  refine met_ofW (cc := N.2.1) (maxL := N.2.2.1) (ret := N.2.2.2) hM.2.2.1 rfl ?_
  intro p e s m args below meth c s₁ B0 hml hv
  obtain ⟨rfl, hP, hsz, hsc, hxs, hKX, hX⟩ := hv
  have hts0 := atoms_spec (ws := Cond.code N.1 N.2.1 N.2.2.1 N.2.2.2 :: mTbl) B0.pre
  have hlocks := B0.notSynchronized
  have hl := lv_entry (as.map (mV b B)) (n := N.2.2.1) (by rw [mEl_len]; exact hlen)
  rw [lg_entry_eq]
  generalize (lg_sl (as.map (mV b B)) ++ List.replicate (N.2.2.1 - (lg_sl (as.map (mV b B))).length) Slot.unset).toArray = ls at hl ⊢
  have hL : mL b B ls N.2.2.1 (mEn N.2.2.1 as) := by
    refine ⟨hl.1, hl.2.1, fun k v hk => ?_⟩
    unfold mEn at hk
    by_cases hk2 : k < (mEl as).length
    · rw [List.getElem?_append_left hk2] at hk
      have := mEl_at b B as 0 k v hk
      rw [Nat.zero_add] at this
      exact hl.2.2 _ this
    · rw [List.getElem?_append_right (by omega)] at hk
      have := List.mem_of_getElem? hk
      have := (List.mem_replicate.mp this).2
      cases this
  have hR : mR D aC b B L xs s h s.heap [] := ⟨hP, va_S.rf, hsz, hsc, hxs⟩
  have C : mCx N p ({ frames := fr, cells := hN h' - hN h, slots := hU h' - hU h, locals := lo }) s m (as.map (mV b B)).toArray meth c D aC b B L xs fr lo :=
    ⟨B0.exec, B0.bytes, B0.returns, hml, findClass_of_methodNamed B0.named, fun w hw => hts0 w (List.mem_cons_of_mem _ hw), hlocks, fun h9 => (name_of_methodNamed B0.named B0.method).1.trans h9, hKX, hX, hbB, by rw [hsz]; exact Nat.le_add_right _ _, Nat.le_refl _, Nat.le_refl _⟩
  refine E.2 p l e _ s m _ below meth c D aC b B L xs s.heap [] 0 0 _ ls C hz (by show 0 + _ ≤ hN h' - hN h; omega) (by show 0 + _ ≤ hU h' - hU h; omega) hR hL ?_
  intro H' locs' pc' ls' hR' hok hd
  rw [Nat.zero_add, Nat.zero_add]
  obtain ⟨hP', hS', hsz', hsc', hxs'⟩ := hR'
  have hq : ∀ t : State, t.heap = H' → s.WarmedH t.vm → mQc D aC b B L xs r h' (as.map (mV b B)).toArray s (.returned (r.map (mV b B))) t := by
    intro t ht _
    refine ⟨rfl, by rw [ht]; exact hP', by rw [ht]; exact hsz', hsc', hxs', by rw [ht]; exact hS'.1, fun q q1 q2 => ?_⟩
    rw [ht]
    exact hS'.2.1 q q1 q2
  obtain ⟨hx, hb, hr, -⟩ := C
  cases r with
  | none =>
    have hr0 : meth.sig.returnType = none := by
      rw [hr]
      cases h9 : N.2.2.2 with
      | none => rfl
      | some ty => rw [h9] at hok; cases ty <;> exact hok.elim
    exact W.vret hx hb hr0 hq hS'.2.2 hd
  | some v =>
    cases h9 : N.2.2.2 with
    | none => rw [h9] at hok; exact hok.elim
    | some ty =>
      rw [h9] at hok hr
      cases v with
      | int v =>
        cases ty <;> first | exact hok.elim | skip
        · exact W.iret (v := v) hx hb hr hq hS'.2.2 hd
        · exact W.zret (v := v) hx hb hr hok hq hS'.2.2 hd
      | long v =>
        cases ty <;> first | exact hok.elim | skip
        exact W.lret (v := v) hx hb hr hq hS'.2.2 hd
      | null =>
        cases ty <;> first | exact hok.elim | skip
        · exact W.aret (v := .null) hx hb hr (Or.inl ⟨_, rfl⟩) (Or.inl rfl) hq hS'.2.2 hd
        · exact W.aret (v := .null) hx hb hr (Or.inr ⟨_, rfl⟩) (Or.inl rfl) hq hS'.2.2 hd
      | ref x =>
        cases ty <;> first | exact hok.elim | skip
        · exact W.aret (v := .ref (mAd b B x)) hx hb hr (Or.inl ⟨_, rfl⟩) (Or.inr ⟨_, rfl⟩) hq hS'.2.2 hd
        · exact W.aret (v := .ref (mAd b B x)) hx hb hr (Or.inr ⟨_, rfl⟩) (Or.inr ⟨_, rfl⟩) hq hS'.2.2 hd
      | float v => cases ty <;> exact hok.elim
      | double v => cases ty <;> exact hok.elim
      | retAddr v => cases ty <;> exact hok.elim
theorem stp_of_run {M : mM} {fr lo pc : Nat} {ls : List (Option Value)} {st rest : List Value} {h h1 : mH} {r : Option Value}
    (hrun : ∀ (p : Program) (l : Launch) (e : Env) (R : Room) (s : State) (m : MethodId) (args : Array Value) (below : List Frame) (meth : Method) (c : Code) (D : va_G) (aC : Nat → ClassId) (b B L : Nat) (xs : Nat → Int32) (H : Heap) (locs : List Loc) (cells slots : Nat) (lsr : Array Slot),
      mCx M p R s m args meth c D aC b B L xs fr lo → hN h1 ≤ scrA → cells + (hN h1 - hN h) ≤ R.cells → slots + (hU h1 - hU h) ≤ R.slots → mR D aC b B L xs s h H locs → mL b B lsr M.2.2.1 ls →
      ∃ a9, va_Run p l e R s m args below meth c H locs cells slots (hN h1 - hN h) (hU h1 - hU h) (F0 m pc lsr (st.map (mV b B))) (rest.map (mV b B)) (mQc D aC b B L xs r h1 a9) (fun q => B ≤ q)) :
    mStp M fr lo pc ls st h (pc + 3) ls (r.toList ++ rest) h1 := by
  intro p l e R s m args below meth c D aC b B L xs H locs cells slots Q lsr C hz hc hs gR gL kk
  obtain ⟨a9, hr⟩ := hrun p l e R s m args below meth c D aC b B L xs H locs cells slots lsr C hz hc hs gR gL
  intro T hT X
  obtain ⟨v, st₀, t, T', L', e0, X', hLo, eh, evm, hq, go⟩ := hr T hT X
  obtain ⟨hv, hP, hsz, hsc, hxs, hle, hun⟩ := hq
  obtain ⟨-, hS0, -, -, -⟩ := gR
  have hv2 : v = r.map (mV b B) := by injection hv
  subst hv2
  have hmr : mR D aC b B L xs s h1 T'.heap (locs ++ L') := by
    rw [eh]
    rw [e0] at hle hun
    refine ⟨hP, ⟨Nat.le_trans hS0.1 hle, fun q q1 q2 => ?_, fun q hq => ?_⟩, hsz, hsc, hxs⟩
    · exact (hun q (Nat.lt_of_lt_of_le q1 hS0.1) q2).trans (hS0.2.1 q q1 q2)
    · rcases List.mem_append.mp hq with h9 | h9
      · exact hS0.2.2 q h9
      · exact hLo q h9
  obtain ⟨t2, a1, b1⟩ := kk T'.heap (locs ++ L') lsr hmr gL T' rfl X'
  refine ⟨t2, go t2 ?_, b1⟩
  have e5 : (r.toList ++ rest).map (mV b B) = (r.map (mV b B)).toList ++ rest.map (mV b B) := by cases r <;> simp
  rw [e5] at a1
  exact a1
section RulesE
variable {M N : mM} {fr lo fr1 lo1 pc pc1 n idx : Nat} {ls : List (Option Value)} {st rest as : List Value} {h : mH} {Q : Option Value → mH → Prop}
theorem mCat (b B : Nat) (st : List Value) : ((st.map (mV b B)).map fun v => v.category).sum = (st.map fun v => v.category).sum := by
  rw [List.map_map]
  congr 1
  apply List.map_congr_left
  intro v _
  exact mV_cat b B v
/-- the room of a call -/
def mRm (fr lo fr1 lo1 nL : Nat) : Prop := fr1 + 1 ≤ fr ∧ 8 + (nL + 11) + lo1 ≤ lo
theorem mPre {p : Program} {R : Room} {s : State} {m : MethodId} {args : Array Value} {meth : Method} {c : Code} {D : va_G} {aC : Nat → ClassId} {b B L : Nat} {xs : Nat → Int32} {H : Heap} {locs : List Loc} (C : mCx M p R s m args meth c D aC b B L xs fr lo) (gR : mR D aC b B L xs s h H locs) : ∀ U : State, U.heap = H → s.WarmedH U.vm → mPc D aC b B L xs as h (as.map (mV b B)).toArray U := by
  intro U hU hW
  obtain ⟨-, -, -, -, -, -, -, -, hKX, hX, hbB, hBs, -, -⟩ := C
  obtain ⟨hP, hS0, hsz, hsc, hxs⟩ := gR
  refine ⟨rfl, by rw [hU]; exact hP, by rw [hU]; exact hsz, hsc, hxs, hKX.warm hW, ?_⟩
  rw [hU]
  refine va_X.moved hW.alike (va_X.kept hX (hS0.2.1 b (Nat.lt_of_lt_of_le hbB hBs) (Nat.not_le.mpr hbB)))
theorem wp_callS (hd : At M.2.1 pc (.invokestatic idx) 3 pc1) (hM : mMt N n) (hst : Cond.static N.1 ∈ mTbl) (hlk : Cond.methodLink M.1.cls idx N.1 ∈ mTbl) (hrm : mRm fr lo fr1 lo1 N.2.2.1) (hn : as.length = n) (hlen : (mEl as).length ≤ N.2.2.1) (hs : as.reverse ++ rest = st) (hcat : (rest.map fun v => v.category).sum ≤ 8) (hc : Wp N fr1 lo1 0 (mEn N.2.2.1 as) [] h (fun r h1 => hN h ≤ hN h1 → hU h ≤ hU h1 → Wp M fr lo pc1 ls (r.toList ++ rest) h1 Q)) : Wp M fr lo pc ls st h Q := by
  obtain ⟨hd, rfl⟩ := hd
  obtain ⟨r, h1, E, k⟩ := hc
  refine wp_step (h1 := h1) E.1.1 E.1.2 ?_ (k E.1.1 E.1.2)
  refine stp_of_run ?_
  intro p l e R s m args below meth c D aC b B L xs H locs cells slots lsr C hz hc hsl gR gL
  obtain ⟨hx, hb, hr, hml, hown, hts, -, -, hKX, hX, hbB, hBs, hf, hl⟩ := id C
  refine ⟨_, va_runS (As := as.map (mV b B)) (n := n) (cc := M.2.1) (nL := M.2.2.1) (Ts := mTbl) (own := M.1.cls) (bytes := N.2.1) (maxL := N.2.2.1) (ret := N.2.2.2) ⟨hx, hb, hml, hown, hts⟩ (met_of l hM D aC b B L xs hbB hz hlen E) ⟨callB_of n hts (mGood hM) rfl rfl rfl (hts _ hM.2.1) (hts _ hlk) hM.2.2.2 ⟨by have := hrm.1; show fr1 + 1 ≤ _; omega, by have := hrm.2; show 8 + (N.2.2.1 + 11) + lo1 ≤ _; omega⟩, hts _ hst⟩ ⟨mPc_blind, mPre C gR⟩ rfl (by rw [List.length_map]; exact hn) gL.1 ?_ (by rw [mCat]; show 2 * 0 + _ ≤ 8; omega) hd ⟨hc, hsl⟩⟩
  show st.map (mV b B) = _
  rw [← hs, List.map_append, List.map_reverse]
theorem wp_callSN (hd : At M.2.1 pc (.invokestatic idx) 3 pc1) (hM : mMt N n) (hst : Cond.static N.1 ∈ mTbl) (hlk : (M.1.cls, idx, N.1) ∈ mNst) (hrm : mRm fr lo fr1 lo1 N.2.2.1) (hn : as.length = n) (hlen : (mEl as).length ≤ N.2.2.1) (hs : as.reverse ++ rest = st) (hcat : (rest.map fun v => v.category).sum ≤ 8) (hc : Wp N fr1 lo1 0 (mEn N.2.2.1 as) [] h (fun r h1 => hN h ≤ hN h1 → hU h ≤ hU h1 → Wp M fr lo pc1 ls (r.toList ++ rest) h1 Q)) : Wp M fr lo pc ls st h Q := by
  obtain ⟨hd, rfl⟩ := hd
  obtain ⟨r, h1, E, k⟩ := hc
  refine wp_step (h1 := h1) E.1.1 E.1.2 ?_ (k E.1.1 E.1.2)
  refine stp_of_run ?_
  intro p l e R s m args below meth c D aC b B L xs H locs cells slots lsr C hz hc hsl gR gL
  obtain ⟨hx, hb, hr, hml, hown, hts, -, -, hKX, hX, hbB, hBs, hf, hl⟩ := id C
  refine ⟨_, va_runSN (As := as.map (mV b B)) (n := n) (cc := M.2.1) (nL := M.2.2.1) (Ts := mTbl) (own := M.1.cls) (host := "FieldCutter") (bytes := N.2.1) (maxL := N.2.2.1) (ret := N.2.2.2) ⟨hx, hb, hml, hown, hts⟩ (met_of l hM D aC b B L xs hbB hz hlen E) ⟨va_cnB n hts (mGood hM) rfl rfl rfl (hKX.2.1 _ hlk) (hts _ hM.2.1) hM.2.2.2 ⟨by have := hrm.1; show fr1 + 1 ≤ _; omega, by have := hrm.2; show 8 + (N.2.2.1 + 11) + lo1 ≤ _; omega⟩, hts _ hst, trivial⟩ ⟨mPc_blind, mPre C gR⟩ rfl (by rw [List.length_map]; exact hn) gL.1 ?_ (by rw [mCat]; show 2 * 0 + _ ≤ 8; omega) hd ⟨hc, hsl⟩⟩
  show st.map (mV b B) = _
  rw [← hs, List.map_append, List.map_reverse]
theorem wp_callV {a ci : Nat} (hd : At M.2.1 pc (.invokevirtual idx) 3 pc1) (hM : mMt N n) (hci : ci < 13) (hcl : N.1.cls = mCn ci) (hin : Cond.instanceMethod N.1 ∈ mTbl) (hsel : Cond.selects N.1.cls N.1 N.1 ∈ mTbl) (hlk : Cond.methodLink M.1.cls idx N.1 ∈ mTbl) (hrm : mRm fr lo fr1 lo1 N.2.2.1) (hn : as.length = n) (hlen : (mEl (.ref a :: as)).length ≤ N.2.2.1) (ho : hO h a ci) (hs : as.reverse ++ (.ref a :: rest) = st) (hcat : (rest.map fun v => v.category).sum ≤ 8) (hc : Wp N fr1 lo1 0 (mEn N.2.2.1 (.ref a :: as)) [] h (fun r h1 => hN h ≤ hN h1 → hU h ≤ hU h1 → Wp M fr lo pc1 ls (r.toList ++ rest) h1 Q)) : Wp M fr lo pc ls st h Q := by
  obtain ⟨hd, rfl⟩ := hd
  obtain ⟨r, h1, E, k⟩ := hc
  refine wp_step (h1 := h1) E.1.1 E.1.2 ?_ (k E.1.1 E.1.2)
  refine stp_of_run ?_
  intro p l e R s m args below meth c D aC b B L xs H locs cells slots lsr C hz hc hsl gR gL
  obtain ⟨hx, hb, hr, hml, hown, hts, -, -, hKX, hX, hbB, hBs, hf, hl⟩ := id C
  obtain ⟨hc1, -⟩ := mCls ci hci
  have he : (mW aC (mAd b B) h)[a]? = some (mAd b B a, .inr (ci, mFs (mAd b B) h a ci)) := by rw [mW_at _ _ _ ho.1, mE_obj ho.2 hci]
  have hrec := va_recv hKX.1 gR.1 hc1 he
  rw [show (mCn ci, mCt ci, mCz ci).1 = N.1.cls from hcl.symm] at hrec
  have hpre := mPre (as := .ref a :: as) C gR
  refine ⟨_, va_runV (b := mAd b B a) (As := as.map (mV b B)) (n := n) (cc := M.2.1) (nL := M.2.2.1) (Ts := mTbl) (own := M.1.cls) (C := N.1.cls) (bytes := N.2.1) (maxL := N.2.2.1) (ret := N.2.2.2) ⟨hx, hb, hml, hown, hts⟩ (met_of l hM D aC b B L xs hbB hz hlen E) ⟨callB_of n hts (mGood hM) rfl rfl rfl (hts _ hM.2.1) (hts _ hlk) hM.2.2.2 ⟨by have := hrm.1; show fr1 + 1 ≤ _; omega, by have := hrm.2; show 8 + (N.2.2.1 + 11) + lo1 ≤ _; omega⟩, hts _ hin, hts _ hsel⟩ ⟨mPc_blind, hrec, hpre⟩ rfl (by rw [List.length_map]; exact hn) gL.1 ?_ (by rw [mCat]; show 2 * 0 + _ ≤ 8; omega) hd ⟨hc, hsl⟩⟩
  show st.map (mV b B) = _
  rw [← hs, List.map_append, List.map_reverse]
  rfl
theorem wp_callI {a : Nat} (hd : At M.2.1 pc (.invokespecial idx) 3 pc1) (hM : mMt N n) (hnm : N.1.name = "<init>") (hret : N.2.2.2 = none) (hin : Cond.instanceMethod N.1 ∈ mTbl) (hlk : Cond.methodLink M.1.cls idx N.1 ∈ mTbl) (hrm : mRm fr lo fr1 lo1 N.2.2.1) (hn : as.length = n) (hlen : (mEl (.ref a :: as)).length ≤ N.2.2.1) (hs : as.reverse ++ (.ref a :: rest) = st) (hcat : (rest.map fun v => v.category).sum ≤ 8) (hc : Wp N fr1 lo1 0 (mEn N.2.2.1 (.ref a :: as)) [] h (fun r h1 => hN h ≤ hN h1 → hU h ≤ hU h1 → Wp M fr lo pc1 ls (r.toList ++ rest) h1 Q)) : Wp M fr lo pc ls st h Q := by
  obtain ⟨hd, rfl⟩ := hd
  obtain ⟨r, h1, E, k⟩ := hc
  refine wp_step (h1 := h1) E.1.1 E.1.2 ?_ (k E.1.1 E.1.2)
  refine stp_of_run ?_
  intro p l e R s m args below meth c D aC b B L xs H locs cells slots lsr C hz hc hsl gR gL
  obtain ⟨hx, hb, hr, hml, hown, hts, -, -, hKX, hX, hbB, hBs, hf, hl⟩ := id C
  have hpre := mPre (as := .ref a :: as) C gR
  have hme := met_of l hM D aC b B L xs hbB hz hlen E
  have hgo := mGood hM
  rw [hret] at hme hgo
  refine ⟨_, va_runI (b := mAd b B a) (As := as.map (mV b B)) (n := n) (cc := M.2.1) (nL := M.2.2.1) (Ts := mTbl) (own := M.1.cls) (bytes := N.2.1) (maxL := N.2.2.1) ⟨hx, hb, hml, hown, hts⟩ hme ⟨callB_of n hts hgo rfl rfl rfl (hts _ hM.2.1) (hts _ hlk) hM.2.2.2 ⟨by have := hrm.1; show fr1 + 1 ≤ _; omega, by have := hrm.2; show 8 + (N.2.2.1 + 11) + lo1 ≤ _; omega⟩, hnm, hts _ hin⟩ ⟨mPc_blind, hpre⟩ rfl (by rw [List.length_map]; exact hn) gL.1 ?_ (by rw [mCat]; show 2 * 0 + _ ≤ 8; omega) hd ⟨hc, hsl⟩⟩
  show st.map (mV b B) = _
  rw [← hs, List.map_append, List.map_reverse]
  rfl
theorem wp_callIN {a : Nat} (hd : At M.2.1 pc (.invokespecial idx) 3 pc1) (hM : mMt N n) (hnm : N.1.name = "<init>") (hret : N.2.2.2 = none) (hin : Cond.instanceMethod N.1 ∈ mTbl) (hlk : (M.1.cls, idx, N.1) ∈ mNst) (hrm : mRm fr lo fr1 lo1 N.2.2.1) (hn : as.length = n) (hlen : (mEl (.ref a :: as)).length ≤ N.2.2.1) (hs : as.reverse ++ (.ref a :: rest) = st) (hcat : (rest.map fun v => v.category).sum ≤ 8) (hc : Wp N fr1 lo1 0 (mEn N.2.2.1 (.ref a :: as)) [] h (fun r h1 => hN h ≤ hN h1 → hU h ≤ hU h1 → Wp M fr lo pc1 ls (r.toList ++ rest) h1 Q)) : Wp M fr lo pc ls st h Q := by
  obtain ⟨hd, rfl⟩ := hd
  obtain ⟨r, h1, E, k⟩ := hc
  refine wp_step (h1 := h1) E.1.1 E.1.2 ?_ (k E.1.1 E.1.2)
  refine stp_of_run ?_
  intro p l e R s m args below meth c D aC b B L xs H locs cells slots lsr C hz hc hsl gR gL
  obtain ⟨hx, hb, hr, hml, hown, hts, -, -, hKX, hX, hbB, hBs, hf, hl⟩ := id C
  have hpre := mPre (as := .ref a :: as) C gR
  have hme := met_of l hM D aC b B L xs hbB hz hlen E
  have hgo := mGood hM
  rw [hret] at hme hgo
  refine ⟨_, va_runIN (b := mAd b B a) (As := as.map (mV b B)) (n := n) (cc := M.2.1) (nL := M.2.2.1) (Ts := mTbl) (own := M.1.cls) (host := "FieldCutter") (bytes := N.2.1) (maxL := N.2.2.1) ⟨hx, hb, hml, hown, hts⟩ hme ⟨va_cnB n hts hgo rfl rfl rfl (hKX.2.1 _ hlk) (hts _ hM.2.1) hM.2.2.2 ⟨by have := hrm.1; show fr1 + 1 ≤ _; omega, by have := hrm.2; show 8 + (N.2.2.1 + 11) + lo1 ≤ _; omega⟩, hnm, hts _ hin⟩ ⟨mPc_blind, hpre⟩ rfl (by rw [List.length_map]; exact hn) gL.1 ?_ (by rw [mCat]; show 2 * 0 + _ ≤ 8; omega) hd ⟨hc, hsl⟩⟩
  show st.map (mV b B) = _
  rw [← hs, List.map_append, List.map_reverse]
  rfl
end RulesE
