/-! ===== the judgement over the typed memory ===== -/
def mTbl : List Cond := lw_tbl.filter goodWord
theorem mTbl_in {w : Cond} (i : Nat) (h : lw_tbl[i]? = some w) (g : goodWord w = true) : w ∈ mTbl := List.mem_filter.mpr ⟨List.mem_of_getElem? h, g⟩
/-- a method: its name, its code, its locals, what it returns -/
abbrev mM : Type := MethodName × ByteArray × Nat × Option FieldType
/-- links between classes of one nest: own class, entry, method -/
def mNst : List (String × Nat × MethodName) := [("FieldCutter", 19, ⟨"FieldCutter$Fields", "<init>", "()V"⟩), ("FieldCutter", 26, ⟨"FieldCutter$Reader", "<init>", "()V"⟩), ("FieldCutter$Reader", 22, ⟨"FieldCutter$Fields", "<init>", "()V"⟩), ("FieldCutter$History", 17, ⟨"FieldCutter$State", "<init>", "()V"⟩), ("FieldCutter", 52, ⟨"FieldCutter$Cover", "<init>", "()V"⟩), ("FieldCutter", 59, ⟨"FieldCutter$Ground", "<init>", "()V"⟩), ("FieldCutter", 66, ⟨"FieldCutter$Tally", "<init>", "()V"⟩), ("FieldCutter", 73, ⟨"FieldCutter$Letters", "<init>", "()V"⟩), ("FieldCutter", 81, ⟨"FieldCutter$Table", "<init>", "()V"⟩), ("FieldCutter$Reader", 129, ⟨"FieldCutter", "isLetter", "(I)Z"⟩), ("FieldCutter$Reader", 136, ⟨"FieldCutter", "isDigit", "(I)Z"⟩), ("FieldCutter$Page", 44, ⟨"FieldCutter", "kindOf", "(J)I"⟩), ("FieldCutter$State", 56, ⟨"FieldCutter", "spotOf", "(II)I"⟩), ("FieldCutter$Ground", 48, ⟨"FieldCutter", "spotOf", "(II)I"⟩), ("FieldCutter$Ground", 55, ⟨"FieldCutter", "lowest", "(J)I"⟩), ("FieldCutter$Table", 62, ⟨"FieldCutter", "spotOf", "(II)I"⟩), ("FieldCutter$Table", 66, ⟨"FieldCutter", "lowest", "(J)I"⟩), ("FieldCutter$Table", 95, ⟨"FieldCutter", "ruleOf", "(IIII)J"⟩), ("FieldCutter$Table", 110, ⟨"FieldCutter", "withFar", "(JI)J"⟩), ("FieldCutter$Ground", 92, ⟨"FieldCutter", "itemOf", "(JI)I"⟩), ("FieldCutter$Cover", 67, ⟨"FieldCutter", "costOf", "(J)I"⟩), ("FieldCutter$Learnt", 42, ⟨"FieldCutter", "spotOf", "(II)I"⟩), ("FieldCutter$Learnt", 78, ⟨"FieldCutter", "nth", "(JI)I"⟩), ("FieldCutter$Letters", 25, ⟨"FieldCutter", "nth", "(JI)I"⟩), ("FieldCutter", 392, ⟨"FieldCutter$State", "<init>", "()V"⟩)]
def mKX (D : va_G) (aC : Nat → ClassId) (U : State) : Prop := va_K D vwCl (mTys aC) U ∧ (∀ q ∈ mNst, va_Nw (.methodLinkNest q.1 q.2.1 q.2.2 "FieldCutter") U) ∧ (∀ C ∈ [RX8, RX9, RX6, RX4], va_AO C U) ∧ va_Nw (.castable "[J" "java/lang/Cloneable") U ∧ va_Nw (.castable "[I" "java/lang/Cloneable") U ∧ (Cond.arrayOver (.array .long)).before #[] U = true
def mCx (M : mM) (p : Program) (R : Room) (s : State) (m : MethodId) (args : Array Value) (meth : Method) (c : Code) (D : va_G) (aC : Nat → ClassId) (b B L : Nat) (xs : Nat → Int32) (fr lo : Nat) : Prop :=
  p.tables.exec = Jvm.exec ∧ c.code = M.2.1 ∧ meth.sig.returnType = M.2.2.2 ∧ c.maxLocals = M.2.2.1 ∧ s.vm.findClass M.1.cls = some m.cls ∧ (∀ w ∈ mTbl, w.before args s = true) ∧ meth.locks = false ∧ (M.1.name = "<init>" → meth.name = "<init>") ∧ mKX D aC s ∧ va_X b L xs s s.heap ∧ b < B ∧ B ≤ s.heap.size ∧ fr ≤ R.frames ∧ lo ≤ R.locals
def mR (D : va_G) (aC : Nat → ClassId) (b B L : Nat) (xs : Nat → Int32) (s : State) (h : mH) (H : Heap) (locs : List Loc) : Prop :=
  va_P D vwCl (mW aC (mAd b B) h) H ∧ va_S (fun q => B ≤ q) s.heap H locs ∧ H.size = B + hN h ∧ hK h scrA = (99, L) ∧ hI h scrA = xs
def mL (b B : Nat) (lsr : Array Slot) (nL : Nat) (ls : List (Option Value)) : Prop := lsr.size = nL ∧ lv_wf lsr ∧ ∀ (k : Nat) (v : Value), ls[k]? = some (some v) → lsr[k]? = some (.val (mV b B v))
/-- the instruction that returns r -/
def mRi (r : Option Value) : Instr := match r with
  | none => .return_
  | some (.int _) => .ireturn
  | some (.long _) => .lreturn
  | some _ => .areturn
def mOk (ret : Option FieldType) (r : Option Value) : Prop := match ret, r with
  | none, none => True
  | some .int, some (.int _) => True
  | some .long, some (.long _) => True
  | some .boolean, some (.int v) => narrow .boolean (.int v) = .int v
  | some (.object _), some .null => True
  | some (.object _), some (.ref _) => True
  | some (.array _), some .null => True
  | some (.array _), some (.ref _) => True
  | _, _ => False
def mNp (r : Option Value) : Prop := match r with
  | some (.ref x) => x < scrA
  | _ => True
def Ev (M : mM) (fr lo pc : Nat) (ls : List (Option Value)) (st : List Value) (h : mH) (r : Option Value) (h' : mH) : Prop :=
  (hN h ≤ hN h' ∧ hU h ≤ hU h') ∧ ∀ (p : Program) (l : Launch) (e : Env) (R : Room) (s : State) (m : MethodId) (args : Array Value) (below : List Frame) (meth : Method) (c : Code) (D : va_G) (aC : Nat → ClassId) (b B L : Nat) (xs : Nat → Int32) (H : Heap) (locs : List Loc) (cells slots : Nat) (Q : State → Prop) (lsr : Array Slot),
    mCx M p R s m args meth c D aC b B L xs fr lo → hN h' ≤ scrA → cells + (hN h' - hN h) ≤ R.cells → slots + (hU h' - hU h) ≤ R.slots → mR D aC b B L xs s h H locs → mL b B lsr M.2.2.1 ls →
    (∀ (H' : Heap) (locs' : List Loc) (pc' : Nat) (ls' : Array Slot), mR D aC b B L xs s h' H' locs' → mOk M.2.2.2 r → decode M.2.1 pc' = .ok (mRi r, 1) →
      W p l e R s m args below meth c H' locs' (cells + (hN h' - hN h)) (slots + (hU h' - hU h)) Q (F0 m pc' ls' (r.toList.map (mV b B)))) →
    W p l e R s m args below meth c H locs cells slots Q (F0 m pc lsr (st.map (mV b B)))
def Wp (M : mM) (fr lo pc : Nat) (ls : List (Option Value)) (st : List Value) (h : mH) (Q : Option Value → mH → Prop) : Prop := ∃ (r : Option Value) (h' : mH), Ev M fr lo pc ls st h r h' ∧ Q r h'
theorem Wp.mono {M : mM} {fr lo pc : Nat} {ls : List (Option Value)} {st : List Value} {h : mH} {Q Q' : Option Value → mH → Prop} (w : Wp M fr lo pc ls st h Q) (hq : ∀ r h', Q r h' → Q' r h') : Wp M fr lo pc ls st h Q' := by
  obtain ⟨r, h', e, q⟩ := w
  exact ⟨r, h', e, hq r h' q⟩
/-- one step of the machine -/
def mStp (M : mM) (fr lo pc : Nat) (ls : List (Option Value)) (st : List Value) (h : mH) (pc1 : Nat) (ls1 : List (Option Value)) (st1 : List Value) (h1 : mH) : Prop :=
  ∀ (p : Program) (l : Launch) (e : Env) (R : Room) (s : State) (m : MethodId) (args : Array Value) (below : List Frame) (meth : Method) (c : Code) (D : va_G) (aC : Nat → ClassId) (b B L : Nat) (xs : Nat → Int32) (H : Heap) (locs : List Loc) (cells slots : Nat) (Q : State → Prop) (lsr : Array Slot),
    mCx M p R s m args meth c D aC b B L xs fr lo → hN h1 ≤ scrA → cells + (hN h1 - hN h) ≤ R.cells → slots + (hU h1 - hU h) ≤ R.slots → mR D aC b B L xs s h H locs → mL b B lsr M.2.2.1 ls →
    (∀ (H1 : Heap) (locs1 : List Loc) (lsr1 : Array Slot), mR D aC b B L xs s h1 H1 locs1 → mL b B lsr1 M.2.2.1 ls1 →
      W p l e R s m args below meth c H1 locs1 (cells + (hN h1 - hN h)) (slots + (hU h1 - hU h)) Q (F0 m pc1 lsr1 (st1.map (mV b B)))) →
    W p l e R s m args below meth c H locs cells slots Q (F0 m pc lsr (st.map (mV b B)))
theorem ev_step {M : mM} {fr lo pc pc1 : Nat} {ls ls1 : List (Option Value)} {st st1 : List Value} {h h1 : mH} {r : Option Value} {h' : mH} (hn : hN h ≤ hN h1) (hu : hU h ≤ hU h1) (step : mStp M fr lo pc ls st h pc1 ls1 st1 h1) (k : Ev M fr lo pc1 ls1 st1 h1 r h') : Ev M fr lo pc ls st h r h' := by
  obtain ⟨⟨kn, ku⟩, k⟩ := k
  refine ⟨⟨Nat.le_trans hn kn, Nat.le_trans hu ku⟩, ?_⟩
  intro p l e R s m args below meth c D aC b B L xs H locs cells slots Q lsr C hz hc hs hR hL fin
  refine step p l e R s m args below meth c D aC b B L xs H locs cells slots Q lsr C (by omega) (by omega) (by omega) hR hL ?_
  intro H1 locs1 lsr1 hR1 hL1
  refine k p l e R s m args below meth c D aC b B L xs H1 locs1 _ _ Q lsr1 C hz (by omega) (by omega) hR1 hL1 ?_
  intro H' locs' pc' ls' hR' hok hd
  have e1 : cells + (hN h1 - hN h) + (hN h' - hN h1) = cells + (hN h' - hN h) := by omega
  have e2 : slots + (hU h1 - hU h) + (hU h' - hU h1) = slots + (hU h' - hU h) := by omega
  rw [e1, e2]
  exact fin H' locs' pc' ls' hR' hok hd
theorem wp_step {M : mM} {fr lo pc pc1 : Nat} {ls ls1 : List (Option Value)} {st st1 : List Value} {h h1 : mH} {Q : Option Value → mH → Prop} (hn : hN h ≤ hN h1) (hu : hU h ≤ hU h1) (step : mStp M fr lo pc ls st h pc1 ls1 st1 h1) (k : Wp M fr lo pc1 ls1 st1 h1 Q) : Wp M fr lo pc ls st h Q := by
  obtain ⟨r, h', e, q⟩ := k
  exact ⟨r, h', ev_step hn hu step e, q⟩
/-- a step that leaves the heap and the locals -/
theorem wp_pure {M : mM} {fr lo pc pc1 : Nat} {ls : List (Option Value)} {st st1 : List Value} {h : mH} {Q : Option Value → mH → Prop}
    (step : ∀ (p : Program) (l : Launch) (e : Env) (R : Room) (s : State) (m : MethodId) (args : Array Value) (below : List Frame) (meth : Method) (c : Code) (D : va_G) (aC : Nat → ClassId) (b B L : Nat) (xs : Nat → Int32) (H : Heap) (locs : List Loc) (cells slots : Nat) (Q : State → Prop) (lsr : Array Slot),
      mCx M p R s m args meth c D aC b B L xs fr lo → hN h ≤ scrA → mR D aC b B L xs s h H locs → mL b B lsr M.2.2.1 ls →
      W p l e R s m args below meth c H locs cells slots Q (F0 m pc1 lsr (st1.map (mV b B))) →
      W p l e R s m args below meth c H locs cells slots Q (F0 m pc lsr (st.map (mV b B))))
    (k : Wp M fr lo pc1 ls st1 h Q) : Wp M fr lo pc ls st h Q := by
  refine wp_step (Nat.le_refl _) (Nat.le_refl _) ?_ k
  intro p l e R s m args below meth c D aC b B L xs H locs cells slots Q lsr C hz hc hs hR hL kk
  have e1 : cells + (hN h - hN h) = cells := by omega
  have e2 : slots + (hU h - hU h) = slots := by omega
  rw [e1, e2] at kk
  exact step p l e R s m args below meth c D aC b B L xs H locs cells slots Q lsr C hz hR hL (kk H locs lsr hR hL)
/-- a decoded instruction and where the next one stands -/
def At (cc : ByteArray) (pc : Nat) (i : Instr) (n pc1 : Nat) : Prop := decode cc pc = .ok (i, n) ∧ pc + n = pc1
/-- a decoded jump, where the next one stands, where it leads -/
def Aj (cc : ByteArray) (pc : Nat) (i : Instr) (off : Int) (n pc1 t : Nat) : Prop := decode cc pc = .ok (i, n) ∧ pc + n = pc1 ∧ (pc : Int) + off = (t : Int)
section RulesA
variable {M : mM} {fr lo pc pc1 t : Nat} {ls : List (Option Value)} {st : List Value} {h : mH} {Q : Option Value → mH → Prop}
theorem wp_iconst {n : Int} {v : Int32} (hd : At M.2.1 pc (.iconst n) 1 pc1) (hv : Int32.ofInt n = v) (k : Wp M fr lo pc1 ls (.int v :: st) h Q) : Wp M fr lo pc ls (st) h Q := by
  obtain ⟨hd, rfl⟩ := hd
  exact wp_pure (fun p l e R s m args below meth c D aC b B L xs H locs cells slots Q lsr C hz hR hL kk => lv_iconst C.1 C.2.1 hd hv kk) k
theorem wp_bipush {n : Int} {v : Int32} (hd : At M.2.1 pc (.bipush n) 2 pc1) (hv : (Int8.ofInt n).toInt32 = v) (k : Wp M fr lo pc1 ls (.int v :: st) h Q) : Wp M fr lo pc ls (st) h Q := by
  obtain ⟨hd, rfl⟩ := hd
  exact wp_pure (fun p l e R s m args below meth c D aC b B L xs H locs cells slots Q lsr C hz hR hL kk => lv_bipush C.1 C.2.1 hd hv kk) k
theorem wp_sipush {n : Int} {v : Int32} (hd : At M.2.1 pc (.sipush n) 3 pc1) (hv : (Int16.ofInt n).toInt32 = v) (k : Wp M fr lo pc1 ls (.int v :: st) h Q) : Wp M fr lo pc ls (st) h Q := by
  obtain ⟨hd, rfl⟩ := hd
  exact wp_pure (fun p l e R s m args below meth c D aC b B L xs H locs cells slots Q lsr C hz hR hL kk => lv_sipush C.1 C.2.1 hd hv kk) k
theorem wp_lconst {n : Fin 2} {v : Int64} (hd : At M.2.1 pc (.lconst n) 1 pc1) (hv : Int64.ofNat (n : Nat) = v) (k : Wp M fr lo pc1 ls (.long v :: st) h Q) : Wp M fr lo pc ls (st) h Q := by
  obtain ⟨hd, rfl⟩ := hd
  exact wp_pure (fun p l e R s m args below meth c D aC b B L xs H locs cells slots Q lsr C hz hR hL kk => lv_lconst C.1 C.2.1 hd hv kk) k
theorem wp_null (hd : At M.2.1 pc (.aconst_null) 1 pc1) (k : Wp M fr lo pc1 ls (.null :: st) h Q) : Wp M fr lo pc ls (st) h Q := by
  obtain ⟨hd, rfl⟩ := hd
  exact wp_pure (fun p l e R s m args below meth c D aC b B L xs H locs cells slots Q lsr C hz hR hL kk => lv_null C.1 C.2.1 hd kk) k
theorem wp_ldc {i : Nat} {v : Int32} (hd : At M.2.1 pc (.ldc i) 2 pc1) (hw : Cond.constant M.1.cls i v ∈ mTbl) (k : Wp M fr lo pc1 ls (.int v :: st) h Q) : Wp M fr lo pc ls (st) h Q := by
  obtain ⟨hd, rfl⟩ := hd
  exact wp_pure (fun p l e R s m args below meth c D aC b B L xs H locs cells slots Q lsr C hz hR hL kk => lv_ldc C.1 C.2.1 C.2.2.2.2.1 (C.2.2.2.2.2.1 _ hw) hd kk) k
theorem wp_ldcw {i : Nat} {v : Int32} (hd : At M.2.1 pc (.ldc_w i) 3 pc1) (hw : Cond.constant M.1.cls i v ∈ mTbl) (k : Wp M fr lo pc1 ls (.int v :: st) h Q) : Wp M fr lo pc ls (st) h Q := by
  obtain ⟨hd, rfl⟩ := hd
  exact wp_pure (fun p l e R s m args below meth c D aC b B L xs H locs cells slots Q lsr C hz hR hL kk => lv_ldcw C.1 C.2.1 C.2.2.2.2.1 (C.2.2.2.2.2.1 _ hw) hd kk) k
theorem wp_ldc2 {i : Nat} {v : Int64} (hd : At M.2.1 pc (.ldc2_w i) 3 pc1) (hw : Cond.constantLong M.1.cls i v ∈ mTbl) (k : Wp M fr lo pc1 ls (.long v :: st) h Q) : Wp M fr lo pc ls (st) h Q := by
  obtain ⟨hd, rfl⟩ := hd
  exact wp_pure (fun p l e R s m args below meth c D aC b B L xs H locs cells slots Q lsr C hz hR hL kk => lv_ldc2 C.1 C.2.1 C.2.2.2.2.1 (C.2.2.2.2.2.1 _ hw) hd kk) k
theorem wp_iload_n {k9 : Fin 4} {i : Nat} {x : Int32} (hd : At M.2.1 pc (.iload_n k9) 1 pc1) (hi : (k9 : Nat) = i) (hl : ls[i]? = some (some (.int x))) (k : Wp M fr lo pc1 ls (.int x :: st) h Q) : Wp M fr lo pc ls (st) h Q := by
  obtain ⟨hd, rfl⟩ := hd
  exact wp_pure (fun p l e R s m args below meth c D aC b B L xs H locs cells slots Q lsr C hz hR hL kk => lv_iload_n C.1 C.2.1 hd hi (hL.2.2 _ _ hl) kk) k
theorem wp_iload {i : Nat} {x : Int32} (hd : At M.2.1 pc (.iload i) 2 pc1) (hl : ls[i]? = some (some (.int x))) (k : Wp M fr lo pc1 ls (.int x :: st) h Q) : Wp M fr lo pc ls (st) h Q := by
  obtain ⟨hd, rfl⟩ := hd
  exact wp_pure (fun p l e R s m args below meth c D aC b B L xs H locs cells slots Q lsr C hz hR hL kk => lv_iload C.1 C.2.1 hd (hL.2.2 _ _ hl) kk) k
theorem wp_lload_n {k9 : Fin 4} {i : Nat} {x : Int64} (hd : At M.2.1 pc (.lload_n k9) 1 pc1) (hi : (k9 : Nat) = i) (hl : ls[i]? = some (some (.long x))) (k : Wp M fr lo pc1 ls (.long x :: st) h Q) : Wp M fr lo pc ls (st) h Q := by
  obtain ⟨hd, rfl⟩ := hd
  exact wp_pure (fun p l e R s m args below meth c D aC b B L xs H locs cells slots Q lsr C hz hR hL kk => lv_lload_n C.1 C.2.1 hd hi (hL.2.2 _ _ hl) kk) k
theorem wp_lload {i : Nat} {x : Int64} (hd : At M.2.1 pc (.lload i) 2 pc1) (hl : ls[i]? = some (some (.long x))) (k : Wp M fr lo pc1 ls (.long x :: st) h Q) : Wp M fr lo pc ls (st) h Q := by
  obtain ⟨hd, rfl⟩ := hd
  exact wp_pure (fun p l e R s m args below meth c D aC b B L xs H locs cells slots Q lsr C hz hR hL kk => lv_lload C.1 C.2.1 hd (hL.2.2 _ _ hl) kk) k
theorem wp_aload_n {k9 : Fin 4} {i x : Nat} (hd : At M.2.1 pc (.aload_n k9) 1 pc1) (hi : (k9 : Nat) = i) (hl : ls[i]? = some (some (.ref x))) (k : Wp M fr lo pc1 ls (.ref x :: st) h Q) : Wp M fr lo pc ls (st) h Q := by
  obtain ⟨hd, rfl⟩ := hd
  exact wp_pure (fun p l e R s m args below meth c D aC b B L xs H locs cells slots Q lsr C hz hR hL kk => lv_aload_n C.1 C.2.1 hd hi (hL.2.2 _ _ hl) kk) k
theorem wp_aload {i x : Nat} (hd : At M.2.1 pc (.aload i) 2 pc1) (hl : ls[i]? = some (some (.ref x))) (k : Wp M fr lo pc1 ls (.ref x :: st) h Q) : Wp M fr lo pc ls (st) h Q := by
  obtain ⟨hd, rfl⟩ := hd
  exact wp_pure (fun p l e R s m args below meth c D aC b B L xs H locs cells slots Q lsr C hz hR hL kk => lv_aload C.1 C.2.1 hd (hL.2.2 _ _ hl) kk) k
theorem wp_aload_nN {k9 : Fin 4} {i : Nat} (hd : At M.2.1 pc (.aload_n k9) 1 pc1) (hi : (k9 : Nat) = i) (hl : ls[i]? = some (some .null)) (k : Wp M fr lo pc1 ls (.null :: st) h Q) : Wp M fr lo pc ls (st) h Q := by
  obtain ⟨hd, rfl⟩ := hd
  exact wp_pure (fun p l e R s m args below meth c D aC b B L xs H locs cells slots Q lsr C hz hR hL kk => lv_aload_nN C.1 C.2.1 hd hi (hL.2.2 _ _ hl) kk) k
theorem wp_aloadN {i : Nat} (hd : At M.2.1 pc (.aload i) 2 pc1) (hl : ls[i]? = some (some .null)) (k : Wp M fr lo pc1 ls (.null :: st) h Q) : Wp M fr lo pc ls (st) h Q := by
  obtain ⟨hd, rfl⟩ := hd
  exact wp_pure (fun p l e R s m args below meth c D aC b B L xs H locs cells slots Q lsr C hz hR hL kk => lv_aloadN C.1 C.2.1 hd (hL.2.2 _ _ hl) kk) k
theorem wp_iadd {x y : Int32} (hd : At M.2.1 pc (.iadd) 1 pc1) (k : Wp M fr lo pc1 ls (.int (x + y) :: st) h Q) : Wp M fr lo pc ls (.int y :: .int x :: st) h Q := by
  obtain ⟨hd, rfl⟩ := hd
  exact wp_pure (fun p l e R s m args below meth c D aC b B L xs H locs cells slots Q lsr C hz hR hL kk => lv_iadd C.1 C.2.1 hd kk) k
theorem wp_ladd {x y : Int64} (hd : At M.2.1 pc (.ladd) 1 pc1) (k : Wp M fr lo pc1 ls (.long (x + y) :: st) h Q) : Wp M fr lo pc ls (.long y :: .long x :: st) h Q := by
  obtain ⟨hd, rfl⟩ := hd
  exact wp_pure (fun p l e R s m args below meth c D aC b B L xs H locs cells slots Q lsr C hz hR hL kk => lv_ladd C.1 C.2.1 hd kk) k
theorem wp_isub {x y : Int32} (hd : At M.2.1 pc (.isub) 1 pc1) (k : Wp M fr lo pc1 ls (.int (x - y) :: st) h Q) : Wp M fr lo pc ls (.int y :: .int x :: st) h Q := by
  obtain ⟨hd, rfl⟩ := hd
  exact wp_pure (fun p l e R s m args below meth c D aC b B L xs H locs cells slots Q lsr C hz hR hL kk => lv_isub C.1 C.2.1 hd kk) k
theorem wp_lsub {x y : Int64} (hd : At M.2.1 pc (.lsub) 1 pc1) (k : Wp M fr lo pc1 ls (.long (x - y) :: st) h Q) : Wp M fr lo pc ls (.long y :: .long x :: st) h Q := by
  obtain ⟨hd, rfl⟩ := hd
  exact wp_pure (fun p l e R s m args below meth c D aC b B L xs H locs cells slots Q lsr C hz hR hL kk => lv_lsub C.1 C.2.1 hd kk) k
theorem wp_imul {x y : Int32} (hd : At M.2.1 pc (.imul) 1 pc1) (k : Wp M fr lo pc1 ls (.int (x * y) :: st) h Q) : Wp M fr lo pc ls (.int y :: .int x :: st) h Q := by
  obtain ⟨hd, rfl⟩ := hd
  exact wp_pure (fun p l e R s m args below meth c D aC b B L xs H locs cells slots Q lsr C hz hR hL kk => lv_imul C.1 C.2.1 hd kk) k
theorem wp_lmul {x y : Int64} (hd : At M.2.1 pc (.lmul) 1 pc1) (k : Wp M fr lo pc1 ls (.long (x * y) :: st) h Q) : Wp M fr lo pc ls (.long y :: .long x :: st) h Q := by
  obtain ⟨hd, rfl⟩ := hd
  exact wp_pure (fun p l e R s m args below meth c D aC b B L xs H locs cells slots Q lsr C hz hR hL kk => lv_lmul C.1 C.2.1 hd kk) k
theorem wp_iand {x y : Int32} (hd : At M.2.1 pc (.iand) 1 pc1) (k : Wp M fr lo pc1 ls (.int (x &&& y) :: st) h Q) : Wp M fr lo pc ls (.int y :: .int x :: st) h Q := by
  obtain ⟨hd, rfl⟩ := hd
  exact wp_pure (fun p l e R s m args below meth c D aC b B L xs H locs cells slots Q lsr C hz hR hL kk => lv_iand C.1 C.2.1 hd kk) k
theorem wp_land {x y : Int64} (hd : At M.2.1 pc (.land) 1 pc1) (k : Wp M fr lo pc1 ls (.long (x &&& y) :: st) h Q) : Wp M fr lo pc ls (.long y :: .long x :: st) h Q := by
  obtain ⟨hd, rfl⟩ := hd
  exact wp_pure (fun p l e R s m args below meth c D aC b B L xs H locs cells slots Q lsr C hz hR hL kk => lv_land C.1 C.2.1 hd kk) k
theorem wp_ior {x y : Int32} (hd : At M.2.1 pc (.ior) 1 pc1) (k : Wp M fr lo pc1 ls (.int (x ||| y) :: st) h Q) : Wp M fr lo pc ls (.int y :: .int x :: st) h Q := by
  obtain ⟨hd, rfl⟩ := hd
  exact wp_pure (fun p l e R s m args below meth c D aC b B L xs H locs cells slots Q lsr C hz hR hL kk => lv_ior C.1 C.2.1 hd kk) k
theorem wp_lor {x y : Int64} (hd : At M.2.1 pc (.lor) 1 pc1) (k : Wp M fr lo pc1 ls (.long (x ||| y) :: st) h Q) : Wp M fr lo pc ls (.long y :: .long x :: st) h Q := by
  obtain ⟨hd, rfl⟩ := hd
  exact wp_pure (fun p l e R s m args below meth c D aC b B L xs H locs cells slots Q lsr C hz hR hL kk => lv_lor C.1 C.2.1 hd kk) k
theorem wp_ixor {x y : Int32} (hd : At M.2.1 pc (.ixor) 1 pc1) (k : Wp M fr lo pc1 ls (.int (x ^^^ y) :: st) h Q) : Wp M fr lo pc ls (.int y :: .int x :: st) h Q := by
  obtain ⟨hd, rfl⟩ := hd
  exact wp_pure (fun p l e R s m args below meth c D aC b B L xs H locs cells slots Q lsr C hz hR hL kk => lv_ixor C.1 C.2.1 hd kk) k
theorem wp_lxor {x y : Int64} (hd : At M.2.1 pc (.lxor) 1 pc1) (k : Wp M fr lo pc1 ls (.long (x ^^^ y) :: st) h Q) : Wp M fr lo pc ls (.long y :: .long x :: st) h Q := by
  obtain ⟨hd, rfl⟩ := hd
  exact wp_pure (fun p l e R s m args below meth c D aC b B L xs H locs cells slots Q lsr C hz hR hL kk => lv_lxor C.1 C.2.1 hd kk) k
theorem wp_ineg {x : Int32} (hd : At M.2.1 pc (.ineg) 1 pc1) (k : Wp M fr lo pc1 ls (.int (-x) :: st) h Q) : Wp M fr lo pc ls (.int x :: st) h Q := by
  obtain ⟨hd, rfl⟩ := hd
  exact wp_pure (fun p l e R s m args below meth c D aC b B L xs H locs cells slots Q lsr C hz hR hL kk => lv_ineg C.1 C.2.1 hd kk) k
theorem wp_idiv {x y : Int32} (hd : At M.2.1 pc (.idiv) 1 pc1) (hne : ¬ y = 0) (k : Wp M fr lo pc1 ls (.int (x / y) :: st) h Q) : Wp M fr lo pc ls (.int y :: .int x :: st) h Q := by
  obtain ⟨hd, rfl⟩ := hd
  exact wp_pure (fun p l e R s m args below meth c D aC b B L xs H locs cells slots Q lsr C hz hR hL kk => lv_idiv C.1 C.2.1 hd hne kk) k
theorem wp_irem {x y : Int32} (hd : At M.2.1 pc (.irem) 1 pc1) (hne : ¬ y = 0) (k : Wp M fr lo pc1 ls (.int (x - x / y * y) :: st) h Q) : Wp M fr lo pc ls (.int y :: .int x :: st) h Q := by
  obtain ⟨hd, rfl⟩ := hd
  exact wp_pure (fun p l e R s m args below meth c D aC b B L xs H locs cells slots Q lsr C hz hR hL kk => lv_irem C.1 C.2.1 hd hne kk) k
theorem wp_lneg {x : Int64} (hd : At M.2.1 pc (.lneg) 1 pc1) (k : Wp M fr lo pc1 ls (.long (-x) :: st) h Q) : Wp M fr lo pc ls (.long x :: st) h Q := by
  obtain ⟨hd, rfl⟩ := hd
  exact wp_pure (fun p l e R s m args below meth c D aC b B L xs H locs cells slots Q lsr C hz hR hL kk => lv_lneg C.1 C.2.1 hd kk) k
theorem wp_ldiv {x y : Int64} (hd : At M.2.1 pc (.ldiv) 1 pc1) (hne : ¬ y = 0) (k : Wp M fr lo pc1 ls (.long (x / y) :: st) h Q) : Wp M fr lo pc ls (.long y :: .long x :: st) h Q := by
  obtain ⟨hd, rfl⟩ := hd
  exact wp_pure (fun p l e R s m args below meth c D aC b B L xs H locs cells slots Q lsr C hz hR hL kk => lv_ldiv C.1 C.2.1 hd hne kk) k
theorem wp_lrem {x y : Int64} (hd : At M.2.1 pc (.lrem) 1 pc1) (hne : ¬ y = 0) (k : Wp M fr lo pc1 ls (.long (x - x / y * y) :: st) h Q) : Wp M fr lo pc ls (.long y :: .long x :: st) h Q := by
  obtain ⟨hd, rfl⟩ := hd
  exact wp_pure (fun p l e R s m args below meth c D aC b B L xs H locs cells slots Q lsr C hz hR hL kk => lv_lrem C.1 C.2.1 hd hne kk) k
theorem wp_ishl {x y : Int32} (hd : At M.2.1 pc (.ishl) 1 pc1) (k : Wp M fr lo pc1 ls (.int (x <<< (y &&& 31)) :: st) h Q) : Wp M fr lo pc ls (.int y :: .int x :: st) h Q := by
  obtain ⟨hd, rfl⟩ := hd
  exact wp_pure (fun p l e R s m args below meth c D aC b B L xs H locs cells slots Q lsr C hz hR hL kk => lv_ishl C.1 C.2.1 hd kk) k
theorem wp_ishr {x y : Int32} (hd : At M.2.1 pc (.ishr) 1 pc1) (k : Wp M fr lo pc1 ls (.int (x >>> (y &&& 31)) :: st) h Q) : Wp M fr lo pc ls (.int y :: .int x :: st) h Q := by
  obtain ⟨hd, rfl⟩ := hd
  exact wp_pure (fun p l e R s m args below meth c D aC b B L xs H locs cells slots Q lsr C hz hR hL kk => lv_ishr C.1 C.2.1 hd kk) k
theorem wp_iushr {x y : Int32} (hd : At M.2.1 pc (.iushr) 1 pc1) (k : Wp M fr lo pc1 ls (.int ((x.toUInt32 >>> (y.toUInt32 &&& Int32.toUInt32 31)).toInt32) :: st) h Q) : Wp M fr lo pc ls (.int y :: .int x :: st) h Q := by
  obtain ⟨hd, rfl⟩ := hd
  exact wp_pure (fun p l e R s m args below meth c D aC b B L xs H locs cells slots Q lsr C hz hR hL kk => lv_iushr C.1 C.2.1 hd rfl kk) k
theorem wp_lshl {x : Int64} {y : Int32} (hd : At M.2.1 pc (.lshl) 1 pc1) (k : Wp M fr lo pc1 ls (.long (x <<< (y.toInt64 &&& 63)) :: st) h Q) : Wp M fr lo pc ls (.int y :: .long x :: st) h Q := by
  obtain ⟨hd, rfl⟩ := hd
  exact wp_pure (fun p l e R s m args below meth c D aC b B L xs H locs cells slots Q lsr C hz hR hL kk => lv_lshl C.1 C.2.1 hd rfl kk) k
theorem wp_lshr {x : Int64} {y : Int32} (hd : At M.2.1 pc (.lshr) 1 pc1) (k : Wp M fr lo pc1 ls (.long (x >>> (y.toInt64 &&& 63)) :: st) h Q) : Wp M fr lo pc ls (.int y :: .long x :: st) h Q := by
  obtain ⟨hd, rfl⟩ := hd
  exact wp_pure (fun p l e R s m args below meth c D aC b B L xs H locs cells slots Q lsr C hz hR hL kk => lv_lshr C.1 C.2.1 hd rfl kk) k
theorem wp_lushr {x : Int64} {y : Int32} (hd : At M.2.1 pc (.lushr) 1 pc1) (k : Wp M fr lo pc1 ls (.long ((x.toUInt64 >>> (y.toInt64.toUInt64 &&& Int64.toUInt64 63)).toInt64) :: st) h Q) : Wp M fr lo pc ls (.int y :: .long x :: st) h Q := by
  obtain ⟨hd, rfl⟩ := hd
  exact wp_pure (fun p l e R s m args below meth c D aC b B L xs H locs cells slots Q lsr C hz hR hL kk => lv_lushr C.1 C.2.1 hd rfl kk) k
theorem wp_i2l {x : Int32} (hd : At M.2.1 pc (.i2l) 1 pc1) (k : Wp M fr lo pc1 ls (.long x.toInt64 :: st) h Q) : Wp M fr lo pc ls (.int x :: st) h Q := by
  obtain ⟨hd, rfl⟩ := hd
  exact wp_pure (fun p l e R s m args below meth c D aC b B L xs H locs cells slots Q lsr C hz hR hL kk => lv_i2l C.1 C.2.1 hd rfl kk) k
theorem wp_l2i {x : Int64} (hd : At M.2.1 pc (.l2i) 1 pc1) (k : Wp M fr lo pc1 ls (.int x.toInt32 :: st) h Q) : Wp M fr lo pc ls (.long x :: st) h Q := by
  obtain ⟨hd, rfl⟩ := hd
  exact wp_pure (fun p l e R s m args below meth c D aC b B L xs H locs cells slots Q lsr C hz hR hL kk => lv_l2i C.1 C.2.1 hd rfl kk) k
theorem wp_i2b {x : Int32} (hd : At M.2.1 pc (.i2b) 1 pc1) (k : Wp M fr lo pc1 ls (.int x.toInt8.toInt32 :: st) h Q) : Wp M fr lo pc ls (.int x :: st) h Q := by
  obtain ⟨hd, rfl⟩ := hd
  exact wp_pure (fun p l e R s m args below meth c D aC b B L xs H locs cells slots Q lsr C hz hR hL kk => lv_i2b C.1 C.2.1 hd rfl kk) k
theorem mV_cat (b B : Nat) (v : Value) : (mV b B v).category = v.category := by cases v <;> rfl
theorem wp_dup {v : Value} (hd : At M.2.1 pc (.dup) 1 pc1) (hv : v.category = 1) (k : Wp M fr lo pc1 ls (v :: v :: st) h Q) : Wp M fr lo pc ls (v :: st) h Q := by
  obtain ⟨hd, rfl⟩ := hd
  exact wp_pure (fun p l e R s m args below meth c D aC b B L xs H locs cells slots Q lsr C hz hR hL kk => lv_dup C.1 C.2.1 hd (by rw [mV_cat]; exact hv) kk) k
theorem wp_pop {v : Value} (hd : At M.2.1 pc (.pop) 1 pc1) (hv : v.category = 1) (k : Wp M fr lo pc1 ls (st) h Q) : Wp M fr lo pc ls (v :: st) h Q := by
  obtain ⟨hd, rfl⟩ := hd
  exact wp_pure (fun p l e R s m args below meth c D aC b B L xs H locs cells slots Q lsr C hz hR hL kk => lv_pop C.1 C.2.1 hd (by rw [mV_cat]; exact hv) kk) k
theorem wp_dup_x1 {v w : Value} (hd : At M.2.1 pc (.dup_x1) 1 pc1) (hv : v.category = 1) (hw : w.category = 1) (k : Wp M fr lo pc1 ls (v :: w :: v :: st) h Q) : Wp M fr lo pc ls (v :: w :: st) h Q := by
  obtain ⟨hd, rfl⟩ := hd
  exact wp_pure (fun p l e R s m args below meth c D aC b B L xs H locs cells slots Q lsr C hz hR hL kk => lv_dup_x1 C.1 C.2.1 hd (by rw [mV_cat]; exact hv) (by rw [mV_cat]; exact hw) kk) k
theorem wp_dup_x2 {v w u : Value} (hd : At M.2.1 pc (.dup_x2) 1 pc1) (hv : v.category = 1) (hw : w.category = 1) (hu : u.category = 1) (k : Wp M fr lo pc1 ls (v :: w :: u :: v :: st) h Q) : Wp M fr lo pc ls (v :: w :: u :: st) h Q := by
  obtain ⟨hd, rfl⟩ := hd
  exact wp_pure (fun p l e R s m args below meth c D aC b B L xs H locs cells slots Q lsr C hz hR hL kk => lv_dup_x2 C.1 C.2.1 hd (by rw [mV_cat]; exact hv) (by rw [mV_cat]; exact hw) (by rw [mV_cat]; exact hu) kk) k
theorem wp_dup2 {v w : Value} (hd : At M.2.1 pc (.dup2) 1 pc1) (hv : v.category = 1) (hw : w.category = 1) (k : Wp M fr lo pc1 ls (v :: w :: v :: w :: st) h Q) : Wp M fr lo pc ls (v :: w :: st) h Q := by
  obtain ⟨hd, rfl⟩ := hd
  exact wp_pure (fun p l e R s m args below meth c D aC b B L xs H locs cells slots Q lsr C hz hR hL kk => lv_dup2_11 C.1 C.2.1 hd (by rw [mV_cat]; exact hv) (by rw [mV_cat]; exact hw) kk) k
theorem wp_dup2_2 {v : Value} (hd : At M.2.1 pc (.dup2) 1 pc1) (hv : v.category = 2) (k : Wp M fr lo pc1 ls (v :: v :: st) h Q) : Wp M fr lo pc ls (v :: st) h Q := by
  obtain ⟨hd, rfl⟩ := hd
  exact wp_pure (fun p l e R s m args below meth c D aC b B L xs H locs cells slots Q lsr C hz hR hL kk => lv_dup2_2 C.1 C.2.1 hd (by rw [mV_cat]; exact hv) kk) k
theorem wp_lcmp {x y : Int64} (hd : At M.2.1 pc (.lcmp) 1 pc1) (k : Wp M fr lo pc1 ls (.int (lg_cmp x y) :: st) h Q) : Wp M fr lo pc ls (.long y :: .long x :: st) h Q := by
  obtain ⟨hd, rfl⟩ := hd
  exact wp_pure (fun p l e R s m args below meth c D aC b B L xs H locs cells slots Q lsr C hz hR hL kk => W.lcmp C.1 C.2.1 hd kk) k
theorem wp_goto {off : Int} (hd : Aj M.2.1 pc (.goto off) off 3 pc1 t) (k : Wp M fr lo t ls st h Q) : Wp M fr lo pc ls st h Q := by
  obtain ⟨hd, rfl, ht⟩ := hd
  exact wp_pure (fun p l e R s m args below meth c D aC b B L xs H locs cells slots Q lsr C hz hR hL kk => lv_goto C.1 C.2.1 hd ht kk) k
theorem wp_icmp_eq {x y : Int32} {off : Int} (hd : Aj M.2.1 pc (.if_icmp .eq off) off 3 pc1 t) (kt : x = y → Wp M fr lo t ls st h Q) (kf : ¬ x = y → Wp M fr lo pc1 ls st h Q) : Wp M fr lo pc ls (.int y :: .int x :: st) h Q := by
  obtain ⟨hd, rfl, ht⟩ := hd
  by_cases hc : x = y
  · exact wp_pure (fun p l e R s m args below meth c D aC b B L xs H locs cells slots Q lsr C hz hR hL kk => lv_icmp_eq C.1 C.2.1 hd ht (fun _ => kk) (fun q => absurd q (by first | exact fun z => z hc | exact hc))) (kt hc)
  · exact wp_pure (fun p l e R s m args below meth c D aC b B L xs H locs cells slots Q lsr C hz hR hL kk => lv_icmp_eq C.1 C.2.1 hd ht (fun q => absurd q hc) (fun _ => kk)) (kf (by first | exact hc | exact Classical.not_not.mp hc))
theorem wp_icmp_ne {x y : Int32} {off : Int} (hd : Aj M.2.1 pc (.if_icmp .ne off) off 3 pc1 t) (kt : ¬ x = y → Wp M fr lo t ls st h Q) (kf : x = y → Wp M fr lo pc1 ls st h Q) : Wp M fr lo pc ls (.int y :: .int x :: st) h Q := by
  obtain ⟨hd, rfl, ht⟩ := hd
  by_cases hc : ¬ x = y
  · exact wp_pure (fun p l e R s m args below meth c D aC b B L xs H locs cells slots Q lsr C hz hR hL kk => lv_icmp_ne C.1 C.2.1 hd ht (fun _ => kk) (fun q => absurd q (by first | exact fun z => z hc | exact hc))) (kt hc)
  · exact wp_pure (fun p l e R s m args below meth c D aC b B L xs H locs cells slots Q lsr C hz hR hL kk => lv_icmp_ne C.1 C.2.1 hd ht (fun q => absurd q hc) (fun _ => kk)) (kf (by first | exact hc | exact Classical.not_not.mp hc))
theorem wp_icmp_lt {x y : Int32} {off : Int} (hd : Aj M.2.1 pc (.if_icmp .lt off) off 3 pc1 t) (kt : x < y → Wp M fr lo t ls st h Q) (kf : ¬ x < y → Wp M fr lo pc1 ls st h Q) : Wp M fr lo pc ls (.int y :: .int x :: st) h Q := by
  obtain ⟨hd, rfl, ht⟩ := hd
  by_cases hc : x < y
  · exact wp_pure (fun p l e R s m args below meth c D aC b B L xs H locs cells slots Q lsr C hz hR hL kk => lv_icmp_lt C.1 C.2.1 hd ht (fun _ => kk) (fun q => absurd q (by first | exact fun z => z hc | exact hc))) (kt hc)
  · exact wp_pure (fun p l e R s m args below meth c D aC b B L xs H locs cells slots Q lsr C hz hR hL kk => lv_icmp_lt C.1 C.2.1 hd ht (fun q => absurd q hc) (fun _ => kk)) (kf (by first | exact hc | exact Classical.not_not.mp hc))
theorem wp_icmp_ge {x y : Int32} {off : Int} (hd : Aj M.2.1 pc (.if_icmp .ge off) off 3 pc1 t) (kt : y ≤ x → Wp M fr lo t ls st h Q) (kf : ¬ y ≤ x → Wp M fr lo pc1 ls st h Q) : Wp M fr lo pc ls (.int y :: .int x :: st) h Q := by
  obtain ⟨hd, rfl, ht⟩ := hd
  by_cases hc : y ≤ x
  · exact wp_pure (fun p l e R s m args below meth c D aC b B L xs H locs cells slots Q lsr C hz hR hL kk => lv_icmp_ge C.1 C.2.1 hd ht (fun _ => kk) (fun q => absurd q (by first | exact fun z => z hc | exact hc))) (kt hc)
  · exact wp_pure (fun p l e R s m args below meth c D aC b B L xs H locs cells slots Q lsr C hz hR hL kk => lv_icmp_ge C.1 C.2.1 hd ht (fun q => absurd q hc) (fun _ => kk)) (kf (by first | exact hc | exact Classical.not_not.mp hc))
theorem wp_icmp_gt {x y : Int32} {off : Int} (hd : Aj M.2.1 pc (.if_icmp .gt off) off 3 pc1 t) (kt : y < x → Wp M fr lo t ls st h Q) (kf : ¬ y < x → Wp M fr lo pc1 ls st h Q) : Wp M fr lo pc ls (.int y :: .int x :: st) h Q := by
  obtain ⟨hd, rfl, ht⟩ := hd
  by_cases hc : y < x
  · exact wp_pure (fun p l e R s m args below meth c D aC b B L xs H locs cells slots Q lsr C hz hR hL kk => lv_icmp_gt C.1 C.2.1 hd ht (fun _ => kk) (fun q => absurd q (by first | exact fun z => z hc | exact hc))) (kt hc)
  · exact wp_pure (fun p l e R s m args below meth c D aC b B L xs H locs cells slots Q lsr C hz hR hL kk => lv_icmp_gt C.1 C.2.1 hd ht (fun q => absurd q hc) (fun _ => kk)) (kf (by first | exact hc | exact Classical.not_not.mp hc))
theorem wp_icmp_le {x y : Int32} {off : Int} (hd : Aj M.2.1 pc (.if_icmp .le off) off 3 pc1 t) (kt : x ≤ y → Wp M fr lo t ls st h Q) (kf : ¬ x ≤ y → Wp M fr lo pc1 ls st h Q) : Wp M fr lo pc ls (.int y :: .int x :: st) h Q := by
  obtain ⟨hd, rfl, ht⟩ := hd
  by_cases hc : x ≤ y
  · exact wp_pure (fun p l e R s m args below meth c D aC b B L xs H locs cells slots Q lsr C hz hR hL kk => lv_icmp_le C.1 C.2.1 hd ht (fun _ => kk) (fun q => absurd q (by first | exact fun z => z hc | exact hc))) (kt hc)
  · exact wp_pure (fun p l e R s m args below meth c D aC b B L xs H locs cells slots Q lsr C hz hR hL kk => lv_icmp_le C.1 C.2.1 hd ht (fun q => absurd q hc) (fun _ => kk)) (kf (by first | exact hc | exact Classical.not_not.mp hc))
theorem wp_if_eq {x : Int32} {off : Int} (hd : Aj M.2.1 pc (.ifCond .eq off) off 3 pc1 t) (kt : x = 0 → Wp M fr lo t ls st h Q) (kf : ¬ x = 0 → Wp M fr lo pc1 ls st h Q) : Wp M fr lo pc ls (.int x :: st) h Q := by
  obtain ⟨hd, rfl, ht⟩ := hd
  by_cases hc : x = 0
  · exact wp_pure (fun p l e R s m args below meth c D aC b B L xs H locs cells slots Q lsr C hz hR hL kk => lv_if_eq C.1 C.2.1 hd ht (fun _ => kk) (fun q => absurd q (by first | exact fun z => z hc | exact hc))) (kt hc)
  · exact wp_pure (fun p l e R s m args below meth c D aC b B L xs H locs cells slots Q lsr C hz hR hL kk => lv_if_eq C.1 C.2.1 hd ht (fun q => absurd q hc) (fun _ => kk)) (kf (by first | exact hc | exact Classical.not_not.mp hc))
theorem wp_if_ne {x : Int32} {off : Int} (hd : Aj M.2.1 pc (.ifCond .ne off) off 3 pc1 t) (kt : ¬ x = 0 → Wp M fr lo t ls st h Q) (kf : x = 0 → Wp M fr lo pc1 ls st h Q) : Wp M fr lo pc ls (.int x :: st) h Q := by
  obtain ⟨hd, rfl, ht⟩ := hd
  by_cases hc : ¬ x = 0
  · exact wp_pure (fun p l e R s m args below meth c D aC b B L xs H locs cells slots Q lsr C hz hR hL kk => lv_if_ne C.1 C.2.1 hd ht (fun _ => kk) (fun q => absurd q (by first | exact fun z => z hc | exact hc))) (kt hc)
  · exact wp_pure (fun p l e R s m args below meth c D aC b B L xs H locs cells slots Q lsr C hz hR hL kk => lv_if_ne C.1 C.2.1 hd ht (fun q => absurd q hc) (fun _ => kk)) (kf (by first | exact hc | exact Classical.not_not.mp hc))
theorem wp_if_lt {x : Int32} {off : Int} (hd : Aj M.2.1 pc (.ifCond .lt off) off 3 pc1 t) (kt : x < 0 → Wp M fr lo t ls st h Q) (kf : ¬ x < 0 → Wp M fr lo pc1 ls st h Q) : Wp M fr lo pc ls (.int x :: st) h Q := by
  obtain ⟨hd, rfl, ht⟩ := hd
  by_cases hc : x < 0
  · exact wp_pure (fun p l e R s m args below meth c D aC b B L xs H locs cells slots Q lsr C hz hR hL kk => lv_if_lt C.1 C.2.1 hd ht (fun _ => kk) (fun q => absurd q (by first | exact fun z => z hc | exact hc))) (kt hc)
  · exact wp_pure (fun p l e R s m args below meth c D aC b B L xs H locs cells slots Q lsr C hz hR hL kk => lv_if_lt C.1 C.2.1 hd ht (fun q => absurd q hc) (fun _ => kk)) (kf (by first | exact hc | exact Classical.not_not.mp hc))
theorem wp_if_ge {x : Int32} {off : Int} (hd : Aj M.2.1 pc (.ifCond .ge off) off 3 pc1 t) (kt : 0 ≤ x → Wp M fr lo t ls st h Q) (kf : ¬ 0 ≤ x → Wp M fr lo pc1 ls st h Q) : Wp M fr lo pc ls (.int x :: st) h Q := by
  obtain ⟨hd, rfl, ht⟩ := hd
  by_cases hc : 0 ≤ x
  · exact wp_pure (fun p l e R s m args below meth c D aC b B L xs H locs cells slots Q lsr C hz hR hL kk => lv_if_ge C.1 C.2.1 hd ht (fun _ => kk) (fun q => absurd q (by first | exact fun z => z hc | exact hc))) (kt hc)
  · exact wp_pure (fun p l e R s m args below meth c D aC b B L xs H locs cells slots Q lsr C hz hR hL kk => lv_if_ge C.1 C.2.1 hd ht (fun q => absurd q hc) (fun _ => kk)) (kf (by first | exact hc | exact Classical.not_not.mp hc))
theorem wp_if_gt {x : Int32} {off : Int} (hd : Aj M.2.1 pc (.ifCond .gt off) off 3 pc1 t) (kt : 0 < x → Wp M fr lo t ls st h Q) (kf : ¬ 0 < x → Wp M fr lo pc1 ls st h Q) : Wp M fr lo pc ls (.int x :: st) h Q := by
  obtain ⟨hd, rfl, ht⟩ := hd
  by_cases hc : 0 < x
  · exact wp_pure (fun p l e R s m args below meth c D aC b B L xs H locs cells slots Q lsr C hz hR hL kk => lv_if_gt C.1 C.2.1 hd ht (fun _ => kk) (fun q => absurd q (by first | exact fun z => z hc | exact hc))) (kt hc)
  · exact wp_pure (fun p l e R s m args below meth c D aC b B L xs H locs cells slots Q lsr C hz hR hL kk => lv_if_gt C.1 C.2.1 hd ht (fun q => absurd q hc) (fun _ => kk)) (kf (by first | exact hc | exact Classical.not_not.mp hc))
theorem wp_if_le {x : Int32} {off : Int} (hd : Aj M.2.1 pc (.ifCond .le off) off 3 pc1 t) (kt : x ≤ 0 → Wp M fr lo t ls st h Q) (kf : ¬ x ≤ 0 → Wp M fr lo pc1 ls st h Q) : Wp M fr lo pc ls (.int x :: st) h Q := by
  obtain ⟨hd, rfl, ht⟩ := hd
  by_cases hc : x ≤ 0
  · exact wp_pure (fun p l e R s m args below meth c D aC b B L xs H locs cells slots Q lsr C hz hR hL kk => lv_if_le C.1 C.2.1 hd ht (fun _ => kk) (fun q => absurd q (by first | exact fun z => z hc | exact hc))) (kt hc)
  · exact wp_pure (fun p l e R s m args below meth c D aC b B L xs H locs cells slots Q lsr C hz hR hL kk => lv_if_le C.1 C.2.1 hd ht (fun q => absurd q hc) (fun _ => kk)) (kf (by first | exact hc | exact Classical.not_not.mp hc))
theorem wp_ifnull {x : Nat} {off : Int} (hd : Aj M.2.1 pc (.ifnull off) off 3 pc1 t) (k : Wp M fr lo pc1 ls st h Q) : Wp M fr lo pc ls (.ref x :: st) h Q := by
  obtain ⟨hd, rfl, ht⟩ := hd
  exact wp_pure (fun p l e R s m args below meth c D aC b B L xs H locs cells slots Q lsr C hz hR hL kk => lv_ifnull C.1 C.2.1 hd kk) k
theorem wp_ifnullN {off : Int} (hd : Aj M.2.1 pc (.ifnull off) off 3 pc1 t) (k : Wp M fr lo t ls st h Q) : Wp M fr lo pc ls (.null :: st) h Q := by
  obtain ⟨hd, rfl, ht⟩ := hd
  exact wp_pure (fun p l e R s m args below meth c D aC b B L xs H locs cells slots Q lsr C hz hR hL kk => lv_ifnullN C.1 C.2.1 hd ht kk) k
theorem wp_ifnonnull {x : Nat} {off : Int} (hd : Aj M.2.1 pc (.ifnonnull off) off 3 pc1 t) (k : Wp M fr lo t ls st h Q) : Wp M fr lo pc ls (.ref x :: st) h Q := by
  obtain ⟨hd, rfl, ht⟩ := hd
  exact wp_pure (fun p l e R s m args below meth c D aC b B L xs H locs cells slots Q lsr C hz hR hL kk => lv_ifnonnull C.1 C.2.1 hd ht kk) k
theorem wp_ifnonnullN {off : Int} (hd : Aj M.2.1 pc (.ifnonnull off) off 3 pc1 t) (k : Wp M fr lo pc1 ls st h Q) : Wp M fr lo pc ls (.null :: st) h Q := by
  obtain ⟨hd, rfl, ht⟩ := hd
  exact wp_pure (fun p l e R s m args below meth c D aC b B L xs H locs cells slots Q lsr C hz hR hL kk => lv_ifnonnullN C.1 C.2.1 hd kk) k
theorem wp_tableOut {dflt l1 h1 : Int} {offs : Array Int} {len : Nat} {x : Int32} (hd : decode M.2.1 pc = .ok (.tableswitch dflt l1 h1 offs, len)) (h9 : x.toInt < l1 ∨ h1 < x.toInt) (ht : (pc : Int) + dflt = (t : Int)) (k : Wp M fr lo t ls st h Q) : Wp M fr lo pc ls (.int x :: st) h Q :=
  wp_pure (fun p l e R s m args below meth c D aC b B L xs H locs cells slots Q lsr C hz hR hL kk => lv_tableOut C.1 C.2.1 hd h9 ht kk) k
theorem wp_tableIn {dflt l1 h1 off : Int} {offs : Array Int} {len : Nat} {x : Int32} (hd : decode M.2.1 pc = .ok (.tableswitch dflt l1 h1 offs, len)) (h8 : ¬ x.toInt < l1) (h9 : ¬ h1 < x.toInt) (ho : offs[(x.toInt - l1).toNat]? = some off) (ht : (pc : Int) + off = (t : Int)) (k : Wp M fr lo t ls st h Q) : Wp M fr lo pc ls (.int x :: st) h Q :=
  wp_pure (fun p l e R s m args below meth c D aC b B L xs H locs cells slots Q lsr C hz hR hL kk => lv_tableIn C.1 C.2.1 hd h8 h9 ho ht kk) k
theorem wp_lookup {dflt off : Int} {ps : Array (Int × Int)} {len : Nat} {x : Int32} (hd : decode M.2.1 pc = .ok (.lookupswitch dflt ps, len)) (hp : (ps.toList.zip (ps.toList.drop 1)).all (fun (a, next) => a.1 < next.1) = true) (ho : Op.lookupswitch.offset ps.toList dflt x.toInt = off) (ht : (pc : Int) + off = (t : Int)) (k : Wp M fr lo t ls st h Q) : Wp M fr lo pc ls (.int x :: st) h Q :=
  wp_pure (fun p l e R s m args below meth c D aC b B L xs H locs cells slots Q lsr C hz hR hL kk => lv_lookup C.1 C.2.1 hd hp ho ht kk) k
end RulesA
