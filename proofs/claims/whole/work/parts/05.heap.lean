/-! ===== class facts ===== -/
theorem mTbl_ps {ws : List Cond} (ps : List Nat) (hp : ws = ps.filterMap (fun i => lw_tbl[i]?)) (hg : ws.all goodWord = true) : ∀ w ∈ ws, w ∈ mTbl := by
  intro w hw
  have h1 := List.all_eq_true.mp hg w hw
  rw [hp] at hw
  obtain ⟨i, -, hi⟩ := List.mem_filterMap.mp hw
  exact List.mem_filter.mpr ⟨List.mem_of_getElem? hi, h1⟩
theorem mIn0 : ∀ w ∈ u_ws RX0 TX0 8, w ∈ mTbl := mTbl_ps [322, 324, 326, 328, 330, 332, 334, 336] (by decide +kernel) (by decide +kernel)
theorem mIn1 : ∀ w ∈ u_ws RX1 TX1 4, w ∈ mTbl := mTbl_ps [173, 175, 177, 179] (by decide +kernel) (by decide +kernel)
theorem mIn2 : ∀ w ∈ u_ws RX2 TX2 7, w ∈ mTbl := mTbl_ps [358, 360, 362, 364, 366, 368, 370] (by decide +kernel) (by decide +kernel)
theorem mIn3 : ∀ w ∈ u_ws RX3 TX3 4, w ∈ mTbl := mTbl_ps [290, 292, 294, 296] (by decide +kernel) (by decide +kernel)
theorem mIn4 : ∀ w ∈ u_ws RX4 TX4 6, w ∈ mTbl := mTbl_ps [969, 971, 973, 975, 977, 979] (by decide +kernel) (by decide +kernel)
theorem mIn5 : ∀ w ∈ u_ws RX5 TX5 2, w ∈ mTbl := mTbl_ps [413, 415] (by decide +kernel) (by decide +kernel)
theorem mIn6 : ∀ w ∈ u_ws RX6 TX6 5, w ∈ mTbl := mTbl_ps [686, 688, 690, 692, 694] (by decide +kernel) (by decide +kernel)
theorem mIn7 : ∀ w ∈ u_ws RX7 TX7 12, w ∈ mTbl := mTbl_ps [214, 216, 218, 220, 222, 224, 226, 228, 230, 232, 234, 236] (by decide +kernel) (by decide +kernel)
theorem mIn8 : ∀ w ∈ u_ws RX8 TX8 5, w ∈ mTbl := mTbl_ps [273, 275, 277, 279, 281] (by decide +kernel) (by decide +kernel)
theorem mIn9 : ∀ w ∈ u_ws RX9 TX9 9, w ∈ mTbl := mTbl_ps [445, 447, 449, 451, 453, 455, 457, 459, 461] (by decide +kernel) (by decide +kernel)
theorem mIn10 : ∀ w ∈ u_ws RX10 TX10 6, w ∈ mTbl := mTbl_ps [391, 393, 395, 397, 399, 401] (by decide +kernel) (by decide +kernel)
theorem mIn11 : ∀ w ∈ u_ws RX11 TX11 14, w ∈ mTbl := mTbl_ps [478, 480, 482, 484, 486, 488, 490, 492, 494, 496, 498, 500, 502, 504] (by decide +kernel) (by decide +kernel)
theorem mIn12 : ∀ w ∈ u_ws RX12 TX12 65, w ∈ mTbl := mTbl_ps [1326, 1328, 1330, 1332, 1334, 1336, 1338, 1340, 1342, 1344, 1346, 1348, 1350, 1352, 1354, 1356, 1358, 1360, 1362, 1364, 1366, 1368, 1370, 1372, 1374, 1376, 1378, 1380, 1382, 1384, 1386, 1388, 1390, 1392, 1394, 1396, 1398, 1400, 1402, 1404, 1406, 1408, 1410, 1412, 1414, 1416, 1418, 1420, 1422, 1424, 1426, 1428, 1430, 1432, 1434, 1436, 1438, 1440, 1442, 1444, 1446, 1448, 1450, 1452, 1454] (by decide +kernel) (by decide +kernel)
def mClsOk (ci : Nat) : Prop := vwCl[ci]? = some (mCn ci, mCt ci, mCz ci) ∧ (∀ w ∈ u_ws (mCn ci) (mCt ci) (mCz ci), w ∈ mTbl) ∧ (∀ k, k < mCz ci → parseFieldDescriptor (mCt ci k).2.2.1 = some (mTy ci k)) ∧ (∀ a, a < mCz ci → ∀ b, b < mCz ci → a ≠ b → (mCt ci a).2.1 ≠ (mCt ci b).2.1)
theorem mCls (ci : Nat) (h : ci < 13) : mClsOk ci := by
  match ci, h with
  | 0, _ => exact ⟨rfl, mIn0, tyX0_ok, nmX0⟩
  | 1, _ => exact ⟨rfl, mIn1, tyX1_ok, nmX1⟩
  | 2, _ => exact ⟨rfl, mIn2, tyX2_ok, nmX2⟩
  | 3, _ => exact ⟨rfl, mIn3, tyX3_ok, nmX3⟩
  | 4, _ => exact ⟨rfl, mIn4, tyX4_ok, nmX4⟩
  | 5, _ => exact ⟨rfl, mIn5, tyX5_ok, nmX5⟩
  | 6, _ => exact ⟨rfl, mIn6, tyX6_ok, nmX6⟩
  | 7, _ => exact ⟨rfl, mIn7, tyX7_ok, nmX7⟩
  | 8, _ => exact ⟨rfl, mIn8, tyX8_ok, nmX8⟩
  | 9, _ => exact ⟨rfl, mIn9, tyX9_ok, nmX9⟩
  | 10, _ => exact ⟨rfl, mIn10, tyX10_ok, nmX10⟩
  | 11, _ => exact ⟨rfl, mIn11, tyX11_ok, nmX11⟩
  | 12, _ => exact ⟨rfl, mIn12, tyX12_ok, nmX12⟩
  | n + 13, h => omega
/-! ===== stores into locals ===== -/
def mclr1 (o : Option Value) : Option Value := match o with
  | some (.long _) => none
  | some (.double _) => none
  | o => o
def mset : List (Option Value) → Nat → Value → List (Option Value)
  | [], _, _ => []
  | _ :: r, 0, v => some v :: (if v.category = 2 then r.set 0 none else r)
  | o :: r, 1, v => mclr1 o :: mset r 0 v
  | o :: r, i + 2, v => o :: mset r (i + 1) v
theorem mclr1_some {o : Option Value} {w : Value} (h : mclr1 o = some w) : o = some w ∧ w.category ≠ 2 := by
  cases o with
  | none => cases h
  | some v =>
    cases v <;> simp [mclr1] at h <;> subst h <;> exact ⟨rfl, by simp [Value.category]⟩
theorem mset_at : ∀ (ls : List (Option Value)) (i : Nat) (v : Value) (k : Nat) (w : Value), (mset ls i v)[k]? = some (some w) → (k = i ∧ w = v) ∨ (k ≠ i ∧ ls[k]? = some (some w) ∧ ¬ (k + 1 = i ∧ w.category = 2) ∧ ¬ (k = i + 1 ∧ v.category = 2))
  | [], _, _, _, _, h => by simp [mset] at h
  | o :: r, 0, v, 0, w, h => by
    simp [mset] at h
    exact Or.inl ⟨rfl, h.symm⟩
  | o :: r, 0, v, k + 1, w, h => by
    right
    simp only [mset, List.getElem?_cons_succ] at h
    by_cases hc : v.category = 2
    · rw [if_pos hc] at h
      by_cases hk : k = 0
      · subst hk
        cases r <;> simp at h
      · rw [List.getElem?_set_ne (fun q => hk q.symm)] at h
        exact ⟨by omega, by rw [List.getElem?_cons_succ]; exact h, fun q => by omega, fun q => hk (by omega)⟩
    · rw [if_neg hc] at h
      exact ⟨by omega, by rw [List.getElem?_cons_succ]; exact h, fun q => by omega, fun q => hc q.2⟩
  | o :: r, 1, v, 0, w, h => by
    right
    simp only [mset, List.getElem?_cons_zero] at h
    obtain ⟨h1, h2⟩ := mclr1_some (Option.some.inj h)
    exact ⟨by omega, by rw [List.getElem?_cons_zero, h1], fun q => h2 q.2, fun q => by omega⟩
  | o :: r, 1, v, k + 1, w, h => by
    simp only [mset, List.getElem?_cons_succ] at h
    rcases mset_at r 0 v k w h with ⟨rfl, q⟩ | ⟨q1, q2, q3, q4⟩
    · exact Or.inl ⟨rfl, q⟩
    · exact Or.inr ⟨by omega, by rw [List.getElem?_cons_succ]; exact q2, fun q => by omega, fun q => q4 ⟨by omega, q.2⟩⟩
  | o :: r, i + 2, v, 0, w, h => by
    right
    simp only [mset, List.getElem?_cons_zero] at h
    exact ⟨by omega, by rw [List.getElem?_cons_zero]; exact h, fun q => by omega, fun q => by omega⟩
  | o :: r, i + 2, v, k + 1, w, h => by
    simp only [mset, List.getElem?_cons_succ] at h
    rcases mset_at r (i + 1) v k w h with ⟨rfl, q⟩ | ⟨q1, q2, q3, q4⟩
    · exact Or.inl ⟨rfl, q⟩
    · exact Or.inr ⟨by omega, by rw [List.getElem?_cons_succ]; exact q2, fun q => q3 ⟨by omega, q.2⟩, fun q => q4 ⟨by omega, q.2⟩⟩
def mLv (b B : Nat) (ls : List (Option Value)) : List (Nat × Value) := (List.range ls.length).filterMap (fun k => match ls[k]? with
  | some (some v) => some (k, mV b B v)
  | _ => none)
theorem mLv_mem {b B : Nat} {ls : List (Option Value)} {k : Nat} {v : Value} (h : ls[k]? = some (some v)) : (k, mV b B v) ∈ mLv b B ls := by
  refine List.mem_filterMap.mpr ⟨k, List.mem_range.mpr ((List.getElem?_eq_some_iff.mp h).1), ?_⟩
  rw [h]
theorem mLv_of {b B : Nat} {ls : List (Option Value)} {q : Nat × Value} (h : q ∈ mLv b B ls) : ∃ v, ls[q.1]? = some (some v) ∧ q.2 = mV b B v := by
  obtain ⟨k, -, hk⟩ := List.mem_filterMap.mp h
  split at hk
  · rename_i v hv
    cases hk
    exact ⟨v, hv, rfl⟩
  · cases hk
theorem mL.has {b B : Nat} {lsr : Array Slot} {nL : Nat} {ls : List (Option Value)} (h : mL b B lsr nL ls) : lv_has lsr nL (mLv b B ls) := by
  refine ⟨h.1, h.2.1, fun q hq => ?_⟩
  obtain ⟨v, h1, h2⟩ := mLv_of hq
  rw [h2]
  exact h.2.2 _ _ h1
theorem mL_store1 {b B : Nat} {ls' : Array Slot} {nL i : Nat} {ls : List (Option Value)} {v : Value} (hc : v.category = 1) (h : lv_has ls' nL ((i, mV b B v) :: (mLv b B ls).filter (fun q => !(q.1 == i) && !(q.1 + 1 == i && q.2.category == 2)))) : mL b B ls' nL (mset ls i v) := by
  refine ⟨h.1, h.2.1, fun k w hk => ?_⟩
  rcases mset_at ls i v k w hk with ⟨rfl, rfl⟩ | ⟨q1, q2, q3, -⟩
  · exact h.2.2 _ List.mem_cons_self
  · refine h.2.2 (k, mV b B w) (List.mem_cons_of_mem _ (List.mem_filter.mpr ⟨mLv_mem q2, ?_⟩))
    simp only [mV_cat]
    have e1 : (k == i) = false := by simp [q1]
    rw [e1]
    by_cases e2 : k + 1 = i
    · have : ¬ w.category = 2 := fun q => q3 ⟨e2, q⟩
      simp [e2, this]
    · simp [e2]
theorem mL_store2 {b B : Nat} {ls' : Array Slot} {nL i : Nat} {ls : List (Option Value)} {v : Value} (hc : v.category = 2) (h : lv_has ls' nL ((i, mV b B v) :: (mLv b B ls).filter (fun q => !(q.1 == i) && (!(q.1 == i + 1) && !(q.1 + 1 == i && q.2.category == 2))))) : mL b B ls' nL (mset ls i v) := by
  refine ⟨h.1, h.2.1, fun k w hk => ?_⟩
  rcases mset_at ls i v k w hk with ⟨rfl, rfl⟩ | ⟨q1, q2, q3, q4⟩
  · exact h.2.2 _ List.mem_cons_self
  · refine h.2.2 (k, mV b B w) (List.mem_cons_of_mem _ (List.mem_filter.mpr ⟨mLv_mem q2, ?_⟩))
    simp only [mV_cat]
    have e1 : (k == i) = false := by simp [q1]
    have e3 : (k == i + 1) = false := by
      have : ¬ k = i + 1 := fun q => q4 ⟨q, hc⟩
      simp [this]
    rw [e1, e3]
    by_cases e2 : k + 1 = i
    · have : ¬ w.category = 2 := fun q => q3 ⟨e2, q⟩
      simp [e2, this]
    · simp [e2]
/-- a step that leaves the heap -/
theorem wp_loc {M : mM} {fr lo pc pc1 : Nat} {ls ls1 : List (Option Value)} {st st1 : List Value} {h : mH} {Q : Option Value → mH → Prop}
    (step : ∀ (p : Program) (l : Launch) (e : Env) (R : Room) (s : State) (m : MethodId) (args : Array Value) (below : List Frame) (meth : Method) (c : Code) (D : va_G) (aC : Nat → ClassId) (b B L : Nat) (xs : Nat → Int32) (H : Heap) (locs : List Loc) (cells slots : Nat) (Q : State → Prop) (lsr : Array Slot),
      mCx M p R s m args meth c D aC b B L xs fr lo → mL b B lsr M.2.2.1 ls →
      (∀ lsr1, mL b B lsr1 M.2.2.1 ls1 → W p l e R s m args below meth c H locs cells slots Q (F0 m pc1 lsr1 (st1.map (mV b B)))) →
      W p l e R s m args below meth c H locs cells slots Q (F0 m pc lsr (st.map (mV b B))))
    (k : Wp M fr lo pc1 ls1 st1 h Q) : Wp M fr lo pc ls st h Q := by
  refine wp_step (Nat.le_refl _) (Nat.le_refl _) ?_ k
  intro p l e R s m args below meth c D aC b B L xs H locs cells slots Q lsr C hz hc hs hR hL kk
  have e1 : cells + (hN h - hN h) = cells := by omega
  have e2 : slots + (hU h - hU h) = slots := by omega
  rw [e1, e2] at kk
  exact step p l e R s m args below meth c D aC b B L xs H locs cells slots Q lsr C hL (fun lsr1 q => kk H locs lsr1 hR q)
section RulesB
variable {M : mM} {fr lo pc pc1 t : Nat} {ls ls1 : List (Option Value)} {st : List Value} {h : mH} {Q : Option Value → mH → Prop}
theorem wp_istore {i : Nat} {x : Int32} (hd : At M.2.1 pc (.istore i) 2 pc1) (hn : i < M.2.2.1) (hs : mset ls i (.int x) = ls1) (k : Wp M fr lo pc1 ls1 st h Q) : Wp M fr lo pc ls (.int x :: st) h Q := by
  obtain ⟨hd, rfl⟩ := hd
  subst hs
  exact wp_loc (fun p l e R s m args below meth c D aC b B L xs H locs cells slots Q lsr C hL kk => lv_istore C.1 C.2.1 hd hL.has hn rfl (fun ls' q => kk ls' (mL_store1 (v := .int x) rfl q))) k
theorem wp_istore_n {k9 : Fin 4} {i : Nat} {x : Int32} (hd : At M.2.1 pc (.istore_n k9) 1 pc1) (hi : (k9 : Nat) = i) (hn : i < M.2.2.1) (hs : mset ls i (.int x) = ls1) (k : Wp M fr lo pc1 ls1 st h Q) : Wp M fr lo pc ls (.int x :: st) h Q := by
  obtain ⟨hd, rfl⟩ := hd
  subst hs
  exact wp_loc (fun p l e R s m args below meth c D aC b B L xs H locs cells slots Q lsr C hL kk => lv_istore_n C.1 C.2.1 hd hi hL.has hn rfl (fun ls' q => kk ls' (mL_store1 (v := .int x) rfl q))) k
theorem wp_lstore {i : Nat} {x : Int64} (hd : At M.2.1 pc (.lstore i) 2 pc1) (hn : i + 1 < M.2.2.1) (hs : mset ls i (.long x) = ls1) (k : Wp M fr lo pc1 ls1 st h Q) : Wp M fr lo pc ls (.long x :: st) h Q := by
  obtain ⟨hd, rfl⟩ := hd
  subst hs
  exact wp_loc (fun p l e R s m args below meth c D aC b B L xs H locs cells slots Q lsr C hL kk => lv_lstore C.1 C.2.1 hd hL.has hn rfl (fun ls' q => kk ls' (mL_store2 (v := .long x) rfl q))) k
theorem wp_lstore_n {k9 : Fin 4} {i : Nat} {x : Int64} (hd : At M.2.1 pc (.lstore_n k9) 1 pc1) (hi : (k9 : Nat) = i) (hn : i + 1 < M.2.2.1) (hs : mset ls i (.long x) = ls1) (k : Wp M fr lo pc1 ls1 st h Q) : Wp M fr lo pc ls (.long x :: st) h Q := by
  obtain ⟨hd, rfl⟩ := hd
  subst hs
  exact wp_loc (fun p l e R s m args below meth c D aC b B L xs H locs cells slots Q lsr C hL kk => lv_lstore_n C.1 C.2.1 hd hi hL.has hn rfl (fun ls' q => kk ls' (mL_store2 (v := .long x) rfl q))) k
theorem wp_astore {i : Nat} {x : Nat} (hd : At M.2.1 pc (.astore i) 2 pc1) (hn : i < M.2.2.1) (hs : mset ls i (.ref x) = ls1) (k : Wp M fr lo pc1 ls1 st h Q) : Wp M fr lo pc ls (.ref x :: st) h Q := by
  obtain ⟨hd, rfl⟩ := hd
  subst hs
  exact wp_loc (fun p l e R s m args below meth c D aC b B L xs H locs cells slots Q lsr C hL kk => lv_astore C.1 C.2.1 hd hL.has hn rfl (fun ls' q => kk ls' (mL_store1 (v := .ref x) rfl q))) k
theorem wp_astore_n {k9 : Fin 4} {i : Nat} {x : Nat} (hd : At M.2.1 pc (.astore_n k9) 1 pc1) (hi : (k9 : Nat) = i) (hn : i < M.2.2.1) (hs : mset ls i (.ref x) = ls1) (k : Wp M fr lo pc1 ls1 st h Q) : Wp M fr lo pc ls (.ref x :: st) h Q := by
  obtain ⟨hd, rfl⟩ := hd
  subst hs
  exact wp_loc (fun p l e R s m args below meth c D aC b B L xs H locs cells slots Q lsr C hL kk => lv_astore_n C.1 C.2.1 hd hi hL.has hn rfl (fun ls' q => kk ls' (mL_store1 (v := .ref x) rfl q))) k
theorem wp_astoreN {i : Nat} (hd : At M.2.1 pc (.astore i) 2 pc1) (hn : i < M.2.2.1) (hs : mset ls i .null = ls1) (k : Wp M fr lo pc1 ls1 st h Q) : Wp M fr lo pc ls (.null :: st) h Q := by
  obtain ⟨hd, rfl⟩ := hd
  subst hs
  exact wp_loc (fun p l e R s m args below meth c D aC b B L xs H locs cells slots Q lsr C hL kk => lv_astoreN C.1 C.2.1 hd hL.has hn rfl (fun ls' q => kk ls' (mL_store1 (v := .null) rfl q))) k
theorem wp_astore_nN {k9 : Fin 4} {i : Nat} (hd : At M.2.1 pc (.astore_n k9) 1 pc1) (hi : (k9 : Nat) = i) (hn : i < M.2.2.1) (hs : mset ls i .null = ls1) (k : Wp M fr lo pc1 ls1 st h Q) : Wp M fr lo pc ls (.null :: st) h Q := by
  obtain ⟨hd, rfl⟩ := hd
  subst hs
  exact wp_loc (fun p l e R s m args below meth c D aC b B L xs H locs cells slots Q lsr C hL kk => lv_astore_nN C.1 C.2.1 hd hi hL.has hn rfl (fun ls' q => kk ls' (mL_store1 (v := .null) rfl q))) k
theorem wp_iinc {i : Nat} {n : Int} {x v : Int32} (hd : At M.2.1 pc (.iinc i n) 3 pc1) (hl : ls[i]? = some (some (.int x))) (hv : x + Int32.ofInt n = v) (hn : i < M.2.2.1) (hs : mset ls i (.int v) = ls1) (k : Wp M fr lo pc1 ls1 st h Q) : Wp M fr lo pc ls st h Q := by
  obtain ⟨hd, rfl⟩ := hd
  subst hs
  refine wp_loc (fun p l e R s m args below meth c D aC b B L xs H locs cells slots Q lsr C hL kk => ?_) k
  obtain ⟨j, hj⟩ := List.getElem?_of_mem (mLv_mem (b := b) (B := B) hl)
  exact lv_iinc C.1 C.2.1 hd hL.has hj hv hn rfl (fun ls' q => kk ls' (mL_store1 (v := .int v) rfl q))
/-! ===== fields ===== -/
/-- an object of a class, a row of a kind and a length -/
def hO (h : mH) (a ci : Nat) : Prop := a < hN h ∧ (hK h a).1 = ci
def hA (h : mH) (a kd n : Nat) : Prop := a < hN h ∧ hK h a = (kd, n)
/-- an entry that names field k of class ci -/
def mFl (own : String) (idx ci k : Nat) : Prop := Cond.fieldLink own idx (mCt ci k).1 (mCt ci k).2.1 (mCt ci k).2.2.1 ∈ mTbl ∧ k < mCz ci ∧ ci < 13
theorem mV_rf (b B : Nat) (o : Option Nat) : mV b B (va_rf o) = va_rf (o.map (mAd b B)) := by cases o <;> rfl
theorem wp_getI {a ci k idx : Nat} (hd : At M.2.1 pc (.getfield idx) 3 pc1) (hf : mFl M.1.cls idx ci k) (ht : mTk (mTy ci k) = 0) (ho : hO h a ci) (k9 : Wp M fr lo pc1 ls (.int (hI h a k) :: st) h Q) : Wp M fr lo pc ls (.ref a :: st) h Q := by
  obtain ⟨hd, rfl⟩ := hd
  obtain ⟨hc1, hc2, hc3, hc4⟩ := mCls ci hf.2.2
  exact wp_pure (fun p l e R s m args below meth c D aC b B L xs H locs cells slots Q lsr C hz hR hL kk => va_get (D := D) (cl := vwCl) (ci := ci) (ws := mW aC (mAd b B) h) C.1 C.2.1 C.2.2.2.2.2.1 hc2 C.2.2.2.2.1 C.2.2.2.2.2.2.2.2.1.1 hR.1 a (by rw [mW_at _ _ _ ho.1, mE_obj ho.2 hf.2.2]) hc1 k hf.2.1 (C.2.2.2.2.2.1 _ hf.1) (fun _ q => q) (by first | (rw [mFs_at _ _ _ _ hf.2.1, ht]; done) | (rw [mFs_at _ _ _ _ hf.2.1, ht]; rfl)) hd kk) k9
theorem wp_getL {a ci k idx : Nat} (hd : At M.2.1 pc (.getfield idx) 3 pc1) (hf : mFl M.1.cls idx ci k) (ht : mTk (mTy ci k) = 1) (ho : hO h a ci) (k9 : Wp M fr lo pc1 ls (.long (hL h a k) :: st) h Q) : Wp M fr lo pc ls (.ref a :: st) h Q := by
  obtain ⟨hd, rfl⟩ := hd
  obtain ⟨hc1, hc2, hc3, hc4⟩ := mCls ci hf.2.2
  exact wp_pure (fun p l e R s m args below meth c D aC b B L xs H locs cells slots Q lsr C hz hR hL kk => va_get (D := D) (cl := vwCl) (ci := ci) (ws := mW aC (mAd b B) h) C.1 C.2.1 C.2.2.2.2.2.1 hc2 C.2.2.2.2.1 C.2.2.2.2.2.2.2.2.1.1 hR.1 a (by rw [mW_at _ _ _ ho.1, mE_obj ho.2 hf.2.2]) hc1 k hf.2.1 (C.2.2.2.2.2.1 _ hf.1) (fun _ q => q) (by first | (rw [mFs_at _ _ _ _ hf.2.1, ht]; done) | (rw [mFs_at _ _ _ _ hf.2.1, ht]; rfl)) hd kk) k9
theorem wp_getR {a ci k idx : Nat} {o : Option Nat} (hd : At M.2.1 pc (.getfield idx) 3 pc1) (hf : mFl M.1.cls idx ci k) (ht : mTk (mTy ci k) = 2) (ho : hO h a ci) (hv : hR h a k = o) (k9 : Wp M fr lo pc1 ls (va_rf o :: st) h Q) : Wp M fr lo pc ls (.ref a :: st) h Q := by
  obtain ⟨hd, rfl⟩ := hd
  subst hv; obtain ⟨hc1, hc2, hc3, hc4⟩ := mCls ci hf.2.2
  exact wp_pure (fun p l e R s m args below meth c D aC b B L xs H locs cells slots Q lsr C hz hR hL kk => va_get (D := D) (cl := vwCl) (ci := ci) (ws := mW aC (mAd b B) h) C.1 C.2.1 C.2.2.2.2.2.1 hc2 C.2.2.2.2.1 C.2.2.2.2.2.2.2.2.1.1 hR.1 a (by rw [mW_at _ _ _ ho.1, mE_obj ho.2 hf.2.2]) hc1 k hf.2.1 (C.2.2.2.2.2.1 _ hf.1) (fun _ q => q) (by first | (rw [mFs_at _ _ _ _ hf.2.1, ht]; done) | (rw [mFs_at _ _ _ _ hf.2.1, ht]; rfl)) hd (by rw [List.map_cons, mV_rf] at kk; exact kk)) k9
/-- a put, in the machine: the picture's field changes, nothing else -/
theorem mp_put {p : Program} {l : Launch} {e : Env} {R : Room} {s : State} {m : MethodId} {args : Array Value} {below : List Frame} {meth : Method} {c : Code} {D : va_G} {aC : Nat → ClassId} {b B L : Nat} {xs : Nat → Int32} {H : Heap} {locs : List Loc} {cells slots : Nat} {Qs : State → Prop} {lsr : Array Slot} {rest : List Value} {h1 : mH} {a ci k idx : Nat} {v : Value}
    (C : mCx M p R s m args meth c D aC b B L xs fr lo) (hz : hN h ≤ scrA) (hR : mR D aC b B L xs s h H locs) (hd : decode M.2.1 pc = .ok (.putfield idx, 3)) (hf : mFl M.1.cls idx ci k) (hfin : (mCt ci k).2.2.2 = false ∨ ((mCt ci k).2.2.2 = true ∧ M.1.name = "<init>" ∧ (mCt ci k).1 = M.1.cls)) (ho : hO h a ci) (hn : narrow (mTy ci k) v = v) (hfit : fits (mTy ci k) v = true)
    (hN1 : hN h1 = hN h) (hK1 : ∀ x, hK h1 x = hK h x) (hs1 : hI h1 scrA = hI h scrA) (hset : (mFs (mAd b B) h a ci).set k v = mFs (mAd b B) h1 a ci) (hoth : ∀ i, i < hN h → i ≠ a → mE aC (mAd b B) h1 i = mE aC (mAd b B) h i)
    (kk : ∀ (H1 : Heap) (locs1 : List Loc), mR D aC b B L xs s h1 H1 locs1 → W p l e R s m args below meth c H1 locs1 cells slots Qs (F0 m (pc + 3) lsr rest)) :
    W p l e R s m args below meth c H locs cells slots Qs (F0 m pc lsr (v :: .ref (mAd b B a) :: rest)) := by
  obtain ⟨hx, hb, -, -, hown, hts, -, hnm, hKX, -, -, -, -, -⟩ := C
  obtain ⟨hP, hS0, hsz, hsc, hxs⟩ := hR
  obtain ⟨hc1, hc2, hc3, hc4⟩ := mCls ci hf.2.2
  have hK := hKX.1
  have hap := va_apart (own := M.1.cls) hts hc2 (mTy ci) hc3 hc4 hK hc1
  have he : (mW aC (mAd b B) h)[a]? = some (mAd b B a, .inr (ci, mFs (mAd b B) h a ci)) := by rw [mW_at _ _ _ ho.1, mE_obj ho.2 hf.2.2]
  obtain ⟨r, q0, cell, q1, q2, q3, q4⟩ := hP a _ he
  have hr : r = (mCn ci, mCt ci, mCz ci) := Option.some.inj (q0.symm.trans hc1)
  subst hr
  obtain ⟨hSl, hfc, kC, hkC, hkind⟩ := hK.1 ci _ hc1
  obtain ⟨cf, kf, fi, f, hi, hsl⟩ := hSl k hf.2.1
  have hst := (u_facts hfc hkC (u_lays hts hc2 hf.2.1) hi).1
  have hlay := hts _ (hc2 _ (u_in_lay hf.2.1))
  have hD := mW_D aC b B h hz
  have hmr : ∀ H' : Heap, H'[mAd b B a]? = some (cell.setSlot (D.2 ci k) v) → H'.size = H.size → (∀ q, q ≠ mAd b B a → H'[q]? = H[q]?) → mR D aC b B L xs s h1 H' (locs ++ [⟨mAd b B a, D.2 ci k⟩]) := by
    intro H' e1 e2 e3
    refine ⟨?_, hS0.put e2 e3 (hD.2 a _ he), by rw [e2, hN1]; exact hsz, by rw [hK1]; exact hsc, by rw [hs1]; exact hxs⟩
    have hw : (mW aC (mAd b B) h).set a (mAd b B a, .inr (ci, mFs (mAd b B) h1 a ci)) = mW aC (mAd b B) h1 := mW_set hN1 (mE_obj (by rw [hK1]; exact ho.2) hf.2.2) hoth
    rw [← hw]
    refine hP.set hD he ⟨_, hc1, t_OB.to (V := updV (vp_V (mFs (mAd b B) h a ci)) k v) ⟨_, e1, q2, q3, t_set q4 hap hf.2.1 v⟩ (fun j _ => ?_)⟩ e3
    rw [← hset]
    exact vp_updV_set (by rw [mFs_len]; exact hf.2.1) v j
  have hslot : f.slot < cell.slots.size := by rw [hsl]; exact k2_hasslot (q4 k hf.2.1)
  rcases hfin with hfin | ⟨hfin, hin, hdecl⟩
  · unfold u_lay at hlay
    rw [if_neg (by rw [hfin]; decide)] at hlay
    have h6 := u_store hfc hkC hkind hlay hi (hc3 k hf.2.1) hn hfit
    refine W.putK hx hb (f := f) ⟨hown, hts _ hf.1, ⟨_, _, _, hi⟩, hst⟩ (by rw [q2]; exact h6) q1 q3 hslot rfl rfl hd fun H' e1 e2 e3 => ?_
    rw [hsl] at e1 ⊢
    exact kk H' _ (hmr H' e1 e2 e3)
  · unfold u_lay at hlay
    rw [if_pos hfin] at hlay
    have hcf : m.cls = cf := by
      obtain ⟨_, _, c', _, _, _, -, -, hf', -, -, -, hown2, -⟩ := Cond.laysFinal_spec hlay
      have e1 : c' = cf := by have := hi.symm.trans hf'; simp at this; exact this.1.symm
      rw [hdecl] at hown2
      rw [← e1]; exact Option.some.inj (hown.symm.trans hown2)
    have h6 := u_fits hfc hkC hkind (Or.inr hlay) hi (hc3 k hf.2.1) hn hfit
    refine W.putFinK hx hb hown (hts _ hf.1) hi hst hcf (hnm hin) (by rw [q2]; exact h6) q1 q3 hslot rfl rfl hd fun H' e1 e2 e3 => ?_
    rw [hsl] at e1 ⊢
    exact kk H' _ (hmr H' e1 e2 e3)
def mFin (M : mM) (ci k : Nat) : Prop := (mCt ci k).2.2.2 = false ∨ ((mCt ci k).2.2.2 = true ∧ M.1.name = "<init>" ∧ (mCt ci k).1 = M.1.cls)
theorem wp_putI {a ci k idx : Nat} {v : Int32} (hd : At M.2.1 pc (.putfield idx) 3 pc1) (hf : mFl M.1.cls idx ci k) (ht : mTk (mTy ci k) = 0) (hfin : mFin M ci k) (ho : hO h a ci) (hn : narrow (mTy ci k) (.int v) = .int v) (hft : fits (mTy ci k) (.int v) = true) (k9 : Wp M fr lo pc1 ls st (sI h a k v) Q) : Wp M fr lo pc ls (.int v :: .ref a :: st) h Q := by
  obtain ⟨hd, rfl⟩ := hd
  refine wp_step (h1 := sI h a k v) (Nat.le_refl (hN h)) (Nat.le_refl (hU h)) ?_ k9
  intro p l e R s m args below meth c D aC b B L xs H locs cells slots Q lsr C hz hc hs hR hL kk
  have e1 : cells + (hN (sI h a k v) - hN h) = cells := by show cells + (hN h - hN h) = cells; omega
  have e2 : slots + (hU (sI h a k v) - hU h) = slots := by show slots + (hU h - hU h) = slots; omega
  rw [e1, e2] at kk
  
  exact mp_put (h := h) (h1 := sI h a k v) C hz hR hd hf hfin ho hn hft rfl (fun _ => rfl) (by funext y; show up2 h.2.2.1 a k v scrA y = h.2.2.1 scrA y; rw [up2_ne (by have := ho.1; have : hN h ≤ scrA := hz; omega)]) (mFs_sI ht) (fun i _ hi => mE_sI hi) (fun H1 locs1 hR1 => kk H1 locs1 lsr hR1 hL)
theorem mTk_long {ty : FieldType} (h : mTk ty = 1) : ty = .long := by cases ty <;> simp [mTk] at h; rfl
theorem mTk_ref {ty : FieldType} (h : mTk ty = 2) (v : Option Nat) (ad : Nat → Nat) : narrow ty (va_rf (v.map ad)) = va_rf (v.map ad) ∧ fits ty (va_rf (v.map ad)) = true := by
  cases ty <;> simp [mTk] at h <;> cases v <;> exact ⟨rfl, rfl⟩
theorem wp_putL {a ci k idx : Nat} {v : Int64} (hd : At M.2.1 pc (.putfield idx) 3 pc1) (hf : mFl M.1.cls idx ci k) (ht : mTk (mTy ci k) = 1) (hfin : mFin M ci k) (ho : hO h a ci) (k9 : Wp M fr lo pc1 ls st (sL h a k v) Q) : Wp M fr lo pc ls (.long v :: .ref a :: st) h Q := by
  obtain ⟨hd, rfl⟩ := hd
  refine wp_step (h1 := sL h a k v) (Nat.le_refl (hN h)) (Nat.le_refl (hU h)) ?_ k9
  intro p l e R s m args below meth c D aC b B L xs H locs cells slots Q lsr C hz hc hs hR hL kk
  have e1 : cells + (hN (sL h a k v) - hN h) = cells := by show cells + (hN h - hN h) = cells; omega
  have e2 : slots + (hU (sL h a k v) - hU h) = slots := by show slots + (hU h - hU h) = slots; omega
  rw [e1, e2] at kk
  
  exact mp_put (h := h) (h1 := sL h a k v) C hz hR hd hf hfin ho (by have := mTk_long ht; rw [this]; rfl) (by have := mTk_long ht; rw [this]; rfl) rfl (fun _ => rfl) rfl (mFs_sL ht) (fun i _ hi => mE_sL hi) (fun H1 locs1 hR1 => kk H1 locs1 lsr hR1 hL)
theorem wp_putR {a ci k idx : Nat} {v : Option Nat} (hd : At M.2.1 pc (.putfield idx) 3 pc1) (hf : mFl M.1.cls idx ci k) (ht : mTk (mTy ci k) = 2) (hfin : mFin M ci k) (ho : hO h a ci) (k9 : Wp M fr lo pc1 ls st (sR h a k v) Q) : Wp M fr lo pc ls (va_rf v :: .ref a :: st) h Q := by
  obtain ⟨hd, rfl⟩ := hd
  refine wp_step (h1 := sR h a k v) (Nat.le_refl (hN h)) (Nat.le_refl (hU h)) ?_ k9
  intro p l e R s m args below meth c D aC b B L xs H locs cells slots Q lsr C hz hc hs hR hL kk
  have e1 : cells + (hN (sR h a k v) - hN h) = cells := by show cells + (hN h - hN h) = cells; omega
  have e2 : slots + (hU (sR h a k v) - hU h) = slots := by show slots + (hU h - hU h) = slots; omega
  rw [e1, e2] at kk
  rw [List.map_cons, mV_rf]
  exact mp_put (h := h) (h1 := sR h a k v) C hz hR hd hf hfin ho (mTk_ref ht v _).1 (mTk_ref ht v _).2 rfl (fun _ => rfl) rfl (mFs_sR ht) (fun i _ hi => mE_sR hi) (fun H1 locs1 hR1 => kk H1 locs1 lsr hR1 hL)
end RulesB
