/-! ===== the typed memory: what cells hold, by address and place ===== -/
/-- ((next address, slots used), kind and size, ints, longs, references) -/
abbrev mH : Type := (Nat × Nat) × (Nat → Nat × Nat) × (Nat → Nat → Int32) × (Nat → Nat → Int64) × (Nat → Nat → Option Nat)
def hN (h : mH) : Nat := h.1.1
def hU (h : mH) : Nat := h.1.2
def hK (h : mH) (a : Nat) : Nat × Nat := h.2.1 a
def hI (h : mH) (a k : Nat) : Int32 := h.2.2.1 a k
def hL (h : mH) (a k : Nat) : Int64 := h.2.2.2.1 a k
def hR (h : mH) (a k : Nat) : Option Nat := h.2.2.2.2 a k
def up2 {α : Type} (f : Nat → Nat → α) (a k : Nat) (v : α) : Nat → Nat → α := fun x y => if x = a ∧ y = k then v else f x y
def sI (h : mH) (a k : Nat) (v : Int32) : mH := (h.1, h.2.1, up2 h.2.2.1 a k v, h.2.2.2.1, h.2.2.2.2)
def sL (h : mH) (a k : Nat) (v : Int64) : mH := (h.1, h.2.1, h.2.2.1, up2 h.2.2.2.1 a k v, h.2.2.2.2)
def sR (h : mH) (a k : Nat) (v : Option Nat) : mH := (h.1, h.2.1, h.2.2.1, h.2.2.2.1, up2 h.2.2.2.2 a k v)
/-- a new cell of a kind and a size, all zero -/
def nw (h : mH) (kd n : Nat) : mH := ((h.1.1 + 1, h.1.2 + n), (fun x => if x = h.1.1 then (kd, n) else h.2.1 x), (fun x y => if x = h.1.1 then 0 else h.2.2.1 x y), (fun x y => if x = h.1.1 then 0 else h.2.2.2.1 x y), (fun x y => if x = h.1.1 then none else h.2.2.2.2 x y))
/-- a row's longs (ints) as another's -/
def cpL (h : mH) (a0 sp a dp n : Nat) : mH := (h.1, h.2.1, h.2.2.1, (fun x y => if x = a then va_cpy (h.2.2.2.1 a0) (h.2.2.2.1 a) sp dp n y else h.2.2.2.1 x y), h.2.2.2.2)
def cpI (h : mH) (a0 sp a dp n : Nat) : mH := (h.1, h.2.1, (fun x y => if x = a then va_cpy (h.2.2.1 a0) (h.2.2.1 a) sp dp n y else h.2.2.1 x y), h.2.2.2.1, h.2.2.2.2)
theorem hN_sI (h : mH) (a k : Nat) (v : Int32) : hN (sI h a k v) = hN h := rfl
theorem hN_sL (h : mH) (a k : Nat) (v : Int64) : hN (sL h a k v) = hN h := rfl
theorem hN_sR (h : mH) (a k : Nat) (v : Option Nat) : hN (sR h a k v) = hN h := rfl
theorem hU_sI (h : mH) (a k : Nat) (v : Int32) : hU (sI h a k v) = hU h := rfl
theorem hU_sL (h : mH) (a k : Nat) (v : Int64) : hU (sL h a k v) = hU h := rfl
theorem hU_sR (h : mH) (a k : Nat) (v : Option Nat) : hU (sR h a k v) = hU h := rfl
theorem hK_sI (h : mH) (a k : Nat) (v : Int32) (x : Nat) : hK (sI h a k v) x = hK h x := rfl
theorem hK_sL (h : mH) (a k : Nat) (v : Int64) (x : Nat) : hK (sL h a k v) x = hK h x := rfl
theorem hK_sR (h : mH) (a k : Nat) (v : Option Nat) (x : Nat) : hK (sR h a k v) x = hK h x := rfl
theorem hI_sI (h : mH) (a k : Nat) (v : Int32) (x y : Nat) : hI (sI h a k v) x y = if x = a ∧ y = k then v else hI h x y := rfl
theorem hI_sL (h : mH) (a k : Nat) (v : Int64) (x y : Nat) : hI (sL h a k v) x y = hI h x y := rfl
theorem hI_sR (h : mH) (a k : Nat) (v : Option Nat) (x y : Nat) : hI (sR h a k v) x y = hI h x y := rfl
theorem hL_sI (h : mH) (a k : Nat) (v : Int32) (x y : Nat) : hL (sI h a k v) x y = hL h x y := rfl
theorem hL_sL (h : mH) (a k : Nat) (v : Int64) (x y : Nat) : hL (sL h a k v) x y = if x = a ∧ y = k then v else hL h x y := rfl
theorem hL_sR (h : mH) (a k : Nat) (v : Option Nat) (x y : Nat) : hL (sR h a k v) x y = hL h x y := rfl
theorem hR_sI (h : mH) (a k : Nat) (v : Int32) (x y : Nat) : hR (sI h a k v) x y = hR h x y := rfl
theorem hR_sL (h : mH) (a k : Nat) (v : Int64) (x y : Nat) : hR (sL h a k v) x y = hR h x y := rfl
theorem hR_sR (h : mH) (a k : Nat) (v : Option Nat) (x y : Nat) : hR (sR h a k v) x y = if x = a ∧ y = k then v else hR h x y := rfl
theorem hN_nw (h : mH) (kd n : Nat) : hN (nw h kd n) = hN h + 1 := rfl
theorem hU_nw (h : mH) (kd n : Nat) : hU (nw h kd n) = hU h + n := rfl
theorem hK_nw (h : mH) (kd n x : Nat) : hK (nw h kd n) x = if x = hN h then (kd, n) else hK h x := rfl
theorem hI_nw (h : mH) (kd n x y : Nat) : hI (nw h kd n) x y = if x = hN h then 0 else hI h x y := rfl
theorem hL_nw (h : mH) (kd n x y : Nat) : hL (nw h kd n) x y = if x = hN h then 0 else hL h x y := rfl
theorem hR_nw (h : mH) (kd n x y : Nat) : hR (nw h kd n) x y = if x = hN h then none else hR h x y := rfl
theorem hN_cpL (h : mH) (a0 sp a dp n : Nat) : hN (cpL h a0 sp a dp n) = hN h := rfl
theorem hU_cpL (h : mH) (a0 sp a dp n : Nat) : hU (cpL h a0 sp a dp n) = hU h := rfl
theorem hK_cpL (h : mH) (a0 sp a dp n x : Nat) : hK (cpL h a0 sp a dp n) x = hK h x := rfl
theorem hI_cpL (h : mH) (a0 sp a dp n x y : Nat) : hI (cpL h a0 sp a dp n) x y = hI h x y := rfl
theorem hL_cpL (h : mH) (a0 sp a dp n x y : Nat) : hL (cpL h a0 sp a dp n) x y = if x = a then va_cpy (hL h a0) (hL h a) sp dp n y else hL h x y := rfl
theorem hR_cpL (h : mH) (a0 sp a dp n x y : Nat) : hR (cpL h a0 sp a dp n) x y = hR h x y := rfl
theorem hN_cpI (h : mH) (a0 sp a dp n : Nat) : hN (cpI h a0 sp a dp n) = hN h := rfl
theorem hU_cpI (h : mH) (a0 sp a dp n : Nat) : hU (cpI h a0 sp a dp n) = hU h := rfl
theorem hK_cpI (h : mH) (a0 sp a dp n x : Nat) : hK (cpI h a0 sp a dp n) x = hK h x := rfl
theorem hI_cpI (h : mH) (a0 sp a dp n x y : Nat) : hI (cpI h a0 sp a dp n) x y = if x = a then va_cpy (hI h a0) (hI h a) sp dp n y else hI h x y := rfl
theorem hL_cpI (h : mH) (a0 sp a dp n x y : Nat) : hL (cpI h a0 sp a dp n) x y = hL h x y := rfl
theorem hR_cpI (h : mH) (a0 sp a dp n x y : Nat) : hR (cpI h a0 sp a dp n) x y = hR h x y := rfl
/-! ===== the classes by their numbers; array kinds 13 byte, 14 int, 15 long, 16 boolean, 17 State, 18 Table, 19 Page, 20 Learnt, 21 long rows ===== -/
def mCn (ci : Nat) : String := match ci with
  | 0 => RX0 | 1 => RX1 | 2 => RX2 | 3 => RX3 | 4 => RX4 | 5 => RX5 | 6 => RX6 | 7 => RX7 | 8 => RX8 | 9 => RX9 | 10 => RX10 | 11 => RX11 | _ => RX12
def mCt (ci : Nat) : u_T := match ci with
  | 0 => TX0 | 1 => TX1 | 2 => TX2 | 3 => TX3 | 4 => TX4 | 5 => TX5 | 6 => TX6 | 7 => TX7 | 8 => TX8 | 9 => TX9 | 10 => TX10 | 11 => TX11 | _ => TX12
def mTy (ci : Nat) : Nat → FieldType := match ci with
  | 0 => tyX0 | 1 => tyX1 | 2 => tyX2 | 3 => tyX3 | 4 => tyX4 | 5 => tyX5 | 6 => tyX6 | 7 => tyX7 | 8 => tyX8 | 9 => tyX9 | 10 => tyX10 | 11 => tyX11 | _ => tyX12
def mCz (ci : Nat) : Nat := match ci with
  | 0 => 8 | 1 => 4 | 2 => 7 | 3 => 4 | 4 => 6 | 5 => 2 | 6 => 5 | 7 => 12 | 8 => 5 | 9 => 9 | 10 => 6 | 11 => 14 | _ => 65
def mAy (kd : Nat) : FieldType := match kd with
  | 13 => .byte | 14 => .int | 15 => .long | 16 => .boolean | 17 => .object RX8 | 18 => .object RX9 | 19 => .object RX6 | 20 => .object RX4 | _ => .array .long
/-- 0: an int or its like, 1: a long, 2: a reference -/
def mTk (ty : FieldType) : Nat := match ty with
  | .long => 1 | .object _ => 2 | .array _ => 2 | _ => 0
def scrA : Nat := 1000000000
/-- where an address lies in the machine: the script's cell, or the cells from B on -/
def mAd (b B x : Nat) : Nat := if x = scrA then b else B + x
def mV (b B : Nat) (v : Value) : Value := match v with
  | .ref x => .ref (mAd b B x)
  | w => w
def mFv (ad : Nat → Nat) (h : mH) (a k t : Nat) : Value := match t with
  | 0 => .int (hI h a k)
  | 1 => .long (hL h a k)
  | _ => va_rf ((hR h a k).map ad)
def mFs (ad : Nat → Nat) (h : mH) (a ci : Nat) : List Value := (List.range (mCz ci)).map (fun k => mFv ad h a k (mTk (mTy ci k)))
def mE (aC : Nat → ClassId) (ad : Nat → Nat) (h : mH) (a : Nat) : va_E :=
  if (hK h a).1 < 13 then .inr ((hK h a).1, mFs ad h a (hK h a).1)
  else if (hK h a).1 = 15 then .inl (aC 15, (hK h a).2, .inr (.inl (hL h a)))
  else if (hK h a).1 < 17 then .inl (aC (hK h a).1, (hK h a).2, .inl (hI h a))
  else .inl (aC (hK h a).1, (hK h a).2, .inr (.inr (.inr (.inr (fun j => (hR h a j).map ad)))))
def mW (aC : Nat → ClassId) (ad : Nat → Nat) (h : mH) : va_W := (List.range (hN h)).map (fun i => (ad i, mE aC ad h i))
def mTys (aC : Nat → ClassId) : List (ClassId × FieldType) := (List.range 9).map (fun i => (aC (13 + i), mAy (13 + i)))
theorem mTys_at (aC : Nat → ClassId) {kd : Nat} (h1 : 13 ≤ kd) (h2 : kd < 22) : (mTys aC)[kd - 13]? = some (aC kd, mAy kd) := by
  have e : 13 + (kd - 13) = kd := by omega
  simp only [mTys, List.getElem?_map]
  rw [List.getElem?_range (by omega)]
  simp [e]
theorem mW_at (aC : Nat → ClassId) (ad : Nat → Nat) (h : mH) {a : Nat} (ha : a < hN h) : (mW aC ad h)[a]? = some (ad a, mE aC ad h a) := by
  simp only [mW, List.getElem?_map]
  rw [List.getElem?_range ha]
  rfl
theorem mW_len (aC : Nat → ClassId) (ad : Nat → Nat) (h : mH) : (mW aC ad h).length = hN h := by simp [mW]
theorem mW_set {aC : Nat → ClassId} {ad : Nat → Nat} {h h1 : mH} {a : Nat} {e : va_E} (hn : hN h1 = hN h) (he : mE aC ad h1 a = e) (ho : ∀ i, i < hN h → i ≠ a → mE aC ad h1 i = mE aC ad h i) : (mW aC ad h).set a (ad a, e) = mW aC ad h1 := by
  apply List.ext_getElem?
  intro i
  by_cases hi : i < hN h
  · rw [mW_at aC ad h1 (by rw [hn]; exact hi)]
    by_cases e1 : i = a
    · subst e1
      rw [List.getElem?_set_self (by rw [mW_len]; exact hi), he]
    · rw [List.getElem?_set_ne (fun q => e1 q.symm), mW_at aC ad h hi, ho i hi e1]
  · rw [List.getElem?_eq_none (by rw [List.length_set, mW_len]; omega), List.getElem?_eq_none (by rw [mW_len, hn]; omega)]
theorem mW_D (aC : Nat → ClassId) (b B : Nat) (h : mH) (hz : hN h ≤ scrA) : va_D (fun q => B ≤ q) (mW aC (mAd b B) h) := by
  have hat : ∀ (i : Nat) (q : Nat × va_E), (mW aC (mAd b B) h)[i]? = some q → q.1 = B + i := by
    intro i q hq
    have hi : i < hN h := by
      have := (List.getElem?_eq_some_iff.mp hq).1
      rwa [mW_len] at this
    rw [mW_at _ _ _ hi] at hq
    cases hq
    show mAd b B i = B + i
    unfold mAd
    rw [if_neg (by omega)]
  refine ⟨fun i j p q hp hq e => ?_, fun k q hq => ?_⟩
  · have := hat i p hp
    have := hat j q hq
    omega
  · rw [hat k q hq]
    exact Nat.le_add_right _ _
theorem mAd_of {b B x : Nat} (h : x < scrA) : mAd b B x = B + x := by
  unfold mAd
  rw [if_neg (by omega)]
/-! ===== what stores do to a cell's picture ===== -/
theorem mFs_at (ad : Nat → Nat) (h : mH) (a ci : Nat) {k : Nat} (hk : k < mCz ci) : (mFs ad h a ci)[k]? = some (mFv ad h a k (mTk (mTy ci k))) := by
  simp only [mFs, List.getElem?_map]
  rw [List.getElem?_range hk]
  rfl
theorem mFs_len (ad : Nat → Nat) (h : mH) (a ci : Nat) : (mFs ad h a ci).length = mCz ci := by simp [mFs]
theorem mFs_set {ad : Nat → Nat} {h h1 : mH} {a ci k : Nat} {v : Value} (he : mFv ad h1 a k (mTk (mTy ci k)) = v) (ho : ∀ j, j ≠ k → mFv ad h1 a j (mTk (mTy ci j)) = mFv ad h a j (mTk (mTy ci j))) : (mFs ad h a ci).set k v = mFs ad h1 a ci := by
  apply List.ext_getElem?
  intro i
  by_cases hi : i < mCz ci
  · rw [mFs_at ad h1 a ci hi]
    by_cases e1 : i = k
    · subst e1
      rw [List.getElem?_set_self (by rw [mFs_len]; exact hi), he]
    · rw [List.getElem?_set_ne (fun q => e1 q.symm), mFs_at ad h a ci hi, ho i e1]
  · rw [List.getElem?_eq_none (by rw [List.length_set, mFs_len]; omega), List.getElem?_eq_none (by rw [mFs_len]; omega)]
theorem mE_obj {aC : Nat → ClassId} {ad : Nat → Nat} {h : mH} {a ci : Nat} (hk : (hK h a).1 = ci) (hc : ci < 13) : mE aC ad h a = .inr (ci, mFs ad h a ci) := by
  unfold mE
  rw [hk, if_pos hc]
theorem mE_int {aC : Nat → ClassId} {ad : Nat → Nat} {h : mH} {a kd n : Nat} (hk : hK h a = (kd, n)) (h1 : kd = 13 ∨ kd = 14 ∨ kd = 16) : mE aC ad h a = .inl (aC kd, n, .inl (hI h a)) := by
  unfold mE
  rw [hk]
  rcases h1 with rfl | rfl | rfl <;> simp
theorem mE_long {aC : Nat → ClassId} {ad : Nat → Nat} {h : mH} {a n : Nat} (hk : hK h a = (15, n)) : mE aC ad h a = .inl (aC 15, n, .inr (.inl (hL h a))) := by
  unfold mE
  rw [hk]
  simp
theorem mE_ref {aC : Nat → ClassId} {ad : Nat → Nat} {h : mH} {a kd n : Nat} (hk : hK h a = (kd, n)) (h1 : 17 ≤ kd) : mE aC ad h a = .inl (aC kd, n, .inr (.inr (.inr (.inr (fun j => (hR h a j).map ad))))) := by
  unfold mE
  rw [hk]
  show (if kd < 13 then _ else if kd = 15 then _ else if kd < 17 then _ else _) = _
  rw [if_neg (by omega), if_neg (by omega), if_neg (by omega)]
/-- two memories that look alike at an address -/
theorem mE_eq {aC : Nat → ClassId} {ad : Nat → Nat} {h h1 : mH} {i : Nat} (h0 : hK h1 i = hK h i) (hi : hI h1 i = hI h i) (hl : hL h1 i = hL h i) (hr : hR h1 i = hR h i) : mE aC ad h1 i = mE aC ad h i := by
  have hf : ∀ ci, mFs ad h1 i ci = mFs ad h i ci := by
    intro ci
    unfold mFs
    apply List.map_congr_left
    intro k _
    unfold mFv
    rw [hi, hl, hr]
  unfold mE
  rw [h0, hi, hl, hr, hf]
theorem up2_ne {α : Type} {f : Nat → Nat → α} {a k x : Nat} {v : α} (h : x ≠ a) : up2 f a k v x = f x := by
  funext y
  simp [up2, h]
theorem up2_at {α : Type} {f : Nat → Nat → α} {a k : Nat} {v : α} : up2 f a k v a k = v := by simp [up2]
theorem up2_pl {α : Type} {f : Nat → Nat → α} {a k y : Nat} {v : α} (h : y ≠ k) : up2 f a k v a y = f a y := by simp [up2, h]
theorem mE_sI {aC : Nat → ClassId} {ad : Nat → Nat} {h : mH} {a k i : Nat} {v : Int32} (hi : i ≠ a) : mE aC ad (sI h a k v) i = mE aC ad h i := mE_eq rfl (up2_ne hi) rfl rfl
theorem mE_sL {aC : Nat → ClassId} {ad : Nat → Nat} {h : mH} {a k i : Nat} {v : Int64} (hi : i ≠ a) : mE aC ad (sL h a k v) i = mE aC ad h i := mE_eq rfl rfl (up2_ne hi) rfl
theorem mE_sR {aC : Nat → ClassId} {ad : Nat → Nat} {h : mH} {a k i : Nat} {v : Option Nat} (hi : i ≠ a) : mE aC ad (sR h a k v) i = mE aC ad h i := mE_eq rfl rfl rfl (up2_ne hi)
theorem mE_nw {aC : Nat → ClassId} {ad : Nat → Nat} {h : mH} {kd n i : Nat} (hi : i ≠ hN h) : mE aC ad (nw h kd n) i = mE aC ad h i := by
  refine mE_eq ?_ ?_ ?_ ?_
  · rw [hK_nw, if_neg hi]
  · funext y; rw [hI_nw, if_neg hi]
  · funext y; rw [hL_nw, if_neg hi]
  · funext y; rw [hR_nw, if_neg hi]
theorem mFs_sI {ad : Nat → Nat} {h : mH} {a ci k : Nat} {v : Int32} (ht : mTk (mTy ci k) = 0) : (mFs ad h a ci).set k (.int v) = mFs ad (sI h a k v) a ci := by
  refine mFs_set ?_ (fun j hj => ?_)
  · rw [ht]
    show Value.int (up2 h.2.2.1 a k v a k) = _
    rw [up2_at]
  · unfold mFv
    rw [hI_sI, if_neg (fun q => hj q.2), hL_sI, hR_sI]
theorem mFs_sL {ad : Nat → Nat} {h : mH} {a ci k : Nat} {v : Int64} (ht : mTk (mTy ci k) = 1) : (mFs ad h a ci).set k (.long v) = mFs ad (sL h a k v) a ci := by
  refine mFs_set ?_ (fun j hj => ?_)
  · rw [ht]
    show Value.long (up2 h.2.2.2.1 a k v a k) = _
    rw [up2_at]
  · unfold mFv
    rw [hI_sL, hL_sL, if_neg (fun q => hj q.2), hR_sL]
theorem mFs_sR {ad : Nat → Nat} {h : mH} {a ci k : Nat} {v : Option Nat} (ht : mTk (mTy ci k) = 2) : (mFs ad h a ci).set k (va_rf (v.map ad)) = mFs ad (sR h a k v) a ci := by
  refine mFs_set ?_ (fun j hj => ?_)
  · rw [ht]
    show va_rf ((up2 h.2.2.2.2 a k v a k).map ad) = _
    rw [up2_at]
  · unfold mFv
    rw [hI_sR, hL_sR, hR_sR, if_neg (fun q => hj q.2)]
