/-- a copy of a row, new -/
def cl (h : mH) (a : Nat) : mH := ((h.1.1 + 1, h.1.2 + (h.2.1 a).2), (fun x => if x = h.1.1 then h.2.1 a else h.2.1 x), (fun x y => if x = h.1.1 then h.2.2.1 a y else h.2.2.1 x y), (fun x y => if x = h.1.1 then h.2.2.2.1 a y else h.2.2.2.1 x y), (fun x y => if x = h.1.1 then h.2.2.2.2 a y else h.2.2.2.2 x y))
theorem hN_cl (h : mH) (a : Nat) : hN (cl h a) = hN h + 1 := rfl
theorem hU_cl (h : mH) (a : Nat) : hU (cl h a) = hU h + (hK h a).2 := rfl
theorem hK_cl (h : mH) (a x : Nat) : hK (cl h a) x = if x = hN h then hK h a else hK h x := rfl
theorem hI_cl (h : mH) (a x y : Nat) : hI (cl h a) x y = if x = hN h then hI h a y else hI h x y := rfl
theorem hL_cl (h : mH) (a x y : Nat) : hL (cl h a) x y = if x = hN h then hL h a y else hL h x y := rfl
theorem hR_cl (h : mH) (a x y : Nat) : hR (cl h a) x y = if x = hN h then hR h a y else hR h x y := rfl
theorem mE_cl {aC : Nat → ClassId} {ad : Nat → Nat} {h : mH} {a i : Nat} (hi : i ≠ hN h) : mE aC ad (cl h a) i = mE aC ad h i := by
  refine mE_eq ?_ ?_ ?_ ?_
  · rw [hK_cl, if_neg hi]
  · funext y; rw [hI_cl, if_neg hi]
  · funext y; rw [hL_cl, if_neg hi]
  · funext y; rw [hR_cl, if_neg hi]
/-- new long[n][k] -/
def mul (h : mH) (n k : Nat) : mH := ((h.1.1 + (1 + n), h.1.2 + (n + n * k)), (fun x => if x = h.1.1 then (21, n) else if h.1.1 < x ∧ x ≤ h.1.1 + n then (15, k) else h.2.1 x), (fun x y => if h.1.1 ≤ x ∧ x ≤ h.1.1 + n then 0 else h.2.2.1 x y), (fun x y => if h.1.1 ≤ x ∧ x ≤ h.1.1 + n then 0 else h.2.2.2.1 x y), (fun x y => if x = h.1.1 then (if y < n then some (h.1.1 + 1 + y) else none) else if h.1.1 < x ∧ x ≤ h.1.1 + n then none else h.2.2.2.2 x y))
theorem hN_mul (h : mH) (n k : Nat) : hN (mul h n k) = hN h + (1 + n) := rfl
theorem hU_mul (h : mH) (n k : Nat) : hU (mul h n k) = hU h + (n + n * k) := rfl
theorem hK_mul (h : mH) (n k x : Nat) : hK (mul h n k) x = if x = hN h then (21, n) else if hN h < x ∧ x ≤ hN h + n then (15, k) else hK h x := rfl
theorem hI_mul (h : mH) (n k x y : Nat) : hI (mul h n k) x y = if hN h ≤ x ∧ x ≤ hN h + n then 0 else hI h x y := rfl
theorem hL_mul (h : mH) (n k x y : Nat) : hL (mul h n k) x y = if hN h ≤ x ∧ x ≤ hN h + n then 0 else hL h x y := rfl
theorem hR_mul (h : mH) (n k x y : Nat) : hR (mul h n k) x y = if x = hN h then (if y < n then some (hN h + 1 + y) else none) else if hN h < x ∧ x ≤ hN h + n then none else hR h x y := rfl
theorem mE_mul {aC : Nat → ClassId} {ad : Nat → Nat} {h : mH} {n k i : Nat} (hi : i < hN h ∨ hN h + n < i) : mE aC ad (mul h n k) i = mE aC ad h i := by
  have h1 : ¬ i = hN h := by omega
  have h2 : ¬ (hN h < i ∧ i ≤ hN h + n) := by omega
  have h3 : ¬ (hN h ≤ i ∧ i ≤ hN h + n) := by omega
  refine mE_eq ?_ ?_ ?_ ?_
  · rw [hK_mul, if_neg h1, if_neg h2]
  · funext y; rw [hI_mul, if_neg h3]
  · funext y; rw [hL_mul, if_neg h3]
  · funext y; rw [hR_mul, if_neg h1, if_neg h2]
theorem mE_cpL {aC : Nat → ClassId} {ad : Nat → Nat} {h : mH} {a0 sp a dp n i : Nat} (hi : i ≠ a) : mE aC ad (cpL h a0 sp a dp n) i = mE aC ad h i := by
  refine mE_eq rfl rfl ?_ rfl
  funext y; rw [hL_cpL, if_neg hi]
theorem mE_cpI {aC : Nat → ClassId} {ad : Nat → Nat} {h : mH} {a0 sp a dp n i : Nat} (hi : i ≠ a) : mE aC ad (cpI h a0 sp a dp n) i = mE aC ad h i := by
  refine mE_eq rfl ?_ rfl rfl
  funext y; rw [hI_cpI, if_neg hi]
theorem nnI {z : Int32} (hz : ¬ z < 0) : z.toInt = (z.toNatClampNeg : Int) := by
  have hz0 : (0 : Int) ≤ z.toInt := by
    have := Int32.not_lt.mp hz
    simpa using Int32.le_iff_toInt_le.mp this
  show z.toInt = ((z.toInt.toNat : Nat) : Int)
  omega
section RulesF
variable {M : mM} {fr lo pc pc1 t : Nat} {ls ls1 : List (Option Value)} {st : List Value} {h : mH} {Q : Option Value → mH → Prop}
theorem wp_copyL {a0 a n0 n1 idx : Nat} {sp dp n : Int32} (hd : At M.2.1 pc (.invokestatic idx) 3 pc1) (hlk : Cond.methodLink M.1.cls idx arraycopyName ∈ mTbl) (hnat : Cond.native arraycopyName ∈ mTbl) (hstt : Cond.static arraycopyName ∈ mTbl) (hini : Cond.initialized "java/lang/System" ∈ mTbl) (ha0 : hA h a0 15 n0) (ha1 : hA h a 15 n1)
    (h1 : ¬ sp < 0) (h2 : ¬ dp < 0) (h3 : ¬ n < 0) (h4 : sp.toNatClampNeg + n.toNatClampNeg ≤ n0) (h5 : dp.toNatClampNeg + n.toNatClampNeg ≤ n1) (hfr : 1 ≤ fr) (hlo : (st.map fun v => v.category).sum + (nativeFrameWords "java/lang/System" "arraycopy" 5 + 11) ≤ lo)
    (k9 : Wp M fr lo pc1 ls st (cpL h a0 sp.toNatClampNeg a dp.toNatClampNeg n.toNatClampNeg) Q) : Wp M fr lo pc ls (.int n :: .int dp :: .ref a :: .int sp :: .ref a0 :: st) h Q := by
  obtain ⟨hd, rfl⟩ := hd
  refine wp_step (h1 := cpL h a0 sp.toNatClampNeg a dp.toNatClampNeg n.toNatClampNeg) (Nat.le_refl (hN h)) (Nat.le_refl (hU h)) ?_ k9
  intro p l e R s m args below meth c D aC b B L xs H locs cells slots Q lsr C hz hc hs gR gL kk
  have e1 : cells + (hN (cpL h a0 sp.toNatClampNeg a dp.toNatClampNeg n.toNatClampNeg) - hN h) = cells := by show cells + (hN h - hN h) = cells; omega
  have e2 : slots + (hU (cpL h a0 sp.toNatClampNeg a dp.toNatClampNeg n.toNatClampNeg) - hU h) = slots := by show slots + (hU h - hU h) = slots; omega
  rw [e1, e2] at kk
  obtain ⟨hx, hb, -, hml, hown, hts, -, -, hKX, -, -, -, hf, hl⟩ := C
  intro T hT X
  have hc0 : H[mAd b B a0]? = some (arrV (aC 15) n0 (fun j => .long (hL h a0 j))) := by
    have h0 := gR.1 a0 _ (mW_at aC (mAd b B) h ha0.1)
    rw [mE_long ha0.2 ] at h0
    exact h0
  have hc1 : H[mAd b B a]? = some (arrV (aC 15) n1 (fun j => .long (hL h a j))) := by
    have h0 := gR.1 a _ (mW_at aC (mAd b B) h ha1.1)
    rw [mE_long ha1.2 ] at h0
    exact h0
  have hty := (hKX.1.2 (15 - 13) _ (mTys_at aC (kd := 15) (by decide) (by decide))).1
  obtain ⟨-, k0, hk0, cm0, hkk0⟩ := hty n0 (fun j => .long (hL h a0 j))
  obtain ⟨-, k1, hk1, cm1, hkk1⟩ := hty n1 (fun j => .long (hL h a j))
  obtain ⟨vm', X', step⟩ := X.arraycopy hx hown (hts _ hlk) (hts _ hnat) (hts _ hstt) (hts _ hini) (src := mAd b B a0) (dst := mAd b B a) (cs := arrV (aC 15) n0 (fun j => .long (hL h a0 j))) (cd := arrV (aC 15) n1 (fun j => .long (hL h a j))) (srcPos := sp) (destPos := dp) (n := n) (by rw [hT]; exact hc0) (by rw [hT]; exact hc1)
    (fun _ h => by cases h) (fun _ h => by cases h) (fun h => by cases h) (fun h => by cases h) hk0 hk1 hkk0 hkk1 (by simp [refKind, mAy]) h1 h2 h3
    (by rw [nnI h1, nnI h3, arrV_size]; omega)
    (by rw [nnI h2, nnI h3, arrV_size]; omega)
    (fun vm₁ _ i hi => by
      have e : (arrV (aC 15) n0 (fun j => .long (hL h a0 j))).slots.getD (sp.toNatClampNeg + i) .null = .long (hL h a0 (sp.toNatClampNeg + i)) := by
        rw [Array.getD_eq_getD_getElem?, arrV_read _ _ (by omega)]
        rfl
      refine ⟨?_, ?_⟩
      · rw [e]
        rfl
      · rw [e]
        exact trivial)
    (g := F0 m pc lsr (.int n :: .int dp :: .ref (mAd b B a) :: .int sp :: .ref (mAd b B a0) :: st.map (mV b B))) rfl (by rw [hml]; exact gL.1) (rest := st.map (mV b B)) rfl (by rw [hb]; exact hd) (by omega) (by rw [mCat]; show 2 * 0 + _ + _ ≤ _; omega)
  have e3 : copied (arrV (aC 15) n0 (fun j => .long (hL h a0 j))) (arrV (aC 15) n1 (fun j => .long (hL h a j))) sp dp n = arrV (aC 15) n1 (fun j => .long (va_cpy (hL h a0) (hL h a) sp.toNatClampNeg dp.toNatClampNeg n.toNatClampNeg j)) := va_copied (fun z => .long z) (aC 15) (aC 15) (hL h a0) (hL h a) h4
  rw [e3] at X' step
  generalize hcn : arrV (aC 15) n1 (fun j => .long (va_cpy (hL h a0) (hL h a) sp.toNatClampNeg dp.toNatClampNeg n.toNatClampNeg j)) = cn at X' step
  have hl9 : mAd b B a < H.size := (Array.getElem?_eq_some_iff.mp hc1).1
  have hheap : ((T.setVm vm').setCell (mAd b B a) cn).heap = H.setIfInBounds (mAd b B a) cn := by rw [← hT]; rfl
  have oq : ∀ q : Nat, q ≠ mAd b B a → (H.setIfInBounds (mAd b B a) cn)[q]? = H[q]? := fun q hq => by simp [Array.getElem?_setIfInBounds, Ne.symm hq]
  have hmr := fun (l2 : List Loc) (hl2 : ∀ q ∈ l2, q.base = mAd b B a) => mR_set (h := h) (h1 := cpL h a0 sp.toNatClampNeg a dp.toNatClampNeg n.toNatClampNeg) (H1 := H.setIfInBounds (mAd b B a) cn) hz gR ha1.1 rfl (fun _ => rfl) rfl (fun j _ hj => mE_cpL hj) (by
    rw [mE_long (h := cpL h a0 sp.toNatClampNeg a dp.toNatClampNeg n.toNatClampNeg) ha1.2 ]
    show (H.setIfInBounds (mAd b B a) cn)[mAd b B a]? = some (vp_cell _ _)
    rw [show (H.setIfInBounds (mAd b B a) cn)[mAd b B a]? = some cn by simp [Array.getElem?_setIfInBounds, hl9], ← hcn, vp_cell_l]
    congr 2
    funext y
    rw [hL_cpL, if_pos rfl]) (by simp) oq l2 hl2
  obtain ⟨t, a1, b1⟩ := kk _ _ lsr (hmr _ (fun q hq => by
      obtain ⟨z, -, hz9⟩ := List.mem_map.mp hq
      rw [← hz9])) gL _ hheap X'
  exact ⟨t, step t a1, b1⟩
theorem wp_copyI {a0 a n0 n1 idx : Nat} {sp dp n : Int32} (hd : At M.2.1 pc (.invokestatic idx) 3 pc1) (hlk : Cond.methodLink M.1.cls idx arraycopyName ∈ mTbl) (hnat : Cond.native arraycopyName ∈ mTbl) (hstt : Cond.static arraycopyName ∈ mTbl) (hini : Cond.initialized "java/lang/System" ∈ mTbl) (ha0 : hA h a0 14 n0) (ha1 : hA h a 14 n1)
    (h1 : ¬ sp < 0) (h2 : ¬ dp < 0) (h3 : ¬ n < 0) (h4 : sp.toNatClampNeg + n.toNatClampNeg ≤ n0) (h5 : dp.toNatClampNeg + n.toNatClampNeg ≤ n1) (hfr : 1 ≤ fr) (hlo : (st.map fun v => v.category).sum + (nativeFrameWords "java/lang/System" "arraycopy" 5 + 11) ≤ lo)
    (k9 : Wp M fr lo pc1 ls st (cpI h a0 sp.toNatClampNeg a dp.toNatClampNeg n.toNatClampNeg) Q) : Wp M fr lo pc ls (.int n :: .int dp :: .ref a :: .int sp :: .ref a0 :: st) h Q := by
  obtain ⟨hd, rfl⟩ := hd
  refine wp_step (h1 := cpI h a0 sp.toNatClampNeg a dp.toNatClampNeg n.toNatClampNeg) (Nat.le_refl (hN h)) (Nat.le_refl (hU h)) ?_ k9
  intro p l e R s m args below meth c D aC b B L xs H locs cells slots Q lsr C hz hc hs gR gL kk
  have e1 : cells + (hN (cpI h a0 sp.toNatClampNeg a dp.toNatClampNeg n.toNatClampNeg) - hN h) = cells := by show cells + (hN h - hN h) = cells; omega
  have e2 : slots + (hU (cpI h a0 sp.toNatClampNeg a dp.toNatClampNeg n.toNatClampNeg) - hU h) = slots := by show slots + (hU h - hU h) = slots; omega
  rw [e1, e2] at kk
  obtain ⟨hx, hb, -, hml, hown, hts, -, -, hKX, -, -, -, hf, hl⟩ := C
  intro T hT X
  have hc0 : H[mAd b B a0]? = some (arrV (aC 14) n0 (fun j => .int (hI h a0 j))) := by
    have h0 := gR.1 a0 _ (mW_at aC (mAd b B) h ha0.1)
    rw [mE_int ha0.2 (by decide)] at h0
    exact h0
  have hc1 : H[mAd b B a]? = some (arrV (aC 14) n1 (fun j => .int (hI h a j))) := by
    have h0 := gR.1 a _ (mW_at aC (mAd b B) h ha1.1)
    rw [mE_int ha1.2 (by decide)] at h0
    exact h0
  have hty := (hKX.1.2 (14 - 13) _ (mTys_at aC (kd := 14) (by decide) (by decide))).1
  obtain ⟨-, k0, hk0, cm0, hkk0⟩ := hty n0 (fun j => .int (hI h a0 j))
  obtain ⟨-, k1, hk1, cm1, hkk1⟩ := hty n1 (fun j => .int (hI h a j))
  obtain ⟨vm', X', step⟩ := X.arraycopy hx hown (hts _ hlk) (hts _ hnat) (hts _ hstt) (hts _ hini) (src := mAd b B a0) (dst := mAd b B a) (cs := arrV (aC 14) n0 (fun j => .int (hI h a0 j))) (cd := arrV (aC 14) n1 (fun j => .int (hI h a j))) (srcPos := sp) (destPos := dp) (n := n) (by rw [hT]; exact hc0) (by rw [hT]; exact hc1)
    (fun _ h => by cases h) (fun _ h => by cases h) (fun h => by cases h) (fun h => by cases h) hk0 hk1 hkk0 hkk1 (by simp [refKind, mAy]) h1 h2 h3
    (by rw [nnI h1, nnI h3, arrV_size]; omega)
    (by rw [nnI h2, nnI h3, arrV_size]; omega)
    (fun vm₁ _ i hi => by
      have e : (arrV (aC 14) n0 (fun j => .int (hI h a0 j))).slots.getD (sp.toNatClampNeg + i) .null = .int (hI h a0 (sp.toNatClampNeg + i)) := by
        rw [Array.getD_eq_getD_getElem?, arrV_read _ _ (by omega)]
        rfl
      refine ⟨?_, ?_⟩
      · rw [e]
        rfl
      · rw [e]
        exact trivial)
    (g := F0 m pc lsr (.int n :: .int dp :: .ref (mAd b B a) :: .int sp :: .ref (mAd b B a0) :: st.map (mV b B))) rfl (by rw [hml]; exact gL.1) (rest := st.map (mV b B)) rfl (by rw [hb]; exact hd) (by omega) (by rw [mCat]; show 2 * 0 + _ + _ ≤ _; omega)
  have e3 : copied (arrV (aC 14) n0 (fun j => .int (hI h a0 j))) (arrV (aC 14) n1 (fun j => .int (hI h a j))) sp dp n = arrV (aC 14) n1 (fun j => .int (va_cpy (hI h a0) (hI h a) sp.toNatClampNeg dp.toNatClampNeg n.toNatClampNeg j)) := va_copied (fun z => .int z) (aC 14) (aC 14) (hI h a0) (hI h a) h4
  rw [e3] at X' step
  generalize hcn : arrV (aC 14) n1 (fun j => .int (va_cpy (hI h a0) (hI h a) sp.toNatClampNeg dp.toNatClampNeg n.toNatClampNeg j)) = cn at X' step
  have hl9 : mAd b B a < H.size := (Array.getElem?_eq_some_iff.mp hc1).1
  have hheap : ((T.setVm vm').setCell (mAd b B a) cn).heap = H.setIfInBounds (mAd b B a) cn := by rw [← hT]; rfl
  have oq : ∀ q : Nat, q ≠ mAd b B a → (H.setIfInBounds (mAd b B a) cn)[q]? = H[q]? := fun q hq => by simp [Array.getElem?_setIfInBounds, Ne.symm hq]
  have hmr := fun (l2 : List Loc) (hl2 : ∀ q ∈ l2, q.base = mAd b B a) => mR_set (h := h) (h1 := cpI h a0 sp.toNatClampNeg a dp.toNatClampNeg n.toNatClampNeg) (H1 := H.setIfInBounds (mAd b B a) cn) hz gR ha1.1 rfl (fun _ => rfl) (by funext y; rw [hI_cpI, if_neg (by have := ha1.1; have : hN h ≤ scrA := hz; omega)]) (fun j _ hj => mE_cpI hj) (by
    rw [mE_int (h := cpI h a0 sp.toNatClampNeg a dp.toNatClampNeg n.toNatClampNeg) ha1.2 (by decide)]
    show (H.setIfInBounds (mAd b B a) cn)[mAd b B a]? = some (vp_cell _ _)
    rw [show (H.setIfInBounds (mAd b B a) cn)[mAd b B a]? = some cn by simp [Array.getElem?_setIfInBounds, hl9], ← hcn, vp_cell_i]
    congr 2
    funext y
    rw [hI_cpI, if_pos rfl]) (by simp) oq l2 hl2
  obtain ⟨t, a1, b1⟩ := kk _ _ lsr (hmr _ (fun q hq => by
      obtain ⟨z, -, hz9⟩ := List.mem_map.mp hq
      rw [← hz9])) gL _ hheap X'
  exact ⟨t, step t a1, b1⟩
theorem wp_cloneL {a n idx : Nat} (hd : At M.2.1 pc (.invokevirtual idx) 3 pc1) (hlk : Cond.methodLink M.1.cls idx ⟨"[J", "clone", "()Ljava/lang/Object;"⟩ ∈ mTbl) (hsm : Cond.sameMethod "[J" "java/lang/Object" "clone" "()Ljava/lang/Object;" ∈ mTbl) (hnat : Cond.native ⟨"java/lang/Object", "clone", "()Ljava/lang/Object;"⟩ ∈ mTbl) (hin : Cond.instanceMethod ⟨"java/lang/Object", "clone", "()Ljava/lang/Object;"⟩ ∈ mTbl) (hsel : Cond.selects "[J" ⟨"[J", "clone", "()Ljava/lang/Object;"⟩ ⟨"java/lang/Object", "clone", "()Ljava/lang/Object;"⟩ ∈ mTbl)
    (ha : hA h a 15 n) (hfr : 1 ≤ fr) (hlo : (st.map fun v => v.category).sum + 14 ≤ lo) (k9 : Wp M fr lo pc1 ls (.ref (hN h) :: st) (cl h a) Q) : Wp M fr lo pc ls (.ref a :: st) h Q := by
  obtain ⟨hd, rfl⟩ := hd
  refine wp_step (h1 := cl h a) (Nat.le_succ (hN h)) (Nat.le_add_right (hU h) _) ?_ k9
  intro p l e R s m args below meth c D aC b B L xs H locs cells slots Q lsr C hz hc hs gR gL kk
  have e1 : cells + (hN (cl h a) - hN h) = cells + 1 := by show cells + (hN h + 1 - hN h) = cells + 1; omega
  have e2 : slots + (hU (cl h a) - hU h) = slots + n := by rw [hU_cl, ha.2]; show slots + (hU h + n - hU h) = slots + n; omega
  rw [e1] at hc kk
  rw [e2] at hs kk
  have hz2 : hN h + 1 ≤ scrA := hz
  have hsz : H.size = B + hN h := gR.2.2.1
  have had : mAd b B (hN h) = H.size := by rw [mAd_of (by omega), hsz]
  obtain ⟨hx, hb, -, hml, hown, hts, -, -, hKX, -, -, -, hf, hl⟩ := C
  obtain ⟨c0, t0', f1, f2, f3⟩ := Cond.castable_spec (va_Nw.use (A := args) rfl hKX.2.2.2.1)
  have hra := (hKX.1.2 (15 - 13) _ (mTys_at aC (kd := 15) (by decide) (by decide)))
  have hnm : s.vm.findClass "[J" = some (aC 15) := hra.2
  cases hnm.symm.trans f1
  have hcell : H[mAd b B a]? = some (arrV (aC 15) n (fun j => .long (hL h a j))) := by
    have h0 := gR.1 a _ (mW_at aC (mAd b B) h ha.1)
    rw [mE_long ha.2 ] at h0
    exact h0
  intro T hT X
  obtain ⟨-, kA, hkA, comp, hkind⟩ := State.isArrayOf_alike X.warmed.alike (hra.1 0 (fun _ => .null))
  obtain ⟨-, kS, hkS, compS, hkindS⟩ := hra.1 0 (fun _ => .null)
  obtain ⟨vm', X', st9⟩ := X.cloneArray hx hown (hts _ hlk) (hts _ hsm) (hts _ hnat) (hts _ hin) (hts _ hsel) (a := mAd b B a) (cell := arrV (aC 15) n (fun j => .long (hL h a j))) (by rw [hT]; exact hcell) (fun k h => by cases h) (fun h => by cases h) hnm f2 f3
    (fun i v hv => by
      have hk' : T.vm.classes[aC 15]? = some kA := hkA
      have hlt : i < n := by
        have := (Array.getElem?_eq_some_iff.mp hv).1
        rwa [arrV_size] at this
      rw [arrV_read _ _ hlt] at hv
      cases hv
      show T.fitsSlot (aC 15) _ _ _ = true
      simp [State.fitsSlot, State.slotType?, hk', hkind, mAy, fits])
    (g := F0 m pc lsr (.ref (mAd b B a) :: st.map (mV b B))) rfl (by rw [hml]; exact gL.1) rfl (by rw [hb]; exact hd) (by omega) (by rw [mCat]; show 2 * 0 + _ + 14 ≤ _; omega) hc (by rw [arrV_size]; exact hs) (hloader := Vm.clonesLoader_of_array hkS hkindS)
  have hcellE : ({ cls := (arrV (aC 15) n (fun j => .long (hL h a j))).cls, slots := (arrV (aC 15) n (fun j => .long (hL h a j))).slots } : Cell) = arrV (aC 15) n (fun j => .long (hL h a j)) := rfl
  rw [hcellE, arrV_size] at X'
  rw [hcellE] at st9
  generalize hcn : arrV (aC 15) n (fun j => .long (hL h a j)) = cn at X' st9
  generalize hH1 : H.push cn = H1
  have z1 : H1.size = H.size + 1 := by rw [← hH1, Array.size_push]
  have q1 : H1[H.size]? = some cn := by rw [← hH1, Array.getElem?_push_size]
  have o1 : ∀ q : Nat, q < H.size → H1[q]? = H[q]? := fun q hq => by rw [← hH1, Array.getElem?_push, if_neg (Nat.ne_of_lt hq)]
  have hns : ¬ scrA = hN h := by omega
  have hmr : mR D aC b B L xs s (cl h a) H1 locs := by
    refine mR_push (h := h) hz gR 1 rfl (by rw [hK_cl, if_neg hns]) (by funext y; rw [hI_cl, if_neg hns]) (fun i hi => mE_cl (by omega)) (fun j hj => ?_) z1 o1
    rw [show hN h + j = hN h by omega, had, mE_long (h := cl h a) (n := n) (by rw [hK_cl, if_pos rfl]; exact ha.2) ]
    show H1[H.size]? = some (vp_cell _ _)
    rw [q1, ← hcn, vp_cell_l]
    congr 2
    funext y
    rw [hL_cl, if_pos rfl]
  obtain ⟨t, b1, b2⟩ := kk H1 locs lsr hmr gL ((T.setVm vm').pushCell cn) (by rw [← hH1, ← hT]; rfl) X'
  refine ⟨t, st9 t ?_, b2⟩
  rw [List.map_cons] at b1
  have e5 : mV b B (.ref (hN h)) = .ref H.size := by show Value.ref (mAd b B (hN h)) = _; rw [had]
  rw [e5] at b1
  rw [hT]
  exact b1
theorem wp_cloneI {a n idx : Nat} (hd : At M.2.1 pc (.invokevirtual idx) 3 pc1) (hlk : Cond.methodLink M.1.cls idx ⟨"[I", "clone", "()Ljava/lang/Object;"⟩ ∈ mTbl) (hsm : Cond.sameMethod "[I" "java/lang/Object" "clone" "()Ljava/lang/Object;" ∈ mTbl) (hnat : Cond.native ⟨"java/lang/Object", "clone", "()Ljava/lang/Object;"⟩ ∈ mTbl) (hin : Cond.instanceMethod ⟨"java/lang/Object", "clone", "()Ljava/lang/Object;"⟩ ∈ mTbl) (hsel : Cond.selects "[I" ⟨"[I", "clone", "()Ljava/lang/Object;"⟩ ⟨"java/lang/Object", "clone", "()Ljava/lang/Object;"⟩ ∈ mTbl)
    (ha : hA h a 14 n) (hfr : 1 ≤ fr) (hlo : (st.map fun v => v.category).sum + 14 ≤ lo) (k9 : Wp M fr lo pc1 ls (.ref (hN h) :: st) (cl h a) Q) : Wp M fr lo pc ls (.ref a :: st) h Q := by
  obtain ⟨hd, rfl⟩ := hd
  refine wp_step (h1 := cl h a) (Nat.le_succ (hN h)) (Nat.le_add_right (hU h) _) ?_ k9
  intro p l e R s m args below meth c D aC b B L xs H locs cells slots Q lsr C hz hc hs gR gL kk
  have e1 : cells + (hN (cl h a) - hN h) = cells + 1 := by show cells + (hN h + 1 - hN h) = cells + 1; omega
  have e2 : slots + (hU (cl h a) - hU h) = slots + n := by rw [hU_cl, ha.2]; show slots + (hU h + n - hU h) = slots + n; omega
  rw [e1] at hc kk
  rw [e2] at hs kk
  have hz2 : hN h + 1 ≤ scrA := hz
  have hsz : H.size = B + hN h := gR.2.2.1
  have had : mAd b B (hN h) = H.size := by rw [mAd_of (by omega), hsz]
  obtain ⟨hx, hb, -, hml, hown, hts, -, -, hKX, -, -, -, hf, hl⟩ := C
  obtain ⟨c0, t0', f1, f2, f3⟩ := Cond.castable_spec (va_Nw.use (A := args) rfl hKX.2.2.2.2.1)
  have hra := (hKX.1.2 (14 - 13) _ (mTys_at aC (kd := 14) (by decide) (by decide)))
  have hnm : s.vm.findClass "[I" = some (aC 14) := hra.2
  cases hnm.symm.trans f1
  have hcell : H[mAd b B a]? = some (arrV (aC 14) n (fun j => .int (hI h a j))) := by
    have h0 := gR.1 a _ (mW_at aC (mAd b B) h ha.1)
    rw [mE_int ha.2 (by decide)] at h0
    exact h0
  intro T hT X
  obtain ⟨-, kA, hkA, comp, hkind⟩ := State.isArrayOf_alike X.warmed.alike (hra.1 0 (fun _ => .null))
  obtain ⟨-, kS, hkS, compS, hkindS⟩ := hra.1 0 (fun _ => .null)
  obtain ⟨vm', X', st9⟩ := X.cloneArray hx hown (hts _ hlk) (hts _ hsm) (hts _ hnat) (hts _ hin) (hts _ hsel) (a := mAd b B a) (cell := arrV (aC 14) n (fun j => .int (hI h a j))) (by rw [hT]; exact hcell) (fun k h => by cases h) (fun h => by cases h) hnm f2 f3
    (fun i v hv => by
      have hk' : T.vm.classes[aC 14]? = some kA := hkA
      have hlt : i < n := by
        have := (Array.getElem?_eq_some_iff.mp hv).1
        rwa [arrV_size] at this
      rw [arrV_read _ _ hlt] at hv
      cases hv
      show T.fitsSlot (aC 14) _ _ _ = true
      simp [State.fitsSlot, State.slotType?, hk', hkind, mAy, fits])
    (g := F0 m pc lsr (.ref (mAd b B a) :: st.map (mV b B))) rfl (by rw [hml]; exact gL.1) rfl (by rw [hb]; exact hd) (by omega) (by rw [mCat]; show 2 * 0 + _ + 14 ≤ _; omega) hc (by rw [arrV_size]; exact hs) (hloader := Vm.clonesLoader_of_array hkS hkindS)
  have hcellE : ({ cls := (arrV (aC 14) n (fun j => .int (hI h a j))).cls, slots := (arrV (aC 14) n (fun j => .int (hI h a j))).slots } : Cell) = arrV (aC 14) n (fun j => .int (hI h a j)) := rfl
  rw [hcellE, arrV_size] at X'
  rw [hcellE] at st9
  generalize hcn : arrV (aC 14) n (fun j => .int (hI h a j)) = cn at X' st9
  generalize hH1 : H.push cn = H1
  have z1 : H1.size = H.size + 1 := by rw [← hH1, Array.size_push]
  have q1 : H1[H.size]? = some cn := by rw [← hH1, Array.getElem?_push_size]
  have o1 : ∀ q : Nat, q < H.size → H1[q]? = H[q]? := fun q hq => by rw [← hH1, Array.getElem?_push, if_neg (Nat.ne_of_lt hq)]
  have hns : ¬ scrA = hN h := by omega
  have hmr : mR D aC b B L xs s (cl h a) H1 locs := by
    refine mR_push (h := h) hz gR 1 rfl (by rw [hK_cl, if_neg hns]) (by funext y; rw [hI_cl, if_neg hns]) (fun i hi => mE_cl (by omega)) (fun j hj => ?_) z1 o1
    rw [show hN h + j = hN h by omega, had, mE_int (h := cl h a) (n := n) (by rw [hK_cl, if_pos rfl]; exact ha.2) (by decide)]
    show H1[H.size]? = some (vp_cell _ _)
    rw [q1, ← hcn, vp_cell_i]
    congr 2
    funext y
    rw [hI_cl, if_pos rfl]
  obtain ⟨t, b1, b2⟩ := kk H1 locs lsr hmr gL ((T.setVm vm').pushCell cn) (by rw [← hH1, ← hT]; rfl) X'
  refine ⟨t, st9 t ?_, b2⟩
  rw [List.map_cons] at b1
  have e5 : mV b B (.ref (hN h)) = .ref H.size := by show Value.ref (mAd b B (hN h)) = _; rw [had]
  rw [e5] at b1
  rw [hT]
  exact b1
theorem wp_mul {idx : Nat} {n k : Int32} {N K : Nat} (hd : At M.2.1 pc (.multianewarray idx 2) 4 pc1) (hw : Cond.classLink M.1.cls idx "[[J" ∈ mTbl) (hw2 : Cond.arrayClass .long ∈ mTbl) (hn : ¬ n < 0) (hk : ¬ k < 0) (hNn : n.toNatClampNeg = N) (hKk : k.toNatClampNeg = K) (hN6 : N ≤ 60000000) (hK6 : K ≤ 60000000) (k9 : Wp M fr lo pc1 ls (.ref (hN h) :: st) (mul h N K) Q) : Wp M fr lo pc ls (.int k :: .int n :: st) h Q := by
  obtain ⟨hd, rfl⟩ := hd
  subst hNn
  subst hKk
  refine wp_step (h1 := mul h n.toNatClampNeg k.toNatClampNeg) (Nat.le_add_right (hN h) _) (Nat.le_add_right (hU h) _) ?_ k9
  intro p l e R s m args below meth c D aC b B L xs H locs cells slots Q lsr C hz hc hs gR gL kk
  have e1 : hN (mul h n.toNatClampNeg k.toNatClampNeg) - hN h = 1 + n.toNatClampNeg := by rw [hN_mul]; omega
  have e2 : hU (mul h n.toNatClampNeg k.toNatClampNeg) - hU h = n.toNatClampNeg + n.toNatClampNeg * k.toNatClampNeg := by rw [hU_mul]; omega
  rw [e1] at hc kk
  rw [e2] at hs kk
  have hz2 : hN h + (1 + n.toNatClampNeg) ≤ scrA := hz
  have hsz : H.size = B + hN h := gR.2.2.1
  have had : ∀ j, j ≤ n.toNatClampNeg → mAd b B (hN h + j) = H.size + j := fun j hj => by rw [mAd_of (by omega), hsz]; omega
  obtain ⟨hx, hb, -, hml, hown, hts, -, -, hKX, -, -, -, hf, hl⟩ := C
  have hover : (Cond.arrayOver (.array .long)).before args s = true := hKX.2.2.2.2.2
  intro T hT X
  obtain ⟨vm₁, cA, comp, -, fA, fC, hO9, -, X', step⟩ := X.multianewarray2F (ty := .long) hx hown (hts _ hw) hover (hts _ hw2) (g := F0 m pc lsr (.int k :: .int n :: st.map (mV b B))) rfl (by rw [hb]; exact hd) rfl hn hk (by omega) (by show _ * 8 ≤ _; omega) (by omega) (by rfl) (by rfl) hc hs
  have h15 := (hKX.1.2 (15 - 13) _ (mTys_at aC (kd := 15) (by decide) (by decide))).2
  have h21 := (hKX.1.2 (21 - 13) _ (mTys_at aC (kd := 21) (by decide) (by decide))).2
  have ec : comp = aC 15 := Option.some.inj (fC.symm.trans h15)
  have ea : cA = aC 21 := Option.some.inj (fA.symm.trans h21)
  subst ec
  subst ea
  generalize hF : Jvm.Free.Multi.fill (T.setVm vm₁) (aC 21) (aC 15) n.toNatClampNeg k.toNatClampNeg (defaultValue .long) n.toNatClampNeg = F at X' step
  have hTh : (T.setVm vm₁).heap = H := hT
  obtain ⟨f1, f2, -, -⟩ := Jvm.Free.Multi.fill_facts (T.setVm vm₁) (aC 21) (aC 15) n.toNatClampNeg k.toNatClampNeg (defaultValue .long) n.toNatClampNeg
  rw [hF, hTh] at f1 f2
  have hold : ∀ x : Nat, x < H.size → F.heap[x]? = H[x]? := fun x hx => by
    have := Jvm.Free.Multi.fill_old (T.setVm vm₁) (aC 21) (aC 15) n.toNatClampNeg k.toNatClampNeg (defaultValue .long) (a := x) (by rw [hTh]; exact hx) n.toNatClampNeg
    rw [hF, hTh] at this
    exact this
  have hrow : ∀ j : Nat, j < n.toNatClampNeg → F.heap[H.size + 1 + j]? = some (arrV (aC 15) k.toNatClampNeg (fun _ => .long 0)) := fun j hj => by
    have := Jvm.Free.Multi.fill_inner (T.setVm vm₁) (aC 21) (aC 15) n.toNatClampNeg k.toNatClampNeg (defaultValue .long) n.toNatClampNeg j hj
    rw [hF, hTh] at this
    rw [this, ← arrV_new]
    rfl
  have hout : ∀ i : Nat, Jvm.Free.Multi.outerC (aC 21) n.toNatClampNeg H.size i = arrV (aC 21) n.toNatClampNeg (fun j => va_rf (if j < i then some (H.size + 1 + j) else none)) := by
    intro i
    induction i with
    | zero =>
      show ({ cls := aC 21, slots := Array.replicate n.toNatClampNeg .null, vm := .none } : Cell) = _
      rw [arrV_new]
      refine congrArg (arrV (aC 21) n.toNatClampNeg) (funext fun j => ?_)
      simp [va_rf]
    | succ i ih =>
      show (Jvm.Free.Multi.outerC (aC 21) n.toNatClampNeg H.size i).setSlot i (.ref (H.size + 1 + i)) = _
      rw [ih, arrV_store]
      refine congrArg (arrV (aC 21) n.toNatClampNeg) (funext fun j => ?_)
      by_cases e9 : j = i
      · subst e9
        simp [updV, va_rf]
      · by_cases h9 : j < i
        · simp [updV, e9, h9, Nat.lt_succ_of_lt h9]
        · simp [updV, e9, h9, show ¬ j < i + 1 by omega]
  rw [hout] at f2
  have hns : ¬ scrA = hN h := by omega
  have hns2 : ¬ (hN h < scrA ∧ scrA ≤ hN h + n.toNatClampNeg) := by omega
  have hns3 : ¬ (hN h ≤ scrA ∧ scrA ≤ hN h + n.toNatClampNeg) := by omega
  have hmr : mR D aC b B L xs s (mul h n.toNatClampNeg k.toNatClampNeg) F.heap locs := by
    refine mR_push (h := h) hz gR (1 + n.toNatClampNeg) rfl (by rw [hK_mul, if_neg hns, if_neg hns2]) (by funext y; rw [hI_mul, if_neg hns3]) (fun i hi => mE_mul (Or.inl hi)) (fun j hj => ?_) (by rw [f1]; omega) hold
    rw [had j (by omega)]
    by_cases hj0 : j = 0
    · subst hj0
      rw [Nat.add_zero, Nat.add_zero, mE_ref (h := mul h n.toNatClampNeg k.toNatClampNeg) (kd := 21) (n := n.toNatClampNeg) (by rw [hK_mul, if_pos rfl]) (by decide)]
      show F.heap[H.size]? = some (vp_cell _ _)
      rw [f2, vp_cell_q]
      congr 2
      funext y
      rw [hR_mul, if_pos rfl]
      by_cases hy : y < n.toNatClampNeg
      · rw [if_pos hy, if_pos hy]
        show va_rf (some (H.size + 1 + y)) = va_rf (some (mAd b B (hN h + 1 + y)))
        rw [show hN h + 1 + y = hN h + (1 + y) by omega, had (1 + y) (by omega), show H.size + 1 + y = H.size + (1 + y) by omega]
      · rw [if_neg hy, if_neg hy]
        rfl
    · rw [mE_long (h := mul h n.toNatClampNeg k.toNatClampNeg) (n := k.toNatClampNeg) (by rw [hK_mul, if_neg (by omega), if_pos (by omega)])]
      show F.heap[H.size + j]? = some (vp_cell _ _)
      have := hrow (j - 1) (by omega)
      rw [show H.size + 1 + (j - 1) = H.size + j by omega] at this
      rw [this, vp_cell_l]
      congr 2
      funext y
      rw [hL_mul, if_pos (by omega)]
  have e6 : cells + (1 + n.toNatClampNeg) = cells + 1 + n.toNatClampNeg := by omega
  have e7 : slots + (n.toNatClampNeg + n.toNatClampNeg * k.toNatClampNeg) = slots + n.toNatClampNeg + n.toNatClampNeg * k.toNatClampNeg := by omega
  rw [e6, e7] at kk
  obtain ⟨t, b1, b2⟩ := kk F.heap locs lsr hmr gL F rfl X'
  refine ⟨t, step t ?_, b2⟩
  rw [List.map_cons] at b1
  have e5 : mV b B (.ref (hN h)) = .ref H.size := by
    show Value.ref (mAd b B (hN h)) = _
    have := had 0 (by omega)
    rw [Nat.add_zero, Nat.add_zero] at this
    rw [this]
  rw [e5] at b1
  rw [hT]
  exact b1
end RulesF
