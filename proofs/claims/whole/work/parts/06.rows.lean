theorem mR_set {D : va_G} {aC : Nat → ClassId} {b B L : Nat} {xs : Nat → Int32} {s : State} {h h1 : mH} {H H1 : Heap} {locs : List Loc} {a : Nat} (hz : hN h ≤ scrA) (hR : mR D aC b B L xs s h H locs) (ha : a < hN h) (hN1 : hN h1 = hN h) (hK1 : ∀ x, hK h1 x = hK h x) (hs1 : hI h1 scrA = hI h scrA)
    (hoth : ∀ i, i < hN h → i ≠ a → mE aC (mAd b B) h1 i = mE aC (mAd b B) h i) (hat : va_at D vwCl (mAd b B a, mE aC (mAd b B) h1 a) H1) (z : H1.size = H.size) (oq : ∀ q : Nat, q ≠ mAd b B a → H1[q]? = H[q]?) (l2 : List Loc) (hl2 : ∀ q ∈ l2, q.base = mAd b B a) : mR D aC b B L xs s h1 H1 (locs ++ l2) := by
  obtain ⟨hP, hS0, hsz, hsc, hxs⟩ := hR
  have hD := mW_D aC b B h hz
  have he := mW_at aC (mAd b B) h ha
  have hA0 : B ≤ mAd b B a := hD.2 a _ he
  refine ⟨?_, ⟨by rw [z]; exact hS0.1, fun q h1 h2 => ?_, fun q hq => ?_⟩, by rw [z, hN1]; exact hsz, by rw [hK1]; exact hsc, by rw [hs1]; exact hxs⟩
  · rw [← mW_set (e := mE aC (mAd b B) h1 a) hN1 rfl hoth]
    exact hP.set hD he hat oq
  · rw [oq q (fun e9 => h2 (by rw [e9]; exact hA0))]
    exact hS0.2.1 q h1 h2
  · rcases List.mem_append.mp hq with h9 | h9
    · exact hS0.2.2 q h9
    · show B ≤ q.base
      rw [hl2 q h9]
      exact hA0
theorem mR_push {D : va_G} {aC : Nat → ClassId} {b B L : Nat} {xs : Nat → Int32} {s : State} {h h1 : mH} {H H1 : Heap} {locs : List Loc} (hz : hN h1 ≤ scrA) (hR : mR D aC b B L xs s h H locs) (n : Nat) (hN1 : hN h1 = hN h + n) (hsc1 : hK h1 scrA = hK h scrA) (hs1 : hI h1 scrA = hI h scrA)
    (hoth : ∀ i, i < hN h → mE aC (mAd b B) h1 i = mE aC (mAd b B) h i) (hat : ∀ j, j < n → va_at D vwCl (mAd b B (hN h + j), mE aC (mAd b B) h1 (hN h + j)) H1) (z : H1.size = H.size + n) (oq : ∀ q : Nat, q < H.size → H1[q]? = H[q]?) : mR D aC b B L xs s h1 H1 locs := by
  obtain ⟨hP, hS0, hsz, hsc, hxs⟩ := hR
  refine ⟨?_, ⟨Nat.le_trans hS0.1 (by omega), fun q h1 h2 => (oq q (Nat.lt_of_lt_of_le h1 hS0.1)).trans (hS0.2.1 q h1 h2), hS0.2.2⟩, by omega, by rw [hsc1]; exact hsc, by rw [hs1]; exact hxs⟩
  intro k q hq
  have hk : k < hN h1 := by
    have := (List.getElem?_eq_some_iff.mp hq).1
    rwa [mW_len] at this
  rw [mW_at _ _ _ hk] at hq
  cases hq
  by_cases hk2 : k < hN h
  · rw [hoth k hk2]
    have h0 := hP k _ (mW_at aC (mAd b B) h hk2)
    exact h0.kept (oq _ h0.lt)
  · have := hat (k - hN h) (by omega)
    rwa [show hN h + (k - hN h) = k by omega] at this
section RulesC
variable {M : mM} {fr lo pc pc1 t : Nat} {ls ls1 : List (Option Value)} {st : List Value} {h : mH} {Q : Option Value → mH → Prop}
theorem mK_of {p : Program} {R : Room} {s : State} {m : MethodId} {args : Array Value} {meth : Method} {c : Code} {D : va_G} {aC : Nat → ClassId} {b B L : Nat} {xs : Nat → Int32} (C : mCx M p R s m args meth c D aC b B L xs fr lo) : va_K D vwCl (mTys aC) s := C.2.2.2.2.2.2.2.2.1.1
theorem wp_iald {a n : Nat} {i : Int32} (hd : At M.2.1 pc (.iaload) 1 pc1) (ha : hA h a 14 n) (hi : vp_in i n) (k9 : Wp M fr lo pc1 ls (.int (hI h a i.toNatClampNeg) :: st) h Q) : Wp M fr lo pc ls (.int i :: .ref a :: st) h Q := by
  obtain ⟨hd, rfl⟩ := hd
  exact wp_pure (fun p l e R s m args below meth c D aC b B L xs H locs cells slots Q lsr C hz gR gL kk => va_iald (D := D) (cl := vwCl) (ws := mW aC (mAd b B) h) C.1 C.2.1 (mK_of C) gR.1 a (14 - 13) (by rw [mW_at _ _ _ ha.1, mE_int ha.2 (by decide)]) (mTys_at aC (kd := 14) (by decide) (by decide)) hi hd kk) k9
theorem wp_bald {a n : Nat} {i : Int32} (hd : At M.2.1 pc (.baload) 1 pc1) (ha : hA h a 13 n) (hi : vp_in i n) (k9 : Wp M fr lo pc1 ls (.int (hI h a i.toNatClampNeg) :: st) h Q) : Wp M fr lo pc ls (.int i :: .ref a :: st) h Q := by
  obtain ⟨hd, rfl⟩ := hd
  exact wp_pure (fun p l e R s m args below meth c D aC b B L xs H locs cells slots Q lsr C hz gR gL kk => va_bald (D := D) (cl := vwCl) (ws := mW aC (mAd b B) h) C.1 C.2.1 (mK_of C) gR.1 a (13 - 13) (by rw [mW_at _ _ _ ha.1, mE_int ha.2 (by decide)]) (mTys_at aC (kd := 13) (by decide) (by decide)) hi hd kk) k9
theorem wp_zald {a n : Nat} {i : Int32} (hd : At M.2.1 pc (.baload) 1 pc1) (ha : hA h a 16 n) (hi : vp_in i n) (k9 : Wp M fr lo pc1 ls (.int (hI h a i.toNatClampNeg) :: st) h Q) : Wp M fr lo pc ls (.int i :: .ref a :: st) h Q := by
  obtain ⟨hd, rfl⟩ := hd
  exact wp_pure (fun p l e R s m args below meth c D aC b B L xs H locs cells slots Q lsr C hz gR gL kk => va_zald (D := D) (cl := vwCl) (ws := mW aC (mAd b B) h) C.1 C.2.1 (mK_of C) gR.1 a (16 - 13) (by rw [mW_at _ _ _ ha.1, mE_int ha.2 (by decide)]) (mTys_at aC (kd := 16) (by decide) (by decide)) hi hd kk) k9
theorem wp_lald {a n : Nat} {i : Int32} (hd : At M.2.1 pc (.laload) 1 pc1) (ha : hA h a 15 n) (hi : vp_in i n) (k9 : Wp M fr lo pc1 ls (.long (hL h a i.toNatClampNeg) :: st) h Q) : Wp M fr lo pc ls (.int i :: .ref a :: st) h Q := by
  obtain ⟨hd, rfl⟩ := hd
  exact wp_pure (fun p l e R s m args below meth c D aC b B L xs H locs cells slots Q lsr C hz gR gL kk => va_lald (D := D) (cl := vwCl) (ws := mW aC (mAd b B) h) C.1 C.2.1 (mK_of C) gR.1 a (15 - 13) (by rw [mW_at _ _ _ ha.1, mE_long ha.2]) (mTys_at aC (kd := 15) (by decide) (by decide)) hi hd kk) k9
theorem mp_ref {s : State} {D : va_G} {aC : Nat → ClassId} (hK : va_K D vwCl (mTys aC) s) {kd : Nat} (h1 : 17 ≤ kd) (h2 : kd < 22) (n : Nat) (f : Nat → Value) : s.isArrayOf (arrV (aC kd) n f) (mAy kd) := (hK.2 (kd - 13) _ (mTys_at aC (by omega) h2)).1 n f
theorem mAy_ref {kd : Nat} (h1 : 17 ≤ kd) : (mAy kd).isReference = true := by
  match kd, h1 with
  | 17, _ => rfl
  | 18, _ => rfl
  | 19, _ => rfl
  | 20, _ => rfl
  | n + 21, _ => rfl
theorem wp_aald {a n kd : Nat} {i : Int32} {o : Option Nat} (hd : At M.2.1 pc (.aaload) 1 pc1) (ha : hA h a kd n) (h1 : 17 ≤ kd) (h2 : kd < 22) (hi : vp_in i n) (hv : hR h a i.toNatClampNeg = o) (k9 : Wp M fr lo pc1 ls (va_rf o :: st) h Q) : Wp M fr lo pc ls (.int i :: .ref a :: st) h Q := by
  obtain ⟨hd, rfl⟩ := hd
  subst hv
  refine wp_pure (fun p l e R s m args below meth c D aC b B L xs H locs cells slots Q lsr C hz gR gL kk => ?_) k9
  have hcell : H[mAd b B a]? = some (arrV (aC kd) n (fun j => va_rf ((hR h a j).map (mAd b B)))) := by
    have h0 := gR.1 a _ (mW_at aC (mAd b B) h ha.1)
    rw [mE_ref ha.2 h1] at h0
    exact h0
  have hlt : i.toNatClampNeg < n := Nat.not_le.mp fun q => hi (Or.inr q)
  rw [List.map_cons, mV_rf] at kk
  refine W.aald (ty := mAy kd) C.1 C.2.1 hcell (mp_ref (mK_of C) h1 h2 n _) (mAy_ref h1) (fun q => by cases q) (by rw [arrV_size]; exact hi) (arrV_read _ _ hlt) rfl rfl hd kk
theorem wp_alen {a n kd : Nat} {v : Int32} (hd : At M.2.1 pc (.arraylength) 1 pc1) (ha : hA h a kd n) (h1 : 13 ≤ kd) (h2 : kd < 22) (hv : Int32.ofNat n = v) (k9 : Wp M fr lo pc1 ls (.int v :: st) h Q) : Wp M fr lo pc ls (.ref a :: st) h Q := by
  obtain ⟨hd, rfl⟩ := hd
  refine wp_pure (fun p l e R s m args below meth c D aC b B L xs H locs cells slots Q lsr C hz gR gL kk => ?_) k9
  have h0 := mW_at aC (mAd b B) h ha.1
  by_cases e1 : kd = 15
  · subst e1
    rw [mE_long ha.2] at h0
    exact va_alen (D := D) (cl := vwCl) C.1 C.2.1 (mK_of C) gR.1 a (15 - 13) h0 (mTys_at aC h1 h2) hv hd kk
  · by_cases e2 : 17 ≤ kd
    · rw [mE_ref ha.2 e2] at h0
      exact va_alen (D := D) (cl := vwCl) C.1 C.2.1 (mK_of C) gR.1 a (kd - 13) h0 (mTys_at aC h1 h2) hv hd kk
    · rw [mE_int ha.2 (by omega)] at h0
      exact va_alen (D := D) (cl := vwCl) C.1 C.2.1 (mK_of C) gR.1 a (kd - 13) h0 (mTys_at aC h1 h2) hv hd kk
/-- the script -/
theorem wp_sld {n : Nat} {i : Int32} (hd : At M.2.1 pc (.iaload) 1 pc1) (ha : hK h scrA = (99, n)) (hi : vp_in i n) (k9 : Wp M fr lo pc1 ls (.int (hI h scrA i.toNatClampNeg) :: st) h Q) : Wp M fr lo pc ls (.int i :: .ref scrA :: st) h Q := by
  obtain ⟨hd, rfl⟩ := hd
  refine wp_pure (fun p l e R s m args below meth c D aC b B L xs H locs cells slots Q lsr C hz gR gL kk => ?_) k9
  obtain ⟨hP, hS0, hsz, hsc, hxs⟩ := gR
  have hn : n = L := by have := ha.symm.trans hsc; cases this; rfl
  subst hn
  rw [hxs] at kk
  exact va_sld (A := fun q => B ≤ q) C.1 C.2.1 C.2.2.2.2.2.2.2.2.2.1 (Nat.lt_of_lt_of_le C.2.2.2.2.2.2.2.2.2.2.1 C.2.2.2.2.2.2.2.2.2.2.2.1) (Nat.not_le.mpr C.2.2.2.2.2.2.2.2.2.2.1) hS0 hi hd kk
theorem wp_slen {n : Nat} (hd : At M.2.1 pc (.arraylength) 1 pc1) (ha : hK h scrA = (99, n)) (k9 : Wp M fr lo pc1 ls (.int (Int32.ofNat n) :: st) h Q) : Wp M fr lo pc ls (.ref scrA :: st) h Q := by
  obtain ⟨hd, rfl⟩ := hd
  refine wp_pure (fun p l e R s m args below meth c D aC b B L xs H locs cells slots Q lsr C hz gR gL kk => ?_) k9
  obtain ⟨hP, hS0, hsz, hsc, hxs⟩ := gR
  have hn : n = L := by have := ha.symm.trans hsc; cases this; rfl
  subst hn
  exact va_slen (A := fun q => B ≤ q) C.1 C.2.1 C.2.2.2.2.2.2.2.2.2.1 (Nat.lt_of_lt_of_le C.2.2.2.2.2.2.2.2.2.2.1 C.2.2.2.2.2.2.2.2.2.2.2.1) (Nat.not_le.mpr C.2.2.2.2.2.2.2.2.2.2.1) hS0 hd kk
theorem wp_iast {a n : Nat} {i : Int32} {x : Int32} (hd : At M.2.1 pc (.iastore) 1 pc1) (ha : hA h a 14 n) (hi : vp_in i n) (k9 : Wp M fr lo pc1 ls st (sI h a i.toNatClampNeg x) Q) : Wp M fr lo pc ls (.int x :: .int i :: .ref a :: st) h Q := by
  obtain ⟨hd, rfl⟩ := hd
  refine wp_step (h1 := sI h a i.toNatClampNeg x) (Nat.le_refl (hN h)) (Nat.le_refl (hU h)) ?_ k9
  intro p l e R s m args below meth c D aC b B L xs H locs cells slots Q lsr C hz hc hs gR gL kk
  have e1 : cells + (hN (sI h a i.toNatClampNeg x) - hN h) = cells := by show cells + (hN h - hN h) = cells; omega
  have e2 : slots + (hU (sI h a i.toNatClampNeg x) - hU h) = slots := by show slots + (hU h - hU h) = slots; omega
  rw [e1, e2] at kk
  have hcell : H[mAd b B a]? = some (arrV (aC 14) n (fun j => .int (hI h a j))) := by
    have h0 := gR.1 a _ (mW_at aC (mAd b B) h ha.1)
    rw [mE_int ha.2 (by decide)] at h0
    exact h0
  refine W.iast C.1 C.2.1 hcell (((mK_of C).2 (14 - 13) _ (mTys_at aC (kd := 14) (by decide) (by decide))).1 n _) (fun q => by cases q) (by rw [arrV_size]; exact hi) rfl rfl hd fun H1 e0 z oq => ?_
  refine kk H1 _ lsr (mR_set (h := h) (h1 := sI h a i.toNatClampNeg x) hz gR ha.1 rfl (fun _ => rfl) (by funext y; show up2 h.2.2.1 a i.toNatClampNeg x scrA y = h.2.2.1 scrA y; rw [up2_ne (by have := ha.1; have : hN h ≤ scrA := hz; omega)]) (fun j _ hj => mE_sI hj) ?_ z oq _ (fun q hq => by rw [List.mem_singleton.mp hq])) gL
  rw [mE_int (h := sI h a i.toNatClampNeg x) ha.2 (by decide)]
  show H1[mAd b B a]? = some (vp_cell _ _)
  rw [e0, vp_cell_i, arrV_store]
  congr 2
  funext q
  by_cases hq : q = i.toNatClampNeg
  · subst hq
    simp [updV, hI_sI, vp_nar]
    try rfl
  · simp [updV, hI_sI, hq]
theorem wp_bast {a n : Nat} {i : Int32} {x : Int32} (hd : At M.2.1 pc (.bastore) 1 pc1) (ha : hA h a 13 n) (hi : vp_in i n) (k9 : Wp M fr lo pc1 ls st (sI h a i.toNatClampNeg (vp_nar .byte x)) Q) : Wp M fr lo pc ls (.int x :: .int i :: .ref a :: st) h Q := by
  obtain ⟨hd, rfl⟩ := hd
  refine wp_step (h1 := sI h a i.toNatClampNeg (vp_nar .byte x)) (Nat.le_refl (hN h)) (Nat.le_refl (hU h)) ?_ k9
  intro p l e R s m args below meth c D aC b B L xs H locs cells slots Q lsr C hz hc hs gR gL kk
  have e1 : cells + (hN (sI h a i.toNatClampNeg (vp_nar .byte x)) - hN h) = cells := by show cells + (hN h - hN h) = cells; omega
  have e2 : slots + (hU (sI h a i.toNatClampNeg (vp_nar .byte x)) - hU h) = slots := by show slots + (hU h - hU h) = slots; omega
  rw [e1, e2] at kk
  have hcell : H[mAd b B a]? = some (arrV (aC 13) n (fun j => .int (hI h a j))) := by
    have h0 := gR.1 a _ (mW_at aC (mAd b B) h ha.1)
    rw [mE_int ha.2 (by decide)] at h0
    exact h0
  refine W.bast C.1 C.2.1 hcell (((mK_of C).2 (13 - 13) _ (mTys_at aC (kd := 13) (by decide) (by decide))).1 n _) (fun q => by cases q) (by rw [arrV_size]; exact hi) rfl rfl hd fun H1 e0 z oq => ?_
  refine kk H1 _ lsr (mR_set (h := h) (h1 := sI h a i.toNatClampNeg (vp_nar .byte x)) hz gR ha.1 rfl (fun _ => rfl) (by funext y; show up2 h.2.2.1 a i.toNatClampNeg (vp_nar .byte x) scrA y = h.2.2.1 scrA y; rw [up2_ne (by have := ha.1; have : hN h ≤ scrA := hz; omega)]) (fun j _ hj => mE_sI hj) ?_ z oq _ (fun q hq => by rw [List.mem_singleton.mp hq])) gL
  rw [mE_int (h := sI h a i.toNatClampNeg (vp_nar .byte x)) ha.2 (by decide)]
  show H1[mAd b B a]? = some (vp_cell _ _)
  rw [e0, vp_cell_i, arrV_store]
  congr 2
  funext q
  by_cases hq : q = i.toNatClampNeg
  · subst hq
    simp [updV, hI_sI, vp_nar]
    try rfl
  · simp [updV, hI_sI, hq]
theorem wp_zast {a n : Nat} {i : Int32} {x : Int32} (hd : At M.2.1 pc (.bastore) 1 pc1) (ha : hA h a 16 n) (hi : vp_in i n) (k9 : Wp M fr lo pc1 ls st (sI h a i.toNatClampNeg (vp_nar .boolean x)) Q) : Wp M fr lo pc ls (.int x :: .int i :: .ref a :: st) h Q := by
  obtain ⟨hd, rfl⟩ := hd
  refine wp_step (h1 := sI h a i.toNatClampNeg (vp_nar .boolean x)) (Nat.le_refl (hN h)) (Nat.le_refl (hU h)) ?_ k9
  intro p l e R s m args below meth c D aC b B L xs H locs cells slots Q lsr C hz hc hs gR gL kk
  have e1 : cells + (hN (sI h a i.toNatClampNeg (vp_nar .boolean x)) - hN h) = cells := by show cells + (hN h - hN h) = cells; omega
  have e2 : slots + (hU (sI h a i.toNatClampNeg (vp_nar .boolean x)) - hU h) = slots := by show slots + (hU h - hU h) = slots; omega
  rw [e1, e2] at kk
  have hcell : H[mAd b B a]? = some (arrV (aC 16) n (fun j => .int (hI h a j))) := by
    have h0 := gR.1 a _ (mW_at aC (mAd b B) h ha.1)
    rw [mE_int ha.2 (by decide)] at h0
    exact h0
  refine W.zast C.1 C.2.1 hcell (((mK_of C).2 (16 - 13) _ (mTys_at aC (kd := 16) (by decide) (by decide))).1 n _) (fun q => by cases q) (by rw [arrV_size]; exact hi) rfl rfl hd fun H1 e0 z oq => ?_
  refine kk H1 _ lsr (mR_set (h := h) (h1 := sI h a i.toNatClampNeg (vp_nar .boolean x)) hz gR ha.1 rfl (fun _ => rfl) (by funext y; show up2 h.2.2.1 a i.toNatClampNeg (vp_nar .boolean x) scrA y = h.2.2.1 scrA y; rw [up2_ne (by have := ha.1; have : hN h ≤ scrA := hz; omega)]) (fun j _ hj => mE_sI hj) ?_ z oq _ (fun q hq => by rw [List.mem_singleton.mp hq])) gL
  rw [mE_int (h := sI h a i.toNatClampNeg (vp_nar .boolean x)) ha.2 (by decide)]
  show H1[mAd b B a]? = some (vp_cell _ _)
  rw [e0, vp_cell_i, arrV_store]
  congr 2
  funext q
  by_cases hq : q = i.toNatClampNeg
  · subst hq
    simp [updV, hI_sI, vp_nar]
    try rfl
  · simp [updV, hI_sI, hq]
theorem wp_last {a n : Nat} {i : Int32} {x : Int64} (hd : At M.2.1 pc (.lastore) 1 pc1) (ha : hA h a 15 n) (hi : vp_in i n) (k9 : Wp M fr lo pc1 ls st (sL h a i.toNatClampNeg x) Q) : Wp M fr lo pc ls (.long x :: .int i :: .ref a :: st) h Q := by
  obtain ⟨hd, rfl⟩ := hd
  refine wp_step (h1 := sL h a i.toNatClampNeg x) (Nat.le_refl (hN h)) (Nat.le_refl (hU h)) ?_ k9
  intro p l e R s m args below meth c D aC b B L xs H locs cells slots Q lsr C hz hc hs gR gL kk
  have e1 : cells + (hN (sL h a i.toNatClampNeg x) - hN h) = cells := by show cells + (hN h - hN h) = cells; omega
  have e2 : slots + (hU (sL h a i.toNatClampNeg x) - hU h) = slots := by show slots + (hU h - hU h) = slots; omega
  rw [e1, e2] at kk
  have hcell : H[mAd b B a]? = some (arrV (aC 15) n (fun j => .long (hL h a j))) := by
    have h0 := gR.1 a _ (mW_at aC (mAd b B) h ha.1)
    rw [mE_long ha.2 ] at h0
    exact h0
  refine W.last C.1 C.2.1 hcell (((mK_of C).2 (15 - 13) _ (mTys_at aC (kd := 15) (by decide) (by decide))).1 n _) (fun q => by cases q) (by rw [arrV_size]; exact hi) rfl rfl hd fun H1 e0 z oq => ?_
  refine kk H1 _ lsr (mR_set (h := h) (h1 := sL h a i.toNatClampNeg x) hz gR ha.1 rfl (fun _ => rfl) rfl (fun j _ hj => mE_sL hj) ?_ z oq _ (fun q hq => by rw [List.mem_singleton.mp hq])) gL
  rw [mE_long (h := sL h a i.toNatClampNeg x) ha.2 ]
  show H1[mAd b B a]? = some (vp_cell _ _)
  rw [e0, vp_cell_l, arrV_store]
  congr 2
  funext q
  by_cases hq : q = i.toNatClampNeg
  · subst hq
    simp [updV, hL_sL, vp_nar]
    try rfl
  · simp [updV, hL_sL, hq]
theorem wp_aastN {a n kd : Nat} {i : Int32} (hd : At M.2.1 pc (.aastore) 1 pc1) (ha : hA h a kd n) (h1 : 17 ≤ kd) (h2 : kd < 21) (hi : vp_in i n) (k9 : Wp M fr lo pc1 ls st (sR h a i.toNatClampNeg none) Q) : Wp M fr lo pc ls (.null :: .int i :: .ref a :: st) h Q := by
  obtain ⟨hd, rfl⟩ := hd
  refine wp_step (h1 := sR h a i.toNatClampNeg none) (Nat.le_refl (hN h)) (Nat.le_refl (hU h)) ?_ k9
  intro p l e R s m args below meth c D aC b B L xs H locs cells slots Q lsr C hz hc hs gR gL kk
  have e1 : cells + (hN (sR h a i.toNatClampNeg none) - hN h) = cells := by show cells + (hN h - hN h) = cells; omega
  have e2 : slots + (hU (sR h a i.toNatClampNeg none) - hU h) = slots := by show slots + (hU h - hU h) = slots; omega
  rw [e1, e2] at kk
  have hcell : H[mAd b B a]? = some (arrV (aC kd) n (fun j => va_rf ((hR h a j).map (mAd b B)))) := by
    have h0 := gR.1 a _ (mW_at aC (mAd b B) h ha.1)
    rw [mE_ref ha.2 h1] at h0
    exact h0
  have hob : ∃ C9, mAy kd = .object C9 := by
    match kd, h1, h2 with
    | 17, _, _ => exact ⟨_, rfl⟩
    | 18, _, _ => exact ⟨_, rfl⟩
    | 19, _, _ => exact ⟨_, rfl⟩
    | 20, _, _ => exact ⟨_, rfl⟩
    | n + 21, _, h => omega
  obtain ⟨C9, hC9⟩ := hob
  have hisa := mp_ref (mK_of C) h1 (by omega) n (fun j => va_rf ((hR h a j).map (mAd b B)))
  rw [hC9] at hisa
  refine va_WaastN (C := C9) C.1 C.2.1 hcell hisa (fun q => by cases q) (by rw [arrV_size]; exact hi) rfl rfl hd fun H1 e0 z oq => ?_
  refine kk H1 _ lsr (mR_set (h := h) (h1 := sR h a i.toNatClampNeg none) hz gR ha.1 rfl (fun _ => rfl) rfl (fun j _ hj => mE_sR hj) ?_ z oq _ (fun q hq => by rw [List.mem_singleton.mp hq])) gL
  rw [mE_ref (h := sR h a i.toNatClampNeg none) ha.2 h1]
  show H1[mAd b B a]? = some (vp_cell _ _)
  rw [e0, vp_cell_q, arrV_store]
  congr 2
  funext q
  by_cases hq : q = i.toNatClampNeg
  · subst hq
    simp [updV, hR_sR, va_rf]
  · simp [updV, hR_sR, hq]
/-- the class whose objects a row of references holds -/
def mRc (kd : Nat) : Nat := match kd with
  | 17 => 8 | 18 => 9 | 19 => 6 | _ => 4
theorem mRc_ok {kd : Nat} (h1 : 17 ≤ kd) (h2 : kd < 21) : mAy kd = .object (mCn (mRc kd)) ∧ mRc kd < 13 := by
  match kd, h1, h2 with
  | 17, _, _ => exact ⟨rfl, by decide⟩
  | 18, _, _ => exact ⟨rfl, by decide⟩
  | 19, _, _ => exact ⟨rfl, by decide⟩
  | 20, _, _ => exact ⟨rfl, by decide⟩
  | n + 21, _, h => omega
theorem wp_aast {a v n kd : Nat} {i : Int32} (hd : At M.2.1 pc (.aastore) 1 pc1) (ha : hA h a kd n) (h1 : 17 ≤ kd) (h2 : kd < 21) (hi : vp_in i n) (ho : hO h v (mRc kd)) (k9 : Wp M fr lo pc1 ls st (sR h a i.toNatClampNeg (some v)) Q) : Wp M fr lo pc ls (.ref v :: .int i :: .ref a :: st) h Q := by
  obtain ⟨hd, rfl⟩ := hd
  refine wp_step (h1 := sR h a i.toNatClampNeg (some v)) (Nat.le_refl (hN h)) (Nat.le_refl (hU h)) ?_ k9
  intro p l e R s m args below meth c D aC b B L xs H locs cells slots Q lsr C hz hc hs gR gL kk
  have e1 : cells + (hN (sR h a i.toNatClampNeg (some v)) - hN h) = cells := by show cells + (hN h - hN h) = cells; omega
  have e2 : slots + (hU (sR h a i.toNatClampNeg (some v)) - hU h) = slots := by show slots + (hU h - hU h) = slots; omega
  rw [e1, e2] at kk
  obtain ⟨hty, hci⟩ := mRc_ok h1 h2
  obtain ⟨hc1, hc2, hc3, hc4⟩ := mCls (mRc kd) hci
  have hcell : H[mAd b B a]? = some (arrV (aC kd) n (fun j => va_rf ((hR h a j).map (mAd b B)))) := by
    have h0 := gR.1 a _ (mW_at aC (mAd b B) h ha.1)
    rw [mE_ref ha.2 h1] at h0
    exact h0
  have hlt : i.toNatClampNeg < n := Nat.not_le.mp fun q => hi (Or.inr q)
  have h0 : ¬ i < 0 := fun q => hi (Or.inl q)
  have hv := gR.1 v _ (mW_at aC (mAd b B) h ho.1)
  rw [mE_obj ho.2 hci] at hv
  obtain ⟨r', hr', cellV, g1, g2, g3, -⟩ := hv
  have hcls := ((mK_of C).1 (mRc kd) _ hc1).2
  have hra := ((mK_of C).2 (kd - 13) _ (mTys_at aC (by omega) (by omega))).2
  rw [show ((aC kd, mAy kd) : ClassId × FieldType).2 = .object (mCn (mRc kd)) from hty] at hra
  obtain ⟨kA, comp, k1, k2, k3, -⟩ := hra
  have hcomp : comp = D.1 (mRc kd) := Option.some.inj (k3.symm.trans hcls.1)
  subst hcomp
  obtain ⟨kC, hkC, -⟩ := hcls.2
  refine W.aast C.1 C.2.1 hcell (fun q h => by cases h) (fun h => by cases h) k1 k2 rfl hkC ⟨h0, by rw [arrV_size]; exact hlt⟩ g1 (fun q h => by rw [g3] at h; cases h) (by rw [g2]; exact hkC) (by rw [g2]; exact va_assign hcls) rfl rfl hd fun H1 e0 z oq => ?_
  refine kk H1 _ lsr (mR_set (h := h) (h1 := sR h a i.toNatClampNeg (some v)) hz gR ha.1 rfl (fun _ => rfl) rfl (fun j _ hj => mE_sR hj) ?_ z oq _ (fun q hq => by rw [List.mem_singleton.mp hq])) gL
  rw [mE_ref (h := sR h a i.toNatClampNeg (some v)) ha.2 h1]
  show H1[mAd b B a]? = some (vp_cell _ _)
  rw [e0, vp_cell_q, arrV_store]
  congr 2
  funext q
  by_cases hq : q = i.toNatClampNeg
  · subst hq
    simp [updV, hR_sR, va_rf]
  · simp [updV, hR_sR, hq]
end RulesC
