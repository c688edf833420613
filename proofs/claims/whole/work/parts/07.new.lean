/-- the zero of a kind of field -/
def mZv (t : Nat) : Value := match t with
  | 0 => .int 0
  | 1 => .long 0
  | _ => .null
theorem mDef (ci : Nat) (h : ci < 13) : ∀ k, k < mCz ci → defaultValue (mTy ci k) = mZv (mTk (mTy ci k)) := by
  match ci, h with
  | 0, _ => decide +kernel
  | 1, _ => decide +kernel
  | 2, _ => decide +kernel
  | 3, _ => decide +kernel
  | 4, _ => decide +kernel
  | 5, _ => decide +kernel
  | 6, _ => decide +kernel
  | 7, _ => decide +kernel
  | 8, _ => decide +kernel
  | 9, _ => decide +kernel
  | 10, _ => decide +kernel
  | 11, _ => decide +kernel
  | 12, _ => decide +kernel
  | n + 13, h => omega
theorem scr_nw {h : mH} {kd n : Nat} (hz : hN h + 1 ≤ scrA) : hK (nw h kd n) scrA = hK h scrA ∧ hI (nw h kd n) scrA = hI h scrA := by
  have : ¬ scrA = hN h := by omega
  refine ⟨by rw [hK_nw, if_neg this], ?_⟩
  funext y
  rw [hI_nw, if_neg this]
section RulesD
variable {M : mM} {fr lo pc pc1 t : Nat} {ls ls1 : List (Option Value)} {st : List Value} {h : mH} {Q : Option Value → mH → Prop}
theorem wp_new {ci idx : Nat} (hd : At M.2.1 pc (.new idx) 3 pc1) (hci : ci < 13) (hw : Cond.classLink M.1.cls idx (mCn ci) ∈ mTbl) (hw2 : Cond.instantiable (mCn ci) (mCz ci) ∈ mTbl) (hw3 : Cond.initialized (mCn ci) ∈ mTbl) (k9 : Wp M fr lo pc1 ls (.ref (hN h) :: st) (nw h ci (mCz ci)) Q) : Wp M fr lo pc ls st h Q := by
  obtain ⟨hd, rfl⟩ := hd
  refine wp_step (h1 := nw h ci (mCz ci)) (Nat.le_succ (hN h)) (Nat.le_add_right (hU h) (mCz ci)) ?_ k9
  intro p l e R s m args below meth c D aC b B L xs H locs cells slots Q lsr C hz hc hs gR gL kk
  have e1 : cells + (hN (nw h ci (mCz ci)) - hN h) = cells + 1 := by show cells + (hN h + 1 - hN h) = cells + 1; omega
  have e2 : slots + (hU (nw h ci (mCz ci)) - hU h) = slots + mCz ci := by show slots + (hU h + mCz ci - hU h) = slots + mCz ci; omega
  rw [e1] at hc kk
  rw [e2] at hs kk
  have hz2 : hN h + 1 ≤ scrA := hz
  have hsz : H.size = B + hN h := gR.2.2.1
  have had : mAd b B (hN h) = H.size := by rw [mAd_of (by omega), hsz]
  obtain ⟨hx, hb, -, -, hown, hts, -, -, hKX, -, -, -, -, -⟩ := C
  obtain ⟨hc1, hc2, hc3, hc4⟩ := mCls ci hci
  have hKn := hKX.1.1 ci _ hc1
  refine W.newcK hx hb hown (hts _ hw) (hts _ hw2) (hts _ hw3) rfl hd hc hs hKn.2.1 rfl fun H1 kC hkC f1 z1 o1 => ?_
  have hmr : mR D aC b B L xs s (nw h ci (mCz ci)) H1 locs := by
    refine mR_push (h := h) hz gR 1 rfl (scr_nw hz2).1 (scr_nw hz2).2 (fun i hi => mE_nw (by omega)) (fun j hj => ?_) z1 o1
    rw [show hN h + j = hN h by omega, had, mE_obj (ci := ci) (by rw [hK_nw, if_pos rfl]) hci]
    refine ⟨_, hc1, (u_born (mTy ci) hts hc2 hKn hkC f1 hc3).to (fun k hk => ?_)⟩
    show defaultValue (mTy ci k) = vp_V _ k
    rw [mDef ci hci k hk]
    unfold vp_V
    rw [List.getD_eq_getElem?_getD, mFs_at _ _ _ _ hk]
    unfold mFv mZv
    rw [hI_nw, hL_nw, hR_nw, if_pos rfl, if_pos rfl, if_pos rfl]
    generalize mTk (mTy ci k) = t9
    match t9 with
    | 0 => rfl
    | 1 => rfl
    | n + 2 => rfl
  have := kk H1 locs lsr hmr gL
  rw [List.map_cons] at this
  have e5 : mV b B (.ref (hN h)) = .ref H.size := by show Value.ref (mAd b B (hN h)) = _; rw [had]
  rw [e5] at this
  exact this
theorem wp_newB {n : Int32} {N : Nat} (hd : At M.2.1 pc (.newarray .byte) 2 pc1) (hw : Cond.arrayClass .byte ∈ mTbl) (hn : ¬ n < 0) (hNn : n.toNatClampNeg = N) (hm : N ≤ 60000000) (k9 : Wp M fr lo pc1 ls (.ref (hN h) :: st) (nw h 13 N) Q) : Wp M fr lo pc ls (.int n :: st) h Q := by
  obtain ⟨hd, rfl⟩ := hd
  refine wp_step (h1 := nw h 13 N) (Nat.le_succ (hN h)) (Nat.le_add_right (hU h) N) ?_ k9
  intro p l e R s m args below meth c D aC b B L xs H locs cells slots Q lsr C hz hc hs gR gL kk
  have e1 : cells + (hN (nw h 13 N) - hN h) = cells + 1 := by show cells + (hN h + 1 - hN h) = cells + 1; omega
  have e2 : slots + (hU (nw h 13 N) - hU h) = slots + N := by show slots + (hU h + N - hU h) = slots + N; omega
  rw [e1] at hc kk
  rw [e2] at hs kk
  have hz2 : hN h + 1 ≤ scrA := hz
  have hsz : H.size = B + hN h := gR.2.2.1
  have had : mAd b B (hN h) = H.size := by rw [mAd_of (by omega), hsz]
  obtain ⟨hx, hb, -, -, hown, hts, -, -, hKX, -, -, -, -, -⟩ := C
  refine va_newaK (atype := .byte) hx hb (hts _ hw) rfl hd rfl hn hNn (by show N * _ ≤ _; simp [componentBytes, newarray.typeOf]; omega) hc hs rfl fun H1 cA f1 z1 o1 hAr hNm => ?_
  have hra := (hKX.1.2 (13 - 13) _ (mTys_at aC (kd := 13) (by decide) (by decide))).2
  have hcA : cA = aC 13 := Option.some.inj (hNm.symm.trans hra)
  subst hcA
  have hmr : mR D aC b B L xs s (nw h 13 N) H1 locs := by
    refine mR_push (h := h) hz gR 1 rfl (scr_nw hz2).1 (scr_nw hz2).2 (fun i hi => mE_nw (by omega)) (fun j hj => ?_) z1 o1
    rw [show hN h + j = hN h by omega, had, mE_int (h := nw h 13 N) (n := N) (by rw [hK_nw, if_pos rfl]) (by decide)]
    show H1[H.size]? = some (vp_cell _ _)
    rw [f1, vp_cell_i]
    congr 2
    funext y
    rw [hI_nw, if_pos rfl]
    rfl
  have := kk H1 locs lsr hmr gL
  rw [List.map_cons] at this
  have e5 : mV b B (.ref (hN h)) = .ref H.size := by show Value.ref (mAd b B (hN h)) = _; rw [had]
  rw [e5] at this
  exact this
theorem wp_newI {n : Int32} {N : Nat} (hd : At M.2.1 pc (.newarray .int) 2 pc1) (hw : Cond.arrayClass .int ∈ mTbl) (hn : ¬ n < 0) (hNn : n.toNatClampNeg = N) (hm : N ≤ 60000000) (k9 : Wp M fr lo pc1 ls (.ref (hN h) :: st) (nw h 14 N) Q) : Wp M fr lo pc ls (.int n :: st) h Q := by
  obtain ⟨hd, rfl⟩ := hd
  refine wp_step (h1 := nw h 14 N) (Nat.le_succ (hN h)) (Nat.le_add_right (hU h) N) ?_ k9
  intro p l e R s m args below meth c D aC b B L xs H locs cells slots Q lsr C hz hc hs gR gL kk
  have e1 : cells + (hN (nw h 14 N) - hN h) = cells + 1 := by show cells + (hN h + 1 - hN h) = cells + 1; omega
  have e2 : slots + (hU (nw h 14 N) - hU h) = slots + N := by show slots + (hU h + N - hU h) = slots + N; omega
  rw [e1] at hc kk
  rw [e2] at hs kk
  have hz2 : hN h + 1 ≤ scrA := hz
  have hsz : H.size = B + hN h := gR.2.2.1
  have had : mAd b B (hN h) = H.size := by rw [mAd_of (by omega), hsz]
  obtain ⟨hx, hb, -, -, hown, hts, -, -, hKX, -, -, -, -, -⟩ := C
  refine va_newaK (atype := .int) hx hb (hts _ hw) rfl hd rfl hn hNn (by show N * _ ≤ _; simp [componentBytes, newarray.typeOf]; omega) hc hs rfl fun H1 cA f1 z1 o1 hAr hNm => ?_
  have hra := (hKX.1.2 (14 - 13) _ (mTys_at aC (kd := 14) (by decide) (by decide))).2
  have hcA : cA = aC 14 := Option.some.inj (hNm.symm.trans hra)
  subst hcA
  have hmr : mR D aC b B L xs s (nw h 14 N) H1 locs := by
    refine mR_push (h := h) hz gR 1 rfl (scr_nw hz2).1 (scr_nw hz2).2 (fun i hi => mE_nw (by omega)) (fun j hj => ?_) z1 o1
    rw [show hN h + j = hN h by omega, had, mE_int (h := nw h 14 N) (n := N) (by rw [hK_nw, if_pos rfl]) (by decide)]
    show H1[H.size]? = some (vp_cell _ _)
    rw [f1, vp_cell_i]
    congr 2
    funext y
    rw [hI_nw, if_pos rfl]
    rfl
  have := kk H1 locs lsr hmr gL
  rw [List.map_cons] at this
  have e5 : mV b B (.ref (hN h)) = .ref H.size := by show Value.ref (mAd b B (hN h)) = _; rw [had]
  rw [e5] at this
  exact this
theorem wp_newL {n : Int32} {N : Nat} (hd : At M.2.1 pc (.newarray .long) 2 pc1) (hw : Cond.arrayClass .long ∈ mTbl) (hn : ¬ n < 0) (hNn : n.toNatClampNeg = N) (hm : N ≤ 60000000) (k9 : Wp M fr lo pc1 ls (.ref (hN h) :: st) (nw h 15 N) Q) : Wp M fr lo pc ls (.int n :: st) h Q := by
  obtain ⟨hd, rfl⟩ := hd
  refine wp_step (h1 := nw h 15 N) (Nat.le_succ (hN h)) (Nat.le_add_right (hU h) N) ?_ k9
  intro p l e R s m args below meth c D aC b B L xs H locs cells slots Q lsr C hz hc hs gR gL kk
  have e1 : cells + (hN (nw h 15 N) - hN h) = cells + 1 := by show cells + (hN h + 1 - hN h) = cells + 1; omega
  have e2 : slots + (hU (nw h 15 N) - hU h) = slots + N := by show slots + (hU h + N - hU h) = slots + N; omega
  rw [e1] at hc kk
  rw [e2] at hs kk
  have hz2 : hN h + 1 ≤ scrA := hz
  have hsz : H.size = B + hN h := gR.2.2.1
  have had : mAd b B (hN h) = H.size := by rw [mAd_of (by omega), hsz]
  obtain ⟨hx, hb, -, -, hown, hts, -, -, hKX, -, -, -, -, -⟩ := C
  refine va_newaK (atype := .long) hx hb (hts _ hw) rfl hd rfl hn hNn (by show N * _ ≤ _; simp [componentBytes, newarray.typeOf]; omega) hc hs rfl fun H1 cA f1 z1 o1 hAr hNm => ?_
  have hra := (hKX.1.2 (15 - 13) _ (mTys_at aC (kd := 15) (by decide) (by decide))).2
  have hcA : cA = aC 15 := Option.some.inj (hNm.symm.trans hra)
  subst hcA
  have hmr : mR D aC b B L xs s (nw h 15 N) H1 locs := by
    refine mR_push (h := h) hz gR 1 rfl (scr_nw hz2).1 (scr_nw hz2).2 (fun i hi => mE_nw (by omega)) (fun j hj => ?_) z1 o1
    rw [show hN h + j = hN h by omega, had, mE_long (h := nw h 15 N) (n := N) (by rw [hK_nw, if_pos rfl]) ]
    show H1[H.size]? = some (vp_cell _ _)
    rw [f1, vp_cell_l]
    congr 2
    funext y
    rw [hL_nw, if_pos rfl]
    rfl
  have := kk H1 locs lsr hmr gL
  rw [List.map_cons] at this
  have e5 : mV b B (.ref (hN h)) = .ref H.size := by show Value.ref (mAd b B (hN h)) = _; rw [had]
  rw [e5] at this
  exact this
theorem wp_newZ {n : Int32} {N : Nat} (hd : At M.2.1 pc (.newarray .boolean) 2 pc1) (hw : Cond.arrayClass .boolean ∈ mTbl) (hn : ¬ n < 0) (hNn : n.toNatClampNeg = N) (hm : N ≤ 60000000) (k9 : Wp M fr lo pc1 ls (.ref (hN h) :: st) (nw h 16 N) Q) : Wp M fr lo pc ls (.int n :: st) h Q := by
  obtain ⟨hd, rfl⟩ := hd
  refine wp_step (h1 := nw h 16 N) (Nat.le_succ (hN h)) (Nat.le_add_right (hU h) N) ?_ k9
  intro p l e R s m args below meth c D aC b B L xs H locs cells slots Q lsr C hz hc hs gR gL kk
  have e1 : cells + (hN (nw h 16 N) - hN h) = cells + 1 := by show cells + (hN h + 1 - hN h) = cells + 1; omega
  have e2 : slots + (hU (nw h 16 N) - hU h) = slots + N := by show slots + (hU h + N - hU h) = slots + N; omega
  rw [e1] at hc kk
  rw [e2] at hs kk
  have hz2 : hN h + 1 ≤ scrA := hz
  have hsz : H.size = B + hN h := gR.2.2.1
  have had : mAd b B (hN h) = H.size := by rw [mAd_of (by omega), hsz]
  obtain ⟨hx, hb, -, -, hown, hts, -, -, hKX, -, -, -, -, -⟩ := C
  refine va_newaK (atype := .boolean) hx hb (hts _ hw) rfl hd rfl hn hNn (by show N * _ ≤ _; simp [componentBytes, newarray.typeOf]; omega) hc hs rfl fun H1 cA f1 z1 o1 hAr hNm => ?_
  have hra := (hKX.1.2 (16 - 13) _ (mTys_at aC (kd := 16) (by decide) (by decide))).2
  have hcA : cA = aC 16 := Option.some.inj (hNm.symm.trans hra)
  subst hcA
  have hmr : mR D aC b B L xs s (nw h 16 N) H1 locs := by
    refine mR_push (h := h) hz gR 1 rfl (scr_nw hz2).1 (scr_nw hz2).2 (fun i hi => mE_nw (by omega)) (fun j hj => ?_) z1 o1
    rw [show hN h + j = hN h by omega, had, mE_int (h := nw h 16 N) (n := N) (by rw [hK_nw, if_pos rfl]) (by decide)]
    show H1[H.size]? = some (vp_cell _ _)
    rw [f1, vp_cell_i]
    congr 2
    funext y
    rw [hI_nw, if_pos rfl]
    rfl
  have := kk H1 locs lsr hmr gL
  rw [List.map_cons] at this
  have e5 : mV b B (.ref (hN h)) = .ref H.size := by show Value.ref (mAd b B (hN h)) = _; rw [had]
  rw [e5] at this
  exact this
theorem wp_newR {kd idx : Nat} {n : Int32} {N : Nat} (hd : At M.2.1 pc (.anewarray idx) 3 pc1) (h1 : 17 ≤ kd) (h2 : kd < 21) (hw : Cond.classLink M.1.cls idx (mCn (mRc kd)) ∈ mTbl) (hn : ¬ n < 0) (hNn : n.toNatClampNeg = N) (hm : N ≤ 60000000) (k9 : Wp M fr lo pc1 ls (.ref (hN h) :: st) (nw h kd N) Q) : Wp M fr lo pc ls (.int n :: st) h Q := by
  obtain ⟨hd, rfl⟩ := hd
  subst hNn
  refine wp_step (h1 := nw h kd n.toNatClampNeg) (Nat.le_succ (hN h)) (Nat.le_add_right (hU h) n.toNatClampNeg) ?_ k9
  intro p l e R s m args below meth c D aC b B L xs H locs cells slots Q lsr C hz hc hs gR gL kk
  have e1 : cells + (hN (nw h kd n.toNatClampNeg) - hN h) = cells + 1 := by show cells + (hN h + 1 - hN h) = cells + 1; omega
  have e2 : slots + (hU (nw h kd n.toNatClampNeg) - hU h) = slots + n.toNatClampNeg := by show slots + (hU h + n.toNatClampNeg - hU h) = slots + n.toNatClampNeg; omega
  rw [e1] at hc kk
  rw [e2] at hs kk
  have hz2 : hN h + 1 ≤ scrA := hz
  have hsz : H.size = B + hN h := gR.2.2.1
  have had : mAd b B (hN h) = H.size := by rw [mAd_of (by omega), hsz]
  obtain ⟨hx, hb, -, -, hown, hts, -, -, hKX, -, -, -, -, -⟩ := C
  obtain ⟨hty, hci⟩ := mRc_ok h1 h2
  have hover : va_AO (mCn (mRc kd)) s := hKX.2.2.1 _ (by
    match kd, h1, h2 with
    | 17, _, _ => exact List.mem_of_getElem? (i := 0) rfl
    | 18, _, _ => exact List.mem_of_getElem? (i := 1) rfl
    | 19, _, _ => exact List.mem_of_getElem? (i := 2) rfl
    | 20, _, _ => exact List.mem_of_getElem? (i := 3) rfl
    | n + 21, _, h => omega)
  refine W.anew hx hb hown (hts _ hw) (va_AO.use hover) rfl hd rfl hn (by omega) hc hs fun cA kA comp f1 f2 f3 f4 => ?_
  generalize hH1 : H.push ({ cls := cA, slots := Array.replicate n.toNatClampNeg .null, vm := .none } : Cell) = H1
  have z1 : H1.size = H.size + 1 := by rw [← hH1, Array.size_push]
  have q1 : H1[H.size]? = some (arrV cA n.toNatClampNeg (fun _ => .null)) := by rw [← hH1, Array.getElem?_push_size, ← arrV_new]
  have o1 : ∀ q : Nat, q < H.size → H1[q]? = H[q]? := fun q hq => by rw [← hH1, Array.getElem?_push, if_neg (Nat.ne_of_lt hq)]
  have hra := (hKX.1.2 (kd - 13) _ (mTys_at aC (by omega) (by omega))).2
  rw [show ((aC kd, mAy kd) : ClassId × FieldType).2 = .object (mCn (mRc kd)) from hty] at hra
  obtain ⟨kA', comp', g1, g2, g3, g4⟩ := hra
  have hcA : cA = aC kd := Option.some.inj (f1.symm.trans g4)
  subst hcA
  have hmr : mR D aC b B L xs s (nw h kd n.toNatClampNeg) H1 locs := by
    refine mR_push (h := h) hz gR 1 rfl (scr_nw hz2).1 (scr_nw hz2).2 (fun i hi => mE_nw (by omega)) (fun j hj => ?_) z1 o1
    rw [show hN h + j = hN h by omega, had, mE_ref (h := nw h kd n.toNatClampNeg) (n := n.toNatClampNeg) (by rw [hK_nw, if_pos rfl]) h1]
    show H1[H.size]? = some (vp_cell _ _)
    rw [q1, vp_cell_q]
    congr 2
    funext y
    rw [hR_nw, if_pos rfl]
    rfl
  have := kk H1 locs lsr hmr gL
  rw [List.map_cons] at this
  have e5 : mV b B (.ref (hN h)) = .ref H.size := by show Value.ref (mAd b B (hN h)) = _; rw [had]
  rw [e5] at this
  exact this
/-- a cast of a row to its own class -/
theorem wp_castA {a n kd idx : Nat} (hd : At M.2.1 pc (.checkcast idx) 3 pc1) (ha : hA h a kd n) (hk : kd = 14 ∨ kd = 15) (hw : Cond.classLink M.1.cls idx ("[" ++ (mAy kd).toString) ∈ mTbl) (k9 : Wp M fr lo pc1 ls (.ref a :: st) h Q) : Wp M fr lo pc ls (.ref a :: st) h Q := by
  obtain ⟨hd, rfl⟩ := hd
  refine wp_pure (fun p l e R s m args below meth c D aC b B L xs H locs cells slots Q lsr C hz gR gL kk => ?_) k9
  have hra := ((mK_of C).2 (kd - 13) _ (mTys_at aC (kd := kd) (by omega) (by omega))).2
  have h0 := mW_at aC (mAd b B) h ha.1
  rcases hk with rfl | rfl
  · rw [mE_int ha.2 (by decide)] at h0
    exact va_castA (D := D) (cl := vwCl) C.1 C.2.1 C.2.2.2.2.1 (C.2.2.2.2.2.1 _ hw) gR.1 a h0 hra hd kk
  · rw [mE_long ha.2] at h0
    exact va_castA (D := D) (cl := vwCl) C.1 C.2.1 C.2.2.2.2.1 (C.2.2.2.2.2.1 _ hw) gR.1 a h0 hra hd kk
theorem wp_objInit {a idx : Nat} (hd : At M.2.1 pc (.invokespecial idx) 3 pc1) (hw : Cond.methodLink M.1.cls idx objectInit ∈ mTbl) (hw2 : Cond.instanceMethod objectInit ∈ mTbl) (hw3 : Cond.code objectInit ⟨#[0xb1]⟩ 1 none ∈ mTbl) (hst : (st.map fun v => v.category).sum + 12 ≤ lo) (hfr : 1 ≤ fr) (k9 : Wp M fr lo pc1 ls st h Q) : Wp M fr lo pc ls (.ref a :: st) h Q := by
  obtain ⟨hd, rfl⟩ := hd
  refine wp_pure (fun p l e R s m args below meth c D aC b B L xs H locs cells slots Q lsr C hz gR gL kk => ?_) k9
  obtain ⟨hx, hb, -, hml, hown, hts, -, -, hKX, -, -, -, hf, hl⟩ := C
  have hcat : ((st.map (mV b B)).map fun v => v.category).sum = (st.map fun v => v.category).sum := by
    rw [List.map_map]
    congr 1
    apply List.map_congr_left
    intro v _
    exact mV_cat b B v
  exact W.objInit hx hb hown (hts _ hw) (hts _ hw2) (hts _ hw3) rfl (by rw [hml]; exact gL.1) rfl hd (by omega) (by rw [hcat]; show 2 * 0 + _ + 12 ≤ _; omega) kk
/-! ===== returns ===== -/
theorem wp_ret {r : Option Value} (hd : decode M.2.1 pc = .ok (mRi r, 1)) (hok : mOk M.2.2.2 r) (hs : r.toList = st) (hq : Q r h) : Wp M fr lo pc ls st h Q := by
  subst hs
  refine ⟨r, h, ⟨⟨Nat.le_refl _, Nat.le_refl _⟩, ?_⟩, hq⟩
  intro p l e R s m args below meth c D aC b B L xs H locs cells slots Q lsr C hz hc hs hR hL fin
  have e1 : cells + (hN h - hN h) = cells := by omega
  have e2 : slots + (hU h - hU h) = slots := by omega
  rw [e1, e2] at fin
  exact fin H locs pc lsr hR hok hd
theorem wp_vreturn (hd : At M.2.1 pc (.return_) 1 pc1) (hr : M.2.2.2 = none) (hq : Q none h) : Wp M fr lo pc ls [] h Q := wp_ret (r := none) hd.1 (by rw [hr]; trivial) rfl hq
theorem wp_ireturn {v : Int32} (hd : At M.2.1 pc (.ireturn) 1 pc1) (hr : M.2.2.2 = some .int) (hq : Q (some (.int v)) h) : Wp M fr lo pc ls [.int v] h Q := wp_ret (r := some (.int v)) hd.1 (by rw [hr]; trivial) rfl hq
theorem wp_zreturn {v : Int32} (hd : At M.2.1 pc (.ireturn) 1 pc1) (hr : M.2.2.2 = some .boolean) (hv : v = 0 ∨ v = 1) (hq : Q (some (.int v)) h) : Wp M fr lo pc ls [.int v] h Q := wp_ret (r := some (.int v)) hd.1 (by rw [hr]; rcases hv with rfl | rfl <;> (show narrow .boolean (.int _) = .int _; decide +kernel)) rfl hq
theorem wp_lreturn {v : Int64} (hd : At M.2.1 pc (.lreturn) 1 pc1) (hr : M.2.2.2 = some .long) (hq : Q (some (.long v)) h) : Wp M fr lo pc ls [.long v] h Q := wp_ret (r := some (.long v)) hd.1 (by rw [hr]; trivial) rfl hq
theorem wp_areturn {a : Nat} (hd : At M.2.1 pc (.areturn) 1 pc1) (hr : (∃ C, M.2.2.2 = some (.object C)) ∨ ∃ C, M.2.2.2 = some (.array C)) (hq : Q (some (.ref a)) h) : Wp M fr lo pc ls [.ref a] h Q := wp_ret (r := some (.ref a)) hd.1 (by rcases hr with ⟨C, hr⟩ | ⟨C, hr⟩ <;> rw [hr] <;> trivial) rfl hq
theorem wp_areturnN (hd : At M.2.1 pc (.areturn) 1 pc1) (hr : (∃ C, M.2.2.2 = some (.object C)) ∨ ∃ C, M.2.2.2 = some (.array C)) (hq : Q (some .null) h) : Wp M fr lo pc ls [.null] h Q := wp_ret (r := some .null) hd.1 (by rcases hr with ⟨C, hr⟩ | ⟨C, hr⟩ <;> rw [hr] <;> trivial) rfl hq
end RulesD
