/-! ===== what is learnt ===== -/
def shR (h : mH) (r : Nat → Int64) (f : Nat) : Prop := ∀ w, w < 44 → hL h 181 w = lN (shV r f w)
theorem shR.fr {h h1 : mH} {r : Nat → Int64} {f : Nat} {F A : List Nat} (q : shR h r f) (g : mFr (mP F A) h h1) (_q1 : 999 ∉ F) (q2 : 153 ∉ A ∧ 181 ∉ A) : shR h1 r f := by
  unfold shR
  rw [g.Lr (by decide) q2.2]
  exact q
theorem shA_all {r : Nat → Int64} {f p i : Nat} (hp : p < rP r) (hi : i < rM r f p) : (shA r f (rP r) 0).1 ≤ rB r f p i - rA r f p i := by
  have := (shA_le (r := r) (ptU r f (rP r) ++ ptI r f (rP r) 0) (41, 0, 0, 0)).2 (p, rA r f p i, rB r f p i) (List.mem_append.mpr (Or.inl ((pt_mem _).mpr ⟨p, i, hp, hi, rfl⟩)))
  exact this
theorem shA_bd3 {r : Nat → Int64} {F : Nat} {pa my : Nat → Int32} {f : Nat} (hd : sOK r F pa my) (hf : f < F) : (shA r f (rP r) 0).1 ≤ 41 ∧ (shA r f (rP r) 0).2.1 ≤ 41 ∧ (shA r f (rP r) 0).2.2.1 < 8 ∧ (shA r f (rP r) 0).2.2.2 < 8 := by
  have hF4 := hd.f4
  have hP6 := hd.w.1.2
  refine shA_bd _ _ (by decide) (by decide) (by decide) (by decide) (fun x hx => ?_)
  rcases List.mem_append.mp hx with h | h
  · obtain ⟨q, j, h1, h2, h3⟩ := (pt_mem _).mp h
    have h4 := (hd.w.2.2 f q (by omega) (by omega)).1.2
    have h5 := (hd.ab f q j (by omega) (by omega) (by omega)).2
    have h6 := (hd.w.2.1 q (by omega)).2
    subst h3
    show rB r f q j - rA r f q j ≤ 41
    omega
  · cases h
theorem ka_pos {r : Nat → Int64} {f k : Nat} (h : exE r f ≠ 0) : kaA r f k (rP r) 0 ≠ 0 ∧ kaA r f k (rP r) 0 ≤ 4 := by
  have h1 := kaA_bd (r := r) (k := k) (ptU r f (rP r) ++ ptI r f (rP r) 0) 0 (by omega)
  refine ⟨h1.2 (Or.inr (fun e => ?_)), h1.1⟩
  obtain ⟨p, hp⟩ := Nat.exists_testBit_of_ne_zero h
  have h2 := exE_tb hp
  have h3 : (p, rA r f p 0, rB r f p 0) ∈ ptU r f (rP r) ++ ptI r f (rP r) 0 := List.mem_append.mpr (Or.inl ((pt_mem _).mpr ⟨p, 0, h2.1, h2.2, rfl⟩))
  rw [e] at h3
  cases h3
theorem shV_le {r : Nat → Int64} {F : Nat} {pa my : Nat → Int32} {f w : Nat} (hd : sOK r F pa my) (hf : f < F) : shV r f w ≤ 41 := by
  have h := shA_bd3 hd hf
  have h1 := (kaA_bd (r := r) (k := w - 4) (ptU r f (rP r) ++ ptI r f (rP r) 0) 0 (by omega)).1
  unfold shV kaA
  repeat' split
  all_goals omega
set_option maxRecDepth 20000 in
theorem shape_out {h : mH} {Q : Option Value → mH → Prop} {r : Nat → Int64} {F : Nat} {pa my : Nat → Int32} {f : Nat} {x3 x4 : Option Value} {U : Nat → Int64} (hc : mC h r F pa my) (hd : sOK r F pa my) (nx : numX r h) (hf : f < F) (e1 : hL h 181 = U) (hT0 : U 0 = lN (shA r f 0 0).1) (hT1 : U 1 = lN (shA r f 0 0).2.1) (hT2 : U 2 = lN (shA r f 0 0).2.2.1) (hT3 : U 3 = lN (shA r f 0 0).2.2.2) (K9 : ∀ k x3 x4 h1 U, mFr (mP [] [181]) h h1 → mC h1 r F pa my → numX r h1 → hL h1 181 = U → U 0 = lN (shA r f (rP r) 0).1 → U 1 = lN (shA r f (rP r) 0).2.1 → U 2 = lN (shA r f (rP r) 0).2.2.1 → U 3 = lN (shA r f (rP r) 0).2.2.2 → Wp mX12_laysShape 3 70 177 [some (.ref 153), some (.int (nI f)), some (.int (nI k)), x3, x4] [] h1 Q) : Wp mX12_laysShape 3 70 32 [some (.ref 153), some (.int (nI f)), some (.int (nI 0)), x3, x4] [] h Q := by
  have hF4 := hd.f4
  have hP6 := hd.w.1.2
  have hloop : ∀  (t : Nat) (p : Nat) (x3 : Option Value) (x4 : Option Value) (h1 : mH) (U : Nat → Int64), (p ≤ rP r) → (mC h1 r F pa my) → (numX r h1) → (mFr (mP [] [181]) h h1) → (hL h1 181 = U) → (U 0 = lN (shA r f p 0).1) → (U 1 = lN (shA r f p 0).2.1) → (U 2 = lN (shA r f p 0).2.2.1) → (U 3 = lN (shA r f p 0).2.2.2) → (rP r < p + t) → Wp mX12_laysShape 3 70 32 [some (.ref 153), some (.int (nI f)), some (.int (nI p)), x3, x4] [] h1 Q := by
    intro t
    induction t with
    | zero => intros; omega
    | succ t ih =>
      intro p x3 x4 h1 U hp hc1 nx1 hf1 e1 hT0 hT1 hT2 hT3 hmz
      refine wp_iload_n dX12_laysShape_32 rfl rfl ?_
      refine wp_aload_n dX12_laysShape_33 rfl rfl ?_
      refine wp_cV0 0 0 [some _] dX12_laysShape_34 tX12_pages rfl (by decide) nX12_pages vX12_pages lX12_255 ⟨by decide, by decide⟩ (Nat.le_of_ble_eq_true rfl) (mO hc1.1) (Nat.le_of_ble_eq_true rfl) rfl ?_
      refine pX12_pages' hc1 hd ?_
      intro _ _
      refine wp_icmp_geN dX12_laysShape_37 rfl rfl ⟨by omega, by omega⟩ (fun c1 => ?_) (fun c1 => ?_)
      · have e9 : p = rP r := by omega
        subst e9
        exact K9 _ _ _ _ _ hf1 hc1 nx1 e1 hT0 hT1 hT2 hT3
      · refine wp_iconst (v := (nI 0)) dX12_laysShape_40 (by decide +kernel) ?_
        refine wp_istore_n (ls1 := [_, _, _, some _, _]) dX12_laysShape_41 rfl (by decide) rfl ?_
        refine shape_in hc1 hd nx1 hf (by omega) e1 hT0 hT1 hT2 hT3 (fun x1 hh1 U1 f1 mc1 nx1 eU1 q0 q1 q2 q3 => ?_)
        refine wp_iinc1 (ls1 := [_, _, some _, _, _]) dX12_laysShape_171 rfl (by decide) rfl ?_
        refine wp_goto dX12_laysShape_174 ?_
        exact ih (p + 1) _ _ _ _ (by omega) mc1 nx1 ((hf1.up (by decide) (by decide)).tr (f1.up (by decide) (by decide))) eU1 (by rw [show shA r f (p + 1) 0 = shA r f p (rM r f p) from fo_p]; exact q0) (by rw [show shA r f (p + 1) 0 = shA r f p (rM r f p) from fo_p]; exact q1) (by rw [show shA r f (p + 1) 0 = shA r f p (rM r f p) from fo_p]; exact q2) (by rw [show shA r f (p + 1) 0 = shA r f p (rM r f p) from fo_p]; exact q3) (by omega)
  exact hloop (rP r + 1) 0 x3 x4 h U (by omega) hc nx mFr.rf e1 hT0 hT1 hT2 hT3 (by omega)
theorem shV_k {r : Nat → Int64} {f k : Nat} : shV r f (4 + k) = if k < shV r f 0 then kaA r f k (rP r) 0 - 1 else 0 := by
  have e : 4 + k - 4 = k := by omega
  show (if _ then _ else _) = _
  rw [if_neg (by omega), if_neg (by omega), if_neg (by omega), if_neg (by omega), e]
  rfl
set_option maxRecDepth 20000 in
theorem shape_kinds {h : mH} {Q : Option Value → mH → Prop} {r : Nat → Int64} {F : Nat} {pa my : Nat → Int32} {f : Nat} {x3 x4 : Option Value} {U : Nat → Int64} (hc : mC h r F pa my) (hd : sOK r F pa my) (nx : numX r h) (hf : f < F) (hne : exE r f ≠ 0) (e1 : hL h 181 = U) (hU : ∀ w, w < 4 → U w = lN (shV r f w)) (hq : ∀ h', mFr (mP [] [181]) h h' → shR h' r f → Q none h') : Wp mX12_laysShape 3 70 179 [some (.ref 153), some (.int (nI f)), some (.int (nI 0)), x3, x4] [] h Q := by
  have hF4 := hd.f4
  have hP6 := hd.w.1.2
  have hs9 := shV_le (w := 0) hd hf
  have hloop : ∀  (t : Nat) (k : Nat) (x3 : Option Value) (x4 : Option Value) (h1 : mH) (U : Nat → Int64), (k ≤ 40) → (mC h1 r F pa my) → (numX r h1) → (mFr (mP [] [181]) h h1) → (hL h1 181 = U) → (∀ w, w < 4 + k → U w = lN (shV r f w)) → (40 < k + t) → Wp mX12_laysShape 3 70 179 [some (.ref 153), some (.int (nI f)), some (.int (nI k)), x3, x4] [] h1 Q := by
    intro t
    induction t with
    | zero => intros; omega
    | succ t ih =>
      intro k x3 x4 h1 U hk hc1 nx1 hf1 e1 hU hmz
      refine wp_iload_n dX12_laysShape_179 rfl rfl ?_
      refine wp_bipush (v := (nI 40)) dX12_laysShape_180 (by decide +kernel) ?_
      refine wp_icmp_geN dX12_laysShape_182 rfl rfl ⟨by omega, by omega⟩ (fun c1 => ?_) (fun c1 => ?_)
      · refine wp_vreturn dX12_laysShape_222 rfl ?_
        have e9 : k = 40 := by omega
        subst e9
        exact hq _ hf1 (fun w hw => (congrFun e1 w).trans (hU w (by omega)))
      · refine wp_aload_n dX12_laysShape_185 rfl rfl ?_
        refine wp_getR dX12_laysShape_186 lX12_101 rfl (mO hc1.1) (mR_shape hc1.1) ?_
        refine wp_iconst (v := (nI 4)) dX12_laysShape_189 (by decide +kernel) ?_
        refine wp_iload_n dX12_laysShape_190 rfl rfl ?_
        refine wp_iadd dX12_laysShape_191 ?_
        refine wp_iload_n dX12_laysShape_192 rfl rfl ?_
        refine wp_i2l dX12_laysShape_193 ?_
        refine wp_aload_n dX12_laysShape_194 rfl rfl ?_
        refine wp_getR dX12_laysShape_195 lX12_101 rfl (mO hc1.1) (mR_shape hc1.1) ?_
        refine wp_iconst (v := (nI 0)) dX12_laysShape_198 (by decide +kernel) ?_
        refine wp_laldV dX12_laysShape_199 (mA_shape hc1.1) rfl ⟨by omega, by decide⟩ ((congrFun e1 0).trans (hU 0 (by omega))) ?_
        rw [nI_l (by omega)]
        refine wp_lc_ge dX12_laysShape_200 dX12_laysShape_201 (fun c2 => ?_) (fun c2 => ?_)
        · refine wp_lconst (v := 0) dX12_laysShape_214 (by decide +kernel) ?_
          refine wp_lastN dX12_laysShape_215 (mA_shape hc1.1) (isN_add rfl rfl) ⟨by omega, by decide⟩ ?_
          refine sealAL e1 (fun hh1 f1 e1 => ?_)
          have mc1 := hc1.fr f1 (by decide) (by decide) (by decide) (by decide) (by decide)
          have nx1 := nx1.fr f1 (by decide) (by decide)
          refine wp_iinc1 (ls1 := [_, _, some _, _, _]) dX12_laysShape_216 rfl (by decide) rfl ?_
          refine wp_goto dX12_laysShape_219 ?_
          refine ih (k + 1) _ _ _ _ (by omega) mc1 nx1 ((hf1.up (by decide) (by decide)).tr (f1.up (by decide) (by decide))) e1 ?_ (by omega)
          intro w hw
          by_cases e9 : w = 4 + k
          · subst e9
            rw [up1_at, shV_k]
            first | (rw [if_neg (show ¬ k < shV r f 0 from fun z9 => absurd ((pk_lLE (by omega) (by omega)).mp (by assumption : lN (shV r f 0) ≤ lN k)) (by omega))]; rfl) | (rw [if_pos (show k < shV r f 0 from Nat.lt_of_not_le (fun z9 => (by assumption : ¬ lN (shV r f 0) ≤ lN k) ((pk_lLE (by omega) (by omega)).mpr z9)))]; have h9 := ka_pos (k := k) hne; rw [show itm (kaA r f k (rP r) 0) = nI (kaA r f k (rP r) 0 - 1) from if_neg h9.1, nI_l (by omega)])
          · rw [up1_ne e9]
            exact hU w (by omega)
        · refine wp_aload_n dX12_laysShape_204 rfl rfl ?_
          refine wp_iload_n dX12_laysShape_205 rfl rfl ?_
          refine wp_iload_n dX12_laysShape_206 rfl rfl ?_
          refine wp_cV2 2 44 [some _, some _, some _, none, none, none, none] dX12_laysShape_207 tX12_kindAll rfl (by decide) nX12_kindAll vX12_kindAll lX12_454 ⟨by decide, by decide⟩ (Nat.le_of_ble_eq_true rfl) (mO hc1.1) (Nat.le_of_ble_eq_true rfl) rfl ?_
          refine pX12_kindAll hc1 hd nx1 hf (fun p9 i9 hp9 hi9 => by have h9 := shA_all hp9 hi9; have h8 : ¬ shV r f 0 ≤ k := fun z9 => (by assumption : ¬ lN (shV r f 0) ≤ lN k) ((pk_lLE (by omega) (by omega)).mpr z9); have h7 : shV r f 0 = (shA r f (rP r) 0).1 := rfl; omega) ?_
          intro _ _
          refine wp_i2l dX12_laysShape_210 ?_
          refine wp_goto dX12_laysShape_211 ?_
          refine wp_lastN dX12_laysShape_215 (mA_shape hc1.1) (isN_add rfl rfl) ⟨by omega, by decide⟩ ?_
          refine sealAL e1 (fun hh2 f2 e2 => ?_)
          have mc2 := hc1.fr f2 (by decide) (by decide) (by decide) (by decide) (by decide)
          have nx2 := nx1.fr f2 (by decide) (by decide)
          refine wp_iinc1 (ls1 := [_, _, some _, _, _]) dX12_laysShape_216 rfl (by decide) rfl ?_
          refine wp_goto dX12_laysShape_219 ?_
          refine ih (k + 1) _ _ _ _ (by omega) mc2 nx2 ((hf1.up (by decide) (by decide)).tr (f2.up (by decide) (by decide))) e2 ?_ (by omega)
          intro w hw
          by_cases e9 : w = 4 + k
          · subst e9
            rw [up1_at, shV_k]
            first | (rw [if_neg (show ¬ k < shV r f 0 from fun z9 => absurd ((pk_lLE (by omega) (by omega)).mp (by assumption : lN (shV r f 0) ≤ lN k)) (by omega))]; rfl) | (rw [if_pos (show k < shV r f 0 from Nat.lt_of_not_le (fun z9 => (by assumption : ¬ lN (shV r f 0) ≤ lN k) ((pk_lLE (by omega) (by omega)).mpr z9)))]; have h9 := ka_pos (k := k) hne; rw [show itm (kaA r f k (rP r) 0) = nI (kaA r f k (rP r) 0 - 1) from if_neg h9.1, nI_l (by omega)])
          · rw [up1_ne e9]
            exact hU w (by omega)
  exact hloop 41 0 x3 x4 h U (by omega) hc nx mFr.rf e1 hU (by omega)
set_option maxRecDepth 20000 in
theorem pX12_laysShape {h : mH} {Q : Option Value → mH → Prop} {r : Nat → Int64} {F : Nat} {pa my : Nat → Int32} {f : Nat} (hc : mC h r F pa my) (hd : sOK r F pa my) (nx : numX r h) (hf : f < F) (hne : exE r f ≠ 0) (hq : ∀ h', mFr (mP [] [181]) h h' → shR h' r f → Q none h') : Wp mX12_laysShape 3 70 0 [some (.ref 153), some (.int (nI f)), none, none, none] [] h Q := by
  have hF4 := hd.f4
  have hP6 := hd.w.1.2
  refine wp_aload_n dX12_laysShape_0 rfl rfl ?_
  refine wp_getR dX12_laysShape_1 lX12_101 rfl (mO hc.1) (mR_shape hc.1) ?_
  refine wp_iconst (v := (nI 0)) dX12_laysShape_4 (by decide +kernel) ?_
  refine wp_ldc2 dX12_laysShape_5 lX12_446 ?_
  refine wp_lastN dX12_laysShape_8 (mA_shape hc.1) rfl ⟨by omega, by decide⟩ ?_
  refine sealAL rfl (fun hh1 f1 e1 => ?_)
  have mc1 := hc.fr f1 (by decide) (by decide) (by decide) (by decide) (by decide)
  have nx1 := nx.fr f1 (by decide) (by decide)
  refine wp_aload_n dX12_laysShape_9 rfl rfl ?_
  refine wp_getR dX12_laysShape_10 lX12_101 rfl (mO mc1.1) (mR_shape mc1.1) ?_
  refine wp_iconst (v := (nI 1)) dX12_laysShape_13 (by decide +kernel) ?_
  refine wp_lconst (v := 0) dX12_laysShape_14 (by decide +kernel) ?_
  refine wp_lastN dX12_laysShape_15 (mA_shape mc1.1) rfl ⟨by omega, by decide⟩ ?_
  refine sealAL e1 (fun hh2 f2 e2 => ?_)
  have mc2 := mc1.fr f2 (by decide) (by decide) (by decide) (by decide) (by decide)
  have nx2 := nx1.fr f2 (by decide) (by decide)
  refine wp_aload_n dX12_laysShape_16 rfl rfl ?_
  refine wp_getR dX12_laysShape_17 lX12_101 rfl (mO mc2.1) (mR_shape mc2.1) ?_
  refine wp_iconst (v := (nI 2)) dX12_laysShape_20 (by decide +kernel) ?_
  refine wp_lconst (v := 0) dX12_laysShape_21 (by decide +kernel) ?_
  refine wp_lastN dX12_laysShape_22 (mA_shape mc2.1) rfl ⟨by omega, by decide⟩ ?_
  refine sealAL e2 (fun hh3 f3 e3 => ?_)
  have mc3 := mc2.fr f3 (by decide) (by decide) (by decide) (by decide) (by decide)
  have nx3 := nx2.fr f3 (by decide) (by decide)
  refine wp_aload_n dX12_laysShape_23 rfl rfl ?_
  refine wp_getR dX12_laysShape_24 lX12_101 rfl (mO mc3.1) (mR_shape mc3.1) ?_
  refine wp_iconst (v := (nI 3)) dX12_laysShape_27 (by decide +kernel) ?_
  refine wp_lconst (v := 0) dX12_laysShape_28 (by decide +kernel) ?_
  refine wp_lastN dX12_laysShape_29 (mA_shape mc3.1) rfl ⟨by omega, by decide⟩ ?_
  refine sealAL e3 (fun hh4 f4 e4 => ?_)
  have mc4 := mc3.fr f4 (by decide) (by decide) (by decide) (by decide) (by decide)
  have nx4 := nx3.fr f4 (by decide) (by decide)
  refine wp_iconst (v := (nI 0)) dX12_laysShape_30 (by decide +kernel) ?_
  refine wp_istore_n (ls1 := [_, _, some _, _, _]) dX12_laysShape_31 rfl (by decide) rfl ?_
  refine shape_out mc4 hd nx4 hf e4 (by unfold up1; rfl) (by unfold up1; rfl) (by unfold up1; rfl) (by unfold up1; rfl) (fun k5 x3 x4 hh5 U5 f5 mc5 nx5 eU5 q0 q1 q2 q3 => ?_)
  refine wp_iconst (v := (nI 0)) dX12_laysShape_177 (by decide +kernel) ?_
  refine wp_istore_n (ls1 := [_, _, some _, _, _]) dX12_laysShape_178 rfl (by decide) rfl ?_
  refine shape_kinds mc5 hd nx5 hf hne eU5 (fun w hw => ?_) (fun hh f9 s9 => hq _ ((((((f1.up (by decide) (by decide)).tr (f2.up (by decide) (by decide))).tr (f3.up (by decide) (by decide))).tr (f4.up (by decide) (by decide))).tr (f5.up (by decide) (by decide))).tr f9) s9)
  rcases (by omega : w = 0 ∨ w = 1 ∨ w = 2 ∨ w = 3) with e | e | e | e <;> subst e
  · exact q0
  · exact q1
  · exact q2
  · exact q3
def staE (r : Nat → Int64) (f : Nat) (L : List Nat) : Prop := L.length = lrN r f ∧ (∀ k, k < L.length → ∀ w, w < 4 → itm (kI (L.getD k 0) w) = lrI r f k w) ∧ ∀ w, w < 44 → shV r f w = lrS r f w
def spStale (r : Nat → Int64) (F : Nat) (pa my : Nat → Int32) (x v : Int32) : Prop := match ix x F with
  | some f => if r (655 + 70 * f) = 0 ∨ exE r f = 0 then v = -1 else ∃ L hop, coP r pa my f (exE r f) L hop ∧ ((staE r f L ∧ v = nI 0) ∨ (¬ staE r f L ∧ v = nI 1))
  | none => v = -1
set_option maxRecDepth 20000 in
theorem stale_in {h : mH} {Q : Option Value → mH → Prop} {r : Nat → Int64} {F : Nat} {pa my : Nat → Int32} {f S n : Nat} {K O : Nat → Nat} {L : List Nat} {x3 : Option Value} (hc : mC h r F pa my) (hd : sOK r F pa my) (hf : f < F) (rl : ruL h r pa my f S n K O) (cv : cvR h n K L) (K0 : ¬ (∀ k9, k9 < L.length → ∀ w, w < 4 → itm (kI (L.getD k9 0) w) = lrI r f k9 w) → Q (some (.int (nI 1))) h) (K1 : ∀ x, (∀ k9, k9 < L.length → ∀ w, w < 4 → itm (kI (L.getD k9 0) w) = lrI r f k9 w) → Wp mX12_stale 8 200 106 [some (.ref 153), some (.int (nI f)), some (.int (nI L.length)), x] [] h Q) : Wp mX12_stale 8 200 52 [some (.ref 153), some (.int (nI f)), some (.int (nI 0)), x3] [] h Q := by
  have hF4 := hd.f4
  have hL6 := cv.2.1
  have hn9 := rl.2.1
  have hloop : ∀  (t : Nat) (k : Nat) (x3 : Option Value), (k ≤ L.length) → ((∀ k9, k9 < k → ∀ w, w < 4 → itm (kI (L.getD k9 0) w) = lrI r f k9 w)) → (L.length < k + t) → Wp mX12_stale 8 200 52 [some (.ref 153), some (.int (nI f)), some (.int (nI k)), x3] [] h Q := by
    intro t
    induction t with
    | zero => intros; omega
    | succ t ih =>
      intro k x3 hk hall hmz
      refine wp_iload_n dX12_stale_52 rfl rfl ?_
      refine wp_aload_n dX12_stale_53 rfl rfl ?_
      refine wp_getIV dX12_stale_54 lX12_425 rfl (mO hc.1) cv.1 ?_
      refine wp_icmp_geN dX12_stale_57 rfl rfl ⟨by omega, by omega⟩ (fun c1 => ?_) (fun c1 => ?_)
      · have e9 : k = L.length := by omega
        subst e9
        exact K1 _ hall
      · obtain ⟨x9, hx9, ex9, kx9⟩ := cv.2.2 k (by omega)
        refine wp_iconst (v := (nI 0)) dX12_stale_60 (by decide +kernel) ?_
        refine wp_istore_n (ls1 := [_, _, _, some _]) dX12_stale_61 rfl (by decide) rfl ?_
        refine wp_iload_n dX12_stale_62 rfl rfl ?_
        refine wp_iconst (v := (nI 4)) dX12_stale_63 (by decide +kernel) ?_
        refine wp_icmp_ge dX12_stale_64 (fun q => absurd q (by decide +kernel)) (fun _ => ?_)
        refine wp_aload_n dX12_stale_67 rfl rfl ?_
        refine wp_getR dX12_stale_68 lX12_70 rfl (mO hc.1) (mR_key hc.1) ?_
        refine wp_aload_n dX12_stale_71 rfl rfl ?_
        refine wp_getR dX12_stale_72 lX12_98 rfl (mO hc.1) (mR_coverRule hc.1) ?_
        refine wp_iload_n dX12_stale_75 rfl rfl ?_
        refine wp_ialdV dX12_stale_76 (mA_coverRule hc.1) rfl ⟨by omega, by decide⟩ ex9 ?_
        refine wp_laldV dX12_stale_77 (mA_key hc.1) rfl ⟨by omega, by decide⟩ (rl.2.2.1 x9 (by omega)).1.1 ?_
        refine wp_iload_n dX12_stale_78 rfl rfl ?_
        refine wp_cS2 0 0 [some _, none, some _] dX12_stale_79 tX12_itemOf sX12_itemOf lX12_403 ⟨by decide, by decide⟩ (Nat.le_of_ble_eq_true rfl) (Nat.le_of_ble_eq_true rfl) rfl ?_
        refine pX12_itemOf (rl.2.2.1 x9 hx9).1.2 (by omega) ?_
        intro _ _
        refine wp_aload_n dX12_stale_82 rfl rfl ?_
        refine wp_iload_n dX12_stale_83 rfl rfl ?_
        refine wp_iload_n dX12_stale_84 rfl rfl ?_
        refine wp_iload_n dX12_stale_85 rfl rfl ?_
        refine wp_cV3 1 20 [some _, some _, some _, some _] dX12_stale_86 tX12_learntItem rfl (by decide) nX12_learntItem vX12_learntItem lX12_472 ⟨by decide, by decide⟩ (Nat.le_of_ble_eq_true rfl) (mO hc.1) (Nat.le_of_ble_eq_true rfl) rfl ?_
        refine pX12_learntItem' hc hd (by omega) (by omega) (by omega) ?_
        intro _ _
        refine wp_icmp_eq dX12_stale_89 (fun c3 => ?_) (fun c3 => ?_)
        · refine wp_iinc1 (ls1 := [_, _, _, some _]) dX12_stale_94 rfl (by decide) rfl ?_
          refine wp_goto dX12_stale_97 ?_
          refine wp_iload_n dX12_stale_62 rfl rfl ?_
          refine wp_iconst (v := (nI 4)) dX12_stale_63 (by decide +kernel) ?_
          refine wp_icmp_ge dX12_stale_64 (fun q => absurd q (by decide +kernel)) (fun _ => ?_)
          refine wp_aload_n dX12_stale_67 rfl rfl ?_
          refine wp_getR dX12_stale_68 lX12_70 rfl (mO hc.1) (mR_key hc.1) ?_
          refine wp_aload_n dX12_stale_71 rfl rfl ?_
          refine wp_getR dX12_stale_72 lX12_98 rfl (mO hc.1) (mR_coverRule hc.1) ?_
          refine wp_iload_n dX12_stale_75 rfl rfl ?_
          refine wp_ialdV dX12_stale_76 (mA_coverRule hc.1) rfl ⟨by omega, by decide⟩ ex9 ?_
          refine wp_laldV dX12_stale_77 (mA_key hc.1) rfl ⟨by omega, by decide⟩ (rl.2.2.1 x9 (by omega)).1.1 ?_
          refine wp_iload_n dX12_stale_78 rfl rfl ?_
          refine wp_cS2 0 0 [some _, none, some _] dX12_stale_79 tX12_itemOf sX12_itemOf lX12_403 ⟨by decide, by decide⟩ (Nat.le_of_ble_eq_true rfl) (Nat.le_of_ble_eq_true rfl) rfl ?_
          refine pX12_itemOf (rl.2.2.1 x9 hx9).1.2 (by omega) ?_
          intro _ _
          refine wp_aload_n dX12_stale_82 rfl rfl ?_
          refine wp_iload_n dX12_stale_83 rfl rfl ?_
          refine wp_iload_n dX12_stale_84 rfl rfl ?_
          refine wp_iload_n dX12_stale_85 rfl rfl ?_
          refine wp_cV3 1 20 [some _, some _, some _, some _] dX12_stale_86 tX12_learntItem rfl (by decide) nX12_learntItem vX12_learntItem lX12_472 ⟨by decide, by decide⟩ (Nat.le_of_ble_eq_true rfl) (mO hc.1) (Nat.le_of_ble_eq_true rfl) rfl ?_
          refine pX12_learntItem' hc hd (by omega) (by omega) (by omega) ?_
          intro _ _
          refine wp_icmp_eq dX12_stale_89 (fun c5 => ?_) (fun c5 => ?_)
          · refine wp_iinc1 (ls1 := [_, _, _, some _]) dX12_stale_94 rfl (by decide) rfl ?_
            refine wp_goto dX12_stale_97 ?_
            refine wp_iload_n dX12_stale_62 rfl rfl ?_
            refine wp_iconst (v := (nI 4)) dX12_stale_63 (by decide +kernel) ?_
            refine wp_icmp_ge dX12_stale_64 (fun q => absurd q (by decide +kernel)) (fun _ => ?_)
            refine wp_aload_n dX12_stale_67 rfl rfl ?_
            refine wp_getR dX12_stale_68 lX12_70 rfl (mO hc.1) (mR_key hc.1) ?_
            refine wp_aload_n dX12_stale_71 rfl rfl ?_
            refine wp_getR dX12_stale_72 lX12_98 rfl (mO hc.1) (mR_coverRule hc.1) ?_
            refine wp_iload_n dX12_stale_75 rfl rfl ?_
            refine wp_ialdV dX12_stale_76 (mA_coverRule hc.1) rfl ⟨by omega, by decide⟩ ex9 ?_
            refine wp_laldV dX12_stale_77 (mA_key hc.1) rfl ⟨by omega, by decide⟩ (rl.2.2.1 x9 (by omega)).1.1 ?_
            refine wp_iload_n dX12_stale_78 rfl rfl ?_
            refine wp_cS2 0 0 [some _, none, some _] dX12_stale_79 tX12_itemOf sX12_itemOf lX12_403 ⟨by decide, by decide⟩ (Nat.le_of_ble_eq_true rfl) (Nat.le_of_ble_eq_true rfl) rfl ?_
            refine pX12_itemOf (rl.2.2.1 x9 hx9).1.2 (by omega) ?_
            intro _ _
            refine wp_aload_n dX12_stale_82 rfl rfl ?_
            refine wp_iload_n dX12_stale_83 rfl rfl ?_
            refine wp_iload_n dX12_stale_84 rfl rfl ?_
            refine wp_iload_n dX12_stale_85 rfl rfl ?_
            refine wp_cV3 1 20 [some _, some _, some _, some _] dX12_stale_86 tX12_learntItem rfl (by decide) nX12_learntItem vX12_learntItem lX12_472 ⟨by decide, by decide⟩ (Nat.le_of_ble_eq_true rfl) (mO hc.1) (Nat.le_of_ble_eq_true rfl) rfl ?_
            refine pX12_learntItem' hc hd (by omega) (by omega) (by omega) ?_
            intro _ _
            refine wp_icmp_eq dX12_stale_89 (fun c7 => ?_) (fun c7 => ?_)
            · refine wp_iinc1 (ls1 := [_, _, _, some _]) dX12_stale_94 rfl (by decide) rfl ?_
              refine wp_goto dX12_stale_97 ?_
              refine wp_iload_n dX12_stale_62 rfl rfl ?_
              refine wp_iconst (v := (nI 4)) dX12_stale_63 (by decide +kernel) ?_
              refine wp_icmp_ge dX12_stale_64 (fun q => absurd q (by decide +kernel)) (fun _ => ?_)
              refine wp_aload_n dX12_stale_67 rfl rfl ?_
              refine wp_getR dX12_stale_68 lX12_70 rfl (mO hc.1) (mR_key hc.1) ?_
              refine wp_aload_n dX12_stale_71 rfl rfl ?_
              refine wp_getR dX12_stale_72 lX12_98 rfl (mO hc.1) (mR_coverRule hc.1) ?_
              refine wp_iload_n dX12_stale_75 rfl rfl ?_
              refine wp_ialdV dX12_stale_76 (mA_coverRule hc.1) rfl ⟨by omega, by decide⟩ ex9 ?_
              refine wp_laldV dX12_stale_77 (mA_key hc.1) rfl ⟨by omega, by decide⟩ (rl.2.2.1 x9 (by omega)).1.1 ?_
              refine wp_iload_n dX12_stale_78 rfl rfl ?_
              refine wp_cS2 0 0 [some _, none, some _] dX12_stale_79 tX12_itemOf sX12_itemOf lX12_403 ⟨by decide, by decide⟩ (Nat.le_of_ble_eq_true rfl) (Nat.le_of_ble_eq_true rfl) rfl ?_
              refine pX12_itemOf (rl.2.2.1 x9 hx9).1.2 (by omega) ?_
              intro _ _
              refine wp_aload_n dX12_stale_82 rfl rfl ?_
              refine wp_iload_n dX12_stale_83 rfl rfl ?_
              refine wp_iload_n dX12_stale_84 rfl rfl ?_
              refine wp_iload_n dX12_stale_85 rfl rfl ?_
              refine wp_cV3 1 20 [some _, some _, some _, some _] dX12_stale_86 tX12_learntItem rfl (by decide) nX12_learntItem vX12_learntItem lX12_472 ⟨by decide, by decide⟩ (Nat.le_of_ble_eq_true rfl) (mO hc.1) (Nat.le_of_ble_eq_true rfl) rfl ?_
              refine pX12_learntItem' hc hd (by omega) (by omega) (by omega) ?_
              intro _ _
              refine wp_icmp_eq dX12_stale_89 (fun c9 => ?_) (fun c9 => ?_)
              · refine wp_iinc1 (ls1 := [_, _, _, some _]) dX12_stale_94 rfl (by decide) rfl ?_
                refine wp_goto dX12_stale_97 ?_
                refine wp_iload_n dX12_stale_62 rfl rfl ?_
                refine wp_iconst (v := (nI 4)) dX12_stale_63 (by decide +kernel) ?_
                refine wp_icmp_ge dX12_stale_64 (fun _ => ?_) (fun q => absurd (by decide +kernel) q)
                refine wp_iinc1 (ls1 := [_, _, some _, _]) dX12_stale_100 rfl (by decide) rfl ?_
                refine wp_goto dX12_stale_103 ?_
                refine ih (k + 1) _ (by omega) ?_ (by omega)
                intro k9 hk9 w hw
                by_cases e9 : k9 = k
                · subst e9
                  rw [kx9] at *
                  rcases (by omega : w = 0 ∨ w = 1 ∨ w = 2 ∨ w = 3) with e | e | e | e <;> subst e <;> assumption
                · exact hall k9 (by omega) w hw
              · refine wp_iconst (v := (nI 1)) dX12_stale_92 (by decide +kernel) ?_
                refine wp_ireturn dX12_stale_93 rfl ?_
                refine K0 (fun z9 => ?_)
                rw [kx9] at *
                first | exact absurd (z9 k (by omega) 0 (by decide)) (by assumption) | exact absurd (z9 k (by omega) 1 (by decide)) (by assumption) | exact absurd (z9 k (by omega) 2 (by decide)) (by assumption) | exact absurd (z9 k (by omega) 3 (by decide)) (by assumption)
            · refine wp_iconst (v := (nI 1)) dX12_stale_92 (by decide +kernel) ?_
              refine wp_ireturn dX12_stale_93 rfl ?_
              refine K0 (fun z9 => ?_)
              rw [kx9] at *
              first | exact absurd (z9 k (by omega) 0 (by decide)) (by assumption) | exact absurd (z9 k (by omega) 1 (by decide)) (by assumption) | exact absurd (z9 k (by omega) 2 (by decide)) (by assumption) | exact absurd (z9 k (by omega) 3 (by decide)) (by assumption)
          · refine wp_iconst (v := (nI 1)) dX12_stale_92 (by decide +kernel) ?_
            refine wp_ireturn dX12_stale_93 rfl ?_
            refine K0 (fun z9 => ?_)
            rw [kx9] at *
            first | exact absurd (z9 k (by omega) 0 (by decide)) (by assumption) | exact absurd (z9 k (by omega) 1 (by decide)) (by assumption) | exact absurd (z9 k (by omega) 2 (by decide)) (by assumption) | exact absurd (z9 k (by omega) 3 (by decide)) (by assumption)
        · refine wp_iconst (v := (nI 1)) dX12_stale_92 (by decide +kernel) ?_
          refine wp_ireturn dX12_stale_93 rfl ?_
          refine K0 (fun z9 => ?_)
          rw [kx9] at *
          first | exact absurd (z9 k (by omega) 0 (by decide)) (by assumption) | exact absurd (z9 k (by omega) 1 (by decide)) (by assumption) | exact absurd (z9 k (by omega) 2 (by decide)) (by assumption) | exact absurd (z9 k (by omega) 3 (by decide)) (by assumption)
  exact hloop (L.length + 1) 0 x3 (by omega) (fun k hk => by omega) (by omega)
set_option maxRecDepth 20000 in
theorem stale_sh {h : mH} {Q : Option Value → mH → Prop} {r : Nat → Int64} {F : Nat} {pa my : Nat → Int32} {f : Nat} {x3 : Option Value} (hc : mC h r F pa my) (hd : sOK r F pa my) (hf : f < F) (sh : shR h r f) (K0 : ¬ (∀ w9, w9 < 44 → shV r f w9 = lrS r f w9) → Q (some (.int (nI 1))) h) (K1 : (∀ w9, w9 < 44 → shV r f w9 = lrS r f w9) → Q (some (.int (nI 0))) h) : Wp mX12_stale 8 200 108 [some (.ref 153), some (.int (nI f)), some (.int (nI 0)), x3] [] h Q := by
  have hF4 := hd.f4
  have hloop : ∀  (t : Nat) (w : Nat), (w ≤ 44) → ((∀ w9, w9 < w → shV r f w9 = lrS r f w9)) → (44 < w + t) → Wp mX12_stale 8 200 108 [some (.ref 153), some (.int (nI f)), some (.int (nI w)), x3] [] h Q := by
    intro t
    induction t with
    | zero => intros; omega
    | succ t ih =>
      intro w hw hall hmz
      refine wp_iload_n dX12_stale_108 rfl rfl ?_
      refine wp_bipush (v := (nI 44)) dX12_stale_109 (by decide +kernel) ?_
      refine wp_icmp_geN dX12_stale_111 rfl rfl ⟨by omega, by omega⟩ (fun c1 => ?_) (fun c1 => ?_)
      · refine wp_iconst (v := (nI 0)) dX12_stale_139 (by decide +kernel) ?_
        refine wp_ireturn dX12_stale_140 rfl ?_
        have e9 : w = 44 := by omega
        subst e9
        exact K1 hall
      · refine wp_aload_n dX12_stale_114 rfl rfl ?_
        refine wp_getR dX12_stale_115 lX12_101 rfl (mO hc.1) (mR_shape hc.1) ?_
        refine wp_iload_n dX12_stale_118 rfl rfl ?_
        refine wp_laldV dX12_stale_119 (mA_shape hc.1) rfl ⟨by omega, by decide⟩ (sh w (by omega)) ?_
        refine wp_aload_n dX12_stale_120 rfl rfl ?_
        refine wp_iload_n dX12_stale_121 rfl rfl ?_
        refine wp_iload_n dX12_stale_122 rfl rfl ?_
        refine wp_cV2 1 20 [some _, some _, some _] dX12_stale_123 tX12_shapeOf rfl (by decide) nX12_shapeOf vX12_shapeOf lX12_469 ⟨by decide, by decide⟩ (Nat.le_of_ble_eq_true rfl) (mO hc.1) (Nat.le_of_ble_eq_true rfl) rfl ?_
        refine pX12_shapeOf' hc hd (by omega) (by omega) ?_
        intro _ _
        refine wp_i2l dX12_stale_126 ?_
        have h41 := shV_le (w := w) hd hf
        have h40 := (hd.ls f w (by omega) (by omega)).2
        rw [nI_l (by omega)]
        refine wp_lc_eq dX12_stale_127 dX12_stale_128 (fun c2 => ?_) (fun c2 => ?_)
        · refine wp_iinc1 (ls1 := [_, _, some _, _]) dX12_stale_133 rfl (by decide) rfl ?_
          refine wp_goto dX12_stale_136 ?_
          refine ih (w + 1) (by omega) ?_ (by omega)
          intro w9 hw9
          by_cases e9 : w9 = w
          · subst e9
            exact (pk_lEQ (by omega) (by omega)).mp (by assumption)
          · exact hall w9 (by omega)
        · refine wp_iconst (v := (nI 1)) dX12_stale_131 (by decide +kernel) ?_
          refine wp_ireturn dX12_stale_132 rfl ?_
          exact K0 (fun z9 => (by assumption : ¬ lN (shV r f w) = lN (lrS r f w)) (congrArg lN (z9 w (by omega))))
  exact hloop 45 0 (by omega) (fun k hk => by omega) (by omega)
set_option maxRecDepth 20000 in
theorem pX12_stale {h : mH} {Q : Option Value → mH → Prop} {r : Nat → Int64} {F : Nat} {pa my : Nat → Int32} {x : Int32} (hc : mC h r F pa my) (hd : sOK r F pa my) (hq : ∀ v h', mFr pwS h h' → spStale r F pa my x v → Q (some (.int v)) h') : Wp mX12_stale 8 200 0 [some (.ref 153), some (.int x), none, none] [] h Q := by
  have hF4 := hd.f4
  have hP6 := hd.w.1.2
  refine wp_aload_n dX12_stale_0 rfl rfl ?_
  refine wp_iload_n dX12_stale_1 rfl rfl ?_
  refine wp_cV1 1 22 [some _, some _] dX12_stale_2 tX12_isField rfl (by decide) nX12_isField vX12_isField lX12_299 ⟨by decide, by decide⟩ (Nat.le_of_ble_eq_true rfl) (mO hc.1) (Nat.le_of_ble_eq_true rfl) rfl ?_
  refine pX12_isField' hc hd (fun j1 hj1 ej1 => ?_) (fun nj1 => ?_)
  · subst ej1
    have xs1 := ix_nI hj1 (by omega)
    intro _ _
    refine wp_if_eq dX12_stale_5 (fun q => absurd q (by decide +kernel)) (fun _ => ?_)
    refine wp_aload_n dX12_stale_8 rfl rfl ?_
    refine wp_iload_n dX12_stale_9 rfl rfl ?_
    refine wp_cV1 1 20 [some _, some _] dX12_stale_10 tX12_isLearnt rfl (by decide) nX12_isLearnt vX12_isLearnt lX12_466 ⟨by decide, by decide⟩ (Nat.le_of_ble_eq_true rfl) (mO hc.1) (Nat.le_of_ble_eq_true rfl) rfl ?_
    refine pX12_isLearnt' hc hd (by omega) (fun l2 => ?_) (fun l2 => ?_)
    · intro _ _
      refine wp_if_eq dX12_stale_13 (fun q => absurd q (by decide +kernel)) (fun _ => ?_)
      refine wp_aload_n dX12_stale_16 rfl rfl ?_
      refine wp_iload_n dX12_stale_17 rfl rfl ?_
      refine wp_cV1 2 43 [some _, some _, none, none] dX12_stale_18 tX12_examples rfl (by decide) nX12_examples vX12_examples lX12_407 ⟨by decide, by decide⟩ (Nat.le_of_ble_eq_true rfl) (mO hc.1) (Nat.le_of_ble_eq_true rfl) rfl ?_
      refine pX12_examplesN hc hd (by omega) ?_
      intro _ _
      refine wp_if_neN dX12_stale_21 rfl (by have := exE_lt (f := j1) hd; omega) (fun c3 => ?_) (fun c3 => ?_)
      · refine wp_aload_n dX12_stale_26 rfl rfl ?_
        refine wp_iload_n dX12_stale_27 rfl rfl ?_
        refine wp_cV1 7 178 [some _, some _, none] dX12_stale_28 tX12_laysCoverOf rfl (by decide) nX12_laysCoverOf vX12_laysCoverOf lX12_431 ⟨by decide, by decide⟩ (Nat.le_of_ble_eq_true rfl) (mO hc.1) (Nat.le_of_ble_eq_true rfl) rfl ?_
        refine pX12_laysCoverOf hc hd (by omega) (fun hh3 n3 K3 O3 L3 p3 f3 nx3 rl3 cv3 eh3 co3 hp3 => ?_)
        intro _ _
        have mc3 := hc.fr f3 (by decide) (by decide) (by decide) (by decide) (by decide)
        have hL9 := cv3.2.1
        have hn9 := rl3.2.1
        refine wp_aload_n dX12_stale_31 rfl rfl ?_
        refine wp_iload_n dX12_stale_32 rfl rfl ?_
        refine wp_cV1 3 70 [some _, some _, none, none, none] dX12_stale_33 tX12_laysShape rfl (by decide) nX12_laysShape vX12_laysShape lX12_460 ⟨by decide, by decide⟩ (Nat.le_of_ble_eq_true rfl) (mO mc3.1) (Nat.le_of_ble_eq_true rfl) rfl ?_
        refine pX12_laysShape mc3 hd nx3 (by omega) (by omega) (fun hh4 f4 sh4 => ?_)
        intro _ _
        have mc4 := mc3.fr f4 (by decide) (by decide) (by decide) (by decide) (by decide)
        have nx4 := nx3.fr f4 (by decide) (by decide)
        have rl4 := rl3.fr f4 (by decide) (by decide)
        have cv4 := cv3.fr f4 (by decide) (by decide)
        have efI48_4 := (f4.fI 48 (by decide) (by decide)).trans eh3
        refine wp_aload_n dX12_stale_36 rfl rfl ?_
        refine wp_getIV dX12_stale_37 lX12_425 rfl (mO mc4.1) cv4.1 ?_
        refine wp_aload_n dX12_stale_40 rfl rfl ?_
        refine wp_iload_n dX12_stale_41 rfl rfl ?_
        refine wp_cV1 1 20 [some _, some _] dX12_stale_42 tX12_learntRules rfl (by decide) nX12_learntRules vX12_learntRules lX12_463 ⟨by decide, by decide⟩ (Nat.le_of_ble_eq_true rfl) (mO mc4.1) (Nat.le_of_ble_eq_true rfl) rfl ?_
        refine pX12_learntRules' mc4 hd (by omega) ?_
        intro _ _
        refine wp_icmp_eqN dX12_stale_45 rfl rfl ⟨by omega, by have := (hd.ln j1 (by omega)).2; omega⟩ (fun c4 => ?_) (fun c4 => ?_)
        · refine wp_iconst (v := (nI 0)) dX12_stale_50 (by decide +kernel) ?_
          refine wp_istore_n (ls1 := [_, _, some _, _]) dX12_stale_51 rfl (by decide) rfl ?_
          refine stale_in mc4 hd (by omega) rl4 cv4 (fun na => ?_) (fun x9 al => ?_)
          · refine hq _ _ ((f3.up (by decide) (by decide)).tr (f4.up (by decide) (by decide))) ?_
            unfold spStale
            simp only [xs1]
            rw [if_neg (by rw [l2]; intro z9; rcases z9 with z9 | z9; exact absurd z9 (by decide); omega)]
            refine ⟨L3, p3, co3, ?_⟩
            exact Or.inr ⟨fun z9 => na z9.2.1, by first | rfl | trivial⟩
          refine wp_iconst (v := (nI 0)) dX12_stale_106 (by decide +kernel) ?_
          refine wp_istore_n (ls1 := [_, _, some _, _]) dX12_stale_107 rfl (by decide) rfl ?_
          refine stale_sh mc4 hd (by omega) sh4 (fun ns => ?_) (fun as => ?_)
          · refine hq _ _ ((f3.up (by decide) (by decide)).tr (f4.up (by decide) (by decide))) ?_
            unfold spStale
            simp only [xs1]
            rw [if_neg (by rw [l2]; intro z9; rcases z9 with z9 | z9; exact absurd z9 (by decide); omega)]
            refine ⟨L3, p3, co3, ?_⟩
            exact Or.inr ⟨fun z9 => ns z9.2.2, by first | rfl | trivial⟩
          · refine hq _ _ ((f3.up (by decide) (by decide)).tr (f4.up (by decide) (by decide))) ?_
            unfold spStale
            simp only [xs1]
            rw [if_neg (by rw [l2]; intro z9; rcases z9 with z9 | z9; exact absurd z9 (by decide); omega)]
            refine ⟨L3, p3, co3, ?_⟩
            exact Or.inl ⟨⟨by assumption, al, as⟩, by first | rfl | trivial⟩
        · refine wp_iconst (v := (nI 1)) dX12_stale_48 (by decide +kernel) ?_
          refine wp_ireturn dX12_stale_49 rfl ?_
          refine hq _ _ ((f3.up (by decide) (by decide)).tr (f4.up (by decide) (by decide))) ?_
          unfold spStale
          simp only [xs1]
          rw [if_neg (by rw [l2]; intro z9; rcases z9 with z9 | z9; exact absurd z9 (by decide); omega)]
          refine ⟨L3, p3, co3, ?_⟩
          exact Or.inr ⟨fun z9 => absurd z9.1 (by assumption), by first | rfl | trivial⟩
      · refine wp_iconst (v := (-1)) dX12_stale_24 (by decide +kernel) ?_
        refine wp_ireturn dX12_stale_25 rfl ?_
        refine hq _ _ mFr.rf ?_
        unfold spStale
        first | (simp only [*]; done) | (simp only [xs1]; rw [if_pos (by first | exact Or.inl (by assumption) | exact Or.inr (by omega))]; trivial) | (simp only [xs1]; rw [if_pos (by first | exact Or.inl (by assumption) | exact Or.inr (by omega))])
    · intro _ _
      refine wp_if_eq dX12_stale_13 (fun _ => ?_) (fun q => absurd q (by decide +kernel))
      refine wp_iconst (v := (-1)) dX12_stale_24 (by decide +kernel) ?_
      refine wp_ireturn dX12_stale_25 rfl ?_
      refine hq _ _ mFr.rf ?_
      unfold spStale
      first | (simp only [*]; done) | (simp only [xs1]; rw [if_pos (by first | exact Or.inl (by assumption) | exact Or.inr (by omega))]; trivial) | (simp only [xs1]; rw [if_pos (by first | exact Or.inl (by assumption) | exact Or.inr (by omega))])
  · have xn1 := ix_none (by omega) nj1
    intro _ _
    refine wp_if_eq dX12_stale_5 (fun _ => ?_) (fun q => absurd q (by decide +kernel))
    refine wp_iconst (v := (-1)) dX12_stale_24 (by decide +kernel) ?_
    refine wp_ireturn dX12_stale_25 rfl ?_
    refine hq _ _ mFr.rf ?_
    unfold spStale
    first | (simp only [*]; done) | (simp only [xs1]; rw [if_pos (by first | exact Or.inl (by assumption) | exact Or.inr (by omega))]; trivial) | (simp only [xs1]; rw [if_pos (by first | exact Or.inl (by assumption) | exact Or.inr (by omega))])
