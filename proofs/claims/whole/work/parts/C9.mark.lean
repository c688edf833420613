/-! ===== rows that differ in their marks alone; mark ===== -/
theorem pg_cg {r r' : Nat → Int64} {p : Nat} : ∀ k, (∀ j, j < k → rW r' p j = rW r p j) → pg r' p k = pg r p k := fun k h => by
  unfold pg
  exact List.map_congr_left (fun j hj => h j (List.mem_range.mp hj))
theorem tk_cg {r r' : Nat → Int64} : ∀ P, (∀ q, q < P → rT r' q = rT r q ∧ ∀ k, k < rT r q → rW r' q k = rW r q k) → tk r' P = tk r P
  | 0, _ => rfl
  | P + 1, h => by
    show tk r' P ++ pg r' P (rT r' P) = tk r P ++ pg r P (rT r P)
    rw [tk_cg P (fun q hq => h q (by omega)), (h P (by omega)).1, pg_cg _ (h P (by omega)).2]
theorem pgR.cg {ow : Nat → Nat} {h : mH} {q p : Nat} {r r' : Nat → Int64} (g : pgR ow h q r p) (hT : ∀ q, q ≤ p → rT r' q = rT r q ∧ ∀ k, k < rT r q → rW r' q k = rW r q k) : pgR ow h q r' p := by
  obtain ⟨pt, pk, pn, z, hz⟩ := g
  have e1 := (hT p (Nat.le_refl _)).1
  have e2 := tk_cg (p + 1) (fun q hq => hT q (by omega))
  refine ⟨pt, pk, pn, ?_, fun i hi => ?_⟩
  · rw [e1, e2]; exact z
  · rw [e1] at hi
    rw [(hT p (Nat.le_refl _)).2 i hi, e2]
    exact hz i hi
theorem lnR.cg {ow : Nat → Nat} {h : mH} {q f : Nat} {r r' : Nat → Int64} (g : lnR ow h q r f) (hN : lrN r f ≤ 6) (hS : lrS r f 0 ≤ 40) (hr : ∀ y, 655 + 70 * f ≤ y → y < 655 + 70 * f + 70 → r' y = r y) : lnR ow h q r' f := by
  obtain ⟨nr, np, z, h1, h2⟩ := g
  have eN : lrN r' f = lrN r f := congrArg nOf (hr _ (by omega) (by omega))
  have eS : ∀ w, w < 44 → lrS r' f w = lrS r f w := fun w hw => congrArg nOf (hr _ (by omega) (by omega))
  refine ⟨nr, np, ?_, fun k hk => ?_, fun j hj => ?_⟩
  · rw [eN, eS 0 (by omega), eS 1 (by omega), eS 2 (by omega), eS 3 (by omega)]; exact z
  · rw [eN] at hk
    obtain ⟨key, a1, a2, a3⟩ := h1 k hk
    refine ⟨key, a1, a2, fun w hw => (a3 w hw).trans ?_⟩
    exact congrArg Int64.toInt32 (hr _ (by omega) (by omega)).symm
  · rw [eS 0 (by omega)] at hj
    rw [eS (4 + j) (by omega)]
    exact h2 j hj
theorem rows_lo {r r' : Nat → Int64} (hw : WF r) (hr : ∀ y, y < 247 ∨ 655 ≤ y → r' y = r y) : rP r' = rP r ∧ ∀ q, q < 6 → rT r' q = rT r q ∧ ∀ k, k < rT r q → rW r' q k = rW r q k :=
  ⟨congrArg nOf (hr 0 (by omega)), fun q hq => ⟨congrArg nOf (hr _ (by omega)), fun k hk => hr _ (by have := (hw.2.1 q hq).2; omega)⟩⟩
theorem stX.marks {ow : Nat → Nat} {h h' : mH} {S : List Nat} {u9 a ρ F : Nat} {r r' : Nat → Int64} {pa my : Nat → Int32} {sp sl : Nat → Option Nat} {ss se ss' se' : Nat → Int64} {sc : Int32} (g : stX ow h a ρ r) (hd : sOK r F pa my) (z : zS ow h a ρ sp sl ss se sc) (f : cFr S u9 ow h ow h') (h0 : 0 ∉ S) (z' : zS ow h' a ρ sp sl ss' se' sc) (hr : ∀ y, y < 247 ∨ 655 ≤ y → r' y = r y) (hb' : ∀ f p, f < 4 → p < 6 → ss' (6 * f + p) = lN (bsA (mkL r' f p)) ∧ se' (6 * f + p) = lN (bsE (mkL r' f p))) : stX ow h' a ρ r' := by
  obtain ⟨⟨sp0, sl0, ss0, se0, z0, hp, hl, hb⟩, hn⟩ := g
  have hP6 := hd.w.1.2
  have e0 : sp0 = sp := z0.c0.symm.trans z.c0
  have e1 : sl0 = sl := z0.c1.symm.trans z.c1
  have e4 : nI (rP r) = sc := z0.f4.symm.trans z.f4
  subst e0 e1 e4
  obtain ⟨eP, eT⟩ := rows_lo hd.w hr
  refine ⟨⟨sp0, sl0, ss', se', by rw [eP]; exact z', fun p hp9 => ?_, fun f9 hf9 => ⟨fun e => ?_, fun e => ?_⟩, hb'⟩, fun p hp9 hp6 => ?_⟩
  · rw [eP] at hp9
    obtain ⟨q, e, g⟩ := hp p hp9
    exact ⟨q, e, (g.fr f h0).cg (fun q hq => eT q (by omega))⟩
  · rw [hr _ (by omega)] at e
    obtain ⟨q, e, g⟩ := (hl f9 hf9).1 e
    exact ⟨q, e, (g.fr f h0).cg (hd.ln f9 hf9).2 (hd.ls f9 0 hf9 (by omega)).2 (fun y h1 _ => hr y (by omega))⟩
  · rw [hr _ (by omega)] at e
    exact (hl f9 hf9).2 e
  · rw [eP] at hp9
    rw [congrFun z'.c0 p, ← congrFun z0.c0 p]; exact hn p hp9 hp6
theorem mkL_cg {r r' : Nat → Int64} {f p : Nat} (hM : rM r' f p = rM r f p) (h : ∀ i, i < rM r f p → rA r' f p i = rA r f p i ∧ rB r' f p i = rB r f p i) : mkL r' f p = mkL r f p := by
  unfold mkL
  rw [hM]
  exact List.map_congr_left (fun i hi => by have := h i (List.mem_range.mp hi); rw [this.1, this.2])
theorem mk_out {r : Nat → Int64} {f p i j y : Nat} (hm : rM r f p < 8) (hy : y < rX f p ∨ rX f p + 17 ≤ y) : mkR r f p i j y = r y := by
  unfold mkR
  rw [up1_ne (by omega), up1_ne (by omega), up1_ne (by omega)]
theorem mk_in {r : Nat → Int64} {f p i j : Nat} (hm : rM r f p < 8) (hi : i < 41) (hj : j < 41) : mkL (mkR r f p i j) f p = mkL r f p ++ [(i, j)] := by
  have e0 : mkR r f p i j (rX f p) = lN (rM r f p + 1) := up1_at _ _ _
  have e1 : ∀ k, mkR r f p i j (rX f p + 1 + 2 * k) = if k = rM r f p then lN i else r (rX f p + 1 + 2 * k) := fun k => by
    unfold mkR
    rw [up1_ne (by omega), up1_ne (by omega)]
    by_cases c : k = rM r f p
    · rw [if_pos c, c, up1_at]
    · rw [if_neg c, up1_ne (by omega)]
  have e2 : ∀ k, mkR r f p i j (rX f p + 2 + 2 * k) = if k = rM r f p then lN j else r (rX f p + 2 + 2 * k) := fun k => by
    unfold mkR
    rw [up1_ne (by omega)]
    by_cases c : k = rM r f p
    · rw [if_pos c, c, up1_at]
    · rw [if_neg c, up1_ne (by omega), up1_ne (by omega)]
  have eM : rM (mkR r f p i j) f p = rM r f p + 1 := by
    show nOf (mkR r f p i j (rX f p)) = _
    rw [e0]
    exact nOf_l (by omega)
  symm
  apply mkL_eq
  · rw [List.length_append, mkL_len, eM]; rfl
  · intro k hk
    rw [List.length_append, mkL_len] at hk
    have hk : k < rM r f p + 1 := hk
    by_cases c : k = rM r f p
    · subst c
      rw [List.getD_eq_getElem?_getD, List.getElem?_append_right (by rw [mkL_len]; exact Nat.le_refl _), mkL_len, Nat.sub_self]
      show (i, j) = _
      unfold rA rB
      rw [e1, e2, if_pos rfl, if_pos rfl, nOf_l (by omega), nOf_l (by omega)]
    · rw [List.getD_eq_getElem?_getD, List.getElem?_append_left (by rw [mkL_len]; omega), ← List.getD_eq_getElem?_getD, mkL_getD (by omega)]
      unfold rA rB
      rw [e1, e2, if_neg c, if_neg c]
theorem mk_rng {v w : Int32} {T : Nat} (hT : T ≤ 40) (h1 : ¬ v < 0) (h2 : ¬ w ≤ v) (h3 : w ≤ nI T) : ∃ i j, i < j ∧ j ≤ T ∧ v = nI i ∧ w = nI j := by
  have h4 : ¬ w < 0 := fun z => by
    rw [Int32.lt_iff_toInt_lt] at h1 z
    rw [Int32.le_iff_toInt_le] at h2
    omega
  obtain ⟨j, hj, e⟩ := ix_le (by omega) h4 h3
  subst e
  obtain ⟨i, hi, e⟩ := ix_pos (by omega) h1 h2
  exact ⟨i, j, hi, by omega, e, rfl⟩
section
variable {r : Nat → Int64} {F : Nat} {pa my : Nat → Int32} {x y v w : Int32}
theorem mkF1 (hd : sOK r F pa my) (h : ix x (rP r) = none) : ¬ cMk r F pa my x y v w := by
  rintro ⟨p, f, i, j, hp, hf, hi, hj, rfl, rfl, rfl, rfl, ho⟩
  have := hd.w.1.2
  rw [ix_nI hp (by omega)] at h
  cases h
theorem mkF2 (hd : sOK r F pa my) (h : ix y F = none) : ¬ cMk r F pa my x y v w := by
  rintro ⟨p, f, i, j, hp, hf, hi, hj, rfl, rfl, rfl, rfl, ho⟩
  have := hd.f4
  rw [ix_nI hf (by omega)] at h
  cases h
theorem mkF3 (hd : sOK r F pa my) (h : v < 0) : ¬ cMk r F pa my x y v w := by
  rintro ⟨p, f, i, j, hp, hf, hi, hj, rfl, rfl, rfl, rfl, ho⟩
  have := hd.w.1.2
  have := (hd.w.2.1 p (by omega)).2
  exact absurd h (nI_pos (by omega))
theorem mkF4 (hd : sOK r F pa my) (h : w ≤ v) : ¬ cMk r F pa my x y v w := by
  rintro ⟨p, f, i, j, hp, hf, hi, hj, rfl, rfl, rfl, rfl, ho⟩
  have := hd.w.1.2
  have := (hd.w.2.1 p (by omega)).2
  have h1 := ho.1
  rw [Int32.le_iff_toInt_le, nI_toInt (by omega), nI_toInt (by omega)] at h
  omega
theorem mkF5 {p : Nat} (hd : sOK r F pa my) (hp : p < rP r) (h : ¬ w ≤ nI (rT r p)) : ¬ cMk r F pa my (nI p) y v w := by
  rintro ⟨p', f, i, j, hp', hf, hi, hj, ep, rfl, rfl, rfl, ho⟩
  have := hd.w.1.2
  have hT := (hd.w.2.1 p (by omega)).2
  rw [nI_eq (by omega) (by omega)] at ep
  subst ep
  rw [Int32.le_iff_toInt_le, nI_toInt (by omega), nI_toInt (by omega)] at h
  omega
theorem mkF6 {p f i j : Nat} (hd : sOK r F pa my) (hp : p < rP r) (hf : f < F) (hij : i < j) (hj : j ≤ rT r p) (h : ¬ (rmP r my f p i ∧ wiP r pa p f [(i, j)])) : ¬ cMk r F pa my (nI p) (nI f) (nI i) (nI j) := by
  rintro ⟨p', f', i', j', hp', hf', hi', hj', ep, ef, ei, ej, ho⟩
  have := hd.w.1.2
  have := hd.f4
  have hT := (hd.w.2.1 p (by omega)).2
  have hT' := (hd.w.2.1 p' (by omega)).2
  rw [nI_eq (by omega) (by omega)] at ep ef ei ej
  subst ep ef ei ej
  obtain ⟨h1, h2, h3, h4⟩ := ho
  exact h ⟨h3.imp id (fun z => ⟨z.1, h2, z.2⟩), h4⟩
theorem okM_of {p f i j : Nat} (hij : i < j) (h1 : rmP r my f p i) (h2 : wiP r pa p f [(i, j)]) : okM r pa my f p i j := ⟨hij, h1.elim (fun z => by omega) (fun z => z.2.1), h1.imp id (fun z => ⟨z.1, z.2.2⟩), h2⟩
end
theorem srt_1 {i j n : Nat} (hij : i < j) (hj : j ≤ n) : srt [(i, j)] n := fun k hk => by
  have hk : k < 1 := hk
  obtain rfl : k = 0 := by omega
  exact ⟨hij, hj, fun z => absurd z (by show ¬ 0 + 1 < 1; omega)⟩
theorem bsA_1 {i j : Nat} (hi : i < 63) : (1 : Int64) <<< ((nI i).toInt64 &&& 63) = lN (bsA [(i, j)]) := by
  rw [show (1 : Int64) = lN 1 from rfl, wb_shl 1 (by omega), Nat.one_mul]
  exact congrArg lN (show 2 ^ i = bsN [i] by show _ = 2 ^ i + 0; rfl)
theorem bsE_1 {i j : Nat} (hj : j < 63) : (1 : Int64) <<< ((nI j).toInt64 &&& 63) = lN (bsE [(i, j)]) := by
  rw [show (1 : Int64) = lN 1 from rfl, wb_shl 1 (by omega), Nat.one_mul]
  exact congrArg lN (show 2 ^ j = bsN [j] by show _ = 2 ^ j + 0; rfl)
theorem mk_bs {r : Nat → Int64} {F : Nat} {pa my : Nat → Int32} {f p i j : Nat} {ss se : Nat → Int64} (hd : sOK r F pa my) (hf : f < F) (hp : p < rP r) (hm : rM r f p < 8) (hb : ∀ f p, f < 4 → p < 6 → ss (6 * f + p) = lN (bsA (mkL r f p)) ∧ se (6 * f + p) = lN (bsE (mkL r f p))) : ∀ f' p', f' < 4 → p' < 6 → up1 ss (6 * f + p) (lN (bsA (mkL (mkR r f p i j) f p))) (6 * f' + p') = lN (bsA (mkL (mkR r f p i j) f' p')) ∧ up1 se (6 * f + p) (lN (bsE (mkL (mkR r f p i j) f p))) (6 * f' + p') = lN (bsE (mkL (mkR r f p i j) f' p')) := fun f' p' hf' hp' => by
  have hP6 := hd.w.1.2
  by_cases c : f' = f ∧ p' = p
  · obtain ⟨rfl, rfl⟩ := c
    rw [up1_at, up1_at]
    exact ⟨rfl, rfl⟩
  · have hne : 6 * f' + p' ≠ 6 * f + p := by omega
    rw [up1_ne hne, up1_ne hne]
    obtain ⟨h1, h2⟩ := rX_oth (r := r) (r' := mkR r f p i j) (fun y hy => mk_out hm hy) (show p < 6 by omega) hp' c
    have hM := (hd.w.2.2 f' p' hf' hp').1.2
    rw [mkL_cg h1.2 (fun i hi => ⟨(h2 i (by omega)).1.2, (h2 i (by omega)).2.2⟩)]
    exact hb f' p' hf' hp'
theorem ring_act (k : Nat) : ∀ x ∈ [20 + k % 17], x ∈ [8, 10, 11, 12, 13, 14, 20, 21, 22, 23, 24, 25, 26, 27, 28, 29, 30, 31, 32, 33, 34, 35, 36] := fun x hx => by
  have := Nat.mod_lt k (show 0 < 17 by decide)
  simp at hx ⊢
  omega
set_option maxRecDepth 20000 in
theorem pX11_mark {h : mH} {Q : Option Value → mH → Prop} {ow : Nat → Nat} {F : Nat} {pa my : Nat → Int32} {fa o a u : Nat} {r : Nat → Int64} {pr : Nat → Nat → Int64} {bx : Nat → Nat → Int64} {kp tp : Nat → Int32} {t : Nat} {tf tl : Int32} {n w : Nat} {x y v w0 : Int32} (c : cC ow h F pa my fa o a u r pr bx kp tp t tf tl n w) (hd : sOK r F pa my) (h0 : ¬ cMk r F pa my x y v w0 → Q (some (.int (-1))) h) (h1 : ∀ p f i j, p < rP r → f < F → i < rT r p → j < rT r p + 1 → x = nI p → y = nI f → v = nI i → w0 = nI j → okM r pa my f p i j → ∀ h' o', cFr [8, 10, 11, 12, 13, 14, 20, 21, 22, 23, 24, 25, 26, 27, 28, 29, 30, 31, 32, 33, 34, 35, 36] 0 ow h ow h' → cC ow h' F pa my fa o' (actN a) 0 (mkR r f p i j) (actP pr r a) bx kp tp t tf tl n w → Q (some (.int (nI (rM r f p + 1)))) h') : Wp mX11_mark 4 85 0 [some (.ref 0), some (.int x), some (.int y), some (.int v), some (.int w0), none, none, none, none] [] h Q := by
  have hP6 := hd.w.1.2
  have hF4 := hd.f4
  have e9 := c.e9
  refine wp_aload_n dX11_mark_0 rfl rfl ?_
  refine wp_getR dX11_mark_1 lX11_34 rfl e9.oo e9.r6 ?_
  refine wp_cV0 2 43 [some _] dX11_mark_4 tX3_now rfl (by decide) nX3_now vX3_now lX11_101 ⟨by decide, by decide⟩ (Nat.le_of_ble_eq_true rfl) e9.hh.o (Nat.le_of_ble_eq_true rfl) rfl ?_
  refine pX3_now e9.hh e9.kb e9.od.1 e9.od.2 ?_
  intro _ _
  refine wp_astore (ls1 := [_, _, _, _, _, some _, _, _, _]) dX11_mark_7 (by decide) rfl ?_
  refine wp_aload dX11_mark_9 rfl ?_
  refine wp_iload_n dX11_mark_11 rfl rfl ?_
  refine wp_cV1 0 0 [some _, some _] dX11_mark_12 tX8_pageAt rfl (by decide) nX8_pageAt vX8_pageAt lX11_176 ⟨by decide, by decide⟩ (Nat.le_of_ble_eq_true rfl) e9.st.oo (Nat.le_of_ble_eq_true rfl) rfl ?_
  refine pX8_pageAt e9.st hP6 (fun p1 q1 hp1 ep1 pg1 => ?_) (fun xn1 => ?_)
  · subst ep1
    intro _ _
    refine wp_astore (ls1 := [_, _, _, _, _, _, some _, _, _]) dX11_mark_15 (by decide) rfl ?_
    refine wp_aload dX11_mark_17 rfl ?_
    refine wp_ifnull dX11_mark_19 ?_
    refine wp_aload_n dX11_mark_22 rfl rfl ?_
    refine wp_getR dX11_mark_23 lX11_20 rfl e9.oo e9.f4 ?_
    refine wp_iload_n dX11_mark_26 rfl rfl ?_
    refine wp_cV1 0 0 [some _, some _] dX11_mark_27 tX1_has rfl (by decide) nX1_has vX1_has lX11_139 ⟨by decide, by decide⟩ (Nat.le_of_ble_eq_true rfl) e9.fl.oo (Nat.le_of_ble_eq_true rfl) rfl ?_
    refine pX1_has e9.fl hF4 (fun f2 hf2 ef2 => ?_) (fun xn2 => ?_)
    · subst ef2
      intro _ _
      refine wp_if_eq dX11_mark_30 (fun q => absurd q (by decide +kernel)) (fun _ => ?_)
      refine wp_iload_n dX11_mark_33 rfl rfl ?_
      refine wp_if_lt dX11_mark_34 (fun c3 => ?_) (fun c3 => ?_)
      · refine wp_iconst (v := (-1)) dX11_mark_53 (by decide +kernel) ?_
        refine wp_ireturn dX11_mark_54 rfl ?_
        first | exact h0 (mkF3 hd (by assumption)) | exact h0 (mkF4 hd (by assumption)) | exact h0 (mkF5 hd (by omega) (by assumption))
      · refine wp_iload_n dX11_mark_37 rfl rfl ?_
        refine wp_iload dX11_mark_38 rfl ?_
        refine wp_icmp_ge dX11_mark_40 (fun c5 => ?_) (fun c5 => ?_)
        · refine wp_iconst (v := (-1)) dX11_mark_53 (by decide +kernel) ?_
          refine wp_ireturn dX11_mark_54 rfl ?_
          first | exact h0 (mkF3 hd (by assumption)) | exact h0 (mkF4 hd (by assumption)) | exact h0 (mkF5 hd (by omega) (by assumption))
        · refine wp_iload dX11_mark_43 rfl ?_
          refine wp_aload dX11_mark_45 rfl ?_
          refine wp_getIV dX11_mark_47 lX11_180 rfl pg1.oo pg1.f0 ?_
          refine wp_icmp_le dX11_mark_50 (fun c7 => ?_) (fun c7 => ?_)
          · have hT9 := (hd.w.2.1 p1 (by omega)).2
            obtain ⟨i9, j9, hij9, hj9, rfl, rfl⟩ := mk_rng hT9 (by assumption) (by assumption) (by assumption)
            refine wp_iload_n dX11_mark_55 rfl rfl ?_
            refine wp_iload_n dX11_mark_56 rfl rfl ?_
            refine wp_cS2 0 0 [some _, some _] dX11_mark_57 tX11_spotOf sX11_spotOf lX11_198 ⟨by decide, by decide⟩ (Nat.le_of_ble_eq_true rfl) (Nat.le_of_ble_eq_true rfl) rfl ?_
            refine pX11_spotOf ?_
            intro _ _
            refine wp_istore (ls1 := [_, _, _, _, _, _, _, some _, _]) dX11_mark_60 (by decide) rfl ?_
            refine wp_aload_n dX11_mark_62 rfl rfl ?_
            refine wp_aload dX11_mark_63 rfl ?_
            refine wp_getR dX11_mark_65 lX11_202 rfl e9.st.oo e9.st.r2 ?_
            refine wp_iload dX11_mark_68 rfl ?_
            refine wp_laldV dX11_mark_70 e9.st.a2 rfl ⟨by omega, by omega⟩ (e9.st.c2 (f := f2) (p := p1) (by omega) (by omega)) ?_
            refine wp_aload dX11_mark_71 rfl ?_
            refine wp_getR dX11_mark_73 lX11_205 rfl e9.st.oo e9.st.r3 ?_
            refine wp_iload dX11_mark_76 rfl ?_
            refine wp_laldV dX11_mark_78 e9.st.a3 rfl ⟨by omega, by omega⟩ (e9.st.c3 (f := f2) (p := p1) (by omega) (by omega)) ?_
            refine wp_iload_n dX11_mark_79 rfl rfl ?_
            refine wp_iload_n dX11_mark_80 rfl rfl ?_
            refine wp_cV4 1 21 [some _, some _, none, some _, none, some _, some _, none] dX11_mark_81 tX11_hasRoom rfl (by decide) nX11_hasRoom vX11_hasRoom lX11_208 ⟨by decide, by decide⟩ (Nat.le_of_ble_eq_true rfl) e9.oo (Nat.le_of_ble_eq_true rfl) rfl ?_
            refine pX11_hasRoom e9 hd (p := p1) (by omega) (by omega) (by omega) (fun rm9 => ?_) (fun rm9 => ?_)
            · intro _ _
              refine wp_if_ne dX11_mark_84 (fun _ => ?_) (fun q => absurd q (by decide +kernel))
              refine wp_aload_n dX11_mark_89 rfl rfl ?_
              refine wp_aload dX11_mark_90 rfl ?_
              refine wp_iload_n dX11_mark_92 rfl rfl ?_
              refine wp_iload_n dX11_mark_93 rfl rfl ?_
              refine wp_lconst (v := 1) dX11_mark_94 (by decide +kernel) ?_
              refine wp_iload_n dX11_mark_95 rfl rfl ?_
              refine wp_lshl dX11_mark_96 ?_
              refine wp_lconst (v := 1) dX11_mark_97 (by decide +kernel) ?_
              refine wp_iload dX11_mark_98 rfl ?_
              refine wp_lshl dX11_mark_100 ?_
              refine wp_cV5 2 42 [some _, some _, some _, some _, some _, none, some _, none, none, none, none, none] dX11_mark_101 tX11_withinParent rfl (by decide) nX11_withinParent vX11_withinParent lX11_212 ⟨by decide, by decide⟩ (Nat.le_of_ble_eq_true rfl) e9.oo (Nat.le_of_ble_eq_true rfl) rfl ?_
              rw [bsA_1 (j := j9) (by omega), bsE_1 (i := i9) (by omega)]
              refine pX11_withinParent e9 hd (by omega) (by omega) (srt_1 hij9 hj9) (by omega) (List.cons_ne_nil _ _) (fun wi9 => ?_) (fun wi9 => ?_)
              · intro _ _
                refine wp_if_ne dX11_mark_104 (fun _ => ?_) (fun q => absurd q (by decide +kernel))
                have ok9 : okM r pa my f2 p1 i9 j9 := okM_of hij9 rm9 wi9
                have hd9 := sOK_mk hd (show f2 < F by omega) (show p1 < rP r by omega) hj9 ok9
                have em9 := mk_in (r := r) (f := f2) (p := p1) (i := i9) (j := j9) ok9.2.1 (by omega) (by omega)
                have hs9 := srt_mk hd9 (show f2 < 4 by omega) (show p1 < 6 by omega)
                rw [em9] at hs9
                have hT8 := (hd9.w.2.1 p1 (by omega)).2
                have bl9 := bsA_lt hd (show f2 < 4 by omega) (show p1 < 6 by omega)
                refine wp_aload_n dX11_mark_109 rfl rfl ?_
                refine wp_getR dX11_mark_110 lX11_34 rfl e9.oo e9.r6 ?_
                refine wp_cV0 3 63 [some _, none, none] dX11_mark_113 tX3_begin rfl (by decide) nX3_begin vX3_begin lX11_127 ⟨by decide, by decide⟩ (Nat.le_of_ble_eq_true rfl) e9.hh.o (Nat.le_of_ble_eq_true rfl) rfl ?_
                refine pX3_begin c.zh c.kb c.rg c.od.1 c.od.2 hP6 (fun hh3 o3 ho3 f3 zh3 rg3 => ?_)
                intro _ _
                obtain ⟨⟨sp9, sl9, ss9, se9, zs9, hpg9, hln9, hbs9⟩, hnn9⟩ := id rg3.st
                have zx_3 := c.zx.fr f3 (by decide)
                have kb_3 := c.kb.fr f3 (by decide) (by decide)
                have fl_3 := c.fl.fr f3 (by decide)
                have tb_3 := (tbF.of c.tw c.ti).fr f3 (by decide) (fun f9 hf9 => by simp; omega)
                refine wp_astore (ls1 := [_, _, _, _, _, _, _, _, some _]) dX11_mark_116 (by decide) rfl ?_
                refine wp_aload dX11_mark_118 rfl ?_
                refine wp_getR dX11_mark_120 lX11_202 rfl zs9.o zs9.r2 ?_
                refine wp_iload dX11_mark_123 rfl ?_
                refine wp_dup2 dX11_mark_125 rfl rfl ?_
                refine wp_laldV dX11_mark_126 zs9.a2 rfl ⟨by omega, by omega⟩ ((congrFun zs9.c2 _).trans (hbs9 f2 p1 (by omega) (by omega)).1) ?_
                refine wp_lconst (v := 1) dX11_mark_127 (by decide +kernel) ?_
                refine wp_iload_n dX11_mark_128 rfl rfl ?_
                refine wp_lshl dX11_mark_129 ?_
                refine wp_lor dX11_mark_130 ?_
                rw [sh1 bl9.1 (by omega), (bs_snoc hs9 (by omega)).1, ← em9]
                refine wp_lastN dX11_mark_131 zs9.a2 rfl ⟨by omega, by omega⟩ ?_
                refine zs9.w2 (fun hh4 f4 zs9_4 => ?_)
                have zx_4 := zx_3.fr f4 (rnS (by first | omega | (simp only [nowR]; omega)) rn0)
                have kb_4 := kb_3.fr f4 (rnS (by first | omega | (simp only [nowR]; omega)) rn0) (rnS (by first | omega | (simp only [nowR]; omega)) rn0)
                have fl_4 := fl_3.fr f4 (rnS (by first | omega | (simp only [nowR]; omega)) rn0)
                have tb_4 := tb_3.fr f4 (rnS (by first | omega | (simp only [nowR]; omega)) rn0) (fun f9 hf9 => (rnS (by first | omega | (simp only [nowR]; omega)) rn0))
                refine wp_aload dX11_mark_132 rfl ?_
                refine wp_getR dX11_mark_134 lX11_205 rfl zs9_4.o zs9_4.r3 ?_
                refine wp_iload dX11_mark_137 rfl ?_
                refine wp_dup2 dX11_mark_139 rfl rfl ?_
                refine wp_laldV dX11_mark_140 zs9_4.a3 rfl ⟨by omega, by omega⟩ ((congrFun zs9_4.c3 _).trans (hbs9 f2 p1 (by omega) (by omega)).2) ?_
                refine wp_lconst (v := 1) dX11_mark_141 (by decide +kernel) ?_
                refine wp_iload dX11_mark_142 rfl ?_
                refine wp_lshl dX11_mark_144 ?_
                refine wp_lor dX11_mark_145 ?_
                rw [sh1 bl9.2 (by omega), (bs_snoc hs9 (by omega)).2, ← em9]
                refine wp_lastN dX11_mark_146 zs9_4.a3 rfl ⟨by omega, by omega⟩ ?_
                refine zs9_4.w3 (fun hh5 f5 zs9_5 => ?_)
                have zx_5 := zx_4.fr f5 (rnS (by first | omega | (simp only [nowR]; omega)) rn0)
                have kb_5 := kb_4.fr f5 (rnS (by first | omega | (simp only [nowR]; omega)) rn0) (rnS (by first | omega | (simp only [nowR]; omega)) rn0)
                have fl_5 := fl_4.fr f5 (rnS (by first | omega | (simp only [nowR]; omega)) rn0)
                have tb_5 := tb_4.fr f5 (rnS (by first | omega | (simp only [nowR]; omega)) rn0) (fun f9 hf9 => (rnS (by first | omega | (simp only [nowR]; omega)) rn0))
                refine wp_aload_n dX11_mark_147 rfl rfl ?_
                refine wp_cV0 1 20 [some _, none] dX11_mark_148 tX11_forgetFindings rfl (by decide) nX11_forgetFindings vX11_forgetFindings lX11_120 ⟨by decide, by decide⟩ (Nat.le_of_ble_eq_true rfl) zx_5.o (Nat.le_of_ble_eq_true rfl) rfl ?_
                refine forgetAll zx_5 kb_5 tb_5 (fun hh6 f6 g6 => ?_)
                intro _ _
                have zx_6 := zx_5.fr f6 (rnS (by first | omega | (simp only [nowR]; omega)) (rnS (by first | omega | (simp only [nowR]; omega)) (rnS (by first | omega | (simp only [nowR]; omega)) (rnS (by first | omega | (simp only [nowR]; omega)) (rnS (by first | omega | (simp only [nowR]; omega)) rn0)))))
                have kb_6 := kb_5.fr f6 (rnS (by first | omega | (simp only [nowR]; omega)) (rnS (by first | omega | (simp only [nowR]; omega)) (rnS (by first | omega | (simp only [nowR]; omega)) (rnS (by first | omega | (simp only [nowR]; omega)) (rnS (by first | omega | (simp only [nowR]; omega)) rn0))))) (rnS (by first | omega | (simp only [nowR]; omega)) (rnS (by first | omega | (simp only [nowR]; omega)) (rnS (by first | omega | (simp only [nowR]; omega)) (rnS (by first | omega | (simp only [nowR]; omega)) (rnS (by first | omega | (simp only [nowR]; omega)) rn0)))))
                have fl_6 := fl_5.fr f6 (rnS (by first | omega | (simp only [nowR]; omega)) (rnS (by first | omega | (simp only [nowR]; omega)) (rnS (by first | omega | (simp only [nowR]; omega)) (rnS (by first | omega | (simp only [nowR]; omega)) (rnS (by first | omega | (simp only [nowR]; omega)) rn0)))))
                have zs9_6 := zs9_5.fr f6 (rnS (by first | omega | (simp only [nowR]; omega)) (rnS (by first | omega | (simp only [nowR]; omega)) (rnS (by first | omega | (simp only [nowR]; omega)) (rnS (by first | omega | (simp only [nowR]; omega)) (rnS (by first | omega | (simp only [nowR]; omega)) rn0)))))
                refine wp_aload dX11_mark_151 rfl ?_
                refine wp_getR dX11_mark_153 lX11_202 rfl zs9_6.o zs9_6.r2 ?_
                refine wp_iload dX11_mark_156 rfl ?_
                refine wp_laldV dX11_mark_158 zs9_6.a2 rfl ⟨by omega, by omega⟩ (congrFun zs9_6.c2 _) ?_
                refine wp_cS1 0 0 [some _, none] dX11_mark_159 tJ13_bitCount_95d88 sJ13_bitCount_95d88 lX11_216 ⟨by decide, by decide⟩ (Nat.le_of_ble_eq_true rfl) (Nat.le_of_ble_eq_true rfl) rfl ?_
                rw [up1_at]
                refine pJ13_bitCount_95d88 (Nat.lt_trans (bsA_lt hd9 (by omega) (by omega)).1 (by decide)) ?_
                intro _ _
                rw [pop_mk hd9 (by omega) (by omega), show rM (mkR r f2 p1 i9 j9) f2 p1 = rM r f2 p1 + 1 by rw [← mkL_len, em9, List.length_append, mkL_len]; rfl]
                refine wp_ireturn dX11_mark_162 rfl ?_
                have fS := (f4.tr f5)
                have sx9 := rg3.st.marks hd zs9 fS (rnS (by first | omega | (simp only [nowR]; omega)) rn0) zs9_5 (r' := mkR r f2 p1 i9 j9) (fun y hy => mk_out ok9.2.1 (by unfold rX; omega)) (mk_bs hd (by omega) (by omega) ok9.2.1 hbs9)
                have rg9 := (rg3.set ho3 (by have := c.od.2; unfold actN; split <;> omega) fS sx9).fr f6 (by decide) (fun j hj => by simp; omega)
                exact h1 _ _ _ _ (by omega) (by omega) (by omega) (by omega) rfl rfl rfl rfl ok9 _ _ (((f3.up (by decide) (Nat.le_refl _)).tr (fS.up (ring_act _) (Nat.le_refl _))).tr (f6.up (by decide) (Nat.le_refl _))) (c.act (((f3.up (by decide) (Nat.le_refl _)).tr (fS.up (ring_act _) (Nat.le_refl _))).tr (f6.up (by decide) (Nat.le_refl _))) ((zh3.fr fS (rnS (by first | omega | (simp only [nowR]; omega)) rn0)).fr f6 (by decide)) rg9 ⟨ho3, by have := c.od.2; unfold actN; split <;> omega⟩ g6)
              · intro _ _
                refine wp_if_ne dX11_mark_104 (fun q => absurd q (by decide +kernel)) (fun _ => ?_)
                refine wp_iconst (v := (-1)) dX11_mark_107 (by decide +kernel) ?_
                refine wp_ireturn dX11_mark_108 rfl ?_
                first | exact h0 (mkF6 hd (by omega) (by omega) hij9 hj9 (fun z => rm9 z.1)) | exact h0 (mkF6 hd (by omega) (by omega) hij9 hj9 (fun z => wi9 z.2))
            · intro _ _
              refine wp_if_ne dX11_mark_84 (fun q => absurd q (by decide +kernel)) (fun _ => ?_)
              refine wp_iconst (v := (-1)) dX11_mark_87 (by decide +kernel) ?_
              refine wp_ireturn dX11_mark_88 rfl ?_
              first | exact h0 (mkF6 hd (by omega) (by omega) hij9 hj9 (fun z => rm9 z.1)) | exact h0 (mkF6 hd (by omega) (by omega) hij9 hj9 (fun z => wi9 z.2))
          · refine wp_iconst (v := (-1)) dX11_mark_53 (by decide +kernel) ?_
            refine wp_ireturn dX11_mark_54 rfl ?_
            first | exact h0 (mkF3 hd (by assumption)) | exact h0 (mkF4 hd (by assumption)) | exact h0 (mkF5 hd (by omega) (by assumption))
    · intro _ _
      refine wp_if_eq dX11_mark_30 (fun _ => ?_) (fun q => absurd q (by decide +kernel))
      refine wp_iconst (v := (-1)) dX11_mark_53 (by decide +kernel) ?_
      refine wp_ireturn dX11_mark_54 rfl ?_
      exact h0 (mkF2 hd xn2)
  · intro _ _
    refine wp_astoreN (ls1 := [_, _, _, _, _, _, some _, _, _]) dX11_mark_15 (by decide) rfl ?_
    refine wp_aloadN dX11_mark_17 rfl ?_
    refine wp_ifnullN dX11_mark_19 ?_
    refine wp_iconst (v := (-1)) dX11_mark_53 (by decide +kernel) ?_
    refine wp_ireturn dX11_mark_54 rfl ?_
    exact h0 (mkF1 hd xn1)
