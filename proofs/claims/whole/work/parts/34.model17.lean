/-! ===== writes are sealed: what they leave, what is new ===== -/
theorem sealI {M : mM} {fr lo pc : Nat} {ls : List (Option Value)} {st : List Value} {h : mH} {Q : Option Value → mH → Prop} {k : Nat} {v : Int32} (K : ∀ h', mFr (mP [k] []) h h' → hI h' 153 k = v → Wp M fr lo pc ls st h' Q) : Wp M fr lo pc ls st (sI h 153 k v) Q := K _ (mFr.rf.sI _ (Or.inl ⟨rfl, List.mem_singleton.mpr rfl⟩)) (by rw [hI_sI, if_pos ⟨rfl, rfl⟩])
theorem sealL {M : mM} {fr lo pc : Nat} {ls : List (Option Value)} {st : List Value} {h : mH} {Q : Option Value → mH → Prop} {k : Nat} {v : Int64} (K : ∀ h', mFr (mP [k] []) h h' → hL h' 153 k = v → Wp M fr lo pc ls st h' Q) : Wp M fr lo pc ls st (sL h 153 k v) Q := K _ (mFr.rf.sL _ (Or.inl ⟨rfl, List.mem_singleton.mpr rfl⟩)) (by rw [hL_sL, if_pos ⟨rfl, rfl⟩])
theorem sealAI {M : mM} {fr lo pc : Nat} {ls : List (Option Value)} {st : List Value} {h : mH} {Q : Option Value → mH → Prop} {a j : Nat} {v : Int32} {T : Nat → Int32} (e : hI h a = T) (K : ∀ h', mFr (mP [] [a]) h h' → hI h' a = upI T j v → Wp M fr lo pc ls st h' Q) : Wp M fr lo pc ls st (sI h a j v) Q := K _ (mFr.rf.sI _ (Or.inr (List.mem_singleton.mpr rfl))) (by rw [hI_up, e])
theorem sealAL {M : mM} {fr lo pc : Nat} {ls : List (Option Value)} {st : List Value} {h : mH} {Q : Option Value → mH → Prop} {a j : Nat} {v : Int64} {T : Nat → Int64} (e : hL h a = T) (K : ∀ h', mFr (mP [] [a]) h h' → hL h' a = up1 T j v → Wp M fr lo pc ls st h' Q) : Wp M fr lo pc ls st (sL h a j v) Q := K _ (mFr.rf.sL _ (Or.inr (List.mem_singleton.mpr rfl))) (by rw [hL_up, e])
/-! ===== lines of a book ===== -/
def rdS (h : mH) (f : Nat) (nm : Nat → Int64) (rp mn : Nat → Int32) (P : Nat) (ct : Nat → Nat) (rw : Nat → Nat → Int64) : Prop := hI h 153 19 = nI f ∧ (∀ k, k < f → hL h 155 k = nm k ∧ hI h 157 k = rp k ∧ hI h 160 k = mn k) ∧ hI h 153 20 = nI P ∧ ∀ p, p < P → hI h 158 p = nI (ct p) ∧ ∀ j, j < ct p → hL h 156 (40 * p + j) = rw p j
theorem rdS.fr {h h1 : mH} {f : Nat} {nm : Nat → Int64} {rp mn : Nat → Int32} {P : Nat} {ct : Nat → Nat} {rw : Nat → Nat → Int64} {F A : List Nat} (q : rdS h f nm rp mn P ct rw) (g : mFr (mP F A) h h1) (q1 : 19 ∉ F ∧ 20 ∉ F) (q2 : 153 ∉ A ∧ 155 ∉ A ∧ 156 ∉ A ∧ 157 ∉ A ∧ 158 ∉ A ∧ 160 ∉ A) : rdS h1 f nm rp mn P ct rw := by
  refine ⟨(g.fI 19 q1.1 q2.1).trans q.1, ?_, (g.fI 20 q1.2 q2.1).trans q.2.2.1, ?_⟩
  · rw [g.Lr (by decide) q2.2.1, g.Ir (by decide) q2.2.2.2.1, g.Ir (by decide) q2.2.2.2.2.2]
    exact q.2.1
  · rw [g.Ir (by decide) q2.2.2.2.2.1, g.Lr (by decide) q2.2.2.1]
    exact q.2.2.2
def unq (nm : Nat → Int64) (f : Nat) : Prop := ∀ i j, i < f → j < f → nm i = nm j → i = j
def lpar (nm : Nat → Int64) (mn : Nat → Int32) (w : Int64) (f : Nat) (v : Int32) : Prop := (v = -1 ∧ ∀ j, j < f → ¬ (nm j = w ∧ mn j = 0)) ∨ ∃ j, j < f ∧ v = nI j ∧ nm j = w ∧ mn j = 0
def pH (tb : Nat → Int32) (N a : Nat) (nm : Nat → Int64) (mn : Nat → Int32) (f : Nat) : Except (Nat × Nat) Nat := if isNm tb N a = true then (match fdN nm f (tW tb N a) with
    | some p => if mn p = 0 then .ok p else .error (3, tP tb N a)
    | none => .error (3, tP tb N a)) else .error (bd tb N 2 a, tP tb N a)
theorem lO_ok {tb : Nat → Int32} {N a : Nat} {nm : Nat → Int64} {mn : Nat → Int32} {f p : Nat} (h : pH tb N a nm mn f = .ok p) : lO tb N a nm mn f = lM tb N (tE tb N a) (nI p) := by
  unfold pH at h
  unfold lO
  split at h
  · rename_i c
    rw [if_pos c]
    split at h
    · rename_i q e
      split at h
      · rename_i c2
        rw [e]
        show (if mn q = 0 then _ else _) = _
        rw [if_pos c2]
        injection h with h
        rw [h]
      · cases h
    · cases h
  · cases h
theorem lO_er {tb : Nat → Int32} {N a : Nat} {nm : Nat → Int64} {mn : Nat → Int32} {f fa pl : Nat} (h : pH tb N a nm mn f = .error (fa, pl)) : lO tb N a nm mn f = .error (fa, pl) := by
  unfold pH at h
  unfold lO
  split at h
  · rename_i c
    rw [if_pos c]
    split at h
    · rename_i q e
      split at h
      · cases h
      · rename_i c2
        rw [e]
        show (if mn q = 0 then _ else _) = _
        rw [if_neg c2]
        cases h
        rfl
    · rename_i e
      rw [e]
      cases h
      rfl
  · rename_i c
    rw [if_neg c]
    cases h
    rfl
theorem fdN_some {nm : Nat → Int64} {f p : Nat} {w : Int64} (h : fdN nm f w = some p) : p < f ∧ nm p = w := by
  have := fst1_some h
  exact ⟨this.2.1, of_decide_eq_true this.2.2.1⟩
theorem fdN_none {nm : Nat → Int64} {f : Nat} {w : Int64} (h : fdN nm f w = none) : ∀ j, j < f → ¬ nm j = w := fun j hj => of_decide_eq_false (fI_none _ _ h j (by omega) (by omega))
theorem fdN_of {nm : Nat → Int64} {f p : Nat} {w : Int64} (hp : p < f) (e : nm p = w) (hb : ∀ j, j < p → ¬ nm j = w) : fdN nm f w = some p := by
  cases h : fdN nm f w with
  | none => exact absurd e (fdN_none h p hp)
  | some q =>
    have h2 := fst1_some h
    rcases Nat.lt_trichotomy p q with z | z | z
    · exact absurd (h2.2.2.2 p (by omega) z) (by rw [decide_eq_true e]; decide)
    · rw [z]
    · exact absurd (of_decide_eq_true h2.2.2.1) (hb q z)
theorem fdN_no {nm : Nat → Int64} {f : Nat} {w : Int64} (hb : ∀ j, j < f → ¬ nm j = w) : fdN nm f w = none := by
  cases h : fdN nm f w with
  | none => rfl
  | some q => exact absurd (fdN_some h).2 (hb q (fdN_some h).1)
theorem pH_of {tb : Nat → Int32} {N a : Nat} {nm : Nat → Int64} {mn : Nat → Int32} {f : Nat} {v : Int32} (hu : unq nm f) (hm : isNm tb N a = true) (h : lpar nm mn (tW tb N a) f v) : (v = -1 ∧ pH tb N a nm mn f = .error (3, tP tb N a)) ∨ ∃ j, j < f ∧ v = nI j ∧ pH tb N a nm mn f = .ok j := by
  unfold pH
  rw [if_pos hm]
  rcases h with ⟨e, h⟩ | ⟨j, hj, e, h1, h2⟩
  · refine Or.inl ⟨e, ?_⟩
    cases q : fdN nm f (tW tb N a) with
    | none => rfl
    | some p =>
      have := fdN_some q
      show (if mn p = 0 then _ else _) = _
      rw [if_neg (fun z => h p this.1 ⟨this.2, z⟩)]
  · refine Or.inr ⟨j, hj, e, ?_⟩
    rw [fdN_of hj h1 (fun i hi z => absurd (hu i j (by omega) hj (z.trans h1.symm)) (by omega))]
    show (if mn j = 0 then _ else _) = _
    rw [if_pos h2]
theorem isNm_S {tb : Nat → Int32} {N a : Nat} (h : isNm tb N a = true) : tS tb N a = 1 := (of_decide_eq_true h).1
theorem bd_w {tb : Nat → Int32} {N k a : Nat} (h : tS tb N a = 1) : bd tb N k a = k := by
  unfold bd
  rw [if_neg (by omega)]
set_option maxRecDepth 20000 in
theorem parent_loop {h : mH} {Q : Option Value → mH → Prop} {nm : Nat → Int64} {mn : Nat → Int32} {f : Nat} {w : Int64} (hs : mS h) (hf : f ≤ 4) (h19 : hI h 153 19 = nI f) (hn : ∀ k, k < f → hL h 155 k = nm k) (hm : ∀ k, k < f → hI h 160 k = mn k) (K : ∀ v, lpar nm mn w f v → Wp mX12_parentHere 2 43 50 [some (.ref 153), some (.long w), none, some (.int v), some (.int (nI f))] [] h Q) : Wp mX12_parentHere 2 43 10 [some (.ref 153), some (.long w), none, some (.int (-1)), some (.int (nI 0))] [] h Q := by
  have hloop : ∀  (n : Nat) (k : Nat) (v : Int32), (k ≤ f) → (lpar nm mn w k v) → (f < k + n) → Wp mX12_parentHere 2 43 10 [some (.ref 153), some (.long w), none, some (.int v), some (.int (nI k))] [] h Q := by
    intro n
    induction n with
    | zero => intros; omega
    | succ n ih =>
      intro k v hk hv hmz
      refine wp_iload dX12_parentHere_10 rfl ?_
      refine wp_aload_n dX12_parentHere_12 rfl rfl ?_
      refine wp_getIV dX12_parentHere_13 lX12_206 rfl (mO hs) h19 ?_
      refine wp_icmp_geN dX12_parentHere_16 rfl rfl ⟨by omega, by omega⟩ (fun c1 => ?_) (fun c1 => ?_)
      · have e9 : k = f := by omega
        subst e9
        exact K _ hv
      · refine wp_aload_n dX12_parentHere_19 rfl rfl ?_
        refine wp_getR dX12_parentHere_20 lX12_20 rfl (mO hs) (mR_readName hs) ?_
        refine wp_iload dX12_parentHere_23 rfl ?_
        refine wp_laldV dX12_parentHere_25 (mA_readName hs) rfl ⟨by omega, by decide⟩ (hn k (by omega)) ?_
        refine wp_lload_n dX12_parentHere_26 rfl rfl ?_
        refine wp_lc_ne dX12_parentHere_27 dX12_parentHere_28 (fun c2 => ?_) (fun c2 => ?_)
        · refine wp_iinc1 (ls1 := [_, _, _, _, some _]) dX12_parentHere_44 rfl (by decide) rfl ?_
          refine wp_goto dX12_parentHere_47 ?_
          refine ih (k + 1) _ (by omega) ?_ (by omega)
          rcases hv with ⟨e9, hv⟩ | ⟨j, hj, z⟩
          · refine Or.inl ⟨e9, fun j hj z => ?_⟩
            rcases Nat.lt_or_eq_of_le (show j ≤ k by omega) with z1 | z1
            · exact hv j z1 z
            · subst z1
              first | exact absurd z.1 (by assumption) | exact absurd z.2 (by assumption)
          · exact Or.inr ⟨j, by omega, z⟩
        · refine wp_aload_n dX12_parentHere_31 rfl rfl ?_
          refine wp_getR dX12_parentHere_32 lX12_36 rfl (mO hs) (mR_readMany hs) ?_
          refine wp_iload dX12_parentHere_35 rfl ?_
          refine wp_zaldV dX12_parentHere_37 (mA_readMany hs) rfl ⟨by omega, by decide⟩ (hm k (by omega)) ?_
          refine wp_if_ne dX12_parentHere_38 (fun c3 => ?_) (fun c3 => ?_)
          · refine wp_iinc1 (ls1 := [_, _, _, _, some _]) dX12_parentHere_44 rfl (by decide) rfl ?_
            refine wp_goto dX12_parentHere_47 ?_
            refine ih (k + 1) _ (by omega) ?_ (by omega)
            rcases hv with ⟨e9, hv⟩ | ⟨j, hj, z⟩
            · refine Or.inl ⟨e9, fun j hj z => ?_⟩
              rcases Nat.lt_or_eq_of_le (show j ≤ k by omega) with z1 | z1
              · exact hv j z1 z
              · subst z1
                first | exact absurd z.1 (by assumption) | exact absurd z.2 (by assumption)
            · exact Or.inr ⟨j, by omega, z⟩
          · refine wp_iload dX12_parentHere_41 rfl ?_
            refine wp_istore_n (ls1 := [_, _, _, some _, _]) dX12_parentHere_43 rfl (by decide) rfl ?_
            refine wp_iinc1 (ls1 := [_, _, _, _, some _]) dX12_parentHere_44 rfl (by decide) rfl ?_
            refine wp_goto dX12_parentHere_47 ?_
            refine ih (k + 1) _ (by omega) ?_ (by omega)
            exact Or.inr ⟨k, by omega, rfl, by assumption, by assumption⟩
  exact hloop (f + 1) 0 (-1) (by omega) (Or.inl ⟨rfl, fun j hj => by omega⟩) (by omega)
set_option maxRecDepth 20000 in
theorem pX12_parentHere {h : mH} {Q : Option Value → mH → Prop} {tb : Nat → Int32} {N a f : Nat} {nm : Nat → Int64} {mn : Nat → Int32} (hg : pG h tb N a) (hf : f ≤ 4) (hu : unq nm f) (h19 : hI h 153 19 = nI f) (hn : ∀ k, k < f → hL h 155 k = nm k) (hm : ∀ k, k < f → hI h 160 k = mn k) (he : ∀ fa pl, pH tb N a nm mn f = .error (fa, pl) → ∀ h', mFr (mP [3, 4, 5, 6, 7, 8, 11] []) h h' → pB h' fa pl → ∀ v, Q (some (.int v)) h') (hq : ∀ p, p < f → pH tb N a nm mn f = .ok p → ∀ h', mFr (mP [3, 4, 5, 6, 7, 8, 11] []) h h' → pG h' tb N (tE tb N a) → hI h' 153 8 = hI h 153 8 → Q (some (.int (nI p))) h') : Wp mX12_parentHere 2 43 0 [some (.ref 153), none, none, none, none] [] h Q := by
  refine wp_aload_n dX12_parentHere_0 rfl rfl ?_
  refine wp_cV0 1 21 [some _] dX12_parentHere_1 tX12_nameHere rfl (by decide) nX12_nameHere vX12_nameHere lX12_216 ⟨by decide, by decide⟩ (Nat.le_of_ble_eq_true rfl) (mO hg.1.1) (Nat.le_of_ble_eq_true rfl) rfl ?_
  refine pX12_nameHere hg (fun nm1 => ?_) (fun nm1 hh1 f1 b1 w1 => ?_)
  · intro _ _
    refine wp_lstore_n (ls1 := [_, some _, _, _, _]) dX12_parentHere_4 rfl (by decide) rfl ?_
    refine wp_iconst (v := (-1)) dX12_parentHere_5 (by decide +kernel) ?_
    refine wp_istore_n (ls1 := [_, _, _, some _, _]) dX12_parentHere_6 rfl (by decide) rfl ?_
    refine wp_iconst (v := (nI 0)) dX12_parentHere_7 (by decide +kernel) ?_
    refine wp_istore (ls1 := [_, _, _, _, some _]) dX12_parentHere_8 (by decide) rfl ?_
    refine parent_loop hg.1.1 hf h19 (fun k hk => (hn k hk)) (fun k hk => (hm k hk)) (fun v2 hv2 => ?_)
    rcases pH_of hu nm1 hv2 with ⟨e8, e9⟩ | ⟨j, hj, e8, e9⟩ <;> subst e8
    · refine wp_aload_n dX12_parentHere_50 rfl rfl ?_
      refine wp_cV0 0 0 [some _] dX12_parentHere_51 tX12_isGood rfl (by decide) nX12_isGood vX12_isGood lX12_212 ⟨by decide, by decide⟩ (Nat.le_of_ble_eq_true rfl) (mO hg.1.1) (Nat.le_of_ble_eq_true rfl) rfl ?_
      refine wp_aload_n dX12_isGood_0 rfl rfl ?_
      refine wp_getIV dX12_isGood_1 lX12_184 rfl (mO hg.1.1) hg.2.2.1 ?_
      refine wp_if_ne dX12_isGood_4 (fun q => absurd q (by decide +kernel)) (fun _ => ?_)
      refine wp_iconst (v := (nI 1)) dX12_isGood_7 (by decide +kernel) ?_
      refine wp_goto dX12_isGood_8 ?_
      refine wp_zreturn dX12_isGood_12 rfl (Or.inr rfl) ?_
      intro _ _
      refine wp_if_eq dX12_parentHere_54 (fun q => absurd q (by decide +kernel)) (fun _ => ?_)
      refine wp_iload_n dX12_parentHere_57 rfl rfl ?_
      refine wp_iconst (v := (-1)) dX12_parentHere_58 (by decide +kernel) ?_
      refine wp_icmp_ne dX12_parentHere_59 (fun q => absurd q (by decide +kernel)) (fun _ => ?_)
      refine wp_aload_n dX12_parentHere_62 rfl rfl ?_
      refine wp_iconst (v := (nI 3)) dX12_parentHere_63 (by decide +kernel) ?_
      refine wp_cV1 0 0 [some _, some _] dX12_parentHere_64 tX12_wrong rfl (by decide) nX12_wrong vX12_wrong lX12_197 ⟨by decide, by decide⟩ (Nat.le_of_ble_eq_true rfl) (mO hg.1.1) (Nat.le_of_ble_eq_true rfl) rfl ?_
      refine pX12_wrong hg (by decide) (fun hh3 f3 b3 => ?_)
      intro _ _
      have efI19_3 := (f3.fI 19 (by decide) (by decide)).trans h19
      refine wp_aload_n dX12_parentHere_67 rfl rfl ?_
      refine wp_cV0 0 0 [some _] dX12_parentHere_68 tX12_isGood rfl (by decide) nX12_isGood vX12_isGood lX12_212 ⟨by decide, by decide⟩ (Nat.le_of_ble_eq_true rfl) (mO b3.1) (Nat.le_of_ble_eq_true rfl) rfl ?_
      refine wp_aload_n dX12_isGood_0 rfl rfl ?_
      refine wp_getIV dX12_isGood_1 lX12_184 rfl (mO b3.1) b3.2.1 ?_
      refine wp_if_neN dX12_isGood_4 rfl (by have := b3.2.2.2.1; omega) (fun _ => ?_) (fun q9 => absurd q9 (by have := b3.2.2.1; omega))
      refine wp_iconst (v := (nI 0)) dX12_isGood_11 (by decide +kernel) ?_
      refine wp_zreturn dX12_isGood_12 rfl (Or.inl rfl) ?_
      intro _ _
      refine wp_if_eq dX12_parentHere_71 (fun _ => ?_) (fun q => absurd q (by decide +kernel))
      refine wp_iload_n dX12_parentHere_78 rfl rfl ?_
      refine wp_ireturn dX12_parentHere_79 rfl ?_
      exact he _ _ e9 _ (f3.up (by decide) (by decide)) (by rw [bd_w (isNm_S nm1)] at b3; exact b3) _
    · refine wp_aload_n dX12_parentHere_50 rfl rfl ?_
      refine wp_cV0 0 0 [some _] dX12_parentHere_51 tX12_isGood rfl (by decide) nX12_isGood vX12_isGood lX12_212 ⟨by decide, by decide⟩ (Nat.le_of_ble_eq_true rfl) (mO hg.1.1) (Nat.le_of_ble_eq_true rfl) rfl ?_
      refine wp_aload_n dX12_isGood_0 rfl rfl ?_
      refine wp_getIV dX12_isGood_1 lX12_184 rfl (mO hg.1.1) hg.2.2.1 ?_
      refine wp_if_ne dX12_isGood_4 (fun q => absurd q (by decide +kernel)) (fun _ => ?_)
      refine wp_iconst (v := (nI 1)) dX12_isGood_7 (by decide +kernel) ?_
      refine wp_goto dX12_isGood_8 ?_
      refine wp_zreturn dX12_isGood_12 rfl (Or.inr rfl) ?_
      intro _ _
      refine wp_if_eq dX12_parentHere_54 (fun q => absurd q (by decide +kernel)) (fun _ => ?_)
      refine wp_iload_n dX12_parentHere_57 rfl rfl ?_
      refine wp_iconst (v := (-1)) dX12_parentHere_58 (by decide +kernel) ?_
      refine wp_icmp_ne dX12_parentHere_59 (fun _ => ?_) (fun q => absurd q (nI_ne_m1 (by omega)))
      refine wp_aload_n dX12_parentHere_67 rfl rfl ?_
      refine wp_cV0 0 0 [some _] dX12_parentHere_68 tX12_isGood rfl (by decide) nX12_isGood vX12_isGood lX12_212 ⟨by decide, by decide⟩ (Nat.le_of_ble_eq_true rfl) (mO hg.1.1) (Nat.le_of_ble_eq_true rfl) rfl ?_
      refine wp_aload_n dX12_isGood_0 rfl rfl ?_
      refine wp_getIV dX12_isGood_1 lX12_184 rfl (mO hg.1.1) hg.2.2.1 ?_
      refine wp_if_ne dX12_isGood_4 (fun q => absurd q (by decide +kernel)) (fun _ => ?_)
      refine wp_iconst (v := (nI 1)) dX12_isGood_7 (by decide +kernel) ?_
      refine wp_goto dX12_isGood_8 ?_
      refine wp_zreturn dX12_isGood_12 rfl (Or.inr rfl) ?_
      intro _ _
      refine wp_if_eq dX12_parentHere_71 (fun q => absurd q (by decide +kernel)) (fun _ => ?_)
      refine wp_aload_n dX12_parentHere_74 rfl rfl ?_
      refine wp_cV0 1 21 [some _, none, none] dX12_parentHere_75 tX12_goOn rfl (by decide) nX12_goOn vX12_goOn lX12_200 ⟨by decide, by decide⟩ (Nat.le_of_ble_eq_true rfl) (mO hg.1.1) (Nat.le_of_ble_eq_true rfl) rfl ?_
      refine pX12_goOn hg (fun hh4 f4 g4 => ?_)
      intro _ _
      have efI19_4 := (f4.fI 19 (by decide) (by decide)).trans h19
      have efI8_4 := (f4.fI 8 (by decide) (by decide)).trans (rfl : hI h 153 8 = hI h 153 8)
      refine wp_iload_n dX12_parentHere_78 rfl rfl ?_
      refine wp_ireturn dX12_parentHere_79 rfl ?_
      exact hq _ hj e9 _ (f4.up (by decide) (by decide)) g4 efI8_4
  · intro _ _
    have efI19_1 := (f1.fI 19 (by decide) (by decide)).trans h19
    refine wp_lstore_n (ls1 := [_, some _, _, _, _]) dX12_parentHere_4 rfl (by decide) rfl ?_
    refine wp_iconst (v := (-1)) dX12_parentHere_5 (by decide +kernel) ?_
    refine wp_istore_n (ls1 := [_, _, _, some _, _]) dX12_parentHere_6 rfl (by decide) rfl ?_
    refine wp_iconst (v := (nI 0)) dX12_parentHere_7 (by decide +kernel) ?_
    refine wp_istore (ls1 := [_, _, _, _, some _]) dX12_parentHere_8 (by decide) rfl ?_
    refine parent_loop b1.1 hf efI19_1 (fun k hk => (congrFun (f1.Lr (by decide) (by decide)) k).trans (hn k hk)) (fun k hk => (congrFun (f1.Ir (by decide) (by decide)) k).trans (hm k hk)) (fun v5 hv5 => ?_)
    refine wp_aload_n dX12_parentHere_50 rfl rfl ?_
    refine wp_cV0 0 0 [some _] dX12_parentHere_51 tX12_isGood rfl (by decide) nX12_isGood vX12_isGood lX12_212 ⟨by decide, by decide⟩ (Nat.le_of_ble_eq_true rfl) (mO b1.1) (Nat.le_of_ble_eq_true rfl) rfl ?_
    refine wp_aload_n dX12_isGood_0 rfl rfl ?_
    refine wp_getIV dX12_isGood_1 lX12_184 rfl (mO b1.1) b1.2.1 ?_
    refine wp_if_neN dX12_isGood_4 rfl (by have := b1.2.2.2.1; omega) (fun _ => ?_) (fun q9 => absurd q9 (by have := b1.2.2.1; omega))
    refine wp_iconst (v := (nI 0)) dX12_isGood_11 (by decide +kernel) ?_
    refine wp_zreturn dX12_isGood_12 rfl (Or.inl rfl) ?_
    intro _ _
    refine wp_if_eq dX12_parentHere_54 (fun _ => ?_) (fun q => absurd q (by decide +kernel))
    refine wp_aload_n dX12_parentHere_67 rfl rfl ?_
    refine wp_cV0 0 0 [some _] dX12_parentHere_68 tX12_isGood rfl (by decide) nX12_isGood vX12_isGood lX12_212 ⟨by decide, by decide⟩ (Nat.le_of_ble_eq_true rfl) (mO b1.1) (Nat.le_of_ble_eq_true rfl) rfl ?_
    refine wp_aload_n dX12_isGood_0 rfl rfl ?_
    refine wp_getIV dX12_isGood_1 lX12_184 rfl (mO b1.1) b1.2.1 ?_
    refine wp_if_neN dX12_isGood_4 rfl (by have := b1.2.2.2.1; omega) (fun _ => ?_) (fun q9 => absurd q9 (by have := b1.2.2.1; omega))
    refine wp_iconst (v := (nI 0)) dX12_isGood_11 (by decide +kernel) ?_
    refine wp_zreturn dX12_isGood_12 rfl (Or.inl rfl) ?_
    intro _ _
    refine wp_if_eq dX12_parentHere_71 (fun _ => ?_) (fun q => absurd q (by decide +kernel))
    refine wp_iload_n dX12_parentHere_78 rfl rfl ?_
    refine wp_ireturn dX12_parentHere_79 rfl ?_
    exact he _ _ (by unfold pH; rw [if_neg (by rw [nm1]; decide)]) _ (f1.up (by decide) (by decide)) b1 _
theorem upI_at (r : Nat → Int32) (k : Nat) (v : Int32) : upI r k v k = v := if_pos rfl
theorem upI_ne {r : Nat → Int32} {k y : Nat} {v : Int32} (h : y ≠ k) : upI r k v y = r y := if_neg h
theorem up1_at (r : Nat → Int64) (k : Nat) (v : Int64) : up1 r k v k = v := if_pos rfl
theorem up1_ne {r : Nat → Int64} {k y : Nat} {v : Int64} (h : y ≠ k) : up1 r k v y = r y := if_neg h
theorem rdS_fl {h h' : mH} {f : Nat} {nm : Nat → Int64} {rp mn : Nat → Int32} {P : Nat} {ct : Nat → Nat} {rw : Nat → Nat → Int64} {T1 T2 : Nat → Int32} {w : Int64} {p m : Int32} (hr : rdS h f nm rp mn P ct rw) (e19 : hI h' 153 19 = nI (f + 1)) (e20 : hI h' 153 20 = nI P) (eN : hL h' 155 = up1 (hL h 155) f w) (eP : hI h' 157 = T1) (hP : T1 f = p ∧ ∀ k, k < f → T1 k = hI h 157 k) (eM : hI h' 160 = T2) (hM : T2 f = m ∧ ∀ k, k < f → T2 k = hI h 160 k) (e156 : hL h' 156 = hL h 156) (e158 : hI h' 158 = hI h 158) : rdS h' (f + 1) (up1 nm f w) (upI rp f p) (upI mn f m) P ct rw := by
  refine ⟨e19, fun k hk => ?_, e20, ?_⟩
  · rw [eN, eP, eM]
    by_cases e : k = f
    · subst e
      rw [up1_at, up1_at, upI_at, upI_at]
      exact ⟨rfl, hP.1, hM.1⟩
    · rw [up1_ne e, up1_ne e, upI_ne e, upI_ne e, hP.2 k (by omega), hM.2 k (by omega)]
      exact hr.2.1 k (by omega)
  · rw [e156, e158]
    exact hr.2.2.2
theorem rnF_eq {P : Nat → Bool} : ∀ (m a n : Nat), a ≤ n → n ≤ a + m → (∀ j, a ≤ j → j < n → P j = true) → (n = a + m ∨ P n = false) → rnF P m a = n
  | 0, a, n, h1, h2, _, _ => by
    unfold rnF
    omega
  | m + 1, a, n, h1, h2, h3, h4 => by
    unfold rnF
    by_cases e : a = n
    · subst e
      rcases h4 with h4 | h4
      · omega
      · rw [if_neg (by rw [h4]; decide)]
    · rw [if_pos (h3 a (by omega) (by omega))]
      exact rnF_eq m (a + 1) n (by omega) (by omega) (fun j q => h3 j (by omega)) (by rcases h4 with h4 | h4; exact Or.inl (by omega); exact Or.inr h4)
set_option maxRecDepth 20000 in
theorem names_loop {h : mH} {Q : Option Value → mH → Prop} {tb : Nat → Int32} {N a f : Nat} {nm : Nat → Int64} {w : Int64} (hg : pG h tb N a) (hs : tS tb N a = 1) (hf : f ≤ 4) (hn : ∀ k, k < f → hL h 155 k = nm k) (K1 : fdN nm f w = none → Wp mX12_fieldLine 3 67 70 [some (.ref 153), some (.int (nI f)), some (.long w), none, some (.int (nI f))] [] h Q) (K2 : ∀ j, fdN nm f w = some j → ∀ h', mFr (mP [7, 8] []) h h' → pB h' 3 (tP tb N a) → ∀ k, Wp mX12_fieldLine 3 67 70 [some (.ref 153), some (.int (nI f)), some (.long w), none, some (.int (nI k))] [] h' Q) : Wp mX12_fieldLine 3 67 34 [some (.ref 153), some (.int (nI f)), some (.long w), none, some (.int (nI 0))] [] h Q := by
  have hloop : ∀  (n : Nat) (k : Nat), (k ≤ f) → (∀ j, j < k → ¬ nm j = w) → (f < k + n) → Wp mX12_fieldLine 3 67 34 [some (.ref 153), some (.int (nI f)), some (.long w), none, some (.int (nI k))] [] h Q := by
    intro n
    induction n with
    | zero => intros; omega
    | succ n ih =>
      intro k hk hbef hmz
      refine wp_iload dX12_fieldLine_34 rfl ?_
      refine wp_iload_n dX12_fieldLine_36 rfl rfl ?_
      refine wp_icmp_geN dX12_fieldLine_37 rfl rfl ⟨by have := tS_le (tb := tb) (N := N) (a := a); omega, by omega⟩ (fun c1 => ?_) (fun c1 => ?_)
      · have e9 : k = f := by omega
        subst e9
        exact K1 (fdN_no hbef)
      · refine wp_aload_n dX12_fieldLine_40 rfl rfl ?_
        refine wp_cV0 0 0 [some _] dX12_fieldLine_41 tX12_isGood rfl (by decide) nX12_isGood vX12_isGood lX12_212 ⟨by decide, by decide⟩ (Nat.le_of_ble_eq_true rfl) (mO hg.1.1) (Nat.le_of_ble_eq_true rfl) rfl ?_
        refine wp_aload_n dX12_isGood_0 rfl rfl ?_
        refine wp_getIV dX12_isGood_1 lX12_184 rfl (mO hg.1.1) hg.2.2.1 ?_
        refine wp_if_ne dX12_isGood_4 (fun q => absurd q (by decide +kernel)) (fun _ => ?_)
        refine wp_iconst (v := (nI 1)) dX12_isGood_7 (by decide +kernel) ?_
        refine wp_goto dX12_isGood_8 ?_
        refine wp_zreturn dX12_isGood_12 rfl (Or.inr rfl) ?_
        intro _ _
        refine wp_if_eq dX12_fieldLine_44 (fun q => absurd q (by decide +kernel)) (fun _ => ?_)
        refine wp_aload_n dX12_fieldLine_47 rfl rfl ?_
        refine wp_getR dX12_fieldLine_48 lX12_20 rfl (mO hg.1.1) (mR_readName hg.1.1) ?_
        refine wp_iload dX12_fieldLine_51 rfl ?_
        refine wp_laldV dX12_fieldLine_53 (mA_readName hg.1.1) rfl ⟨by omega, by decide⟩ (hn k (by omega)) ?_
        refine wp_lload_n dX12_fieldLine_54 rfl rfl ?_
        refine wp_lc_ne dX12_fieldLine_55 dX12_fieldLine_56 (fun c4 => ?_) (fun c4 => ?_)
        · refine wp_iinc1 (ls1 := [_, _, _, _, some _]) dX12_fieldLine_64 rfl (by decide) rfl ?_
          refine wp_goto dX12_fieldLine_67 ?_
          refine ih (k + 1) (by omega) (lt_s hbef (by assumption)) (by omega)
        · refine wp_aload_n dX12_fieldLine_59 rfl rfl ?_
          refine wp_iconst (v := (nI 3)) dX12_fieldLine_60 (by decide +kernel) ?_
          refine wp_cV1 0 0 [some _, some _] dX12_fieldLine_61 tX12_wrong rfl (by decide) nX12_wrong vX12_wrong lX12_197 ⟨by decide, by decide⟩ (Nat.le_of_ble_eq_true rfl) (mO hg.1.1) (Nat.le_of_ble_eq_true rfl) rfl ?_
          refine pX12_wrong hg (by decide) (fun hh1 f1 b1 => ?_)
          intro _ _
          refine wp_iinc1 (ls1 := [_, _, _, _, some _]) dX12_fieldLine_64 rfl (by decide) rfl ?_
          refine wp_goto dX12_fieldLine_67 ?_
          refine wp_iload dX12_fieldLine_34 rfl ?_
          refine wp_iload_n dX12_fieldLine_36 rfl rfl ?_
          refine wp_icmp_geN dX12_fieldLine_37 rfl rfl ⟨by have := tS_le (tb := tb) (N := N) (a := a); omega, by omega⟩ (fun c5 => ?_) (fun c5 => ?_)
          · have fd := fdN_of (f := f) (by omega) (by assumption) hbef
            exact K2 _ fd _ (f1.up (by decide) (by decide)) (by rw [bd_w hs] at b1; exact b1) _
          · refine wp_aload_n dX12_fieldLine_40 rfl rfl ?_
            refine wp_cV0 0 0 [some _] dX12_fieldLine_41 tX12_isGood rfl (by decide) nX12_isGood vX12_isGood lX12_212 ⟨by decide, by decide⟩ (Nat.le_of_ble_eq_true rfl) (mO b1.1) (Nat.le_of_ble_eq_true rfl) rfl ?_
            refine wp_aload_n dX12_isGood_0 rfl rfl ?_
            refine wp_getIV dX12_isGood_1 lX12_184 rfl (mO b1.1) b1.2.1 ?_
            refine wp_if_neN dX12_isGood_4 rfl (by have := b1.2.2.2.1; omega) (fun _ => ?_) (fun q9 => absurd q9 (by have := b1.2.2.1; omega))
            refine wp_iconst (v := (nI 0)) dX12_isGood_11 (by decide +kernel) ?_
            refine wp_zreturn dX12_isGood_12 rfl (Or.inl rfl) ?_
            intro _ _
            refine wp_if_eq dX12_fieldLine_44 (fun _ => ?_) (fun q => absurd q (by decide +kernel))
            have fd := fdN_of (f := f) (by omega) (by assumption) hbef
            exact K2 _ fd _ (f1.up (by decide) (by decide)) (by rw [bd_w hs] at b1; exact b1) _
  exact hloop (f + 1) 0 (by omega) lt_0 (by omega)
set_option maxRecDepth 20000 in
theorem pX12_fieldLine {h : mH} {Q : Option Value → mH → Prop} {tb : Nat → Int32} {N a f : Nat} {nm : Nat → Int64} {rp mn : Nat → Int32} {P : Nat} {ct : Nat → Nat} {rw : Nat → Nat → Int64} (hg : pG h tb N a) (hr : rdS h f nm rp mn P ct rw) (hf : f < 4) (hu : unq nm f) (he : ∀ fa pl, lF tb N a nm mn f = .error (fa, pl) → ∀ h', mFr pwL h h' → pB h' fa pl → Q none h') (hq : ∀ a' p m, lF tb N a nm mn f = .ok (a', p, m) → ∀ h', mFr pwL h h' → pG h' tb N a' → rdS h' (f + 1) (up1 nm f (tW tb N (tE tb N a))) (upI rp f p) (upI mn f m) P ct rw → hI h' 153 8 = hI h 153 8 → Q none h') : Wp mX12_fieldLine 3 67 0 [some (.ref 153), none, none, none, none] [] h Q := by
  refine wp_aload_n dX12_fieldLine_0 rfl rfl ?_
  refine wp_getIV dX12_fieldLine_1 lX12_206 rfl (mO hg.1.1) hr.1 ?_
  refine wp_istore_n (ls1 := [_, some _, _, _, _]) dX12_fieldLine_4 rfl (by decide) rfl ?_
  refine wp_iload_n dX12_fieldLine_5 rfl rfl ?_
  refine wp_iconst (v := (nI 4)) dX12_fieldLine_6 (by decide +kernel) ?_
  refine wp_icmp_neN dX12_fieldLine_7 rfl rfl ⟨by omega, by omega⟩ (fun _ => ?_) (fun q9 => absurd q9 (by omega))
  refine wp_aload_n dX12_fieldLine_15 rfl rfl ?_
  refine wp_cV0 0 0 [some _] dX12_fieldLine_16 tX12_isGood rfl (by decide) nX12_isGood vX12_isGood lX12_212 ⟨by decide, by decide⟩ (Nat.le_of_ble_eq_true rfl) (mO hg.1.1) (Nat.le_of_ble_eq_true rfl) rfl ?_
  refine wp_aload_n dX12_isGood_0 rfl rfl ?_
  refine wp_getIV dX12_isGood_1 lX12_184 rfl (mO hg.1.1) hg.2.2.1 ?_
  refine wp_if_ne dX12_isGood_4 (fun q => absurd q (by decide +kernel)) (fun _ => ?_)
  refine wp_iconst (v := (nI 1)) dX12_isGood_7 (by decide +kernel) ?_
  refine wp_goto dX12_isGood_8 ?_
  refine wp_zreturn dX12_isGood_12 rfl (Or.inr rfl) ?_
  intro _ _
  refine wp_if_eq dX12_fieldLine_19 (fun q => absurd q (by decide +kernel)) (fun _ => ?_)
  refine wp_aload_n dX12_fieldLine_22 rfl rfl ?_
  refine wp_cV0 1 21 [some _, none, none] dX12_fieldLine_23 tX12_goOn rfl (by decide) nX12_goOn vX12_goOn lX12_200 ⟨by decide, by decide⟩ (Nat.le_of_ble_eq_true rfl) (mO hg.1.1) (Nat.le_of_ble_eq_true rfl) rfl ?_
  refine pX12_goOn hg (fun hh1 f1 g1 => ?_)
  intro _ _
  have efI19_1 := (f1.fI 19 (by decide) (by decide)).trans hr.1
  have efI20_1 := (f1.fI 20 (by decide) (by decide)).trans hr.2.2.1
  have efI8_1 := (f1.fI 8 (by decide) (by decide)).trans (rfl : hI h 153 8 = hI h 153 8)
  have eL155_1 := (f1.Lr (by decide) (by decide)).trans (rfl : hL h 155 = hL h 155)
  have eL156_1 := (f1.Lr (by decide) (by decide)).trans (rfl : hL h 156 = hL h 156)
  have eI157_1 := (f1.Ir (by decide) (by decide)).trans (rfl : hI h 157 = hI h 157)
  have eI158_1 := (f1.Ir (by decide) (by decide)).trans (rfl : hI h 158 = hI h 158)
  have eI160_1 := (f1.Ir (by decide) (by decide)).trans (rfl : hI h 160 = hI h 160)
  refine wp_aload_n dX12_fieldLine_26 rfl rfl ?_
  refine wp_cV0 1 21 [some _] dX12_fieldLine_27 tX12_nameHere rfl (by decide) nX12_nameHere vX12_nameHere lX12_216 ⟨by decide, by decide⟩ (Nat.le_of_ble_eq_true rfl) (mO g1.1.1) (Nat.le_of_ble_eq_true rfl) rfl ?_
  refine pX12_nameHere g1 (fun nm2 => ?_) (fun nm2 hh2 f2 b2 w2 => ?_)
  · intro _ _
    refine wp_lstore_n (ls1 := [_, _, some _, _, _]) dX12_fieldLine_30 rfl (by decide) rfl ?_
    refine wp_iconst (v := (nI 0)) dX12_fieldLine_31 (by decide +kernel) ?_
    refine wp_istore (ls1 := [_, _, _, _, some _]) dX12_fieldLine_32 (by decide) rfl ?_
    refine names_loop g1 (isNm_S nm2) (by omega) (fun k hk => (congrFun eL155_1 k).trans (hr.2.1 k hk).1) (fun fd => ?_) (fun j3 fd hh3 f3 b3 k3 => ?_)
    · refine wp_aload_n dX12_fieldLine_70 rfl rfl ?_
      refine wp_getIV dX12_fieldLine_71 lX12_184 rfl (mO g1.1.1) g1.2.2.1 ?_
      refine wp_if_le dX12_fieldLine_74 (fun _ => ?_) (fun q => absurd q (by decide +kernel))
      refine wp_aload_n dX12_fieldLine_78 rfl rfl ?_
      refine wp_getR dX12_fieldLine_79 lX12_20 rfl (mO g1.1.1) (mR_readName g1.1.1) ?_
      refine wp_iload_n dX12_fieldLine_82 rfl rfl ?_
      refine wp_lload_n dX12_fieldLine_83 rfl rfl ?_
      refine wp_lastN dX12_fieldLine_84 (mA_readName g1.1.1) rfl ⟨by omega, by decide⟩ ?_
      refine sealAL eL155_1 (fun hh4 f4 e4 => ?_)
      have g4 := g1.fr f4 (by decide) (by decide)
      have efI19_4 := (f4.fI 19 (by decide) (by decide)).trans efI19_1
      have efI20_4 := (f4.fI 20 (by decide) (by decide)).trans efI20_1
      have efI8_4 := (f4.fI 8 (by decide) (by decide)).trans efI8_1
      have eL156_4 := (f4.Lr (by decide) (by decide)).trans eL156_1
      have eI157_4 := (f4.Ir (by decide) (by decide)).trans eI157_1
      have eI158_4 := (f4.Ir (by decide) (by decide)).trans eI158_1
      have eI160_4 := (f4.Ir (by decide) (by decide)).trans eI160_1
      refine wp_aload_n dX12_fieldLine_85 rfl rfl ?_
      refine wp_getR dX12_fieldLine_86 lX12_27 rfl (mO g4.1.1) (mR_readParent g4.1.1) ?_
      refine wp_iload_n dX12_fieldLine_89 rfl rfl ?_
      refine wp_iconst (v := (-1)) dX12_fieldLine_90 (by decide +kernel) ?_
      refine wp_iastN dX12_fieldLine_91 (mA_readParent g4.1.1) rfl ⟨by omega, by decide⟩ ?_
      refine sealAI eI157_4 (fun hh5 f5 e5 => ?_)
      have g5 := g4.fr f5 (by decide) (by decide)
      have efI19_5 := (f5.fI 19 (by decide) (by decide)).trans efI19_4
      have efI20_5 := (f5.fI 20 (by decide) (by decide)).trans efI20_4
      have efI8_5 := (f5.fI 8 (by decide) (by decide)).trans efI8_4
      have eL156_5 := (f5.Lr (by decide) (by decide)).trans eL156_4
      have eI158_5 := (f5.Ir (by decide) (by decide)).trans eI158_4
      have eI160_5 := (f5.Ir (by decide) (by decide)).trans eI160_4
      have eL155_5 := (f5.Lr (by decide) (by decide)).trans e4
      refine wp_aload_n dX12_fieldLine_92 rfl rfl ?_
      refine wp_getR dX12_fieldLine_93 lX12_36 rfl (mO g5.1.1) (mR_readMany g5.1.1) ?_
      refine wp_iload_n dX12_fieldLine_96 rfl rfl ?_
      refine wp_iconst (v := (nI 0)) dX12_fieldLine_97 (by decide +kernel) ?_
      refine wp_zastN dX12_fieldLine_98 (mA_readMany g5.1.1) rfl ⟨by omega, by decide⟩ ?_
      refine sealAI eI160_5 (fun hh6 f6 e6 => ?_)
      have g6 := g5.fr f6 (by decide) (by decide)
      have efI19_6 := (f6.fI 19 (by decide) (by decide)).trans efI19_5
      have efI20_6 := (f6.fI 20 (by decide) (by decide)).trans efI20_5
      have efI8_6 := (f6.fI 8 (by decide) (by decide)).trans efI8_5
      have eL156_6 := (f6.Lr (by decide) (by decide)).trans eL156_5
      have eI158_6 := (f6.Ir (by decide) (by decide)).trans eI158_5
      have eL155_6 := (f6.Lr (by decide) (by decide)).trans eL155_5
      have eI157_6 := (f6.Ir (by decide) (by decide)).trans e5
      refine wp_aload_n dX12_fieldLine_99 rfl rfl ?_
      refine wp_cV0 1 21 [some _, none, none] dX12_fieldLine_100 tX12_goOn rfl (by decide) nX12_goOn vX12_goOn lX12_200 ⟨by decide, by decide⟩ (Nat.le_of_ble_eq_true rfl) (mO g6.1.1) (Nat.le_of_ble_eq_true rfl) rfl ?_
      refine pX12_goOn g6 (fun hh7 f7 g7 => ?_)
      intro _ _
      have efI19_7 := (f7.fI 19 (by decide) (by decide)).trans efI19_6
      have efI20_7 := (f7.fI 20 (by decide) (by decide)).trans efI20_6
      have efI8_7 := (f7.fI 8 (by decide) (by decide)).trans efI8_6
      have eL156_7 := (f7.Lr (by decide) (by decide)).trans eL156_6
      have eI158_7 := (f7.Ir (by decide) (by decide)).trans eI158_6
      have eL155_7 := (f7.Lr (by decide) (by decide)).trans eL155_6
      have eI157_7 := (f7.Ir (by decide) (by decide)).trans eI157_6
      have eI160_7 := (f7.Ir (by decide) (by decide)).trans e6
      refine wp_aload_n dX12_fieldLine_103 rfl rfl ?_
      refine wp_ldc2 dX12_fieldLine_104 lX12_191 ?_
      refine wp_cV1 0 0 [some _, some _, none] dX12_fieldLine_107 tX12_isWord rfl (by decide) nX12_isWord vX12_isWord lX12_220 ⟨by decide, by decide⟩ (Nat.le_of_ble_eq_true rfl) (mO g7.1.1) (Nat.le_of_ble_eq_true rfl) rfl ?_
      refine pX12_isWord g7 (fun w8 => ?_) (fun w8 => ?_)
      · intro _ _
        change isWd tb N _ tWo = _ at w8
        refine wp_if_eq dX12_fieldLine_110 (fun q => absurd q (by decide +kernel)) (fun _ => ?_)
        refine wp_aload_n dX12_fieldLine_113 rfl rfl ?_
        refine wp_cV0 1 21 [some _, none, none] dX12_fieldLine_114 tX12_goOn rfl (by decide) nX12_goOn vX12_goOn lX12_200 ⟨by decide, by decide⟩ (Nat.le_of_ble_eq_true rfl) (mO g7.1.1) (Nat.le_of_ble_eq_true rfl) rfl ?_
        refine pX12_goOn g7 (fun hh9 f9 g9 => ?_)
        intro _ _
        have efI19_9 := (f9.fI 19 (by decide) (by decide)).trans efI19_7
        have efI20_9 := (f9.fI 20 (by decide) (by decide)).trans efI20_7
        have efI8_9 := (f9.fI 8 (by decide) (by decide)).trans efI8_7
        have eL156_9 := (f9.Lr (by decide) (by decide)).trans eL156_7
        have eI158_9 := (f9.Ir (by decide) (by decide)).trans eI158_7
        have eL155_9 := (f9.Lr (by decide) (by decide)).trans eL155_7
        have eI157_9 := (f9.Ir (by decide) (by decide)).trans eI157_7
        have eI160_9 := (f9.Ir (by decide) (by decide)).trans eI160_7
        refine wp_aload_n dX12_fieldLine_117 rfl rfl ?_
        refine wp_getR dX12_fieldLine_118 lX12_27 rfl (mO g9.1.1) (mR_readParent g9.1.1) ?_
        refine wp_iload_n dX12_fieldLine_121 rfl rfl ?_
        refine wp_aload_n dX12_fieldLine_122 rfl rfl ?_
        refine wp_cV0 2 43 [some _, none, none, none, none] dX12_fieldLine_123 tX12_parentHere rfl (by decide) nX12_parentHere vX12_parentHere lX12_224 ⟨by decide, by decide⟩ (Nat.le_of_ble_eq_true rfl) (mO g9.1.1) (Nat.le_of_ble_eq_true rfl) rfl ?_
        refine pX12_parentHere g9 (by omega) hu efI19_9 (fun k hk => (congrFun eL155_9 k).trans ((up1_ne (by omega)).trans (hr.2.1 k hk).1)) (fun k hk => (congrFun eI160_9 k).trans ((upI_ne (by omega)).trans (hr.2.1 k hk).2.2)) (fun fa10 pl10 pe10 hh10 f10 b10 v10 => ?_) (fun p10 hp10 pe10 hh10 f10 g10 e810 => ?_)
        · intro _ _
          have efI19_10 := (f10.fI 19 (by decide) (by decide)).trans efI19_9
          have efI20_10 := (f10.fI 20 (by decide) (by decide)).trans efI20_9
          have eL156_10 := (f10.Lr (by decide) (by decide)).trans eL156_9
          have eI158_10 := (f10.Ir (by decide) (by decide)).trans eI158_9
          have eL155_10 := (f10.Lr (by decide) (by decide)).trans eL155_9
          have eI157_10 := (f10.Ir (by decide) (by decide)).trans eI157_9
          have eI160_10 := (f10.Ir (by decide) (by decide)).trans eI160_9
          refine wp_iastN dX12_fieldLine_126 (mA_readParent b10.1) rfl ⟨by omega, by decide⟩ ?_
          refine sealAI eI157_10 (fun hh11 f11 e11 => ?_)
          have b11 := b10.fr f11 (by decide) (by decide)
          have efI19_11 := (f11.fI 19 (by decide) (by decide)).trans efI19_10
          have efI20_11 := (f11.fI 20 (by decide) (by decide)).trans efI20_10
          have eL156_11 := (f11.Lr (by decide) (by decide)).trans eL156_10
          have eI158_11 := (f11.Ir (by decide) (by decide)).trans eI158_10
          have eL155_11 := (f11.Lr (by decide) (by decide)).trans eL155_10
          have eI160_11 := (f11.Ir (by decide) (by decide)).trans eI160_10
          refine wp_aload_n dX12_fieldLine_127 rfl rfl ?_
          refine wp_ldc2 dX12_fieldLine_128 lX12_193 ?_
          refine wp_cV1 0 0 [some _, some _, none] dX12_fieldLine_131 tX12_isWord rfl (by decide) nX12_isWord vX12_isWord lX12_220 ⟨by decide, by decide⟩ (Nat.le_of_ble_eq_true rfl) (mO b11.1) (Nat.le_of_ble_eq_true rfl) rfl ?_
          refine pX12_isWordB b11 ?_
          intro _ _
          refine wp_if_eq dX12_fieldLine_134 (fun _ => ?_) (fun q => absurd q (by decide +kernel))
          refine wp_aload_n dX12_fieldLine_148 rfl rfl ?_
          refine wp_cV0 0 0 [some _] dX12_fieldLine_149 tX12_isGood rfl (by decide) nX12_isGood vX12_isGood lX12_212 ⟨by decide, by decide⟩ (Nat.le_of_ble_eq_true rfl) (mO b11.1) (Nat.le_of_ble_eq_true rfl) rfl ?_
          refine wp_aload_n dX12_isGood_0 rfl rfl ?_
          refine wp_getIV dX12_isGood_1 lX12_184 rfl (mO b11.1) b11.2.1 ?_
          refine wp_if_neN dX12_isGood_4 rfl (by have := b11.2.2.2.1; omega) (fun _ => ?_) (fun q9 => absurd q9 (by have := b11.2.2.1; omega))
          refine wp_iconst (v := (nI 0)) dX12_isGood_11 (by decide +kernel) ?_
          refine wp_zreturn dX12_isGood_12 rfl (Or.inl rfl) ?_
          intro _ _
          refine wp_if_eq dX12_fieldLine_152 (fun _ => ?_) (fun q => absurd q (by decide +kernel))
          refine wp_aload_n dX12_fieldLine_179 rfl rfl ?_
          refine wp_cV0 0 0 [some _] dX12_fieldLine_180 tX12_isGood rfl (by decide) nX12_isGood vX12_isGood lX12_212 ⟨by decide, by decide⟩ (Nat.le_of_ble_eq_true rfl) (mO b11.1) (Nat.le_of_ble_eq_true rfl) rfl ?_
          refine wp_aload_n dX12_isGood_0 rfl rfl ?_
          refine wp_getIV dX12_isGood_1 lX12_184 rfl (mO b11.1) b11.2.1 ?_
          refine wp_if_neN dX12_isGood_4 rfl (by have := b11.2.2.2.1; omega) (fun _ => ?_) (fun q9 => absurd q9 (by have := b11.2.2.1; omega))
          refine wp_iconst (v := (nI 0)) dX12_isGood_11 (by decide +kernel) ?_
          refine wp_zreturn dX12_isGood_12 rfl (Or.inl rfl) ?_
          intro _ _
          refine wp_if_eq dX12_fieldLine_183 (fun _ => ?_) (fun q => absurd q (by decide +kernel))
          refine wp_aload_n dX12_fieldLine_190 rfl rfl ?_
          refine wp_dup dX12_fieldLine_191 rfl ?_
          refine wp_getIV dX12_fieldLine_192 lX12_206 rfl (mO b11.1) efI19_11 ?_
          refine wp_iconst (v := (nI 1)) dX12_fieldLine_195 (by decide +kernel) ?_
          refine wp_iadd dX12_fieldLine_196 ?_
          refine wp_putIN dX12_fieldLine_197 lX12_206 rfl rfl (Or.inl rfl) (mO b11.1) (isN_add rfl rfl) ?_
          refine sealI (fun hh12 f12 e12 => ?_)
          have b12 := b11.fr f12 (by decide) (by decide)
          have efI20_12 := (f12.fI 20 (by decide) (by decide)).trans efI20_11
          have eL156_12 := (f12.Lr (by decide) (by decide)).trans eL156_11
          have eI158_12 := (f12.Ir (by decide) (by decide)).trans eI158_11
          have eL155_12 := (f12.Lr (by decide) (by decide)).trans eL155_11
          have eI160_12 := (f12.Ir (by decide) (by decide)).trans eI160_11
          have eI157_12 := (f12.Ir (by decide) (by decide)).trans e11
          refine wp_vreturn dX12_fieldLine_200 rfl ?_
          exact he _ _ (by unfold lF; rw [if_pos nm2, fd]; show (if _ then _ else _) = _; rw [if_pos w8]; exact lO_er pe10) _ (((((((((f1.up (by decide) (by decide)).tr (f4.up (by decide) (by decide))).tr (f5.up (by decide) (by decide))).tr (f6.up (by decide) (by decide))).tr (f7.up (by decide) (by decide))).tr (f9.up (by decide) (by decide))).tr (f10.up (by decide) (by decide))).tr (f11.up (by decide) (by decide))).tr (f12.up (by decide) (by decide))) b12
        · intro _ _
          have efI19_10 := (f10.fI 19 (by decide) (by decide)).trans efI19_9
          have efI20_10 := (f10.fI 20 (by decide) (by decide)).trans efI20_9
          have eL156_10 := (f10.Lr (by decide) (by decide)).trans eL156_9
          have eI158_10 := (f10.Ir (by decide) (by decide)).trans eI158_9
          have eL155_10 := (f10.Lr (by decide) (by decide)).trans eL155_9
          have eI157_10 := (f10.Ir (by decide) (by decide)).trans eI157_9
          have eI160_10 := (f10.Ir (by decide) (by decide)).trans eI160_9
          refine wp_iastN dX12_fieldLine_126 (mA_readParent g10.1.1) rfl ⟨by omega, by decide⟩ ?_
          refine sealAI eI157_10 (fun hh13 f13 e13 => ?_)
          have g13 := g10.fr f13 (by decide) (by decide)
          have efI19_13 := (f13.fI 19 (by decide) (by decide)).trans efI19_10
          have efI20_13 := (f13.fI 20 (by decide) (by decide)).trans efI20_10
          have eL156_13 := (f13.Lr (by decide) (by decide)).trans eL156_10
          have eI158_13 := (f13.Ir (by decide) (by decide)).trans eI158_10
          have eL155_13 := (f13.Lr (by decide) (by decide)).trans eL155_10
          have eI160_13 := (f13.Ir (by decide) (by decide)).trans eI160_10
          have efI8_13 := (f13.fI 8 (by decide) (by decide)).trans (e810.trans efI8_9)
          refine wp_aload_n dX12_fieldLine_127 rfl rfl ?_
          refine wp_ldc2 dX12_fieldLine_128 lX12_193 ?_
          refine wp_cV1 0 0 [some _, some _, none] dX12_fieldLine_131 tX12_isWord rfl (by decide) nX12_isWord vX12_isWord lX12_220 ⟨by decide, by decide⟩ (Nat.le_of_ble_eq_true rfl) (mO g13.1.1) (Nat.le_of_ble_eq_true rfl) rfl ?_
          refine pX12_isWord g13 (fun w14 => ?_) (fun w14 => ?_)
          · intro _ _
            change isWd tb N _ tWm = _ at w14
            refine wp_if_eq dX12_fieldLine_134 (fun q => absurd q (by decide +kernel)) (fun _ => ?_)
            refine wp_aload_n dX12_fieldLine_137 rfl rfl ?_
            refine wp_getR dX12_fieldLine_138 lX12_36 rfl (mO g13.1.1) (mR_readMany g13.1.1) ?_
            refine wp_iload_n dX12_fieldLine_141 rfl rfl ?_
            refine wp_iconst (v := (nI 1)) dX12_fieldLine_142 (by decide +kernel) ?_
            refine wp_zastN dX12_fieldLine_143 (mA_readMany g13.1.1) rfl ⟨by omega, by decide⟩ ?_
            refine sealAI eI160_13 (fun hh15 f15 e15 => ?_)
            have g15 := g13.fr f15 (by decide) (by decide)
            have efI19_15 := (f15.fI 19 (by decide) (by decide)).trans efI19_13
            have efI20_15 := (f15.fI 20 (by decide) (by decide)).trans efI20_13
            have eL156_15 := (f15.Lr (by decide) (by decide)).trans eL156_13
            have eI158_15 := (f15.Ir (by decide) (by decide)).trans eI158_13
            have eL155_15 := (f15.Lr (by decide) (by decide)).trans eL155_13
            have efI8_15 := (f15.fI 8 (by decide) (by decide)).trans efI8_13
            have eI157_15 := (f15.Ir (by decide) (by decide)).trans e13
            refine wp_aload_n dX12_fieldLine_144 rfl rfl ?_
            refine wp_cV0 1 21 [some _, none, none] dX12_fieldLine_145 tX12_goOn rfl (by decide) nX12_goOn vX12_goOn lX12_200 ⟨by decide, by decide⟩ (Nat.le_of_ble_eq_true rfl) (mO g15.1.1) (Nat.le_of_ble_eq_true rfl) rfl ?_
            refine pX12_goOn g15 (fun hh16 f16 g16 => ?_)
            intro _ _
            have efI19_16 := (f16.fI 19 (by decide) (by decide)).trans efI19_15
            have efI20_16 := (f16.fI 20 (by decide) (by decide)).trans efI20_15
            have eL156_16 := (f16.Lr (by decide) (by decide)).trans eL156_15
            have eI158_16 := (f16.Ir (by decide) (by decide)).trans eI158_15
            have eL155_16 := (f16.Lr (by decide) (by decide)).trans eL155_15
            have efI8_16 := (f16.fI 8 (by decide) (by decide)).trans efI8_15
            have eI157_16 := (f16.Ir (by decide) (by decide)).trans eI157_15
            have eI160_16 := (f16.Ir (by decide) (by decide)).trans e15
            refine wp_aload_n dX12_fieldLine_148 rfl rfl ?_
            refine wp_cV0 0 0 [some _] dX12_fieldLine_149 tX12_isGood rfl (by decide) nX12_isGood vX12_isGood lX12_212 ⟨by decide, by decide⟩ (Nat.le_of_ble_eq_true rfl) (mO g16.1.1) (Nat.le_of_ble_eq_true rfl) rfl ?_
            refine wp_aload_n dX12_isGood_0 rfl rfl ?_
            refine wp_getIV dX12_isGood_1 lX12_184 rfl (mO g16.1.1) g16.2.2.1 ?_
            refine wp_if_ne dX12_isGood_4 (fun q => absurd q (by decide +kernel)) (fun _ => ?_)
            refine wp_iconst (v := (nI 1)) dX12_isGood_7 (by decide +kernel) ?_
            refine wp_goto dX12_isGood_8 ?_
            refine wp_zreturn dX12_isGood_12 rfl (Or.inr rfl) ?_
            intro _ _
            refine wp_if_eq dX12_fieldLine_152 (fun q => absurd q (by decide +kernel)) (fun _ => ?_)
            refine wp_aload_n dX12_fieldLine_155 rfl rfl ?_
            refine wp_getIV dX12_fieldLine_156 lX12_168 rfl (mO g16.1.1) g16.2.1.2.1 ?_
            refine wp_iconst (v := (nI 3)) dX12_fieldLine_159 (by decide +kernel) ?_
            refine wp_icmp_neN dX12_fieldLine_160 rfl rfl ⟨by have := tS_le (tb := tb) (N := N) (a := (tE tb N (tE tb N (tE tb N (tE tb N (tE tb N a)))))); omega, by omega⟩ (fun c14 => ?_) (fun c14 => ?_)
            · refine wp_aload_n dX12_fieldLine_174 rfl rfl ?_
              refine wp_iconst (v := (nI 2)) dX12_fieldLine_175 (by decide +kernel) ?_
              refine wp_cV1 0 0 [some _, some _] dX12_fieldLine_176 tX12_wrong rfl (by decide) nX12_wrong vX12_wrong lX12_197 ⟨by decide, by decide⟩ (Nat.le_of_ble_eq_true rfl) (mO g16.1.1) (Nat.le_of_ble_eq_true rfl) rfl ?_
              refine pX12_wrong g16 (by decide) (fun hh17 f17 b17 => ?_)
              intro _ _
              have efI19_17 := (f17.fI 19 (by decide) (by decide)).trans efI19_16
              have efI20_17 := (f17.fI 20 (by decide) (by decide)).trans efI20_16
              have eL156_17 := (f17.Lr (by decide) (by decide)).trans eL156_16
              have eI158_17 := (f17.Ir (by decide) (by decide)).trans eI158_16
              have eL155_17 := (f17.Lr (by decide) (by decide)).trans eL155_16
              have eI157_17 := (f17.Ir (by decide) (by decide)).trans eI157_16
              have eI160_17 := (f17.Ir (by decide) (by decide)).trans eI160_16
              refine wp_aload_n dX12_fieldLine_179 rfl rfl ?_
              refine wp_cV0 0 0 [some _] dX12_fieldLine_180 tX12_isGood rfl (by decide) nX12_isGood vX12_isGood lX12_212 ⟨by decide, by decide⟩ (Nat.le_of_ble_eq_true rfl) (mO b17.1) (Nat.le_of_ble_eq_true rfl) rfl ?_
              refine wp_aload_n dX12_isGood_0 rfl rfl ?_
              refine wp_getIV dX12_isGood_1 lX12_184 rfl (mO b17.1) b17.2.1 ?_
              refine wp_if_neN dX12_isGood_4 rfl (by have := b17.2.2.2.1; omega) (fun _ => ?_) (fun q9 => absurd q9 (by have := b17.2.2.1; omega))
              refine wp_iconst (v := (nI 0)) dX12_isGood_11 (by decide +kernel) ?_
              refine wp_zreturn dX12_isGood_12 rfl (Or.inl rfl) ?_
              intro _ _
              refine wp_if_eq dX12_fieldLine_183 (fun _ => ?_) (fun q => absurd q (by decide +kernel))
              refine wp_aload_n dX12_fieldLine_190 rfl rfl ?_
              refine wp_dup dX12_fieldLine_191 rfl ?_
              refine wp_getIV dX12_fieldLine_192 lX12_206 rfl (mO b17.1) efI19_17 ?_
              refine wp_iconst (v := (nI 1)) dX12_fieldLine_195 (by decide +kernel) ?_
              refine wp_iadd dX12_fieldLine_196 ?_
              refine wp_putIN dX12_fieldLine_197 lX12_206 rfl rfl (Or.inl rfl) (mO b17.1) (isN_add rfl rfl) ?_
              refine sealI (fun hh18 f18 e18 => ?_)
              have b18 := b17.fr f18 (by decide) (by decide)
              have efI20_18 := (f18.fI 20 (by decide) (by decide)).trans efI20_17
              have eL156_18 := (f18.Lr (by decide) (by decide)).trans eL156_17
              have eI158_18 := (f18.Ir (by decide) (by decide)).trans eI158_17
              have eL155_18 := (f18.Lr (by decide) (by decide)).trans eL155_17
              have eI157_18 := (f18.Ir (by decide) (by decide)).trans eI157_17
              have eI160_18 := (f18.Ir (by decide) (by decide)).trans eI160_17
              refine wp_vreturn dX12_fieldLine_200 rfl ?_
              have sm9 : isSm tb N (tE tb N (tE tb N (tE tb N (tE tb N (tE tb N a))))) = false := decide_eq_false (fun q9 => by first | exact absurd q9.1 (by assumption) | exact absurd q9.2 (by assumption))
              exact he _ _ (by unfold lF; rw [if_pos nm2, fd]; show (if _ then _ else _) = _; rw [if_pos w8]; rw [lO_ok pe10]; unfold lM; rw [if_pos w14]; unfold lS; rw [if_neg (by rw [sm9]; decide)]) _ ((((((((((((f1.up (by decide) (by decide)).tr (f4.up (by decide) (by decide))).tr (f5.up (by decide) (by decide))).tr (f6.up (by decide) (by decide))).tr (f7.up (by decide) (by decide))).tr (f9.up (by decide) (by decide))).tr (f10.up (by decide) (by decide))).tr (f13.up (by decide) (by decide))).tr (f15.up (by decide) (by decide))).tr (f16.up (by decide) (by decide))).tr (f17.up (by decide) (by decide))).tr (f18.up (by decide) (by decide))) b18
            · refine wp_aload_n dX12_fieldLine_163 rfl rfl ?_
              refine wp_getLV dX12_fieldLine_164 lX12_164 rfl (mO g16.1.1) g16.2.1.2.2.2 ?_
              refine wp_ldc2 dX12_fieldLine_167 lX12_228 ?_
              refine wp_lc_eq dX12_fieldLine_170 dX12_fieldLine_171 (fun c17 => ?_) (fun c17 => ?_)
              · refine wp_aload_n dX12_fieldLine_179 rfl rfl ?_
                refine wp_cV0 0 0 [some _] dX12_fieldLine_180 tX12_isGood rfl (by decide) nX12_isGood vX12_isGood lX12_212 ⟨by decide, by decide⟩ (Nat.le_of_ble_eq_true rfl) (mO g16.1.1) (Nat.le_of_ble_eq_true rfl) rfl ?_
                refine wp_aload_n dX12_isGood_0 rfl rfl ?_
                refine wp_getIV dX12_isGood_1 lX12_184 rfl (mO g16.1.1) g16.2.2.1 ?_
                refine wp_if_ne dX12_isGood_4 (fun q => absurd q (by decide +kernel)) (fun _ => ?_)
                refine wp_iconst (v := (nI 1)) dX12_isGood_7 (by decide +kernel) ?_
                refine wp_goto dX12_isGood_8 ?_
                refine wp_zreturn dX12_isGood_12 rfl (Or.inr rfl) ?_
                intro _ _
                refine wp_if_eq dX12_fieldLine_183 (fun q => absurd q (by decide +kernel)) (fun _ => ?_)
                refine wp_aload_n dX12_fieldLine_186 rfl rfl ?_
                refine wp_cV0 1 21 [some _, none, none] dX12_fieldLine_187 tX12_goOn rfl (by decide) nX12_goOn vX12_goOn lX12_200 ⟨by decide, by decide⟩ (Nat.le_of_ble_eq_true rfl) (mO g16.1.1) (Nat.le_of_ble_eq_true rfl) rfl ?_
                refine pX12_goOn g16 (fun hh19 f19 g19 => ?_)
                intro _ _
                have efI19_19 := (f19.fI 19 (by decide) (by decide)).trans efI19_16
                have efI20_19 := (f19.fI 20 (by decide) (by decide)).trans efI20_16
                have eL156_19 := (f19.Lr (by decide) (by decide)).trans eL156_16
                have eI158_19 := (f19.Ir (by decide) (by decide)).trans eI158_16
                have eL155_19 := (f19.Lr (by decide) (by decide)).trans eL155_16
                have efI8_19 := (f19.fI 8 (by decide) (by decide)).trans efI8_16
                have eI157_19 := (f19.Ir (by decide) (by decide)).trans eI157_16
                have eI160_19 := (f19.Ir (by decide) (by decide)).trans eI160_16
                refine wp_aload_n dX12_fieldLine_190 rfl rfl ?_
                refine wp_dup dX12_fieldLine_191 rfl ?_
                refine wp_getIV dX12_fieldLine_192 lX12_206 rfl (mO g19.1.1) efI19_19 ?_
                refine wp_iconst (v := (nI 1)) dX12_fieldLine_195 (by decide +kernel) ?_
                refine wp_iadd dX12_fieldLine_196 ?_
                refine wp_putIN dX12_fieldLine_197 lX12_206 rfl rfl (Or.inl rfl) (mO g19.1.1) (isN_add rfl rfl) ?_
                refine sealI (fun hh20 f20 e20 => ?_)
                have g20 := g19.fr f20 (by decide) (by decide)
                have efI20_20 := (f20.fI 20 (by decide) (by decide)).trans efI20_19
                have eL156_20 := (f20.Lr (by decide) (by decide)).trans eL156_19
                have eI158_20 := (f20.Ir (by decide) (by decide)).trans eI158_19
                have eL155_20 := (f20.Lr (by decide) (by decide)).trans eL155_19
                have efI8_20 := (f20.fI 8 (by decide) (by decide)).trans efI8_19
                have eI157_20 := (f20.Ir (by decide) (by decide)).trans eI157_19
                have eI160_20 := (f20.Ir (by decide) (by decide)).trans eI160_19
                refine wp_vreturn dX12_fieldLine_200 rfl ?_
                have sm9 : isSm tb N (tE tb N (tE tb N (tE tb N (tE tb N (tE tb N a))))) = true := decide_eq_true ⟨by assumption, by assumption⟩
                refine hq _ _ _ (by unfold lF; rw [if_pos nm2, fd]; show (if _ then _ else _) = _; rw [if_pos w8]; rw [lO_ok pe10]; unfold lM; rw [if_pos w14]; unfold lS; rw [if_pos sm9]) _ ((((((((((((f1.up (by decide) (by decide)).tr (f4.up (by decide) (by decide))).tr (f5.up (by decide) (by decide))).tr (f6.up (by decide) (by decide))).tr (f7.up (by decide) (by decide))).tr (f9.up (by decide) (by decide))).tr (f10.up (by decide) (by decide))).tr (f13.up (by decide) (by decide))).tr (f15.up (by decide) (by decide))).tr (f16.up (by decide) (by decide))).tr (f19.up (by decide) (by decide))).tr (f20.up (by decide) (by decide))) g20 (rdS_fl hr e20 efI20_20 eL155_20 eI157_20 ⟨upI_at _ _ _, fun k hk => ?_⟩ eI160_20 ⟨(upI_at _ _ _).trans (by decide +kernel), fun k hk => ?_⟩ eL156_20 eI158_20) efI8_20
                · repeat rw [upI_ne (by omega)]
                · repeat rw [upI_ne (by omega)]
              · refine wp_aload_n dX12_fieldLine_174 rfl rfl ?_
                refine wp_iconst (v := (nI 2)) dX12_fieldLine_175 (by decide +kernel) ?_
                refine wp_cV1 0 0 [some _, some _] dX12_fieldLine_176 tX12_wrong rfl (by decide) nX12_wrong vX12_wrong lX12_197 ⟨by decide, by decide⟩ (Nat.le_of_ble_eq_true rfl) (mO g16.1.1) (Nat.le_of_ble_eq_true rfl) rfl ?_
                refine pX12_wrong g16 (by decide) (fun hh21 f21 b21 => ?_)
                intro _ _
                have efI19_21 := (f21.fI 19 (by decide) (by decide)).trans efI19_16
                have efI20_21 := (f21.fI 20 (by decide) (by decide)).trans efI20_16
                have eL156_21 := (f21.Lr (by decide) (by decide)).trans eL156_16
                have eI158_21 := (f21.Ir (by decide) (by decide)).trans eI158_16
                have eL155_21 := (f21.Lr (by decide) (by decide)).trans eL155_16
                have eI157_21 := (f21.Ir (by decide) (by decide)).trans eI157_16
                have eI160_21 := (f21.Ir (by decide) (by decide)).trans eI160_16
                refine wp_aload_n dX12_fieldLine_179 rfl rfl ?_
                refine wp_cV0 0 0 [some _] dX12_fieldLine_180 tX12_isGood rfl (by decide) nX12_isGood vX12_isGood lX12_212 ⟨by decide, by decide⟩ (Nat.le_of_ble_eq_true rfl) (mO b21.1) (Nat.le_of_ble_eq_true rfl) rfl ?_
                refine wp_aload_n dX12_isGood_0 rfl rfl ?_
                refine wp_getIV dX12_isGood_1 lX12_184 rfl (mO b21.1) b21.2.1 ?_
                refine wp_if_neN dX12_isGood_4 rfl (by have := b21.2.2.2.1; omega) (fun _ => ?_) (fun q9 => absurd q9 (by have := b21.2.2.1; omega))
                refine wp_iconst (v := (nI 0)) dX12_isGood_11 (by decide +kernel) ?_
                refine wp_zreturn dX12_isGood_12 rfl (Or.inl rfl) ?_
                intro _ _
                refine wp_if_eq dX12_fieldLine_183 (fun _ => ?_) (fun q => absurd q (by decide +kernel))
                refine wp_aload_n dX12_fieldLine_190 rfl rfl ?_
                refine wp_dup dX12_fieldLine_191 rfl ?_
                refine wp_getIV dX12_fieldLine_192 lX12_206 rfl (mO b21.1) efI19_21 ?_
                refine wp_iconst (v := (nI 1)) dX12_fieldLine_195 (by decide +kernel) ?_
                refine wp_iadd dX12_fieldLine_196 ?_
                refine wp_putIN dX12_fieldLine_197 lX12_206 rfl rfl (Or.inl rfl) (mO b21.1) (isN_add rfl rfl) ?_
                refine sealI (fun hh22 f22 e22 => ?_)
                have b22 := b21.fr f22 (by decide) (by decide)
                have efI20_22 := (f22.fI 20 (by decide) (by decide)).trans efI20_21
                have eL156_22 := (f22.Lr (by decide) (by decide)).trans eL156_21
                have eI158_22 := (f22.Ir (by decide) (by decide)).trans eI158_21
                have eL155_22 := (f22.Lr (by decide) (by decide)).trans eL155_21
                have eI157_22 := (f22.Ir (by decide) (by decide)).trans eI157_21
                have eI160_22 := (f22.Ir (by decide) (by decide)).trans eI160_21
                refine wp_vreturn dX12_fieldLine_200 rfl ?_
                have sm9 : isSm tb N (tE tb N (tE tb N (tE tb N (tE tb N (tE tb N a))))) = false := decide_eq_false (fun q9 => by first | exact absurd q9.1 (by assumption) | exact absurd q9.2 (by assumption))
                exact he _ _ (by unfold lF; rw [if_pos nm2, fd]; show (if _ then _ else _) = _; rw [if_pos w8]; rw [lO_ok pe10]; unfold lM; rw [if_pos w14]; unfold lS; rw [if_neg (by rw [sm9]; decide)]) _ ((((((((((((f1.up (by decide) (by decide)).tr (f4.up (by decide) (by decide))).tr (f5.up (by decide) (by decide))).tr (f6.up (by decide) (by decide))).tr (f7.up (by decide) (by decide))).tr (f9.up (by decide) (by decide))).tr (f10.up (by decide) (by decide))).tr (f13.up (by decide) (by decide))).tr (f15.up (by decide) (by decide))).tr (f16.up (by decide) (by decide))).tr (f21.up (by decide) (by decide))).tr (f22.up (by decide) (by decide))) b22
          · intro _ _
            change isWd tb N _ tWm = _ at w14
            refine wp_if_eq dX12_fieldLine_134 (fun _ => ?_) (fun q => absurd q (by decide +kernel))
            refine wp_aload_n dX12_fieldLine_148 rfl rfl ?_
            refine wp_cV0 0 0 [some _] dX12_fieldLine_149 tX12_isGood rfl (by decide) nX12_isGood vX12_isGood lX12_212 ⟨by decide, by decide⟩ (Nat.le_of_ble_eq_true rfl) (mO g13.1.1) (Nat.le_of_ble_eq_true rfl) rfl ?_
            refine wp_aload_n dX12_isGood_0 rfl rfl ?_
            refine wp_getIV dX12_isGood_1 lX12_184 rfl (mO g13.1.1) g13.2.2.1 ?_
            refine wp_if_ne dX12_isGood_4 (fun q => absurd q (by decide +kernel)) (fun _ => ?_)
            refine wp_iconst (v := (nI 1)) dX12_isGood_7 (by decide +kernel) ?_
            refine wp_goto dX12_isGood_8 ?_
            refine wp_zreturn dX12_isGood_12 rfl (Or.inr rfl) ?_
            intro _ _
            refine wp_if_eq dX12_fieldLine_152 (fun q => absurd q (by decide +kernel)) (fun _ => ?_)
            refine wp_aload_n dX12_fieldLine_155 rfl rfl ?_
            refine wp_getIV dX12_fieldLine_156 lX12_168 rfl (mO g13.1.1) g13.2.1.2.1 ?_
            refine wp_iconst (v := (nI 3)) dX12_fieldLine_159 (by decide +kernel) ?_
            refine wp_icmp_neN dX12_fieldLine_160 rfl rfl ⟨by have := tS_le (tb := tb) (N := N) (a := (tE tb N (tE tb N (tE tb N (tE tb N a))))); omega, by omega⟩ (fun c25 => ?_) (fun c25 => ?_)
            · refine wp_aload_n dX12_fieldLine_174 rfl rfl ?_
              refine wp_iconst (v := (nI 2)) dX12_fieldLine_175 (by decide +kernel) ?_
              refine wp_cV1 0 0 [some _, some _] dX12_fieldLine_176 tX12_wrong rfl (by decide) nX12_wrong vX12_wrong lX12_197 ⟨by decide, by decide⟩ (Nat.le_of_ble_eq_true rfl) (mO g13.1.1) (Nat.le_of_ble_eq_true rfl) rfl ?_
              refine pX12_wrong g13 (by decide) (fun hh23 f23 b23 => ?_)
              intro _ _
              have efI19_23 := (f23.fI 19 (by decide) (by decide)).trans efI19_13
              have efI20_23 := (f23.fI 20 (by decide) (by decide)).trans efI20_13
              have eL156_23 := (f23.Lr (by decide) (by decide)).trans eL156_13
              have eI158_23 := (f23.Ir (by decide) (by decide)).trans eI158_13
              have eL155_23 := (f23.Lr (by decide) (by decide)).trans eL155_13
              have eI160_23 := (f23.Ir (by decide) (by decide)).trans eI160_13
              have eI157_23 := (f23.Ir (by decide) (by decide)).trans e13
              refine wp_aload_n dX12_fieldLine_179 rfl rfl ?_
              refine wp_cV0 0 0 [some _] dX12_fieldLine_180 tX12_isGood rfl (by decide) nX12_isGood vX12_isGood lX12_212 ⟨by decide, by decide⟩ (Nat.le_of_ble_eq_true rfl) (mO b23.1) (Nat.le_of_ble_eq_true rfl) rfl ?_
              refine wp_aload_n dX12_isGood_0 rfl rfl ?_
              refine wp_getIV dX12_isGood_1 lX12_184 rfl (mO b23.1) b23.2.1 ?_
              refine wp_if_neN dX12_isGood_4 rfl (by have := b23.2.2.2.1; omega) (fun _ => ?_) (fun q9 => absurd q9 (by have := b23.2.2.1; omega))
              refine wp_iconst (v := (nI 0)) dX12_isGood_11 (by decide +kernel) ?_
              refine wp_zreturn dX12_isGood_12 rfl (Or.inl rfl) ?_
              intro _ _
              refine wp_if_eq dX12_fieldLine_183 (fun _ => ?_) (fun q => absurd q (by decide +kernel))
              refine wp_aload_n dX12_fieldLine_190 rfl rfl ?_
              refine wp_dup dX12_fieldLine_191 rfl ?_
              refine wp_getIV dX12_fieldLine_192 lX12_206 rfl (mO b23.1) efI19_23 ?_
              refine wp_iconst (v := (nI 1)) dX12_fieldLine_195 (by decide +kernel) ?_
              refine wp_iadd dX12_fieldLine_196 ?_
              refine wp_putIN dX12_fieldLine_197 lX12_206 rfl rfl (Or.inl rfl) (mO b23.1) (isN_add rfl rfl) ?_
              refine sealI (fun hh24 f24 e24 => ?_)
              have b24 := b23.fr f24 (by decide) (by decide)
              have efI20_24 := (f24.fI 20 (by decide) (by decide)).trans efI20_23
              have eL156_24 := (f24.Lr (by decide) (by decide)).trans eL156_23
              have eI158_24 := (f24.Ir (by decide) (by decide)).trans eI158_23
              have eL155_24 := (f24.Lr (by decide) (by decide)).trans eL155_23
              have eI160_24 := (f24.Ir (by decide) (by decide)).trans eI160_23
              have eI157_24 := (f24.Ir (by decide) (by decide)).trans eI157_23
              refine wp_vreturn dX12_fieldLine_200 rfl ?_
              have sm9 : isSm tb N (tE tb N (tE tb N (tE tb N (tE tb N a)))) = false := decide_eq_false (fun q9 => by first | exact absurd q9.1 (by assumption) | exact absurd q9.2 (by assumption))
              exact he _ _ (by unfold lF; rw [if_pos nm2, fd]; show (if _ then _ else _) = _; rw [if_pos w8]; rw [lO_ok pe10]; unfold lM; rw [if_neg (by rw [w14]; decide)]; unfold lS; rw [if_neg (by rw [sm9]; decide)]) _ ((((((((((f1.up (by decide) (by decide)).tr (f4.up (by decide) (by decide))).tr (f5.up (by decide) (by decide))).tr (f6.up (by decide) (by decide))).tr (f7.up (by decide) (by decide))).tr (f9.up (by decide) (by decide))).tr (f10.up (by decide) (by decide))).tr (f13.up (by decide) (by decide))).tr (f23.up (by decide) (by decide))).tr (f24.up (by decide) (by decide))) b24
            · refine wp_aload_n dX12_fieldLine_163 rfl rfl ?_
              refine wp_getLV dX12_fieldLine_164 lX12_164 rfl (mO g13.1.1) g13.2.1.2.2.2 ?_
              refine wp_ldc2 dX12_fieldLine_167 lX12_228 ?_
              refine wp_lc_eq dX12_fieldLine_170 dX12_fieldLine_171 (fun c28 => ?_) (fun c28 => ?_)
              · refine wp_aload_n dX12_fieldLine_179 rfl rfl ?_
                refine wp_cV0 0 0 [some _] dX12_fieldLine_180 tX12_isGood rfl (by decide) nX12_isGood vX12_isGood lX12_212 ⟨by decide, by decide⟩ (Nat.le_of_ble_eq_true rfl) (mO g13.1.1) (Nat.le_of_ble_eq_true rfl) rfl ?_
                refine wp_aload_n dX12_isGood_0 rfl rfl ?_
                refine wp_getIV dX12_isGood_1 lX12_184 rfl (mO g13.1.1) g13.2.2.1 ?_
                refine wp_if_ne dX12_isGood_4 (fun q => absurd q (by decide +kernel)) (fun _ => ?_)
                refine wp_iconst (v := (nI 1)) dX12_isGood_7 (by decide +kernel) ?_
                refine wp_goto dX12_isGood_8 ?_
                refine wp_zreturn dX12_isGood_12 rfl (Or.inr rfl) ?_
                intro _ _
                refine wp_if_eq dX12_fieldLine_183 (fun q => absurd q (by decide +kernel)) (fun _ => ?_)
                refine wp_aload_n dX12_fieldLine_186 rfl rfl ?_
                refine wp_cV0 1 21 [some _, none, none] dX12_fieldLine_187 tX12_goOn rfl (by decide) nX12_goOn vX12_goOn lX12_200 ⟨by decide, by decide⟩ (Nat.le_of_ble_eq_true rfl) (mO g13.1.1) (Nat.le_of_ble_eq_true rfl) rfl ?_
                refine pX12_goOn g13 (fun hh25 f25 g25 => ?_)
                intro _ _
                have efI19_25 := (f25.fI 19 (by decide) (by decide)).trans efI19_13
                have efI20_25 := (f25.fI 20 (by decide) (by decide)).trans efI20_13
                have eL156_25 := (f25.Lr (by decide) (by decide)).trans eL156_13
                have eI158_25 := (f25.Ir (by decide) (by decide)).trans eI158_13
                have eL155_25 := (f25.Lr (by decide) (by decide)).trans eL155_13
                have eI160_25 := (f25.Ir (by decide) (by decide)).trans eI160_13
                have efI8_25 := (f25.fI 8 (by decide) (by decide)).trans efI8_13
                have eI157_25 := (f25.Ir (by decide) (by decide)).trans e13
                refine wp_aload_n dX12_fieldLine_190 rfl rfl ?_
                refine wp_dup dX12_fieldLine_191 rfl ?_
                refine wp_getIV dX12_fieldLine_192 lX12_206 rfl (mO g25.1.1) efI19_25 ?_
                refine wp_iconst (v := (nI 1)) dX12_fieldLine_195 (by decide +kernel) ?_
                refine wp_iadd dX12_fieldLine_196 ?_
                refine wp_putIN dX12_fieldLine_197 lX12_206 rfl rfl (Or.inl rfl) (mO g25.1.1) (isN_add rfl rfl) ?_
                refine sealI (fun hh26 f26 e26 => ?_)
                have g26 := g25.fr f26 (by decide) (by decide)
                have efI20_26 := (f26.fI 20 (by decide) (by decide)).trans efI20_25
                have eL156_26 := (f26.Lr (by decide) (by decide)).trans eL156_25
                have eI158_26 := (f26.Ir (by decide) (by decide)).trans eI158_25
                have eL155_26 := (f26.Lr (by decide) (by decide)).trans eL155_25
                have eI160_26 := (f26.Ir (by decide) (by decide)).trans eI160_25
                have efI8_26 := (f26.fI 8 (by decide) (by decide)).trans efI8_25
                have eI157_26 := (f26.Ir (by decide) (by decide)).trans eI157_25
                refine wp_vreturn dX12_fieldLine_200 rfl ?_
                have sm9 : isSm tb N (tE tb N (tE tb N (tE tb N (tE tb N a)))) = true := decide_eq_true ⟨by assumption, by assumption⟩
                refine hq _ _ _ (by unfold lF; rw [if_pos nm2, fd]; show (if _ then _ else _) = _; rw [if_pos w8]; rw [lO_ok pe10]; unfold lM; rw [if_neg (by rw [w14]; decide)]; unfold lS; rw [if_pos sm9]) _ ((((((((((f1.up (by decide) (by decide)).tr (f4.up (by decide) (by decide))).tr (f5.up (by decide) (by decide))).tr (f6.up (by decide) (by decide))).tr (f7.up (by decide) (by decide))).tr (f9.up (by decide) (by decide))).tr (f10.up (by decide) (by decide))).tr (f13.up (by decide) (by decide))).tr (f25.up (by decide) (by decide))).tr (f26.up (by decide) (by decide))) g26 (rdS_fl hr e26 efI20_26 eL155_26 eI157_26 ⟨upI_at _ _ _, fun k hk => ?_⟩ eI160_26 ⟨(upI_at _ _ _).trans (by decide +kernel), fun k hk => ?_⟩ eL156_26 eI158_26) efI8_26
                · repeat rw [upI_ne (by omega)]
                · repeat rw [upI_ne (by omega)]
              · refine wp_aload_n dX12_fieldLine_174 rfl rfl ?_
                refine wp_iconst (v := (nI 2)) dX12_fieldLine_175 (by decide +kernel) ?_
                refine wp_cV1 0 0 [some _, some _] dX12_fieldLine_176 tX12_wrong rfl (by decide) nX12_wrong vX12_wrong lX12_197 ⟨by decide, by decide⟩ (Nat.le_of_ble_eq_true rfl) (mO g13.1.1) (Nat.le_of_ble_eq_true rfl) rfl ?_
                refine pX12_wrong g13 (by decide) (fun hh27 f27 b27 => ?_)
                intro _ _
                have efI19_27 := (f27.fI 19 (by decide) (by decide)).trans efI19_13
                have efI20_27 := (f27.fI 20 (by decide) (by decide)).trans efI20_13
                have eL156_27 := (f27.Lr (by decide) (by decide)).trans eL156_13
                have eI158_27 := (f27.Ir (by decide) (by decide)).trans eI158_13
                have eL155_27 := (f27.Lr (by decide) (by decide)).trans eL155_13
                have eI160_27 := (f27.Ir (by decide) (by decide)).trans eI160_13
                have eI157_27 := (f27.Ir (by decide) (by decide)).trans e13
                refine wp_aload_n dX12_fieldLine_179 rfl rfl ?_
                refine wp_cV0 0 0 [some _] dX12_fieldLine_180 tX12_isGood rfl (by decide) nX12_isGood vX12_isGood lX12_212 ⟨by decide, by decide⟩ (Nat.le_of_ble_eq_true rfl) (mO b27.1) (Nat.le_of_ble_eq_true rfl) rfl ?_
                refine wp_aload_n dX12_isGood_0 rfl rfl ?_
                refine wp_getIV dX12_isGood_1 lX12_184 rfl (mO b27.1) b27.2.1 ?_
                refine wp_if_neN dX12_isGood_4 rfl (by have := b27.2.2.2.1; omega) (fun _ => ?_) (fun q9 => absurd q9 (by have := b27.2.2.1; omega))
                refine wp_iconst (v := (nI 0)) dX12_isGood_11 (by decide +kernel) ?_
                refine wp_zreturn dX12_isGood_12 rfl (Or.inl rfl) ?_
                intro _ _
                refine wp_if_eq dX12_fieldLine_183 (fun _ => ?_) (fun q => absurd q (by decide +kernel))
                refine wp_aload_n dX12_fieldLine_190 rfl rfl ?_
                refine wp_dup dX12_fieldLine_191 rfl ?_
                refine wp_getIV dX12_fieldLine_192 lX12_206 rfl (mO b27.1) efI19_27 ?_
                refine wp_iconst (v := (nI 1)) dX12_fieldLine_195 (by decide +kernel) ?_
                refine wp_iadd dX12_fieldLine_196 ?_
                refine wp_putIN dX12_fieldLine_197 lX12_206 rfl rfl (Or.inl rfl) (mO b27.1) (isN_add rfl rfl) ?_
                refine sealI (fun hh28 f28 e28 => ?_)
                have b28 := b27.fr f28 (by decide) (by decide)
                have efI20_28 := (f28.fI 20 (by decide) (by decide)).trans efI20_27
                have eL156_28 := (f28.Lr (by decide) (by decide)).trans eL156_27
                have eI158_28 := (f28.Ir (by decide) (by decide)).trans eI158_27
                have eL155_28 := (f28.Lr (by decide) (by decide)).trans eL155_27
                have eI160_28 := (f28.Ir (by decide) (by decide)).trans eI160_27
                have eI157_28 := (f28.Ir (by decide) (by decide)).trans eI157_27
                refine wp_vreturn dX12_fieldLine_200 rfl ?_
                have sm9 : isSm tb N (tE tb N (tE tb N (tE tb N (tE tb N a)))) = false := decide_eq_false (fun q9 => by first | exact absurd q9.1 (by assumption) | exact absurd q9.2 (by assumption))
                exact he _ _ (by unfold lF; rw [if_pos nm2, fd]; show (if _ then _ else _) = _; rw [if_pos w8]; rw [lO_ok pe10]; unfold lM; rw [if_neg (by rw [w14]; decide)]; unfold lS; rw [if_neg (by rw [sm9]; decide)]) _ ((((((((((f1.up (by decide) (by decide)).tr (f4.up (by decide) (by decide))).tr (f5.up (by decide) (by decide))).tr (f6.up (by decide) (by decide))).tr (f7.up (by decide) (by decide))).tr (f9.up (by decide) (by decide))).tr (f10.up (by decide) (by decide))).tr (f13.up (by decide) (by decide))).tr (f27.up (by decide) (by decide))).tr (f28.up (by decide) (by decide))) b28
      · intro _ _
        change isWd tb N _ tWo = _ at w8
        refine wp_if_eq dX12_fieldLine_110 (fun _ => ?_) (fun q => absurd q (by decide +kernel))
        refine wp_aload_n dX12_fieldLine_127 rfl rfl ?_
        refine wp_ldc2 dX12_fieldLine_128 lX12_193 ?_
        refine wp_cV1 0 0 [some _, some _, none] dX12_fieldLine_131 tX12_isWord rfl (by decide) nX12_isWord vX12_isWord lX12_220 ⟨by decide, by decide⟩ (Nat.le_of_ble_eq_true rfl) (mO g7.1.1) (Nat.le_of_ble_eq_true rfl) rfl ?_
        refine pX12_isWord g7 (fun w29 => ?_) (fun w29 => ?_)
        · intro _ _
          change isWd tb N _ tWm = _ at w29
          refine wp_if_eq dX12_fieldLine_134 (fun q => absurd q (by decide +kernel)) (fun _ => ?_)
          refine wp_aload_n dX12_fieldLine_137 rfl rfl ?_
          refine wp_getR dX12_fieldLine_138 lX12_36 rfl (mO g7.1.1) (mR_readMany g7.1.1) ?_
          refine wp_iload_n dX12_fieldLine_141 rfl rfl ?_
          refine wp_iconst (v := (nI 1)) dX12_fieldLine_142 (by decide +kernel) ?_
          refine wp_zastN dX12_fieldLine_143 (mA_readMany g7.1.1) rfl ⟨by omega, by decide⟩ ?_
          refine sealAI eI160_7 (fun hh30 f30 e30 => ?_)
          have g30 := g7.fr f30 (by decide) (by decide)
          have efI19_30 := (f30.fI 19 (by decide) (by decide)).trans efI19_7
          have efI20_30 := (f30.fI 20 (by decide) (by decide)).trans efI20_7
          have efI8_30 := (f30.fI 8 (by decide) (by decide)).trans efI8_7
          have eL156_30 := (f30.Lr (by decide) (by decide)).trans eL156_7
          have eI158_30 := (f30.Ir (by decide) (by decide)).trans eI158_7
          have eL155_30 := (f30.Lr (by decide) (by decide)).trans eL155_7
          have eI157_30 := (f30.Ir (by decide) (by decide)).trans eI157_7
          refine wp_aload_n dX12_fieldLine_144 rfl rfl ?_
          refine wp_cV0 1 21 [some _, none, none] dX12_fieldLine_145 tX12_goOn rfl (by decide) nX12_goOn vX12_goOn lX12_200 ⟨by decide, by decide⟩ (Nat.le_of_ble_eq_true rfl) (mO g30.1.1) (Nat.le_of_ble_eq_true rfl) rfl ?_
          refine pX12_goOn g30 (fun hh31 f31 g31 => ?_)
          intro _ _
          have efI19_31 := (f31.fI 19 (by decide) (by decide)).trans efI19_30
          have efI20_31 := (f31.fI 20 (by decide) (by decide)).trans efI20_30
          have efI8_31 := (f31.fI 8 (by decide) (by decide)).trans efI8_30
          have eL156_31 := (f31.Lr (by decide) (by decide)).trans eL156_30
          have eI158_31 := (f31.Ir (by decide) (by decide)).trans eI158_30
          have eL155_31 := (f31.Lr (by decide) (by decide)).trans eL155_30
          have eI157_31 := (f31.Ir (by decide) (by decide)).trans eI157_30
          have eI160_31 := (f31.Ir (by decide) (by decide)).trans e30
          refine wp_aload_n dX12_fieldLine_148 rfl rfl ?_
          refine wp_cV0 0 0 [some _] dX12_fieldLine_149 tX12_isGood rfl (by decide) nX12_isGood vX12_isGood lX12_212 ⟨by decide, by decide⟩ (Nat.le_of_ble_eq_true rfl) (mO g31.1.1) (Nat.le_of_ble_eq_true rfl) rfl ?_
          refine wp_aload_n dX12_isGood_0 rfl rfl ?_
          refine wp_getIV dX12_isGood_1 lX12_184 rfl (mO g31.1.1) g31.2.2.1 ?_
          refine wp_if_ne dX12_isGood_4 (fun q => absurd q (by decide +kernel)) (fun _ => ?_)
          refine wp_iconst (v := (nI 1)) dX12_isGood_7 (by decide +kernel) ?_
          refine wp_goto dX12_isGood_8 ?_
          refine wp_zreturn dX12_isGood_12 rfl (Or.inr rfl) ?_
          intro _ _
          refine wp_if_eq dX12_fieldLine_152 (fun q => absurd q (by decide +kernel)) (fun _ => ?_)
          refine wp_aload_n dX12_fieldLine_155 rfl rfl ?_
          refine wp_getIV dX12_fieldLine_156 lX12_168 rfl (mO g31.1.1) g31.2.1.2.1 ?_
          refine wp_iconst (v := (nI 3)) dX12_fieldLine_159 (by decide +kernel) ?_
          refine wp_icmp_neN dX12_fieldLine_160 rfl rfl ⟨by have := tS_le (tb := tb) (N := N) (a := (tE tb N (tE tb N (tE tb N a)))); omega, by omega⟩ (fun c37 => ?_) (fun c37 => ?_)
          · refine wp_aload_n dX12_fieldLine_174 rfl rfl ?_
            refine wp_iconst (v := (nI 2)) dX12_fieldLine_175 (by decide +kernel) ?_
            refine wp_cV1 0 0 [some _, some _] dX12_fieldLine_176 tX12_wrong rfl (by decide) nX12_wrong vX12_wrong lX12_197 ⟨by decide, by decide⟩ (Nat.le_of_ble_eq_true rfl) (mO g31.1.1) (Nat.le_of_ble_eq_true rfl) rfl ?_
            refine pX12_wrong g31 (by decide) (fun hh32 f32 b32 => ?_)
            intro _ _
            have efI19_32 := (f32.fI 19 (by decide) (by decide)).trans efI19_31
            have efI20_32 := (f32.fI 20 (by decide) (by decide)).trans efI20_31
            have eL156_32 := (f32.Lr (by decide) (by decide)).trans eL156_31
            have eI158_32 := (f32.Ir (by decide) (by decide)).trans eI158_31
            have eL155_32 := (f32.Lr (by decide) (by decide)).trans eL155_31
            have eI157_32 := (f32.Ir (by decide) (by decide)).trans eI157_31
            have eI160_32 := (f32.Ir (by decide) (by decide)).trans eI160_31
            refine wp_aload_n dX12_fieldLine_179 rfl rfl ?_
            refine wp_cV0 0 0 [some _] dX12_fieldLine_180 tX12_isGood rfl (by decide) nX12_isGood vX12_isGood lX12_212 ⟨by decide, by decide⟩ (Nat.le_of_ble_eq_true rfl) (mO b32.1) (Nat.le_of_ble_eq_true rfl) rfl ?_
            refine wp_aload_n dX12_isGood_0 rfl rfl ?_
            refine wp_getIV dX12_isGood_1 lX12_184 rfl (mO b32.1) b32.2.1 ?_
            refine wp_if_neN dX12_isGood_4 rfl (by have := b32.2.2.2.1; omega) (fun _ => ?_) (fun q9 => absurd q9 (by have := b32.2.2.1; omega))
            refine wp_iconst (v := (nI 0)) dX12_isGood_11 (by decide +kernel) ?_
            refine wp_zreturn dX12_isGood_12 rfl (Or.inl rfl) ?_
            intro _ _
            refine wp_if_eq dX12_fieldLine_183 (fun _ => ?_) (fun q => absurd q (by decide +kernel))
            refine wp_aload_n dX12_fieldLine_190 rfl rfl ?_
            refine wp_dup dX12_fieldLine_191 rfl ?_
            refine wp_getIV dX12_fieldLine_192 lX12_206 rfl (mO b32.1) efI19_32 ?_
            refine wp_iconst (v := (nI 1)) dX12_fieldLine_195 (by decide +kernel) ?_
            refine wp_iadd dX12_fieldLine_196 ?_
            refine wp_putIN dX12_fieldLine_197 lX12_206 rfl rfl (Or.inl rfl) (mO b32.1) (isN_add rfl rfl) ?_
            refine sealI (fun hh33 f33 e33 => ?_)
            have b33 := b32.fr f33 (by decide) (by decide)
            have efI20_33 := (f33.fI 20 (by decide) (by decide)).trans efI20_32
            have eL156_33 := (f33.Lr (by decide) (by decide)).trans eL156_32
            have eI158_33 := (f33.Ir (by decide) (by decide)).trans eI158_32
            have eL155_33 := (f33.Lr (by decide) (by decide)).trans eL155_32
            have eI157_33 := (f33.Ir (by decide) (by decide)).trans eI157_32
            have eI160_33 := (f33.Ir (by decide) (by decide)).trans eI160_32
            refine wp_vreturn dX12_fieldLine_200 rfl ?_
            have sm9 : isSm tb N (tE tb N (tE tb N (tE tb N a))) = false := decide_eq_false (fun q9 => by first | exact absurd q9.1 (by assumption) | exact absurd q9.2 (by assumption))
            exact he _ _ (by unfold lF; rw [if_pos nm2, fd]; show (if _ then _ else _) = _; rw [if_neg (by rw [w8]; decide)]; unfold lM; rw [if_pos w29]; unfold lS; rw [if_neg (by rw [sm9]; decide)]) _ (((((((((f1.up (by decide) (by decide)).tr (f4.up (by decide) (by decide))).tr (f5.up (by decide) (by decide))).tr (f6.up (by decide) (by decide))).tr (f7.up (by decide) (by decide))).tr (f30.up (by decide) (by decide))).tr (f31.up (by decide) (by decide))).tr (f32.up (by decide) (by decide))).tr (f33.up (by decide) (by decide))) b33
          · refine wp_aload_n dX12_fieldLine_163 rfl rfl ?_
            refine wp_getLV dX12_fieldLine_164 lX12_164 rfl (mO g31.1.1) g31.2.1.2.2.2 ?_
            refine wp_ldc2 dX12_fieldLine_167 lX12_228 ?_
            refine wp_lc_eq dX12_fieldLine_170 dX12_fieldLine_171 (fun c40 => ?_) (fun c40 => ?_)
            · refine wp_aload_n dX12_fieldLine_179 rfl rfl ?_
              refine wp_cV0 0 0 [some _] dX12_fieldLine_180 tX12_isGood rfl (by decide) nX12_isGood vX12_isGood lX12_212 ⟨by decide, by decide⟩ (Nat.le_of_ble_eq_true rfl) (mO g31.1.1) (Nat.le_of_ble_eq_true rfl) rfl ?_
              refine wp_aload_n dX12_isGood_0 rfl rfl ?_
              refine wp_getIV dX12_isGood_1 lX12_184 rfl (mO g31.1.1) g31.2.2.1 ?_
              refine wp_if_ne dX12_isGood_4 (fun q => absurd q (by decide +kernel)) (fun _ => ?_)
              refine wp_iconst (v := (nI 1)) dX12_isGood_7 (by decide +kernel) ?_
              refine wp_goto dX12_isGood_8 ?_
              refine wp_zreturn dX12_isGood_12 rfl (Or.inr rfl) ?_
              intro _ _
              refine wp_if_eq dX12_fieldLine_183 (fun q => absurd q (by decide +kernel)) (fun _ => ?_)
              refine wp_aload_n dX12_fieldLine_186 rfl rfl ?_
              refine wp_cV0 1 21 [some _, none, none] dX12_fieldLine_187 tX12_goOn rfl (by decide) nX12_goOn vX12_goOn lX12_200 ⟨by decide, by decide⟩ (Nat.le_of_ble_eq_true rfl) (mO g31.1.1) (Nat.le_of_ble_eq_true rfl) rfl ?_
              refine pX12_goOn g31 (fun hh34 f34 g34 => ?_)
              intro _ _
              have efI19_34 := (f34.fI 19 (by decide) (by decide)).trans efI19_31
              have efI20_34 := (f34.fI 20 (by decide) (by decide)).trans efI20_31
              have efI8_34 := (f34.fI 8 (by decide) (by decide)).trans efI8_31
              have eL156_34 := (f34.Lr (by decide) (by decide)).trans eL156_31
              have eI158_34 := (f34.Ir (by decide) (by decide)).trans eI158_31
              have eL155_34 := (f34.Lr (by decide) (by decide)).trans eL155_31
              have eI157_34 := (f34.Ir (by decide) (by decide)).trans eI157_31
              have eI160_34 := (f34.Ir (by decide) (by decide)).trans eI160_31
              refine wp_aload_n dX12_fieldLine_190 rfl rfl ?_
              refine wp_dup dX12_fieldLine_191 rfl ?_
              refine wp_getIV dX12_fieldLine_192 lX12_206 rfl (mO g34.1.1) efI19_34 ?_
              refine wp_iconst (v := (nI 1)) dX12_fieldLine_195 (by decide +kernel) ?_
              refine wp_iadd dX12_fieldLine_196 ?_
              refine wp_putIN dX12_fieldLine_197 lX12_206 rfl rfl (Or.inl rfl) (mO g34.1.1) (isN_add rfl rfl) ?_
              refine sealI (fun hh35 f35 e35 => ?_)
              have g35 := g34.fr f35 (by decide) (by decide)
              have efI20_35 := (f35.fI 20 (by decide) (by decide)).trans efI20_34
              have efI8_35 := (f35.fI 8 (by decide) (by decide)).trans efI8_34
              have eL156_35 := (f35.Lr (by decide) (by decide)).trans eL156_34
              have eI158_35 := (f35.Ir (by decide) (by decide)).trans eI158_34
              have eL155_35 := (f35.Lr (by decide) (by decide)).trans eL155_34
              have eI157_35 := (f35.Ir (by decide) (by decide)).trans eI157_34
              have eI160_35 := (f35.Ir (by decide) (by decide)).trans eI160_34
              refine wp_vreturn dX12_fieldLine_200 rfl ?_
              have sm9 : isSm tb N (tE tb N (tE tb N (tE tb N a))) = true := decide_eq_true ⟨by assumption, by assumption⟩
              refine hq _ _ _ (by unfold lF; rw [if_pos nm2, fd]; show (if _ then _ else _) = _; rw [if_neg (by rw [w8]; decide)]; unfold lM; rw [if_pos w29]; unfold lS; rw [if_pos sm9]) _ (((((((((f1.up (by decide) (by decide)).tr (f4.up (by decide) (by decide))).tr (f5.up (by decide) (by decide))).tr (f6.up (by decide) (by decide))).tr (f7.up (by decide) (by decide))).tr (f30.up (by decide) (by decide))).tr (f31.up (by decide) (by decide))).tr (f34.up (by decide) (by decide))).tr (f35.up (by decide) (by decide))) g35 (rdS_fl hr e35 efI20_35 eL155_35 eI157_35 ⟨upI_at _ _ _, fun k hk => ?_⟩ eI160_35 ⟨(upI_at _ _ _).trans (by decide +kernel), fun k hk => ?_⟩ eL156_35 eI158_35) efI8_35
              · repeat rw [upI_ne (by omega)]
              · repeat rw [upI_ne (by omega)]
            · refine wp_aload_n dX12_fieldLine_174 rfl rfl ?_
              refine wp_iconst (v := (nI 2)) dX12_fieldLine_175 (by decide +kernel) ?_
              refine wp_cV1 0 0 [some _, some _] dX12_fieldLine_176 tX12_wrong rfl (by decide) nX12_wrong vX12_wrong lX12_197 ⟨by decide, by decide⟩ (Nat.le_of_ble_eq_true rfl) (mO g31.1.1) (Nat.le_of_ble_eq_true rfl) rfl ?_
              refine pX12_wrong g31 (by decide) (fun hh36 f36 b36 => ?_)
              intro _ _
              have efI19_36 := (f36.fI 19 (by decide) (by decide)).trans efI19_31
              have efI20_36 := (f36.fI 20 (by decide) (by decide)).trans efI20_31
              have eL156_36 := (f36.Lr (by decide) (by decide)).trans eL156_31
              have eI158_36 := (f36.Ir (by decide) (by decide)).trans eI158_31
              have eL155_36 := (f36.Lr (by decide) (by decide)).trans eL155_31
              have eI157_36 := (f36.Ir (by decide) (by decide)).trans eI157_31
              have eI160_36 := (f36.Ir (by decide) (by decide)).trans eI160_31
              refine wp_aload_n dX12_fieldLine_179 rfl rfl ?_
              refine wp_cV0 0 0 [some _] dX12_fieldLine_180 tX12_isGood rfl (by decide) nX12_isGood vX12_isGood lX12_212 ⟨by decide, by decide⟩ (Nat.le_of_ble_eq_true rfl) (mO b36.1) (Nat.le_of_ble_eq_true rfl) rfl ?_
              refine wp_aload_n dX12_isGood_0 rfl rfl ?_
              refine wp_getIV dX12_isGood_1 lX12_184 rfl (mO b36.1) b36.2.1 ?_
              refine wp_if_neN dX12_isGood_4 rfl (by have := b36.2.2.2.1; omega) (fun _ => ?_) (fun q9 => absurd q9 (by have := b36.2.2.1; omega))
              refine wp_iconst (v := (nI 0)) dX12_isGood_11 (by decide +kernel) ?_
              refine wp_zreturn dX12_isGood_12 rfl (Or.inl rfl) ?_
              intro _ _
              refine wp_if_eq dX12_fieldLine_183 (fun _ => ?_) (fun q => absurd q (by decide +kernel))
              refine wp_aload_n dX12_fieldLine_190 rfl rfl ?_
              refine wp_dup dX12_fieldLine_191 rfl ?_
              refine wp_getIV dX12_fieldLine_192 lX12_206 rfl (mO b36.1) efI19_36 ?_
              refine wp_iconst (v := (nI 1)) dX12_fieldLine_195 (by decide +kernel) ?_
              refine wp_iadd dX12_fieldLine_196 ?_
              refine wp_putIN dX12_fieldLine_197 lX12_206 rfl rfl (Or.inl rfl) (mO b36.1) (isN_add rfl rfl) ?_
              refine sealI (fun hh37 f37 e37 => ?_)
              have b37 := b36.fr f37 (by decide) (by decide)
              have efI20_37 := (f37.fI 20 (by decide) (by decide)).trans efI20_36
              have eL156_37 := (f37.Lr (by decide) (by decide)).trans eL156_36
              have eI158_37 := (f37.Ir (by decide) (by decide)).trans eI158_36
              have eL155_37 := (f37.Lr (by decide) (by decide)).trans eL155_36
              have eI157_37 := (f37.Ir (by decide) (by decide)).trans eI157_36
              have eI160_37 := (f37.Ir (by decide) (by decide)).trans eI160_36
              refine wp_vreturn dX12_fieldLine_200 rfl ?_
              have sm9 : isSm tb N (tE tb N (tE tb N (tE tb N a))) = false := decide_eq_false (fun q9 => by first | exact absurd q9.1 (by assumption) | exact absurd q9.2 (by assumption))
              exact he _ _ (by unfold lF; rw [if_pos nm2, fd]; show (if _ then _ else _) = _; rw [if_neg (by rw [w8]; decide)]; unfold lM; rw [if_pos w29]; unfold lS; rw [if_neg (by rw [sm9]; decide)]) _ (((((((((f1.up (by decide) (by decide)).tr (f4.up (by decide) (by decide))).tr (f5.up (by decide) (by decide))).tr (f6.up (by decide) (by decide))).tr (f7.up (by decide) (by decide))).tr (f30.up (by decide) (by decide))).tr (f31.up (by decide) (by decide))).tr (f36.up (by decide) (by decide))).tr (f37.up (by decide) (by decide))) b37
        · intro _ _
          change isWd tb N _ tWm = _ at w29
          refine wp_if_eq dX12_fieldLine_134 (fun _ => ?_) (fun q => absurd q (by decide +kernel))
          refine wp_aload_n dX12_fieldLine_148 rfl rfl ?_
          refine wp_cV0 0 0 [some _] dX12_fieldLine_149 tX12_isGood rfl (by decide) nX12_isGood vX12_isGood lX12_212 ⟨by decide, by decide⟩ (Nat.le_of_ble_eq_true rfl) (mO g7.1.1) (Nat.le_of_ble_eq_true rfl) rfl ?_
          refine wp_aload_n dX12_isGood_0 rfl rfl ?_
          refine wp_getIV dX12_isGood_1 lX12_184 rfl (mO g7.1.1) g7.2.2.1 ?_
          refine wp_if_ne dX12_isGood_4 (fun q => absurd q (by decide +kernel)) (fun _ => ?_)
          refine wp_iconst (v := (nI 1)) dX12_isGood_7 (by decide +kernel) ?_
          refine wp_goto dX12_isGood_8 ?_
          refine wp_zreturn dX12_isGood_12 rfl (Or.inr rfl) ?_
          intro _ _
          refine wp_if_eq dX12_fieldLine_152 (fun q => absurd q (by decide +kernel)) (fun _ => ?_)
          refine wp_aload_n dX12_fieldLine_155 rfl rfl ?_
          refine wp_getIV dX12_fieldLine_156 lX12_168 rfl (mO g7.1.1) g7.2.1.2.1 ?_
          refine wp_iconst (v := (nI 3)) dX12_fieldLine_159 (by decide +kernel) ?_
          refine wp_icmp_neN dX12_fieldLine_160 rfl rfl ⟨by have := tS_le (tb := tb) (N := N) (a := (tE tb N (tE tb N a))); omega, by omega⟩ (fun c48 => ?_) (fun c48 => ?_)
          · refine wp_aload_n dX12_fieldLine_174 rfl rfl ?_
            refine wp_iconst (v := (nI 2)) dX12_fieldLine_175 (by decide +kernel) ?_
            refine wp_cV1 0 0 [some _, some _] dX12_fieldLine_176 tX12_wrong rfl (by decide) nX12_wrong vX12_wrong lX12_197 ⟨by decide, by decide⟩ (Nat.le_of_ble_eq_true rfl) (mO g7.1.1) (Nat.le_of_ble_eq_true rfl) rfl ?_
            refine pX12_wrong g7 (by decide) (fun hh38 f38 b38 => ?_)
            intro _ _
            have efI19_38 := (f38.fI 19 (by decide) (by decide)).trans efI19_7
            have efI20_38 := (f38.fI 20 (by decide) (by decide)).trans efI20_7
            have eL156_38 := (f38.Lr (by decide) (by decide)).trans eL156_7
            have eI158_38 := (f38.Ir (by decide) (by decide)).trans eI158_7
            have eL155_38 := (f38.Lr (by decide) (by decide)).trans eL155_7
            have eI157_38 := (f38.Ir (by decide) (by decide)).trans eI157_7
            have eI160_38 := (f38.Ir (by decide) (by decide)).trans eI160_7
            refine wp_aload_n dX12_fieldLine_179 rfl rfl ?_
            refine wp_cV0 0 0 [some _] dX12_fieldLine_180 tX12_isGood rfl (by decide) nX12_isGood vX12_isGood lX12_212 ⟨by decide, by decide⟩ (Nat.le_of_ble_eq_true rfl) (mO b38.1) (Nat.le_of_ble_eq_true rfl) rfl ?_
            refine wp_aload_n dX12_isGood_0 rfl rfl ?_
            refine wp_getIV dX12_isGood_1 lX12_184 rfl (mO b38.1) b38.2.1 ?_
            refine wp_if_neN dX12_isGood_4 rfl (by have := b38.2.2.2.1; omega) (fun _ => ?_) (fun q9 => absurd q9 (by have := b38.2.2.1; omega))
            refine wp_iconst (v := (nI 0)) dX12_isGood_11 (by decide +kernel) ?_
            refine wp_zreturn dX12_isGood_12 rfl (Or.inl rfl) ?_
            intro _ _
            refine wp_if_eq dX12_fieldLine_183 (fun _ => ?_) (fun q => absurd q (by decide +kernel))
            refine wp_aload_n dX12_fieldLine_190 rfl rfl ?_
            refine wp_dup dX12_fieldLine_191 rfl ?_
            refine wp_getIV dX12_fieldLine_192 lX12_206 rfl (mO b38.1) efI19_38 ?_
            refine wp_iconst (v := (nI 1)) dX12_fieldLine_195 (by decide +kernel) ?_
            refine wp_iadd dX12_fieldLine_196 ?_
            refine wp_putIN dX12_fieldLine_197 lX12_206 rfl rfl (Or.inl rfl) (mO b38.1) (isN_add rfl rfl) ?_
            refine sealI (fun hh39 f39 e39 => ?_)
            have b39 := b38.fr f39 (by decide) (by decide)
            have efI20_39 := (f39.fI 20 (by decide) (by decide)).trans efI20_38
            have eL156_39 := (f39.Lr (by decide) (by decide)).trans eL156_38
            have eI158_39 := (f39.Ir (by decide) (by decide)).trans eI158_38
            have eL155_39 := (f39.Lr (by decide) (by decide)).trans eL155_38
            have eI157_39 := (f39.Ir (by decide) (by decide)).trans eI157_38
            have eI160_39 := (f39.Ir (by decide) (by decide)).trans eI160_38
            refine wp_vreturn dX12_fieldLine_200 rfl ?_
            have sm9 : isSm tb N (tE tb N (tE tb N a)) = false := decide_eq_false (fun q9 => by first | exact absurd q9.1 (by assumption) | exact absurd q9.2 (by assumption))
            exact he _ _ (by unfold lF; rw [if_pos nm2, fd]; show (if _ then _ else _) = _; rw [if_neg (by rw [w8]; decide)]; unfold lM; rw [if_neg (by rw [w29]; decide)]; unfold lS; rw [if_neg (by rw [sm9]; decide)]) _ (((((((f1.up (by decide) (by decide)).tr (f4.up (by decide) (by decide))).tr (f5.up (by decide) (by decide))).tr (f6.up (by decide) (by decide))).tr (f7.up (by decide) (by decide))).tr (f38.up (by decide) (by decide))).tr (f39.up (by decide) (by decide))) b39
          · refine wp_aload_n dX12_fieldLine_163 rfl rfl ?_
            refine wp_getLV dX12_fieldLine_164 lX12_164 rfl (mO g7.1.1) g7.2.1.2.2.2 ?_
            refine wp_ldc2 dX12_fieldLine_167 lX12_228 ?_
            refine wp_lc_eq dX12_fieldLine_170 dX12_fieldLine_171 (fun c51 => ?_) (fun c51 => ?_)
            · refine wp_aload_n dX12_fieldLine_179 rfl rfl ?_
              refine wp_cV0 0 0 [some _] dX12_fieldLine_180 tX12_isGood rfl (by decide) nX12_isGood vX12_isGood lX12_212 ⟨by decide, by decide⟩ (Nat.le_of_ble_eq_true rfl) (mO g7.1.1) (Nat.le_of_ble_eq_true rfl) rfl ?_
              refine wp_aload_n dX12_isGood_0 rfl rfl ?_
              refine wp_getIV dX12_isGood_1 lX12_184 rfl (mO g7.1.1) g7.2.2.1 ?_
              refine wp_if_ne dX12_isGood_4 (fun q => absurd q (by decide +kernel)) (fun _ => ?_)
              refine wp_iconst (v := (nI 1)) dX12_isGood_7 (by decide +kernel) ?_
              refine wp_goto dX12_isGood_8 ?_
              refine wp_zreturn dX12_isGood_12 rfl (Or.inr rfl) ?_
              intro _ _
              refine wp_if_eq dX12_fieldLine_183 (fun q => absurd q (by decide +kernel)) (fun _ => ?_)
              refine wp_aload_n dX12_fieldLine_186 rfl rfl ?_
              refine wp_cV0 1 21 [some _, none, none] dX12_fieldLine_187 tX12_goOn rfl (by decide) nX12_goOn vX12_goOn lX12_200 ⟨by decide, by decide⟩ (Nat.le_of_ble_eq_true rfl) (mO g7.1.1) (Nat.le_of_ble_eq_true rfl) rfl ?_
              refine pX12_goOn g7 (fun hh40 f40 g40 => ?_)
              intro _ _
              have efI19_40 := (f40.fI 19 (by decide) (by decide)).trans efI19_7
              have efI20_40 := (f40.fI 20 (by decide) (by decide)).trans efI20_7
              have efI8_40 := (f40.fI 8 (by decide) (by decide)).trans efI8_7
              have eL156_40 := (f40.Lr (by decide) (by decide)).trans eL156_7
              have eI158_40 := (f40.Ir (by decide) (by decide)).trans eI158_7
              have eL155_40 := (f40.Lr (by decide) (by decide)).trans eL155_7
              have eI157_40 := (f40.Ir (by decide) (by decide)).trans eI157_7
              have eI160_40 := (f40.Ir (by decide) (by decide)).trans eI160_7
              refine wp_aload_n dX12_fieldLine_190 rfl rfl ?_
              refine wp_dup dX12_fieldLine_191 rfl ?_
              refine wp_getIV dX12_fieldLine_192 lX12_206 rfl (mO g40.1.1) efI19_40 ?_
              refine wp_iconst (v := (nI 1)) dX12_fieldLine_195 (by decide +kernel) ?_
              refine wp_iadd dX12_fieldLine_196 ?_
              refine wp_putIN dX12_fieldLine_197 lX12_206 rfl rfl (Or.inl rfl) (mO g40.1.1) (isN_add rfl rfl) ?_
              refine sealI (fun hh41 f41 e41 => ?_)
              have g41 := g40.fr f41 (by decide) (by decide)
              have efI20_41 := (f41.fI 20 (by decide) (by decide)).trans efI20_40
              have efI8_41 := (f41.fI 8 (by decide) (by decide)).trans efI8_40
              have eL156_41 := (f41.Lr (by decide) (by decide)).trans eL156_40
              have eI158_41 := (f41.Ir (by decide) (by decide)).trans eI158_40
              have eL155_41 := (f41.Lr (by decide) (by decide)).trans eL155_40
              have eI157_41 := (f41.Ir (by decide) (by decide)).trans eI157_40
              have eI160_41 := (f41.Ir (by decide) (by decide)).trans eI160_40
              refine wp_vreturn dX12_fieldLine_200 rfl ?_
              have sm9 : isSm tb N (tE tb N (tE tb N a)) = true := decide_eq_true ⟨by assumption, by assumption⟩
              refine hq _ _ _ (by unfold lF; rw [if_pos nm2, fd]; show (if _ then _ else _) = _; rw [if_neg (by rw [w8]; decide)]; unfold lM; rw [if_neg (by rw [w29]; decide)]; unfold lS; rw [if_pos sm9]) _ (((((((f1.up (by decide) (by decide)).tr (f4.up (by decide) (by decide))).tr (f5.up (by decide) (by decide))).tr (f6.up (by decide) (by decide))).tr (f7.up (by decide) (by decide))).tr (f40.up (by decide) (by decide))).tr (f41.up (by decide) (by decide))) g41 (rdS_fl hr e41 efI20_41 eL155_41 eI157_41 ⟨upI_at _ _ _, fun k hk => ?_⟩ eI160_41 ⟨(upI_at _ _ _).trans (by decide +kernel), fun k hk => ?_⟩ eL156_41 eI158_41) efI8_41
              · repeat rw [upI_ne (by omega)]
              · repeat rw [upI_ne (by omega)]
            · refine wp_aload_n dX12_fieldLine_174 rfl rfl ?_
              refine wp_iconst (v := (nI 2)) dX12_fieldLine_175 (by decide +kernel) ?_
              refine wp_cV1 0 0 [some _, some _] dX12_fieldLine_176 tX12_wrong rfl (by decide) nX12_wrong vX12_wrong lX12_197 ⟨by decide, by decide⟩ (Nat.le_of_ble_eq_true rfl) (mO g7.1.1) (Nat.le_of_ble_eq_true rfl) rfl ?_
              refine pX12_wrong g7 (by decide) (fun hh42 f42 b42 => ?_)
              intro _ _
              have efI19_42 := (f42.fI 19 (by decide) (by decide)).trans efI19_7
              have efI20_42 := (f42.fI 20 (by decide) (by decide)).trans efI20_7
              have eL156_42 := (f42.Lr (by decide) (by decide)).trans eL156_7
              have eI158_42 := (f42.Ir (by decide) (by decide)).trans eI158_7
              have eL155_42 := (f42.Lr (by decide) (by decide)).trans eL155_7
              have eI157_42 := (f42.Ir (by decide) (by decide)).trans eI157_7
              have eI160_42 := (f42.Ir (by decide) (by decide)).trans eI160_7
              refine wp_aload_n dX12_fieldLine_179 rfl rfl ?_
              refine wp_cV0 0 0 [some _] dX12_fieldLine_180 tX12_isGood rfl (by decide) nX12_isGood vX12_isGood lX12_212 ⟨by decide, by decide⟩ (Nat.le_of_ble_eq_true rfl) (mO b42.1) (Nat.le_of_ble_eq_true rfl) rfl ?_
              refine wp_aload_n dX12_isGood_0 rfl rfl ?_
              refine wp_getIV dX12_isGood_1 lX12_184 rfl (mO b42.1) b42.2.1 ?_
              refine wp_if_neN dX12_isGood_4 rfl (by have := b42.2.2.2.1; omega) (fun _ => ?_) (fun q9 => absurd q9 (by have := b42.2.2.1; omega))
              refine wp_iconst (v := (nI 0)) dX12_isGood_11 (by decide +kernel) ?_
              refine wp_zreturn dX12_isGood_12 rfl (Or.inl rfl) ?_
              intro _ _
              refine wp_if_eq dX12_fieldLine_183 (fun _ => ?_) (fun q => absurd q (by decide +kernel))
              refine wp_aload_n dX12_fieldLine_190 rfl rfl ?_
              refine wp_dup dX12_fieldLine_191 rfl ?_
              refine wp_getIV dX12_fieldLine_192 lX12_206 rfl (mO b42.1) efI19_42 ?_
              refine wp_iconst (v := (nI 1)) dX12_fieldLine_195 (by decide +kernel) ?_
              refine wp_iadd dX12_fieldLine_196 ?_
              refine wp_putIN dX12_fieldLine_197 lX12_206 rfl rfl (Or.inl rfl) (mO b42.1) (isN_add rfl rfl) ?_
              refine sealI (fun hh43 f43 e43 => ?_)
              have b43 := b42.fr f43 (by decide) (by decide)
              have efI20_43 := (f43.fI 20 (by decide) (by decide)).trans efI20_42
              have eL156_43 := (f43.Lr (by decide) (by decide)).trans eL156_42
              have eI158_43 := (f43.Ir (by decide) (by decide)).trans eI158_42
              have eL155_43 := (f43.Lr (by decide) (by decide)).trans eL155_42
              have eI157_43 := (f43.Ir (by decide) (by decide)).trans eI157_42
              have eI160_43 := (f43.Ir (by decide) (by decide)).trans eI160_42
              refine wp_vreturn dX12_fieldLine_200 rfl ?_
              have sm9 : isSm tb N (tE tb N (tE tb N a)) = false := decide_eq_false (fun q9 => by first | exact absurd q9.1 (by assumption) | exact absurd q9.2 (by assumption))
              exact he _ _ (by unfold lF; rw [if_pos nm2, fd]; show (if _ then _ else _) = _; rw [if_neg (by rw [w8]; decide)]; unfold lM; rw [if_neg (by rw [w29]; decide)]; unfold lS; rw [if_neg (by rw [sm9]; decide)]) _ (((((((f1.up (by decide) (by decide)).tr (f4.up (by decide) (by decide))).tr (f5.up (by decide) (by decide))).tr (f6.up (by decide) (by decide))).tr (f7.up (by decide) (by decide))).tr (f42.up (by decide) (by decide))).tr (f43.up (by decide) (by decide))) b43
    · have efI19_3 := (f3.fI 19 (by decide) (by decide)).trans efI19_1
      have efI20_3 := (f3.fI 20 (by decide) (by decide)).trans efI20_1
      have eL155_3 := (f3.Lr (by decide) (by decide)).trans eL155_1
      have eL156_3 := (f3.Lr (by decide) (by decide)).trans eL156_1
      have eI157_3 := (f3.Ir (by decide) (by decide)).trans eI157_1
      have eI158_3 := (f3.Ir (by decide) (by decide)).trans eI158_1
      have eI160_3 := (f3.Ir (by decide) (by decide)).trans eI160_1
      refine wp_aload_n dX12_fieldLine_70 rfl rfl ?_
      refine wp_getIV dX12_fieldLine_71 lX12_184 rfl (mO b3.1) b3.2.1 ?_
      refine wp_if_leN dX12_fieldLine_74 rfl (by have := b3.2.2.2.1; omega) (fun q9 => absurd q9 (by have := b3.2.2.1; omega)) (fun _ => ?_)
      refine wp_vreturn dX12_fieldLine_77 rfl ?_
      exact he _ _ (by unfold lF; rw [if_pos nm2, fd]) _ ((f1.up (by decide) (by decide)).tr (f3.up (by decide) (by decide))) b3
  · intro _ _
    have efI19_2 := (f2.fI 19 (by decide) (by decide)).trans efI19_1
    have efI20_2 := (f2.fI 20 (by decide) (by decide)).trans efI20_1
    have eL155_2 := (f2.Lr (by decide) (by decide)).trans eL155_1
    have eL156_2 := (f2.Lr (by decide) (by decide)).trans eL156_1
    have eI157_2 := (f2.Ir (by decide) (by decide)).trans eI157_1
    have eI158_2 := (f2.Ir (by decide) (by decide)).trans eI158_1
    have eI160_2 := (f2.Ir (by decide) (by decide)).trans eI160_1
    refine wp_lstore_n (ls1 := [_, _, some _, _, _]) dX12_fieldLine_30 rfl (by decide) rfl ?_
    refine wp_iconst (v := (nI 0)) dX12_fieldLine_31 (by decide +kernel) ?_
    refine wp_istore (ls1 := [_, _, _, _, some _]) dX12_fieldLine_32 (by decide) rfl ?_
    refine wp_iload dX12_fieldLine_34 rfl ?_
    refine wp_iload_n dX12_fieldLine_36 rfl rfl ?_
    refine wp_icmp_geN dX12_fieldLine_37 rfl rfl ⟨by have := tS_le (tb := tb) (N := N) (a := (tE tb N a)); omega, by omega⟩ (fun c57 => ?_) (fun c57 => ?_)
    · refine wp_aload_n dX12_fieldLine_70 rfl rfl ?_
      refine wp_getIV dX12_fieldLine_71 lX12_184 rfl (mO b2.1) b2.2.1 ?_
      refine wp_if_leN dX12_fieldLine_74 rfl (by have := b2.2.2.2.1; omega) (fun q9 => absurd q9 (by have := b2.2.2.1; omega)) (fun _ => ?_)
      refine wp_vreturn dX12_fieldLine_77 rfl ?_
      exact he _ _ (by unfold lF; rw [if_neg (by rw [nm2]; decide)]) _ ((f1.up (by decide) (by decide)).tr (f2.up (by decide) (by decide))) b2
    · refine wp_aload_n dX12_fieldLine_40 rfl rfl ?_
      refine wp_cV0 0 0 [some _] dX12_fieldLine_41 tX12_isGood rfl (by decide) nX12_isGood vX12_isGood lX12_212 ⟨by decide, by decide⟩ (Nat.le_of_ble_eq_true rfl) (mO b2.1) (Nat.le_of_ble_eq_true rfl) rfl ?_
      refine wp_aload_n dX12_isGood_0 rfl rfl ?_
      refine wp_getIV dX12_isGood_1 lX12_184 rfl (mO b2.1) b2.2.1 ?_
      refine wp_if_neN dX12_isGood_4 rfl (by have := b2.2.2.2.1; omega) (fun _ => ?_) (fun q9 => absurd q9 (by have := b2.2.2.1; omega))
      refine wp_iconst (v := (nI 0)) dX12_isGood_11 (by decide +kernel) ?_
      refine wp_zreturn dX12_isGood_12 rfl (Or.inl rfl) ?_
      intro _ _
      refine wp_if_eq dX12_fieldLine_44 (fun _ => ?_) (fun q => absurd q (by decide +kernel))
      refine wp_aload_n dX12_fieldLine_70 rfl rfl ?_
      refine wp_getIV dX12_fieldLine_71 lX12_184 rfl (mO b2.1) b2.2.1 ?_
      refine wp_if_leN dX12_fieldLine_74 rfl (by have := b2.2.2.2.1; omega) (fun q9 => absurd q9 (by have := b2.2.2.1; omega)) (fun _ => ?_)
      refine wp_vreturn dX12_fieldLine_77 rfl ?_
      exact he _ _ (by unfold lF; rw [if_neg (by rw [nm2]; decide)]) _ ((f1.up (by decide) (by decide)).tr (f2.up (by decide) (by decide))) b2
