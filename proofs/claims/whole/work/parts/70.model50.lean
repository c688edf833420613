/-! ===== what is proposed is taken ===== -/
def tkK (r : Nat → Int64) (f p : Nat) (l : List (Nat × Nat)) (i : Nat) : Nat → Int64 := fun y => if y = rX f p then lN l.length else if rX f p + 1 ≤ y ∧ y < rX f p + 1 + 2 * i then (if (y - (rX f p + 1)) % 2 = 0 then lN (l.getD ((y - (rX f p + 1)) / 2) (0, 0)).1 else lN (l.getD ((y - (rX f p + 1)) / 2) (0, 0)).2) else r y
theorem tkK_0 {r : Nat → Int64} {f p : Nat} {l : List (Nat × Nat)} : up1 r (rX f p) (lN l.length) = tkK r f p l 0 := by
  funext y
  unfold up1 tkK
  by_cases e : y = rX f p
  · rw [if_pos e, if_pos e]
  · rw [if_neg e, if_neg e, if_neg (by omega)]
theorem tkK_s {r : Nat → Int64} {f p i : Nat} {l : List (Nat × Nat)} : up1 (up1 (tkK r f p l i) (rX f p + 1 + 2 * i) (lN (l.getD i (0, 0)).1)) (rX f p + 2 + 2 * i) (lN (l.getD i (0, 0)).2) = tkK r f p l (i + 1) := by
  funext y
  unfold up1 tkK
  by_cases e : y = rX f p + 2 + 2 * i
  · have h1 : (y - (rX f p + 1)) % 2 = 1 := by omega
    have h2 : (y - (rX f p + 1)) / 2 = i := by omega
    rw [if_pos e, if_neg (show ¬ y = rX f p by omega), if_pos (show rX f p + 1 ≤ y ∧ y < rX f p + 1 + 2 * (i + 1) by omega), if_neg (by omega), h2]
  · rw [if_neg e]
    by_cases e1 : y = rX f p + 1 + 2 * i
    · have h1 : (y - (rX f p + 1)) % 2 = 0 := by omega
      have h2 : (y - (rX f p + 1)) / 2 = i := by omega
      rw [if_pos e1, if_neg (show ¬ y = rX f p by omega), if_pos (show rX f p + 1 ≤ y ∧ y < rX f p + 1 + 2 * (i + 1) by omega), if_pos h1, h2]
    · rw [if_neg e1]
      by_cases z : rX f p + 1 ≤ y ∧ y < rX f p + 1 + 2 * i
      · rw [if_pos z, if_pos (show rX f p + 1 ≤ y ∧ y < rX f p + 1 + 2 * (i + 1) by omega)]
      · rw [if_neg z, if_neg (show ¬ (rX f p + 1 ≤ y ∧ y < rX f p + 1 + 2 * (i + 1)) by omega)]
theorem tkK_at {r : Nat → Int64} {f p i j : Nat} {l : List (Nat × Nat)} : tkK r f p l i (rX f p) = lN l.length ∧ (j < i → tkK r f p l i (rX f p + 1 + 2 * j) = lN (l.getD j (0, 0)).1 ∧ tkK r f p l i (rX f p + 2 + 2 * j) = lN (l.getD j (0, 0)).2) ∧ (i ≤ j → tkK r f p l i (rX f p + 1 + 2 * j) = r (rX f p + 1 + 2 * j) ∧ tkK r f p l i (rX f p + 2 + 2 * j) = r (rX f p + 2 + 2 * j)) := by
  unfold tkK
  refine ⟨if_pos rfl, fun h => ⟨?_, ?_⟩, fun h => ⟨?_, ?_⟩⟩
  · rw [if_neg (by omega), if_pos (by omega), if_pos (by omega), show (rX f p + 1 + 2 * j - (rX f p + 1)) / 2 = j by omega]
  · rw [if_neg (by omega), if_pos (by omega), if_neg (by omega), show (rX f p + 2 + 2 * j - (rX f p + 1)) / 2 = j by omega]
  · rw [if_neg (by omega), if_neg (by omega)]
  · rw [if_neg (by omega), if_neg (by omega)]
def wiP (r : Nat → Int64) (pa : Nat → Int32) (p f : Nat) (l : List (Nat × Nat)) : Prop := pa f = -1 ∨ (0 < rM r (nOfI (pa f)) p ∧ rA r (nOfI (pa f)) p 0 ≤ (l.getD 0 (0, 0)).1 ∧ (l.getD (l.length - 1) (0, 0)).2 ≤ rB r (nOfI (pa f)) p 0)
theorem sOK_tk {r : Nat → Int64} {F : Nat} {pa my : Nat → Int32} {f p : Nat} {l : List (Nat × Nat)} (s : sOK r F pa my) (hf : f < F) (hp : p < rP r) (h0 : rM r f p = 0) (hl : l.length ≤ 8) (sr : srt l (rT r p)) (hw : wiP r pa p f l) : sOK (tkK r f p l l.length) F pa my := by
  have hF4 := s.f4
  have hP6 := s.w.1.2
  have hT := (s.w.2.1 p (by omega)).2
  have hz := fun i (hi : i < 8) => s.zA f p i (by omega) (by omega) hi (by omega)
  have hw0 := (s.w.2.2 f p (by omega) (by omega)).2
  have hg : ∀ i, l.length ≤ i → l.getD i (0, 0) = (0, 0) := fun i hi => by
    rw [List.getD_eq_getElem?_getD, List.getElem?_eq_none hi]
    rfl
  have h40 := srt_40 sr hT
  refine sOK_mark (A := fun i => (l.getD i (0, 0)).1) (B := fun i => (l.getD i (0, 0)).2) (m := l.length) s hf hp (fun y hy => ?_) ⟨tkK_at (j := 0) |>.1, hl, fun i hi => ?_⟩ (fun i hi => ?_) (fun hm g hg9 hg4 => ?_) (fun c hc hpc hm => ?_)
  · unfold tkK
    rw [if_neg (by omega), if_neg (by omega)]
  · have hk := tkK_at (r := r) (f := f) (p := p) (l := l) (i := l.length) (j := i)
    rcases Nat.lt_or_ge i l.length with z | z
    · have h1 := hk.2.1 z
      have h2 := sr i z
      exact ⟨h1.1, h1.2, Nat.le_of_lt h2.1, (h40 i).2, fun z2 => by omega, fun _ => ⟨h2.1, h2.2.2⟩⟩
    · have h1 := hk.2.2 z
      have h2 := hw0 i hi
      rw [h1.1, h1.2, h2.1.1, h2.2.1, (hz i hi).1, (hz i hi).2]
      simp only [hg i z]
      exact ⟨trivial, trivial, Nat.le_refl _, by omega, fun _ => ⟨trivial, trivial⟩, fun z2 => by omega⟩
  · rcases Nat.lt_or_ge i l.length with z | z
    · exact (sr i z).2.1
    · simp only [hg i z]
      exact Nat.zero_le _
  · rcases hw with z | z
    · rw [z] at hg9
      exact absurd hg9.symm (nI_ne_m1 (by omega))
    · rw [hg9, nOfI_nI (by omega)] at z
      exact z
  · have h9 := (s.ne c p f hc (by omega) hm hpc (by omega)).1
    omega
theorem tk_M {r : Nat → Int64} {f p : Nat} {l : List (Nat × Nat)} (hl : l.length ≤ 8) (hf : f < 4) (hp : p < 6) : rM (tkK r f p l l.length) f p = l.length ∧ rP (tkK r f p l l.length) = rP r := by
  refine ⟨?_, ?_⟩
  · unfold rM
    rw [(tkK_at (r := r) (f := f) (p := p) (l := l) (i := l.length) (j := 0)).1, nOf_l (by omega)]
  · unfold rP
    have e : tkK r f p l l.length 0 = r 0 := by
      have : 247 ≤ rX f p := by
        unfold rX
        omega
      unfold tkK
      rw [if_neg (by omega), if_neg (by omega)]
    rw [e]
theorem tk_E {r : Nat → Int64} {f p : Nat} {l : List (Nat × Nat)} (hl : l.length ≤ 8) (hn : l ≠ []) (hf : f < 4) (hp : p < rP r) (hP : rP r ≤ 6) : exE (tkK r f p l l.length) f ≠ 0 := by
  have h1 := tk_M (r := r) hl hf (show p < 6 by omega)
  have h2 : (exE (tkK r f p l l.length) f).testBit p = true := exE_of ⟨by rw [h1.2]; exact hp, by rw [h1.1]; exact Nat.pos_of_ne_zero (fun z => hn (List.length_eq_zero_iff.mp z))⟩
  intro e
  rw [e, Nat.zero_testBit] at h2
  cases h2
set_option maxRecDepth 20000 in
theorem pX12_isWithinParent {h : mH} {Q : Option Value → mH → Prop} {r : Nat → Int64} {F : Nat} {pa my : Nat → Int32} {p f : Nat} {l : List (Nat × Nat)} (hc : mC h r F pa my) (hd : sOK r F pa my) (hf : f < F) (hp : p < rP r) (hk : cutsOK h l) (hl0 : 0 < l.length) (ht : wiP r pa p f l → Q (some (.int (nI 1))) h) (hf0 : ¬ wiP r pa p f l → Q (some (.int (nI 0))) h) : Wp mX12_isWithinParent 2 44 0 [some (.ref 153), some (.int (nI p)), some (.int (nI f))] [] h Q := by
  have hF4 := hd.f4
  have hP6 := hd.w.1.2
  have hk8 := hk.2.1
  refine wp_aload_n dX12_isWithinParent_0 rfl rfl ?_
  refine wp_getR dX12_isWithinParent_1 lX12_33 rfl (mO hc.1) (mR_parent hc.1) ?_
  refine wp_iload_n dX12_isWithinParent_4 rfl rfl ?_
  refine wp_ialdV dX12_isWithinParent_5 (mA_parent hc.1) rfl ⟨by omega, by decide⟩ (congrFun hc.2.2.2.1 f) ?_
  rcases hd.par f hf with ep | ⟨g, hg, ep, mg⟩
  · rw [ep]
    refine wp_iconst (v := (-1)) dX12_isWithinParent_6 (by decide +kernel) ?_
    refine wp_icmp_ne dX12_isWithinParent_7 (fun q => absurd q (by decide +kernel)) (fun _ => ?_)
    refine wp_iconst (v := (nI 1)) dX12_isWithinParent_10 (by decide +kernel) ?_
    refine wp_zreturn dX12_isWithinParent_11 rfl (Or.inr rfl) ?_
    exact ht (Or.inl ep)
  · rw [ep]
    refine wp_iconst (v := (-1)) dX12_isWithinParent_6 (by decide +kernel) ?_
    refine wp_icmp_ne dX12_isWithinParent_7 (fun _ => ?_) (fun q => absurd q (nI_ne_m1 (by omega)))
    refine wp_aload_n dX12_isWithinParent_12 rfl rfl ?_
    refine wp_aload_n dX12_isWithinParent_13 rfl rfl ?_
    refine wp_getR dX12_isWithinParent_14 lX12_33 rfl (mO hc.1) (mR_parent hc.1) ?_
    refine wp_iload_n dX12_isWithinParent_17 rfl rfl ?_
    refine wp_ialdV dX12_isWithinParent_18 (mA_parent hc.1) rfl ⟨by omega, by decide⟩ ((congrFun hc.2.2.2.1 f).trans ep) ?_
    refine wp_iload_n dX12_isWithinParent_19 rfl rfl ?_
    refine wp_cV2 1 21 [some _, some _, some _] dX12_isWithinParent_20 tX12_partsOf rfl (by decide) nX12_partsOf vX12_partsOf lX12_302 ⟨by decide, by decide⟩ (Nat.le_of_ble_eq_true rfl) (mO hc.1) (Nat.le_of_ble_eq_true rfl) rfl ?_
    refine pX12_partsOf' hc hd (by omega) (by omega) ?_
    intro _ _
    refine wp_if_neN dX12_isWithinParent_23 rfl (by have h9 := (hd.w.2.2 g p (by omega) (by omega)).1.2; omega) (fun c3 => ?_) (fun c3 => ?_)
    · refine wp_aload_n dX12_isWithinParent_28 rfl rfl ?_
      refine wp_getR dX12_isWithinParent_29 lX12_64 rfl (mO hc.1) (mR_cutFrom hc.1) ?_
      refine wp_iconst (v := (nI 0)) dX12_isWithinParent_32 (by decide +kernel) ?_
      refine wp_ialdV dX12_isWithinParent_33 (mA_cutFrom hc.1) rfl ⟨by omega, by decide⟩ (hk.2.2 0 (by omega)).1 ?_
      refine wp_aload_n dX12_isWithinParent_34 rfl rfl ?_
      refine wp_aload_n dX12_isWithinParent_35 rfl rfl ?_
      refine wp_getR dX12_isWithinParent_36 lX12_33 rfl (mO hc.1) (mR_parent hc.1) ?_
      refine wp_iload_n dX12_isWithinParent_39 rfl rfl ?_
      refine wp_ialdV dX12_isWithinParent_40 (mA_parent hc.1) rfl ⟨by omega, by decide⟩ ((congrFun hc.2.2.2.1 f).trans ep) ?_
      refine wp_iload_n dX12_isWithinParent_41 rfl rfl ?_
      refine wp_iconst (v := (nI 0)) dX12_isWithinParent_42 (by decide +kernel) ?_
      refine wp_cV3 1 21 [some _, some _, some _, some _] dX12_isWithinParent_43 tX12_fromOf rfl (by decide) nX12_fromOf vX12_fromOf lX12_309 ⟨by decide, by decide⟩ (Nat.le_of_ble_eq_true rfl) (mO hc.1) (Nat.le_of_ble_eq_true rfl) rfl ?_
      refine pX12_fromOf' hc hd (by omega) (by omega) (by omega) ?_
      intro _ _
      refine wp_icmp_ltN dX12_isWithinParent_46 rfl rfl ⟨by have h9 := (hk.2.2 0 (by omega)).2.2; omega, by have h9 := (hd.ab g p 0 (by omega) (by omega) (by omega)); have := (hd.w.2.1 p (by omega)).2; omega⟩ (fun c4 => ?_) (fun c4 => ?_)
      · refine wp_iconst (v := (nI 0)) dX12_isWithinParent_79 (by decide +kernel) ?_
        refine wp_zreturn dX12_isWithinParent_80 rfl (Or.inl rfl) ?_
        have eg : nOfI (pa f) = g := by rw [ep]; exact nOfI_nI (by omega)
        exact hf0 (fun z9 => by rcases z9 with z9 | z9; exact absurd z9 (by rw [ep]; exact nI_ne_m1 (by omega)); rw [eg] at z9; omega)
      · refine wp_aload_n dX12_isWithinParent_49 rfl rfl ?_
        refine wp_getR dX12_isWithinParent_50 lX12_67 rfl (mO hc.1) (mR_cutTo hc.1) ?_
        refine wp_aload_n dX12_isWithinParent_53 rfl rfl ?_
        refine wp_getIV dX12_isWithinParent_54 lX12_337 rfl (mO hc.1) hk.1 ?_
        refine wp_iconst (v := (nI 1)) dX12_isWithinParent_57 (by decide +kernel) ?_
        refine wp_isub dX12_isWithinParent_58 ?_
        refine wp_ialdV dX12_isWithinParent_59 (mA_cutTo hc.1) (isN_sub rfl rfl (by omega)) ⟨by omega, by decide⟩ (hk.2.2 (l.length - 1) (by omega)).2.1 ?_
        refine wp_aload_n dX12_isWithinParent_60 rfl rfl ?_
        refine wp_aload_n dX12_isWithinParent_61 rfl rfl ?_
        refine wp_getR dX12_isWithinParent_62 lX12_33 rfl (mO hc.1) (mR_parent hc.1) ?_
        refine wp_iload_n dX12_isWithinParent_65 rfl rfl ?_
        refine wp_ialdV dX12_isWithinParent_66 (mA_parent hc.1) rfl ⟨by omega, by decide⟩ ((congrFun hc.2.2.2.1 f).trans ep) ?_
        refine wp_iload_n dX12_isWithinParent_67 rfl rfl ?_
        refine wp_iconst (v := (nI 0)) dX12_isWithinParent_68 (by decide +kernel) ?_
        refine wp_cV3 1 21 [some _, some _, some _, some _] dX12_isWithinParent_69 tX12_toOf rfl (by decide) nX12_toOf vX12_toOf lX12_305 ⟨by decide, by decide⟩ (Nat.le_of_ble_eq_true rfl) (mO hc.1) (Nat.le_of_ble_eq_true rfl) rfl ?_
        refine pX12_toOf' hc hd (by omega) (by omega) (by omega) ?_
        intro _ _
        refine wp_icmp_gtN dX12_isWithinParent_72 rfl rfl ⟨by have h9 := (hk.2.2 (l.length - 1) (by omega)).2.2; omega, by have h9 := (hd.ab g p 0 (by omega) (by omega) (by omega)); have := (hd.w.2.1 p (by omega)).2; omega⟩ (fun c5 => ?_) (fun c5 => ?_)
        · refine wp_iconst (v := (nI 0)) dX12_isWithinParent_79 (by decide +kernel) ?_
          refine wp_zreturn dX12_isWithinParent_80 rfl (Or.inl rfl) ?_
          have eg : nOfI (pa f) = g := by rw [ep]; exact nOfI_nI (by omega)
          exact hf0 (fun z9 => by rcases z9 with z9 | z9; exact absurd z9 (by rw [ep]; exact nI_ne_m1 (by omega)); rw [eg] at z9; omega)
        · refine wp_iconst (v := (nI 1)) dX12_isWithinParent_75 (by decide +kernel) ?_
          refine wp_goto dX12_isWithinParent_76 ?_
          refine wp_zreturn dX12_isWithinParent_80 rfl (Or.inr rfl) ?_
          have eg : nOfI (pa f) = g := by rw [ep]; exact nOfI_nI (by omega)
          exact ht (Or.inr (by rw [eg]; exact ⟨by omega, by omega, by omega⟩))
    · refine wp_iconst (v := (nI 0)) dX12_isWithinParent_26 (by decide +kernel) ?_
      refine wp_zreturn dX12_isWithinParent_27 rfl (Or.inl rfl) ?_
      have eg : nOfI (pa f) = g := by rw [ep]; exact nOfI_nI (by omega)
      exact hf0 (fun z9 => by rcases z9 with z9 | z9; exact absurd z9 (by rw [ep]; exact nI_ne_m1 (by omega)); rw [eg] at z9; omega)
set_option maxRecDepth 20000 in
theorem take_loop {h : mH} {Q : Option Value → mH → Prop} {r : Nat → Int64} {F : Nat} {pa my : Nat → Int32} {pr : Nat → Nat → Int64} {a u : Nat} {bx : Nat → Nat → Int64} {kp tp : Nat → Int32} {t : Nat} {tf tl : Int32} {p f : Nat} {l : List (Nat × Nat)} (ht : mT h (tkK r f p l 0) F pa my pr a u bx kp tp t tf tl) (hk : cutsOK h l) (hf : f < 4) (hp : p < 6) (K9 : ∀ h', mFr (mP [] [162]) h h' → mT h' (tkK r f p l l.length) F pa my pr a u bx kp tp t tf tl → Wp mX12_take 10 246 119 [some (.ref 153), some (.int (nI p)), some (.int (nI f)), some (.int (nI (rX f p))), some (.int (nI l.length))] [] h' Q) : Wp mX12_take 10 246 62 [some (.ref 153), some (.int (nI p)), some (.int (nI f)), some (.int (nI (rX f p))), some (.int (nI 0))] [] h Q := by
  have hk8 := hk.2.1
  have hX : rX f p + 17 ≤ 655 := by
    unfold rX
    omega
  have hloop : ∀  (t9 : Nat) (i : Nat) (h1 : mH), (i ≤ l.length) → (cutsOK h1 l) → (mFr (mP [] [162]) h h1) → (mT h1 (tkK r f p l i) F pa my pr a u bx kp tp t tf tl) → (l.length < i + t9) → Wp mX12_take 10 246 62 [some (.ref 153), some (.int (nI p)), some (.int (nI f)), some (.int (nI (rX f p))), some (.int (nI i))] [] h1 Q := by
    intro t9
    induction t9 with
    | zero => intros; omega
    | succ t9 ih =>
      intro i h1 hi k1 hf1 t1 hmz
      refine wp_iload dX12_take_62 rfl ?_
      refine wp_aload_n dX12_take_64 rfl rfl ?_
      refine wp_getIV dX12_take_65 lX12_337 rfl (mO t1.1.1) k1.1 ?_
      refine wp_icmp_geN dX12_take_68 rfl rfl ⟨by omega, by omega⟩ (fun c1 => ?_) (fun c1 => ?_)
      · have e9 : i = l.length := by omega
        subst e9
        exact K9 _ hf1 t1
      · refine wp_aload_n dX12_take_71 rfl rfl ?_
        refine wp_getR dX12_take_72 lX12_43 rfl (mO t1.1.1) (mR_now t1.1.1) ?_
        refine wp_iload_n dX12_take_75 rfl rfl ?_
        refine wp_iconst (v := (nI 1)) dX12_take_76 (by decide +kernel) ?_
        refine wp_iadd dX12_take_77 ?_
        refine wp_iconst (v := (nI 2)) dX12_take_78 (by decide +kernel) ?_
        refine wp_iload dX12_take_79 rfl ?_
        refine wp_imul dX12_take_81 ?_
        refine wp_iadd dX12_take_82 ?_
        refine wp_aload_n dX12_take_83 rfl rfl ?_
        refine wp_getR dX12_take_84 lX12_64 rfl (mO t1.1.1) (mR_cutFrom t1.1.1) ?_
        refine wp_iload dX12_take_87 rfl ?_
        refine wp_ialdV dX12_take_89 (mA_cutFrom t1.1.1) rfl ⟨by omega, by decide⟩ (k1.2.2 i (by omega)).1 ?_
        refine wp_i2l dX12_take_90 ?_
        refine wp_lastT dX12_take_91 t1 (isN_add (isN_add rfl rfl) (isN_mul rfl rfl)) (by omega) (nI_l (by have h9 := (hk.2.2 i (by omega)).2.2; omega)) (fun hh1 t1 f1 => ?_)
        have k1 := k1.fr f1 (by decide) (by decide)
        refine wp_aload_n dX12_take_92 rfl rfl ?_
        refine wp_getR dX12_take_93 lX12_43 rfl (mO t1.1.1) (mR_now t1.1.1) ?_
        refine wp_iload_n dX12_take_96 rfl rfl ?_
        refine wp_iconst (v := (nI 2)) dX12_take_97 (by decide +kernel) ?_
        refine wp_iadd dX12_take_98 ?_
        refine wp_iconst (v := (nI 2)) dX12_take_99 (by decide +kernel) ?_
        refine wp_iload dX12_take_100 rfl ?_
        refine wp_imul dX12_take_102 ?_
        refine wp_iadd dX12_take_103 ?_
        refine wp_aload_n dX12_take_104 rfl rfl ?_
        refine wp_getR dX12_take_105 lX12_67 rfl (mO t1.1.1) (mR_cutTo t1.1.1) ?_
        refine wp_iload dX12_take_108 rfl ?_
        refine wp_ialdV dX12_take_110 (mA_cutTo t1.1.1) rfl ⟨by omega, by decide⟩ (k1.2.2 i (by omega)).2.1 ?_
        refine wp_i2l dX12_take_111 ?_
        refine wp_lastT dX12_take_112 t1 (isN_add (isN_add rfl rfl) (isN_mul rfl rfl)) (by omega) (nI_l (by have h9 := (hk.2.2 i (by omega)).2.2; omega)) (fun hh2 t2 f2 => ?_)
        have k2 := k1.fr f2 (by decide) (by decide)
        refine wp_iinc1 (ls1 := [_, _, _, _, some _]) dX12_take_113 rfl (by decide) rfl ?_
        refine wp_goto dX12_take_116 ?_
        refine ih (i + 1) _ (by omega) k2 (((hf1.up (by decide) (by decide)).tr (f1.up (by decide) (by decide))).tr (f2.up (by decide) (by decide))) (by rw [← tkK_s]; exact t2) (by omega)
  exact hloop (l.length + 1) 0 h (by omega) hk mFr.rf ht (by omega)
set_option maxRecDepth 20000 in
theorem pX12_take {h : mH} {Q : Option Value → mH → Prop} {r : Nat → Int64} {F : Nat} {pa my : Nat → Int32} {pr : Nat → Nat → Int64} {a u : Nat} {bx : Nat → Nat → Int64} {kp tp : Nat → Int32} {t : Nat} {tf tl : Int32} {x y : Int32} (ht : mT h r F pa my pr a u bx kp tp t tf tl) (hd : sOK r F pa my) (h0 : (cnC r F x y = none ∨ ∃ p f, cnC r F x y = some (p, f) ∧ (0 < rM r f p ∨ prP r pa my p f none ∨ ∃ l, prP r pa my p f (some l) ∧ ¬ wiP r pa p f l)) → ∀ h', mFr pwS h h' → Q (some (.int (-1))) h') (hq : ∀ p f l L hop, cnC r F x y = some (p, f) → rM r f p = 0 → prP r pa my p f (some l) → wiP r pa p f l → coP (tkK r f p l l.length) pa my f (exE (tkK r f p l l.length) f) L hop → L.length ≤ 6 → sOK (tkK r f p l l.length) F pa my → ∀ h', mFr pwM h h' → mT h' (lnS (tkK r f p l l.length) f L 44) F pa my (actP pr r a) (actN a) 0 bx kp tp t tf tl → Q (some (.int (nI L.length))) h') : Wp mX12_take 10 246 0 [some (.ref 153), some (.int x), some (.int y), none, none] [] h Q := by
  have hF4 := hd.f4
  have hP6 := hd.w.1.2
  refine wp_aload_n dX12_take_0 rfl rfl ?_
  refine wp_iload_n dX12_take_1 rfl rfl ?_
  refine wp_iload_n dX12_take_2 rfl rfl ?_
  refine wp_cV2 2 43 [some _, some _, some _] dX12_take_3 tX12_canCut rfl (by decide) nX12_canCut vX12_canCut lX12_485 ⟨by decide, by decide⟩ (Nat.le_of_ble_eq_true rfl) (mO ht.1.1) (Nat.le_of_ble_eq_true rfl) rfl ?_
  refine pX12_canCut ht.1 hd (fun p1 q1 cn1 ex1 ey1 hp1 hf1 hl1 => ?_) (fun cn1 => ?_)
  · subst ex1
    subst ey1
    intro _ _
    refine wp_if_eq dX12_take_6 (fun q => absurd q (by decide +kernel)) (fun _ => ?_)
    have h48 := (hd.w.2.2 q1 p1 (by omega) (by omega)).1.2
    have hT40 := (hd.w.2.1 p1 (by omega)).2
    refine wp_aload_n dX12_take_9 rfl rfl ?_
    refine wp_iload_n dX12_take_10 rfl rfl ?_
    refine wp_iload_n dX12_take_11 rfl rfl ?_
    refine wp_cV2 1 21 [some _, some _, some _] dX12_take_12 tX12_partsOf rfl (by decide) nX12_partsOf vX12_partsOf lX12_302 ⟨by decide, by decide⟩ (Nat.le_of_ble_eq_true rfl) (mO ht.1.1) (Nat.le_of_ble_eq_true rfl) rfl ?_
    refine pX12_partsOf' ht.1 hd (by omega) (by omega) ?_
    intro _ _
    refine wp_if_gtN dX12_take_15 rfl (by omega) (fun c2 => ?_) (fun c2 => ?_)
    · refine wp_iconst (v := (-1)) dX12_take_36 (by decide +kernel) ?_
      refine wp_ireturn dX12_take_37 rfl ?_
      exact h0 (Or.inr ⟨_, _, cn1, Or.inl (by omega)⟩) _ mFr.rf
    · refine wp_aload_n dX12_take_18 rfl rfl ?_
      refine wp_iload_n dX12_take_19 rfl rfl ?_
      refine wp_iload_n dX12_take_20 rfl rfl ?_
      refine wp_cV2 9 222 [some _, some _, some _, none, none] dX12_take_21 tX12_laysProposed rfl (by decide) nX12_laysProposed vX12_laysProposed lX12_539 ⟨by decide, by decide⟩ (Nat.le_of_ble_eq_true rfl) (mO ht.1.1) (Nat.le_of_ble_eq_true rfl) rfl ?_
      refine pX12_laysProposed ht.1 hd hf1 (by omega) hl1 (fun hh2 l2 f2 pr2 k2 ne2 sr2 => ?_) (fun hh2 f2 pr2 => ?_)
      · intro _ _
        have mc2 := ht.1.fr f2 (by decide) (by decide) (by decide) (by decide) (by decide)
        have t2 := ht.fr (f2.up (by decide) (by decide))
        have hk8 := k2.2.1
        refine wp_if_eq dX12_take_24 (fun q => absurd q (by decide +kernel)) (fun _ => ?_)
        refine wp_aload_n dX12_take_27 rfl rfl ?_
        refine wp_iload_n dX12_take_28 rfl rfl ?_
        refine wp_iload_n dX12_take_29 rfl rfl ?_
        refine wp_cV2 2 44 [some _, some _, some _] dX12_take_30 tX12_isWithinParent rfl (by decide) nX12_isWithinParent vX12_isWithinParent lX12_542 ⟨by decide, by decide⟩ (Nat.le_of_ble_eq_true rfl) (mO mc2.1) (Nat.le_of_ble_eq_true rfl) rfl ?_
        refine pX12_isWithinParent mc2 hd hf1 (by omega) k2 (Nat.pos_of_ne_zero (fun z9 => ne2 (List.length_eq_zero_iff.mp z9))) (fun wi3 => ?_) (fun wi3 => ?_)
        · intro _ _
          refine wp_if_ne dX12_take_33 (fun _ => ?_) (fun q => absurd q (by decide +kernel))
          refine wp_aload_n dX12_take_38 rfl rfl ?_
          refine wp_cV0 0 0 [some _, none] dX12_take_39 tX12_act rfl (by decide) nX12_act vX12_act lX12_258 ⟨by decide, by decide⟩ (Nat.le_of_ble_eq_true rfl) (mO mc2.1) (Nat.le_of_ble_eq_true rfl) rfl ?_
          refine pX12_act' t2 (fun hh4 f4 t4 => ?_)
          intro _ _
          have mc4 := mc2.fr f4 (by decide) (by decide) (by decide) (by decide) (by decide)
          have k4 := k2.fr f4 (by decide) (by decide)
          refine wp_iload_n dX12_take_42 rfl rfl ?_
          refine wp_iload_n dX12_take_43 rfl rfl ?_
          refine wp_cS2 0 0 [some _, some _] dX12_take_44 tX12_markAt sX12_markAt lX12_295 ⟨by decide, by decide⟩ (Nat.le_of_ble_eq_true rfl) (Nat.le_of_ble_eq_true rfl) rfl ?_
          refine pX12_markAt ?_
          intro _ _
          refine wp_istore_n (ls1 := [_, _, _, some _, _]) dX12_take_47 rfl (by decide) rfl ?_
          have hX9 : rX q1 p1 + 17 ≤ 655 := by unfold rX; omega
          refine wp_aload_n dX12_take_48 rfl rfl ?_
          refine wp_getR dX12_take_49 lX12_43 rfl (mO mc4.1) (mR_now mc4.1) ?_
          refine wp_iload_n dX12_take_52 rfl rfl ?_
          refine wp_aload_n dX12_take_53 rfl rfl ?_
          refine wp_getIV dX12_take_54 lX12_337 rfl (mO mc4.1) k4.1 ?_
          refine wp_i2l dX12_take_57 ?_
          refine wp_lastT dX12_take_58 t4 rfl (by omega) (nI_l (by omega)) (fun hh5 t5 f5 => ?_)
          have k5 := k4.fr f5 (by decide) (by decide)
          refine wp_iconst (v := (nI 0)) dX12_take_59 (by decide +kernel) ?_
          refine wp_istore (ls1 := [_, _, _, _, some _]) dX12_take_60 (by decide) rfl ?_
          refine take_loop (f := q1) (p := p1) (l := l2) (by rw [← tkK_0]; exact t5) k5 (by omega) (by omega) (fun hh6 f6 t6 => ?_)
          have k6 := k5.fr f6 (by decide) (by decide)
          refine wp_aload_n dX12_take_119 rfl rfl ?_
          refine wp_iload_n dX12_take_120 rfl rfl ?_
          refine wp_cV1 8 200 [some _, some _, none, none, none] dX12_take_121 tX12_learns rfl (by decide) nX12_learns vX12_learns lX12_457 ⟨by decide, by decide⟩ (Nat.le_of_ble_eq_true rfl) (mO t6.1.1) (Nat.le_of_ble_eq_true rfl) rfl ?_
          have ok9 := sOK_tk hd hf1 hp1 (by omega) hk8 (by rw [rowL_m1 (rT r p1) (by omega), List.length_range] at sr2; exact sr2) wi3
          refine pX12_learns t6 ok9 hf1 (tk_E hk8 ne2 (by omega) hp1 hP6) (fun hh7 L7 p7 co7 le7 f7 t7 => ?_)
          intro _ _
          refine wp_ireturn dX12_take_124 rfl ?_
          exact hq _ _ _ _ _ cn1 (by omega) pr2 wi3 co7 le7 ok9 _ (((((f2.mM (by decide)).tr (f4.mM (by decide))).tr (f5.mM (by decide))).tr (f6.mM (by decide))).tr f7) t7
        · intro _ _
          refine wp_if_ne dX12_take_33 (fun q => absurd q (by decide +kernel)) (fun _ => ?_)
          refine wp_iconst (v := (-1)) dX12_take_36 (by decide +kernel) ?_
          refine wp_ireturn dX12_take_37 rfl ?_
          exact h0 (Or.inr ⟨_, _, cn1, Or.inr (Or.inr ⟨_, pr2, wi3⟩)⟩) _ (f2.up (by decide) (by decide))
      · intro _ _
        have mc2 := ht.1.fr f2 (by decide) (by decide) (by decide) (by decide) (by decide)
        have t2 := ht.fr (f2.up (by decide) (by decide))
        refine wp_if_eq dX12_take_24 (fun _ => ?_) (fun q => absurd q (by decide +kernel))
        refine wp_iconst (v := (-1)) dX12_take_36 (by decide +kernel) ?_
        refine wp_ireturn dX12_take_37 rfl ?_
        exact h0 (Or.inr ⟨_, _, cn1, Or.inr (Or.inl pr2)⟩) _ (f2.up (by decide) (by decide))
  · intro _ _
    refine wp_if_eq dX12_take_6 (fun _ => ?_) (fun q => absurd q (by decide +kernel))
    refine wp_iconst (v := (-1)) dX12_take_36 (by decide +kernel) ?_
    refine wp_ireturn dX12_take_37 rfl ?_
    exact h0 (Or.inl cn1) _ mFr.rf
