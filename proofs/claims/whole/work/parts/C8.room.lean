/-! ===== room for a mark, within the parent's ===== -/
theorem not_hi {k : Nat} (hk : k < 64) : lN (2 ^ k - 1) ^^^ (-1) = lN (2 ^ 64 - 2 ^ k) := by
  apply wb_inj
  have hp : 2 ^ k < 2 ^ 64 := wb_lt2 hk
  have h0 := Nat.two_pow_pos k
  show (lN (2 ^ k - 1)).toBitVec ^^^ (-1 : Int64).toBitVec = _
  rw [show (-1 : Int64).toBitVec = BitVec.allOnes 64 by decide +kernel, BitVec.xor_allOnes]
  apply BitVec.eq_of_toNat_eq
  rw [BitVec.toNat_not, wb_tn (by omega), wb_tn (by omega)]
  omega
theorem and_lt63 {a b : Nat} (ha : a < 2 ^ 63) : a &&& b < 2 ^ 63 := Nat.lt_of_le_of_lt Nat.and_le_left ha
theorem hi_z {l : List Nat} {b k : Nat} (h : asc l b) (hk : k < 64) : lN (bsN l) &&& (lN (2 ^ k - 1) ^^^ (-1)) = 0 ↔ ∀ j ∈ l, j < k := by
  have hb := bsN_lt h
  have hp : 2 ^ k < 2 ^ 64 := wb_lt2 hk
  have h0 := Nat.two_pow_pos k
  rw [not_hi hk, wb_and (by omega) (by omega), lN0 (and_lt63 hb)]
  have tb : ∀ j, (bsN l &&& (2 ^ 64 - 2 ^ k)).testBit j = (decide (j ∈ l) && decide (k ≤ j ∧ j < 64)) := fun j => by
    rw [Nat.testBit_and, bsN_tb j h, span_tb (by omega)]
  constructor
  · intro e j hj
    have := tb j
    rw [e, Nat.zero_testBit, decide_eq_true hj, Bool.true_and] at this
    have hj63 := (asc_mem h hj).2
    have := of_decide_eq_false this.symm
    omega
  · intro e
    apply Nat.eq_of_testBit_eq
    intro j
    rw [tb, Nat.zero_testBit]
    by_cases c : j ∈ l
    · rw [decide_eq_false (p := k ≤ j ∧ j < 64) (fun z => by have := e j c; omega), Bool.and_false]
    · rw [decide_eq_false c, Bool.false_and]
theorem lo_z {l : List Nat} {b k : Nat} (h : asc l b) (hk : k < 64) : lN (bsN l) &&& lN (2 ^ k - 1) = 0 ↔ ∀ j ∈ l, k ≤ j := by
  have hb := bsN_lt h
  have hp : 2 ^ k < 2 ^ 64 := wb_lt2 hk
  have h0 := Nat.two_pow_pos k
  rw [wb_and (by omega) (by omega), lN0 (and_lt63 hb)]
  have tb : ∀ j, (bsN l &&& (2 ^ k - 1)).testBit j = (decide (j ∈ l) && decide (j < k)) := fun j => by
    rw [Nat.testBit_and, bsN_tb j h, Nat.testBit_two_pow_sub_one]
  constructor
  · intro e j hj
    have := tb j
    rw [e, Nat.zero_testBit, decide_eq_true hj, Bool.true_and] at this
    have := of_decide_eq_false this.symm
    omega
  · intro e
    apply Nat.eq_of_testBit_eq
    intro j
    rw [tb, Nat.zero_testBit]
    by_cases c : j ∈ l
    · rw [decide_eq_false (p := j < k) (fun z => by have := e j c; omega), Bool.and_false]
    · rw [decide_eq_false c, Bool.false_and]
theorem srt_st {l : List (Nat × Nat)} {n : Nat} (h : srt l n) (i : Nat) : ∀ d, i + d < l.length → (l.getD i (0, 0)).1 ≤ (l.getD (i + d) (0, 0)).1 ∧ (l.getD i (0, 0)).2 ≤ (l.getD (i + d) (0, 0)).2
  | 0, _ => ⟨Nat.le_refl _, Nat.le_refl _⟩
  | d + 1, hd => by
    have ih := srt_st h i d (by omega)
    have h1 := h (i + d) (by omega)
    have h2 := h1.2.2 (by omega)
    have h3 := h (i + d + 1) (by omega)
    show _ ≤ (l.getD (i + d + 1) (0, 0)).1 ∧ _ ≤ (l.getD (i + d + 1) (0, 0)).2
    omega
theorem mem_gd {l : List (Nat × Nat)} {q : Nat × Nat} : q ∈ l ↔ ∃ i, i < l.length ∧ l.getD i (0, 0) = q := by
  rw [List.mem_iff_getElem]
  constructor
  · rintro ⟨i, hi, e⟩
    exact ⟨i, hi, by rw [List.getD_eq_getElem?_getD, List.getElem?_eq_getElem hi]; exact e⟩
  · rintro ⟨i, hi, e⟩
    refine ⟨i, hi, ?_⟩
    rw [List.getD_eq_getElem?_getD, List.getElem?_eq_getElem hi] at e
    exact e
theorem srt_lo {l : List (Nat × Nat)} {n A : Nat} (h : srt l n) (h0 : l ≠ []) : (∀ j ∈ l.map Prod.fst, A ≤ j) ↔ A ≤ (l.getD 0 (0, 0)).1 := by
  have hl : 0 < l.length := List.length_pos_iff.mpr h0
  constructor
  · intro z
    exact z _ (List.mem_map.mpr ⟨_, mem_gd.mpr ⟨0, hl, rfl⟩, rfl⟩)
  · intro z j hj
    obtain ⟨q, hq, e⟩ := List.mem_map.mp hj
    obtain ⟨i, hi, e2⟩ := mem_gd.mp hq
    have := (srt_st h 0 i (by omega)).1
    rw [Nat.zero_add, e2, e] at this
    omega
theorem srt_hi {l : List (Nat × Nat)} {n B : Nat} (h : srt l n) (h0 : l ≠ []) : (∀ j ∈ l.map Prod.snd, j < B + 1) ↔ (l.getD (l.length - 1) (0, 0)).2 ≤ B := by
  have hl : 0 < l.length := List.length_pos_iff.mpr h0
  constructor
  · intro z
    have := z _ (List.mem_map.mpr ⟨_, mem_gd.mpr ⟨l.length - 1, by omega, rfl⟩, rfl⟩)
    omega
  · intro z j hj
    obtain ⟨q, hq, e⟩ := List.mem_map.mp hj
    obtain ⟨i, hi, e2⟩ := mem_gd.mp hq
    have := (srt_st h i (l.length - 1 - i) (by omega)).2
    rw [show i + (l.length - 1 - i) = l.length - 1 by omega, e2, e] at this
    omega
def rmP (r : Nat → Int64) (my : Nat → Int32) (f p i : Nat) : Prop := rM r f p = 0 ∨ my f = 1 ∧ rM r f p < 8 ∧ rB r f p (rM r f p - 1) ≤ i
theorem rm_hi {r : Nat → Int64} {F : Nat} {pa my : Nat → Int32} {f p i : Nat} (hd : sOK r F pa my) (hf : f < 4) (hp : p < 6) (hm : rM r f p ≠ 0) (hi : i < 40) : lN (bsE (mkL r f p)) &&& (lN (2 ^ (i + 1) - 1) ^^^ (-1)) = 0 ↔ rB r f p (rM r f p - 1) ≤ i := by
  have hT := (hd.w.2.1 p hp).2
  have hs := srt_mk hd hf hp
  have h0 : mkL r f p ≠ [] := fun z => hm (by rw [← mkL_len, z]; rfl)
  unfold bsE
  rw [hi_z (srt_asc hs (by omega)).2 (by omega), srt_hi hs h0, mkL_len, mkL_getD (by omega)]
set_option maxRecDepth 20000 in
theorem pX11_hasRoom {h : mH} {Q : Option Value → mH → Prop} {ow : Nat → Nat} {F fa o1 d1 u1 : Nat} {pa my : Nat → Int32} {r : Nat → Int64} {p f i : Nat} (e9 : eS ow h F pa my r fa o1 d1 u1) (hd : sOK r F pa my) (hp : p < rP r) (hf : f < F) (hi : i < 40) (ht : rmP r my f p i → Q (some (.int (nI 1))) h) (hf9 : ¬ rmP r my f p i → Q (some (.int (nI 0))) h) : Wp mX11_hasRoom 1 21 0 [some (.ref 0), some (.long (lN (bsA (mkL r f p)))), none, some (.long (lN (bsE (mkL r f p)))), none, some (.int (nI f)), some (.int (nI i)), none] [] h Q := by
  have hP6 := hd.w.1.2
  have hF4 := hd.f4
  refine wp_lload_n dX11_hasRoom_0 rfl rfl ?_
  refine wp_lconst (v := 0) dX11_hasRoom_1 (by decide +kernel) ?_
  refine wp_lc_ne dX11_hasRoom_2 dX11_hasRoom_3 (fun c1 => ?_) (fun c1 => ?_)
  · have hz9 : ¬ bsA (mkL r f p) = 0 := fun z => c1 ((lN0 (bsA_lt hd (by omega) (by omega)).1).mpr z)
    have hm9 : rM r f p ≠ 0 := fun z => hz9 ((bsA0 hd (by omega) (by omega)).mpr z)
    have hM9 := (hd.w.2.2 f p (by omega) (by omega)).1.2
    have hh9 := rm_hi hd (show f < 4 by omega) (show p < 6 by omega) hm9 hi
    refine wp_lload_n dX11_hasRoom_8 rfl rfl ?_
    refine wp_iload dX11_hasRoom_9 rfl ?_
    refine wp_iconst (v := (nI 1)) dX11_hasRoom_11 (by decide +kernel) ?_
    refine wp_iadd dX11_hasRoom_12 ?_
    refine wp_cS1 0 0 [some _] dX11_hasRoom_13 tX11_below sX11_below lX11_221 ⟨by decide, by decide⟩ (Nat.le_of_ble_eq_true rfl) (Nat.le_of_ble_eq_true rfl) rfl ?_
    rw [nI_add]
    refine pX11_below (by omega) ?_
    intro _ _
    refine wp_ldc2 dX11_hasRoom_16 lX11_225 ?_
    refine wp_lxor dX11_hasRoom_19 ?_
    refine wp_land dX11_hasRoom_20 ?_
    refine wp_lconst (v := 0) dX11_hasRoom_21 (by decide +kernel) ?_
    refine wp_lc_ne dX11_hasRoom_22 dX11_hasRoom_23 (fun c2 => ?_) (fun c2 => ?_)
    · refine wp_iconst (v := (nI 0)) dX11_hasRoom_30 (by decide +kernel) ?_
      refine wp_istore (ls1 := [_, _, _, _, _, _, _, some _]) dX11_hasRoom_31 (by decide) rfl ?_
      refine wp_aload_n dX11_hasRoom_33 rfl rfl ?_
      refine wp_getR dX11_hasRoom_34 lX11_20 rfl e9.oo e9.f4 ?_
      refine wp_getR dX11_hasRoom_37 lX11_150 rfl e9.fl.oo e9.fl.r2 ?_
      refine wp_iload dX11_hasRoom_40 rfl ?_
      refine wp_zaldV dX11_hasRoom_42 e9.fl.a2 rfl ⟨by omega, by omega⟩ (e9.fl.c2 (by omega)) ?_
      refine wp_if_eq dX11_hasRoom_43 (fun cm => ?_) (fun cm => ?_)
      · refine wp_iconst (v := (nI 0)) dX11_hasRoom_64 (by decide +kernel) ?_
        refine wp_zreturn dX11_hasRoom_65 rfl (by first | exact Or.inl rfl | exact Or.inr rfl) ?_
        first | exact hf9 (fun z => z.elim hm9 (fun w => absurd (w.1.symm.trans cm) (by decide))) | exact hf9 (fun z => z.elim hm9 (fun w => by omega)) | exact hf9 (fun z => z.elim hm9 (fun w => c2 (hh9.mpr w.2.2)))
      · refine wp_lload_n dX11_hasRoom_46 rfl rfl ?_
        refine wp_cS1 0 0 [some _, none] dX11_hasRoom_47 tJ13_bitCount_95d88 sJ13_bitCount_95d88 lX11_216 ⟨by decide, by decide⟩ (Nat.le_of_ble_eq_true rfl) (Nat.le_of_ble_eq_true rfl) rfl ?_
        refine pJ13_bitCount_95d88 (Nat.lt_trans (bsA_lt hd (by omega) (by omega)).1 (by decide)) ?_
        intro _ _
        rw [pop_mk hd (by omega) (by omega)]
        refine wp_bipush (v := (nI 8)) dX11_hasRoom_50 (by decide +kernel) ?_
        refine wp_icmp_geN dX11_hasRoom_52 rfl rfl ⟨by omega, by omega⟩ (fun c5 => ?_) (fun c5 => ?_)
        · refine wp_iconst (v := (nI 0)) dX11_hasRoom_64 (by decide +kernel) ?_
          refine wp_zreturn dX11_hasRoom_65 rfl (by first | exact Or.inl rfl | exact Or.inr rfl) ?_
          first | exact hf9 (fun z => z.elim hm9 (fun w => absurd (w.1.symm.trans cm) (by decide))) | exact hf9 (fun z => z.elim hm9 (fun w => by omega)) | exact hf9 (fun z => z.elim hm9 (fun w => c2 (hh9.mpr w.2.2)))
        · refine wp_iload dX11_hasRoom_55 rfl ?_
          refine wp_if_eq dX11_hasRoom_57 (fun _ => ?_) (fun q => absurd q (by decide +kernel))
          refine wp_iconst (v := (nI 0)) dX11_hasRoom_64 (by decide +kernel) ?_
          refine wp_zreturn dX11_hasRoom_65 rfl (by first | exact Or.inl rfl | exact Or.inr rfl) ?_
          first | exact hf9 (fun z => z.elim hm9 (fun w => absurd (w.1.symm.trans cm) (by decide))) | exact hf9 (fun z => z.elim hm9 (fun w => by omega)) | exact hf9 (fun z => z.elim hm9 (fun w => c2 (hh9.mpr w.2.2)))
    · refine wp_iconst (v := (nI 1)) dX11_hasRoom_26 (by decide +kernel) ?_
      refine wp_goto dX11_hasRoom_27 ?_
      refine wp_istore (ls1 := [_, _, _, _, _, _, _, some _]) dX11_hasRoom_31 (by decide) rfl ?_
      refine wp_aload_n dX11_hasRoom_33 rfl rfl ?_
      refine wp_getR dX11_hasRoom_34 lX11_20 rfl e9.oo e9.f4 ?_
      refine wp_getR dX11_hasRoom_37 lX11_150 rfl e9.fl.oo e9.fl.r2 ?_
      refine wp_iload dX11_hasRoom_40 rfl ?_
      refine wp_zaldV dX11_hasRoom_42 e9.fl.a2 rfl ⟨by omega, by omega⟩ (e9.fl.c2 (by omega)) ?_
      refine wp_if_eq dX11_hasRoom_43 (fun cm => ?_) (fun cm => ?_)
      · refine wp_iconst (v := (nI 0)) dX11_hasRoom_64 (by decide +kernel) ?_
        refine wp_zreturn dX11_hasRoom_65 rfl (by first | exact Or.inl rfl | exact Or.inr rfl) ?_
        first | exact hf9 (fun z => z.elim hm9 (fun w => absurd (w.1.symm.trans cm) (by decide))) | exact hf9 (fun z => z.elim hm9 (fun w => by omega)) | exact hf9 (fun z => z.elim hm9 (fun w => c2 (hh9.mpr w.2.2)))
      · refine wp_lload_n dX11_hasRoom_46 rfl rfl ?_
        refine wp_cS1 0 0 [some _, none] dX11_hasRoom_47 tJ13_bitCount_95d88 sJ13_bitCount_95d88 lX11_216 ⟨by decide, by decide⟩ (Nat.le_of_ble_eq_true rfl) (Nat.le_of_ble_eq_true rfl) rfl ?_
        refine pJ13_bitCount_95d88 (Nat.lt_trans (bsA_lt hd (by omega) (by omega)).1 (by decide)) ?_
        intro _ _
        rw [pop_mk hd (by omega) (by omega)]
        refine wp_bipush (v := (nI 8)) dX11_hasRoom_50 (by decide +kernel) ?_
        refine wp_icmp_geN dX11_hasRoom_52 rfl rfl ⟨by omega, by omega⟩ (fun c9 => ?_) (fun c9 => ?_)
        · refine wp_iconst (v := (nI 0)) dX11_hasRoom_64 (by decide +kernel) ?_
          refine wp_zreturn dX11_hasRoom_65 rfl (by first | exact Or.inl rfl | exact Or.inr rfl) ?_
          first | exact hf9 (fun z => z.elim hm9 (fun w => absurd (w.1.symm.trans cm) (by decide))) | exact hf9 (fun z => z.elim hm9 (fun w => by omega)) | exact hf9 (fun z => z.elim hm9 (fun w => c2 (hh9.mpr w.2.2)))
        · refine wp_iload dX11_hasRoom_55 rfl ?_
          refine wp_if_eq dX11_hasRoom_57 (fun q => absurd q (by decide +kernel)) (fun _ => ?_)
          refine wp_iconst (v := (nI 1)) dX11_hasRoom_60 (by decide +kernel) ?_
          refine wp_goto dX11_hasRoom_61 ?_
          refine wp_zreturn dX11_hasRoom_65 rfl (by first | exact Or.inl rfl | exact Or.inr rfl) ?_
          first | exact ht (Or.inl ((bsA0 hd (by omega) (by omega)).mp ((lN0 (bsA_lt hd (by omega) (by omega)).1).mp c1))) | exact ht (Or.inr ⟨(hd.my f (by omega)).resolve_left cm, by omega, hh9.mp c2⟩)
  · refine wp_iconst (v := (nI 1)) dX11_hasRoom_6 (by decide +kernel) ?_
    refine wp_zreturn dX11_hasRoom_7 rfl (by first | exact Or.inl rfl | exact Or.inr rfl) ?_
    first | exact ht (Or.inl ((bsA0 hd (by omega) (by omega)).mp ((lN0 (bsA_lt hd (by omega) (by omega)).1).mp c1))) | exact ht (Or.inr ⟨(hd.my f (by omega)).resolve_left cm, by omega, hh9.mp c2⟩)
set_option maxRecDepth 20000 in
theorem pX11_withinParent {h : mH} {Q : Option Value → mH → Prop} {ow : Nat → Nat} {F fa o1 d1 u1 : Nat} {pa my : Nat → Int32} {r : Nat → Int64} {p f N : Nat} {l : List (Nat × Nat)} (e9 : eS ow h F pa my r fa o1 d1 u1) (hd : sOK r F pa my) (hp : p < rP r) (hf : f < F) (hl : srt l N) (hN : N < 63) (h0 : l ≠ []) (ht : wiP r pa p f l → Q (some (.int (nI 1))) h) (hf9 : ¬ wiP r pa p f l → Q (some (.int (nI 0))) h) : Wp mX11_withinParent 2 42 0 [some (.ref 0), some (.ref (nowA o1 d1)), some (.int (nI p)), some (.int (nI f)), some (.long (lN (bsA l))), none, some (.long (lN (bsE l))), none, none, none, none, none] [] h Q := by
  have hP6 := hd.w.1.2
  have hF4 := hd.f4
  refine wp_aload_n dX11_withinParent_0 rfl rfl ?_
  refine wp_getR dX11_withinParent_1 lX11_20 rfl e9.oo e9.f4 ?_
  refine wp_getR dX11_withinParent_4 lX11_147 rfl e9.fl.oo e9.fl.r1 ?_
  refine wp_iload_n dX11_withinParent_7 rfl rfl ?_
  refine wp_ialdV dX11_withinParent_8 e9.fl.a1 rfl ⟨by omega, by omega⟩ (e9.fl.c1 (by omega)) ?_
  rcases hd.par f (by omega) with ep9 | ⟨g, hg9, ep9, mg9⟩
  · rw [ep9]
    refine wp_istore (ls1 := [_, _, _, _, _, _, _, _, some _, _, _, _]) dX11_withinParent_9 (by decide) rfl ?_
    refine wp_iload dX11_withinParent_11 rfl ?_
    refine wp_iconst (v := (-1)) dX11_withinParent_13 (by decide +kernel) ?_
    refine wp_icmp_ne dX11_withinParent_14 (fun q => absurd (by decide +kernel) q) (fun _ => ?_)
    refine wp_iconst (v := (nI 1)) dX11_withinParent_17 (by decide +kernel) ?_
    refine wp_zreturn dX11_withinParent_18 rfl (by first | exact Or.inl rfl | exact Or.inr rfl) ?_
    first | exact ht (Or.inl ep9) | exact hf9 (fun z => z.elim (fun w => absurd (ep9.symm.trans w) (nI_ne_m1 (by omega))) (fun w => by rw [eg9] at w; have := (bsA0 hd (show g < 4 by omega) (show p < 6 by omega)).mp ((lN0 (bsA_lt hd (by omega) (by omega)).1).mp (by assumption)); omega)) | exact ht (Or.inr (by rw [eg9]; exact ⟨hm9, hlo.mp (by assumption), hhi.mp (by assumption)⟩)) | exact hf9 (fun z => z.elim (fun w => absurd (ep9.symm.trans w) (nI_ne_m1 (by omega))) (fun w => by rw [eg9] at w; first | exact absurd (hlo.mpr w.2.1) (by assumption) | exact absurd (hhi.mpr w.2.2) (by assumption)))
  · rw [ep9]
    have hg4 : g < 4 := by omega
    have hab9 := hd.ab g p 0 (by omega) (by omega) (by omega)
    have hT9 := (hd.w.2.1 p (by omega)).2
    have eg9 : nOfI (pa f) = g := by rw [ep9]; exact nOfI_nI (by omega)
    refine wp_istore (ls1 := [_, _, _, _, _, _, _, _, some _, _, _, _]) dX11_withinParent_9 (by decide) rfl ?_
    refine wp_iload dX11_withinParent_11 rfl ?_
    refine wp_iconst (v := (-1)) dX11_withinParent_13 (by decide +kernel) ?_
    refine wp_icmp_ne dX11_withinParent_14 (fun _ => ?_) (fun q => absurd q (nI_ne_m1 (by omega)))
    refine wp_iload_n dX11_withinParent_19 rfl rfl ?_
    refine wp_iload dX11_withinParent_20 rfl ?_
    refine wp_cS2 0 0 [some _, some _] dX11_withinParent_22 tX11_spotOf sX11_spotOf lX11_198 ⟨by decide, by decide⟩ (Nat.le_of_ble_eq_true rfl) (Nat.le_of_ble_eq_true rfl) rfl ?_
    refine pX11_spotOf ?_
    intro _ _
    refine wp_istore (ls1 := [_, _, _, _, _, _, _, _, _, some _, _, _]) dX11_withinParent_25 (by decide) rfl ?_
    refine wp_aload_n dX11_withinParent_27 rfl rfl ?_
    refine wp_getR dX11_withinParent_28 lX11_202 rfl e9.st.oo e9.st.r2 ?_
    refine wp_iload dX11_withinParent_31 rfl ?_
    refine wp_laldV dX11_withinParent_33 e9.st.a2 rfl ⟨by omega, by omega⟩ (e9.st.c2 (f := g) (p := p) (by omega) (by omega)) ?_
    refine wp_lconst (v := 0) dX11_withinParent_34 (by decide +kernel) ?_
    refine wp_lc_ne dX11_withinParent_35 dX11_withinParent_36 (fun c3 => ?_) (fun c3 => ?_)
    · have hm9 : 0 < rM r g p := Nat.pos_of_ne_zero (fun z => (by assumption : ¬ lN (bsA (mkL r g p)) = 0) ((lN0 (bsA_lt hd (by omega) (by omega)).1).mpr ((bsA0 hd (by omega) (by omega)).mpr z)))
      have hlo := (lo_z (srt_asc hl hN).1 (k := rA r g p 0) (by omega)).trans (srt_lo hl h0)
      have hhi := (hi_z (srt_asc hl hN).2 (k := rB r g p 0 + 1) (by omega)).trans (srt_hi hl h0)
      refine wp_aload_n dX11_withinParent_41 rfl rfl ?_
      refine wp_getR dX11_withinParent_42 lX11_202 rfl e9.st.oo e9.st.r2 ?_
      refine wp_iload dX11_withinParent_45 rfl ?_
      refine wp_laldV dX11_withinParent_47 e9.st.a2 rfl ⟨by omega, by omega⟩ (e9.st.c2 (f := g) (p := p) (by omega) (by omega)) ?_
      refine wp_cS1 1 21 [some _, none] dX11_withinParent_48 tX11_lowest sX11_lowest lX11_227 ⟨by decide, by decide⟩ (Nat.le_of_ble_eq_true rfl) (Nat.le_of_ble_eq_true rfl) rfl ?_
      refine pX11_lowest (bsA_lt hd (show g < 4 by omega) (show p < 6 by omega)).1 ?_
      intro _ _
      rw [lwA hd (show g < 4 by omega) (show p < 6 by omega) (by omega)]
      refine wp_istore (ls1 := [_, _, _, _, _, _, _, _, _, _, some _, _]) dX11_withinParent_51 (by decide) rfl ?_
      refine wp_aload_n dX11_withinParent_53 rfl rfl ?_
      refine wp_getR dX11_withinParent_54 lX11_205 rfl e9.st.oo e9.st.r3 ?_
      refine wp_iload dX11_withinParent_57 rfl ?_
      refine wp_laldV dX11_withinParent_59 e9.st.a3 rfl ⟨by omega, by omega⟩ (e9.st.c3 (f := g) (p := p) (by omega) (by omega)) ?_
      refine wp_cS1 1 21 [some _, none] dX11_withinParent_60 tX11_lowest sX11_lowest lX11_227 ⟨by decide, by decide⟩ (Nat.le_of_ble_eq_true rfl) (Nat.le_of_ble_eq_true rfl) rfl ?_
      refine pX11_lowest (bsA_lt hd (show g < 4 by omega) (show p < 6 by omega)).2 ?_
      intro _ _
      rw [lwE hd (show g < 4 by omega) (show p < 6 by omega) (by omega)]
      refine wp_istore (ls1 := [_, _, _, _, _, _, _, _, _, _, _, some _]) dX11_withinParent_63 (by decide) rfl ?_
      refine wp_lload dX11_withinParent_65 rfl ?_
      refine wp_iload dX11_withinParent_67 rfl ?_
      refine wp_cS1 0 0 [some _] dX11_withinParent_69 tX11_below sX11_below lX11_221 ⟨by decide, by decide⟩ (Nat.le_of_ble_eq_true rfl) (Nat.le_of_ble_eq_true rfl) rfl ?_
      refine pX11_below (by omega) ?_
      intro _ _
      refine wp_land dX11_withinParent_72 ?_
      refine wp_lconst (v := 0) dX11_withinParent_73 (by decide +kernel) ?_
      refine wp_lc_ne dX11_withinParent_74 dX11_withinParent_75 (fun c4 => ?_) (fun c4 => ?_)
      · refine wp_iconst (v := (nI 0)) dX11_withinParent_101 (by decide +kernel) ?_
        refine wp_zreturn dX11_withinParent_102 rfl (by first | exact Or.inl rfl | exact Or.inr rfl) ?_
        first | exact ht (Or.inl ep9) | exact hf9 (fun z => z.elim (fun w => absurd (ep9.symm.trans w) (nI_ne_m1 (by omega))) (fun w => by rw [eg9] at w; have := (bsA0 hd (show g < 4 by omega) (show p < 6 by omega)).mp ((lN0 (bsA_lt hd (by omega) (by omega)).1).mp (by assumption)); omega)) | exact ht (Or.inr (by rw [eg9]; exact ⟨hm9, hlo.mp (by assumption), hhi.mp (by assumption)⟩)) | exact hf9 (fun z => z.elim (fun w => absurd (ep9.symm.trans w) (nI_ne_m1 (by omega))) (fun w => by rw [eg9] at w; first | exact absurd (hlo.mpr w.2.1) (by assumption) | exact absurd (hhi.mpr w.2.2) (by assumption)))
      · refine wp_lload dX11_withinParent_78 rfl ?_
        refine wp_iload dX11_withinParent_80 rfl ?_
        refine wp_iconst (v := (nI 1)) dX11_withinParent_82 (by decide +kernel) ?_
        refine wp_iadd dX11_withinParent_83 ?_
        refine wp_cS1 0 0 [some _] dX11_withinParent_84 tX11_below sX11_below lX11_221 ⟨by decide, by decide⟩ (Nat.le_of_ble_eq_true rfl) (Nat.le_of_ble_eq_true rfl) rfl ?_
        rw [nI_add]
        refine pX11_below (by omega) ?_
        intro _ _
        refine wp_ldc2 dX11_withinParent_87 lX11_225 ?_
        refine wp_lxor dX11_withinParent_90 ?_
        refine wp_land dX11_withinParent_91 ?_
        refine wp_lconst (v := 0) dX11_withinParent_92 (by decide +kernel) ?_
        refine wp_lc_ne dX11_withinParent_93 dX11_withinParent_94 (fun c5 => ?_) (fun c5 => ?_)
        · refine wp_iconst (v := (nI 0)) dX11_withinParent_101 (by decide +kernel) ?_
          refine wp_zreturn dX11_withinParent_102 rfl (by first | exact Or.inl rfl | exact Or.inr rfl) ?_
          first | exact ht (Or.inl ep9) | exact hf9 (fun z => z.elim (fun w => absurd (ep9.symm.trans w) (nI_ne_m1 (by omega))) (fun w => by rw [eg9] at w; have := (bsA0 hd (show g < 4 by omega) (show p < 6 by omega)).mp ((lN0 (bsA_lt hd (by omega) (by omega)).1).mp (by assumption)); omega)) | exact ht (Or.inr (by rw [eg9]; exact ⟨hm9, hlo.mp (by assumption), hhi.mp (by assumption)⟩)) | exact hf9 (fun z => z.elim (fun w => absurd (ep9.symm.trans w) (nI_ne_m1 (by omega))) (fun w => by rw [eg9] at w; first | exact absurd (hlo.mpr w.2.1) (by assumption) | exact absurd (hhi.mpr w.2.2) (by assumption)))
        · refine wp_iconst (v := (nI 1)) dX11_withinParent_97 (by decide +kernel) ?_
          refine wp_goto dX11_withinParent_98 ?_
          refine wp_zreturn dX11_withinParent_102 rfl (by first | exact Or.inl rfl | exact Or.inr rfl) ?_
          first | exact ht (Or.inl ep9) | exact hf9 (fun z => z.elim (fun w => absurd (ep9.symm.trans w) (nI_ne_m1 (by omega))) (fun w => by rw [eg9] at w; have := (bsA0 hd (show g < 4 by omega) (show p < 6 by omega)).mp ((lN0 (bsA_lt hd (by omega) (by omega)).1).mp (by assumption)); omega)) | exact ht (Or.inr (by rw [eg9]; exact ⟨hm9, hlo.mp (by assumption), hhi.mp (by assumption)⟩)) | exact hf9 (fun z => z.elim (fun w => absurd (ep9.symm.trans w) (nI_ne_m1 (by omega))) (fun w => by rw [eg9] at w; first | exact absurd (hlo.mpr w.2.1) (by assumption) | exact absurd (hhi.mpr w.2.2) (by assumption)))
    · refine wp_iconst (v := (nI 0)) dX11_withinParent_39 (by decide +kernel) ?_
      refine wp_zreturn dX11_withinParent_40 rfl (by first | exact Or.inl rfl | exact Or.inr rfl) ?_
      first | exact ht (Or.inl ep9) | exact hf9 (fun z => z.elim (fun w => absurd (ep9.symm.trans w) (nI_ne_m1 (by omega))) (fun w => by rw [eg9] at w; have := (bsA0 hd (show g < 4 by omega) (show p < 6 by omega)).mp ((lN0 (bsA_lt hd (by omega) (by omega)).1).mp (by assumption)); omega)) | exact ht (Or.inr (by rw [eg9]; exact ⟨hm9, hlo.mp (by assumption), hhi.mp (by assumption)⟩)) | exact hf9 (fun z => z.elim (fun w => absurd (ep9.symm.trans w) (nI_ne_m1 (by omega))) (fun w => by rw [eg9] at w; first | exact absurd (hlo.mpr w.2.1) (by assumption) | exact absurd (hhi.mpr w.2.2) (by assumption)))
