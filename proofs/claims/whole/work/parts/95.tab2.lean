/-! ===== the pile is sorted ===== -/
/-- what a merge has done up to i -/
def mgI9 (V W : Nat → Nat) (lo mi hi a b i : Nat) : Prop := (lo ≤ a ∧ a ≤ mi) ∧ (mi ≤ b ∧ b ≤ hi) ∧ i = a + b - mi ∧ (∀ x y, lo ≤ x → x < y → y < i → W x ≤ W y) ∧ (∀ x y, lo ≤ x → x < i → (a ≤ y ∧ y < mi ∨ b ≤ y ∧ y < hi) → W x ≤ V y) ∧ (∀ x, lo ≤ x → x < i → ∃ y, lo ≤ y ∧ y < hi ∧ W x = V y) ∧ ∀ y, (lo ≤ y ∧ y < a ∨ mi ≤ y ∧ y < b) → ∃ x, lo ≤ x ∧ x < i ∧ W x = V y
def srtd (V : Nat → Nat) (lo hi : Nat) : Prop := ∀ x y, lo ≤ x → x < y → y < hi → V x ≤ V y
theorem mg_a {V W : Nat → Nat} {lo mi hi a b i : Nat} (h1 : srtd V lo mi) (h2 : srtd V mi hi) (g : mgI9 V W lo mi hi a b i) (ha : a < mi) (hc : hi ≤ b ∨ V a ≤ V b) : mgI9 V (upN W i (V a)) lo mi hi (a + 1) b (i + 1) := by
  obtain ⟨g1, g2, g3, g4, g5, g6, g7⟩ := g
  refine ⟨by omega, by omega, by omega, fun x y hx hxy hy => ?_, fun x y hx hxi hy => ?_, fun x hx hxi => ?_, fun y hy => ?_⟩
  · by_cases e : y = i
    · rw [e, upN_at, upN_ne (by omega)]
      exact g5 x a hx (by omega) (Or.inl ⟨Nat.le_refl _, ha⟩)
    · rw [upN_ne e, upN_ne (by omega)]
      exact g4 x y hx hxy (by omega)
  · by_cases e : x = i
    · rw [e, upN_at]
      rcases hy with hy | hy
      · exact h1 a y (by omega) (by omega) hy.2
      · have h3 : V a ≤ V b := hc.resolve_left (by omega)
        by_cases eb : y = b
        · rw [eb]; exact h3
        · exact Nat.le_trans h3 (h2 b y (by omega) (by omega) hy.2)
    · rw [upN_ne e]
      exact g5 x y hx (by omega) (by omega)
  · by_cases e : x = i
    · rw [e, upN_at]; exact ⟨a, by omega, by omega, rfl⟩
    · rw [upN_ne e]; exact g6 x hx (by omega)
  · by_cases e : y = a
    · exact ⟨i, by omega, by omega, by rw [upN_at, e]⟩
    · obtain ⟨x, k1, k2, k3⟩ := g7 y (by omega)
      exact ⟨x, k1, by omega, by rw [upN_ne (by omega)]; exact k3⟩
theorem mg_b {V W : Nat → Nat} {lo mi hi a b i : Nat} (h1 : srtd V lo mi) (h2 : srtd V mi hi) (g : mgI9 V W lo mi hi a b i) (hb : b < hi) (hc : mi ≤ a ∨ V b ≤ V a) : mgI9 V (upN W i (V b)) lo mi hi a (b + 1) (i + 1) := by
  obtain ⟨g1, g2, g3, g4, g5, g6, g7⟩ := g
  refine ⟨by omega, by omega, by omega, fun x y hx hxy hy => ?_, fun x y hx hxi hy => ?_, fun x hx hxi => ?_, fun y hy => ?_⟩
  · by_cases e : y = i
    · rw [e, upN_at, upN_ne (by omega)]
      exact g5 x b hx (by omega) (Or.inr ⟨Nat.le_refl _, hb⟩)
    · rw [upN_ne e, upN_ne (by omega)]
      exact g4 x y hx hxy (by omega)
  · by_cases e : x = i
    · rw [e, upN_at]
      rcases hy with hy | hy
      · have h3 : V b ≤ V a := hc.resolve_left (by omega)
        by_cases ea : y = a
        · rw [ea]; exact h3
        · exact Nat.le_trans h3 (h1 a y (by omega) (by omega) hy.2)
      · exact h2 b y (by omega) (by omega) hy.2
    · rw [upN_ne e]
      exact g5 x y hx (by omega) (by omega)
  · by_cases e : x = i
    · rw [e, upN_at]; exact ⟨b, by omega, by omega, rfl⟩
    · rw [upN_ne e]; exact g6 x hx (by omega)
  · by_cases e : y = b
    · exact ⟨i, by omega, by omega, by rw [upN_at, e]⟩
    · obtain ⟨x, k1, k2, k3⟩ := g7 y (by omega)
      exact ⟨x, k1, by omega, by rw [upN_ne (by omega)]; exact k3⟩
theorem l_le {x y : Int64} (h : ¬ y < x) : x ≤ y := by
  rw [Int64.lt_iff_toInt_lt] at h
  rw [Int64.le_iff_toInt_le]
  omega
theorem up_mg {T : Nat → Int64} {W : Nat → Nat} {lo i z v : Nat} (h1 : lo ≤ z) (h2 : z < i + 1) (hW : ∀ z, lo ≤ z → z < i → T z = lN (W z)) : up1 T i (lN v) z = lN (upN W i v z) := by
  unfold up1 upN
  by_cases e : z = i
  · rw [if_pos e, if_pos e]
  · rw [if_neg e, if_neg e]
    exact hW z h1 (by omega)
set_option maxRecDepth 20000 in
theorem pX9_merge {h : mH} {Q : Option Value → mH → Prop} {ow : Nat → Nat} {a ρ n m a2 a3 a4 a5 a6 a7 : Nat} {tf tc : Int32} {t2 : Nat → Int64} {t3 t4 t5 : Nat → Int32} {t6 t7 : Nat → Int64} {tp : Int32} {lo mi hi : Nat} {V : Nat → Nat} (zt : zT ow h a ρ n m a2 a3 a4 a5 a6 a7 tf tc t2 t3 t4 t5 t6 t7 tp) (hlm : lo ≤ mi ∧ mi ≤ hi ∧ hi ≤ m ∧ m ≤ 20480) (hV : ∀ i, i < hi → t6 i = lN (V i) ∧ V i < 2 ^ 46) (h1s : srtd V lo mi) (h2s : srtd V mi hi) (hq : ∀ h' T W, cFr [ρ] 0 ow h ow h' → zT ow h' a ρ n m a2 a3 a4 a5 a6 a7 tf tc t2 t3 t4 t5 t6 T tp → (∀ z, lo ≤ z → z < hi → T z = lN (W z)) → (∀ z, z < lo ∨ hi ≤ z → T z = t7 z) → srtd W lo hi → (∀ x, lo ≤ x → x < hi → ∃ y, lo ≤ y ∧ y < hi ∧ W x = V y) → (∀ y, lo ≤ y → y < hi → ∃ x, lo ≤ x ∧ x < hi ∧ W x = V y) → Q none h') : Wp mX9_merge 0 0 0 [some (.ref a), some (.int (nI lo)), some (.int (nI mi)), some (.int (nI hi)), none, none, none] [] h Q := by
  have hloop : ∀  (t9 : Nat) (x : Nat) (y : Nat) (i : Nat) (W : Nat → Nat) (T : Nat → Int64) (h1 : mH), (i ≤ hi) → (cFr [ρ] 0 ow h ow h1) → (zT ow h1 a ρ n m a2 a3 a4 a5 a6 a7 tf tc t2 t3 t4 t5 t6 T tp) → (mgI9 V W lo mi hi x y i) → (∀ z, lo ≤ z → z < i → T z = lN (W z)) → (∀ z, z < lo ∨ i ≤ z → T z = t7 z) → (hi < i + t9) → Wp mX9_merge 0 0 9 [some (.ref a), some (.int (nI lo)), some (.int (nI mi)), some (.int (nI hi)), some (.int (nI x)), some (.int (nI y)), some (.int (nI i))] [] h1 Q := by
    intro t9
    induction t9 with
    | zero => intros; omega
    | succ t9 ih =>
      intro x y i W T h1 hi9 hf1 zt1 hg hW hO hmz
      have hb1 := hg.1
      have hb2 := hg.2.1
      have hb3 := hg.2.2.1
      refine wp_iload dX9_merge_9 rfl ?_
      refine wp_iload_n dX9_merge_11 rfl rfl ?_
      refine wp_icmp_geN dX9_merge_12 rfl rfl ⟨by omega, by omega⟩ (fun c2 => ?_) (fun c2 => ?_)
      · refine wp_vreturn dX9_merge_88 rfl ?_
        have hg1 := hg.1
        have hg2 := hg.2.1
        have hg3 := hg.2.2.1
        exact hq _ _ W (hf1.up (fun x hx => by simp at hx ⊢; omega) (Nat.le_refl _)) zt1 (fun z h1 h2 => hW z h1 (by omega)) (fun z hz => hO z (by omega)) (fun u v h1 h2 h3 => hg.2.2.2.1 u v h1 h2 (by omega)) (fun u h1 h2 => hg.2.2.2.2.2.1 u h1 (by omega)) (fun v h1 h2 => (hg.2.2.2.2.2.2 v (by omega)).elim (fun u hu => ⟨u, hu.1, by omega, hu.2.2⟩))
      · have hg1 := hg.1
        have hg2 := hg.2.1
        have hg3 := hg.2.2.1
        refine wp_iload dX9_merge_15 rfl ?_
        refine wp_iload_n dX9_merge_17 rfl rfl ?_
        refine wp_icmp_geN dX9_merge_18 rfl rfl ⟨by omega, by omega⟩ (fun c4 => ?_) (fun c4 => ?_)
        · refine wp_aload_n dX9_merge_45 rfl rfl ?_
          refine wp_getR dX9_merge_46 lX9_28 rfl zt1.o zt1.r7 ?_
          refine wp_iload dX9_merge_49 rfl ?_
          refine wp_aload_n dX9_merge_51 rfl rfl ?_
          refine wp_getR dX9_merge_52 lX9_25 rfl zt1.o zt1.r6 ?_
          refine wp_iload dX9_merge_55 rfl ?_
          refine wp_laldV dX9_merge_57 zt1.a6 rfl ⟨by omega, by omega⟩ ((congrFun zt1.c6 _).trans (hV _ (by omega)).1) ?_
          refine wp_lastN dX9_merge_58 zt1.a7 rfl ⟨by omega, by omega⟩ ?_
          refine zt1.w7 (fun hh1 f1 zt1_1 => ?_)
          refine wp_iinc1 (ls1 := [_, _, _, _, some _, _, _]) dX9_merge_59 rfl (by decide) rfl ?_
          refine wp_goto dX9_merge_62 ?_
          refine wp_iinc1 (ls1 := [_, _, _, _, _, _, some _]) dX9_merge_82 rfl (by decide) rfl ?_
          refine wp_goto dX9_merge_85 ?_
          exact ih (x + 1) y (i + 1) (upN W i (V x)) _ _ (by omega) ((hf1.up (fun x hx => by simp at hx ⊢; omega) (Nat.le_refl _)).tr (f1.up (fun x hx => by simp at hx ⊢; omega) (Nat.le_refl _))) zt1_1 (mg_a h1s h2s hg (by omega) (by first | exact Or.inl (by assumption) | exact Or.inr ((pk_lLE (by have := (hV x (by omega)).2; omega) (by have := (hV y (by omega)).2; omega)).mp (by first | assumption | exact l_le (by assumption))))) (fun z h1 h2 => up_mg h1 (by omega) hW) (fun z hz => by unfold up1; rw [if_neg (by omega)]; exact hO z (by omega)) (by omega)
        · refine wp_iload dX9_merge_21 rfl ?_
          refine wp_iload_n dX9_merge_23 rfl rfl ?_
          refine wp_icmp_geN dX9_merge_24 rfl rfl ⟨by omega, by omega⟩ (fun c6 => ?_) (fun c6 => ?_)
          · refine wp_aload_n dX9_merge_65 rfl rfl ?_
            refine wp_getR dX9_merge_66 lX9_28 rfl zt1.o zt1.r7 ?_
            refine wp_iload dX9_merge_69 rfl ?_
            refine wp_aload_n dX9_merge_71 rfl rfl ?_
            refine wp_getR dX9_merge_72 lX9_25 rfl zt1.o zt1.r6 ?_
            refine wp_iload dX9_merge_75 rfl ?_
            refine wp_laldV dX9_merge_77 zt1.a6 rfl ⟨by omega, by omega⟩ ((congrFun zt1.c6 _).trans (hV _ (by omega)).1) ?_
            refine wp_lastN dX9_merge_78 zt1.a7 rfl ⟨by omega, by omega⟩ ?_
            refine zt1.w7 (fun hh2 f2 zt1_2 => ?_)
            refine wp_iinc1 (ls1 := [_, _, _, _, _, some _, _]) dX9_merge_79 rfl (by decide) rfl ?_
            refine wp_iinc1 (ls1 := [_, _, _, _, _, _, some _]) dX9_merge_82 rfl (by decide) rfl ?_
            refine wp_goto dX9_merge_85 ?_
            exact ih x (y + 1) (i + 1) (upN W i (V y)) _ _ (by omega) ((hf1.up (fun x hx => by simp at hx ⊢; omega) (Nat.le_refl _)).tr (f2.up (fun x hx => by simp at hx ⊢; omega) (Nat.le_refl _))) zt1_2 (mg_b h1s h2s hg (by omega) (by first | exact Or.inl (by assumption) | exact Or.inr (Nat.le_of_lt ((pk_lLT (by have := (hV y (by omega)).2; omega) (by have := (hV x (by omega)).2; omega)).mp (by assumption))))) (fun z h1 h2 => up_mg h1 (by omega) hW) (fun z hz => by unfold up1; rw [if_neg (by omega)]; exact hO z (by omega)) (by omega)
          · refine wp_aload_n dX9_merge_27 rfl rfl ?_
            refine wp_getR dX9_merge_28 lX9_25 rfl zt1.o zt1.r6 ?_
            refine wp_iload dX9_merge_31 rfl ?_
            refine wp_laldV dX9_merge_33 zt1.a6 rfl ⟨by omega, by omega⟩ ((congrFun zt1.c6 _).trans (hV _ (by omega)).1) ?_
            refine wp_aload_n dX9_merge_34 rfl rfl ?_
            refine wp_getR dX9_merge_35 lX9_25 rfl zt1.o zt1.r6 ?_
            refine wp_iload dX9_merge_38 rfl ?_
            refine wp_laldV dX9_merge_40 zt1.a6 rfl ⟨by omega, by omega⟩ ((congrFun zt1.c6 _).trans (hV _ (by omega)).1) ?_
            refine wp_lc_gt dX9_merge_41 dX9_merge_42 (fun c7 => ?_) (fun c7 => ?_)
            · refine wp_aload_n dX9_merge_65 rfl rfl ?_
              refine wp_getR dX9_merge_66 lX9_28 rfl zt1.o zt1.r7 ?_
              refine wp_iload dX9_merge_69 rfl ?_
              refine wp_aload_n dX9_merge_71 rfl rfl ?_
              refine wp_getR dX9_merge_72 lX9_25 rfl zt1.o zt1.r6 ?_
              refine wp_iload dX9_merge_75 rfl ?_
              refine wp_laldV dX9_merge_77 zt1.a6 rfl ⟨by omega, by omega⟩ ((congrFun zt1.c6 _).trans (hV _ (by omega)).1) ?_
              refine wp_lastN dX9_merge_78 zt1.a7 rfl ⟨by omega, by omega⟩ ?_
              refine zt1.w7 (fun hh3 f3 zt1_3 => ?_)
              refine wp_iinc1 (ls1 := [_, _, _, _, _, some _, _]) dX9_merge_79 rfl (by decide) rfl ?_
              refine wp_iinc1 (ls1 := [_, _, _, _, _, _, some _]) dX9_merge_82 rfl (by decide) rfl ?_
              refine wp_goto dX9_merge_85 ?_
              exact ih x (y + 1) (i + 1) (upN W i (V y)) _ _ (by omega) ((hf1.up (fun x hx => by simp at hx ⊢; omega) (Nat.le_refl _)).tr (f3.up (fun x hx => by simp at hx ⊢; omega) (Nat.le_refl _))) zt1_3 (mg_b h1s h2s hg (by omega) (by first | exact Or.inl (by assumption) | exact Or.inr (Nat.le_of_lt ((pk_lLT (by have := (hV y (by omega)).2; omega) (by have := (hV x (by omega)).2; omega)).mp (by assumption))))) (fun z h1 h2 => up_mg h1 (by omega) hW) (fun z hz => by unfold up1; rw [if_neg (by omega)]; exact hO z (by omega)) (by omega)
            · refine wp_aload_n dX9_merge_45 rfl rfl ?_
              refine wp_getR dX9_merge_46 lX9_28 rfl zt1.o zt1.r7 ?_
              refine wp_iload dX9_merge_49 rfl ?_
              refine wp_aload_n dX9_merge_51 rfl rfl ?_
              refine wp_getR dX9_merge_52 lX9_25 rfl zt1.o zt1.r6 ?_
              refine wp_iload dX9_merge_55 rfl ?_
              refine wp_laldV dX9_merge_57 zt1.a6 rfl ⟨by omega, by omega⟩ ((congrFun zt1.c6 _).trans (hV _ (by omega)).1) ?_
              refine wp_lastN dX9_merge_58 zt1.a7 rfl ⟨by omega, by omega⟩ ?_
              refine zt1.w7 (fun hh4 f4 zt1_4 => ?_)
              refine wp_iinc1 (ls1 := [_, _, _, _, some _, _, _]) dX9_merge_59 rfl (by decide) rfl ?_
              refine wp_goto dX9_merge_62 ?_
              refine wp_iinc1 (ls1 := [_, _, _, _, _, _, some _]) dX9_merge_82 rfl (by decide) rfl ?_
              refine wp_goto dX9_merge_85 ?_
              exact ih (x + 1) y (i + 1) (upN W i (V x)) _ _ (by omega) ((hf1.up (fun x hx => by simp at hx ⊢; omega) (Nat.le_refl _)).tr (f4.up (fun x hx => by simp at hx ⊢; omega) (Nat.le_refl _))) zt1_4 (mg_a h1s h2s hg (by omega) (by first | exact Or.inl (by assumption) | exact Or.inr ((pk_lLE (by have := (hV x (by omega)).2; omega) (by have := (hV y (by omega)).2; omega)).mp (by first | assumption | exact l_le (by assumption))))) (fun z h1 h2 => up_mg h1 (by omega) hW) (fun z hz => by unfold up1; rw [if_neg (by omega)]; exact hO z (by omega)) (by omega)
  refine wp_iload_n dX9_merge_0 rfl rfl ?_
  refine wp_istore (ls1 := [_, _, _, _, some _, _, _]) dX9_merge_1 (by decide) rfl ?_
  refine wp_iload_n dX9_merge_3 rfl rfl ?_
  refine wp_istore (ls1 := [_, _, _, _, _, some _, _]) dX9_merge_4 (by decide) rfl ?_
  refine wp_iload_n dX9_merge_6 rfl rfl ?_
  refine wp_istore (ls1 := [_, _, _, _, _, _, some _]) dX9_merge_7 (by decide) rfl ?_
  exact hloop (hi + 1) lo mi lo V t7 h (by omega) cFr.rf zt ⟨by omega, by omega, by omega, fun x y h1 h2 h3 => by omega, fun x y h1 h2 h3 => by omega, fun x h1 h2 => by omega, fun y h1 => by omega⟩ (fun z h1 h2 => by omega) (fun z _ => rfl) (by omega)
