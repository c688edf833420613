/-! ===== all tables; could ===== -/
def ptl (n m : Nat → Nat) : Nat := (5 * (20480 - m 0) + 9 * (20480 - n 0)) + (5 * (20480 - m 1) + 9 * (20480 - n 1)) + (5 * (20480 - m 2) + 9 * (20480 - n 2)) + (5 * (20480 - m 3) + 9 * (20480 - n 3))
/-- all tables, and what is written of the room with what they may yet ask -/
def tbW (ow : Nat → Nat) (h : mH) (r : Nat → Int64) (pa my : Nat → Int32) (F e w : Nat) : Prop := ∃ n m : Nat → Nat, (∀ f, f < 4 → tabI ow h r pa my F f (n f) (m f)) ∧ hU h + 8 * hN h + ptl n m + e ≤ w
theorem tbW.fr {S : List Nat} {ow ow' : Nat → Nat} {h h' : mH} {r : Nat → Int64} {pa my : Nat → Int32} {F e w u : Nat} (g : tbW ow h r pa my F e w) (f9 : cFr S u ow h ow' h') (h1 : ∀ f, f < 4 → 11 + f ∉ S) : tbW ow' h' r pa my F e (w + u) := by
  obtain ⟨n, m, h2, h3⟩ := g
  exact ⟨n, m, fun f hf => (h2 f hf).fr f9 (h1 f hf), by have := f9.1.2.2; omega⟩
theorem ptl_up {n m : Nat → Nat} {f n' m' : Nat} (hf : f < 4) (hm : m f ≤ m' ∧ m' ≤ 20480 ∧ n f ≤ n' ∧ n' ≤ 20480) : ptl (upN n f n') (upN m f m') + (5 * (m' - m f) + 9 * (n' - n f)) = ptl n m := by
  unfold ptl
  rcases (by omega : f = 0 ∨ f = 1 ∨ f = 2 ∨ f = 3) with rfl | rfl | rfl | rfl <;> simp [upN] <;> omega
theorem ptl_f {n m : Nat → Nat} {f : Nat} (hf : f < 4) : 5 * (20480 - m f) + 9 * (20480 - n f) ≤ ptl n m := by
  unfold ptl
  rcases (by omega : f = 0 ∨ f = 1 ∨ f = 2 ∨ f = 3) with rfl | rfl | rfl | rfl <;> omega
theorem sb_f {f : Nat} (hf : f < 4) : ∀ x ∈ [1, 11 + f], x ∈ [1, 11, 12, 13, 14] := fun x hx => by
  simp at hx ⊢
  omega
set_option maxRecDepth 20000 in
theorem pX11_tableW {h : mH} {Q : Option Value → mH → Prop} {ow : Nat → Nat} {F fa o1 d1 u1 : Nat} {pa my : Nat → Int32} {r : Nat → Int64} {pl : Nat → Int64} {gb ge : Int32} {gs gn : Int64} {gf gt : Int32} {f e w : Nat} (e9 : eS ow h F pa my r fa o1 d1 u1) (hd : sOK r F pa my) (zg : zG ow h pl gb ge gs gn gf gt) (tw : tbW ow h r pa my F e w) (hw : w ≤ 8000000) (hf : f < F) (hq : ∀ h' ow' u n' m' c K O, cFr [1, 11, 12, 13, 14] u ow h ow' h' → tbW ow' h' r pa my F e w → tbR ow' h' (125 + 7 * f) (11 + f) (nI 1) r pa my f n' m' c K O → (∃ pl gb ge gs gn gf gt, zG ow' h' pl gb ge gs gn gf gt) → Q (some (.ref (125 + 7 * f))) h') : Wp mX11_tableOf 6 162 0 [some (.ref 0), some (.int (nI f)), none, none] [] h Q := by
  have hF4 := hd.f4
  obtain ⟨n, m, h2, h3⟩ := tw
  have hp := ptl_f (n := n) (m := m) (f := f) (by omega)
  refine pX11_tableOf e9 hd zg (h2 f (by omega)) hf (by omega) (fun h' ow' n' m' c K O f1 hm tb g => ?_)
  have hu := ptl_up (n := n) (m := m) (f := f) (n' := n') (m' := m') (by omega) hm
  have hw9 := f1.1.2.2
  refine hq h' ow' _ n' m' c K O (f1.up (sb_f (by omega)) (Nat.le_refl _)) ⟨upN n f n', upN m f m', fun g hg => ?_, by omega⟩ tb g
  by_cases c9 : g = f
  · subst c9
    rw [upN_at, upN_at]
    exact tb.I hf
  · rw [upN_ne c9, upN_ne c9]
    exact (h2 g hg).fr f1 (by simp; omega)
theorem could_no {r : Nat → Int64} {F : Nat} {pa my : Nat → Int32} {x w : Int32} (h : ix x F = none ∨ ix w 2 = none) : ∀ v, spCould r F pa my x w v → v = -1 := by
  intro v hv
  unfold spCould at hv
  rcases h with h | h
  · rw [h] at hv; exact hv
  · rw [h] at hv
    cases z : ix x F with
    | none => rw [z] at hv; exact hv
    | some f => rw [z] at hv; exact hv
theorem could_0 {r : Nat → Int64} {F : Nat} {pa my : Nat → Int32} {f c : Nat} {K O : Nat → Nat} (hd : sOK r F pa my) (hf : f < F) (g : ruS r pa f c K O) : ∀ v, spCould r F pa my (nI f) (nI 0) v → v = nI c := by
  have hF4 := hd.f4
  intro v hv
  unfold spCould at hv
  rw [ix_nI hf (by omega), ix_nI (n := 2) (by decide) (by decide)] at hv
  obtain ⟨n, L, e, ev⟩ := hv
  have hs := ru_same hd g e
  rw [ev, if_pos rfl]
  exact congrArg nI (en_eq e.2.2.1 (ru_en g) hs.1 hs.2)
theorem could_1 {r : Nat → Int64} {F : Nat} {pa my : Nat → Int32} {f c : Nat} {K O : Nat → Nat} (hd : sOK r F pa my) (hf : f < F) (g : ruS r pa f c K O) : ∀ v, spCould r F pa my (nI f) (nI 1) v → v = nI (cntB (fun i => decide (tvm r pa my f (exE r f) 2 (K i) 6 = 0)) c) := by
  have hF4 := hd.f4
  intro v hv
  unfold spCould at hv
  rw [ix_nI hf (by omega), ix_nI (n := 2) (by decide) (by decide)] at hv
  obtain ⟨n, L, e, ev⟩ := hv
  have hs := ru_same hd g e
  rw [ev, if_neg (by decide)]
  exact congrArg nI (cnt_en (P := fun k => decide (tvm r pa my f (exE r f) 2 k 6 = 0)) e.2.2.1 (ru_en g) hs.1 hs.2)
theorem ix2_no {y : Int32} (h0 : ¬ y = nI 0) (h1 : ¬ y = nI 1) : ix y 2 = none := ix_none (by decide) (fun j hj ej => by
  rcases (by omega : j = 0 ∨ j = 1) with rfl | rfl
  · exact h0 ej
  · exact h1 ej)
set_option maxRecDepth 20000 in
theorem pX11_could {h : mH} {Q : Option Value → mH → Prop} {ow : Nat → Nat} {F fa o1 d1 u1 : Nat} {pa my : Nat → Int32} {r : Nat → Int64} {pl : Nat → Int64} {gb ge : Int32} {gs gn : Int64} {gf gt : Int32} {e w : Nat} {x y : Int32} (e9 : eS ow h F pa my r fa o1 d1 u1) (hd : sOK r F pa my) (zg : zG ow h pl gb ge gs gn gf gt) (tw : tbW ow h r pa my F e w) (hw : w ≤ 8000000) (hq : ∀ h' ow' u v, cFr [1, 11, 12, 13, 14] u ow h ow' h' → tbW ow' h' r pa my F e w → (∃ pl gb ge gs gn gf gt, zG ow' h' pl gb ge gs gn gf gt) → (∀ v', spCould r F pa my x y v' → v' = v) → Q (some (.int v)) h') : Wp mX11_could 7 185 0 [some (.ref 0), some (.int x), some (.int y), none] [] h Q := by
  have hP6 := hd.w.1.2
  have hF4 := hd.f4
  refine wp_aload_n dX11_could_0 rfl rfl ?_
  refine wp_getR dX11_could_1 lX11_20 rfl e9.oo e9.f4 ?_
  refine wp_iload_n dX11_could_4 rfl rfl ?_
  refine wp_cV1 0 0 [some _, some _] dX11_could_5 tX1_has rfl (by decide) nX1_has vX1_has lX11_139 ⟨by decide, by decide⟩ (Nat.le_of_ble_eq_true rfl) e9.fl.oo (Nat.le_of_ble_eq_true rfl) rfl ?_
  refine pX1_has e9.fl hF4 (fun f1 hf1 ef1 => ?_) (fun xn1 => ?_)
  · subst ef1
    intro _ _
    refine wp_if_ne dX11_could_8 (fun _ => ?_) (fun q => absurd q (by decide +kernel))
    refine wp_aload_n dX11_could_13 rfl rfl ?_
    refine wp_iload_n dX11_could_14 rfl rfl ?_
    refine wp_cV1 6 162 [some _, some _, none, none] dX11_could_15 tX11_tableOf rfl (by decide) nX11_tableOf vX11_tableOf lX11_249 ⟨by decide, by decide⟩ (Nat.le_of_ble_eq_true rfl) e9.oo (Nat.le_of_ble_eq_true rfl) rfl ?_
    refine pX11_tableW e9 hd zg tw hw (by omega) (fun hh2 ow2 u2 n2 m2 cc2 K2 O2 f2 tw_2 tb_2 gg2 => ?_)
    intro _ _
    obtain ⟨_, _, _, _, _, _, _, zg_2⟩ := gg2
    have e9_2 := e9.fr f2 (by decide)
    refine wp_astore_n (ls1 := [_, _, _, some _]) dX11_could_18 rfl (by decide) rfl ?_
    refine wp_iload_n dX11_could_19 rfl rfl ?_
    by_cases cl0 : y = nI 0
    · subst cl0
      refine wp_lookup (off := 28) (t := 48) dX11_could_20 (by decide +kernel) (by decide +kernel) (by decide +kernel) ?_
      refine wp_aload_n dX11_could_48 rfl rfl ?_
      obtain ⟨_, _, _, _, _, _, tc2, _, _, _, _, _, _, _, zt2, hb2, ec2, hcn2, hR2, ru2⟩ := id tb_2
      refine wp_getIV dX11_could_49 lX11_310 rfl zt2.o (zt2.f1.trans ec2) ?_
      refine wp_ireturn dX11_could_52 rfl ?_
      exact hq _ _ _ _ f2 tw_2 ⟨_, _, _, _, _, _, _, zg_2⟩ (could_0 hd (by omega) ru2)
    by_cases cl1 : y = nI 1
    · subst cl1
      refine wp_lookup (off := 33) (t := 53) dX11_could_20 (by decide +kernel) (by decide +kernel) (by decide +kernel) ?_
      refine wp_aload_n dX11_could_53 rfl rfl ?_
      obtain ⟨_, _, _, _, _, _, tc2, _, _, _, _, _, _, _, zt2, hb2, ec2, hcn2, hR2, ru2⟩ := id tb_2
      refine wp_cV0 0 0 [some _, none, none] dX11_could_54 tX9_goodOnes rfl (by decide) nX9_goodOnes vX9_goodOnes lX11_311 ⟨by decide, by decide⟩ (Nat.le_of_ble_eq_true rfl) zt2.o (Nat.le_of_ble_eq_true rfl) rfl ?_
      refine pX9_goodOnes tb_2 ?_
      intro _ _
      refine wp_ireturn dX11_could_57 rfl ?_
      exact hq _ _ _ _ f2 tw_2 ⟨_, _, _, _, _, _, _, zg_2⟩ (could_1 hd (by omega) ru2)
    refine wp_lookup (off := 38) (t := 58) dX11_could_20 (by decide +kernel) ((lv_osw cl0 (by decide +kernel)).trans (lv_osw cl1 (by decide +kernel))) (by decide +kernel) ?_
    refine wp_iconst (v := (-1)) dX11_could_58 (by decide +kernel) ?_
    refine wp_ireturn dX11_could_59 rfl ?_
    exact hq _ _ _ _ f2 tw_2 ⟨_, _, _, _, _, _, _, zg_2⟩ (could_no (Or.inr (ix2_no cl0 cl1)))
  · intro _ _
    refine wp_if_ne dX11_could_8 (fun q => absurd q (by decide +kernel)) (fun _ => ?_)
    refine wp_iconst (v := (-1)) dX11_could_11 (by decide +kernel) ?_
    refine wp_ireturn dX11_could_12 rfl ?_
    exact hq _ _ 0 _ cFr.rf tw ⟨_, _, _, _, _, _, _, zg⟩ (could_no (Or.inl xn1))
