/-! ===== enough ===== -/
noncomputable def okB (r : Nat → Int64) (pa my : Nat → Int32) (f all s : Nat) : Bool := @decide (okE r pa my f all s) (Classical.propDecidable _)
theorem okB_iff {r : Nat → Int64} {pa my : Nat → Int32} {f all s : Nat} : okB r pa my f all s = true ↔ okE r pa my f all s := by
  exact @decide_eq_true_iff _ (Classical.propDecidable _)
theorem enB_y {ok : Nat → Bool} {all s : Nat} (h1 : 0 < s) (h2 : s &&& (63 - all) = 0) (h3 : enB ok all s = 0 ∨ pc6 s 16 < pc6 (enB ok all s) 16) (h4 : ok s = true) : enB ok all (s + 1) = s := if_pos ⟨by omega, h2, h3, h4⟩
theorem enB_n {ok : Nat → Bool} {all s : Nat} (h : ¬ (s &&& (63 - all) = 0 ∧ (enB ok all s = 0 ∨ pc6 s 16 < pc6 (enB ok all s) 16) ∧ ok s = true)) : enB ok all (s + 1) = enB ok all s := if_neg (fun z => h z.2)
theorem ok_y {r : Nat → Int64} {pa my : Nat → Int32} {f all s : Nat} {L : List Nat} {hop : Nat} (co : coP r pa my f s L hop) (h : ∀ p, p < 6 → all.testBit p = true → roF r pa my f p L = true) : okB r pa my f all s = true := okB_iff.mpr ⟨L, hop, co, h⟩
theorem ok_n {r : Nat → Int64} {pa my : Nat → Int32} {f all s : Nat} {L : List Nat} {hop : Nat} (co : coP r pa my f s L hop) (h : ¬ ∀ p, p < 6 → all.testBit p = true → roF r pa my f p L = true) : ¬ okB r pa my f all s = true := fun z => by
  obtain ⟨L', hop', h1, h2⟩ := okB_iff.mp z
  obtain ⟨e1, e2⟩ := coP_un co h1
  subst e1 e2
  exact h h2
theorem eno_no {r : Nat → Int64} {F : Nat} {pa my : Nat → Int32} {x : Int32} (h : ix x F = none) : ∀ v, spEnough r F pa my x v → v = -1 := by
  intro v hv
  unfold spEnough at hv
  rw [h] at hv; exact hv
theorem eno_0 {r : Nat → Int64} {F : Nat} {pa my : Nat → Int32} {f : Nat} (hd : sOK r F pa my) (hf : f < F) (h : exE r f = 0) : ∀ v, spEnough r F pa my (nI f) v → v = -1 := by
  have hF4 := hd.f4
  intro v hv
  unfold spEnough at hv
  rw [ix_nI hf (by omega)] at hv
  have hv : if exE r f = 0 then v = -1 else _ := hv
  rw [if_pos h] at hv
  exact hv
theorem eno_v {r : Nat → Int64} {F : Nat} {pa my : Nat → Int32} {f : Nat} (hd : sOK r F pa my) (hf : f < F) (h : 0 < exE r f) : ∀ v, spEnough r F pa my (nI f) v → v = nI (enB (okB r pa my f (exE r f)) (exE r f) 64) := by
  have hF4 := hd.f4
  intro v hv
  unfold spEnough at hv
  rw [ix_nI hf (by omega)] at hv
  have hv : if exE r f = 0 then v = -1 else ∃ ok : Nat → Bool, (∀ s, ok s = true ↔ okE r pa my f (exE r f) s) ∧ v = nI (enB ok (exE r f) 64) := hv
  rw [if_neg (by omega)] at hv
  obtain ⟨ok, h1, h2⟩ := hv
  rw [h2, show ok = okB r pa my f (exE r f) from funext fun s => Bool.eq_iff_iff.mpr ((h1 s).trans okB_iff.symm)]
set_option maxRecDepth 20000 in
theorem enoughC_loop {h : mH} {Q : Option Value → mH → Prop} {ow : Nat → Nat} {F fa o1 d1 u1 : Nat} {pa my : Nat → Int32} {r : Nat → Int64} {pl : Nat → Int64} {gb ge : Int32} {gs gn : Int64} {gf gt : Int32} {e w : Nat} {v0 v1 v2 v3 v4 : Nat → Int32} {vc vk vh : Int32} {f n m c : Nat} {K O : Nat → Nat} {l6 : Option Value} (e9 : eS ow h F pa my r fa o1 d1 u1) (hd : sOK r F pa my) (zg : zG ow h pl gb ge gs gn gf gt) (tw : tbW ow h r pa my F e w)  (zv : zV ow h v0 v1 v2 v3 v4 vc vk vh) (tb : tbR ow h (125 + 7 * f) (11 + f) (nI 1) r pa my f n m c K O) (hf : f < F) (h0 : 0 < exE r f) (K9 : ∀ h', cFr [2] 0 ow h ow h' → eS ow h' F pa my r fa o1 d1 u1 → (∃ pl gb ge gs gn gf gt, zG ow h' pl gb ge gs gn gf gt) → tbW ow h' r pa my F e w → (∃ v0 v1 v2 v3 v4 vc vk vh, zV ow h' v0 v1 v2 v3 v4 vc vk vh) → Q (some (.int (nI (enB (okB r pa my f (exE r f)) (exE r f) 64)))) h') : Wp mX11_enough 7 185 43 [some (.ref 0), some (.int (nI f)), some (.int (nI (exE r f))), some (.ref (125 + 7 * f)), some (.int (nI 0)), some (.int (nI 1)), l6] [] h Q := by
  have hP6 := hd.w.1.2
  have hF4 := hd.f4
  have hE64 := exE_lt (f := f) hd
  have hloop : ∀  (t9 : Nat) (s : Nat) (pl1 : Nat → Int64) (gb1 : Int32) (ge1 : Int32) (gs1 : Int64) (gn1 : Int64) (gf1 : Int32) (gt1 : Int32) (x0 : Nat → Int32) (x1 : Nat → Int32) (x2 : Nat → Int32) (x3 : Nat → Int32) (x4 : Nat → Int32) (xc : Int32) (xk : Int32) (xh : Int32) (l6 : Option Value) (h1 : mH), (1 ≤ s ∧ s ≤ 64) → (cFr [2] 0 ow h ow h1) → (eS ow h1 F pa my r fa o1 d1 u1) → (zG ow h1 pl1 gb1 ge1 gs1 gn1 gf1 gt1) → (tbW ow h1 r pa my F e w) → (tbR ow h1 (125 + 7 * f) (11 + f) (nI 1) r pa my f n m c K O) → (zV ow h1 x0 x1 x2 x3 x4 xc xk xh) → (64 < s + t9) → Wp mX11_enough 7 185 43 [some (.ref 0), some (.int (nI f)), some (.int (nI (exE r f))), some (.ref (125 + 7 * f)), some (.int (nI (enB (okB r pa my f (exE r f)) (exE r f) s))), some (.int (nI s)), l6] [] h1 Q := by
    intro t9
    induction t9 with
    | zero => intros; omega
    | succ t9 ih =>
      intro s pl1 gb1 ge1 gs1 gn1 gf1 gt1 x0 x1 x2 x3 x4 xc xk xh l6 h1 hs hf1 e1 zg1 tw1 tb1 zv1 hmz
      refine wp_iload dX11_enough_43 rfl ?_
      refine wp_bipush (v := (nI 64)) dX11_enough_45 (by decide +kernel) ?_
      refine wp_icmp_geN dX11_enough_47 rfl rfl ⟨by omega, by omega⟩ (fun c2 => ?_) (fun c2 => ?_)
      · refine wp_iload dX11_enough_121 rfl ?_
        refine wp_ireturn dX11_enough_123 rfl ?_
        have es9 : s = 64 := by omega
        subst es9
        exact K9 _ hf1 e1 ⟨_, _, _, _, _, _, _, zg1⟩ tw1 ⟨_, _, _, _, _, _, _, _, zv1⟩
      · have hb64 : (enB (okB r pa my f (exE r f)) (exE r f) s) < 64 := enB_lt s (by omega)
        have hp1 := pc6_le s 16
        have hp2 := pc6_le (enB (okB r pa my f (exE r f)) (exE r f) s) 16
        refine wp_iload dX11_enough_50 rfl ?_
        refine wp_if_eqN dX11_enough_52 rfl (by omega) (fun c3 => ?_) (fun c3 => ?_)
        · refine wp_iconst (v := (nI 1)) dX11_enough_68 (by decide +kernel) ?_
          refine wp_goto dX11_enough_69 ?_
          refine wp_istore (ls1 := [_, _, _, _, _, _, some _]) dX11_enough_73 (by decide) rfl ?_
          refine wp_iload dX11_enough_75 rfl ?_
          refine wp_if_eq dX11_enough_77 (fun q => absurd q (by decide +kernel)) (fun _ => ?_)
          refine wp_iload dX11_enough_80 rfl ?_
          refine wp_iload_n dX11_enough_82 rfl rfl ?_
          refine wp_iconst (v := (-1)) dX11_enough_83 (by decide +kernel) ?_
          refine wp_ixor dX11_enough_84 ?_
          refine wp_iand dX11_enough_85 ?_
          rw [nx_not (exE_lt hd) (by omega)]
          refine wp_if_neN dX11_enough_86 rfl (Nat.lt_of_le_of_lt Nat.and_le_left (by omega)) (fun c5 => ?_) (fun c5 => ?_)
          · refine wp_iinc1 (ls1 := [_, _, _, _, _, some _, _]) dX11_enough_115 rfl (by decide) rfl ?_
            refine wp_goto dX11_enough_118 ?_
            have ec9 := enB_n (all := exE r f) (s := s) (ok := okB r pa my f (exE r f)) (fun z => by have := z.1; omega)
            rw [← ec9]
            exact ih (s + 1) _ _ _ _ _ _ _ _ _ _ _ _ _ _ _ _ _ (by omega) (hf1.up (by decide) (Nat.le_refl _)) e1 zg1 tw1 tb1 zv1 (by omega)
          · have hsb : s &&& (63 - exE r f) = 0 := by omega
            refine wp_aload_n dX11_enough_89 rfl rfl ?_
            refine wp_getR dX11_enough_90 lX11_53 rfl e1.oo e1.r9 ?_
            refine wp_aload_n dX11_enough_93 rfl rfl ?_
            refine wp_iload dX11_enough_94 rfl ?_
            refine wp_cV2 2 51 [some _, some _, some _, none, none] dX11_enough_96 tX0_solve rfl (by decide) nX0_solve vX0_solve lX11_253 ⟨by decide, by decide⟩ (Nat.le_of_ble_eq_true rfl) zv1.o (Nat.le_of_ble_eq_true rfl) rfl ?_
            refine pX0_solve zv1 tb1 (by omega) (by omega) (fun p z => sub_tb (exE_lt hd) hsb (by omega) z) (fun hh1 L1 hop1 f1 sv1 co1 => ?_)
            intro _ _
            have e1_1 := e1.fr f1 (by decide)
            have zg1_1 := zg1.fr f1 (rnS (by omega) rn0)
            have tw1_1 := tw1.fr f1 (fun f9 hf9 => by simp <;> omega)
            have tb1_1 := tb1.fr f1 (rnS (by omega) rn0)
            obtain ⟨w01, w11, w21, w31, w41, zv1, hl1, hr1⟩ := id sv1
            refine wp_aload_n dX11_enough_99 rfl rfl ?_
            refine wp_getR dX11_enough_100 lX11_53 rfl e1_1.oo e1_1.r9 ?_
            refine wp_aload_n dX11_enough_103 rfl rfl ?_
            refine wp_iload_n dX11_enough_104 rfl rfl ?_
            refine wp_cV2 0 0 [some _, some _, some _, none, none] dX11_enough_105 tX0_isRightOn rfl (by decide) nX0_isRightOn vX0_isRightOn lX11_376 ⟨by decide, by decide⟩ (Nat.le_of_ble_eq_true rfl) zv1.o (Nat.le_of_ble_eq_true rfl) rfl ?_
            refine pX0_isRightOn sv1 tb1_1 (exE_lt hd) (fun _ z => z) (fun hro => ?_) (fun hro => ?_)
            · intro _ _
              refine wp_if_eq dX11_enough_108 (fun q => absurd q (by decide +kernel)) (fun _ => ?_)
              refine wp_iload dX11_enough_111 rfl ?_
              refine wp_istore (ls1 := [_, _, _, _, some _, _, _]) dX11_enough_113 (by decide) rfl ?_
              refine wp_iinc1 (ls1 := [_, _, _, _, _, some _, _]) dX11_enough_115 rfl (by decide) rfl ?_
              refine wp_goto dX11_enough_118 ?_
              have ec9 := enB_y (all := exE r f) (s := s) (ok := okB r pa my f (exE r f)) (by omega) hsb (by omega) (ok_y co1 hro)
              -- the best is new
              have ew9 := ec9.symm
              exact (show nI (enB (okB r pa my f (exE r f)) (exE r f) (s + 1)) = nI s from congrArg nI ec9) ▸ ih (s + 1) _ _ _ _ _ _ _ _ _ _ _ _ _ _ _ _ _ (by omega) ((hf1.up (by decide) (Nat.le_refl _)).tr (f1.up (by decide) (Nat.le_refl _))) e1_1 zg1_1 tw1_1 tb1_1 zv1 (by omega)
            · intro _ _
              refine wp_if_eq dX11_enough_108 (fun _ => ?_) (fun q => absurd q (by decide +kernel))
              refine wp_iinc1 (ls1 := [_, _, _, _, _, some _, _]) dX11_enough_115 rfl (by decide) rfl ?_
              refine wp_goto dX11_enough_118 ?_
              have ec9 := enB_n (all := exE r f) (s := s) (ok := okB r pa my f (exE r f)) (fun z => ok_n co1 hro z.2.2)
              rw [← ec9]
              exact ih (s + 1) _ _ _ _ _ _ _ _ _ _ _ _ _ _ _ _ _ (by omega) ((hf1.up (by decide) (Nat.le_refl _)).tr (f1.up (by decide) (Nat.le_refl _))) e1_1 zg1_1 tw1_1 tb1_1 zv1 (by omega)
        · refine wp_iload dX11_enough_55 rfl ?_
          refine wp_cS1 0 0 [some _] dX11_enough_57 tJ6_bitCount_0f7a4 sJ6_bitCount_0f7a4 lX11_372 ⟨by decide, by decide⟩ (Nat.le_of_ble_eq_true rfl) (Nat.le_of_ble_eq_true rfl) rfl ?_
          refine pJ6_bitCount_0f7a4 (by omega) ?_
          intro _ _
          rw [pcb_6 (by omega)]
          refine wp_iload dX11_enough_60 rfl ?_
          refine wp_cS1 0 0 [some _] dX11_enough_62 tJ6_bitCount_0f7a4 sJ6_bitCount_0f7a4 lX11_372 ⟨by decide, by decide⟩ (Nat.le_of_ble_eq_true rfl) (Nat.le_of_ble_eq_true rfl) rfl ?_
          refine pJ6_bitCount_0f7a4 (by omega) ?_
          intro _ _
          rw [pcb_6 (by omega)]
          refine wp_icmp_geN dX11_enough_65 rfl rfl ⟨by omega, by omega⟩ (fun c9 => ?_) (fun c9 => ?_)
          · have hns : ¬ ((enB (okB r pa my f (exE r f)) (exE r f) s) = 0 ∨ pc6 s 16 < pc6 (enB (okB r pa my f (exE r f)) (exE r f) s) 16) := by omega
            refine wp_iconst (v := (nI 0)) dX11_enough_72 (by decide +kernel) ?_
            refine wp_istore (ls1 := [_, _, _, _, _, _, some _]) dX11_enough_73 (by decide) rfl ?_
            refine wp_iload dX11_enough_75 rfl ?_
            refine wp_if_eq dX11_enough_77 (fun _ => ?_) (fun q => absurd q (by decide +kernel))
            refine wp_iinc1 (ls1 := [_, _, _, _, _, some _, _]) dX11_enough_115 rfl (by decide) rfl ?_
            refine wp_goto dX11_enough_118 ?_
            have ec9 := enB_n (all := exE r f) (s := s) (ok := okB r pa my f (exE r f)) (fun z => hns z.2.1)
            rw [← ec9]
            exact ih (s + 1) _ _ _ _ _ _ _ _ _ _ _ _ _ _ _ _ _ (by omega) (hf1.up (by decide) (Nat.le_refl _)) e1 zg1 tw1 tb1 zv1 (by omega)
          · refine wp_iconst (v := (nI 1)) dX11_enough_68 (by decide +kernel) ?_
            refine wp_goto dX11_enough_69 ?_
            refine wp_istore (ls1 := [_, _, _, _, _, _, some _]) dX11_enough_73 (by decide) rfl ?_
            refine wp_iload dX11_enough_75 rfl ?_
            refine wp_if_eq dX11_enough_77 (fun q => absurd q (by decide +kernel)) (fun _ => ?_)
            refine wp_iload dX11_enough_80 rfl ?_
            refine wp_iload_n dX11_enough_82 rfl rfl ?_
            refine wp_iconst (v := (-1)) dX11_enough_83 (by decide +kernel) ?_
            refine wp_ixor dX11_enough_84 ?_
            refine wp_iand dX11_enough_85 ?_
            rw [nx_not (exE_lt hd) (by omega)]
            refine wp_if_neN dX11_enough_86 rfl (Nat.lt_of_le_of_lt Nat.and_le_left (by omega)) (fun c12 => ?_) (fun c12 => ?_)
            · refine wp_iinc1 (ls1 := [_, _, _, _, _, some _, _]) dX11_enough_115 rfl (by decide) rfl ?_
              refine wp_goto dX11_enough_118 ?_
              have ec9 := enB_n (all := exE r f) (s := s) (ok := okB r pa my f (exE r f)) (fun z => by have := z.1; omega)
              rw [← ec9]
              exact ih (s + 1) _ _ _ _ _ _ _ _ _ _ _ _ _ _ _ _ _ (by omega) (hf1.up (by decide) (Nat.le_refl _)) e1 zg1 tw1 tb1 zv1 (by omega)
            · have hsb : s &&& (63 - exE r f) = 0 := by omega
              refine wp_aload_n dX11_enough_89 rfl rfl ?_
              refine wp_getR dX11_enough_90 lX11_53 rfl e1.oo e1.r9 ?_
              refine wp_aload_n dX11_enough_93 rfl rfl ?_
              refine wp_iload dX11_enough_94 rfl ?_
              refine wp_cV2 2 51 [some _, some _, some _, none, none] dX11_enough_96 tX0_solve rfl (by decide) nX0_solve vX0_solve lX11_253 ⟨by decide, by decide⟩ (Nat.le_of_ble_eq_true rfl) zv1.o (Nat.le_of_ble_eq_true rfl) rfl ?_
              refine pX0_solve zv1 tb1 (by omega) (by omega) (fun p z => sub_tb (exE_lt hd) hsb (by omega) z) (fun hh2 L2 hop2 f2 sv2 co2 => ?_)
              intro _ _
              have e1_2 := e1.fr f2 (by decide)
              have zg1_2 := zg1.fr f2 (rnS (by omega) rn0)
              have tw1_2 := tw1.fr f2 (fun f9 hf9 => by simp <;> omega)
              have tb1_2 := tb1.fr f2 (rnS (by omega) rn0)
              obtain ⟨w02, w12, w22, w32, w42, zv2, hl2, hr2⟩ := id sv2
              refine wp_aload_n dX11_enough_99 rfl rfl ?_
              refine wp_getR dX11_enough_100 lX11_53 rfl e1_2.oo e1_2.r9 ?_
              refine wp_aload_n dX11_enough_103 rfl rfl ?_
              refine wp_iload_n dX11_enough_104 rfl rfl ?_
              refine wp_cV2 0 0 [some _, some _, some _, none, none] dX11_enough_105 tX0_isRightOn rfl (by decide) nX0_isRightOn vX0_isRightOn lX11_376 ⟨by decide, by decide⟩ (Nat.le_of_ble_eq_true rfl) zv2.o (Nat.le_of_ble_eq_true rfl) rfl ?_
              refine pX0_isRightOn sv2 tb1_2 (exE_lt hd) (fun _ z => z) (fun hro => ?_) (fun hro => ?_)
              · intro _ _
                refine wp_if_eq dX11_enough_108 (fun q => absurd q (by decide +kernel)) (fun _ => ?_)
                refine wp_iload dX11_enough_111 rfl ?_
                refine wp_istore (ls1 := [_, _, _, _, some _, _, _]) dX11_enough_113 (by decide) rfl ?_
                refine wp_iinc1 (ls1 := [_, _, _, _, _, some _, _]) dX11_enough_115 rfl (by decide) rfl ?_
                refine wp_goto dX11_enough_118 ?_
                have ec9 := enB_y (all := exE r f) (s := s) (ok := okB r pa my f (exE r f)) (by omega) hsb (by omega) (ok_y co2 hro)
                -- the best is new
                have ew9 := ec9.symm
                exact (show nI (enB (okB r pa my f (exE r f)) (exE r f) (s + 1)) = nI s from congrArg nI ec9) ▸ ih (s + 1) _ _ _ _ _ _ _ _ _ _ _ _ _ _ _ _ _ (by omega) ((hf1.up (by decide) (Nat.le_refl _)).tr (f2.up (by decide) (Nat.le_refl _))) e1_2 zg1_2 tw1_2 tb1_2 zv2 (by omega)
              · intro _ _
                refine wp_if_eq dX11_enough_108 (fun _ => ?_) (fun q => absurd q (by decide +kernel))
                refine wp_iinc1 (ls1 := [_, _, _, _, _, some _, _]) dX11_enough_115 rfl (by decide) rfl ?_
                refine wp_goto dX11_enough_118 ?_
                have ec9 := enB_n (all := exE r f) (s := s) (ok := okB r pa my f (exE r f)) (fun z => ok_n co2 hro z.2.2)
                rw [← ec9]
                exact ih (s + 1) _ _ _ _ _ _ _ _ _ _ _ _ _ _ _ _ _ (by omega) ((hf1.up (by decide) (Nat.le_refl _)).tr (f2.up (by decide) (Nat.le_refl _))) e1_2 zg1_2 tw1_2 tb1_2 zv2 (by omega)
  exact hloop 64 1 _ _ _ _ _ _ _ _ _ _ _ _ _ _ _ _ h (by omega) cFr.rf e9 zg tw tb zv (by omega)
set_option maxRecDepth 20000 in
theorem pX11_enough {h : mH} {Q : Option Value → mH → Prop} {ow : Nat → Nat} {F fa o1 d1 u1 : Nat} {pa my : Nat → Int32} {r : Nat → Int64} {pl : Nat → Int64} {gb ge : Int32} {gs gn : Int64} {gf gt : Int32} {e w : Nat} {v0 v1 v2 v3 v4 : Nat → Int32} {vc vk vh : Int32} {x : Int32} (e9 : eS ow h F pa my r fa o1 d1 u1) (hd : sOK r F pa my) (zg : zG ow h pl gb ge gs gn gf gt) (tw : tbW ow h r pa my F e w) (hw : w ≤ 8000000) (zv : zV ow h v0 v1 v2 v3 v4 vc vk vh) (hq : ∀ h' ow' u v, cFr [1, 2, 11, 12, 13, 14] u ow h ow' h' → tbW ow' h' r pa my F e w → (∃ pl gb ge gs gn gf gt, zG ow' h' pl gb ge gs gn gf gt) → (∃ v0 v1 v2 v3 v4 vc vk vh, zV ow' h' v0 v1 v2 v3 v4 vc vk vh) → (∀ v', spEnough r F pa my x v' → v' = v) → Q (some (.int v)) h') : Wp mX11_enough 7 185 0 [some (.ref 0), some (.int x), none, none, none, none, none] [] h Q := by
  have hP6 := hd.w.1.2
  have hF4 := hd.f4
  refine wp_aload_n dX11_enough_0 rfl rfl ?_
  refine wp_getR dX11_enough_1 lX11_20 rfl e9.oo e9.f4 ?_
  refine wp_iload_n dX11_enough_4 rfl rfl ?_
  refine wp_cV1 0 0 [some _, some _] dX11_enough_5 tX1_has rfl (by decide) nX1_has vX1_has lX11_139 ⟨by decide, by decide⟩ (Nat.le_of_ble_eq_true rfl) e9.fl.oo (Nat.le_of_ble_eq_true rfl) rfl ?_
  refine pX1_has e9.fl hF4 (fun f1 hf1 ef1 => ?_) (fun xn1 => ?_)
  · subst ef1
    intro _ _
    refine wp_if_ne dX11_enough_8 (fun _ => ?_) (fun q => absurd q (by decide +kernel))
    refine wp_aload_n dX11_enough_13 rfl rfl ?_
    refine wp_getR dX11_enough_14 lX11_34 rfl e9.oo e9.r6 ?_
    refine wp_cV0 2 43 [some _] dX11_enough_17 tX3_now rfl (by decide) nX3_now vX3_now lX11_101 ⟨by decide, by decide⟩ (Nat.le_of_ble_eq_true rfl) e9.hh.o (Nat.le_of_ble_eq_true rfl) rfl ?_
    refine pX3_now e9.hh e9.kb e9.od.1 e9.od.2 ?_
    intro _ _
    refine wp_iload_n dX11_enough_20 rfl rfl ?_
    refine wp_cV1 2 43 [some _, some _, none, none] dX11_enough_21 tX8_examplesOf rfl (by decide) nX8_examplesOf vX8_examplesOf lX11_154 ⟨by decide, by decide⟩ (Nat.le_of_ble_eq_true rfl) e9.st.oo (Nat.le_of_ble_eq_true rfl) rfl ?_
    refine pX8_examplesOf e9.st hd (by omega) ?_
    intro _ _
    refine wp_istore_n (ls1 := [_, _, some _, _, _, _, _]) dX11_enough_24 rfl (by decide) rfl ?_
    refine wp_iload_n dX11_enough_25 rfl rfl ?_
    refine wp_if_neN dX11_enough_26 rfl (by have := exE_lt (r := r) (f := f1) hd; omega) (fun c2 => ?_) (fun c2 => ?_)
    · refine wp_aload_n dX11_enough_31 rfl rfl ?_
      refine wp_iload_n dX11_enough_32 rfl rfl ?_
      refine wp_cV1 6 162 [some _, some _, none, none] dX11_enough_33 tX11_tableOf rfl (by decide) nX11_tableOf vX11_tableOf lX11_249 ⟨by decide, by decide⟩ (Nat.le_of_ble_eq_true rfl) e9.oo (Nat.le_of_ble_eq_true rfl) rfl ?_
      refine pX11_tableW e9 hd zg tw hw (by omega) (fun hh2 ow2 u2 n2 m2 cc2 K2 O2 f2 tw_2 tb_2 gg2 => ?_)
      intro _ _
      obtain ⟨_, _, _, _, _, _, _, zg_2⟩ := gg2
      have e9_2 := e9.fr f2 (by decide)
      have zv_2 := zv.fr f2 (by decide)
      refine wp_astore_n (ls1 := [_, _, _, some _, _, _, _]) dX11_enough_36 rfl (by decide) rfl ?_
      refine wp_iconst (v := (nI 0)) dX11_enough_37 (by decide +kernel) ?_
      refine wp_istore (ls1 := [_, _, _, _, some _, _, _]) dX11_enough_38 (by decide) rfl ?_
      refine wp_iconst (v := (nI 1)) dX11_enough_40 (by decide +kernel) ?_
      refine wp_istore (ls1 := [_, _, _, _, _, some _, _]) dX11_enough_41 (by decide) rfl ?_
      refine enoughC_loop e9_2 hd zg_2 tw_2 zv_2 tb_2 (by omega) (by omega) (fun h9 f9 e9 g9 t9 v9 => ?_)
      exact hq _ _ _ _ ((f2.up (by decide) (Nat.le_refl _)).tr (f9.up (by decide) (Nat.le_refl _))) t9 g9 v9 (eno_v hd (by omega) (by omega))
    · refine wp_iconst (v := (-1)) dX11_enough_29 (by decide +kernel) ?_
      refine wp_ireturn dX11_enough_30 rfl ?_
      exact hq _ _ 0 _ cFr.rf tw ⟨_, _, _, _, _, _, _, zg⟩ ⟨_, _, _, _, _, _, _, _, zv⟩ (eno_0 hd (by omega) (by omega))
  · intro _ _
    refine wp_if_ne dX11_enough_8 (fun q => absurd q (by decide +kernel)) (fun _ => ?_)
    refine wp_iconst (v := (-1)) dX11_enough_11 (by decide +kernel) ?_
    refine wp_ireturn dX11_enough_12 rfl ?_
    exact hq _ _ 0 _ cFr.rf tw ⟨_, _, _, _, _, _, _, zg⟩ ⟨_, _, _, _, _, _, _, _, zv⟩ (eno_no xn1)
