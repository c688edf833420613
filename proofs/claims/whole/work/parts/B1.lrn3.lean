/-! ===== what is learnt now ===== -/
theorem zK_new {ow : Nat → Nat} {h : mH} (hz : hN h < scrA) : cFr [18] 14 ow h (upN ow (hN h) 18) (nw h 4 (mCz 4)) ∧ zK (upN ow (hN h) 18) (nw h 4 (mCz 4)) (hN h) 18 (nI 0) (nI 0) (nI 0) (nI 0) ∧ hN (nw h 4 (mCz 4)) = hN h + 1 ∧ hU (nw h 4 (mCz 4)) = hU h + 6 := by
  have hi : ∀ y, hI (nw h 4 (mCz 4)) (hN h) y = nI 0 := fun y => by rw [hI_nw, if_pos rfl, nI_0]
  exact ⟨cFr_nw 18 hz, ⟨⟨Nat.lt_succ_self _, by rw [hK_nw, if_pos rfl]⟩, upN_at _ _ _, hi 2, hi 3, hi 4, hi 5⟩, rfl, rfl⟩
def ro3 (ow : Nat → Nat) (a ρ : Nat) : Nat → Nat := upN (upN (upN ow a ρ) (a + 1) ρ) (a + 2) ρ
theorem ro3_ne {ow : Nat → Nat} {a ρ x : Nat} (h : x < a ∨ a + 2 < x) : ro3 ow a ρ x = ow x := by
  unfold ro3
  rw [upN_ne (by omega), upN_ne (by omega), upN_ne (by omega)]
theorem cFr.ro {S : List Nat} {u : Nat} {ow ow' : Nat → Nat} {h h' : mH} {a ρ : Nat} (f : cFr S u ow h ow' h') (ha : hN h ≤ a) (hz : a + 2 < scrA) : cFr S u ow h (ro3 ow' a ρ) h' := ⟨f.1, fun x hx => ⟨(f.2 x hx).1, (ro3_ne (by rcases hx with z | z <;> omega)).trans (f.2 x hx).2.1, (f.2 x hx).2.2⟩⟩
theorem lnN.ro {ow : Nat → Nat} {h : mH} {a ρ ρ' : Nat} {r : Nat → Int64} {f : Nat} {L : List Nat} (g : lnN ow h a ρ r f L) : lnN (ro3 ow a ρ') h a ρ' r f L := by
  obtain ⟨nr, np, z, h1, h2⟩ := g
  refine ⟨nr, np, ⟨z.o, ?_, z.r0, z.a0, ?_, z.c0, z.r1, z.a1, ?_, z.c1, z.f2, z.f3, z.f4, z.f5⟩, h1, h2⟩
  · unfold ro3; rw [upN_ne (by omega), upN_ne (by omega), upN_at]
  · unfold ro3; rw [upN_ne (by omega), upN_at]
  · unfold ro3; rw [upN_at]
theorem tbW.up {ow : Nat → Nat} {h : mH} {r : Nat → Int64} {pa my : Nat → Int32} {F e w w' : Nat} (g : tbW ow h r pa my F e w) (hw : w ≤ w') : tbW ow h r pa my F e w' := by
  obtain ⟨n, m, h2, h3⟩ := g
  exact ⟨n, m, h2, by omega⟩
theorem tbW.b {ow : Nat → Nat} {h : mH} {r : Nat → Int64} {pa my : Nat → Int32} {F e w : Nat} (g : tbW ow h r pa my F e w) : hU h + 8 * hN h ≤ w := by
  obtain ⟨n, m, h2, h3⟩ := g
  omega
theorem row_bn {r : Nat → Int64} {pa : Nat → Int32} {f c : Nat} {K O : Nat → Nat} {v4 : Nat → Int32} {L : List Nat} (ru : ruS r pa f c K O) (hr : rowP K c v4 L L.length) : ∀ k, k < L.length → ∃ p, (exE r f).testBit p = true ∧ bNr r pa f p (L.getD k 0) := fun k hk => by
  obtain ⟨x, hx, _, e⟩ := hr k hk
  rw [e]
  exact ru.2.2.2 x hx
set_option maxRecDepth 20000 in
theorem pX11_whatIsLearntNow {h : mH} {Q : Option Value → mH → Prop} {ow : Nat → Nat} {F fa o1 d1 u1 : Nat} {pa my : Nat → Int32} {r : Nat → Int64} {pl : Nat → Int64} {gb ge : Int32} {gs gn : Int64} {gf gt : Int32} {e w : Nat} {v0 v1 v2 v3 v4 : Nat → Int32} {vc vk vh : Int32} {f : Nat} (e9 : eS ow h F pa my r fa o1 d1 u1) (hd : sOK r F pa my) (zg : zG ow h pl gb ge gs gn gf gt) (tw : tbW ow h r pa my F e w) (hw : w + 400 ≤ 8000000) (zv : zV ow h v0 v1 v2 v3 v4 vc vk vh) (hf : f < F) (hne : 0 < exE r f) (hq : ∀ h' ow' u a (L : List Nat) hop, cFr [1, 2, 11, 12, 13, 14, 18] u ow h ow' h' → eS ow' h' F pa my r fa o1 d1 u1 → tbW ow' h' r pa my F e (w + 100) → (∃ pl gb ge gs gn gf gt, zG ow' h' pl gb ge gs gn gf gt) → (∃ v0 v1 v2 v3 v4 vc vk vh, zV ow' h' v0 v1 v2 v3 v4 vc vk vh) → coP r pa my f (exE r f) L hop → L.length ≤ 6 → (∀ k, k < L.length → ∃ p, (exE r f).testBit p = true ∧ bNr r pa f p (L.getD k 0)) → lnN ow' h' a 0 r f L → Q (some (.ref a)) h') : Wp mX11_whatIsLearntNow 7 185 0 [some (.ref 0), some (.int (nI f)), none, none] [] h Q := by
  have hP6 := hd.w.1.2
  have hF4 := hd.f4
  have hw0 := hw
  have hw : w ≤ 8000000 := by omega
  refine wp_aload_n dX11_whatIsLearntNow_0 rfl rfl ?_
  refine wp_getR dX11_whatIsLearntNow_1 lX11_34 rfl e9.oo e9.r6 ?_
  refine wp_cV0 2 43 [some _] dX11_whatIsLearntNow_4 tX3_now rfl (by decide) nX3_now vX3_now lX11_101 ⟨by decide, by decide⟩ (Nat.le_of_ble_eq_true rfl) e9.hh.o (Nat.le_of_ble_eq_true rfl) rfl ?_
  refine pX3_now e9.hh e9.kb e9.od.1 e9.od.2 ?_
  intro _ _
  refine wp_astore_n (ls1 := [_, _, some _, _]) dX11_whatIsLearntNow_7 rfl (by decide) rfl ?_
  refine wp_aload_n dX11_whatIsLearntNow_8 rfl rfl ?_
  refine wp_iload_n dX11_whatIsLearntNow_9 rfl rfl ?_
  refine wp_cV1 6 162 [some _, some _, none, none] dX11_whatIsLearntNow_10 tX11_tableOf rfl (by decide) nX11_tableOf vX11_tableOf lX11_249 ⟨by decide, by decide⟩ (Nat.le_of_ble_eq_true rfl) e9.oo (Nat.le_of_ble_eq_true rfl) rfl ?_
  refine pX11_tableW e9 hd zg tw hw (by omega) (fun hh1 ow1 u1 n1 m1 cc1 K1 O1 f1 tw_1 tb_1 gg1 => ?_)
  intro _ _
  obtain ⟨_, _, _, _, _, _, _, zg_1⟩ := gg1
  have e9_1 := e9.fr f1 (by decide)
  have zv_1 := zv.fr f1 (by decide)
  refine wp_astore_n (ls1 := [_, _, _, some _]) dX11_whatIsLearntNow_13 rfl (by decide) rfl ?_
  refine wp_aload_n dX11_whatIsLearntNow_14 rfl rfl ?_
  refine wp_getR dX11_whatIsLearntNow_15 lX11_53 rfl e9_1.oo e9_1.r9 ?_
  refine wp_aload_n dX11_whatIsLearntNow_18 rfl rfl ?_
  refine wp_aload_n dX11_whatIsLearntNow_19 rfl rfl ?_
  refine wp_iload_n dX11_whatIsLearntNow_20 rfl rfl ?_
  refine wp_cV1 2 43 [some _, some _, none, none] dX11_whatIsLearntNow_21 tX8_examplesOf rfl (by decide) nX8_examplesOf vX8_examplesOf lX11_154 ⟨by decide, by decide⟩ (Nat.le_of_ble_eq_true rfl) e9_1.st.oo (Nat.le_of_ble_eq_true rfl) rfl ?_
  refine pX8_examplesOf e9_1.st hd (by omega) ?_
  intro _ _
  refine wp_cV2 2 51 [some _, some _, some _, none, none] dX11_whatIsLearntNow_24 tX0_solve rfl (by decide) nX0_solve vX0_solve lX11_253 ⟨by decide, by decide⟩ (Nat.le_of_ble_eq_true rfl) zv_1.o (Nat.le_of_ble_eq_true rfl) rfl ?_
  refine pX0_solve zv_1 tb_1 (by omega) (exE_lt hd) (fun _ z => z) (fun hh2 L2 hop2 f2 sv2 co2 => ?_)
  intro _ _
  have e9_2 := e9_1.fr f2 (by decide)
  have zg_2 := zg_1.fr f2 (rnS (by omega) rn0)
  have tw_2 := tw_1.fr f2 (fun f9 hf9 => by simp <;> omega)
  have tb_2 := tb_1.fr f2 (rnS (by omega) rn0)
  obtain ⟨w02, w12, w22, w32, w42, zv2, hl2, hr2⟩ := id sv2
  refine wp_new dX11_whatIsLearntNow_27 (by decide) lX11_159 (mInst 4 (by decide)) (mInit 4 (by decide)) ?_
  have hwb := tw_2.b
  have hsc : scrA = 1000000000 := rfl
  have hnr : 20 ≤ nowR o1 d1 := Nat.le_add_right _ _
  obtain ⟨f3, zk3, hn3, hu3⟩ := zK_new (ow := ow1) (h := hh2) (by omega)
  generalize nw hh2 4 (mCz 4) = hh3 at *
  have st3 := e9_2.st.fr f3 (rnS (by decide) rn0) (rnS (fun z => by rw [z] at hnr; exact absurd hnr (by decide)) rn0)
  have tb3n := tb_2.fr f3 (rnS (by omega) rn0)
  have sv3n := sv2.fr f3 (by decide)
  have e3n := e9_2.fr f3 (by decide)
  refine wp_dup dX11_whatIsLearntNow_30 rfl ?_
  refine wp_aload_n dX11_whatIsLearntNow_31 rfl rfl ?_
  refine wp_aload_n dX11_whatIsLearntNow_32 rfl rfl ?_
  refine wp_getR dX11_whatIsLearntNow_33 lX11_53 rfl e3n.oo e3n.r9 ?_
  refine wp_aload_n dX11_whatIsLearntNow_36 rfl rfl ?_
  refine wp_iload_n dX11_whatIsLearntNow_37 rfl rfl ?_
  refine wp_cI4 4 96 [some _, some _, some _, some _, some _, none, none] dX11_whatIsLearntNow_38 tX4_init rfl rfl nX4_init lX11_257 ⟨by decide, by decide⟩ (Nat.le_of_ble_eq_true rfl) (Nat.le_of_ble_eq_true rfl) rfl ?_
  refine pX4_init st3 hd hf hnr zk3 hn3 (by omega) hne sv3n tb3n ⟨by omega, by omega⟩ (fun hh4 ow4 f4 ln4 => ?_)
  intro _ _
  refine wp_areturn dX11_whatIsLearntNow_41 (Or.inl ⟨_, rfl⟩) ?_
  have fN := ((f3.tr f4).ro (a := hN hh2) (ρ := 0) (Nat.le_refl _) (by omega))
  have co9 := co2
  refine hq _ _ _ _ L2 hop2 (((((f1.up (by decide) (Nat.le_refl _)).tr (f2.up (by decide) (Nat.le_refl _)))).tr (fN.up (by decide) (Nat.le_refl _)))) (e9_2.fr fN (by decide)) ((tw_2.fr fN (fun f9 hf9 => by simp <;> omega)).up (by omega)) ⟨_, _, _, _, _, _, _, zg_2.fr fN (by decide)⟩ ⟨_, _, _, _, _, _, _, _, zv2.fr fN (by decide)⟩ co2 hl2.1 (row_bn tb_2.V.2 hr2) ln4.ro
