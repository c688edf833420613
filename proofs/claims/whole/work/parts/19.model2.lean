/-! ===== the model's row of longs, read as numbers ===== -/
def nOf (x : Int64) : Nat := x.toInt.toNat
def rP (r : Nat → Int64) : Nat := nOf (r 0)
def rT (r : Nat → Int64) (p : Nat) : Nat := nOf (r (1 + p))
def rW (r : Nat → Int64) (p k : Nat) : Int64 := r (7 + 40 * p + k)
def rX (f p : Nat) : Nat := 247 + 17 * (6 * f + p)
def rM (r : Nat → Int64) (f p : Nat) : Nat := nOf (r (rX f p))
def rA (r : Nat → Int64) (f p i : Nat) : Nat := nOf (r (rX f p + 1 + 2 * i))
def rB (r : Nat → Int64) (f p i : Nat) : Nat := nOf (r (rX f p + 2 + 2 * i))
/-- numbers where numbers are due -/
def WF (r : Nat → Int64) : Prop := (r 0 = lN (rP r) ∧ rP r ≤ 6) ∧ (∀ p, p < 6 → r (1 + p) = lN (rT r p) ∧ rT r p ≤ 40) ∧ (∀ f p, f < 4 → p < 6 → (r (rX f p) = lN (rM r f p) ∧ rM r f p ≤ 8) ∧ ∀ i, i < 8 → (r (rX f p + 1 + 2 * i) = lN (rA r f p i) ∧ rA r f p i ≤ 40) ∧ (r (rX f p + 2 + 2 * i) = lN (rB r f p i) ∧ rB r f p i ≤ 40))
/-- what may be written: fields of the object, rows -/
def mP (F A : List Nat) (a k : Nat) : Prop := (a = 153 ∧ k ∈ F) ∨ a ∈ A
/-- the same memory but for ints and longs at some places -/
def mFr (Pw : Nat → Nat → Prop) (h h' : mH) : Prop := hN h' = hN h ∧ hU h' = hU h ∧ (∀ x, hK h' x = hK h x) ∧ (∀ x y, hR h' x y = hR h x y) ∧ ∀ x y, ¬ Pw x y → hI h' x y = hI h x y ∧ hL h' x y = hL h x y
theorem mFr.rf {Pw : Nat → Nat → Prop} {h : mH} : mFr Pw h h := ⟨rfl, rfl, fun _ => rfl, fun _ _ => rfl, fun _ _ _ => ⟨rfl, rfl⟩⟩
theorem mFr.tr {Pw : Nat → Nat → Prop} {h h1 h2 : mH} (a : mFr Pw h h1) (b : mFr Pw h1 h2) : mFr Pw h h2 := ⟨b.1.trans a.1, b.2.1.trans a.2.1, fun x => (b.2.2.1 x).trans (a.2.2.1 x), fun x y => (b.2.2.2.1 x y).trans (a.2.2.2.1 x y), fun x y q => ⟨(b.2.2.2.2 x y q).1.trans (a.2.2.2.2 x y q).1, (b.2.2.2.2 x y q).2.trans (a.2.2.2.2 x y q).2⟩⟩
theorem mFr.mono {Pw Pw' : Nat → Nat → Prop} {h h1 : mH} (hp : ∀ x y, Pw x y → Pw' x y) (a : mFr Pw h h1) : mFr Pw' h h1 := ⟨a.1, a.2.1, a.2.2.1, a.2.2.2.1, fun x y q => a.2.2.2.2 x y (fun z => q (hp x y z))⟩
theorem mFr.sI {Pw : Nat → Nat → Prop} {h h1 : mH} (a : mFr Pw h h1) {x k : Nat} (v : Int32) (hp : Pw x k) : mFr Pw h (sI h1 x k v) := ⟨a.1, a.2.1, a.2.2.1, a.2.2.2.1, fun y z q => by
  rw [hI_sI, hL_sI, if_neg (fun e => q (by rw [e.1, e.2]; exact hp))]
  exact a.2.2.2.2 y z q⟩
theorem mFr.sL {Pw : Nat → Nat → Prop} {h h1 : mH} (a : mFr Pw h h1) {x k : Nat} (v : Int64) (hp : Pw x k) : mFr Pw h (sL h1 x k v) := ⟨a.1, a.2.1, a.2.2.1, a.2.2.2.1, fun y z q => by
  rw [hI_sL, hL_sL, if_neg (fun e => q (by rw [e.1, e.2]; exact hp))]
  exact a.2.2.2.2 y z q⟩
theorem mFr.O {Pw : Nat → Nat → Prop} {h h1 : mH} (a : mFr Pw h h1) {x c : Nat} (ho : hO h x c) : hO h1 x c := ⟨by rw [a.1]; exact ho.1, by rw [a.2.2.1]; exact ho.2⟩
theorem mFr.A {Pw : Nat → Nat → Prop} {h h1 : mH} (a : mFr Pw h h1) {x c n : Nat} (ho : hA h x c n) : hA h1 x c n := ⟨by rw [a.1]; exact ho.1, by rw [a.2.2.1]; exact ho.2⟩
theorem mFr.s {Pw : Nat → Nat → Prop} {h h1 : mH} (a : mFr Pw h h1) (s : mS h) : mS h1 := ⟨a.O s.1, fun j hj => ⟨by rw [a.2.2.2.1]; exact (s.2 j hj).1, a.A (s.2 j hj).2⟩⟩
theorem mFr.I {Pw : Nat → Nat → Prop} {h h1 : mH} (a : mFr Pw h h1) {x y : Nat} (q : ¬ Pw x y) : hI h1 x y = hI h x y := (a.2.2.2.2 x y q).1
theorem mFr.L {Pw : Nat → Nat → Prop} {h h1 : mH} (a : mFr Pw h h1) {x y : Nat} (q : ¬ Pw x y) : hL h1 x y = hL h x y := (a.2.2.2.2 x y q).2
theorem mFr.Lr {F A : List Nat} {h h1 : mH} (a : mFr (mP F A) h h1) {x : Nat} (q1 : x ≠ 153) (q2 : x ∉ A) : hL h1 x = hL h x := by
  funext y
  exact a.L (fun q => q.elim (fun z => q1 z.1) q2)
theorem mFr.Ir {F A : List Nat} {h h1 : mH} (a : mFr (mP F A) h h1) {x : Nat} (q1 : x ≠ 153) (q2 : x ∉ A) : hI h1 x = hI h x := by
  funext y
  exact a.I (fun q => q.elim (fun z => q1 z.1) q2)
set_option maxRecDepth 20000 in
theorem pX12_pages {h : mH} {Q : Option Value → mH → Prop}  (hm : mS h) (hw : WF (hL h 162)) (hq : Q (some (.int (nI (rP (hL h 162))))) h) : Wp mX12_pages 0 0 0 [some (.ref 153)] [] h Q := by
  refine wp_aload_n dX12_pages_0 rfl rfl ?_
  refine wp_getR dX12_pages_1 lX12_43 rfl (mO hm) (mR_now hm) ?_
  refine wp_iconst (v := (nI 0)) dX12_pages_4 (by decide +kernel) ?_
  refine wp_laldN dX12_pages_5 (mA_now hm) rfl ⟨by omega, by decide⟩ ?_
  refine wp_l2i dX12_pages_6 ?_
  refine wp_ireturn dX12_pages_7 rfl ?_
  rw [hw.1.1, lN_i]
  exact hq
set_option maxRecDepth 20000 in
theorem pX12_tokensOf {h : mH} {Q : Option Value → mH → Prop} {p : Nat} (hm : mS h) (hw : WF (hL h 162)) (hp : p < 6) (hq : Q (some (.int (nI (rT (hL h 162) p)))) h) : Wp mX12_tokensOf 0 0 0 [some (.ref 153), some (.int (nI p))] [] h Q := by
  refine wp_aload_n dX12_tokensOf_0 rfl rfl ?_
  refine wp_getR dX12_tokensOf_1 lX12_43 rfl (mO hm) (mR_now hm) ?_
  refine wp_iconst (v := (nI 1)) dX12_tokensOf_4 (by decide +kernel) ?_
  refine wp_iload_n dX12_tokensOf_5 rfl rfl ?_
  refine wp_iadd dX12_tokensOf_6 ?_
  refine wp_laldN dX12_tokensOf_7 (mA_now hm) (isN_add rfl rfl) ⟨by omega, by decide⟩ ?_
  refine wp_l2i dX12_tokensOf_8 ?_
  refine wp_ireturn dX12_tokensOf_9 rfl ?_
  rw [(hw.2.1 p hp).1, lN_i]
  exact hq
set_option maxRecDepth 20000 in
theorem pX12_wordAt {h : mH} {Q : Option Value → mH → Prop} {p k : Nat} (hm : mS h) (hp : p < 6) (hk : k < 40) (hq : Q (some (.long (rW (hL h 162) p k))) h) : Wp mX12_wordAt 0 0 0 [some (.ref 153), some (.int (nI p)), some (.int (nI k))] [] h Q := by
  refine wp_aload_n dX12_wordAt_0 rfl rfl ?_
  refine wp_getR dX12_wordAt_1 lX12_43 rfl (mO hm) (mR_now hm) ?_
  refine wp_bipush (v := (nI 7)) dX12_wordAt_4 (by decide +kernel) ?_
  refine wp_bipush (v := (nI 40)) dX12_wordAt_6 (by decide +kernel) ?_
  refine wp_iload_n dX12_wordAt_8 rfl rfl ?_
  refine wp_imul dX12_wordAt_9 ?_
  refine wp_iadd dX12_wordAt_10 ?_
  refine wp_iload_n dX12_wordAt_11 rfl rfl ?_
  refine wp_iadd dX12_wordAt_12 ?_
  refine wp_laldN dX12_wordAt_13 (mA_now hm) (isN_add (isN_add rfl (isN_mul rfl rfl)) rfl) ⟨by omega, by decide⟩ ?_
  refine wp_lreturn dX12_wordAt_14 rfl ?_
  exact hq
set_option maxRecDepth 20000 in
theorem pX12_markAt {h : mH} {Q : Option Value → mH → Prop} {f p : Nat} (hq : Q (some (.int (nI (rX f p)))) h) : Wp mX12_markAt 0 0 0 [some (.int (nI f)), some (.int (nI p))] [] h Q := by
  refine wp_sipush (v := (nI 247)) dX12_markAt_0 (by decide +kernel) ?_
  refine wp_bipush (v := (nI 17)) dX12_markAt_3 (by decide +kernel) ?_
  refine wp_bipush (v := (nI 6)) dX12_markAt_5 (by decide +kernel) ?_
  refine wp_iload_n dX12_markAt_7 rfl rfl ?_
  refine wp_imul dX12_markAt_8 ?_
  refine wp_iload_n dX12_markAt_9 rfl rfl ?_
  refine wp_iadd dX12_markAt_10 ?_
  refine wp_imul dX12_markAt_11 ?_
  refine wp_iadd dX12_markAt_12 ?_
  refine wp_ireturn dX12_markAt_13 rfl ?_
  rw [show _ = nI (rX f p) from (isN_add rfl (isN_mul rfl (isN_add (isN_mul rfl rfl) rfl)))]
  exact hq
set_option maxRecDepth 20000 in
theorem pX12_learntAt {h : mH} {Q : Option Value → mH → Prop} {f : Nat} (hq : Q (some (.int (nI (655 + 70 * f)))) h) : Wp mX12_learntAt 0 0 0 [some (.int (nI f))] [] h Q := by
  refine wp_sipush (v := (nI 655)) dX12_learntAt_0 (by decide +kernel) ?_
  refine wp_bipush (v := (nI 70)) dX12_learntAt_3 (by decide +kernel) ?_
  refine wp_iload_n dX12_learntAt_5 rfl rfl ?_
  refine wp_imul dX12_learntAt_6 ?_
  refine wp_iadd dX12_learntAt_7 ?_
  refine wp_ireturn dX12_learntAt_8 rfl ?_
  rw [show _ = nI (655 + 70 * f) from (isN_add rfl (isN_mul rfl rfl))]
  exact hq
set_option maxRecDepth 20000 in
theorem pX12_partsOf {h : mH} {Q : Option Value → mH → Prop} {f p : Nat} (hm : mS h) (hw : WF (hL h 162)) (hf : f < 4) (hp : p < 6) (hq : Q (some (.int (nI (rM (hL h 162) f p)))) h) : Wp mX12_partsOf 1 21 0 [some (.ref 153), some (.int (nI f)), some (.int (nI p))] [] h Q := by
  have hX : rX f p + 17 ≤ 655 := by unfold rX; omega
  refine wp_aload_n dX12_partsOf_0 rfl rfl ?_
  refine wp_getR dX12_partsOf_1 lX12_43 rfl (mO hm) (mR_now hm) ?_
  refine wp_iload_n dX12_partsOf_4 rfl rfl ?_
  refine wp_iload_n dX12_partsOf_5 rfl rfl ?_
  refine wp_cS2 0 0 [some _, some _] dX12_partsOf_6 tX12_markAt sX12_markAt lX12_295 ⟨by decide, by decide⟩ (Nat.le_of_ble_eq_true rfl) (Nat.le_of_ble_eq_true rfl) rfl ?_
  refine pX12_markAt ?_
  intro _ _
  refine wp_laldN dX12_partsOf_9 (mA_now hm) rfl ⟨by omega, by decide⟩ ?_
  refine wp_l2i dX12_partsOf_10 ?_
  refine wp_ireturn dX12_partsOf_11 rfl ?_
  rw [(hw.2.2 f p hf hp).1.1, lN_i]
  exact hq
set_option maxRecDepth 20000 in
theorem pX12_fromOf {h : mH} {Q : Option Value → mH → Prop} {f p i : Nat} (hm : mS h) (hw : WF (hL h 162)) (hf : f < 4) (hp : p < 6) (hi : i < 8) (hq : Q (some (.int (nI (rA (hL h 162) f p i)))) h) : Wp mX12_fromOf 1 21 0 [some (.ref 153), some (.int (nI f)), some (.int (nI p)), some (.int (nI i))] [] h Q := by
  have hX : rX f p + 17 ≤ 655 := by unfold rX; omega
  refine wp_aload_n dX12_fromOf_0 rfl rfl ?_
  refine wp_getR dX12_fromOf_1 lX12_43 rfl (mO hm) (mR_now hm) ?_
  refine wp_iload_n dX12_fromOf_4 rfl rfl ?_
  refine wp_iload_n dX12_fromOf_5 rfl rfl ?_
  refine wp_cS2 0 0 [some _, some _] dX12_fromOf_6 tX12_markAt sX12_markAt lX12_295 ⟨by decide, by decide⟩ (Nat.le_of_ble_eq_true rfl) (Nat.le_of_ble_eq_true rfl) rfl ?_
  refine pX12_markAt ?_
  intro _ _
  refine wp_iconst (v := (nI 1)) dX12_fromOf_9 (by decide +kernel) ?_
  refine wp_iadd dX12_fromOf_10 ?_
  refine wp_iconst (v := (nI 2)) dX12_fromOf_11 (by decide +kernel) ?_
  refine wp_iload_n dX12_fromOf_12 rfl rfl ?_
  refine wp_imul dX12_fromOf_13 ?_
  refine wp_iadd dX12_fromOf_14 ?_
  refine wp_laldN dX12_fromOf_15 (mA_now hm) (isN_add (isN_add rfl rfl) (isN_mul rfl rfl)) ⟨by omega, by decide⟩ ?_
  refine wp_l2i dX12_fromOf_16 ?_
  refine wp_ireturn dX12_fromOf_17 rfl ?_
  rw [((hw.2.2 f p hf hp).2 i hi).1.1, lN_i]
  exact hq
set_option maxRecDepth 20000 in
theorem pX12_toOf {h : mH} {Q : Option Value → mH → Prop} {f p i : Nat} (hm : mS h) (hw : WF (hL h 162)) (hf : f < 4) (hp : p < 6) (hi : i < 8) (hq : Q (some (.int (nI (rB (hL h 162) f p i)))) h) : Wp mX12_toOf 1 21 0 [some (.ref 153), some (.int (nI f)), some (.int (nI p)), some (.int (nI i))] [] h Q := by
  have hX : rX f p + 17 ≤ 655 := by unfold rX; omega
  refine wp_aload_n dX12_toOf_0 rfl rfl ?_
  refine wp_getR dX12_toOf_1 lX12_43 rfl (mO hm) (mR_now hm) ?_
  refine wp_iload_n dX12_toOf_4 rfl rfl ?_
  refine wp_iload_n dX12_toOf_5 rfl rfl ?_
  refine wp_cS2 0 0 [some _, some _] dX12_toOf_6 tX12_markAt sX12_markAt lX12_295 ⟨by decide, by decide⟩ (Nat.le_of_ble_eq_true rfl) (Nat.le_of_ble_eq_true rfl) rfl ?_
  refine pX12_markAt ?_
  intro _ _
  refine wp_iconst (v := (nI 2)) dX12_toOf_9 (by decide +kernel) ?_
  refine wp_iadd dX12_toOf_10 ?_
  refine wp_iconst (v := (nI 2)) dX12_toOf_11 (by decide +kernel) ?_
  refine wp_iload_n dX12_toOf_12 rfl rfl ?_
  refine wp_imul dX12_toOf_13 ?_
  refine wp_iadd dX12_toOf_14 ?_
  refine wp_laldN dX12_toOf_15 (mA_now hm) (isN_add (isN_add rfl rfl) (isN_mul rfl rfl)) ⟨by omega, by decide⟩ ?_
  refine wp_l2i dX12_toOf_16 ?_
  refine wp_ireturn dX12_toOf_17 rfl ?_
  rw [((hw.2.2 f p hf hp).2 i hi).2.1, lN_i]
  exact hq
set_option maxRecDepth 20000 in
theorem pX12_learntRules {h : mH} {Q : Option Value → mH → Prop} {f : Nat} (hm : mS h) (hf : f < 4) (hq : Q (some (.int (hL h 162 (655 + 70 * f + 1)).toInt32)) h) : Wp mX12_learntRules 1 20 0 [some (.ref 153), some (.int (nI f))] [] h Q := by
  refine wp_aload_n dX12_learntRules_0 rfl rfl ?_
  refine wp_getR dX12_learntRules_1 lX12_43 rfl (mO hm) (mR_now hm) ?_
  refine wp_iload_n dX12_learntRules_4 rfl rfl ?_
  refine wp_cS1 0 0 [some _] dX12_learntRules_5 tX12_learntAt sX12_learntAt lX12_443 ⟨by decide, by decide⟩ (Nat.le_of_ble_eq_true rfl) (Nat.le_of_ble_eq_true rfl) rfl ?_
  refine pX12_learntAt ?_
  intro _ _
  refine wp_iconst (v := (nI 1)) dX12_learntRules_8 (by decide +kernel) ?_
  refine wp_iadd dX12_learntRules_9 ?_
  refine wp_laldN dX12_learntRules_10 (mA_now hm) (isN_add rfl rfl) ⟨by omega, by decide⟩ ?_
  refine wp_l2i dX12_learntRules_11 ?_
  refine wp_ireturn dX12_learntRules_12 rfl ?_
  exact hq
set_option maxRecDepth 20000 in
theorem pX12_learntItem {h : mH} {Q : Option Value → mH → Prop} {f k w : Nat} (hm : mS h) (hf : f < 4) (hk : k < 6) (hw : w < 4) (hq : Q (some (.int (hL h 162 (655 + 70 * f + 2 + 4 * k + w)).toInt32)) h) : Wp mX12_learntItem 1 20 0 [some (.ref 153), some (.int (nI f)), some (.int (nI k)), some (.int (nI w))] [] h Q := by
  refine wp_aload_n dX12_learntItem_0 rfl rfl ?_
  refine wp_getR dX12_learntItem_1 lX12_43 rfl (mO hm) (mR_now hm) ?_
  refine wp_iload_n dX12_learntItem_4 rfl rfl ?_
  refine wp_cS1 0 0 [some _] dX12_learntItem_5 tX12_learntAt sX12_learntAt lX12_443 ⟨by decide, by decide⟩ (Nat.le_of_ble_eq_true rfl) (Nat.le_of_ble_eq_true rfl) rfl ?_
  refine pX12_learntAt ?_
  intro _ _
  refine wp_iconst (v := (nI 2)) dX12_learntItem_8 (by decide +kernel) ?_
  refine wp_iadd dX12_learntItem_9 ?_
  refine wp_iconst (v := (nI 4)) dX12_learntItem_10 (by decide +kernel) ?_
  refine wp_iload_n dX12_learntItem_11 rfl rfl ?_
  refine wp_imul dX12_learntItem_12 ?_
  refine wp_iadd dX12_learntItem_13 ?_
  refine wp_iload_n dX12_learntItem_14 rfl rfl ?_
  refine wp_iadd dX12_learntItem_15 ?_
  refine wp_laldN dX12_learntItem_16 (mA_now hm) (isN_add (isN_add (isN_add rfl rfl) (isN_mul rfl rfl)) rfl) ⟨by omega, by decide⟩ ?_
  refine wp_l2i dX12_learntItem_17 ?_
  refine wp_ireturn dX12_learntItem_18 rfl ?_
  exact hq
set_option maxRecDepth 20000 in
theorem pX12_shapeOf {h : mH} {Q : Option Value → mH → Prop} {f w : Nat} (hm : mS h) (hf : f < 4) (hw : w < 44) (hq : Q (some (.int (hL h 162 (655 + 70 * f + 26 + w)).toInt32)) h) : Wp mX12_shapeOf 1 20 0 [some (.ref 153), some (.int (nI f)), some (.int (nI w))] [] h Q := by
  refine wp_aload_n dX12_shapeOf_0 rfl rfl ?_
  refine wp_getR dX12_shapeOf_1 lX12_43 rfl (mO hm) (mR_now hm) ?_
  refine wp_iload_n dX12_shapeOf_4 rfl rfl ?_
  refine wp_cS1 0 0 [some _] dX12_shapeOf_5 tX12_learntAt sX12_learntAt lX12_443 ⟨by decide, by decide⟩ (Nat.le_of_ble_eq_true rfl) (Nat.le_of_ble_eq_true rfl) rfl ?_
  refine pX12_learntAt ?_
  intro _ _
  refine wp_bipush (v := (nI 26)) dX12_shapeOf_8 (by decide +kernel) ?_
  refine wp_iadd dX12_shapeOf_10 ?_
  refine wp_iload_n dX12_shapeOf_11 rfl rfl ?_
  refine wp_iadd dX12_shapeOf_12 ?_
  refine wp_laldN dX12_shapeOf_13 (mA_now hm) (isN_add (isN_add rfl rfl) rfl) ⟨by omega, by decide⟩ ?_
  refine wp_l2i dX12_shapeOf_14 ?_
  refine wp_ireturn dX12_shapeOf_15 rfl ?_
  exact hq
set_option maxRecDepth 20000 in
theorem pX12_isLearnt {h : mH} {Q : Option Value → mH → Prop} {f : Nat} (hm : mS h) (hf : f < 4) (ht : hL h 162 (655 + 70 * f) = 1 → Q (some (.int (nI 1))) h) (hf0 : ¬ hL h 162 (655 + 70 * f) = 1 → Q (some (.int (nI 0))) h) : Wp mX12_isLearnt 1 20 0 [some (.ref 153), some (.int (nI f))] [] h Q := by
  refine wp_aload_n dX12_isLearnt_0 rfl rfl ?_
  refine wp_getR dX12_isLearnt_1 lX12_43 rfl (mO hm) (mR_now hm) ?_
  refine wp_iload_n dX12_isLearnt_4 rfl rfl ?_
  refine wp_cS1 0 0 [some _] dX12_isLearnt_5 tX12_learntAt sX12_learntAt lX12_443 ⟨by decide, by decide⟩ (Nat.le_of_ble_eq_true rfl) (Nat.le_of_ble_eq_true rfl) rfl ?_
  refine pX12_learntAt ?_
  intro _ _
  refine wp_laldN dX12_isLearnt_8 (mA_now hm) rfl ⟨by omega, by decide⟩ ?_
  refine wp_lconst (v := 1) dX12_isLearnt_9 (by decide +kernel) ?_
  refine wp_lc_ne dX12_isLearnt_10 dX12_isLearnt_11 (fun c1 => ?_) (fun c1 => ?_)
  · refine wp_iconst (v := (nI 0)) dX12_isLearnt_18 (by decide +kernel) ?_
    refine wp_zreturn dX12_isLearnt_19 rfl (Or.inl rfl) ?_
    exact hf0 c1
  · refine wp_iconst (v := (nI 1)) dX12_isLearnt_14 (by decide +kernel) ?_
    refine wp_goto dX12_isLearnt_15 ?_
    refine wp_zreturn dX12_isLearnt_19 rfl (Or.inr rfl) ?_
    exact ht c1
