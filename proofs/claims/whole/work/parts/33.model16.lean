/-! ===== lines of a text ===== -/
def tWf : Int64 := 0x6669656c64
def tWp : Int64 := 0x70616765
def tWo : Int64 := 0x6f66
def tWm : Int64 := 0x6d616e79
def tWe : Int64 := 0x656e64
def tWs : Int64 := 59
def isNm (tb : Nat → Int32) (N a : Nat) : Bool := decide (tS tb N a = 1 ∧ tE tb N a - tP tb N a ≤ 7 ∧ ¬ tW tb N a = tWf ∧ ¬ tW tb N a = tWp ∧ ¬ tW tb N a = tWo ∧ ¬ tW tb N a = tWm ∧ ¬ tW tb N a = tWe)
def isWd (tb : Nat → Int32) (N a : Nat) (w : Int64) : Bool := decide (tS tb N a = 1 ∧ tW tb N a = w)
def isSm (tb : Nat → Int32) (N a : Nat) : Bool := decide (tS tb N a = 3 ∧ tW tb N a = tWs)
def isPT (tb : Nat → Int32) (N a : Nat) : Bool := decide ((tS tb N a = 1 ∧ ¬ tW tb N a = tWe) ∨ tS tb N a = 2 ∨ (tS tb N a = 3 ∧ ¬ tW tb N a = tWs))
def bd (tb : Nat → Int32) (N k a : Nat) : Nat := if tS tb N a = 4 then 1 else k
def lS (tb : Nat → Int32) (N a : Nat) (p m : Int32) : Except (Nat × Nat) (Nat × Int32 × Int32) := if isSm tb N a = true then .ok (tE tb N a, p, m) else .error (bd tb N 2 a, tP tb N a)
def lM (tb : Nat → Int32) (N a : Nat) (p : Int32) : Except (Nat × Nat) (Nat × Int32 × Int32) := if isWd tb N a tWm = true then lS tb N (tE tb N a) p 1 else lS tb N a p 0
def fdN (nm : Nat → Int64) (f : Nat) (w : Int64) : Option Nat := fst1 (fun k => decide (nm k = w)) 0 f
def lO (tb : Nat → Int32) (N a : Nat) (nm : Nat → Int64) (mn : Nat → Int32) (f : Nat) : Except (Nat × Nat) (Nat × Int32 × Int32) := if isNm tb N a = true then (match fdN nm f (tW tb N a) with
    | some p => if mn p = 0 then lM tb N (tE tb N a) (nI p) else .error (3, tP tb N a)
    | none => .error (3, tP tb N a)) else .error (bd tb N 2 a, tP tb N a)
/-- a line of a field, from its first word on -/
def lF (tb : Nat → Int32) (N a : Nat) (nm : Nat → Int64) (mn : Nat → Int32) (f : Nat) : Except (Nat × Nat) (Nat × Int32 × Int32) := if isNm tb N (tE tb N a) = true then (match fdN nm f (tW tb N (tE tb N a)) with
    | some _ => .error (3, tP tb N (tE tb N a))
    | none => if isWd tb N (tE tb N (tE tb N a)) tWo = true then lO tb N (tE tb N (tE tb N (tE tb N a))) nm mn f else lM tb N (tE tb N (tE tb N a)) (-1)) else .error (bd tb N 2 (tE tb N a), tP tb N (tE tb N a))
def psT (tb : Nat → Int32) (N a : Nat) : Nat → Nat
  | 0 => tE tb N a
  | k + 1 => tE tb N (psT tb N a k)
def pcT (tb : Nat → Int32) (N a : Nat) : Nat := rnF (fun k => isPT tb N (psT tb N a k)) 40 0
/-- a line of a page -/
def lP (tb : Nat → Int32) (N a : Nat) : Except (Nat × Nat) (Nat × Nat) := if pcT tb N a = 0 then .error (bd tb N 2 (psT tb N a (pcT tb N a)), tP tb N (psT tb N a (pcT tb N a))) else if isWd tb N (psT tb N a (pcT tb N a)) tWe = true then (if isSm tb N (tE tb N (psT tb N a (pcT tb N a))) = true then .ok (tE tb N (tE tb N (psT tb N a (pcT tb N a))), pcT tb N a) else .error (bd tb N 2 (tE tb N (psT tb N a (pcT tb N a))), tP tb N (tE tb N (psT tb N a (pcT tb N a))))) else .error (bd tb N 2 (psT tb N a (pcT tb N a)), tP tb N (psT tb N a (pcT tb N a)))
def upI (r : Nat → Int32) (k : Nat) (v : Int32) : Nat → Int32 := fun y => if y = k then v else r y
theorem upI_upI (r : Nat → Int32) (k : Nat) (v w : Int32) : upI (upI r k v) k w = upI r k w := by
  funext y
  unfold upI
  by_cases e : y = k
  · rw [if_pos e, if_pos e]
  · rw [if_neg e, if_neg e, if_neg e]
theorem hI_up (h : mH) (a k : Nat) (v : Int32) : hI (sI h a k v) a = upI (hI h a) k v := by
  funext y
  rw [hI_sI]
  unfold upI
  by_cases e : y = k
  · rw [if_pos ⟨rfl, e⟩, if_pos e]
  · rw [if_neg (fun z => e z.2), if_neg e]
theorem hL_up (h : mH) (a k : Nat) (v : Int64) : hL (sL h a k v) a = up1 (hL h a) k v := by
  funext y
  rw [hL_sL]
  unfold up1
  by_cases e : y = k
  · rw [if_pos ⟨rfl, e⟩, if_pos e]
  · rw [if_neg (fun z => e z.2), if_neg e]
theorem tP_le {tb : Nat → Int32} {N a : Nat} (h : a ≤ N) : a ≤ tP tb N a ∧ tP tb N a ≤ N := rn_ge h
theorem rnF_pos {P : Nat → Bool} {m a : Nat} (h : P a = true) (hm : 0 < m) : a < rnF P m a := by
  cases m with
  | zero => omega
  | succ m =>
    unfold rnF
    rw [if_pos h]
    have := rnF_ge (P := P) m (a + 1)
    omega
theorem tE_le {tb : Nat → Int32} {N a : Nat} (h : a ≤ N) : a ≤ tE tb N a ∧ tE tb N a ≤ N ∧ (tS tb N a ≠ 0 → a < tE tb N a) := by
  have h1 := tP_le (tb := tb) h
  have h2 : tE tb N a ≤ N ∧ (tP tb N a < N → tP tb N a < tE tb N a) ∧ tP tb N a ≤ tE tb N a := by
    unfold tE
    split
    · omega
    · rename_i hN
      split
      · rename_i hL
        have h3 := rn_ge (P := isLt) (tb := tb) (N := N) (a := tP tb N a) (by omega)
        have h4 : tP tb N a < rn isLt tb N (tP tb N a) := rnF_pos (P := fun k => isLt (hr tb N k)) (by rw [hr_lt (by omega)]; exact hL) (by omega)
        omega
      · split
        · rename_i hL
          have h3 := rn_ge (P := isDg) (tb := tb) (N := N) (a := tP tb N a) (by omega)
          have h4 : tP tb N a < rn isDg tb N (tP tb N a) := rnF_pos (P := fun k => isDg (hr tb N k)) (by rw [hr_lt (by omega)]; exact hL) (by omega)
          omega
        · omega
  refine ⟨by omega, h2.1, fun q => ?_⟩
  have : tP tb N a < N := by
    rcases Nat.lt_or_ge (tP tb N a) N with z | z
    · exact z
    · exfalso
      apply q
      unfold tS
      rw [if_pos z]
  omega
theorem tS_le {tb : Nat → Int32} {N a : Nat} : tS tb N a ≤ 4 := by
  unfold tS
  repeat' split
  all_goals omega
/-- all is well so far; the token from a on is read -/
def pG (h : mH) (tb : Nat → Int32) (N a : Nat) : Prop := tkH h tb N (tE tb N a) ∧ tokC h tb N a ∧ hI h 153 7 = nI 0 ∧ N ≤ 900 ∧ a ≤ N ∧ byt tb
/-- a fault is found -/
def pB (h : mH) (fa pl : Nat) : Prop := mS h ∧ hI h 153 7 = nI fa ∧ 0 < fa ∧ fa ≤ 3 ∧ hI h 153 8 = nI pl
theorem pG.fr {h h1 : mH} {tb : Nat → Int32} {N a : Nat} {F A : List Nat} (q : pG h tb N a) (f : mFr (mP F A) h h1) (q1 : 2 ∉ F ∧ 3 ∉ F ∧ 4 ∉ F ∧ 5 ∉ F ∧ 6 ∉ F ∧ 7 ∉ F ∧ 11 ∉ F) (q2 : 153 ∉ A ∧ 154 ∉ A) : pG h1 tb N a :=
  ⟨q.1.fr f ⟨q1.1, q1.2.1⟩ q2, ⟨(f.fI 4 q1.2.2.1 q2.1).trans q.2.1.1, (f.fI 5 q1.2.2.2.1 q2.1).trans q.2.1.2.1, fun z => (f.fI 6 q1.2.2.2.2.1 q2.1).trans (q.2.1.2.2.1 z), (f.fL 11 q1.2.2.2.2.2.2 q2.1).trans q.2.1.2.2.2⟩, (f.fI 7 q1.2.2.2.2.2.1 q2.1).trans q.2.2.1, q.2.2.2⟩
theorem pB.fr {h h1 : mH} {fa pl : Nat} {F A : List Nat} (q : pB h fa pl) (f : mFr (mP F A) h h1) (q1 : 7 ∉ F ∧ 8 ∉ F) (q2 : 153 ∉ A) : pB h1 fa pl := ⟨f.s q.1, (f.fI 7 q1.1 q2).trans q.2.1, q.2.2.1, q.2.2.2.1, (f.fI 8 q1.2 q2).trans q.2.2.2.2⟩
theorem bd_le {tb : Nat → Int32} {N k a : Nat} (h : 0 < k ∧ k ≤ 3) : 0 < bd tb N k a ∧ bd tb N k a ≤ 3 := by
  unfold bd
  split <;> omega
abbrev pwL : Nat → Nat → Prop := mP [3, 4, 5, 6, 7, 8, 11, 19, 20] [155, 156, 157, 158, 160]
theorem lt_sp {tb : Nat → Int32} {N k : Nat} (h : hr tb N k = nI 32 ∨ hr tb N k = nI 10) : k < N := by
  rcases Nat.lt_or_ge k N with q | q
  · exact q
  · rw [hr_ge q] at h
    exact absurd h (by decide +kernel)
set_option maxRecDepth 20000 in
theorem pX12_goOn0 {h : mH} {Q : Option Value → mH → Prop} {tb : Nat → Int32} {N a : Nat} (ht : tkH h tb N a) (h7 : hI h 153 7 = nI 0) (hN : N ≤ 900) (ha : a ≤ N) (hb : byt tb) (hq : ∀ h', mFr (mP [3, 4, 5, 6, 11] []) h h' → pG h' tb N a → Q none h') : Wp mX12_goOn 1 21 0 [some (.ref 153), none, none] [] h Q := by
  have hloop : ∀  (n : Nat) (k : Nat) (h1 : mH), (k ≤ N) → (a ≤ k) → (mFr (mP [3, 4, 5, 6, 11] []) h h1) → (hI h1 153 3 = nI k) → (rnF (fun k => isSp (hr tb N k)) (N - k) k = rn isSp tb N a) → (N < k + n) → Wp mX12_goOn 1 21 0 [some (.ref 153), none, none] [] h1 Q := by
    intro n
    induction n with
    | zero => intros; omega
    | succ n ih =>
      intro k h1 hk hka hf1 hat he hmz
      have tk1 : tkH h1 tb N k := ⟨hf1.s ht.1, (hf1.fI 2 (by decide) (by decide)).trans ht.2.1, (hf1.Ir (by decide) (by decide)).trans ht.2.2.1, hat⟩
      refine wp_aload_n dX12_goOn_0 rfl rfl ?_
      refine wp_iconst (v := (nI 0)) dX12_goOn_1 (by decide +kernel) ?_
      refine wp_cV1 0 0 [some _, some _] dX12_goOn_2 tX12_here rfl (by decide) nX12_here vX12_here lX12_157 ⟨by decide, by decide⟩ (Nat.le_of_ble_eq_true rfl) (mO tk1.1) (Nat.le_of_ble_eq_true rfl) rfl ?_
      refine pX12_here tk1 hN (by omega) ?_
      intro _ _
      refine wp_bipush (v := (nI 32)) dX12_goOn_5 (by decide +kernel) ?_
      refine wp_icmp_eq dX12_goOn_7 (fun c1 => ?_) (fun c1 => ?_)
      · refine wp_aload_n dX12_goOn_20 rfl rfl ?_
        refine wp_dup dX12_goOn_21 rfl ?_
        refine wp_getIV dX12_goOn_22 lX12_151 rfl (mO tk1.1) tk1.2.2.2 ?_
        refine wp_iconst (v := (nI 1)) dX12_goOn_25 (by decide +kernel) ?_
        refine wp_iadd dX12_goOn_26 ?_
        refine wp_putIN dX12_goOn_27 lX12_151 rfl rfl (Or.inl rfl) (mO tk1.1) (isN_add rfl rfl) ?_
        refine wp_goto dX12_goOn_30 ?_
        refine ih (k + 1) _ (by have := lt_sp (by first | exact Or.inl (by assumption) | exact Or.inr (by assumption) : hr tb N (k + 0) = nI 32 ∨ hr tb N (k + 0) = nI 10); omega) (by omega) ((hf1.sI _ (Or.inl ⟨rfl, by decide⟩))) rfl ?_ (by omega)
        have hkN := lt_sp (by first | exact Or.inl (by assumption) | exact Or.inr (by assumption) : hr tb N (k + 0) = nI 32 ∨ hr tb N (k + 0) = nI 10)
        rw [show N - k = (N - (k + 1)) + 1 by omega] at he
        unfold rnF at he
        rw [if_pos (show isSp (hr tb N k) = true from decide_eq_true (by first | exact Or.inl (by assumption) | exact Or.inr (by assumption)))] at he
        exact he
      · refine wp_aload_n dX12_goOn_10 rfl rfl ?_
        refine wp_iconst (v := (nI 0)) dX12_goOn_11 (by decide +kernel) ?_
        refine wp_cV1 0 0 [some _, some _] dX12_goOn_12 tX12_here rfl (by decide) nX12_here vX12_here lX12_157 ⟨by decide, by decide⟩ (Nat.le_of_ble_eq_true rfl) (mO tk1.1) (Nat.le_of_ble_eq_true rfl) rfl ?_
        refine pX12_here tk1 hN (by omega) ?_
        intro _ _
        refine wp_bipush (v := (nI 10)) dX12_goOn_15 (by decide +kernel) ?_
        refine wp_icmp_ne dX12_goOn_17 (fun c2 => ?_) (fun c2 => ?_)
        · refine wp_aload_n dX12_goOn_33 rfl rfl ?_
          refine wp_aload_n dX12_goOn_34 rfl rfl ?_
          refine wp_getIV dX12_goOn_35 lX12_151 rfl (mO tk1.1) tk1.2.2.2 ?_
          refine wp_putI dX12_goOn_38 lX12_161 rfl (Or.inl rfl) (mO tk1.1) rfl rfl ?_
          refine wp_iconst (v := (nI 0)) dX12_goOn_41 (by decide +kernel) ?_
          refine wp_istore_n (ls1 := [_, some _, _]) dX12_goOn_42 rfl (by decide) rfl ?_
          refine wp_aload_n dX12_goOn_43 rfl rfl ?_
          refine wp_lconst (v := 0) dX12_goOn_44 (by decide +kernel) ?_
          refine wp_putL dX12_goOn_45 lX12_164 rfl (Or.inl rfl) (mO tk1.1) ?_
          refine goOn_t (k := k) (a := a) ⟨tk1.1, tk1.2.1, tk1.2.2.1, tk1.2.2.2⟩ hN (by omega) hb rfl rfl ?_ (fun h9 f9 e9 c9 => hq h9 ((hf1.sI _ (Or.inl ⟨rfl, by decide⟩)).sL _ (Or.inl ⟨rfl, by decide⟩) |>.tr (f9.up (by decide) (by decide))) ?_)
          · show rn isSp tb N a = k
            rw [← he]
            cases h9 : N - k with
            | zero => rfl
            | succ j =>
              unfold rnF
              rw [if_neg (show ¬ isSp (hr tb N k) = true from fun q9 => (of_decide_eq_true q9).elim (by assumption) (by assumption))]
          · have g9 := ((hf1.sI _ (Or.inl ⟨rfl, by decide⟩)).sL _ (Or.inl ⟨rfl, by decide⟩) |>.tr (f9.up (by decide) (by decide)) : mFr (mP [3, 4, 5, 6, 11] []) h h9)
            exact ⟨⟨g9.s ht.1, (g9.fI 2 (by decide) (by decide)).trans ht.2.1, (g9.Ir (by decide) (by decide)).trans ht.2.2.1, e9⟩, c9, (g9.fI 7 (by decide) (by decide)).trans h7, hN, ha, hb⟩
        · refine wp_aload_n dX12_goOn_20 rfl rfl ?_
          refine wp_dup dX12_goOn_21 rfl ?_
          refine wp_getIV dX12_goOn_22 lX12_151 rfl (mO tk1.1) tk1.2.2.2 ?_
          refine wp_iconst (v := (nI 1)) dX12_goOn_25 (by decide +kernel) ?_
          refine wp_iadd dX12_goOn_26 ?_
          refine wp_putIN dX12_goOn_27 lX12_151 rfl rfl (Or.inl rfl) (mO tk1.1) (isN_add rfl rfl) ?_
          refine wp_goto dX12_goOn_30 ?_
          refine ih (k + 1) _ (by have := lt_sp (by first | exact Or.inl (by assumption) | exact Or.inr (by assumption) : hr tb N (k + 0) = nI 32 ∨ hr tb N (k + 0) = nI 10); omega) (by omega) ((hf1.sI _ (Or.inl ⟨rfl, by decide⟩))) rfl ?_ (by omega)
          have hkN := lt_sp (by first | exact Or.inl (by assumption) | exact Or.inr (by assumption) : hr tb N (k + 0) = nI 32 ∨ hr tb N (k + 0) = nI 10)
          rw [show N - k = (N - (k + 1)) + 1 by omega] at he
          unfold rnF at he
          rw [if_pos (show isSp (hr tb N k) = true from decide_eq_true (by first | exact Or.inl (by assumption) | exact Or.inr (by assumption)))] at he
          exact he
  exact hloop (N + 1) a h ha (Nat.le_refl _) mFr.rf ht.2.2.2 rfl (by omega)
theorem pX12_goOn {h : mH} {Q : Option Value → mH → Prop} {tb : Nat → Int32} {N a : Nat} (hg : pG h tb N a) (hq : ∀ h', mFr (mP [3, 4, 5, 6, 11] []) h h' → pG h' tb N (tE tb N a) → Q none h') : Wp mX12_goOn 1 21 0 [some (.ref 153), none, none] [] h Q :=
  pX12_goOn0 hg.1 hg.2.2.1 hg.2.2.2.1 (tE_le hg.2.2.2.2.1).2.1 hg.2.2.2.2.2 hq
set_option maxRecDepth 20000 in
theorem pX12_wrong {h : mH} {Q : Option Value → mH → Prop} {tb : Nat → Int32} {N a k : Nat} (hg : pG h tb N a) (hk : 0 < k ∧ k ≤ 3) (hq : ∀ h', mFr (mP [7, 8] []) h h' → pB h' (bd tb N k a) (tP tb N a) → Q none h') : Wp mX12_wrong 0 0 0 [some (.ref 153), some (.int (nI k))] [] h Q := by
  refine wp_aload_n dX12_wrong_0 rfl rfl ?_
  refine wp_getIV dX12_wrong_1 lX12_184 rfl (mO hg.1.1) hg.2.2.1 ?_
  refine wp_if_le dX12_wrong_4 (fun _ => ?_) (fun q => absurd q (by decide +kernel))
  refine wp_aload_n dX12_wrong_8 rfl rfl ?_
  refine wp_aload_n dX12_wrong_9 rfl rfl ?_
  refine wp_getIV dX12_wrong_10 lX12_168 rfl (mO hg.1.1) hg.2.1.2.1 ?_
  refine wp_iconst (v := (nI 4)) dX12_wrong_13 (by decide +kernel) ?_
  refine wp_icmp_neN dX12_wrong_14 rfl rfl ⟨by have := tS_le (tb := tb) (N := N) (a := a); omega, by decide⟩ (fun c2 => ?_) (fun c2 => ?_)
  · refine wp_iload_n dX12_wrong_21 rfl rfl ?_
    refine wp_putI dX12_wrong_22 lX12_184 rfl (Or.inl rfl) (mO hg.1.1) rfl rfl ?_
    refine wp_aload_n dX12_wrong_25 rfl rfl ?_
    refine wp_aload_n dX12_wrong_26 rfl rfl ?_
    refine wp_getIV dX12_wrong_27 lX12_161 rfl (mO hg.1.1) hg.2.1.1 ?_
    refine wp_putI dX12_wrong_30 lX12_13 rfl (Or.inl rfl) (mO hg.1.1) rfl rfl ?_
    refine wp_vreturn dX12_wrong_33 rfl ?_
    refine hq _ ((mFr.rf.sI _ (Or.inl ⟨rfl, by decide⟩)).sI _ (Or.inl ⟨rfl, by decide⟩)) ⟨hg.1.1, ?_, (bd_le ⟨hk.1, hk.2⟩).1, (bd_le ⟨hk.1, hk.2⟩).2, rfl⟩
    unfold bd
    first | (rw [if_pos (by assumption)]; rfl) | (rw [if_neg (by assumption)]; rfl)
  · refine wp_iconst (v := (nI 1)) dX12_wrong_17 (by decide +kernel) ?_
    refine wp_goto dX12_wrong_18 ?_
    refine wp_putI dX12_wrong_22 lX12_184 rfl (Or.inl rfl) (mO hg.1.1) rfl rfl ?_
    refine wp_aload_n dX12_wrong_25 rfl rfl ?_
    refine wp_aload_n dX12_wrong_26 rfl rfl ?_
    refine wp_getIV dX12_wrong_27 lX12_161 rfl (mO hg.1.1) hg.2.1.1 ?_
    refine wp_putI dX12_wrong_30 lX12_13 rfl (Or.inl rfl) (mO hg.1.1) rfl rfl ?_
    refine wp_vreturn dX12_wrong_33 rfl ?_
    refine hq _ ((mFr.rf.sI _ (Or.inl ⟨rfl, by decide⟩)).sI _ (Or.inl ⟨rfl, by decide⟩)) ⟨hg.1.1, ?_, (bd_le ⟨hk.1, hk.2⟩).1, (bd_le ⟨hk.1, hk.2⟩).2, rfl⟩
    unfold bd
    first | (rw [if_pos (by assumption)]; rfl) | (rw [if_neg (by assumption)]; rfl)
set_option maxRecDepth 20000 in
theorem pX12_wrongB {h : mH} {Q : Option Value → mH → Prop} {fa pl k : Nat} (hb : pB h fa pl) (hq : Q none h) : Wp mX12_wrong 0 0 0 [some (.ref 153), some (.int (nI k))] [] h Q := by
  refine wp_aload_n dX12_wrong_0 rfl rfl ?_
  refine wp_getIV dX12_wrong_1 lX12_184 rfl (mO hb.1) hb.2.1 ?_
  refine wp_if_leN dX12_wrong_4 rfl (by have := hb.2.2.2.1; omega) (fun q9 => absurd q9 (by have := hb.2.2.1; omega)) (fun _ => ?_)
  refine wp_vreturn dX12_wrong_7 rfl ?_
  exact hq
set_option maxRecDepth 20000 in
theorem pX12_isWord {h : mH} {Q : Option Value → mH → Prop} {tb : Nat → Int32} {N a : Nat} {w : Int64} (hg : pG h tb N a) (ht : isWd tb N a w = true → Q (some (.int (nI 1))) h) (hf : isWd tb N a w = false → Q (some (.int (nI 0))) h) : Wp mX12_isWord 0 0 0 [some (.ref 153), some (.long w), none] [] h Q := by
  refine wp_aload_n dX12_isWord_0 rfl rfl ?_
  refine wp_getIV dX12_isWord_1 lX12_184 rfl (mO hg.1.1) hg.2.2.1 ?_
  refine wp_if_ne dX12_isWord_4 (fun q => absurd q (by decide +kernel)) (fun _ => ?_)
  refine wp_aload_n dX12_isWord_7 rfl rfl ?_
  refine wp_getIV dX12_isWord_8 lX12_168 rfl (mO hg.1.1) hg.2.1.2.1 ?_
  refine wp_iconst (v := (nI 1)) dX12_isWord_11 (by decide +kernel) ?_
  refine wp_icmp_neN dX12_isWord_12 rfl rfl ⟨by have := tS_le (tb := tb) (N := N) (a := a); omega, by decide⟩ (fun c2 => ?_) (fun c2 => ?_)
  · refine wp_iconst (v := (nI 0)) dX12_isWord_28 (by decide +kernel) ?_
    refine wp_zreturn dX12_isWord_29 rfl (Or.inl rfl) ?_
    refine hf (decide_eq_false (fun q9 => ?_))
    first | exact absurd q9.1 (by assumption) | exact absurd q9.2 (by assumption)
  · refine wp_aload_n dX12_isWord_15 rfl rfl ?_
    refine wp_getLV dX12_isWord_16 lX12_164 rfl (mO hg.1.1) hg.2.1.2.2.2 ?_
    refine wp_lload_n dX12_isWord_19 rfl rfl ?_
    refine wp_lc_ne dX12_isWord_20 dX12_isWord_21 (fun c3 => ?_) (fun c3 => ?_)
    · refine wp_iconst (v := (nI 0)) dX12_isWord_28 (by decide +kernel) ?_
      refine wp_zreturn dX12_isWord_29 rfl (Or.inl rfl) ?_
      refine hf (decide_eq_false (fun q9 => ?_))
      first | exact absurd q9.1 (by assumption) | exact absurd q9.2 (by assumption)
    · refine wp_iconst (v := (nI 1)) dX12_isWord_24 (by decide +kernel) ?_
      refine wp_goto dX12_isWord_25 ?_
      refine wp_zreturn dX12_isWord_29 rfl (Or.inr rfl) ?_
      exact ht (decide_eq_true ⟨by assumption, by assumption⟩)
set_option maxRecDepth 20000 in
theorem pX12_isWordB {h : mH} {Q : Option Value → mH → Prop} {fa pl : Nat} {w : Int64} (hb : pB h fa pl) (hq : Q (some (.int (nI 0))) h) : Wp mX12_isWord 0 0 0 [some (.ref 153), some (.long w), none] [] h Q := by
  refine wp_aload_n dX12_isWord_0 rfl rfl ?_
  refine wp_getIV dX12_isWord_1 lX12_184 rfl (mO hb.1) hb.2.1 ?_
  refine wp_if_neN dX12_isWord_4 rfl (by have := hb.2.2.2.1; omega) (fun _ => ?_) (fun q9 => absurd q9 (by have := hb.2.2.1; omega))
  refine wp_iconst (v := (nI 0)) dX12_isWord_28 (by decide +kernel) ?_
  refine wp_zreturn dX12_isWord_29 rfl (Or.inl rfl) ?_
  exact hq
set_option maxRecDepth 20000 in
theorem pX12_isPageToken {h : mH} {Q : Option Value → mH → Prop} {tb : Nat → Int32} {N a : Nat} (hg : pG h tb N a) (ht : isPT tb N a = true → Q (some (.int (nI 1))) h) (hf : isPT tb N a = false → Q (some (.int (nI 0))) h) : Wp mX12_isPageToken 1 20 0 [some (.ref 153)] [] h Q := by
  refine wp_aload_n dX12_isPageToken_0 rfl rfl ?_
  refine wp_cV0 0 0 [some _] dX12_isPageToken_1 tX12_isGood rfl (by decide) nX12_isGood vX12_isGood lX12_212 ⟨by decide, by decide⟩ (Nat.le_of_ble_eq_true rfl) (mO hg.1.1) (Nat.le_of_ble_eq_true rfl) rfl ?_
  refine wp_aload_n dX12_isGood_0 rfl rfl ?_
  refine wp_getIV dX12_isGood_1 lX12_184 rfl (mO hg.1.1) hg.2.2.1 ?_
  refine wp_if_ne dX12_isGood_4 (fun q => absurd q (by decide +kernel)) (fun _ => ?_)
  refine wp_iconst (v := (nI 1)) dX12_isGood_7 (by decide +kernel) ?_
  refine wp_goto dX12_isGood_8 ?_
  refine wp_zreturn dX12_isGood_12 rfl (Or.inr rfl) ?_
  intro _ _
  refine wp_if_eq dX12_isPageToken_4 (fun q => absurd q (by decide +kernel)) (fun _ => ?_)
  refine wp_aload_n dX12_isPageToken_7 rfl rfl ?_
  refine wp_getIV dX12_isPageToken_8 lX12_168 rfl (mO hg.1.1) hg.2.1.2.1 ?_
  refine wp_iconst (v := (nI 1)) dX12_isPageToken_11 (by decide +kernel) ?_
  refine wp_icmp_neN dX12_isPageToken_12 rfl rfl ⟨by have := tS_le (tb := tb) (N := N) (a := a); omega, by decide⟩ (fun c3 => ?_) (fun c3 => ?_)
  · refine wp_aload_n dX12_isPageToken_26 rfl rfl ?_
    refine wp_getIV dX12_isPageToken_27 lX12_168 rfl (mO hg.1.1) hg.2.1.2.1 ?_
    refine wp_iconst (v := (nI 2)) dX12_isPageToken_30 (by decide +kernel) ?_
    refine wp_icmp_eqN dX12_isPageToken_31 rfl rfl ⟨by have := tS_le (tb := tb) (N := N) (a := a); omega, by decide⟩ (fun c4 => ?_) (fun c4 => ?_)
    · refine wp_iconst (v := (nI 1)) dX12_isPageToken_53 (by decide +kernel) ?_
      refine wp_goto dX12_isPageToken_54 ?_
      refine wp_zreturn dX12_isPageToken_58 rfl (Or.inr rfl) ?_
      refine ht (decide_eq_true ?_)
      first | exact Or.inl ⟨by assumption, by assumption⟩ | exact Or.inr (Or.inl (by assumption)) | exact Or.inr (Or.inr ⟨by assumption, by assumption⟩)
    · refine wp_aload_n dX12_isPageToken_34 rfl rfl ?_
      refine wp_getIV dX12_isPageToken_35 lX12_168 rfl (mO hg.1.1) hg.2.1.2.1 ?_
      refine wp_iconst (v := (nI 3)) dX12_isPageToken_38 (by decide +kernel) ?_
      refine wp_icmp_neN dX12_isPageToken_39 rfl rfl ⟨by have := tS_le (tb := tb) (N := N) (a := a); omega, by decide⟩ (fun c5 => ?_) (fun c5 => ?_)
      · refine wp_iconst (v := (nI 0)) dX12_isPageToken_57 (by decide +kernel) ?_
        refine wp_zreturn dX12_isPageToken_58 rfl (Or.inl rfl) ?_
        refine hf (decide_eq_false (fun q9 => ?_))
        rcases q9 with q9 | q9 | q9 <;> first | omega | exact absurd q9.2 (not_not.mpr (by assumption)) | exact q9.2 (by assumption)
      · refine wp_aload_n dX12_isPageToken_42 rfl rfl ?_
        refine wp_getLV dX12_isPageToken_43 lX12_164 rfl (mO hg.1.1) hg.2.1.2.2.2 ?_
        refine wp_ldc2 dX12_isPageToken_46 lX12_228 ?_
        refine wp_lc_eq dX12_isPageToken_49 dX12_isPageToken_50 (fun c6 => ?_) (fun c6 => ?_)
        · refine wp_iconst (v := (nI 0)) dX12_isPageToken_57 (by decide +kernel) ?_
          refine wp_zreturn dX12_isPageToken_58 rfl (Or.inl rfl) ?_
          refine hf (decide_eq_false (fun q9 => ?_))
          rcases q9 with q9 | q9 | q9 <;> first | omega | exact absurd q9.2 (not_not.mpr (by assumption)) | exact q9.2 (by assumption)
        · refine wp_iconst (v := (nI 1)) dX12_isPageToken_53 (by decide +kernel) ?_
          refine wp_goto dX12_isPageToken_54 ?_
          refine wp_zreturn dX12_isPageToken_58 rfl (Or.inr rfl) ?_
          refine ht (decide_eq_true ?_)
          first | exact Or.inl ⟨by assumption, by assumption⟩ | exact Or.inr (Or.inl (by assumption)) | exact Or.inr (Or.inr ⟨by assumption, by assumption⟩)
  · refine wp_aload_n dX12_isPageToken_15 rfl rfl ?_
    refine wp_getLV dX12_isPageToken_16 lX12_164 rfl (mO hg.1.1) hg.2.1.2.2.2 ?_
    refine wp_ldc2 dX12_isPageToken_19 lX12_195 ?_
    refine wp_lc_ne dX12_isPageToken_22 dX12_isPageToken_23 (fun c7 => ?_) (fun c7 => ?_)
    · refine wp_iconst (v := (nI 1)) dX12_isPageToken_53 (by decide +kernel) ?_
      refine wp_goto dX12_isPageToken_54 ?_
      refine wp_zreturn dX12_isPageToken_58 rfl (Or.inr rfl) ?_
      refine ht (decide_eq_true ?_)
      first | exact Or.inl ⟨by assumption, by assumption⟩ | exact Or.inr (Or.inl (by assumption)) | exact Or.inr (Or.inr ⟨by assumption, by assumption⟩)
    · refine wp_aload_n dX12_isPageToken_26 rfl rfl ?_
      refine wp_getIV dX12_isPageToken_27 lX12_168 rfl (mO hg.1.1) hg.2.1.2.1 ?_
      refine wp_iconst (v := (nI 2)) dX12_isPageToken_30 (by decide +kernel) ?_
      refine wp_icmp_eqN dX12_isPageToken_31 rfl rfl ⟨by have := tS_le (tb := tb) (N := N) (a := a); omega, by decide⟩ (fun c8 => ?_) (fun c8 => ?_)
      · refine wp_iconst (v := (nI 1)) dX12_isPageToken_53 (by decide +kernel) ?_
        refine wp_goto dX12_isPageToken_54 ?_
        refine wp_zreturn dX12_isPageToken_58 rfl (Or.inr rfl) ?_
        refine ht (decide_eq_true ?_)
        first | exact Or.inl ⟨by assumption, by assumption⟩ | exact Or.inr (Or.inl (by assumption)) | exact Or.inr (Or.inr ⟨by assumption, by assumption⟩)
      · refine wp_aload_n dX12_isPageToken_34 rfl rfl ?_
        refine wp_getIV dX12_isPageToken_35 lX12_168 rfl (mO hg.1.1) hg.2.1.2.1 ?_
        refine wp_iconst (v := (nI 3)) dX12_isPageToken_38 (by decide +kernel) ?_
        refine wp_icmp_neN dX12_isPageToken_39 rfl rfl ⟨by have := tS_le (tb := tb) (N := N) (a := a); omega, by decide⟩ (fun c9 => ?_) (fun c9 => ?_)
        · refine wp_iconst (v := (nI 0)) dX12_isPageToken_57 (by decide +kernel) ?_
          refine wp_zreturn dX12_isPageToken_58 rfl (Or.inl rfl) ?_
          refine hf (decide_eq_false (fun q9 => ?_))
          rcases q9 with q9 | q9 | q9 <;> first | omega | exact absurd q9.2 (not_not.mpr (by assumption)) | exact q9.2 (by assumption)
        · refine wp_aload_n dX12_isPageToken_42 rfl rfl ?_
          refine wp_getLV dX12_isPageToken_43 lX12_164 rfl (mO hg.1.1) hg.2.1.2.2.2 ?_
          refine wp_ldc2 dX12_isPageToken_46 lX12_228 ?_
          refine wp_lc_eq dX12_isPageToken_49 dX12_isPageToken_50 (fun c10 => ?_) (fun c10 => ?_)
          · refine wp_iconst (v := (nI 0)) dX12_isPageToken_57 (by decide +kernel) ?_
            refine wp_zreturn dX12_isPageToken_58 rfl (Or.inl rfl) ?_
            refine hf (decide_eq_false (fun q9 => ?_))
            rcases q9 with q9 | q9 | q9 <;> first | omega | exact absurd q9.2 (not_not.mpr (by assumption)) | exact q9.2 (by assumption)
          · refine wp_iconst (v := (nI 1)) dX12_isPageToken_53 (by decide +kernel) ?_
            refine wp_goto dX12_isPageToken_54 ?_
            refine wp_zreturn dX12_isPageToken_58 rfl (Or.inr rfl) ?_
            refine ht (decide_eq_true ?_)
            first | exact Or.inl ⟨by assumption, by assumption⟩ | exact Or.inr (Or.inl (by assumption)) | exact Or.inr (Or.inr ⟨by assumption, by assumption⟩)
set_option maxRecDepth 20000 in
theorem pX12_isPageTokenB {h : mH} {Q : Option Value → mH → Prop} {fa pl : Nat} (hb : pB h fa pl) (hq : Q (some (.int (nI 0))) h) : Wp mX12_isPageToken 1 20 0 [some (.ref 153)] [] h Q := by
  refine wp_aload_n dX12_isPageToken_0 rfl rfl ?_
  refine wp_cV0 0 0 [some _] dX12_isPageToken_1 tX12_isGood rfl (by decide) nX12_isGood vX12_isGood lX12_212 ⟨by decide, by decide⟩ (Nat.le_of_ble_eq_true rfl) (mO hb.1) (Nat.le_of_ble_eq_true rfl) rfl ?_
  refine wp_aload_n dX12_isGood_0 rfl rfl ?_
  refine wp_getIV dX12_isGood_1 lX12_184 rfl (mO hb.1) hb.2.1 ?_
  refine wp_if_neN dX12_isGood_4 rfl (by have := hb.2.2.2.1; omega) (fun _ => ?_) (fun q9 => absurd q9 (by have := hb.2.2.1; omega))
  refine wp_iconst (v := (nI 0)) dX12_isGood_11 (by decide +kernel) ?_
  refine wp_zreturn dX12_isGood_12 rfl (Or.inl rfl) ?_
  intro _ _
  refine wp_if_eq dX12_isPageToken_4 (fun _ => ?_) (fun q => absurd q (by decide +kernel))
  refine wp_iconst (v := (nI 0)) dX12_isPageToken_57 (by decide +kernel) ?_
  refine wp_zreturn dX12_isPageToken_58 rfl (Or.inl rfl) ?_
  exact hq
set_option maxRecDepth 20000 in
theorem pX12_nameHere {h : mH} {Q : Option Value → mH → Prop} {tb : Nat → Int32} {N a : Nat} (hg : pG h tb N a) (ht : isNm tb N a = true → Q (some (.long (tW tb N a))) h) (hf : isNm tb N a = false → ∀ h', mFr (mP [7, 8] []) h h' → pB h' (bd tb N 2 a) (tP tb N a) → ∀ w : Int64, Q (some (.long w)) h') : Wp mX12_nameHere 1 21 0 [some (.ref 153)] [] h Q := by
  refine wp_aload_n dX12_nameHere_0 rfl rfl ?_
  refine wp_getIV dX12_nameHere_1 lX12_184 rfl (mO hg.1.1) hg.2.2.1 ?_
  refine wp_if_le dX12_nameHere_4 (fun _ => ?_) (fun q => absurd q (by decide +kernel))
  refine wp_aload_n dX12_nameHere_9 rfl rfl ?_
  refine wp_getIV dX12_nameHere_10 lX12_168 rfl (mO hg.1.1) hg.2.1.2.1 ?_
  refine wp_iconst (v := (nI 1)) dX12_nameHere_13 (by decide +kernel) ?_
  refine wp_icmp_neN dX12_nameHere_14 rfl rfl ⟨by have := tS_le (tb := tb) (N := N) (a := a); have := (tE_le (tb := tb) hg.2.2.2.2.1).2.1; have := hg.2.2.2.1; omega, by decide⟩ (fun c2 => ?_) (fun c2 => ?_)
  · refine wp_aload_n dX12_nameHere_81 rfl rfl ?_
    refine wp_iconst (v := (nI 2)) dX12_nameHere_82 (by decide +kernel) ?_
    refine wp_cV1 0 0 [some _, some _] dX12_nameHere_83 tX12_wrong rfl (by decide) nX12_wrong vX12_wrong lX12_197 ⟨by decide, by decide⟩ (Nat.le_of_ble_eq_true rfl) (mO hg.1.1) (Nat.le_of_ble_eq_true rfl) rfl ?_
    refine pX12_wrong hg (by decide) (fun hh1 f1 b1 => ?_)
    intro _ _
    refine wp_aload_n dX12_nameHere_86 rfl rfl ?_
    refine wp_getL dX12_nameHere_87 lX12_164 rfl (mO b1.1) ?_
    refine wp_lreturn dX12_nameHere_90 rfl ?_
    refine hf (decide_eq_false (fun q9 => ?_)) _ (f1.up (by decide) (by decide)) b1 _
    first | exact absurd q9.1 (by assumption) | omega | exact q9.2.2.1 (by assumption) | exact q9.2.2.2.1 (by assumption) | exact q9.2.2.2.2.1 (by assumption) | exact q9.2.2.2.2.2.1 (by assumption) | exact q9.2.2.2.2.2.2 (by assumption)
  · refine wp_aload_n dX12_nameHere_17 rfl rfl ?_
    refine wp_getIV dX12_nameHere_18 lX12_181 rfl (mO hg.1.1) (hg.2.1.2.2.1 (by omega)) ?_
    refine wp_bipush (v := (nI 7)) dX12_nameHere_21 (by decide +kernel) ?_
    refine wp_icmp_gtN dX12_nameHere_23 rfl rfl ⟨by have := tS_le (tb := tb) (N := N) (a := a); have := (tE_le (tb := tb) hg.2.2.2.2.1).2.1; have := hg.2.2.2.1; omega, by decide⟩ (fun c3 => ?_) (fun c3 => ?_)
    · refine wp_aload_n dX12_nameHere_81 rfl rfl ?_
      refine wp_iconst (v := (nI 2)) dX12_nameHere_82 (by decide +kernel) ?_
      refine wp_cV1 0 0 [some _, some _] dX12_nameHere_83 tX12_wrong rfl (by decide) nX12_wrong vX12_wrong lX12_197 ⟨by decide, by decide⟩ (Nat.le_of_ble_eq_true rfl) (mO hg.1.1) (Nat.le_of_ble_eq_true rfl) rfl ?_
      refine pX12_wrong hg (by decide) (fun hh2 f2 b2 => ?_)
      intro _ _
      refine wp_aload_n dX12_nameHere_86 rfl rfl ?_
      refine wp_getL dX12_nameHere_87 lX12_164 rfl (mO b2.1) ?_
      refine wp_lreturn dX12_nameHere_90 rfl ?_
      refine hf (decide_eq_false (fun q9 => ?_)) _ (f2.up (by decide) (by decide)) b2 _
      first | exact absurd q9.1 (by assumption) | omega | exact q9.2.2.1 (by assumption) | exact q9.2.2.2.1 (by assumption) | exact q9.2.2.2.2.1 (by assumption) | exact q9.2.2.2.2.2.1 (by assumption) | exact q9.2.2.2.2.2.2 (by assumption)
    · refine wp_aload_n dX12_nameHere_26 rfl rfl ?_
      refine wp_getLV dX12_nameHere_27 lX12_164 rfl (mO hg.1.1) hg.2.1.2.2.2 ?_
      refine wp_ldc2 dX12_nameHere_30 lX12_187 ?_
      refine wp_lc_eq dX12_nameHere_33 dX12_nameHere_34 (fun c4 => ?_) (fun c4 => ?_)
      · refine wp_aload_n dX12_nameHere_81 rfl rfl ?_
        refine wp_iconst (v := (nI 2)) dX12_nameHere_82 (by decide +kernel) ?_
        refine wp_cV1 0 0 [some _, some _] dX12_nameHere_83 tX12_wrong rfl (by decide) nX12_wrong vX12_wrong lX12_197 ⟨by decide, by decide⟩ (Nat.le_of_ble_eq_true rfl) (mO hg.1.1) (Nat.le_of_ble_eq_true rfl) rfl ?_
        refine pX12_wrong hg (by decide) (fun hh3 f3 b3 => ?_)
        intro _ _
        refine wp_aload_n dX12_nameHere_86 rfl rfl ?_
        refine wp_getL dX12_nameHere_87 lX12_164 rfl (mO b3.1) ?_
        refine wp_lreturn dX12_nameHere_90 rfl ?_
        refine hf (decide_eq_false (fun q9 => ?_)) _ (f3.up (by decide) (by decide)) b3 _
        first | exact absurd q9.1 (by assumption) | omega | exact q9.2.2.1 (by assumption) | exact q9.2.2.2.1 (by assumption) | exact q9.2.2.2.2.1 (by assumption) | exact q9.2.2.2.2.2.1 (by assumption) | exact q9.2.2.2.2.2.2 (by assumption)
      · refine wp_aload_n dX12_nameHere_37 rfl rfl ?_
        refine wp_getLV dX12_nameHere_38 lX12_164 rfl (mO hg.1.1) hg.2.1.2.2.2 ?_
        refine wp_ldc2 dX12_nameHere_41 lX12_189 ?_
        refine wp_lc_eq dX12_nameHere_44 dX12_nameHere_45 (fun c5 => ?_) (fun c5 => ?_)
        · refine wp_aload_n dX12_nameHere_81 rfl rfl ?_
          refine wp_iconst (v := (nI 2)) dX12_nameHere_82 (by decide +kernel) ?_
          refine wp_cV1 0 0 [some _, some _] dX12_nameHere_83 tX12_wrong rfl (by decide) nX12_wrong vX12_wrong lX12_197 ⟨by decide, by decide⟩ (Nat.le_of_ble_eq_true rfl) (mO hg.1.1) (Nat.le_of_ble_eq_true rfl) rfl ?_
          refine pX12_wrong hg (by decide) (fun hh4 f4 b4 => ?_)
          intro _ _
          refine wp_aload_n dX12_nameHere_86 rfl rfl ?_
          refine wp_getL dX12_nameHere_87 lX12_164 rfl (mO b4.1) ?_
          refine wp_lreturn dX12_nameHere_90 rfl ?_
          refine hf (decide_eq_false (fun q9 => ?_)) _ (f4.up (by decide) (by decide)) b4 _
          first | exact absurd q9.1 (by assumption) | omega | exact q9.2.2.1 (by assumption) | exact q9.2.2.2.1 (by assumption) | exact q9.2.2.2.2.1 (by assumption) | exact q9.2.2.2.2.2.1 (by assumption) | exact q9.2.2.2.2.2.2 (by assumption)
        · refine wp_aload_n dX12_nameHere_48 rfl rfl ?_
          refine wp_getLV dX12_nameHere_49 lX12_164 rfl (mO hg.1.1) hg.2.1.2.2.2 ?_
          refine wp_ldc2 dX12_nameHere_52 lX12_191 ?_
          refine wp_lc_eq dX12_nameHere_55 dX12_nameHere_56 (fun c6 => ?_) (fun c6 => ?_)
          · refine wp_aload_n dX12_nameHere_81 rfl rfl ?_
            refine wp_iconst (v := (nI 2)) dX12_nameHere_82 (by decide +kernel) ?_
            refine wp_cV1 0 0 [some _, some _] dX12_nameHere_83 tX12_wrong rfl (by decide) nX12_wrong vX12_wrong lX12_197 ⟨by decide, by decide⟩ (Nat.le_of_ble_eq_true rfl) (mO hg.1.1) (Nat.le_of_ble_eq_true rfl) rfl ?_
            refine pX12_wrong hg (by decide) (fun hh5 f5 b5 => ?_)
            intro _ _
            refine wp_aload_n dX12_nameHere_86 rfl rfl ?_
            refine wp_getL dX12_nameHere_87 lX12_164 rfl (mO b5.1) ?_
            refine wp_lreturn dX12_nameHere_90 rfl ?_
            refine hf (decide_eq_false (fun q9 => ?_)) _ (f5.up (by decide) (by decide)) b5 _
            first | exact absurd q9.1 (by assumption) | omega | exact q9.2.2.1 (by assumption) | exact q9.2.2.2.1 (by assumption) | exact q9.2.2.2.2.1 (by assumption) | exact q9.2.2.2.2.2.1 (by assumption) | exact q9.2.2.2.2.2.2 (by assumption)
          · refine wp_aload_n dX12_nameHere_59 rfl rfl ?_
            refine wp_getLV dX12_nameHere_60 lX12_164 rfl (mO hg.1.1) hg.2.1.2.2.2 ?_
            refine wp_ldc2 dX12_nameHere_63 lX12_193 ?_
            refine wp_lc_eq dX12_nameHere_66 dX12_nameHere_67 (fun c7 => ?_) (fun c7 => ?_)
            · refine wp_aload_n dX12_nameHere_81 rfl rfl ?_
              refine wp_iconst (v := (nI 2)) dX12_nameHere_82 (by decide +kernel) ?_
              refine wp_cV1 0 0 [some _, some _] dX12_nameHere_83 tX12_wrong rfl (by decide) nX12_wrong vX12_wrong lX12_197 ⟨by decide, by decide⟩ (Nat.le_of_ble_eq_true rfl) (mO hg.1.1) (Nat.le_of_ble_eq_true rfl) rfl ?_
              refine pX12_wrong hg (by decide) (fun hh6 f6 b6 => ?_)
              intro _ _
              refine wp_aload_n dX12_nameHere_86 rfl rfl ?_
              refine wp_getL dX12_nameHere_87 lX12_164 rfl (mO b6.1) ?_
              refine wp_lreturn dX12_nameHere_90 rfl ?_
              refine hf (decide_eq_false (fun q9 => ?_)) _ (f6.up (by decide) (by decide)) b6 _
              first | exact absurd q9.1 (by assumption) | omega | exact q9.2.2.1 (by assumption) | exact q9.2.2.2.1 (by assumption) | exact q9.2.2.2.2.1 (by assumption) | exact q9.2.2.2.2.2.1 (by assumption) | exact q9.2.2.2.2.2.2 (by assumption)
            · refine wp_aload_n dX12_nameHere_70 rfl rfl ?_
              refine wp_getLV dX12_nameHere_71 lX12_164 rfl (mO hg.1.1) hg.2.1.2.2.2 ?_
              refine wp_ldc2 dX12_nameHere_74 lX12_195 ?_
              refine wp_lc_ne dX12_nameHere_77 dX12_nameHere_78 (fun c8 => ?_) (fun c8 => ?_)
              · refine wp_aload_n dX12_nameHere_86 rfl rfl ?_
                refine wp_getLV dX12_nameHere_87 lX12_164 rfl (mO hg.1.1) hg.2.1.2.2.2 ?_
                refine wp_lreturn dX12_nameHere_90 rfl ?_
                exact ht (decide_eq_true ⟨by assumption, by omega, by assumption, by assumption, by assumption, by assumption, by assumption⟩)
              · refine wp_aload_n dX12_nameHere_81 rfl rfl ?_
                refine wp_iconst (v := (nI 2)) dX12_nameHere_82 (by decide +kernel) ?_
                refine wp_cV1 0 0 [some _, some _] dX12_nameHere_83 tX12_wrong rfl (by decide) nX12_wrong vX12_wrong lX12_197 ⟨by decide, by decide⟩ (Nat.le_of_ble_eq_true rfl) (mO hg.1.1) (Nat.le_of_ble_eq_true rfl) rfl ?_
                refine pX12_wrong hg (by decide) (fun hh7 f7 b7 => ?_)
                intro _ _
                refine wp_aload_n dX12_nameHere_86 rfl rfl ?_
                refine wp_getL dX12_nameHere_87 lX12_164 rfl (mO b7.1) ?_
                refine wp_lreturn dX12_nameHere_90 rfl ?_
                refine hf (decide_eq_false (fun q9 => ?_)) _ (f7.up (by decide) (by decide)) b7 _
                first | exact absurd q9.1 (by assumption) | omega | exact q9.2.2.1 (by assumption) | exact q9.2.2.2.1 (by assumption) | exact q9.2.2.2.2.1 (by assumption) | exact q9.2.2.2.2.2.1 (by assumption) | exact q9.2.2.2.2.2.2 (by assumption)
set_option maxRecDepth 20000 in
theorem pX12_nameHereB {h : mH} {Q : Option Value → mH → Prop} {fa pl : Nat} (hb : pB h fa pl) (hq : Q (some (.long 0)) h) : Wp mX12_nameHere 1 21 0 [some (.ref 153)] [] h Q := by
  refine wp_aload_n dX12_nameHere_0 rfl rfl ?_
  refine wp_getIV dX12_nameHere_1 lX12_184 rfl (mO hb.1) hb.2.1 ?_
  refine wp_if_leN dX12_nameHere_4 rfl (by have := hb.2.2.2.1; omega) (fun q9 => absurd q9 (by have := hb.2.2.1; omega)) (fun _ => ?_)
  refine wp_lconst (v := 0) dX12_nameHere_7 (by decide +kernel) ?_
  refine wp_lreturn dX12_nameHere_8 rfl ?_
  exact hq
