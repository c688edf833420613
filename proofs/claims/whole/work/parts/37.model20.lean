/-! ===== a book ===== -/
def bkL (tb : Nat → Int32) (N : Nat) : Nat → Nat → Nat → (Nat → Int64) → (Nat → Int32) → (Nat → Int32) → Nat → (Nat → Nat) → (Nat → Nat → Int64) → Except (Nat × Nat) (Nat × (Nat → Int32) × (Nat → Int32) × Nat × (Nat → Nat) × (Nat → Nat → Int64))
  | 0, _, _, _, _, _, _, _, _ => .error (0, 0)
  | n + 1, a, f, nm, rp, mn, P, ct, rw => if tS tb N a = 0 then .ok (f, rp, mn, P, ct, rw) else if isWd tb N a tWf = true then (if f = 4 then .error (2, tP tb N a) else match lF tb N a nm mn f with
      | .error e => .error e
      | .ok x => bkL tb N n x.1 (f + 1) (up1 nm f (tW tb N (tE tb N a))) (upI rp f x.2.1) (upI mn f x.2.2) P ct rw) else if isWd tb N a tWp = true then (if P = 6 then .error (2, tP tb N a) else match lP tb N a with
      | .error e => .error e
      | .ok x => bkL tb N n x.1 f nm rp mn (P + 1) (fun p => if p = P then x.2 else ct p) (fun p => if p = P then (fun j => tW tb N (psT tb N a j)) else rw p)) else .error (bd tb N 2 a, tP tb N a)
theorem lS_ok {tb : Nat → Int32} {N a a' : Nat} {p m p' m' : Int32} (h : lS tb N a p m = .ok (a', p', m')) : p' = p ∧ m' = m := by
  unfold lS at h
  split at h
  · cases h
    exact ⟨rfl, rfl⟩
  · cases h
theorem lM_ok {tb : Nat → Int32} {N a a' : Nat} {p p' m' : Int32} (h : lM tb N a p = .ok (a', p', m')) : p' = p ∧ (m' = 0 ∨ m' = 1) := by
  unfold lM at h
  split at h
  · have := lS_ok h
    exact ⟨this.1, Or.inr this.2⟩
  · have := lS_ok h
    exact ⟨this.1, Or.inl this.2⟩
theorem lF_ok {tb : Nat → Int32} {N a f a' : Nat} {nm : Nat → Int64} {mn : Nat → Int32} {p m : Int32} (h : lF tb N a nm mn f = .ok (a', p, m)) : (m = 0 ∨ m = 1) ∧ (p = -1 ∨ ∃ g, g < f ∧ p = nI g ∧ mn g = 0) ∧ fdN nm f (tW tb N (tE tb N a)) = none := by
  unfold lF at h
  split at h
  · split at h
    · cases h
    · rename_i e
      refine ⟨?_, ?_, e⟩
      · split at h
        · unfold lO at h
          split at h
          · split at h
            · split at h
              · exact (lM_ok h).2
              · cases h
            · cases h
          · cases h
        · exact (lM_ok h).2
      · split at h
        · unfold lO at h
          split at h
          · split at h
            · split at h
              · rename_i g e2 e3
                exact Or.inr ⟨g, (fdN_some e2).1, (lM_ok h).1, e3⟩
              · cases h
            · cases h
          · cases h
        · exact Or.inl (lM_ok h).1
  · cases h
/-- what holds of what is read so far -/
def bkI (f : Nat) (nm : Nat → Int64) (rp mn : Nat → Int32) (P : Nat) (ct : Nat → Nat) : Prop := f ≤ 4 ∧ P ≤ 6 ∧ unq nm f ∧ (∀ k, k < f → mn k = 0 ∨ mn k = 1) ∧ (∀ k, k < f → rp k = -1 ∨ ∃ g, g < k ∧ rp k = nI g ∧ mn g = 0) ∧ ∀ p, p < P → 0 < ct p ∧ ct p ≤ 40
theorem bkI_f {tb : Nat → Int32} {N a f a' : Nat} {nm : Nat → Int64} {rp mn : Nat → Int32} {p m : Int32} {P : Nat} {ct : Nat → Nat} (q : bkI f nm rp mn P ct) (hf : f < 4) (h : lF tb N a nm mn f = .ok (a', p, m)) : bkI (f + 1) (up1 nm f (tW tb N (tE tb N a))) (upI rp f p) (upI mn f m) P ct := by
  have h1 := lF_ok h
  have h2 := fdN_none h1.2.2
  refine ⟨by omega, q.2.1, fun i j hi hj e => ?_, fun k hk => ?_, fun k hk => ?_, q.2.2.2.2.2⟩
  · by_cases ei : i = f
    · by_cases ej : j = f
      · omega
      · subst ei
        rw [up1_at, up1_ne ej] at e
        exact absurd e.symm (h2 j (by omega))
    · by_cases ej : j = f
      · subst ej
        rw [up1_at, up1_ne ei] at e
        exact absurd e (h2 i (by omega))
      · rw [up1_ne ei, up1_ne ej] at e
        exact q.2.2.1 i j (by omega) (by omega) e
  · by_cases ek : k = f
    · subst ek
      rw [upI_at]
      exact h1.1
    · rw [upI_ne ek]
      exact q.2.2.2.1 k (by omega)
  · by_cases ek : k = f
    · subst ek
      rw [upI_at]
      rcases h1.2.1 with z | ⟨g, hg, z1, z2⟩
      · exact Or.inl z
      · exact Or.inr ⟨g, hg, z1, by rw [upI_ne (by omega)]; exact z2⟩
    · rw [upI_ne ek]
      rcases q.2.2.2.2.1 k (by omega) with z | ⟨g, hg, z1, z2⟩
      · exact Or.inl z
      · exact Or.inr ⟨g, hg, z1, by rw [upI_ne (by omega)]; exact z2⟩
theorem bkI_p {f : Nat} {nm : Nat → Int64} {rp mn : Nat → Int32} {P n : Nat} {ct : Nat → Nat} (q : bkI f nm rp mn P ct) (hP : P < 6) (hn : 0 < n ∧ n ≤ 40) : bkI f nm rp mn (P + 1) (fun p => if p = P then n else ct p) := by
  refine ⟨q.1, by omega, q.2.2.1, q.2.2.2.1, q.2.2.2.2.1, fun p hp => ?_⟩
  by_cases e : p = P
  · simp only [if_pos e]
    exact hn
  · simp only [if_neg e]
    exact q.2.2.2.2.2 p (by omega)
theorem isWd_S {tb : Nat → Int32} {N a : Nat} {w : Int64} (h : isWd tb N a w = true) : tS tb N a = 1 := (of_decide_eq_true h).1
set_option maxRecDepth 20000 in
theorem book_loop {h : mH} {Q : Option Value → mH → Prop} {r : Nat → Int64} {F : Nat} {pa my : Nat → Int32} {pr : Nat → Nat → Int64} {a u : Nat} {bx : Nat → Nat → Int64} {kp tp : Nat → Int32} {t : Nat} {tf tl : Int32} {t0 : Nat} : ∀ (n : Nat) (a1 : Nat) (f : Nat) (nm : Nat → Int64) (rp : Nat → Int32) (mn : Nat → Int32) (P : Nat) (ct : Nat → Nat) (rw : Nat → Nat → Int64) (h1 : mH), (bkI f nm rp mn P ct) → (10 < f + P + n) → (mFr (mP [3, 4, 5, 6, 7, 8, 11, 19, 20] [155, 156, 157, 158, 160]) h h1) → (pG h1 tp t0 a1) → (mT h1 r F pa my pr a u bx kp tp t tf tl) → (rdS h1 f nm rp mn P ct rw) → (hI h1 153 8 = -1) → (∀ fa pl, bkL tp t0 n a1 f nm rp mn P ct rw = .error (fa, pl) → ∀ h', mFr (mP [3, 4, 5, 6, 7, 8, 11, 19, 20] [155, 156, 157, 158, 160]) h h' → pB h' fa pl → mT h' r F pa my pr a u bx kp tp t tf tl → Wp mX12_book 4 91 64 [some (.ref 153), none] [] h' Q) → (∀ f9 nm9 rp9 mn9 P9 ct9 rw9, bkL tp t0 n a1 f nm rp mn P ct rw = .ok (f9, rp9, mn9, P9, ct9, rw9) → bkI f9 nm9 rp9 mn9 P9 ct9 → ∀ h' a9, mFr (mP [3, 4, 5, 6, 7, 8, 11, 19, 20] [155, 156, 157, 158, 160]) h h' → pG h' tp t0 a9 → mT h' r F pa my pr a u bx kp tp t tf tl → rdS h' f9 nm9 rp9 mn9 P9 ct9 rw9 → hI h' 153 8 = -1 → Wp mX12_book 4 91 64 [some (.ref 153), none] [] h' Q) → Wp mX12_book 4 91 8 [some (.ref 153), none] [] h1 Q := by
  intro n
  induction n with
  | zero =>
    intro a1 f nm rp mn P ct rw h1 hi hz
    have := hi.1
    have := hi.2.1
    omega
  | succ n ih =>
    intro a1 f nm rp mn P ct rw h1 hi hz hf1 g1 t1 rd1 e8 Ke Ko
    have hf4 := hi.1
    have hP6 := hi.2.1
    refine wp_aload_n dX12_book_8 rfl rfl ?_
    refine wp_cV0 0 0 [some _] dX12_book_9 tX12_isGood rfl (by decide) nX12_isGood vX12_isGood lX12_212 ⟨by decide, by decide⟩ (Nat.le_of_ble_eq_true rfl) (mO t1.1.1) (Nat.le_of_ble_eq_true rfl) rfl ?_
    refine wp_aload_n dX12_isGood_0 rfl rfl ?_
    refine wp_getIV dX12_isGood_1 lX12_184 rfl (mO t1.1.1) g1.2.2.1 ?_
    refine wp_if_ne dX12_isGood_4 (fun q => absurd q (by decide +kernel)) (fun _ => ?_)
    refine wp_iconst (v := (nI 1)) dX12_isGood_7 (by decide +kernel) ?_
    refine wp_goto dX12_isGood_8 ?_
    refine wp_zreturn dX12_isGood_12 rfl (Or.inr rfl) ?_
    intro _ _
    refine wp_if_eq dX12_book_12 (fun q => absurd q (by decide +kernel)) (fun _ => ?_)
    refine wp_aload_n dX12_book_15 rfl rfl ?_
    refine wp_getIV dX12_book_16 lX12_168 rfl (mO t1.1.1) g1.2.1.2.1 ?_
    refine wp_if_eqN dX12_book_19 rfl (by have := tS_le (tb := tp) (N := t0) (a := a1); omega) (fun c3 => ?_) (fun c3 => ?_)
    · exact Ko _ _ _ _ _ _ _ (by unfold bkL; rw [if_pos (by assumption)]) hi _ _ (hf1.up (by decide) (by decide)) g1 t1 rd1 e8
    · refine wp_aload_n dX12_book_22 rfl rfl ?_
      refine wp_ldc2 dX12_book_23 lX12_187 ?_
      refine wp_cV1 0 0 [some _, some _, none] dX12_book_26 tX12_isWord rfl (by decide) nX12_isWord vX12_isWord lX12_220 ⟨by decide, by decide⟩ (Nat.le_of_ble_eq_true rfl) (mO t1.1.1) (Nat.le_of_ble_eq_true rfl) rfl ?_
      refine pX12_isWord g1 (fun w1 => ?_) (fun w1 => ?_)
      · intro _ _
        change isWd tp _ _ tWf = _ at w1
        refine wp_if_eq dX12_book_29 (fun q => absurd q (by decide +kernel)) (fun _ => ?_)
        by_cases hx : f = 4
        · subst hx
          refine wp_aload_n dX12_book_32 rfl rfl ?_
          refine wp_cV0 3 67 [some _, none, none, none, none] dX12_book_33 tX12_fieldLine rfl (by decide) nX12_fieldLine vX12_fieldLine lX12_236 ⟨by decide, by decide⟩ (Nat.le_of_ble_eq_true rfl) (mO t1.1.1) (Nat.le_of_ble_eq_true rfl) rfl ?_
          refine pX12_fieldLine4 g1 (rd1.1 : _) (isWd_S w1) (fun hh2 f2 b2 => ?_)
          · intro _ _
            have t2 := t1.fr (f2.up (by decide) (by decide))
            refine wp_goto dX12_book_36 ?_
            refine wp_aload_n dX12_book_8 rfl rfl ?_
            refine wp_cV0 0 0 [some _] dX12_book_9 tX12_isGood rfl (by decide) nX12_isGood vX12_isGood lX12_212 ⟨by decide, by decide⟩ (Nat.le_of_ble_eq_true rfl) (mO t2.1.1) (Nat.le_of_ble_eq_true rfl) rfl ?_
            refine wp_aload_n dX12_isGood_0 rfl rfl ?_
            refine wp_getIV dX12_isGood_1 lX12_184 rfl (mO t2.1.1) b2.2.1 ?_
            refine wp_if_neN dX12_isGood_4 rfl (by have := b2.2.2.2.1; omega) (fun _ => ?_) (fun q9 => absurd q9 (by have := b2.2.2.1; omega))
            refine wp_iconst (v := (nI 0)) dX12_isGood_11 (by decide +kernel) ?_
            refine wp_zreturn dX12_isGood_12 rfl (Or.inl rfl) ?_
            intro _ _
            refine wp_if_eq dX12_book_12 (fun _ => ?_) (fun q => absurd q (by decide +kernel))
            exact Ke _ _ (by unfold bkL; rw [if_neg (by omega), if_pos w1]; rw [if_pos rfl]) _ ((hf1.up (by decide) (by decide)).tr (f2.up (by decide) (by decide))) b2 t2
        · refine wp_aload_n dX12_book_32 rfl rfl ?_
          refine wp_cV0 3 67 [some _, none, none, none, none] dX12_book_33 tX12_fieldLine rfl (by decide) nX12_fieldLine vX12_fieldLine lX12_236 ⟨by decide, by decide⟩ (Nat.le_of_ble_eq_true rfl) (mO t1.1.1) (Nat.le_of_ble_eq_true rfl) rfl ?_
          refine pX12_fieldLine g1 rd1 (by omega) hi.2.2.1 (fun fa3 pl3 er3 hh3 f3 b3 => ?_) (fun a3 p3 m3 ok3 hh3 f3 g3 rd3 e83 => ?_)
          · intro _ _
            have t3 := t1.fr (f3.up (by decide) (by decide))
            refine wp_goto dX12_book_36 ?_
            refine wp_aload_n dX12_book_8 rfl rfl ?_
            refine wp_cV0 0 0 [some _] dX12_book_9 tX12_isGood rfl (by decide) nX12_isGood vX12_isGood lX12_212 ⟨by decide, by decide⟩ (Nat.le_of_ble_eq_true rfl) (mO t3.1.1) (Nat.le_of_ble_eq_true rfl) rfl ?_
            refine wp_aload_n dX12_isGood_0 rfl rfl ?_
            refine wp_getIV dX12_isGood_1 lX12_184 rfl (mO t3.1.1) b3.2.1 ?_
            refine wp_if_neN dX12_isGood_4 rfl (by have := b3.2.2.2.1; omega) (fun _ => ?_) (fun q9 => absurd q9 (by have := b3.2.2.1; omega))
            refine wp_iconst (v := (nI 0)) dX12_isGood_11 (by decide +kernel) ?_
            refine wp_zreturn dX12_isGood_12 rfl (Or.inl rfl) ?_
            intro _ _
            refine wp_if_eq dX12_book_12 (fun _ => ?_) (fun q => absurd q (by decide +kernel))
            exact Ke _ _ (by unfold bkL; rw [if_neg (by omega), if_pos w1]; rw [if_neg hx, er3]) _ ((hf1.up (by decide) (by decide)).tr (f3.up (by decide) (by decide))) b3 t3
          · intro _ _
            have t3 := t1.fr (f3.up (by decide) (by decide))
            refine wp_goto dX12_book_36 ?_
            exact ih _ _ _ _ _ _ _ _ _ (bkI_f hi (by have := hi.1; omega) ok3) (by omega) ((hf1.up (by decide) (by decide)).tr (f3.up (by decide) (by decide))) g3 t3 rd3 (e83.trans e8) (fun fa pl z => Ke fa pl (by unfold bkL; rw [if_neg (by omega), if_pos w1]; rw [if_neg hx, ok3]; exact z)) (fun f9 nm9 rp9 mn9 P9 ct9 rw9 z => Ko f9 nm9 rp9 mn9 P9 ct9 rw9 (by unfold bkL; rw [if_neg (by omega), if_pos w1]; rw [if_neg hx, ok3]; exact z))
      · intro _ _
        change isWd tp _ _ tWf = _ at w1
        refine wp_if_eq dX12_book_29 (fun _ => ?_) (fun q => absurd q (by decide +kernel))
        refine wp_aload_n dX12_book_39 rfl rfl ?_
        refine wp_ldc2 dX12_book_40 lX12_189 ?_
        refine wp_cV1 0 0 [some _, some _, none] dX12_book_43 tX12_isWord rfl (by decide) nX12_isWord vX12_isWord lX12_220 ⟨by decide, by decide⟩ (Nat.le_of_ble_eq_true rfl) (mO t1.1.1) (Nat.le_of_ble_eq_true rfl) rfl ?_
        refine pX12_isWord g1 (fun w4 => ?_) (fun w4 => ?_)
        · intro _ _
          change isWd tp _ _ tWp = _ at w4
          refine wp_if_eq dX12_book_46 (fun q => absurd q (by decide +kernel)) (fun _ => ?_)
          by_cases hx : P = 6
          · subst hx
            refine wp_aload_n dX12_book_49 rfl rfl ?_
            refine wp_cV0 2 43 [some _, none, none] dX12_book_50 tX12_pageLine rfl (by decide) nX12_pageLine vX12_pageLine lX12_239 ⟨by decide, by decide⟩ (Nat.le_of_ble_eq_true rfl) (mO t1.1.1) (Nat.le_of_ble_eq_true rfl) rfl ?_
            refine pX12_pageLine6 g1 (rd1.2.2.1 : _) (isWd_S w4) (fun hh5 f5 b5 => ?_)
            · intro _ _
              have t5 := t1.fr (f5.up (by decide) (by decide))
              refine wp_goto dX12_book_53 ?_
              refine wp_aload_n dX12_book_8 rfl rfl ?_
              refine wp_cV0 0 0 [some _] dX12_book_9 tX12_isGood rfl (by decide) nX12_isGood vX12_isGood lX12_212 ⟨by decide, by decide⟩ (Nat.le_of_ble_eq_true rfl) (mO t5.1.1) (Nat.le_of_ble_eq_true rfl) rfl ?_
              refine wp_aload_n dX12_isGood_0 rfl rfl ?_
              refine wp_getIV dX12_isGood_1 lX12_184 rfl (mO t5.1.1) b5.2.1 ?_
              refine wp_if_neN dX12_isGood_4 rfl (by have := b5.2.2.2.1; omega) (fun _ => ?_) (fun q9 => absurd q9 (by have := b5.2.2.1; omega))
              refine wp_iconst (v := (nI 0)) dX12_isGood_11 (by decide +kernel) ?_
              refine wp_zreturn dX12_isGood_12 rfl (Or.inl rfl) ?_
              intro _ _
              refine wp_if_eq dX12_book_12 (fun _ => ?_) (fun q => absurd q (by decide +kernel))
              exact Ke _ _ (by unfold bkL; rw [if_neg (by omega), if_neg (by rw [w1]; decide), if_pos w4]; rw [if_pos rfl]) _ ((hf1.up (by decide) (by decide)).tr (f5.up (by decide) (by decide))) b5 t5
          · refine wp_aload_n dX12_book_49 rfl rfl ?_
            refine wp_cV0 2 43 [some _, none, none] dX12_book_50 tX12_pageLine rfl (by decide) nX12_pageLine vX12_pageLine lX12_239 ⟨by decide, by decide⟩ (Nat.le_of_ble_eq_true rfl) (mO t1.1.1) (Nat.le_of_ble_eq_true rfl) rfl ?_
            refine pX12_pageLine g1 rd1 (by omega) (fun p hp => (hi.2.2.2.2.2 p hp).2) (fun fa6 pl6 er6 hh6 f6 b6 => ?_) (fun a6 n6 ok6 hn6 hh6 f6 g6 rd6 e86 => ?_)
            · intro _ _
              have t6 := t1.fr (f6.up (by decide) (by decide))
              refine wp_goto dX12_book_53 ?_
              refine wp_aload_n dX12_book_8 rfl rfl ?_
              refine wp_cV0 0 0 [some _] dX12_book_9 tX12_isGood rfl (by decide) nX12_isGood vX12_isGood lX12_212 ⟨by decide, by decide⟩ (Nat.le_of_ble_eq_true rfl) (mO t6.1.1) (Nat.le_of_ble_eq_true rfl) rfl ?_
              refine wp_aload_n dX12_isGood_0 rfl rfl ?_
              refine wp_getIV dX12_isGood_1 lX12_184 rfl (mO t6.1.1) b6.2.1 ?_
              refine wp_if_neN dX12_isGood_4 rfl (by have := b6.2.2.2.1; omega) (fun _ => ?_) (fun q9 => absurd q9 (by have := b6.2.2.1; omega))
              refine wp_iconst (v := (nI 0)) dX12_isGood_11 (by decide +kernel) ?_
              refine wp_zreturn dX12_isGood_12 rfl (Or.inl rfl) ?_
              intro _ _
              refine wp_if_eq dX12_book_12 (fun _ => ?_) (fun q => absurd q (by decide +kernel))
              exact Ke _ _ (by unfold bkL; rw [if_neg (by omega), if_neg (by rw [w1]; decide), if_pos w4]; rw [if_neg hx, er6]) _ ((hf1.up (by decide) (by decide)).tr (f6.up (by decide) (by decide))) b6 t6
            · intro _ _
              have t6 := t1.fr (f6.up (by decide) (by decide))
              refine wp_goto dX12_book_53 ?_
              exact ih _ _ _ _ _ _ _ _ _ (bkI_p hi (by have := hi.2.1; omega) hn6) (by omega) ((hf1.up (by decide) (by decide)).tr (f6.up (by decide) (by decide))) g6 t6 rd6 (e86.trans e8) (fun fa pl z => Ke fa pl (by unfold bkL; rw [if_neg (by omega), if_neg (by rw [w1]; decide), if_pos w4]; rw [if_neg hx, ok6]; exact z)) (fun f9 nm9 rp9 mn9 P9 ct9 rw9 z => Ko f9 nm9 rp9 mn9 P9 ct9 rw9 (by unfold bkL; rw [if_neg (by omega), if_neg (by rw [w1]; decide), if_pos w4]; rw [if_neg hx, ok6]; exact z))
        · intro _ _
          change isWd tp _ _ tWp = _ at w4
          refine wp_if_eq dX12_book_46 (fun _ => ?_) (fun q => absurd q (by decide +kernel))
          refine wp_aload_n dX12_book_56 rfl rfl ?_
          refine wp_iconst (v := (nI 2)) dX12_book_57 (by decide +kernel) ?_
          refine wp_cV1 0 0 [some _, some _] dX12_book_58 tX12_wrong rfl (by decide) nX12_wrong vX12_wrong lX12_197 ⟨by decide, by decide⟩ (Nat.le_of_ble_eq_true rfl) (mO t1.1.1) (Nat.le_of_ble_eq_true rfl) rfl ?_
          refine pX12_wrong g1 (by decide) (fun hh7 f7 b7 => ?_)
          intro _ _
          have t7 := t1.fr (f7.up (by decide) (by decide))
          have rd7 := rd1.fr f7 (by decide) (by decide)
          refine wp_goto dX12_book_61 ?_
          refine wp_aload_n dX12_book_8 rfl rfl ?_
          refine wp_cV0 0 0 [some _] dX12_book_9 tX12_isGood rfl (by decide) nX12_isGood vX12_isGood lX12_212 ⟨by decide, by decide⟩ (Nat.le_of_ble_eq_true rfl) (mO t7.1.1) (Nat.le_of_ble_eq_true rfl) rfl ?_
          refine wp_aload_n dX12_isGood_0 rfl rfl ?_
          refine wp_getIV dX12_isGood_1 lX12_184 rfl (mO t7.1.1) b7.2.1 ?_
          refine wp_if_neN dX12_isGood_4 rfl (by have := b7.2.2.2.1; omega) (fun _ => ?_) (fun q9 => absurd q9 (by have := b7.2.2.1; omega))
          refine wp_iconst (v := (nI 0)) dX12_isGood_11 (by decide +kernel) ?_
          refine wp_zreturn dX12_isGood_12 rfl (Or.inl rfl) ?_
          intro _ _
          refine wp_if_eq dX12_book_12 (fun _ => ?_) (fun q => absurd q (by decide +kernel))
          exact Ke _ _ (by unfold bkL; rw [if_neg (by omega), if_neg (by rw [w1]; decide), if_neg (by rw [w4]; decide)]) _ ((hf1.up (by decide) (by decide)).tr (f7.up (by decide) (by decide))) b7 t7
