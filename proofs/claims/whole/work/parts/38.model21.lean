/-! ===== the book comes ===== -/
def bkR (P : Nat) (ct : Nat → Nat) (rw : Nat → Nat → Int64) : Nat → Nat → Int64
  | 0 => up1 (fun _ => 0) 0 (lN P)
  | k + 1 => pgK (bkR P ct rw k) k (ct k) (rw k) 40
theorem bkR_z {P : Nat} {ct : Nat → Nat} {rw : Nat → Nat → Int64} : ∀ k, k ≤ 6 → ∀ y, 935 ≤ y → bkR P ct rw k y = 0
  | 0, _, y, hy => by
    show up1 _ 0 _ y = 0
    rw [up1_ne (by omega)]
  | k + 1, hk, y, hy => by
    show pgK _ _ _ _ _ y = 0
    unfold pgK
    rw [if_neg (by omega), if_neg (by omega)]
    exact bkR_z k (by omega) y hy
def bk0 (r : Nat → Int64) (k : Nat) : Nat → Int64 := fun y => if y < k then 0 else r y
theorem bk0_s {r : Nat → Int64} {k : Nat} : up1 (bk0 r k) k 0 = bk0 r (k + 1) := by
  funext y
  unfold bk0
  by_cases e : y = k
  · subst e
    rw [up1_at, if_pos (by omega)]
  · rw [up1_ne e]
    by_cases z : y < k
    · rw [if_pos z, if_pos (by omega)]
    · rw [if_neg z, if_neg (by omega)]
theorem bk0_z {r : Nat → Int64} (hz : ∀ y, 935 ≤ y → r y = 0) : bk0 r 935 = fun _ => 0 := by
  funext y
  unfold bk0
  split
  · rfl
  · exact hz y (by omega)
def mgI (n o : Nat → Int32) (k : Nat) : Nat → Int32 := fun y => if y < k then n y else o y
theorem mgI_s {n o : Nat → Int32} {k : Nat} {v : Int32} (e : v = n k) : upI (mgI n o k) k v = mgI n o (k + 1) := by
  subst e
  funext y
  unfold mgI
  by_cases e : y = k
  · subst e
    rw [upI_at, if_pos (by omega)]
  · rw [upI_ne e]
    by_cases z : y < k
    · rw [if_pos z, if_pos (by omega)]
    · rw [if_neg z, if_neg (by omega)]
theorem mgI_0 {n o : Nat → Int32} : mgI n o 0 = o := rfl
theorem nar_b {v : Int32} (h : v = 0 ∨ v = 1) : vp_nar .boolean v = v := by
  rcases h with h | h <;> subst h <;> decide +kernel
set_option maxRecDepth 20000 in
theorem book_a {h : mH} {Q : Option Value → mH → Prop} {f : Nat} {pa my rp mn : Nat → Int32} (hs : mS h) (hf : f ≤ 4) (e21 : hI h 153 21 = nI f) (epa : hI h 159 = pa) (emy : hI h 161 = my) (hrp : ∀ k, k < f → hI h 157 k = rp k) (hmn : ∀ k, k < f → hI h 160 k = mn k) (hmb : ∀ k, k < f → mn k = 0 ∨ mn k = 1) (K : ∀ k h', mFr (mP [] [159, 161]) h h' → hI h' 159 = mgI rp pa f → hI h' 161 = mgI mn my f → Wp mX12_book 4 91 121 [some (.ref 153), some (.int (nI k))] [] h' Q) : Wp mX12_book 4 91 83 [some (.ref 153), some (.int (nI 0))] [] h Q := by
  have hloop : ∀  (n : Nat) (k : Nat) (h1 : mH), (k ≤ f) → (mS h1) → (mFr (mP [] [159, 161]) h h1) → (hI h1 159 = mgI rp pa k) → (hI h1 161 = mgI mn my k) → (hI h1 153 21 = nI f) → (hI h1 157 = hI h 157) → (hI h1 160 = hI h 160) → (f < k + n) → Wp mX12_book 4 91 83 [some (.ref 153), some (.int (nI k))] [] h1 Q := by
    intro n
    induction n with
    | zero => intros; omega
    | succ n ih =>
      intro k h1 hk hs1 hf1 e1 e2 e3 e4 e5 hmz
      refine wp_iload_n dX12_book_83 rfl rfl ?_
      refine wp_aload_n dX12_book_84 rfl rfl ?_
      refine wp_getIV dX12_book_85 lX12_137 rfl (mO hs1) e3 ?_
      refine wp_icmp_geN dX12_book_88 rfl rfl ⟨by omega, by omega⟩ (fun c1 => ?_) (fun c1 => ?_)
      · have e9 : k = f := by omega
        subst e9
        exact K _ _ hf1 e1 e2
      · refine wp_aload_n dX12_book_91 rfl rfl ?_
        refine wp_getR dX12_book_92 lX12_33 rfl (mO hs1) (mR_parent hs1) ?_
        refine wp_iload_n dX12_book_95 rfl rfl ?_
        refine wp_aload_n dX12_book_96 rfl rfl ?_
        refine wp_getR dX12_book_97 lX12_27 rfl (mO hs1) (mR_readParent hs1) ?_
        refine wp_iload_n dX12_book_100 rfl rfl ?_
        refine wp_ialdV dX12_book_101 (mA_readParent hs1) rfl ⟨by omega, by decide⟩ ((congrFun e4 k).trans (hrp k (by omega))) ?_
        refine wp_iastN dX12_book_102 (mA_parent hs1) rfl ⟨by omega, by decide⟩ ?_
        refine sealAI e1 (fun hh1 f1 e1 => ?_)
        have S1 := f1.s hs1
        have eI161_1 := (f1.Ir (by decide) (by decide)).trans e2
        have efI21_1 := (f1.fI 21 (by decide) (by decide)).trans e3
        have eI157_1 := (f1.Ir (by decide) (by decide)).trans e4
        have eI160_1 := (f1.Ir (by decide) (by decide)).trans e5
        refine wp_aload_n dX12_book_103 rfl rfl ?_
        refine wp_getR dX12_book_104 lX12_40 rfl (mO S1) (mR_isMany S1) ?_
        refine wp_iload_n dX12_book_107 rfl rfl ?_
        refine wp_aload_n dX12_book_108 rfl rfl ?_
        refine wp_getR dX12_book_109 lX12_36 rfl (mO S1) (mR_readMany S1) ?_
        refine wp_iload_n dX12_book_112 rfl rfl ?_
        refine wp_zaldV dX12_book_113 (mA_readMany S1) rfl ⟨by omega, by decide⟩ ((congrFun eI160_1 k).trans (hmn k (by omega))) ?_
        refine wp_zastN dX12_book_114 (mA_isMany S1) rfl ⟨by omega, by decide⟩ ?_
        refine sealAI eI161_1 (fun hh2 f2 e2 => ?_)
        have S2 := f2.s S1
        have efI21_2 := (f2.fI 21 (by decide) (by decide)).trans efI21_1
        have eI157_2 := (f2.Ir (by decide) (by decide)).trans eI157_1
        have eI160_2 := (f2.Ir (by decide) (by decide)).trans eI160_1
        have eI159_2 := (f2.Ir (by decide) (by decide)).trans e1
        refine wp_iinc1 (ls1 := [_, some _]) dX12_book_115 rfl (by decide) rfl ?_
        refine wp_goto dX12_book_118 ?_
        refine ih (k + 1) _ (by omega) S2 (((hf1.up (by decide) (by decide)).tr (f1.up (by decide) (by decide))).tr (f2.up (by decide) (by decide))) (eI159_2.trans (mgI_s rfl)) (e2.trans (mgI_s (nar_b (hmb k (by omega))))) efI21_2 eI157_2 eI160_2 (by omega)
  exact hloop (f + 1) 0 h (by omega) hs mFr.rf (epa.trans mgI_0.symm) (emy.trans mgI_0.symm) e21 rfl rfl (by omega)
set_option maxRecDepth 20000 in
theorem book_b {h : mH} {Q : Option Value → mH → Prop} {r : Nat → Int64} (hs : mS h) (er : hL h 162 = r) (K : ∀ k h', mFr (mP [] [162]) h h' → hL h' 162 = bk0 r 935 → Wp mX12_book 4 91 143 [some (.ref 153), some (.int (nI k))] [] h' Q) : Wp mX12_book 4 91 123 [some (.ref 153), some (.int (nI 0))] [] h Q := by
  have hloop : ∀  (n : Nat) (k : Nat) (h1 : mH), (k ≤ 935) → (mS h1) → (mFr (mP [] [162]) h h1) → (hL h1 162 = bk0 r k) → (935 < k + n) → Wp mX12_book 4 91 123 [some (.ref 153), some (.int (nI k))] [] h1 Q := by
    intro n
    induction n with
    | zero => intros; omega
    | succ n ih =>
      intro k h1 hk hs1 hf1 e1 hmz
      refine wp_iload_n dX12_book_123 rfl rfl ?_
      refine wp_sipush (v := (nI 935)) dX12_book_124 (by decide +kernel) ?_
      refine wp_icmp_geN dX12_book_127 rfl rfl ⟨by omega, by omega⟩ (fun c1 => ?_) (fun c1 => ?_)
      · have e9 : k = 935 := by omega
        subst e9
        exact K _ _ hf1 e1
      · refine wp_aload_n dX12_book_130 rfl rfl ?_
        refine wp_getR dX12_book_131 lX12_43 rfl (mO hs1) (mR_now hs1) ?_
        refine wp_iload_n dX12_book_134 rfl rfl ?_
        refine wp_lconst (v := 0) dX12_book_135 (by decide +kernel) ?_
        refine wp_lastN dX12_book_136 (mA_now hs1) rfl ⟨by omega, by decide⟩ ?_
        refine sealAL e1 (fun hh1 f1 e1 => ?_)
        have S1 := f1.s hs1
        refine wp_iinc1 (ls1 := [_, some _]) dX12_book_137 rfl (by decide) rfl ?_
        refine wp_goto dX12_book_140 ?_
        refine ih (k + 1) _ (by omega) S1 ((hf1.up (by decide) (by decide)).tr (f1.up (by decide) (by decide))) (e1.trans bk0_s) (by omega)
  exact hloop 936 0 h (by omega) hs mFr.rf (er.trans (by funext y; unfold bk0; rw [if_neg (by omega)])) (by omega)
set_option maxRecDepth 20000 in
theorem book_c {h : mH} {Q : Option Value → mH → Prop} {P : Nat} {ct : Nat → Nat} {rw : Nat → Nat → Int64} (hs : mS h) (hP : P ≤ 6) (er : hL h 162 = bkR P ct rw 0) (e20 : hI h 153 20 = nI P) (hpg : ∀ p, p < P → hI h 158 p = nI (ct p) ∧ ∀ j, j < ct p → hL h 156 (40 * p + j) = rw p j) (hct : ∀ p, p < P → 0 < ct p ∧ ct p ≤ 40) (K : ∀ k h', mFr (mP [] [162]) h h' → hL h' 162 = bkR P ct rw P → Wp mX12_book 4 91 176 [some (.ref 153), some (.int (nI k))] [] h' Q) : Wp mX12_book 4 91 156 [some (.ref 153), some (.int (nI 0))] [] h Q := by
  have hloop : ∀  (n : Nat) (k : Nat) (h1 : mH), (k ≤ P) → (mS h1) → (mFr (mP [] [162]) h h1) → (hL h1 162 = bkR P ct rw k) → (hI h1 153 20 = nI P) → (hI h1 158 = hI h 158) → (hL h1 156 = hL h 156) → (P < k + n) → Wp mX12_book 4 91 156 [some (.ref 153), some (.int (nI k))] [] h1 Q := by
    intro n
    induction n with
    | zero => intros; omega
    | succ n ih =>
      intro k h1 hk hs1 hf1 e1 e2 e4 e5 hmz
      refine wp_iload_n dX12_book_156 rfl rfl ?_
      refine wp_aload_n dX12_book_157 rfl rfl ?_
      refine wp_getIV dX12_book_158 lX12_209 rfl (mO hs1) e2 ?_
      refine wp_icmp_geN dX12_book_161 rfl rfl ⟨by omega, by omega⟩ (fun c1 => ?_) (fun c1 => ?_)
      · have e9 : k = P := by omega
        subst e9
        exact K _ _ hf1 e1
      · refine wp_aload_n dX12_book_164 rfl rfl ?_
        refine wp_iload_n dX12_book_165 rfl rfl ?_
        refine wp_iload_n dX12_book_166 rfl rfl ?_
        refine wp_cV2 0 0 [some _, some _, some _, none] dX12_book_167 tX12_comesPage rfl (by decide) nX12_comesPage vX12_comesPage lX12_245 ⟨by decide, by decide⟩ (Nat.le_of_ble_eq_true rfl) (mO hs1) (Nat.le_of_ble_eq_true rfl) rfl ?_
        refine pX12_comesPage hs1 e1 (by omega) (by omega) ((congrFun e4 k).trans (hpg k (by omega)).1) (hct k (by omega)).2 (fun j hj => (congrFun e5 _).trans ((hpg k (by omega)).2 j hj)) (fun hh1 f1 e1 => ?_)
        intro _ _
        have S1 := f1.s hs1
        have efI20_1 := (f1.fI 20 (by decide) (by decide)).trans e2
        have eI158_1 := (f1.Ir (by decide) (by decide)).trans e4
        have eL156_1 := (f1.Lr (by decide) (by decide)).trans e5
        refine wp_iinc1 (ls1 := [_, some _]) dX12_book_170 rfl (by decide) rfl ?_
        refine wp_goto dX12_book_173 ?_
        exact ih (k + 1) _ (by omega) S1 ((hf1.up (by decide) (by decide)).tr (f1.up (by decide) (by decide))) e1 efI20_1 eI158_1 eL156_1 (by omega)
  exact hloop (P + 1) 0 h (by omega) hs mFr.rf er e20 rfl rfl (by omega)
set_option maxRecDepth 20000 in
theorem pX12_book {h : mH} {Q : Option Value → mH → Prop} {r : Nat → Int64} {F : Nat} {pa my : Nat → Int32} {pr : Nat → Nat → Int64} {a u : Nat} {bx : Nat → Nat → Int64} {kp tp : Nat → Int32} {t : Nat} {tf tl : Int32} (ht : mT h r F pa my pr a u bx kp tp t tf tl) (hby : byt tp) (he : ∀ fa pl, bkL tp t 11 0 0 (fun _ => 0) (fun _ => 0) (fun _ => 0) 0 (fun _ => 0) (fun _ _ => 0) = .error (fa, pl) → ∀ h', mFr pwM h h' → mT h' r F pa my pr a u bx kp tp 0 (nI fa) (nI pl) → Q (some (.int (-1))) h') (hq : ∀ f rp nm mn P ct rw, bkL tp t 11 0 0 (fun _ => 0) (fun _ => 0) (fun _ => 0) 0 (fun _ => 0) (fun _ _ => 0) = .ok (f, rp, mn, P, ct, rw) → bkI f nm rp mn P ct → ∀ h', mFr pwM h h' → mT h' (bkR P ct rw P) f (mgI rp pa f) (mgI mn my f) pr 0 0 bx (upI (upI kp 0 (vp_nar .boolean (nI 0))) 1 (vp_nar .boolean (nI 0))) tp 0 (nI 0) (-1) → Q (some (.int (nI P))) h') : Wp mX12_book 4 91 0 [some (.ref 153), none] [] h Q := by
  refine wp_aload_n dX12_book_0 rfl rfl ?_
  refine wp_cV0 2 43 [some _] dX12_book_1 tX12_beginsText rfl (by decide) nX12_beginsText vX12_beginsText lX12_233 ⟨by decide, by decide⟩ (Nat.le_of_ble_eq_true rfl) (mO ht.1.1) (Nat.le_of_ble_eq_true rfl) rfl ?_
  refine pX12_beginsText ht hby (fun hh1 f1 g1 t1 e81 => ?_)
  intro _ _
  refine wp_aload_n dX12_book_4 rfl rfl ?_
  refine wp_cV0 0 0 [some _] dX12_book_5 tX12_begins rfl (by decide) nX12_begins vX12_begins lX12_134 ⟨by decide, by decide⟩ (Nat.le_of_ble_eq_true rfl) (mO t1.1.1) (Nat.le_of_ble_eq_true rfl) rfl ?_
  refine pX12_begins t1.1.1 (fun hh2 f2 e192 e202 => ?_)
  intro _ _
  have t2 := t1.fr (f2.up (by decide) (by decide))
  have g2 := g1.fr f2 (by decide) (by decide)
  have efI8_2 := (f2.fI 8 (by decide) (by decide)).trans e81
  have rd2 : rdS hh2 0 (fun _ => 0) (fun _ => 0) (fun _ => 0) 0 (fun _ => 0) (fun _ _ => 0) := ⟨e192, fun k hk => by omega, e202, fun p hp => by omega⟩
  refine book_loop 11 0 0 (fun _ => 0) (fun _ => 0) (fun _ => 0) 0 (fun _ => 0) (fun _ _ => 0) _ ⟨by omega, by omega, fun i j hi => by omega, fun k hk => by omega, fun k hk => by omega, fun p hp => by omega⟩ (by omega) mFr.rf g2 t2 rd2 efI8_2 (fun fa pl er hh3 f3 b3 t3 => ?_) (fun f9 nm9 rp9 mn9 P9 ct9 rw9 ok hi hh3 a9 f3 g3 t3 rd3 e83 => ?_)
  · refine wp_aload_n dX12_book_64 rfl rfl ?_
    refine wp_cV0 0 0 [some _] dX12_book_65 tX12_endsText rfl (by decide) nX12_endsText vX12_endsText lX12_242 ⟨by decide, by decide⟩ (Nat.le_of_ble_eq_true rfl) (mO t3.1.1) (Nat.le_of_ble_eq_true rfl) rfl ?_
    refine pX12_endsTextB t3 b3 (fun hh4 f4 t4 => ?_)
    intro _ _
    have b4 := b3.fr f4 (by decide) (by decide)
    refine wp_if_ne dX12_book_68 (fun q => absurd q (by decide +kernel)) (fun _ => ?_)
    refine wp_iconst (v := (-1)) dX12_book_71 (by decide +kernel) ?_
    refine wp_ireturn dX12_book_72 rfl ?_
    exact he _ _ er _ ((((f1.mM (by decide)).tr (f2.mM (by decide))).tr (f3.mM (by decide))).tr (f4.mM (by decide))) t4
  · have hf4 := hi.1
    have hP6 := hi.2.1
    refine wp_aload_n dX12_book_64 rfl rfl ?_
    refine wp_cV0 0 0 [some _] dX12_book_65 tX12_endsText rfl (by decide) nX12_endsText vX12_endsText lX12_242 ⟨by decide, by decide⟩ (Nat.le_of_ble_eq_true rfl) (mO t3.1.1) (Nat.le_of_ble_eq_true rfl) rfl ?_
    refine pX12_endsText t3 g3 e83 (fun hh5 f5 t5 => ?_)
    intro _ _
    have g5 := g3.fr f5 (by decide) (by decide)
    have rd5 := rd3.fr f5 (by decide) (by decide)
    have efI8_5 := (f5.fI 8 (by decide) (by decide)).trans e83
    refine wp_if_ne dX12_book_68 (fun _ => ?_) (fun q => absurd q (by decide +kernel))
    have S6 := t5.1.1
    have rq6 := rd5
    have tq6 := t5
    have past6 : ∀ i, i < 16 → pastR hh5 i = pr i := t5.pp
    have boxs6 : ∀ b, b < 2 → boxR hh5 b = bx b := t5.bb
    refine wp_aload_n dX12_book_73 rfl rfl ?_
    refine wp_aload_n dX12_book_74 rfl rfl ?_
    refine wp_getIV dX12_book_75 lX12_206 rfl (mO S6) rd5.1 ?_
    refine wp_putI dX12_book_78 lX12_137 rfl (Or.inl rfl) (mO S6) rfl rfl ?_
    refine sealI (fun hh7 f7 e7 => ?_)
    have S7 := f7.s S6
    have g7 := g5.fr f7 (by decide) (by decide)
    have efI8_7 := (f7.fI 8 (by decide) (by decide)).trans efI8_5
    have eL162_7 := (f7.Lr (by decide) (by decide)).trans t5.1.2.1
    have eI159_7 := (f7.Ir (by decide) (by decide)).trans t5.1.2.2.2.1
    have eI161_7 := (f7.Ir (by decide) (by decide)).trans t5.1.2.2.2.2
    have eL166_7 := (f7.Lr (by decide) (by decide)).trans (rfl : hL hh5 166 = hL hh5 166)
    have eL190_7 := (f7.Lr (by decide) (by decide)).trans (rfl : hL hh5 190 = hL hh5 190)
    have eI191_7 := (f7.Ir (by decide) (by decide)).trans t5.kk
    have eI154_7 := (f7.Ir (by decide) (by decide)).trans t5.tt
    have efI1_7 := (f7.fI 1 (by decide) (by decide)).trans t5.t9.1
    have efI9_7 := (f7.fI 9 (by decide) (by decide)).trans t5.ff
    have efI10_7 := (f7.fI 10 (by decide) (by decide)).trans t5.ll
    have efI19_7 := (f7.fI 19 (by decide) (by decide)).trans rd5.1
    have efI20_7 := (f7.fI 20 (by decide) (by decide)).trans rd5.2.2.1
    have eI157_7 := (f7.Ir (by decide) (by decide)).trans (rfl : hI hh5 157 = hI hh5 157)
    have eI160_7 := (f7.Ir (by decide) (by decide)).trans (rfl : hI hh5 160 = hI hh5 160)
    have eI158_7 := (f7.Ir (by decide) (by decide)).trans (rfl : hI hh5 158 = hI hh5 158)
    have eL156_7 := (f7.Lr (by decide) (by decide)).trans (rfl : hL hh5 156 = hL hh5 156)
    refine wp_iconst (v := (nI 0)) dX12_book_81 (by decide +kernel) ?_
    refine wp_istore_n (ls1 := [_, some _]) dX12_book_82 rfl (by decide) rfl ?_
    refine book_a S7 hf4 e7 eI159_7 eI161_7 (fun k hk => (congrFun eI157_7 k).trans (rq6.2.1 k hk).2.1) (fun k hk => (congrFun eI160_7 k).trans (rq6.2.1 k hk).2.2) hi.2.2.2.1 (fun k8 hh8 f8 ep8 em8 => ?_)
    have S8 := f8.s S7
    have g8 := g7.fr f8 (by decide) (by decide)
    have efI8_8 := (f8.fI 8 (by decide) (by decide)).trans efI8_7
    have eL162_8 := (f8.Lr (by decide) (by decide)).trans eL162_7
    have eL166_8 := (f8.Lr (by decide) (by decide)).trans eL166_7
    have eL190_8 := (f8.Lr (by decide) (by decide)).trans eL190_7
    have eI191_8 := (f8.Ir (by decide) (by decide)).trans eI191_7
    have eI154_8 := (f8.Ir (by decide) (by decide)).trans eI154_7
    have efI1_8 := (f8.fI 1 (by decide) (by decide)).trans efI1_7
    have efI9_8 := (f8.fI 9 (by decide) (by decide)).trans efI9_7
    have efI10_8 := (f8.fI 10 (by decide) (by decide)).trans efI10_7
    have efI19_8 := (f8.fI 19 (by decide) (by decide)).trans efI19_7
    have efI20_8 := (f8.fI 20 (by decide) (by decide)).trans efI20_7
    have eI157_8 := (f8.Ir (by decide) (by decide)).trans eI157_7
    have eI160_8 := (f8.Ir (by decide) (by decide)).trans eI160_7
    have eI158_8 := (f8.Ir (by decide) (by decide)).trans eI158_7
    have eL156_8 := (f8.Lr (by decide) (by decide)).trans eL156_7
    have efI21_8 := (f8.fI 21 (by decide) (by decide)).trans e7
    refine wp_iconst (v := (nI 0)) dX12_book_121 (by decide +kernel) ?_
    refine wp_istore_n (ls1 := [_, some _]) dX12_book_122 rfl (by decide) rfl ?_
    refine book_b S8 eL162_8 (fun k9 hh9 f9 e9 => ?_)
    have S9 := f9.s S8
    have g9 := g8.fr f9 (by decide) (by decide)
    have efI8_9 := (f9.fI 8 (by decide) (by decide)).trans efI8_8
    have eL166_9 := (f9.Lr (by decide) (by decide)).trans eL166_8
    have eL190_9 := (f9.Lr (by decide) (by decide)).trans eL190_8
    have eI191_9 := (f9.Ir (by decide) (by decide)).trans eI191_8
    have eI154_9 := (f9.Ir (by decide) (by decide)).trans eI154_8
    have efI1_9 := (f9.fI 1 (by decide) (by decide)).trans efI1_8
    have efI9_9 := (f9.fI 9 (by decide) (by decide)).trans efI9_8
    have efI10_9 := (f9.fI 10 (by decide) (by decide)).trans efI10_8
    have efI19_9 := (f9.fI 19 (by decide) (by decide)).trans efI19_8
    have efI20_9 := (f9.fI 20 (by decide) (by decide)).trans efI20_8
    have eI157_9 := (f9.Ir (by decide) (by decide)).trans eI157_8
    have eI160_9 := (f9.Ir (by decide) (by decide)).trans eI160_8
    have eI158_9 := (f9.Ir (by decide) (by decide)).trans eI158_8
    have eL156_9 := (f9.Lr (by decide) (by decide)).trans eL156_8
    have efI21_9 := (f9.fI 21 (by decide) (by decide)).trans efI21_8
    have eI159_9 := (f9.Ir (by decide) (by decide)).trans ep8
    have eI161_9 := (f9.Ir (by decide) (by decide)).trans em8
    refine wp_aload_n dX12_book_143 rfl rfl ?_
    refine wp_getR dX12_book_144 lX12_43 rfl (mO S9) (mR_now S9) ?_
    refine wp_iconst (v := (nI 0)) dX12_book_147 (by decide +kernel) ?_
    refine wp_aload_n dX12_book_148 rfl rfl ?_
    refine wp_getIV dX12_book_149 lX12_209 rfl (mO S9) efI20_9 ?_
    refine wp_i2l dX12_book_152 ?_
    refine wp_lastN dX12_book_153 (mA_now S9) rfl ⟨by omega, by decide⟩ ?_
    refine sealAL (e9.trans (bk0_z ht.zz)) (fun hh10 f10 e10 => ?_)
    have S10 := f10.s S9
    have g10 := g9.fr f10 (by decide) (by decide)
    have efI8_10 := (f10.fI 8 (by decide) (by decide)).trans efI8_9
    have eL166_10 := (f10.Lr (by decide) (by decide)).trans eL166_9
    have eL190_10 := (f10.Lr (by decide) (by decide)).trans eL190_9
    have eI191_10 := (f10.Ir (by decide) (by decide)).trans eI191_9
    have eI154_10 := (f10.Ir (by decide) (by decide)).trans eI154_9
    have efI1_10 := (f10.fI 1 (by decide) (by decide)).trans efI1_9
    have efI9_10 := (f10.fI 9 (by decide) (by decide)).trans efI9_9
    have efI10_10 := (f10.fI 10 (by decide) (by decide)).trans efI10_9
    have efI19_10 := (f10.fI 19 (by decide) (by decide)).trans efI19_9
    have efI20_10 := (f10.fI 20 (by decide) (by decide)).trans efI20_9
    have eI157_10 := (f10.Ir (by decide) (by decide)).trans eI157_9
    have eI160_10 := (f10.Ir (by decide) (by decide)).trans eI160_9
    have eI158_10 := (f10.Ir (by decide) (by decide)).trans eI158_9
    have eL156_10 := (f10.Lr (by decide) (by decide)).trans eL156_9
    have efI21_10 := (f10.fI 21 (by decide) (by decide)).trans efI21_9
    have eI159_10 := (f10.Ir (by decide) (by decide)).trans eI159_9
    have eI161_10 := (f10.Ir (by decide) (by decide)).trans eI161_9
    refine wp_iconst (v := (nI 0)) dX12_book_154 (by decide +kernel) ?_
    refine wp_istore_n (ls1 := [_, some _]) dX12_book_155 rfl (by decide) rfl ?_
    refine book_c (P := P9) (ct := ct9) (rw := rw9) S10 hP6 (e10.trans (by rw [nI_l (by omega)]; rfl)) efI20_10 (fun p hp => ⟨(congrFun eI158_10 p).trans (rq6.2.2.2 p hp).1, fun j hj => (congrFun eL156_10 _).trans ((rq6.2.2.2 p hp).2 j hj)⟩) hi.2.2.2.2.2 (fun k11 hh11 f11 e11 => ?_)
    have S11 := f11.s S10
    have g11 := g10.fr f11 (by decide) (by decide)
    have efI8_11 := (f11.fI 8 (by decide) (by decide)).trans efI8_10
    have eL166_11 := (f11.Lr (by decide) (by decide)).trans eL166_10
    have eL190_11 := (f11.Lr (by decide) (by decide)).trans eL190_10
    have eI191_11 := (f11.Ir (by decide) (by decide)).trans eI191_10
    have eI154_11 := (f11.Ir (by decide) (by decide)).trans eI154_10
    have efI1_11 := (f11.fI 1 (by decide) (by decide)).trans efI1_10
    have efI9_11 := (f11.fI 9 (by decide) (by decide)).trans efI9_10
    have efI10_11 := (f11.fI 10 (by decide) (by decide)).trans efI10_10
    have efI19_11 := (f11.fI 19 (by decide) (by decide)).trans efI19_10
    have efI20_11 := (f11.fI 20 (by decide) (by decide)).trans efI20_10
    have eI157_11 := (f11.Ir (by decide) (by decide)).trans eI157_10
    have eI160_11 := (f11.Ir (by decide) (by decide)).trans eI160_10
    have eI158_11 := (f11.Ir (by decide) (by decide)).trans eI158_10
    have eL156_11 := (f11.Lr (by decide) (by decide)).trans eL156_10
    have efI21_11 := (f11.fI 21 (by decide) (by decide)).trans efI21_10
    have eI159_11 := (f11.Ir (by decide) (by decide)).trans eI159_10
    have eI161_11 := (f11.Ir (by decide) (by decide)).trans eI161_10
    refine wp_aload_n dX12_book_176 rfl rfl ?_
    refine wp_iconst (v := (nI 0)) dX12_book_177 (by decide +kernel) ?_
    refine wp_putI dX12_book_178 lX12_249 rfl (Or.inl rfl) (mO S11) rfl rfl ?_
    refine sealI (fun hh12 f12 e12 => ?_)
    have S12 := f12.s S11
    have g12 := g11.fr f12 (by decide) (by decide)
    have efI8_12 := (f12.fI 8 (by decide) (by decide)).trans efI8_11
    have eL166_12 := (f12.Lr (by decide) (by decide)).trans eL166_11
    have eL190_12 := (f12.Lr (by decide) (by decide)).trans eL190_11
    have eI191_12 := (f12.Ir (by decide) (by decide)).trans eI191_11
    have eI154_12 := (f12.Ir (by decide) (by decide)).trans eI154_11
    have efI1_12 := (f12.fI 1 (by decide) (by decide)).trans efI1_11
    have efI9_12 := (f12.fI 9 (by decide) (by decide)).trans efI9_11
    have efI10_12 := (f12.fI 10 (by decide) (by decide)).trans efI10_11
    have efI19_12 := (f12.fI 19 (by decide) (by decide)).trans efI19_11
    have efI20_12 := (f12.fI 20 (by decide) (by decide)).trans efI20_11
    have eI157_12 := (f12.Ir (by decide) (by decide)).trans eI157_11
    have eI160_12 := (f12.Ir (by decide) (by decide)).trans eI160_11
    have eI158_12 := (f12.Ir (by decide) (by decide)).trans eI158_11
    have eL156_12 := (f12.Lr (by decide) (by decide)).trans eL156_11
    have efI21_12 := (f12.fI 21 (by decide) (by decide)).trans efI21_11
    have eI159_12 := (f12.Ir (by decide) (by decide)).trans eI159_11
    have eI161_12 := (f12.Ir (by decide) (by decide)).trans eI161_11
    have eL162_12 := (f12.Lr (by decide) (by decide)).trans e11
    refine wp_aload_n dX12_book_181 rfl rfl ?_
    refine wp_iconst (v := (nI 0)) dX12_book_182 (by decide +kernel) ?_
    refine wp_putI dX12_book_183 lX12_252 rfl (Or.inl rfl) (mO S12) rfl rfl ?_
    refine sealI (fun hh13 f13 e13 => ?_)
    have S13 := f13.s S12
    have g13 := g12.fr f13 (by decide) (by decide)
    have efI8_13 := (f13.fI 8 (by decide) (by decide)).trans efI8_12
    have eL166_13 := (f13.Lr (by decide) (by decide)).trans eL166_12
    have eL190_13 := (f13.Lr (by decide) (by decide)).trans eL190_12
    have eI191_13 := (f13.Ir (by decide) (by decide)).trans eI191_12
    have eI154_13 := (f13.Ir (by decide) (by decide)).trans eI154_12
    have efI1_13 := (f13.fI 1 (by decide) (by decide)).trans efI1_12
    have efI9_13 := (f13.fI 9 (by decide) (by decide)).trans efI9_12
    have efI10_13 := (f13.fI 10 (by decide) (by decide)).trans efI10_12
    have efI19_13 := (f13.fI 19 (by decide) (by decide)).trans efI19_12
    have efI20_13 := (f13.fI 20 (by decide) (by decide)).trans efI20_12
    have eI157_13 := (f13.Ir (by decide) (by decide)).trans eI157_12
    have eI160_13 := (f13.Ir (by decide) (by decide)).trans eI160_12
    have eI158_13 := (f13.Ir (by decide) (by decide)).trans eI158_12
    have eL156_13 := (f13.Lr (by decide) (by decide)).trans eL156_12
    have efI21_13 := (f13.fI 21 (by decide) (by decide)).trans efI21_12
    have eI159_13 := (f13.Ir (by decide) (by decide)).trans eI159_12
    have eI161_13 := (f13.Ir (by decide) (by decide)).trans eI161_12
    have eL162_13 := (f13.Lr (by decide) (by decide)).trans eL162_12
    have efI28_13 := (f13.fI 28 (by decide) (by decide)).trans e12
    refine wp_iconst (v := (nI 0)) dX12_book_186 (by decide +kernel) ?_
    refine wp_istore_n (ls1 := [_, some _]) dX12_book_187 rfl (by decide) rfl ?_
    refine wp_iload_n dX12_book_188 rfl rfl ?_
    refine wp_iconst (v := (nI 2)) dX12_book_189 (by decide +kernel) ?_
    refine wp_icmp_ge dX12_book_190 (fun q => absurd q (by decide +kernel)) (fun _ => ?_)
    refine wp_aload_n dX12_book_193 rfl rfl ?_
    refine wp_getR dX12_book_194 lX12_131 rfl (mO S13) (mR_isKept S13) ?_
    refine wp_iload_n dX12_book_197 rfl rfl ?_
    refine wp_iconst (v := (nI 0)) dX12_book_198 (by decide +kernel) ?_
    refine wp_zastN dX12_book_199 (mA_isKept S13) rfl ⟨by omega, by decide⟩ ?_
    refine sealAI eI191_13 (fun hh14 f14 e14 => ?_)
    have S14 := f14.s S13
    have g14 := g13.fr f14 (by decide) (by decide)
    have efI8_14 := (f14.fI 8 (by decide) (by decide)).trans efI8_13
    have eL166_14 := (f14.Lr (by decide) (by decide)).trans eL166_13
    have eL190_14 := (f14.Lr (by decide) (by decide)).trans eL190_13
    have eI154_14 := (f14.Ir (by decide) (by decide)).trans eI154_13
    have efI1_14 := (f14.fI 1 (by decide) (by decide)).trans efI1_13
    have efI9_14 := (f14.fI 9 (by decide) (by decide)).trans efI9_13
    have efI10_14 := (f14.fI 10 (by decide) (by decide)).trans efI10_13
    have efI19_14 := (f14.fI 19 (by decide) (by decide)).trans efI19_13
    have efI20_14 := (f14.fI 20 (by decide) (by decide)).trans efI20_13
    have eI157_14 := (f14.Ir (by decide) (by decide)).trans eI157_13
    have eI160_14 := (f14.Ir (by decide) (by decide)).trans eI160_13
    have eI158_14 := (f14.Ir (by decide) (by decide)).trans eI158_13
    have eL156_14 := (f14.Lr (by decide) (by decide)).trans eL156_13
    have efI21_14 := (f14.fI 21 (by decide) (by decide)).trans efI21_13
    have eI159_14 := (f14.Ir (by decide) (by decide)).trans eI159_13
    have eI161_14 := (f14.Ir (by decide) (by decide)).trans eI161_13
    have eL162_14 := (f14.Lr (by decide) (by decide)).trans eL162_13
    have efI28_14 := (f14.fI 28 (by decide) (by decide)).trans efI28_13
    have efI29_14 := (f14.fI 29 (by decide) (by decide)).trans e13
    refine wp_iinc1 (ls1 := [_, some _]) dX12_book_200 rfl (by decide) rfl ?_
    refine wp_goto dX12_book_203 ?_
    refine wp_iload_n dX12_book_188 rfl rfl ?_
    refine wp_iconst (v := (nI 2)) dX12_book_189 (by decide +kernel) ?_
    refine wp_icmp_ge dX12_book_190 (fun q => absurd q (by decide +kernel)) (fun _ => ?_)
    refine wp_aload_n dX12_book_193 rfl rfl ?_
    refine wp_getR dX12_book_194 lX12_131 rfl (mO S14) (mR_isKept S14) ?_
    refine wp_iload_n dX12_book_197 rfl rfl ?_
    refine wp_iconst (v := (nI 0)) dX12_book_198 (by decide +kernel) ?_
    refine wp_zastN dX12_book_199 (mA_isKept S14) rfl ⟨by omega, by decide⟩ ?_
    refine sealAI e14 (fun hh15 f15 e15 => ?_)
    have S15 := f15.s S14
    have g15 := g14.fr f15 (by decide) (by decide)
    have efI8_15 := (f15.fI 8 (by decide) (by decide)).trans efI8_14
    have eL166_15 := (f15.Lr (by decide) (by decide)).trans eL166_14
    have eL190_15 := (f15.Lr (by decide) (by decide)).trans eL190_14
    have eI154_15 := (f15.Ir (by decide) (by decide)).trans eI154_14
    have efI1_15 := (f15.fI 1 (by decide) (by decide)).trans efI1_14
    have efI9_15 := (f15.fI 9 (by decide) (by decide)).trans efI9_14
    have efI10_15 := (f15.fI 10 (by decide) (by decide)).trans efI10_14
    have efI19_15 := (f15.fI 19 (by decide) (by decide)).trans efI19_14
    have efI20_15 := (f15.fI 20 (by decide) (by decide)).trans efI20_14
    have eI157_15 := (f15.Ir (by decide) (by decide)).trans eI157_14
    have eI160_15 := (f15.Ir (by decide) (by decide)).trans eI160_14
    have eI158_15 := (f15.Ir (by decide) (by decide)).trans eI158_14
    have eL156_15 := (f15.Lr (by decide) (by decide)).trans eL156_14
    have efI21_15 := (f15.fI 21 (by decide) (by decide)).trans efI21_14
    have eI159_15 := (f15.Ir (by decide) (by decide)).trans eI159_14
    have eI161_15 := (f15.Ir (by decide) (by decide)).trans eI161_14
    have eL162_15 := (f15.Lr (by decide) (by decide)).trans eL162_14
    have efI28_15 := (f15.fI 28 (by decide) (by decide)).trans efI28_14
    have efI29_15 := (f15.fI 29 (by decide) (by decide)).trans efI29_14
    refine wp_iinc1 (ls1 := [_, some _]) dX12_book_200 rfl (by decide) rfl ?_
    refine wp_goto dX12_book_203 ?_
    refine wp_iload_n dX12_book_188 rfl rfl ?_
    refine wp_iconst (v := (nI 2)) dX12_book_189 (by decide +kernel) ?_
    refine wp_icmp_ge dX12_book_190 (fun _ => ?_) (fun q => absurd (by decide +kernel) q)
    refine wp_aload_n dX12_book_206 rfl rfl ?_
    refine wp_getIV dX12_book_207 lX12_209 rfl (mO S15) efI20_15 ?_
    refine wp_ireturn dX12_book_210 rfl ?_
    refine hq _ _ nm9 _ _ _ _ ok hi _ (((((((((((((f1.mM (by decide)).tr (f2.mM (by decide))).tr (f3.mM (by decide))).tr (f5.mM (by decide))).tr (f7.mM (by decide))).tr (f8.mM (by decide))).tr (f9.mM (by decide))).tr (f10.mM (by decide))).tr (f11.mM (by decide))).tr (f12.mM (by decide))).tr (f13.mM (by decide))).tr (f14.mM (by decide))).tr (f15.mM (by decide))) ⟨⟨S15, eL162_15, efI21_15, eI159_15, eI161_15⟩, bkR_z _ hP6, fun i hi9 => (pastR_eq eL166_15).trans (past6 i hi9), efI28_15, efI29_15, by omega, fun b hb => (boxR_eq eL190_15).trans (boxs6 b hb), e15.trans ?_, eI154_15, ⟨efI1_15, by omega⟩, efI9_15, efI10_15⟩
    rfl
