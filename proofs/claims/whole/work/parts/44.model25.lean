/-! ===== rules by a page ===== -/
def addS (B : Nat → Nat → Prop) (p : Nat) (S : Nat → Prop) : Nat → Nat → Prop := fun q x => B q x ∨ (q = p ∧ S x)
def bS (r : Nat → Int64) (pa : Nat → Int32) (f p a b c : Nat) (x : Nat) : Prop := x = kN a b c 0 ∨ (rB r f p 0 < rgB r pa f p ∧ ∃ w, w < 2 ∧ x = kN a b c (asC r p (rB r f p 0) w))
def bF (r : Nat → Int64) (pa : Nat → Int32) (f p e b c : Nat) (x : Nat) : Prop := bS r pa f p 0 b c x ∨ ∃ k, rgA r pa f p ≤ k ∧ k < e ∧ ∃ w, w < 2 ∧ bS r pa f p (asC r p k w) b c x
/-- the rules by a page's first part -/
def bNr (r : Nat → Int64) (pa : Nat → Int32) (f p : Nat) (x : Nat) : Prop := bF r pa f p (rA r f p 0) 0 0 x ∨ (rgA r pa f p + 1 ≤ rA r f p 0 ∧ ∃ w, w < 2 ∧ bF r pa f p (rA r f p 0 - 1) (asC r p (rA r f p 0 - 1) w) 0 x) ∨ (rgA r pa f p + 2 ≤ rA r f p 0 ∧ ∃ w, w < 4 ∧ bF r pa f p (rA r f p 0 - 2) (asC r p (rA r f p 0 - 2) (w / 2)) (asC r p (rA r f p 0 - 1) (w % 2)) x)
theorem asC_lt {r : Nat → Int64} {F : Nat} {pa my : Nat → Int32} {h : mH} {p k w : Nat} (hd : sOK r F pa my) (nx : numX r h) (hp : p < rP r) (hk : k < rT r p) : asC r p k w < 256 := by
  have h1 := List.idxOf_lt_length_of_mem (nx.2.2 p k hp hk).1
  have h2 := uqA_len hd.w
  have h3 := kd_lt (rW r p k)
  unfold asC
  split <;> omega
theorem ex2 {P : Nat → Prop} : (∃ w, w < 2 ∧ P w) ↔ P 0 ∨ P 1 := by
  constructor
  · rintro ⟨w, hw, q⟩
    rcases (by omega : w = 0 ∨ w = 1) with e | e <;> subst e
    · exact Or.inl q
    · exact Or.inr q
  · rintro (q | q)
    · exact ⟨0, by omega, q⟩
    · exact ⟨1, by omega, q⟩
theorem ex4 {P : Nat → Prop} : (∃ w, w < 4 ∧ P w) ↔ P 0 ∨ P 1 ∨ P 2 ∨ P 3 := by
  constructor
  · rintro ⟨w, hw, q⟩
    rcases (by omega : w = 0 ∨ w = 1 ∨ w = 2 ∨ w = 3) with e | e | e | e <;> subst e
    · exact Or.inl q
    · exact Or.inr (Or.inl q)
    · exact Or.inr (Or.inr (Or.inl q))
    · exact Or.inr (Or.inr (Or.inr q))
  · rintro (q | q | q | q)
    · exact ⟨0, by omega, q⟩
    · exact ⟨1, by omega, q⟩
    · exact ⟨2, by omega, q⟩
    · exact ⟨3, by omega, q⟩
theorem addS_s (B : Nat → Nat → Prop) (p : Nat) (S S' : Nat → Prop) : addS (addS B p S) p S' = addS B p (fun x => S x ∨ S' x) := by
  funext q x
  apply propext
  unfold addS
  constructor
  · rintro ((z | z) | z)
    · exact Or.inl z
    · exact Or.inr ⟨z.1, Or.inl z.2⟩
    · exact Or.inr ⟨z.1, Or.inr z.2⟩
  · rintro (z | ⟨z, w | w⟩)
    · exact Or.inl (Or.inl z)
    · exact Or.inl (Or.inr ⟨z, w⟩)
    · exact Or.inr ⟨z, w⟩
theorem addB_S (B : Nat → Nat → Prop) (p k : Nat) : addB B p k = addS B p (fun x => x = k) := rfl
theorem addS_cg {B : Nat → Nat → Prop} {p : Nat} {S S' : Nat → Prop} (e : ∀ x, S x ↔ S' x) : addS B p S = addS B p S' := by
  have : S = S' := by
    funext x
    exact propext (e x)
  rw [this]
theorem sub_ge {a b c : Nat} (ha : a < 1000) (hb : b < 1000) (hc : c < 1000) (h : ¬ nI a - nI b < nI c) : c + b ≤ a := by
  rw [Int32.lt_iff_toInt_lt, pk_sub_toInt (by omega) (by omega), nI_toInt (by omega)] at h
  omega
theorem sub_lt9 {a b c : Nat} (ha : a < 1000) (hb : b < 1000) (hc : c < 1000) (h : nI a - nI b < nI c) : a < c + b := by
  rw [Int32.lt_iff_toInt_lt, pk_sub_toInt (by omega) (by omega), nI_toInt (by omega)] at h
  omega
set_option maxRecDepth 20000 in
theorem pX12_comesStops {h : mH} {Q : Option Value → mH → Prop} {r : Nat → Int64} {F : Nat} {pa my : Nat → Int32} {B : Nat → Nat → Prop} {n f p a b c : Nat} (hc : mC h r F pa my) (hd : sOK r F pa my) (nx : numX r h) (ru : rulX h B n) (hf : f < F) (hp : p < rP r) (hn : n + 3 ≤ 12000) (ha : a < 256) (hb : b < 256) (hcc : c < 256) (hq : ∀ h' n', mFr (mP [41] [171, 172, 175]) h h' → n ≤ n' → n' ≤ n + 3 → rulX h' (addS B p (bS r pa f p a b c)) n' → Q none h') : Wp mX12_comesStops 3 73 0 [some (.ref 153), some (.int (nI f)), some (.int (nI p)), some (.int (itm a)), some (.int (itm b)), some (.int (itm c)), none, none] [] h Q := by
  have hF4 := hd.f4
  have hP6 := hd.w.1.2
  have hg := rg_le hd hf (show p < 6 by omega)
  have hb0 := (hd.ab f p 0 (by omega) (by omega) (by omega)).2
  refine wp_aload_n dX12_comesStops_0 rfl rfl ?_
  refine wp_iload_n dX12_comesStops_1 rfl rfl ?_
  refine wp_iload_n dX12_comesStops_2 rfl rfl ?_
  refine wp_iload dX12_comesStops_3 rfl ?_
  refine wp_iload dX12_comesStops_5 rfl ?_
  refine wp_iconst (v := (-1)) dX12_comesStops_7 (by decide +kernel) ?_
  refine wp_cV5 2 45 [some _, some _, some _, some _, some _, some _, none, none, none] dX12_comesStops_8 tX12_comesRule rfl (by decide) nX12_comesRule vX12_comesRule lX12_381 ⟨by decide, by decide⟩ (Nat.le_of_ble_eq_true rfl) (mO hc.1) (Nat.le_of_ble_eq_true rfl) rfl ?_
  refine pX12_comesRule (a := a) (b := b) (c := c) (d := 0) hc.1 ru (by omega) (by omega) ha hb hcc (by decide) (fun hh1 m1 f1 l1 u1 ru1 => ?_)
  intro _ _
  have mc1 := hc.fr f1 (by decide) (by decide) (by decide) (by decide) (by decide)
  have nx1 := nx.fr f1 (by decide) (by decide)
  refine wp_aload_n dX12_comesStops_11 rfl rfl ?_
  refine wp_iload_n dX12_comesStops_12 rfl rfl ?_
  refine wp_iload_n dX12_comesStops_13 rfl rfl ?_
  refine wp_iconst (v := (nI 0)) dX12_comesStops_14 (by decide +kernel) ?_
  refine wp_cV3 1 21 [some _, some _, some _, some _] dX12_comesStops_15 tX12_toOf rfl (by decide) nX12_toOf vX12_toOf lX12_305 ⟨by decide, by decide⟩ (Nat.le_of_ble_eq_true rfl) (mO mc1.1) (Nat.le_of_ble_eq_true rfl) rfl ?_
  refine pX12_toOf' mc1 hd (by omega) (by omega) (by omega) ?_
  intro _ _
  refine wp_istore (ls1 := [_, _, _, _, _, _, some _, _]) dX12_comesStops_18 (by decide) rfl ?_
  refine wp_iload dX12_comesStops_20 rfl ?_
  refine wp_aload_n dX12_comesStops_22 rfl rfl ?_
  refine wp_iload_n dX12_comesStops_23 rfl rfl ?_
  refine wp_iload_n dX12_comesStops_24 rfl rfl ?_
  refine wp_cV2 2 44 [some _, some _, some _] dX12_comesStops_25 tX12_regionTo rfl (by decide) nX12_regionTo vX12_regionTo lX12_350 ⟨by decide, by decide⟩ (Nat.le_of_ble_eq_true rfl) (mO mc1.1) (Nat.le_of_ble_eq_true rfl) rfl ?_
  refine pX12_regionTo mc1 hd (by omega) (by omega) ?_
  intro _ _
  refine wp_icmp_geN dX12_comesStops_28 rfl rfl ⟨by omega, by omega⟩ (fun c1 => ?_) (fun c1 => ?_)
  · refine wp_vreturn dX12_comesStops_65 rfl ?_
    refine hq _ m1 (f1.up (by decide) (by decide)) (by omega) (by omega) ?_
    have e9 := ru1
    try simp only [addB_S, addS_s] at e9
    rw [← addS_cg (S := _) (S' := bS r pa f p a b c) (B := B) (p := p)]
    exact e9
    intro x
    unfold bS
    exact ⟨fun z => Or.inl z, fun z => z.elim id (fun w => absurd w.1 (by omega))⟩
  · refine wp_iconst (v := (nI 0)) dX12_comesStops_31 (by decide +kernel) ?_
    refine wp_istore (ls1 := [_, _, _, _, _, _, _, some _]) dX12_comesStops_32 (by decide) rfl ?_
    refine wp_iload dX12_comesStops_34 rfl ?_
    refine wp_iconst (v := (nI 2)) dX12_comesStops_36 (by decide +kernel) ?_
    refine wp_icmp_ge dX12_comesStops_37 (fun q => absurd q (by decide +kernel)) (fun _ => ?_)
    refine wp_aload_n dX12_comesStops_40 rfl rfl ?_
    refine wp_iload_n dX12_comesStops_41 rfl rfl ?_
    refine wp_iload_n dX12_comesStops_42 rfl rfl ?_
    refine wp_iload dX12_comesStops_43 rfl ?_
    refine wp_iload dX12_comesStops_45 rfl ?_
    refine wp_aload_n dX12_comesStops_47 rfl rfl ?_
    refine wp_iload_n dX12_comesStops_48 rfl rfl ?_
    refine wp_iload dX12_comesStops_49 rfl ?_
    refine wp_iload dX12_comesStops_51 rfl ?_
    refine wp_cV3 0 0 [some _, some _, some _, some _] dX12_comesStops_53 tX12_asItem rfl (by decide) nX12_asItem vX12_asItem lX12_385 ⟨by decide, by decide⟩ (Nat.le_of_ble_eq_true rfl) (mO mc1.1) (Nat.le_of_ble_eq_true rfl) rfl ?_
    refine pX12_asItem (k := (rB r f p 0)) (how := 0) mc1 hd nx1 (by omega) (by omega) (by decide) ?_
    intro _ _
    refine wp_cV5 2 45 [some _, some _, some _, some _, some _, some _, none, none, none] dX12_comesStops_56 tX12_comesRule rfl (by decide) nX12_comesRule vX12_comesRule lX12_381 ⟨by decide, by decide⟩ (Nat.le_of_ble_eq_true rfl) (mO mc1.1) (Nat.le_of_ble_eq_true rfl) rfl ?_
    refine pX12_comesRule (a := a) (b := b) (c := c) (d := (asC r p (rB r f p 0) 0)) mc1.1 ru1 (by omega) (by omega) ha hb hcc (asC_lt hd nx1 (by omega) (by omega)) (fun hh3 m3 f3 l3 u3 ru3 => ?_)
    intro _ _
    have mc3 := mc1.fr f3 (by decide) (by decide) (by decide) (by decide) (by decide)
    have nx3 := nx1.fr f3 (by decide) (by decide)
    refine wp_iinc1 (ls1 := [_, _, _, _, _, _, _, some _]) dX12_comesStops_59 rfl (by decide) rfl ?_
    refine wp_goto dX12_comesStops_62 ?_
    refine wp_iload dX12_comesStops_34 rfl ?_
    refine wp_iconst (v := (nI 2)) dX12_comesStops_36 (by decide +kernel) ?_
    refine wp_icmp_ge dX12_comesStops_37 (fun q => absurd q (by decide +kernel)) (fun _ => ?_)
    refine wp_aload_n dX12_comesStops_40 rfl rfl ?_
    refine wp_iload_n dX12_comesStops_41 rfl rfl ?_
    refine wp_iload_n dX12_comesStops_42 rfl rfl ?_
    refine wp_iload dX12_comesStops_43 rfl ?_
    refine wp_iload dX12_comesStops_45 rfl ?_
    refine wp_aload_n dX12_comesStops_47 rfl rfl ?_
    refine wp_iload_n dX12_comesStops_48 rfl rfl ?_
    refine wp_iload dX12_comesStops_49 rfl ?_
    refine wp_iload dX12_comesStops_51 rfl ?_
    refine wp_cV3 0 0 [some _, some _, some _, some _] dX12_comesStops_53 tX12_asItem rfl (by decide) nX12_asItem vX12_asItem lX12_385 ⟨by decide, by decide⟩ (Nat.le_of_ble_eq_true rfl) (mO mc3.1) (Nat.le_of_ble_eq_true rfl) rfl ?_
    refine pX12_asItem (k := (rB r f p 0)) (how := 1) mc3 hd nx3 (by omega) (by omega) (by decide) ?_
    intro _ _
    refine wp_cV5 2 45 [some _, some _, some _, some _, some _, some _, none, none, none] dX12_comesStops_56 tX12_comesRule rfl (by decide) nX12_comesRule vX12_comesRule lX12_381 ⟨by decide, by decide⟩ (Nat.le_of_ble_eq_true rfl) (mO mc3.1) (Nat.le_of_ble_eq_true rfl) rfl ?_
    refine pX12_comesRule (a := a) (b := b) (c := c) (d := (asC r p (rB r f p 0) 1)) mc3.1 ru3 (by omega) (by omega) ha hb hcc (asC_lt hd nx3 (by omega) (by omega)) (fun hh5 m5 f5 l5 u5 ru5 => ?_)
    intro _ _
    have mc5 := mc3.fr f5 (by decide) (by decide) (by decide) (by decide) (by decide)
    have nx5 := nx3.fr f5 (by decide) (by decide)
    refine wp_iinc1 (ls1 := [_, _, _, _, _, _, _, some _]) dX12_comesStops_59 rfl (by decide) rfl ?_
    refine wp_goto dX12_comesStops_62 ?_
    refine wp_iload dX12_comesStops_34 rfl ?_
    refine wp_iconst (v := (nI 2)) dX12_comesStops_36 (by decide +kernel) ?_
    refine wp_icmp_ge dX12_comesStops_37 (fun _ => ?_) (fun q => absurd (by decide +kernel) q)
    refine wp_vreturn dX12_comesStops_65 rfl ?_
    refine hq _ m5 (((f1.up (by decide) (by decide)).tr (f3.up (by decide) (by decide))).tr (f5.up (by decide) (by decide))) (by omega) (by omega) ?_
    have e9 := ru5
    try simp only [addB_S, addS_s] at e9
    rw [← addS_cg (S := _) (S' := bS r pa f p a b c) (B := B) (p := p)]
    exact e9
    intro x
    unfold bS
    rw [show (∃ w, w < 2 ∧ x = kN a b c (asC r p (rB r f p 0) w)) ↔ _ from ex2]; exact ⟨fun z => z.elim (fun z => z.elim Or.inl (fun w => Or.inr ⟨by omega, Or.inl w⟩)) (fun w => Or.inr ⟨by omega, Or.inr w⟩), fun z => z.elim (fun w => Or.inl (Or.inl w)) (fun w => w.2.elim (fun w => Or.inl (Or.inr w)) Or.inr)⟩
theorem bF_0 {r : Nat → Int64} {pa : Nat → Int32} {f p b c : Nat} (x : Nat) : bS r pa f p 0 b c x ↔ bF r pa f p (rgA r pa f p) b c x := ⟨Or.inl, fun z => z.elim id (fun ⟨k, h1, h2, _⟩ => absurd h1 (by omega))⟩
theorem bF_s {r : Nat → Int64} {pa : Nat → Int32} {f p b c k : Nat} (hk : rgA r pa f p ≤ k) (x : Nat) : ((bF r pa f p k b c x ∨ bS r pa f p (asC r p k 0) b c x) ∨ bS r pa f p (asC r p k 1) b c x) ↔ bF r pa f p (k + 1) b c x := by
  unfold bF
  constructor
  · rintro (((z | ⟨j, h1, h2, w⟩) | z) | z)
    · exact Or.inl z
    · exact Or.inr ⟨j, h1, by omega, w⟩
    · exact Or.inr ⟨k, hk, by omega, 0, by omega, z⟩
    · exact Or.inr ⟨k, hk, by omega, 1, by omega, z⟩
  · rintro (z | ⟨j, h1, h2, w, hw, z⟩)
    · exact Or.inl (Or.inl (Or.inl z))
    · by_cases e : j = k
      · subst e
        rcases (by omega : w = 0 ∨ w = 1) with e | e <;> subst e
        · exact Or.inl (Or.inr z)
        · exact Or.inr z
      · exact Or.inl (Or.inl (Or.inr ⟨j, h1, by omega, w, hw, z⟩))
set_option maxRecDepth 20000 in
theorem pX12_comesFars {h : mH} {Q : Option Value → mH → Prop} {r : Nat → Int64} {F : Nat} {pa my : Nat → Int32} {B : Nat → Nat → Prop} {n f p e b c : Nat} (hc : mC h r F pa my) (hd : sOK r F pa my) (nx : numX r h) (ru : rulX h B n) (hf : f < F) (hp : p < rP r) (he : e ≤ rT r p) (hle : rgA r pa f p ≤ e) (hn : n + 3 + 6 * (e - rgA r pa f p) ≤ 12000) (hb : b < 256) (hcc : c < 256) (hq : ∀ h' n', mFr (mP [41] [171, 172, 175]) h h' → n ≤ n' → n' ≤ n + 3 + 6 * (e - rgA r pa f p) → rulX h' (addS B p (bF r pa f p e b c)) n' → Q none h') : Wp mX12_comesFars 4 100 0 [some (.ref 153), some (.int (nI f)), some (.int (nI p)), some (.int (nI e)), some (.int (itm b)), some (.int (itm c)), none, none] [] h Q := by
  have hF4 := hd.f4
  have hP6 := hd.w.1.2
  have hg := rg_le hd hf (show p < 6 by omega)
  have hb0 := (hd.ab f p 0 (by omega) (by omega) (by omega)).2
  have hloop : ∀  (t : Nat) (k : Nat) (x7 : Option Value) (m1 : Nat) (h1 : mH), (k ≤ e) → (rgA r pa f p ≤ k) → (mC h1 r F pa my) → (numX r h1) → (mFr (mP [41] [171, 172, 175]) h h1) → (rulX h1 (addS B p (bF r pa f p k b c)) m1) → (n ≤ m1) → (m1 ≤ n + 3 + 6 * (k - rgA r pa f p)) → (e < k + t) → Wp mX12_comesFars 4 100 19 [some (.ref 153), some (.int (nI f)), some (.int (nI p)), some (.int (nI e)), some (.int (itm b)), some (.int (itm c)), some (.int (nI k)), x7] [] h1 Q := by
    intro t
    induction t with
    | zero => intros; omega
    | succ t ih =>
      intro k x7 m1 h1 hk hlk hc1 nx1 hf1 ru1 hm1 hm2 hmz
      refine wp_iload dX12_comesFars_19 rfl ?_
      refine wp_iload_n dX12_comesFars_21 rfl rfl ?_
      refine wp_icmp_geN dX12_comesFars_22 rfl rfl ⟨by omega, by omega⟩ (fun c1 => ?_) (fun c1 => ?_)
      · refine wp_vreturn dX12_comesFars_65 rfl ?_
        have e9 : k = e := by omega
        subst e9
        exact hq _ _ hf1 hm1 (by omega) ru1
      · refine wp_iconst (v := (nI 0)) dX12_comesFars_25 (by decide +kernel) ?_
        refine wp_istore (ls1 := [_, _, _, _, _, _, _, some _]) dX12_comesFars_26 (by decide) rfl ?_
        refine wp_iload dX12_comesFars_28 rfl ?_
        refine wp_iconst (v := (nI 2)) dX12_comesFars_30 (by decide +kernel) ?_
        refine wp_icmp_ge dX12_comesFars_31 (fun q => absurd q (by decide +kernel)) (fun _ => ?_)
        refine wp_aload_n dX12_comesFars_34 rfl rfl ?_
        refine wp_iload_n dX12_comesFars_35 rfl rfl ?_
        refine wp_iload_n dX12_comesFars_36 rfl rfl ?_
        refine wp_aload_n dX12_comesFars_37 rfl rfl ?_
        refine wp_iload_n dX12_comesFars_38 rfl rfl ?_
        refine wp_iload dX12_comesFars_39 rfl ?_
        refine wp_iload dX12_comesFars_41 rfl ?_
        refine wp_cV3 0 0 [some _, some _, some _, some _] dX12_comesFars_43 tX12_asItem rfl (by decide) nX12_asItem vX12_asItem lX12_385 ⟨by decide, by decide⟩ (Nat.le_of_ble_eq_true rfl) (mO hc1.1) (Nat.le_of_ble_eq_true rfl) rfl ?_
        refine pX12_asItem (k := k) (how := 0) hc1 hd nx1 (by omega) (by omega) (by decide) ?_
        intro _ _
        refine wp_iload dX12_comesFars_46 rfl ?_
        refine wp_iload dX12_comesFars_48 rfl ?_
        refine wp_cV5 3 73 [some _, some _, some _, some _, some _, some _, none, none] dX12_comesFars_50 tX12_comesStops rfl (by decide) nX12_comesStops vX12_comesStops lX12_388 ⟨by decide, by decide⟩ (Nat.le_of_ble_eq_true rfl) (mO hc1.1) (Nat.le_of_ble_eq_true rfl) rfl ?_
        refine pX12_comesStops (a := (asC r p k 0)) (b := b) (c := c) hc1 hd nx1 ru1 hf hp (by omega) (asC_lt hd nx1 (by omega) (by omega)) hb hcc (fun hh2 m2 f2 l2 u2 ru2 => ?_)
        intro _ _
        have mc2 := hc1.fr f2 (by decide) (by decide) (by decide) (by decide) (by decide)
        have nx2 := nx1.fr f2 (by decide) (by decide)
        refine wp_iinc1 (ls1 := [_, _, _, _, _, _, _, some _]) dX12_comesFars_53 rfl (by decide) rfl ?_
        refine wp_goto dX12_comesFars_56 ?_
        refine wp_iload dX12_comesFars_28 rfl ?_
        refine wp_iconst (v := (nI 2)) dX12_comesFars_30 (by decide +kernel) ?_
        refine wp_icmp_ge dX12_comesFars_31 (fun q => absurd q (by decide +kernel)) (fun _ => ?_)
        refine wp_aload_n dX12_comesFars_34 rfl rfl ?_
        refine wp_iload_n dX12_comesFars_35 rfl rfl ?_
        refine wp_iload_n dX12_comesFars_36 rfl rfl ?_
        refine wp_aload_n dX12_comesFars_37 rfl rfl ?_
        refine wp_iload_n dX12_comesFars_38 rfl rfl ?_
        refine wp_iload dX12_comesFars_39 rfl ?_
        refine wp_iload dX12_comesFars_41 rfl ?_
        refine wp_cV3 0 0 [some _, some _, some _, some _] dX12_comesFars_43 tX12_asItem rfl (by decide) nX12_asItem vX12_asItem lX12_385 ⟨by decide, by decide⟩ (Nat.le_of_ble_eq_true rfl) (mO mc2.1) (Nat.le_of_ble_eq_true rfl) rfl ?_
        refine pX12_asItem (k := k) (how := 1) mc2 hd nx2 (by omega) (by omega) (by decide) ?_
        intro _ _
        refine wp_iload dX12_comesFars_46 rfl ?_
        refine wp_iload dX12_comesFars_48 rfl ?_
        refine wp_cV5 3 73 [some _, some _, some _, some _, some _, some _, none, none] dX12_comesFars_50 tX12_comesStops rfl (by decide) nX12_comesStops vX12_comesStops lX12_388 ⟨by decide, by decide⟩ (Nat.le_of_ble_eq_true rfl) (mO mc2.1) (Nat.le_of_ble_eq_true rfl) rfl ?_
        refine pX12_comesStops (a := (asC r p k 1)) (b := b) (c := c) mc2 hd nx2 ru2 hf hp (by omega) (asC_lt hd nx2 (by omega) (by omega)) hb hcc (fun hh4 m4 f4 l4 u4 ru4 => ?_)
        intro _ _
        have mc4 := mc2.fr f4 (by decide) (by decide) (by decide) (by decide) (by decide)
        have nx4 := nx2.fr f4 (by decide) (by decide)
        refine wp_iinc1 (ls1 := [_, _, _, _, _, _, _, some _]) dX12_comesFars_53 rfl (by decide) rfl ?_
        refine wp_goto dX12_comesFars_56 ?_
        refine wp_iload dX12_comesFars_28 rfl ?_
        refine wp_iconst (v := (nI 2)) dX12_comesFars_30 (by decide +kernel) ?_
        refine wp_icmp_ge dX12_comesFars_31 (fun _ => ?_) (fun q => absurd (by decide +kernel) q)
        refine wp_iinc1 (ls1 := [_, _, _, _, _, _, some _, _]) dX12_comesFars_59 rfl (by decide) rfl ?_
        refine wp_goto dX12_comesFars_62 ?_
        refine ih (k + 1) _ m4 _ (by omega) (by omega) mc4 nx4 (((hf1.up (by decide) (by decide)).tr (f2.up (by decide) (by decide))).tr (f4.up (by decide) (by decide))) ?_ (by omega) (by omega) (by omega)
        have e9 := ru4
        try simp only [addS_s] at e9
        rw [← addS_cg (S := _) (S' := bF r pa f p (k + 1) b c) (B := B) (p := p)]
        exact e9
        exact bF_s (by omega)
  refine wp_aload_n dX12_comesFars_0 rfl rfl ?_
  refine wp_iload_n dX12_comesFars_1 rfl rfl ?_
  refine wp_iload_n dX12_comesFars_2 rfl rfl ?_
  refine wp_iconst (v := (-1)) dX12_comesFars_3 (by decide +kernel) ?_
  refine wp_iload dX12_comesFars_4 rfl ?_
  refine wp_iload dX12_comesFars_6 rfl ?_
  refine wp_cV5 3 73 [some _, some _, some _, some _, some _, some _, none, none] dX12_comesFars_8 tX12_comesStops rfl (by decide) nX12_comesStops vX12_comesStops lX12_388 ⟨by decide, by decide⟩ (Nat.le_of_ble_eq_true rfl) (mO hc.1) (Nat.le_of_ble_eq_true rfl) rfl ?_
  refine pX12_comesStops (a := 0) (b := b) (c := c) hc hd nx ru hf hp (by omega) (by decide) hb hcc (fun hh1 m1 f1 l1 u1 ru1 => ?_)
  intro _ _
  have mc1 := hc.fr f1 (by decide) (by decide) (by decide) (by decide) (by decide)
  have nx1 := nx.fr f1 (by decide) (by decide)
  refine wp_aload_n dX12_comesFars_11 rfl rfl ?_
  refine wp_iload_n dX12_comesFars_12 rfl rfl ?_
  refine wp_iload_n dX12_comesFars_13 rfl rfl ?_
  refine wp_cV2 2 44 [some _, some _, some _] dX12_comesFars_14 tX12_regionFrom rfl (by decide) nX12_regionFrom vX12_regionFrom lX12_347 ⟨by decide, by decide⟩ (Nat.le_of_ble_eq_true rfl) (mO mc1.1) (Nat.le_of_ble_eq_true rfl) rfl ?_
  refine pX12_regionFrom mc1 hd (by omega) (by omega) ?_
  intro _ _
  refine wp_istore (ls1 := [_, _, _, _, _, _, some _, _]) dX12_comesFars_17 (by decide) rfl ?_
  refine hloop (e + 1) _ _ _ _ hle (Nat.le_refl _) mc1 nx1 (f1.up (by decide) (by decide)) ?_ (by omega) (by omega) (by omega)
  have e9 := ru1
  rw [← addS_cg (S := _) (S' := bF r pa f p (rgA r pa f p) b c) (B := B) (p := p)]
  exact e9
  exact bF_0
theorem rgA_le {r : Nat → Int64} {F : Nat} {pa my : Nat → Int32} {f p : Nat} (s : sOK r F pa my) (hf : f < F) (hp : p < 6) (hm : 0 < rM r f p) : rgA r pa f p ≤ rA r f p 0 ∧ rA r f p 0 < rT r p ∧ rT r p ≤ 40 := by
  have h1 := (s.so f p 0 (by have := s.f4; omega) hp hm).1
  have h2 := (s.ab f p 0 (by have := s.f4; omega) hp (by omega)).2
  have h3 := (s.w.2.1 p hp).2
  refine ⟨?_, by omega, h3⟩
  unfold rgA
  split
  · omega
  · rename_i c
    rcases s.par f hf with e | ⟨g, hg, e, _⟩
    · exact absurd e c
    · rw [e, nOfI_nI (by have := s.f4; omega)]
      exact (s.ne f p g hf hp hm e (by have := s.f4; omega)).2.1
set_option maxRecDepth 20000 in
theorem pX12_comesNears {h : mH} {Q : Option Value → mH → Prop} {r : Nat → Int64} {F : Nat} {pa my : Nat → Int32} {B : Nat → Nat → Prop} {n f p : Nat} (hc : mC h r F pa my) (hd : sOK r F pa my) (nx : numX r h) (ru : rulX h B n) (hf : f < F) (hp : p < rP r) (hm : 0 < rM r f p) (hn : n + 1599 ≤ 12000) (hq : ∀ h' n', mFr (mP [41] [171, 172, 175]) h h' → n ≤ n' → n' ≤ n + 1599 → rulX h' (addS B p (bNr r pa f p)) n' → Q none h') : Wp mX12_comesNears 5 127 0 [some (.ref 153), some (.int (nI f)), some (.int (nI p)), none, none, none] [] h Q := by
  have hF4 := hd.f4
  have hP6 := hd.w.1.2
  have hg := rg_le hd hf (show p < 6 by omega)
  have hb0 := (hd.ab f p 0 (by omega) (by omega) (by omega)).2
  have hfr := rgA_le hd hf (show p < 6 by omega) hm
  refine wp_aload_n dX12_comesNears_0 rfl rfl ?_
  refine wp_iload_n dX12_comesNears_1 rfl rfl ?_
  refine wp_iload_n dX12_comesNears_2 rfl rfl ?_
  refine wp_iconst (v := (nI 0)) dX12_comesNears_3 (by decide +kernel) ?_
  refine wp_cV3 1 21 [some _, some _, some _, some _] dX12_comesNears_4 tX12_fromOf rfl (by decide) nX12_fromOf vX12_fromOf lX12_309 ⟨by decide, by decide⟩ (Nat.le_of_ble_eq_true rfl) (mO hc.1) (Nat.le_of_ble_eq_true rfl) rfl ?_
  refine pX12_fromOf' hc hd (by omega) (by omega) (by omega) ?_
  intro _ _
  refine wp_istore_n (ls1 := [_, _, _, some _, _, _]) dX12_comesNears_7 rfl (by decide) rfl ?_
  refine wp_aload_n dX12_comesNears_8 rfl rfl ?_
  refine wp_iload_n dX12_comesNears_9 rfl rfl ?_
  refine wp_iload_n dX12_comesNears_10 rfl rfl ?_
  refine wp_cV2 2 44 [some _, some _, some _] dX12_comesNears_11 tX12_regionFrom rfl (by decide) nX12_regionFrom vX12_regionFrom lX12_347 ⟨by decide, by decide⟩ (Nat.le_of_ble_eq_true rfl) (mO hc.1) (Nat.le_of_ble_eq_true rfl) rfl ?_
  refine pX12_regionFrom hc hd (by omega) (by omega) ?_
  intro _ _
  refine wp_istore (ls1 := [_, _, _, _, some _, _]) dX12_comesNears_14 (by decide) rfl ?_
  refine wp_aload_n dX12_comesNears_16 rfl rfl ?_
  refine wp_iload_n dX12_comesNears_17 rfl rfl ?_
  refine wp_iload_n dX12_comesNears_18 rfl rfl ?_
  refine wp_iload_n dX12_comesNears_19 rfl rfl ?_
  refine wp_iconst (v := (-1)) dX12_comesNears_20 (by decide +kernel) ?_
  refine wp_iconst (v := (-1)) dX12_comesNears_21 (by decide +kernel) ?_
  refine wp_cV5 4 100 [some _, some _, some _, some _, some _, some _, none, none] dX12_comesNears_22 tX12_comesFars rfl (by decide) nX12_comesFars vX12_comesFars lX12_391 ⟨by decide, by decide⟩ (Nat.le_of_ble_eq_true rfl) (mO hc.1) (Nat.le_of_ble_eq_true rfl) rfl ?_
  refine pX12_comesFars (b := 0) (c := 0) hc hd nx ru hf hp (by omega) (by omega) (by omega) (by decide) (by decide) (fun hh1 m1 f1 l1 u1 ru1 => ?_)
  intro _ _
  have mc1 := hc.fr f1 (by decide) (by decide) (by decide) (by decide) (by decide)
  have nx1 := nx.fr f1 (by decide) (by decide)
  refine wp_iconst (v := (nI 0)) dX12_comesNears_25 (by decide +kernel) ?_
  refine wp_istore (ls1 := [_, _, _, _, _, some _]) dX12_comesNears_26 (by decide) rfl ?_
  refine wp_iload dX12_comesNears_28 rfl ?_
  refine wp_iconst (v := (nI 2)) dX12_comesNears_30 (by decide +kernel) ?_
  refine wp_icmp_ge dX12_comesNears_31 (fun q => absurd q (by decide +kernel)) (fun _ => ?_)
  refine wp_iload_n dX12_comesNears_34 rfl rfl ?_
  refine wp_iconst (v := (nI 1)) dX12_comesNears_35 (by decide +kernel) ?_
  refine wp_isub dX12_comesNears_36 ?_
  refine wp_iload dX12_comesNears_37 rfl ?_
  refine wp_icmp_lt dX12_comesNears_39 (fun c2 => ?_) (fun c2 => ?_)
  · have hl1 : rA r f p 0 < rgA r pa f p + 1 := sub_lt9 (by omega) (by omega) (by omega) (by assumption)
    refine wp_iconst (v := (nI 0)) dX12_comesNears_68 (by decide +kernel) ?_
    refine wp_istore (ls1 := [_, _, _, _, _, some _]) dX12_comesNears_69 (by decide) rfl ?_
    refine wp_iload dX12_comesNears_71 rfl ?_
    refine wp_iconst (v := (nI 4)) dX12_comesNears_73 (by decide +kernel) ?_
    refine wp_icmp_ge dX12_comesNears_74 (fun q => absurd q (by decide +kernel)) (fun _ => ?_)
    refine wp_iload_n dX12_comesNears_77 rfl rfl ?_
    refine wp_iconst (v := (nI 2)) dX12_comesNears_78 (by decide +kernel) ?_
    refine wp_isub dX12_comesNears_79 ?_
    refine wp_iload dX12_comesNears_80 rfl ?_
    refine wp_icmp_lt dX12_comesNears_82 (fun c4 => ?_) (fun c4 => ?_)
    · have hl2 : rA r f p 0 < rgA r pa f p + 2 := sub_lt9 (by omega) (by omega) (by omega) (by assumption)
      refine wp_vreturn dX12_comesNears_124 rfl ?_
      refine hq _ m1 (f1.up (by decide) (by decide)) (by omega) (by omega) ?_
      have e9 := ru1
      try simp only [addS_s] at e9
      rw [← addS_cg (S := _) (S' := bNr r pa f p) (B := B) (p := p)]
      exact e9
      intro x
      unfold bNr
      exact ⟨Or.inl, fun z => z.elim id (fun z => z.elim (fun w => absurd w.1 (by omega)) (fun w => absurd w.1 (by omega)))⟩
    · have hl2 : rgA r pa f p + 2 ≤ rA r f p 0 := sub_ge (by omega) (by omega) (by omega) (by assumption)
      refine wp_aload_n dX12_comesNears_85 rfl rfl ?_
      refine wp_iload_n dX12_comesNears_86 rfl rfl ?_
      refine wp_iload_n dX12_comesNears_87 rfl rfl ?_
      refine wp_iload_n dX12_comesNears_88 rfl rfl ?_
      refine wp_iconst (v := (nI 2)) dX12_comesNears_89 (by decide +kernel) ?_
      refine wp_isub dX12_comesNears_90 ?_
      refine wp_aload_n dX12_comesNears_91 rfl rfl ?_
      refine wp_iload_n dX12_comesNears_92 rfl rfl ?_
      refine wp_iload_n dX12_comesNears_93 rfl rfl ?_
      refine wp_iconst (v := (nI 2)) dX12_comesNears_94 (by decide +kernel) ?_
      refine wp_isub dX12_comesNears_95 ?_
      refine wp_iload dX12_comesNears_96 rfl ?_
      refine wp_iconst (v := (nI 2)) dX12_comesNears_98 (by decide +kernel) ?_
      refine wp_idiv dX12_comesNears_99 (by decide) ?_
      rw [show (_ : Int32) = nI 0 from (by decide +kernel : nI 0 / nI 2 = nI 0)]
      refine wp_cV3 0 0 [some _, some _, some _, some _] dX12_comesNears_100 tX12_asItem rfl (by decide) nX12_asItem vX12_asItem lX12_385 ⟨by decide, by decide⟩ (Nat.le_of_ble_eq_true rfl) (mO mc1.1) (Nat.le_of_ble_eq_true rfl) rfl ?_
      try rw [pk_sub (by omega)]
      refine pX12_asItem (k := (rA r f p 0 - 2)) (how := 0) mc1 hd nx1 (by omega) (by omega) (by decide) ?_
      intro _ _
      refine wp_aload_n dX12_comesNears_103 rfl rfl ?_
      refine wp_iload_n dX12_comesNears_104 rfl rfl ?_
      refine wp_iload_n dX12_comesNears_105 rfl rfl ?_
      refine wp_iconst (v := (nI 1)) dX12_comesNears_106 (by decide +kernel) ?_
      refine wp_isub dX12_comesNears_107 ?_
      refine wp_iload dX12_comesNears_108 rfl ?_
      refine wp_iconst (v := (nI 2)) dX12_comesNears_110 (by decide +kernel) ?_
      refine wp_irem dX12_comesNears_111 (by decide) ?_
      rw [show (_ : Int32) = nI 0 from (by decide +kernel : nI 0 - nI 0 / nI 2 * nI 2 = nI 0)]
      refine wp_cV3 0 0 [some _, some _, some _, some _] dX12_comesNears_112 tX12_asItem rfl (by decide) nX12_asItem vX12_asItem lX12_385 ⟨by decide, by decide⟩ (Nat.le_of_ble_eq_true rfl) (mO mc1.1) (Nat.le_of_ble_eq_true rfl) rfl ?_
      try rw [pk_sub (by omega)]
      refine pX12_asItem (k := (rA r f p 0 - 1)) (how := 0) mc1 hd nx1 (by omega) (by omega) (by decide) ?_
      intro _ _
      refine wp_cV5 4 100 [some _, some _, some _, some _, some _, some _, none, none] dX12_comesNears_115 tX12_comesFars rfl (by decide) nX12_comesFars vX12_comesFars lX12_391 ⟨by decide, by decide⟩ (Nat.le_of_ble_eq_true rfl) (mO mc1.1) (Nat.le_of_ble_eq_true rfl) rfl ?_
      try rw [pk_sub (by omega)]
      refine pX12_comesFars (b := (asC r p (rA r f p 0 - 2) 0)) (c := (asC r p (rA r f p 0 - 1) 0)) mc1 hd nx1 ru1 hf hp (by omega) (by omega) (by omega) (asC_lt hd nx1 (by omega) (by omega)) (asC_lt hd nx1 (by omega) (by omega)) (fun hh4 m4 f4 l4 u4 ru4 => ?_)
      intro _ _
      have mc4 := mc1.fr f4 (by decide) (by decide) (by decide) (by decide) (by decide)
      have nx4 := nx1.fr f4 (by decide) (by decide)
      refine wp_iinc1 (ls1 := [_, _, _, _, _, some _]) dX12_comesNears_118 rfl (by decide) rfl ?_
      refine wp_goto dX12_comesNears_121 ?_
      refine wp_iload dX12_comesNears_71 rfl ?_
      refine wp_iconst (v := (nI 4)) dX12_comesNears_73 (by decide +kernel) ?_
      refine wp_icmp_ge dX12_comesNears_74 (fun q => absurd q (by decide +kernel)) (fun _ => ?_)
      refine wp_iload_n dX12_comesNears_77 rfl rfl ?_
      refine wp_iconst (v := (nI 2)) dX12_comesNears_78 (by decide +kernel) ?_
      refine wp_isub dX12_comesNears_79 ?_
      refine wp_iload dX12_comesNears_80 rfl ?_
      refine wp_icmp_lt dX12_comesNears_82 (fun c6 => ?_) (fun c6 => ?_)
      · exact absurd (sub_lt9 (a := rA r f p 0) (b := 2) (c := rgA r pa f p) (by omega) (by omega) (by omega) (by assumption)) (by omega)
      · have hl2 : rgA r pa f p + 2 ≤ rA r f p 0 := sub_ge (by omega) (by omega) (by omega) (by assumption)
        refine wp_aload_n dX12_comesNears_85 rfl rfl ?_
        refine wp_iload_n dX12_comesNears_86 rfl rfl ?_
        refine wp_iload_n dX12_comesNears_87 rfl rfl ?_
        refine wp_iload_n dX12_comesNears_88 rfl rfl ?_
        refine wp_iconst (v := (nI 2)) dX12_comesNears_89 (by decide +kernel) ?_
        refine wp_isub dX12_comesNears_90 ?_
        refine wp_aload_n dX12_comesNears_91 rfl rfl ?_
        refine wp_iload_n dX12_comesNears_92 rfl rfl ?_
        refine wp_iload_n dX12_comesNears_93 rfl rfl ?_
        refine wp_iconst (v := (nI 2)) dX12_comesNears_94 (by decide +kernel) ?_
        refine wp_isub dX12_comesNears_95 ?_
        refine wp_iload dX12_comesNears_96 rfl ?_
        refine wp_iconst (v := (nI 2)) dX12_comesNears_98 (by decide +kernel) ?_
        refine wp_idiv dX12_comesNears_99 (by decide) ?_
        rw [show (_ : Int32) = nI 0 from (by decide +kernel : nI 1 / nI 2 = nI 0)]
        refine wp_cV3 0 0 [some _, some _, some _, some _] dX12_comesNears_100 tX12_asItem rfl (by decide) nX12_asItem vX12_asItem lX12_385 ⟨by decide, by decide⟩ (Nat.le_of_ble_eq_true rfl) (mO mc4.1) (Nat.le_of_ble_eq_true rfl) rfl ?_
        try rw [pk_sub (by omega)]
        refine pX12_asItem (k := (rA r f p 0 - 2)) (how := 0) mc4 hd nx4 (by omega) (by omega) (by decide) ?_
        intro _ _
        refine wp_aload_n dX12_comesNears_103 rfl rfl ?_
        refine wp_iload_n dX12_comesNears_104 rfl rfl ?_
        refine wp_iload_n dX12_comesNears_105 rfl rfl ?_
        refine wp_iconst (v := (nI 1)) dX12_comesNears_106 (by decide +kernel) ?_
        refine wp_isub dX12_comesNears_107 ?_
        refine wp_iload dX12_comesNears_108 rfl ?_
        refine wp_iconst (v := (nI 2)) dX12_comesNears_110 (by decide +kernel) ?_
        refine wp_irem dX12_comesNears_111 (by decide) ?_
        rw [show (_ : Int32) = nI 1 from (by decide +kernel : nI 1 - nI 1 / nI 2 * nI 2 = nI 1)]
        refine wp_cV3 0 0 [some _, some _, some _, some _] dX12_comesNears_112 tX12_asItem rfl (by decide) nX12_asItem vX12_asItem lX12_385 ⟨by decide, by decide⟩ (Nat.le_of_ble_eq_true rfl) (mO mc4.1) (Nat.le_of_ble_eq_true rfl) rfl ?_
        try rw [pk_sub (by omega)]
        refine pX12_asItem (k := (rA r f p 0 - 1)) (how := 1) mc4 hd nx4 (by omega) (by omega) (by decide) ?_
        intro _ _
        refine wp_cV5 4 100 [some _, some _, some _, some _, some _, some _, none, none] dX12_comesNears_115 tX12_comesFars rfl (by decide) nX12_comesFars vX12_comesFars lX12_391 ⟨by decide, by decide⟩ (Nat.le_of_ble_eq_true rfl) (mO mc4.1) (Nat.le_of_ble_eq_true rfl) rfl ?_
        try rw [pk_sub (by omega)]
        refine pX12_comesFars (b := (asC r p (rA r f p 0 - 2) 0)) (c := (asC r p (rA r f p 0 - 1) 1)) mc4 hd nx4 ru4 hf hp (by omega) (by omega) (by omega) (asC_lt hd nx4 (by omega) (by omega)) (asC_lt hd nx4 (by omega) (by omega)) (fun hh7 m7 f7 l7 u7 ru7 => ?_)
        intro _ _
        have mc7 := mc4.fr f7 (by decide) (by decide) (by decide) (by decide) (by decide)
        have nx7 := nx4.fr f7 (by decide) (by decide)
        refine wp_iinc1 (ls1 := [_, _, _, _, _, some _]) dX12_comesNears_118 rfl (by decide) rfl ?_
        refine wp_goto dX12_comesNears_121 ?_
        refine wp_iload dX12_comesNears_71 rfl ?_
        refine wp_iconst (v := (nI 4)) dX12_comesNears_73 (by decide +kernel) ?_
        refine wp_icmp_ge dX12_comesNears_74 (fun q => absurd q (by decide +kernel)) (fun _ => ?_)
        refine wp_iload_n dX12_comesNears_77 rfl rfl ?_
        refine wp_iconst (v := (nI 2)) dX12_comesNears_78 (by decide +kernel) ?_
        refine wp_isub dX12_comesNears_79 ?_
        refine wp_iload dX12_comesNears_80 rfl ?_
        refine wp_icmp_lt dX12_comesNears_82 (fun c8 => ?_) (fun c8 => ?_)
        · exact absurd (sub_lt9 (a := rA r f p 0) (b := 2) (c := rgA r pa f p) (by omega) (by omega) (by omega) (by assumption)) (by omega)
        · have hl2 : rgA r pa f p + 2 ≤ rA r f p 0 := sub_ge (by omega) (by omega) (by omega) (by assumption)
          refine wp_aload_n dX12_comesNears_85 rfl rfl ?_
          refine wp_iload_n dX12_comesNears_86 rfl rfl ?_
          refine wp_iload_n dX12_comesNears_87 rfl rfl ?_
          refine wp_iload_n dX12_comesNears_88 rfl rfl ?_
          refine wp_iconst (v := (nI 2)) dX12_comesNears_89 (by decide +kernel) ?_
          refine wp_isub dX12_comesNears_90 ?_
          refine wp_aload_n dX12_comesNears_91 rfl rfl ?_
          refine wp_iload_n dX12_comesNears_92 rfl rfl ?_
          refine wp_iload_n dX12_comesNears_93 rfl rfl ?_
          refine wp_iconst (v := (nI 2)) dX12_comesNears_94 (by decide +kernel) ?_
          refine wp_isub dX12_comesNears_95 ?_
          refine wp_iload dX12_comesNears_96 rfl ?_
          refine wp_iconst (v := (nI 2)) dX12_comesNears_98 (by decide +kernel) ?_
          refine wp_idiv dX12_comesNears_99 (by decide) ?_
          rw [show (_ : Int32) = nI 1 from (by decide +kernel : nI 2 / nI 2 = nI 1)]
          refine wp_cV3 0 0 [some _, some _, some _, some _] dX12_comesNears_100 tX12_asItem rfl (by decide) nX12_asItem vX12_asItem lX12_385 ⟨by decide, by decide⟩ (Nat.le_of_ble_eq_true rfl) (mO mc7.1) (Nat.le_of_ble_eq_true rfl) rfl ?_
          try rw [pk_sub (by omega)]
          refine pX12_asItem (k := (rA r f p 0 - 2)) (how := 1) mc7 hd nx7 (by omega) (by omega) (by decide) ?_
          intro _ _
          refine wp_aload_n dX12_comesNears_103 rfl rfl ?_
          refine wp_iload_n dX12_comesNears_104 rfl rfl ?_
          refine wp_iload_n dX12_comesNears_105 rfl rfl ?_
          refine wp_iconst (v := (nI 1)) dX12_comesNears_106 (by decide +kernel) ?_
          refine wp_isub dX12_comesNears_107 ?_
          refine wp_iload dX12_comesNears_108 rfl ?_
          refine wp_iconst (v := (nI 2)) dX12_comesNears_110 (by decide +kernel) ?_
          refine wp_irem dX12_comesNears_111 (by decide) ?_
          rw [show (_ : Int32) = nI 0 from (by decide +kernel : nI 2 - nI 2 / nI 2 * nI 2 = nI 0)]
          refine wp_cV3 0 0 [some _, some _, some _, some _] dX12_comesNears_112 tX12_asItem rfl (by decide) nX12_asItem vX12_asItem lX12_385 ⟨by decide, by decide⟩ (Nat.le_of_ble_eq_true rfl) (mO mc7.1) (Nat.le_of_ble_eq_true rfl) rfl ?_
          try rw [pk_sub (by omega)]
          refine pX12_asItem (k := (rA r f p 0 - 1)) (how := 0) mc7 hd nx7 (by omega) (by omega) (by decide) ?_
          intro _ _
          refine wp_cV5 4 100 [some _, some _, some _, some _, some _, some _, none, none] dX12_comesNears_115 tX12_comesFars rfl (by decide) nX12_comesFars vX12_comesFars lX12_391 ⟨by decide, by decide⟩ (Nat.le_of_ble_eq_true rfl) (mO mc7.1) (Nat.le_of_ble_eq_true rfl) rfl ?_
          try rw [pk_sub (by omega)]
          refine pX12_comesFars (b := (asC r p (rA r f p 0 - 2) 1)) (c := (asC r p (rA r f p 0 - 1) 0)) mc7 hd nx7 ru7 hf hp (by omega) (by omega) (by omega) (asC_lt hd nx7 (by omega) (by omega)) (asC_lt hd nx7 (by omega) (by omega)) (fun hh10 m10 f10 l10 u10 ru10 => ?_)
          intro _ _
          have mc10 := mc7.fr f10 (by decide) (by decide) (by decide) (by decide) (by decide)
          have nx10 := nx7.fr f10 (by decide) (by decide)
          refine wp_iinc1 (ls1 := [_, _, _, _, _, some _]) dX12_comesNears_118 rfl (by decide) rfl ?_
          refine wp_goto dX12_comesNears_121 ?_
          refine wp_iload dX12_comesNears_71 rfl ?_
          refine wp_iconst (v := (nI 4)) dX12_comesNears_73 (by decide +kernel) ?_
          refine wp_icmp_ge dX12_comesNears_74 (fun q => absurd q (by decide +kernel)) (fun _ => ?_)
          refine wp_iload_n dX12_comesNears_77 rfl rfl ?_
          refine wp_iconst (v := (nI 2)) dX12_comesNears_78 (by decide +kernel) ?_
          refine wp_isub dX12_comesNears_79 ?_
          refine wp_iload dX12_comesNears_80 rfl ?_
          refine wp_icmp_lt dX12_comesNears_82 (fun c10 => ?_) (fun c10 => ?_)
          · exact absurd (sub_lt9 (a := rA r f p 0) (b := 2) (c := rgA r pa f p) (by omega) (by omega) (by omega) (by assumption)) (by omega)
          · have hl2 : rgA r pa f p + 2 ≤ rA r f p 0 := sub_ge (by omega) (by omega) (by omega) (by assumption)
            refine wp_aload_n dX12_comesNears_85 rfl rfl ?_
            refine wp_iload_n dX12_comesNears_86 rfl rfl ?_
            refine wp_iload_n dX12_comesNears_87 rfl rfl ?_
            refine wp_iload_n dX12_comesNears_88 rfl rfl ?_
            refine wp_iconst (v := (nI 2)) dX12_comesNears_89 (by decide +kernel) ?_
            refine wp_isub dX12_comesNears_90 ?_
            refine wp_aload_n dX12_comesNears_91 rfl rfl ?_
            refine wp_iload_n dX12_comesNears_92 rfl rfl ?_
            refine wp_iload_n dX12_comesNears_93 rfl rfl ?_
            refine wp_iconst (v := (nI 2)) dX12_comesNears_94 (by decide +kernel) ?_
            refine wp_isub dX12_comesNears_95 ?_
            refine wp_iload dX12_comesNears_96 rfl ?_
            refine wp_iconst (v := (nI 2)) dX12_comesNears_98 (by decide +kernel) ?_
            refine wp_idiv dX12_comesNears_99 (by decide) ?_
            rw [show (_ : Int32) = nI 1 from (by decide +kernel : nI 3 / nI 2 = nI 1)]
            refine wp_cV3 0 0 [some _, some _, some _, some _] dX12_comesNears_100 tX12_asItem rfl (by decide) nX12_asItem vX12_asItem lX12_385 ⟨by decide, by decide⟩ (Nat.le_of_ble_eq_true rfl) (mO mc10.1) (Nat.le_of_ble_eq_true rfl) rfl ?_
            try rw [pk_sub (by omega)]
            refine pX12_asItem (k := (rA r f p 0 - 2)) (how := 1) mc10 hd nx10 (by omega) (by omega) (by decide) ?_
            intro _ _
            refine wp_aload_n dX12_comesNears_103 rfl rfl ?_
            refine wp_iload_n dX12_comesNears_104 rfl rfl ?_
            refine wp_iload_n dX12_comesNears_105 rfl rfl ?_
            refine wp_iconst (v := (nI 1)) dX12_comesNears_106 (by decide +kernel) ?_
            refine wp_isub dX12_comesNears_107 ?_
            refine wp_iload dX12_comesNears_108 rfl ?_
            refine wp_iconst (v := (nI 2)) dX12_comesNears_110 (by decide +kernel) ?_
            refine wp_irem dX12_comesNears_111 (by decide) ?_
            rw [show (_ : Int32) = nI 1 from (by decide +kernel : nI 3 - nI 3 / nI 2 * nI 2 = nI 1)]
            refine wp_cV3 0 0 [some _, some _, some _, some _] dX12_comesNears_112 tX12_asItem rfl (by decide) nX12_asItem vX12_asItem lX12_385 ⟨by decide, by decide⟩ (Nat.le_of_ble_eq_true rfl) (mO mc10.1) (Nat.le_of_ble_eq_true rfl) rfl ?_
            try rw [pk_sub (by omega)]
            refine pX12_asItem (k := (rA r f p 0 - 1)) (how := 1) mc10 hd nx10 (by omega) (by omega) (by decide) ?_
            intro _ _
            refine wp_cV5 4 100 [some _, some _, some _, some _, some _, some _, none, none] dX12_comesNears_115 tX12_comesFars rfl (by decide) nX12_comesFars vX12_comesFars lX12_391 ⟨by decide, by decide⟩ (Nat.le_of_ble_eq_true rfl) (mO mc10.1) (Nat.le_of_ble_eq_true rfl) rfl ?_
            try rw [pk_sub (by omega)]
            refine pX12_comesFars (b := (asC r p (rA r f p 0 - 2) 1)) (c := (asC r p (rA r f p 0 - 1) 1)) mc10 hd nx10 ru10 hf hp (by omega) (by omega) (by omega) (asC_lt hd nx10 (by omega) (by omega)) (asC_lt hd nx10 (by omega) (by omega)) (fun hh13 m13 f13 l13 u13 ru13 => ?_)
            intro _ _
            have mc13 := mc10.fr f13 (by decide) (by decide) (by decide) (by decide) (by decide)
            have nx13 := nx10.fr f13 (by decide) (by decide)
            refine wp_iinc1 (ls1 := [_, _, _, _, _, some _]) dX12_comesNears_118 rfl (by decide) rfl ?_
            refine wp_goto dX12_comesNears_121 ?_
            refine wp_iload dX12_comesNears_71 rfl ?_
            refine wp_iconst (v := (nI 4)) dX12_comesNears_73 (by decide +kernel) ?_
            refine wp_icmp_ge dX12_comesNears_74 (fun _ => ?_) (fun q => absurd (by decide +kernel) q)
            omega
  · have hl1 : rgA r pa f p + 1 ≤ rA r f p 0 := sub_ge (by omega) (by omega) (by omega) (by assumption)
    refine wp_aload_n dX12_comesNears_42 rfl rfl ?_
    refine wp_iload_n dX12_comesNears_43 rfl rfl ?_
    refine wp_iload_n dX12_comesNears_44 rfl rfl ?_
    refine wp_iload_n dX12_comesNears_45 rfl rfl ?_
    refine wp_iconst (v := (nI 1)) dX12_comesNears_46 (by decide +kernel) ?_
    refine wp_isub dX12_comesNears_47 ?_
    refine wp_aload_n dX12_comesNears_48 rfl rfl ?_
    refine wp_iload_n dX12_comesNears_49 rfl rfl ?_
    refine wp_iload_n dX12_comesNears_50 rfl rfl ?_
    refine wp_iconst (v := (nI 1)) dX12_comesNears_51 (by decide +kernel) ?_
    refine wp_isub dX12_comesNears_52 ?_
    refine wp_iload dX12_comesNears_53 rfl ?_
    refine wp_cV3 0 0 [some _, some _, some _, some _] dX12_comesNears_55 tX12_asItem rfl (by decide) nX12_asItem vX12_asItem lX12_385 ⟨by decide, by decide⟩ (Nat.le_of_ble_eq_true rfl) (mO mc1.1) (Nat.le_of_ble_eq_true rfl) rfl ?_
    try rw [pk_sub (by omega)]
    refine pX12_asItem (k := (rA r f p 0 - 1)) (how := 0) mc1 hd nx1 (by omega) (by omega) (by decide) ?_
    intro _ _
    refine wp_iconst (v := (-1)) dX12_comesNears_58 (by decide +kernel) ?_
    refine wp_cV5 4 100 [some _, some _, some _, some _, some _, some _, none, none] dX12_comesNears_59 tX12_comesFars rfl (by decide) nX12_comesFars vX12_comesFars lX12_391 ⟨by decide, by decide⟩ (Nat.le_of_ble_eq_true rfl) (mO mc1.1) (Nat.le_of_ble_eq_true rfl) rfl ?_
    try rw [pk_sub (by omega)]
    refine pX12_comesFars (b := (asC r p (rA r f p 0 - 1) 0)) (c := 0) mc1 hd nx1 ru1 hf hp (by omega) (by omega) (by omega) (asC_lt hd nx1 (by omega) (by omega)) (by decide) (fun hh15 m15 f15 l15 u15 ru15 => ?_)
    intro _ _
    have mc15 := mc1.fr f15 (by decide) (by decide) (by decide) (by decide) (by decide)
    have nx15 := nx1.fr f15 (by decide) (by decide)
    refine wp_iinc1 (ls1 := [_, _, _, _, _, some _]) dX12_comesNears_62 rfl (by decide) rfl ?_
    refine wp_goto dX12_comesNears_65 ?_
    refine wp_iload dX12_comesNears_28 rfl ?_
    refine wp_iconst (v := (nI 2)) dX12_comesNears_30 (by decide +kernel) ?_
    refine wp_icmp_ge dX12_comesNears_31 (fun q => absurd q (by decide +kernel)) (fun _ => ?_)
    refine wp_iload_n dX12_comesNears_34 rfl rfl ?_
    refine wp_iconst (v := (nI 1)) dX12_comesNears_35 (by decide +kernel) ?_
    refine wp_isub dX12_comesNears_36 ?_
    refine wp_iload dX12_comesNears_37 rfl ?_
    refine wp_icmp_lt dX12_comesNears_39 (fun c13 => ?_) (fun c13 => ?_)
    · exact absurd (sub_lt9 (a := rA r f p 0) (b := 1) (c := rgA r pa f p) (by omega) (by omega) (by omega) (by assumption)) (by omega)
    · have hl1 : rgA r pa f p + 1 ≤ rA r f p 0 := sub_ge (by omega) (by omega) (by omega) (by assumption)
      refine wp_aload_n dX12_comesNears_42 rfl rfl ?_
      refine wp_iload_n dX12_comesNears_43 rfl rfl ?_
      refine wp_iload_n dX12_comesNears_44 rfl rfl ?_
      refine wp_iload_n dX12_comesNears_45 rfl rfl ?_
      refine wp_iconst (v := (nI 1)) dX12_comesNears_46 (by decide +kernel) ?_
      refine wp_isub dX12_comesNears_47 ?_
      refine wp_aload_n dX12_comesNears_48 rfl rfl ?_
      refine wp_iload_n dX12_comesNears_49 rfl rfl ?_
      refine wp_iload_n dX12_comesNears_50 rfl rfl ?_
      refine wp_iconst (v := (nI 1)) dX12_comesNears_51 (by decide +kernel) ?_
      refine wp_isub dX12_comesNears_52 ?_
      refine wp_iload dX12_comesNears_53 rfl ?_
      refine wp_cV3 0 0 [some _, some _, some _, some _] dX12_comesNears_55 tX12_asItem rfl (by decide) nX12_asItem vX12_asItem lX12_385 ⟨by decide, by decide⟩ (Nat.le_of_ble_eq_true rfl) (mO mc15.1) (Nat.le_of_ble_eq_true rfl) rfl ?_
      try rw [pk_sub (by omega)]
      refine pX12_asItem (k := (rA r f p 0 - 1)) (how := 1) mc15 hd nx15 (by omega) (by omega) (by decide) ?_
      intro _ _
      refine wp_iconst (v := (-1)) dX12_comesNears_58 (by decide +kernel) ?_
      refine wp_cV5 4 100 [some _, some _, some _, some _, some _, some _, none, none] dX12_comesNears_59 tX12_comesFars rfl (by decide) nX12_comesFars vX12_comesFars lX12_391 ⟨by decide, by decide⟩ (Nat.le_of_ble_eq_true rfl) (mO mc15.1) (Nat.le_of_ble_eq_true rfl) rfl ?_
      try rw [pk_sub (by omega)]
      refine pX12_comesFars (b := (asC r p (rA r f p 0 - 1) 1)) (c := 0) mc15 hd nx15 ru15 hf hp (by omega) (by omega) (by omega) (asC_lt hd nx15 (by omega) (by omega)) (by decide) (fun hh17 m17 f17 l17 u17 ru17 => ?_)
      intro _ _
      have mc17 := mc15.fr f17 (by decide) (by decide) (by decide) (by decide) (by decide)
      have nx17 := nx15.fr f17 (by decide) (by decide)
      refine wp_iinc1 (ls1 := [_, _, _, _, _, some _]) dX12_comesNears_62 rfl (by decide) rfl ?_
      refine wp_goto dX12_comesNears_65 ?_
      refine wp_iload dX12_comesNears_28 rfl ?_
      refine wp_iconst (v := (nI 2)) dX12_comesNears_30 (by decide +kernel) ?_
      refine wp_icmp_ge dX12_comesNears_31 (fun _ => ?_) (fun q => absurd (by decide +kernel) q)
      refine wp_iconst (v := (nI 0)) dX12_comesNears_68 (by decide +kernel) ?_
      refine wp_istore (ls1 := [_, _, _, _, _, some _]) dX12_comesNears_69 (by decide) rfl ?_
      refine wp_iload dX12_comesNears_71 rfl ?_
      refine wp_iconst (v := (nI 4)) dX12_comesNears_73 (by decide +kernel) ?_
      refine wp_icmp_ge dX12_comesNears_74 (fun q => absurd q (by decide +kernel)) (fun _ => ?_)
      refine wp_iload_n dX12_comesNears_77 rfl rfl ?_
      refine wp_iconst (v := (nI 2)) dX12_comesNears_78 (by decide +kernel) ?_
      refine wp_isub dX12_comesNears_79 ?_
      refine wp_iload dX12_comesNears_80 rfl ?_
      refine wp_icmp_lt dX12_comesNears_82 (fun c16 => ?_) (fun c16 => ?_)
      · have hl2 : rA r f p 0 < rgA r pa f p + 2 := sub_lt9 (by omega) (by omega) (by omega) (by assumption)
        refine wp_vreturn dX12_comesNears_124 rfl ?_
        refine hq _ m17 (((f1.up (by decide) (by decide)).tr (f15.up (by decide) (by decide))).tr (f17.up (by decide) (by decide))) (by omega) (by omega) ?_
        have e9 := ru17
        try simp only [addS_s] at e9
        rw [← addS_cg (S := _) (S' := bNr r pa f p) (B := B) (p := p)]
        exact e9
        intro x
        unfold bNr
        rw [show (∃ w, w < 2 ∧ bF r pa f p (rA r f p 0 - 1) (asC r p (rA r f p 0 - 1) w) 0 x) ↔ _ from ex2]; exact ⟨fun z => z.elim (fun z => z.elim Or.inl (fun w => Or.inr (Or.inl ⟨by omega, Or.inl w⟩))) (fun w => Or.inr (Or.inl ⟨by omega, Or.inr w⟩)), fun z => z.elim (fun w => Or.inl (Or.inl w)) (fun z => z.elim (fun w => w.2.elim (fun w => Or.inl (Or.inr w)) Or.inr) (fun w => absurd w.1 (by omega)))⟩
      · have hl2 : rgA r pa f p + 2 ≤ rA r f p 0 := sub_ge (by omega) (by omega) (by omega) (by assumption)
        refine wp_aload_n dX12_comesNears_85 rfl rfl ?_
        refine wp_iload_n dX12_comesNears_86 rfl rfl ?_
        refine wp_iload_n dX12_comesNears_87 rfl rfl ?_
        refine wp_iload_n dX12_comesNears_88 rfl rfl ?_
        refine wp_iconst (v := (nI 2)) dX12_comesNears_89 (by decide +kernel) ?_
        refine wp_isub dX12_comesNears_90 ?_
        refine wp_aload_n dX12_comesNears_91 rfl rfl ?_
        refine wp_iload_n dX12_comesNears_92 rfl rfl ?_
        refine wp_iload_n dX12_comesNears_93 rfl rfl ?_
        refine wp_iconst (v := (nI 2)) dX12_comesNears_94 (by decide +kernel) ?_
        refine wp_isub dX12_comesNears_95 ?_
        refine wp_iload dX12_comesNears_96 rfl ?_
        refine wp_iconst (v := (nI 2)) dX12_comesNears_98 (by decide +kernel) ?_
        refine wp_idiv dX12_comesNears_99 (by decide) ?_
        rw [show (_ : Int32) = nI 0 from (by decide +kernel : nI 0 / nI 2 = nI 0)]
        refine wp_cV3 0 0 [some _, some _, some _, some _] dX12_comesNears_100 tX12_asItem rfl (by decide) nX12_asItem vX12_asItem lX12_385 ⟨by decide, by decide⟩ (Nat.le_of_ble_eq_true rfl) (mO mc17.1) (Nat.le_of_ble_eq_true rfl) rfl ?_
        try rw [pk_sub (by omega)]
        refine pX12_asItem (k := (rA r f p 0 - 2)) (how := 0) mc17 hd nx17 (by omega) (by omega) (by decide) ?_
        intro _ _
        refine wp_aload_n dX12_comesNears_103 rfl rfl ?_
        refine wp_iload_n dX12_comesNears_104 rfl rfl ?_
        refine wp_iload_n dX12_comesNears_105 rfl rfl ?_
        refine wp_iconst (v := (nI 1)) dX12_comesNears_106 (by decide +kernel) ?_
        refine wp_isub dX12_comesNears_107 ?_
        refine wp_iload dX12_comesNears_108 rfl ?_
        refine wp_iconst (v := (nI 2)) dX12_comesNears_110 (by decide +kernel) ?_
        refine wp_irem dX12_comesNears_111 (by decide) ?_
        rw [show (_ : Int32) = nI 0 from (by decide +kernel : nI 0 - nI 0 / nI 2 * nI 2 = nI 0)]
        refine wp_cV3 0 0 [some _, some _, some _, some _] dX12_comesNears_112 tX12_asItem rfl (by decide) nX12_asItem vX12_asItem lX12_385 ⟨by decide, by decide⟩ (Nat.le_of_ble_eq_true rfl) (mO mc17.1) (Nat.le_of_ble_eq_true rfl) rfl ?_
        try rw [pk_sub (by omega)]
        refine pX12_asItem (k := (rA r f p 0 - 1)) (how := 0) mc17 hd nx17 (by omega) (by omega) (by decide) ?_
        intro _ _
        refine wp_cV5 4 100 [some _, some _, some _, some _, some _, some _, none, none] dX12_comesNears_115 tX12_comesFars rfl (by decide) nX12_comesFars vX12_comesFars lX12_391 ⟨by decide, by decide⟩ (Nat.le_of_ble_eq_true rfl) (mO mc17.1) (Nat.le_of_ble_eq_true rfl) rfl ?_
        try rw [pk_sub (by omega)]
        refine pX12_comesFars (b := (asC r p (rA r f p 0 - 2) 0)) (c := (asC r p (rA r f p 0 - 1) 0)) mc17 hd nx17 ru17 hf hp (by omega) (by omega) (by omega) (asC_lt hd nx17 (by omega) (by omega)) (asC_lt hd nx17 (by omega) (by omega)) (fun hh20 m20 f20 l20 u20 ru20 => ?_)
        intro _ _
        have mc20 := mc17.fr f20 (by decide) (by decide) (by decide) (by decide) (by decide)
        have nx20 := nx17.fr f20 (by decide) (by decide)
        refine wp_iinc1 (ls1 := [_, _, _, _, _, some _]) dX12_comesNears_118 rfl (by decide) rfl ?_
        refine wp_goto dX12_comesNears_121 ?_
        refine wp_iload dX12_comesNears_71 rfl ?_
        refine wp_iconst (v := (nI 4)) dX12_comesNears_73 (by decide +kernel) ?_
        refine wp_icmp_ge dX12_comesNears_74 (fun q => absurd q (by decide +kernel)) (fun _ => ?_)
        refine wp_iload_n dX12_comesNears_77 rfl rfl ?_
        refine wp_iconst (v := (nI 2)) dX12_comesNears_78 (by decide +kernel) ?_
        refine wp_isub dX12_comesNears_79 ?_
        refine wp_iload dX12_comesNears_80 rfl ?_
        refine wp_icmp_lt dX12_comesNears_82 (fun c18 => ?_) (fun c18 => ?_)
        · exact absurd (sub_lt9 (a := rA r f p 0) (b := 2) (c := rgA r pa f p) (by omega) (by omega) (by omega) (by assumption)) (by omega)
        · have hl2 : rgA r pa f p + 2 ≤ rA r f p 0 := sub_ge (by omega) (by omega) (by omega) (by assumption)
          refine wp_aload_n dX12_comesNears_85 rfl rfl ?_
          refine wp_iload_n dX12_comesNears_86 rfl rfl ?_
          refine wp_iload_n dX12_comesNears_87 rfl rfl ?_
          refine wp_iload_n dX12_comesNears_88 rfl rfl ?_
          refine wp_iconst (v := (nI 2)) dX12_comesNears_89 (by decide +kernel) ?_
          refine wp_isub dX12_comesNears_90 ?_
          refine wp_aload_n dX12_comesNears_91 rfl rfl ?_
          refine wp_iload_n dX12_comesNears_92 rfl rfl ?_
          refine wp_iload_n dX12_comesNears_93 rfl rfl ?_
          refine wp_iconst (v := (nI 2)) dX12_comesNears_94 (by decide +kernel) ?_
          refine wp_isub dX12_comesNears_95 ?_
          refine wp_iload dX12_comesNears_96 rfl ?_
          refine wp_iconst (v := (nI 2)) dX12_comesNears_98 (by decide +kernel) ?_
          refine wp_idiv dX12_comesNears_99 (by decide) ?_
          rw [show (_ : Int32) = nI 0 from (by decide +kernel : nI 1 / nI 2 = nI 0)]
          refine wp_cV3 0 0 [some _, some _, some _, some _] dX12_comesNears_100 tX12_asItem rfl (by decide) nX12_asItem vX12_asItem lX12_385 ⟨by decide, by decide⟩ (Nat.le_of_ble_eq_true rfl) (mO mc20.1) (Nat.le_of_ble_eq_true rfl) rfl ?_
          try rw [pk_sub (by omega)]
          refine pX12_asItem (k := (rA r f p 0 - 2)) (how := 0) mc20 hd nx20 (by omega) (by omega) (by decide) ?_
          intro _ _
          refine wp_aload_n dX12_comesNears_103 rfl rfl ?_
          refine wp_iload_n dX12_comesNears_104 rfl rfl ?_
          refine wp_iload_n dX12_comesNears_105 rfl rfl ?_
          refine wp_iconst (v := (nI 1)) dX12_comesNears_106 (by decide +kernel) ?_
          refine wp_isub dX12_comesNears_107 ?_
          refine wp_iload dX12_comesNears_108 rfl ?_
          refine wp_iconst (v := (nI 2)) dX12_comesNears_110 (by decide +kernel) ?_
          refine wp_irem dX12_comesNears_111 (by decide) ?_
          rw [show (_ : Int32) = nI 1 from (by decide +kernel : nI 1 - nI 1 / nI 2 * nI 2 = nI 1)]
          refine wp_cV3 0 0 [some _, some _, some _, some _] dX12_comesNears_112 tX12_asItem rfl (by decide) nX12_asItem vX12_asItem lX12_385 ⟨by decide, by decide⟩ (Nat.le_of_ble_eq_true rfl) (mO mc20.1) (Nat.le_of_ble_eq_true rfl) rfl ?_
          try rw [pk_sub (by omega)]
          refine pX12_asItem (k := (rA r f p 0 - 1)) (how := 1) mc20 hd nx20 (by omega) (by omega) (by decide) ?_
          intro _ _
          refine wp_cV5 4 100 [some _, some _, some _, some _, some _, some _, none, none] dX12_comesNears_115 tX12_comesFars rfl (by decide) nX12_comesFars vX12_comesFars lX12_391 ⟨by decide, by decide⟩ (Nat.le_of_ble_eq_true rfl) (mO mc20.1) (Nat.le_of_ble_eq_true rfl) rfl ?_
          try rw [pk_sub (by omega)]
          refine pX12_comesFars (b := (asC r p (rA r f p 0 - 2) 0)) (c := (asC r p (rA r f p 0 - 1) 1)) mc20 hd nx20 ru20 hf hp (by omega) (by omega) (by omega) (asC_lt hd nx20 (by omega) (by omega)) (asC_lt hd nx20 (by omega) (by omega)) (fun hh23 m23 f23 l23 u23 ru23 => ?_)
          intro _ _
          have mc23 := mc20.fr f23 (by decide) (by decide) (by decide) (by decide) (by decide)
          have nx23 := nx20.fr f23 (by decide) (by decide)
          refine wp_iinc1 (ls1 := [_, _, _, _, _, some _]) dX12_comesNears_118 rfl (by decide) rfl ?_
          refine wp_goto dX12_comesNears_121 ?_
          refine wp_iload dX12_comesNears_71 rfl ?_
          refine wp_iconst (v := (nI 4)) dX12_comesNears_73 (by decide +kernel) ?_
          refine wp_icmp_ge dX12_comesNears_74 (fun q => absurd q (by decide +kernel)) (fun _ => ?_)
          refine wp_iload_n dX12_comesNears_77 rfl rfl ?_
          refine wp_iconst (v := (nI 2)) dX12_comesNears_78 (by decide +kernel) ?_
          refine wp_isub dX12_comesNears_79 ?_
          refine wp_iload dX12_comesNears_80 rfl ?_
          refine wp_icmp_lt dX12_comesNears_82 (fun c20 => ?_) (fun c20 => ?_)
          · exact absurd (sub_lt9 (a := rA r f p 0) (b := 2) (c := rgA r pa f p) (by omega) (by omega) (by omega) (by assumption)) (by omega)
          · have hl2 : rgA r pa f p + 2 ≤ rA r f p 0 := sub_ge (by omega) (by omega) (by omega) (by assumption)
            refine wp_aload_n dX12_comesNears_85 rfl rfl ?_
            refine wp_iload_n dX12_comesNears_86 rfl rfl ?_
            refine wp_iload_n dX12_comesNears_87 rfl rfl ?_
            refine wp_iload_n dX12_comesNears_88 rfl rfl ?_
            refine wp_iconst (v := (nI 2)) dX12_comesNears_89 (by decide +kernel) ?_
            refine wp_isub dX12_comesNears_90 ?_
            refine wp_aload_n dX12_comesNears_91 rfl rfl ?_
            refine wp_iload_n dX12_comesNears_92 rfl rfl ?_
            refine wp_iload_n dX12_comesNears_93 rfl rfl ?_
            refine wp_iconst (v := (nI 2)) dX12_comesNears_94 (by decide +kernel) ?_
            refine wp_isub dX12_comesNears_95 ?_
            refine wp_iload dX12_comesNears_96 rfl ?_
            refine wp_iconst (v := (nI 2)) dX12_comesNears_98 (by decide +kernel) ?_
            refine wp_idiv dX12_comesNears_99 (by decide) ?_
            rw [show (_ : Int32) = nI 1 from (by decide +kernel : nI 2 / nI 2 = nI 1)]
            refine wp_cV3 0 0 [some _, some _, some _, some _] dX12_comesNears_100 tX12_asItem rfl (by decide) nX12_asItem vX12_asItem lX12_385 ⟨by decide, by decide⟩ (Nat.le_of_ble_eq_true rfl) (mO mc23.1) (Nat.le_of_ble_eq_true rfl) rfl ?_
            try rw [pk_sub (by omega)]
            refine pX12_asItem (k := (rA r f p 0 - 2)) (how := 1) mc23 hd nx23 (by omega) (by omega) (by decide) ?_
            intro _ _
            refine wp_aload_n dX12_comesNears_103 rfl rfl ?_
            refine wp_iload_n dX12_comesNears_104 rfl rfl ?_
            refine wp_iload_n dX12_comesNears_105 rfl rfl ?_
            refine wp_iconst (v := (nI 1)) dX12_comesNears_106 (by decide +kernel) ?_
            refine wp_isub dX12_comesNears_107 ?_
            refine wp_iload dX12_comesNears_108 rfl ?_
            refine wp_iconst (v := (nI 2)) dX12_comesNears_110 (by decide +kernel) ?_
            refine wp_irem dX12_comesNears_111 (by decide) ?_
            rw [show (_ : Int32) = nI 0 from (by decide +kernel : nI 2 - nI 2 / nI 2 * nI 2 = nI 0)]
            refine wp_cV3 0 0 [some _, some _, some _, some _] dX12_comesNears_112 tX12_asItem rfl (by decide) nX12_asItem vX12_asItem lX12_385 ⟨by decide, by decide⟩ (Nat.le_of_ble_eq_true rfl) (mO mc23.1) (Nat.le_of_ble_eq_true rfl) rfl ?_
            try rw [pk_sub (by omega)]
            refine pX12_asItem (k := (rA r f p 0 - 1)) (how := 0) mc23 hd nx23 (by omega) (by omega) (by decide) ?_
            intro _ _
            refine wp_cV5 4 100 [some _, some _, some _, some _, some _, some _, none, none] dX12_comesNears_115 tX12_comesFars rfl (by decide) nX12_comesFars vX12_comesFars lX12_391 ⟨by decide, by decide⟩ (Nat.le_of_ble_eq_true rfl) (mO mc23.1) (Nat.le_of_ble_eq_true rfl) rfl ?_
            try rw [pk_sub (by omega)]
            refine pX12_comesFars (b := (asC r p (rA r f p 0 - 2) 1)) (c := (asC r p (rA r f p 0 - 1) 0)) mc23 hd nx23 ru23 hf hp (by omega) (by omega) (by omega) (asC_lt hd nx23 (by omega) (by omega)) (asC_lt hd nx23 (by omega) (by omega)) (fun hh26 m26 f26 l26 u26 ru26 => ?_)
            intro _ _
            have mc26 := mc23.fr f26 (by decide) (by decide) (by decide) (by decide) (by decide)
            have nx26 := nx23.fr f26 (by decide) (by decide)
            refine wp_iinc1 (ls1 := [_, _, _, _, _, some _]) dX12_comesNears_118 rfl (by decide) rfl ?_
            refine wp_goto dX12_comesNears_121 ?_
            refine wp_iload dX12_comesNears_71 rfl ?_
            refine wp_iconst (v := (nI 4)) dX12_comesNears_73 (by decide +kernel) ?_
            refine wp_icmp_ge dX12_comesNears_74 (fun q => absurd q (by decide +kernel)) (fun _ => ?_)
            refine wp_iload_n dX12_comesNears_77 rfl rfl ?_
            refine wp_iconst (v := (nI 2)) dX12_comesNears_78 (by decide +kernel) ?_
            refine wp_isub dX12_comesNears_79 ?_
            refine wp_iload dX12_comesNears_80 rfl ?_
            refine wp_icmp_lt dX12_comesNears_82 (fun c22 => ?_) (fun c22 => ?_)
            · exact absurd (sub_lt9 (a := rA r f p 0) (b := 2) (c := rgA r pa f p) (by omega) (by omega) (by omega) (by assumption)) (by omega)
            · have hl2 : rgA r pa f p + 2 ≤ rA r f p 0 := sub_ge (by omega) (by omega) (by omega) (by assumption)
              refine wp_aload_n dX12_comesNears_85 rfl rfl ?_
              refine wp_iload_n dX12_comesNears_86 rfl rfl ?_
              refine wp_iload_n dX12_comesNears_87 rfl rfl ?_
              refine wp_iload_n dX12_comesNears_88 rfl rfl ?_
              refine wp_iconst (v := (nI 2)) dX12_comesNears_89 (by decide +kernel) ?_
              refine wp_isub dX12_comesNears_90 ?_
              refine wp_aload_n dX12_comesNears_91 rfl rfl ?_
              refine wp_iload_n dX12_comesNears_92 rfl rfl ?_
              refine wp_iload_n dX12_comesNears_93 rfl rfl ?_
              refine wp_iconst (v := (nI 2)) dX12_comesNears_94 (by decide +kernel) ?_
              refine wp_isub dX12_comesNears_95 ?_
              refine wp_iload dX12_comesNears_96 rfl ?_
              refine wp_iconst (v := (nI 2)) dX12_comesNears_98 (by decide +kernel) ?_
              refine wp_idiv dX12_comesNears_99 (by decide) ?_
              rw [show (_ : Int32) = nI 1 from (by decide +kernel : nI 3 / nI 2 = nI 1)]
              refine wp_cV3 0 0 [some _, some _, some _, some _] dX12_comesNears_100 tX12_asItem rfl (by decide) nX12_asItem vX12_asItem lX12_385 ⟨by decide, by decide⟩ (Nat.le_of_ble_eq_true rfl) (mO mc26.1) (Nat.le_of_ble_eq_true rfl) rfl ?_
              try rw [pk_sub (by omega)]
              refine pX12_asItem (k := (rA r f p 0 - 2)) (how := 1) mc26 hd nx26 (by omega) (by omega) (by decide) ?_
              intro _ _
              refine wp_aload_n dX12_comesNears_103 rfl rfl ?_
              refine wp_iload_n dX12_comesNears_104 rfl rfl ?_
              refine wp_iload_n dX12_comesNears_105 rfl rfl ?_
              refine wp_iconst (v := (nI 1)) dX12_comesNears_106 (by decide +kernel) ?_
              refine wp_isub dX12_comesNears_107 ?_
              refine wp_iload dX12_comesNears_108 rfl ?_
              refine wp_iconst (v := (nI 2)) dX12_comesNears_110 (by decide +kernel) ?_
              refine wp_irem dX12_comesNears_111 (by decide) ?_
              rw [show (_ : Int32) = nI 1 from (by decide +kernel : nI 3 - nI 3 / nI 2 * nI 2 = nI 1)]
              refine wp_cV3 0 0 [some _, some _, some _, some _] dX12_comesNears_112 tX12_asItem rfl (by decide) nX12_asItem vX12_asItem lX12_385 ⟨by decide, by decide⟩ (Nat.le_of_ble_eq_true rfl) (mO mc26.1) (Nat.le_of_ble_eq_true rfl) rfl ?_
              try rw [pk_sub (by omega)]
              refine pX12_asItem (k := (rA r f p 0 - 1)) (how := 1) mc26 hd nx26 (by omega) (by omega) (by decide) ?_
              intro _ _
              refine wp_cV5 4 100 [some _, some _, some _, some _, some _, some _, none, none] dX12_comesNears_115 tX12_comesFars rfl (by decide) nX12_comesFars vX12_comesFars lX12_391 ⟨by decide, by decide⟩ (Nat.le_of_ble_eq_true rfl) (mO mc26.1) (Nat.le_of_ble_eq_true rfl) rfl ?_
              try rw [pk_sub (by omega)]
              refine pX12_comesFars (b := (asC r p (rA r f p 0 - 2) 1)) (c := (asC r p (rA r f p 0 - 1) 1)) mc26 hd nx26 ru26 hf hp (by omega) (by omega) (by omega) (asC_lt hd nx26 (by omega) (by omega)) (asC_lt hd nx26 (by omega) (by omega)) (fun hh29 m29 f29 l29 u29 ru29 => ?_)
              intro _ _
              have mc29 := mc26.fr f29 (by decide) (by decide) (by decide) (by decide) (by decide)
              have nx29 := nx26.fr f29 (by decide) (by decide)
              refine wp_iinc1 (ls1 := [_, _, _, _, _, some _]) dX12_comesNears_118 rfl (by decide) rfl ?_
              refine wp_goto dX12_comesNears_121 ?_
              refine wp_iload dX12_comesNears_71 rfl ?_
              refine wp_iconst (v := (nI 4)) dX12_comesNears_73 (by decide +kernel) ?_
              refine wp_icmp_ge dX12_comesNears_74 (fun _ => ?_) (fun q => absurd (by decide +kernel) q)
              refine wp_vreturn dX12_comesNears_124 rfl ?_
              refine hq _ m29 (((((((f1.up (by decide) (by decide)).tr (f15.up (by decide) (by decide))).tr (f17.up (by decide) (by decide))).tr (f20.up (by decide) (by decide))).tr (f23.up (by decide) (by decide))).tr (f26.up (by decide) (by decide))).tr (f29.up (by decide) (by decide))) (by omega) (by omega) ?_
              have e9 := ru29
              try simp only [addS_s] at e9
              rw [← addS_cg (S := _) (S' := bNr r pa f p) (B := B) (p := p)]
              exact e9
              intro x
              unfold bNr
              rw [show (∃ w, w < 2 ∧ bF r pa f p (rA r f p 0 - 1) (asC r p (rA r f p 0 - 1) w) 0 x) ↔ _ from ex2, show (∃ w, w < 4 ∧ bF r pa f p (rA r f p 0 - 2) (asC r p (rA r f p 0 - 2) (w / 2)) (asC r p (rA r f p 0 - 1) (w % 2)) x) ↔ _ from ex4]; constructor; (rintro ((((((z | z) | z) | z) | z) | z) | z); exact Or.inl z; exact Or.inr (Or.inl ⟨hl1, Or.inl z⟩); exact Or.inr (Or.inl ⟨hl1, Or.inr z⟩); exact Or.inr (Or.inr ⟨hl2, Or.inl z⟩); exact Or.inr (Or.inr ⟨hl2, Or.inr (Or.inl z)⟩); exact Or.inr (Or.inr ⟨hl2, Or.inr (Or.inr (Or.inl z))⟩); exact Or.inr (Or.inr ⟨hl2, Or.inr (Or.inr (Or.inr z))⟩)); (rintro (z | ⟨_, z | z⟩ | ⟨_, z | z | z | z⟩); exact Or.inl (Or.inl (Or.inl (Or.inl (Or.inl (Or.inl z))))); exact Or.inl (Or.inl (Or.inl (Or.inl (Or.inl (Or.inr z))))); exact Or.inl (Or.inl (Or.inl (Or.inl (Or.inr z)))); exact Or.inl (Or.inl (Or.inl (Or.inr z))); exact Or.inl (Or.inl (Or.inr z)); exact Or.inl (Or.inr z); exact Or.inr z)
