/-! ===== rows filled, copied; what the class holds of a row ===== -/
def stL (h : mH) (a : Nat) (T : Nat → Int64) : mH := (h.1, h.2.1, h.2.2.1, (fun x y => if x = a then T y else h.2.2.2.1 x y), h.2.2.2.2)
def stI (h : mH) (a : Nat) (T : Nat → Int32) : mH := (h.1, h.2.1, (fun x y => if x = a then T y else h.2.2.1 x y), h.2.2.2.1, h.2.2.2.2)
theorem hL_stL (h : mH) (a : Nat) (T : Nat → Int64) (x y : Nat) : hL (stL h a T) x y = if x = a then T y else hL h x y := rfl
theorem hI_stI (h : mH) (a : Nat) (T : Nat → Int32) (x y : Nat) : hI (stI h a T) x y = if x = a then T y else hI h x y := rfl
theorem cpL_st (h : mH) (a0 sp a dp n : Nat) : cpL h a0 sp a dp n = stL h a (va_cpy (hL h a0) (hL h a) sp dp n) := rfl
theorem cSm_stL {h : mH} {a x : Nat} {T : Nat → Int64} (hx : x ≠ a) : cSm h (stL h a T) x := ⟨rfl, funext fun y => by rw [hL_stL, if_neg hx], rfl⟩
theorem cSm_stI {h : mH} {a x : Nat} {T : Nat → Int32} (hx : x ≠ a) : cSm h (stI h a T) x := ⟨funext fun y => by rw [hI_stI, if_neg hx], rfl, rfl⟩
theorem cFr_stL {ow : Nat → Nat} {h : mH} {a r : Nat} {T : Nat → Int64} (e : ow a = r) : cFr [r] 0 ow h ow (stL h a T) := ⟨⟨Nat.le_refl _, Nat.le_refl _, Nat.le_refl _⟩, fun x _ => ⟨rfl, rfl, fun z => cSm_stL (fun w => z (by rw [w, e]; exact List.mem_singleton.mpr rfl))⟩⟩
theorem cFr_stI {ow : Nat → Nat} {h : mH} {a r : Nat} {T : Nat → Int32} (e : ow a = r) : cFr [r] 0 ow h ow (stI h a T) := ⟨⟨Nat.le_refl _, Nat.le_refl _, Nat.le_refl _⟩, fun x _ => ⟨rfl, rfl, fun z => cSm_stI (fun w => z (by rw [w, e]; exact List.mem_singleton.mpr rfl))⟩⟩
theorem mH_ext {h h' : mH} (h1 : h.1 = h'.1) (h2 : ∀ x, hK h x = hK h' x) (h3 : ∀ x y, hI h x y = hI h' x y) (h4 : ∀ x y, hL h x y = hL h' x y) (h5 : ∀ x y, hR h x y = hR h' x y) : h = h' := by
  obtain ⟨a, b, c, d, e⟩ := h
  obtain ⟨a', b', c', d', e'⟩ := h'
  have h1 : a = a' := h1
  have h2 : b = b' := funext h2
  have h3 : c = c' := funext fun x => funext (h3 x)
  have h4 : d = d' := funext fun x => funext (h4 x)
  have h5 : e = e' := funext fun x => funext (h5 x)
  rw [h1, h2, h3, h4, h5]
theorem stL_id {h : mH} {a : Nat} {T : Nat → Int64} (e : ∀ y, T y = hL h a y) : stL h a T = h := mH_ext rfl (fun _ => rfl) (fun _ _ => rfl) (fun x y => by
  rw [hL_stL]
  by_cases z : x = a
  · rw [if_pos z, z, e]
  · rw [if_neg z]) (fun _ _ => rfl)
theorem stI_id {h : mH} {a : Nat} {T : Nat → Int32} (e : ∀ y, T y = hI h a y) : stI h a T = h := mH_ext rfl (fun _ => rfl) (fun x y => by
  rw [hI_stI]
  by_cases z : x = a
  · rw [if_pos z, z, e]
  · rw [if_neg z]) (fun _ _ => rfl) (fun _ _ => rfl)
theorem sL_stL {h : mH} {a j : Nat} {v : Int64} {T : Nat → Int64} : sL (stL h a T) a j v = stL h a (up1 T j v) := mH_ext rfl (fun _ => rfl) (fun _ _ => rfl) (fun x y => by
  rw [hL_sL, hL_stL, hL_stL]
  unfold up1
  by_cases z : x = a
  · by_cases w : y = j
    · rw [if_pos ⟨z, w⟩, if_pos z, if_pos w]
    · rw [if_neg (fun q => w q.2), if_pos z, if_pos z, if_neg w]
  · rw [if_neg (fun q => z q.1), if_neg z, if_neg z]) (fun _ _ => rfl)
theorem sI_stI {h : mH} {a j : Nat} {v : Int32} {T : Nat → Int32} : sI (stI h a T) a j v = stI h a (upI T j v) := mH_ext rfl (fun _ => rfl) (fun x y => by
  rw [hI_sI, hI_stI, hI_stI]
  unfold upI
  by_cases z : x = a
  · by_cases w : y = j
    · rw [if_pos ⟨z, w⟩, if_pos z, if_pos w]
    · rw [if_neg (fun q => w q.2), if_pos z, if_pos z, if_neg w]
  · rw [if_neg (fun q => z q.1), if_neg z, if_neg z]) (fun _ _ => rfl) (fun _ _ => rfl)
def fiL (T : Nat → Int64) (v : Int64) (n : Nat) : Nat → Int64 := fun y => if y < n then v else T y
def fiI (T : Nat → Int32) (v : Int32) (n : Nat) : Nat → Int32 := fun y => if y < n then v else T y
theorem fiL_s (T : Nat → Int64) (v : Int64) (n : Nat) : up1 (fiL T v n) n v = fiL T v (n + 1) := funext fun y => by
  unfold up1 fiL
  by_cases z : y = n
  · rw [if_pos z, if_pos (by omega)]
  · rw [if_neg z]
    by_cases w : y < n
    · rw [if_pos w, if_pos (by omega)]
    · rw [if_neg w, if_neg (by omega)]
theorem fiI_s (T : Nat → Int32) (v : Int32) (n : Nat) : upI (fiI T v n) n v = fiI T v (n + 1) := funext fun y => by
  unfold upI fiI
  by_cases z : y = n
  · rw [if_pos z, if_pos (by omega)]
  · rw [if_neg z]
    by_cases w : y < n
    · rw [if_pos w, if_pos (by omega)]
    · rw [if_neg w, if_neg (by omega)]
theorem zG.z0 {ow : Nat → Nat} {h : mH} {pl : Nat → Int64} {gb : Int32} {ge : Int32} {gs : Int64} {gn : Int64} {gf : Int32} {gt : Int32} {M : mM} {fr9 lo9 pc9 : Nat} {ls9 : List (Option Value)} {sk9 : List Value} {Q : Option Value → mH → Prop} {T T' : Nat → Int64} (g : zG ow h pl gb ge gs gn gf gt) (e : T = T') (K : ∀ h', cFr [1] 0 ow h ow h' → zG ow h' T' gb ge gs gn gf gt → Wp M fr9 lo9 pc9 ls9 sk9 h' Q) : Wp M fr9 lo9 pc9 ls9 sk9 (stL h 116 T) Q := by
  exact K _ (cFr_stL g.v0) ⟨g.o, g.w, g.r0, g.a0, g.v0, (funext fun y9 => by rw [hL_stL, if_pos rfl, e]), g.f1, g.f2, (by rw [hL_stL, if_neg (by omega)]; exact g.f3), (by rw [hL_stL, if_neg (by omega)]; exact g.f4), g.f5, g.f6⟩
theorem zV.z0 {ow : Nat → Nat} {h : mH} {v0 : Nat → Int32} {v1 : Nat → Int32} {v2 : Nat → Int32} {v3 : Nat → Int32} {v4 : Nat → Int32} {vc : Int32} {vk : Int32} {vh : Int32} {M : mM} {fr9 lo9 pc9 : Nat} {ls9 : List (Option Value)} {sk9 : List Value} {Q : Option Value → mH → Prop} {T T' : Nat → Int32} (g : zV ow h v0 v1 v2 v3 v4 vc vk vh) (e : T = T') (K : ∀ h', cFr [2] 0 ow h ow h' → zV ow h' T' v1 v2 v3 v4 vc vk vh → Wp M fr9 lo9 pc9 ls9 sk9 h' Q) : Wp M fr9 lo9 pc9 ls9 sk9 (stI h 110 T) Q := by
  exact K _ (cFr_stI g.v0) ⟨g.o, g.w, g.r0, g.a0, g.v0, (funext fun y9 => by rw [hI_stI, if_pos rfl, e]), g.r1, g.a1, g.v1, (funext fun y9 => by rw [hI_stI, if_neg (by omega)]; exact congrFun g.c1 y9), g.r2, g.a2, g.v2, (funext fun y9 => by rw [hI_stI, if_neg (by omega)]; exact congrFun g.c2 y9), g.r3, g.a3, g.v3, (funext fun y9 => by rw [hI_stI, if_neg (by omega)]; exact congrFun g.c3 y9), g.r4, g.a4, g.v4, (funext fun y9 => by rw [hI_stI, if_neg (by omega)]; exact congrFun g.c4 y9), (by rw [hI_stI, if_neg (by omega)]; exact g.f5), (by rw [hI_stI, if_neg (by omega)]; exact g.f6), (by rw [hI_stI, if_neg (by omega)]; exact g.f7)⟩
theorem zV.z1 {ow : Nat → Nat} {h : mH} {v0 : Nat → Int32} {v1 : Nat → Int32} {v2 : Nat → Int32} {v3 : Nat → Int32} {v4 : Nat → Int32} {vc : Int32} {vk : Int32} {vh : Int32} {M : mM} {fr9 lo9 pc9 : Nat} {ls9 : List (Option Value)} {sk9 : List Value} {Q : Option Value → mH → Prop} {T T' : Nat → Int32} (g : zV ow h v0 v1 v2 v3 v4 vc vk vh) (e : T = T') (K : ∀ h', cFr [2] 0 ow h ow h' → zV ow h' v0 T' v2 v3 v4 vc vk vh → Wp M fr9 lo9 pc9 ls9 sk9 h' Q) : Wp M fr9 lo9 pc9 ls9 sk9 (stI h 111 T) Q := by
  exact K _ (cFr_stI g.v1) ⟨g.o, g.w, g.r0, g.a0, g.v0, (funext fun y9 => by rw [hI_stI, if_neg (by omega)]; exact congrFun g.c0 y9), g.r1, g.a1, g.v1, (funext fun y9 => by rw [hI_stI, if_pos rfl, e]), g.r2, g.a2, g.v2, (funext fun y9 => by rw [hI_stI, if_neg (by omega)]; exact congrFun g.c2 y9), g.r3, g.a3, g.v3, (funext fun y9 => by rw [hI_stI, if_neg (by omega)]; exact congrFun g.c3 y9), g.r4, g.a4, g.v4, (funext fun y9 => by rw [hI_stI, if_neg (by omega)]; exact congrFun g.c4 y9), (by rw [hI_stI, if_neg (by omega)]; exact g.f5), (by rw [hI_stI, if_neg (by omega)]; exact g.f6), (by rw [hI_stI, if_neg (by omega)]; exact g.f7)⟩
theorem zV.z2 {ow : Nat → Nat} {h : mH} {v0 : Nat → Int32} {v1 : Nat → Int32} {v2 : Nat → Int32} {v3 : Nat → Int32} {v4 : Nat → Int32} {vc : Int32} {vk : Int32} {vh : Int32} {M : mM} {fr9 lo9 pc9 : Nat} {ls9 : List (Option Value)} {sk9 : List Value} {Q : Option Value → mH → Prop} {T T' : Nat → Int32} (g : zV ow h v0 v1 v2 v3 v4 vc vk vh) (e : T = T') (K : ∀ h', cFr [2] 0 ow h ow h' → zV ow h' v0 v1 T' v3 v4 vc vk vh → Wp M fr9 lo9 pc9 ls9 sk9 h' Q) : Wp M fr9 lo9 pc9 ls9 sk9 (stI h 112 T) Q := by
  exact K _ (cFr_stI g.v2) ⟨g.o, g.w, g.r0, g.a0, g.v0, (funext fun y9 => by rw [hI_stI, if_neg (by omega)]; exact congrFun g.c0 y9), g.r1, g.a1, g.v1, (funext fun y9 => by rw [hI_stI, if_neg (by omega)]; exact congrFun g.c1 y9), g.r2, g.a2, g.v2, (funext fun y9 => by rw [hI_stI, if_pos rfl, e]), g.r3, g.a3, g.v3, (funext fun y9 => by rw [hI_stI, if_neg (by omega)]; exact congrFun g.c3 y9), g.r4, g.a4, g.v4, (funext fun y9 => by rw [hI_stI, if_neg (by omega)]; exact congrFun g.c4 y9), (by rw [hI_stI, if_neg (by omega)]; exact g.f5), (by rw [hI_stI, if_neg (by omega)]; exact g.f6), (by rw [hI_stI, if_neg (by omega)]; exact g.f7)⟩
theorem zV.z3 {ow : Nat → Nat} {h : mH} {v0 : Nat → Int32} {v1 : Nat → Int32} {v2 : Nat → Int32} {v3 : Nat → Int32} {v4 : Nat → Int32} {vc : Int32} {vk : Int32} {vh : Int32} {M : mM} {fr9 lo9 pc9 : Nat} {ls9 : List (Option Value)} {sk9 : List Value} {Q : Option Value → mH → Prop} {T T' : Nat → Int32} (g : zV ow h v0 v1 v2 v3 v4 vc vk vh) (e : T = T') (K : ∀ h', cFr [2] 0 ow h ow h' → zV ow h' v0 v1 v2 T' v4 vc vk vh → Wp M fr9 lo9 pc9 ls9 sk9 h' Q) : Wp M fr9 lo9 pc9 ls9 sk9 (stI h 113 T) Q := by
  exact K _ (cFr_stI g.v3) ⟨g.o, g.w, g.r0, g.a0, g.v0, (funext fun y9 => by rw [hI_stI, if_neg (by omega)]; exact congrFun g.c0 y9), g.r1, g.a1, g.v1, (funext fun y9 => by rw [hI_stI, if_neg (by omega)]; exact congrFun g.c1 y9), g.r2, g.a2, g.v2, (funext fun y9 => by rw [hI_stI, if_neg (by omega)]; exact congrFun g.c2 y9), g.r3, g.a3, g.v3, (funext fun y9 => by rw [hI_stI, if_pos rfl, e]), g.r4, g.a4, g.v4, (funext fun y9 => by rw [hI_stI, if_neg (by omega)]; exact congrFun g.c4 y9), (by rw [hI_stI, if_neg (by omega)]; exact g.f5), (by rw [hI_stI, if_neg (by omega)]; exact g.f6), (by rw [hI_stI, if_neg (by omega)]; exact g.f7)⟩
theorem zV.z4 {ow : Nat → Nat} {h : mH} {v0 : Nat → Int32} {v1 : Nat → Int32} {v2 : Nat → Int32} {v3 : Nat → Int32} {v4 : Nat → Int32} {vc : Int32} {vk : Int32} {vh : Int32} {M : mM} {fr9 lo9 pc9 : Nat} {ls9 : List (Option Value)} {sk9 : List Value} {Q : Option Value → mH → Prop} {T T' : Nat → Int32} (g : zV ow h v0 v1 v2 v3 v4 vc vk vh) (e : T = T') (K : ∀ h', cFr [2] 0 ow h ow h' → zV ow h' v0 v1 v2 v3 T' vc vk vh → Wp M fr9 lo9 pc9 ls9 sk9 h' Q) : Wp M fr9 lo9 pc9 ls9 sk9 (stI h 114 T) Q := by
  exact K _ (cFr_stI g.v4) ⟨g.o, g.w, g.r0, g.a0, g.v0, (funext fun y9 => by rw [hI_stI, if_neg (by omega)]; exact congrFun g.c0 y9), g.r1, g.a1, g.v1, (funext fun y9 => by rw [hI_stI, if_neg (by omega)]; exact congrFun g.c1 y9), g.r2, g.a2, g.v2, (funext fun y9 => by rw [hI_stI, if_neg (by omega)]; exact congrFun g.c2 y9), g.r3, g.a3, g.v3, (funext fun y9 => by rw [hI_stI, if_neg (by omega)]; exact congrFun g.c3 y9), g.r4, g.a4, g.v4, (funext fun y9 => by rw [hI_stI, if_pos rfl, e]), (by rw [hI_stI, if_neg (by omega)]; exact g.f5), (by rw [hI_stI, if_neg (by omega)]; exact g.f6), (by rw [hI_stI, if_neg (by omega)]; exact g.f7)⟩
theorem zL.z0 {ow : Nat → Nat} {h : mH} {a ρ : Nat} {lb : Nat → Int32} {lc : Int32} {M : mM} {fr9 lo9 pc9 : Nat} {ls9 : List (Option Value)} {sk9 : List Value} {Q : Option Value → mH → Prop} {T T' : Nat → Int32} (g : zL ow h a ρ lb lc) (e : T = T') (K : ∀ h', cFr [ρ] 0 ow h ow h' → zL ow h' a ρ T' lc → Wp M fr9 lo9 pc9 ls9 sk9 h' Q) : Wp M fr9 lo9 pc9 ls9 sk9 (stI h (a + 1) T) Q := by
  exact K _ (cFr_stI g.v0) ⟨g.o, g.w, g.r0, g.a0, g.v0, (funext fun y9 => by rw [hI_stI, if_pos rfl, e]), (by rw [hI_stI, if_neg (by omega)]; exact g.f1)⟩
theorem zR.z1 {ow : Nat → Nat} {h : mH} {rc : Nat → Int32} {rp : Int32} {rq : Option Nat} {rf : Int32} {rl : Int32} {rx : Option Nat} {rn : Int32} {ra : Int32} {rb : Int32} {rk : Int32} {rw : Int64} {M : mM} {fr9 lo9 pc9 : Nat} {ls9 : List (Option Value)} {sk9 : List Value} {Q : Option Value → mH → Prop} {T T' : Nat → Int32} (g : zR ow h rc rp rq rf rl rx rn ra rb rk rw) (e : T = T') (K : ∀ h', cFr [5] 0 ow h ow h' → zR ow h' T' rp rq rf rl rx rn ra rb rk rw → Wp M fr9 lo9 pc9 ls9 sk9 h' Q) : Wp M fr9 lo9 pc9 ls9 sk9 (stI h 14 T) Q := by
  exact K _ (cFr_stI g.v1) ⟨g.o, g.w, g.r0, g.r1, g.a1, g.v1, (funext fun y9 => by rw [hI_stI, if_pos rfl, e]), (by rw [hI_stI, if_neg (by omega)]; exact g.f2), g.f3, (by rw [hI_stI, if_neg (by omega)]; exact g.f4), (by rw [hI_stI, if_neg (by omega)]; exact g.f5), g.f6, (by rw [hI_stI, if_neg (by omega)]; exact g.f7), (by rw [hI_stI, if_neg (by omega)]; exact g.f8), (by rw [hI_stI, if_neg (by omega)]; exact g.f9), (by rw [hI_stI, if_neg (by omega)]; exact g.f10), g.f11⟩
theorem zS.z2 {ow : Nat → Nat} {h : mH} {a ρ : Nat} {sp : Nat → Option Nat} {sl : Nat → Option Nat} {ss : Nat → Int64} {se : Nat → Int64} {sc : Int32} {M : mM} {fr9 lo9 pc9 : Nat} {ls9 : List (Option Value)} {sk9 : List Value} {Q : Option Value → mH → Prop} {T T' : Nat → Int64} (g : zS ow h a ρ sp sl ss se sc) (e : T = T') (K : ∀ h', cFr [ρ] 0 ow h ow h' → zS ow h' a ρ sp sl T' se sc → Wp M fr9 lo9 pc9 ls9 sk9 h' Q) : Wp M fr9 lo9 pc9 ls9 sk9 (stL h (a + 3) T) Q := by
  exact K _ (cFr_stL g.v2) ⟨g.o, g.w, g.r0, g.a0, g.v0, g.c0, g.r1, g.a1, g.v1, g.c1, g.r2, g.a2, g.v2, (funext fun y9 => by rw [hL_stL, if_pos rfl, e]), g.r3, g.a3, g.v3, (funext fun y9 => by rw [hL_stL, if_neg (by omega)]; exact congrFun g.c3 y9), g.f4⟩
theorem zS.z3 {ow : Nat → Nat} {h : mH} {a ρ : Nat} {sp : Nat → Option Nat} {sl : Nat → Option Nat} {ss : Nat → Int64} {se : Nat → Int64} {sc : Int32} {M : mM} {fr9 lo9 pc9 : Nat} {ls9 : List (Option Value)} {sk9 : List Value} {Q : Option Value → mH → Prop} {T T' : Nat → Int64} (g : zS ow h a ρ sp sl ss se sc) (e : T = T') (K : ∀ h', cFr [ρ] 0 ow h ow h' → zS ow h' a ρ sp sl ss T' sc → Wp M fr9 lo9 pc9 ls9 sk9 h' Q) : Wp M fr9 lo9 pc9 ls9 sk9 (stL h (a + 4) T) Q := by
  exact K _ (cFr_stL g.v3) ⟨g.o, g.w, g.r0, g.a0, g.v0, g.c0, g.r1, g.a1, g.v1, g.c1, g.r2, g.a2, g.v2, (funext fun y9 => by rw [hL_stL, if_neg (by omega)]; exact congrFun g.c2 y9), g.r3, g.a3, g.v3, (funext fun y9 => by rw [hL_stL, if_pos rfl, e]), g.f4⟩
theorem zP.z1 {ow : Nat → Nat} {h : mH} {a ρ n : Nat} {pc : Int32} {pt : Nat → Int64} {pk : Nat → Int32} {pn : Nat → Int32} {pu : Int32} {M : mM} {fr9 lo9 pc9 : Nat} {ls9 : List (Option Value)} {sk9 : List Value} {Q : Option Value → mH → Prop} {T T' : Nat → Int64} (g : zP ow h a ρ n pc pt pk pn pu) (e : T = T') (K : ∀ h', cFr [ρ] 0 ow h ow h' → zP ow h' a ρ n pc T' pk pn pu → Wp M fr9 lo9 pc9 ls9 sk9 h' Q) : Wp M fr9 lo9 pc9 ls9 sk9 (stL h (a + 1) T) Q := by
  exact K _ (cFr_stL g.v1) ⟨g.o, g.w, g.f0, g.r1, g.a1, g.v1, (funext fun y9 => by rw [hL_stL, if_pos rfl, e]), g.r2, g.a2, g.v2, g.c2, g.r3, g.a3, g.v3, g.c3, g.f4⟩
theorem zP.z2 {ow : Nat → Nat} {h : mH} {a ρ n : Nat} {pc : Int32} {pt : Nat → Int64} {pk : Nat → Int32} {pn : Nat → Int32} {pu : Int32} {M : mM} {fr9 lo9 pc9 : Nat} {ls9 : List (Option Value)} {sk9 : List Value} {Q : Option Value → mH → Prop} {T T' : Nat → Int32} (g : zP ow h a ρ n pc pt pk pn pu) (e : T = T') (K : ∀ h', cFr [ρ] 0 ow h ow h' → zP ow h' a ρ n pc pt T' pn pu → Wp M fr9 lo9 pc9 ls9 sk9 h' Q) : Wp M fr9 lo9 pc9 ls9 sk9 (stI h (a + 2) T) Q := by
  exact K _ (cFr_stI g.v2) ⟨g.o, g.w, (by rw [hI_stI, if_neg (by omega)]; exact g.f0), g.r1, g.a1, g.v1, g.c1, g.r2, g.a2, g.v2, (funext fun y9 => by rw [hI_stI, if_pos rfl, e]), g.r3, g.a3, g.v3, (funext fun y9 => by rw [hI_stI, if_neg (by omega)]; exact congrFun g.c3 y9), (by rw [hI_stI, if_neg (by omega)]; exact g.f4)⟩
theorem zP.z3 {ow : Nat → Nat} {h : mH} {a ρ n : Nat} {pc : Int32} {pt : Nat → Int64} {pk : Nat → Int32} {pn : Nat → Int32} {pu : Int32} {M : mM} {fr9 lo9 pc9 : Nat} {ls9 : List (Option Value)} {sk9 : List Value} {Q : Option Value → mH → Prop} {T T' : Nat → Int32} (g : zP ow h a ρ n pc pt pk pn pu) (e : T = T') (K : ∀ h', cFr [ρ] 0 ow h ow h' → zP ow h' a ρ n pc pt pk T' pu → Wp M fr9 lo9 pc9 ls9 sk9 h' Q) : Wp M fr9 lo9 pc9 ls9 sk9 (stI h (a + 3) T) Q := by
  exact K _ (cFr_stI g.v3) ⟨g.o, g.w, (by rw [hI_stI, if_neg (by omega)]; exact g.f0), g.r1, g.a1, g.v1, g.c1, g.r2, g.a2, g.v2, (funext fun y9 => by rw [hI_stI, if_neg (by omega)]; exact congrFun g.c2 y9), g.r3, g.a3, g.v3, (funext fun y9 => by rw [hI_stI, if_pos rfl, e]), (by rw [hI_stI, if_neg (by omega)]; exact g.f4)⟩
theorem zN.z0 {ow : Nat → Nat} {h : mH} {a ρ n m : Nat} {nr : Nat → Int64} {np : Nat → Int32} {nf : Int32} {nm : Int32} {n1 : Int32} {n2 : Int32} {M : mM} {fr9 lo9 pc9 : Nat} {ls9 : List (Option Value)} {sk9 : List Value} {Q : Option Value → mH → Prop} {T T' : Nat → Int64} (g : zN ow h a ρ n m nr np nf nm n1 n2) (e : T = T') (K : ∀ h', cFr [ρ] 0 ow h ow h' → zN ow h' a ρ n m T' np nf nm n1 n2 → Wp M fr9 lo9 pc9 ls9 sk9 h' Q) : Wp M fr9 lo9 pc9 ls9 sk9 (stL h (a + 1) T) Q := by
  exact K _ (cFr_stL g.v0) ⟨g.o, g.w, g.r0, g.a0, g.v0, (funext fun y9 => by rw [hL_stL, if_pos rfl, e]), g.r1, g.a1, g.v1, g.c1, g.f2, g.f3, g.f4, g.f5⟩
theorem zN.z1 {ow : Nat → Nat} {h : mH} {a ρ n m : Nat} {nr : Nat → Int64} {np : Nat → Int32} {nf : Int32} {nm : Int32} {n1 : Int32} {n2 : Int32} {M : mM} {fr9 lo9 pc9 : Nat} {ls9 : List (Option Value)} {sk9 : List Value} {Q : Option Value → mH → Prop} {T T' : Nat → Int32} (g : zN ow h a ρ n m nr np nf nm n1 n2) (e : T = T') (K : ∀ h', cFr [ρ] 0 ow h ow h' → zN ow h' a ρ n m nr T' nf nm n1 n2 → Wp M fr9 lo9 pc9 ls9 sk9 h' Q) : Wp M fr9 lo9 pc9 ls9 sk9 (stI h (a + 2) T) Q := by
  exact K _ (cFr_stI g.v1) ⟨g.o, g.w, g.r0, g.a0, g.v0, g.c0, g.r1, g.a1, g.v1, (funext fun y9 => by rw [hI_stI, if_pos rfl, e]), (by rw [hI_stI, if_neg (by omega)]; exact g.f2), (by rw [hI_stI, if_neg (by omega)]; exact g.f3), (by rw [hI_stI, if_neg (by omega)]; exact g.f4), (by rw [hI_stI, if_neg (by omega)]; exact g.f5)⟩
theorem zF.z0 {ow : Nat → Nat} {h : mH} {a ρ : Nat} {fn : Nat → Int64} {fp : Nat → Int32} {fm : Nat → Int32} {fc : Int32} {M : mM} {fr9 lo9 pc9 : Nat} {ls9 : List (Option Value)} {sk9 : List Value} {Q : Option Value → mH → Prop} {T T' : Nat → Int64} (g : zF ow h a ρ fn fp fm fc) (e : T = T') (K : ∀ h', cFr [ρ] 0 ow h ow h' → zF ow h' a ρ T' fp fm fc → Wp M fr9 lo9 pc9 ls9 sk9 h' Q) : Wp M fr9 lo9 pc9 ls9 sk9 (stL h (a + 1) T) Q := by
  exact K _ (cFr_stL g.v0) ⟨g.o, g.w, g.r0, g.a0, g.v0, (funext fun y9 => by rw [hL_stL, if_pos rfl, e]), g.r1, g.a1, g.v1, g.c1, g.r2, g.a2, g.v2, g.c2, g.f3⟩
theorem zF.z1 {ow : Nat → Nat} {h : mH} {a ρ : Nat} {fn : Nat → Int64} {fp : Nat → Int32} {fm : Nat → Int32} {fc : Int32} {M : mM} {fr9 lo9 pc9 : Nat} {ls9 : List (Option Value)} {sk9 : List Value} {Q : Option Value → mH → Prop} {T T' : Nat → Int32} (g : zF ow h a ρ fn fp fm fc) (e : T = T') (K : ∀ h', cFr [ρ] 0 ow h ow h' → zF ow h' a ρ fn T' fm fc → Wp M fr9 lo9 pc9 ls9 sk9 h' Q) : Wp M fr9 lo9 pc9 ls9 sk9 (stI h (a + 2) T) Q := by
  exact K _ (cFr_stI g.v1) ⟨g.o, g.w, g.r0, g.a0, g.v0, g.c0, g.r1, g.a1, g.v1, (funext fun y9 => by rw [hI_stI, if_pos rfl, e]), g.r2, g.a2, g.v2, (funext fun y9 => by rw [hI_stI, if_neg (by omega)]; exact congrFun g.c2 y9), (by rw [hI_stI, if_neg (by omega)]; exact g.f3)⟩
theorem zF.z2 {ow : Nat → Nat} {h : mH} {a ρ : Nat} {fn : Nat → Int64} {fp : Nat → Int32} {fm : Nat → Int32} {fc : Int32} {M : mM} {fr9 lo9 pc9 : Nat} {ls9 : List (Option Value)} {sk9 : List Value} {Q : Option Value → mH → Prop} {T T' : Nat → Int32} (g : zF ow h a ρ fn fp fm fc) (e : T = T') (K : ∀ h', cFr [ρ] 0 ow h ow h' → zF ow h' a ρ fn fp T' fc → Wp M fr9 lo9 pc9 ls9 sk9 h' Q) : Wp M fr9 lo9 pc9 ls9 sk9 (stI h (a + 3) T) Q := by
  exact K _ (cFr_stI g.v2) ⟨g.o, g.w, g.r0, g.a0, g.v0, g.c0, g.r1, g.a1, g.v1, (funext fun y9 => by rw [hI_stI, if_neg (by omega)]; exact congrFun g.c1 y9), g.r2, g.a2, g.v2, (funext fun y9 => by rw [hI_stI, if_pos rfl, e]), (by rw [hI_stI, if_neg (by omega)]; exact g.f3)⟩
theorem zT.z2 {ow : Nat → Nat} {h : mH} {a ρ n m a2 a3 a4 a5 a6 a7 : Nat} {tf : Int32} {tc : Int32} {t2 : Nat → Int64} {t3 : Nat → Int32} {t4 : Nat → Int32} {t5 : Nat → Int32} {t6 : Nat → Int64} {t7 : Nat → Int64} {tp : Int32} {M : mM} {fr9 lo9 pc9 : Nat} {ls9 : List (Option Value)} {sk9 : List Value} {Q : Option Value → mH → Prop} {T T' : Nat → Int64} (g : zT ow h a ρ n m a2 a3 a4 a5 a6 a7 tf tc t2 t3 t4 t5 t6 t7 tp) (e : T = T') (K : ∀ h', cFr [ρ] 0 ow h ow h' → zT ow h' a ρ n m a2 a3 a4 a5 a6 a7 tf tc T' t3 t4 t5 t6 t7 tp → Wp M fr9 lo9 pc9 ls9 sk9 h' Q) : Wp M fr9 lo9 pc9 ls9 sk9 (stL h a2 T) Q := by
  have ne9 := g.ne
  exact K _ (cFr_stL g.v2) ⟨g.o, g.w, g.ne, g.f0, g.f1, g.r2, g.a2, g.v2, (funext fun y9 => by rw [hL_stL, if_pos rfl, e]), g.r3, g.a3, g.v3, g.c3, g.r4, g.a4, g.v4, g.c4, g.r5, g.a5, g.v5, g.c5, g.r6, g.a6, g.v6, (funext fun y9 => by rw [hL_stL, if_neg (by omega)]; exact congrFun g.c6 y9), g.r7, g.a7, g.v7, (funext fun y9 => by rw [hL_stL, if_neg (by omega)]; exact congrFun g.c7 y9), g.f8⟩
theorem zT.z3 {ow : Nat → Nat} {h : mH} {a ρ n m a2 a3 a4 a5 a6 a7 : Nat} {tf : Int32} {tc : Int32} {t2 : Nat → Int64} {t3 : Nat → Int32} {t4 : Nat → Int32} {t5 : Nat → Int32} {t6 : Nat → Int64} {t7 : Nat → Int64} {tp : Int32} {M : mM} {fr9 lo9 pc9 : Nat} {ls9 : List (Option Value)} {sk9 : List Value} {Q : Option Value → mH → Prop} {T T' : Nat → Int32} (g : zT ow h a ρ n m a2 a3 a4 a5 a6 a7 tf tc t2 t3 t4 t5 t6 t7 tp) (e : T = T') (K : ∀ h', cFr [ρ] 0 ow h ow h' → zT ow h' a ρ n m a2 a3 a4 a5 a6 a7 tf tc t2 T' t4 t5 t6 t7 tp → Wp M fr9 lo9 pc9 ls9 sk9 h' Q) : Wp M fr9 lo9 pc9 ls9 sk9 (stI h a3 T) Q := by
  have ne9 := g.ne
  exact K _ (cFr_stI g.v3) ⟨g.o, g.w, g.ne, (by rw [hI_stI, if_neg (by omega)]; exact g.f0), (by rw [hI_stI, if_neg (by omega)]; exact g.f1), g.r2, g.a2, g.v2, g.c2, g.r3, g.a3, g.v3, (funext fun y9 => by rw [hI_stI, if_pos rfl, e]), g.r4, g.a4, g.v4, (funext fun y9 => by rw [hI_stI, if_neg (by omega)]; exact congrFun g.c4 y9), g.r5, g.a5, g.v5, (funext fun y9 => by rw [hI_stI, if_neg (by omega)]; exact congrFun g.c5 y9), g.r6, g.a6, g.v6, g.c6, g.r7, g.a7, g.v7, g.c7, (by rw [hI_stI, if_neg (by omega)]; exact g.f8)⟩
theorem zT.z4 {ow : Nat → Nat} {h : mH} {a ρ n m a2 a3 a4 a5 a6 a7 : Nat} {tf : Int32} {tc : Int32} {t2 : Nat → Int64} {t3 : Nat → Int32} {t4 : Nat → Int32} {t5 : Nat → Int32} {t6 : Nat → Int64} {t7 : Nat → Int64} {tp : Int32} {M : mM} {fr9 lo9 pc9 : Nat} {ls9 : List (Option Value)} {sk9 : List Value} {Q : Option Value → mH → Prop} {T T' : Nat → Int32} (g : zT ow h a ρ n m a2 a3 a4 a5 a6 a7 tf tc t2 t3 t4 t5 t6 t7 tp) (e : T = T') (K : ∀ h', cFr [ρ] 0 ow h ow h' → zT ow h' a ρ n m a2 a3 a4 a5 a6 a7 tf tc t2 t3 T' t5 t6 t7 tp → Wp M fr9 lo9 pc9 ls9 sk9 h' Q) : Wp M fr9 lo9 pc9 ls9 sk9 (stI h a4 T) Q := by
  have ne9 := g.ne
  exact K _ (cFr_stI g.v4) ⟨g.o, g.w, g.ne, (by rw [hI_stI, if_neg (by omega)]; exact g.f0), (by rw [hI_stI, if_neg (by omega)]; exact g.f1), g.r2, g.a2, g.v2, g.c2, g.r3, g.a3, g.v3, (funext fun y9 => by rw [hI_stI, if_neg (by omega)]; exact congrFun g.c3 y9), g.r4, g.a4, g.v4, (funext fun y9 => by rw [hI_stI, if_pos rfl, e]), g.r5, g.a5, g.v5, (funext fun y9 => by rw [hI_stI, if_neg (by omega)]; exact congrFun g.c5 y9), g.r6, g.a6, g.v6, g.c6, g.r7, g.a7, g.v7, g.c7, (by rw [hI_stI, if_neg (by omega)]; exact g.f8)⟩
theorem zT.z5 {ow : Nat → Nat} {h : mH} {a ρ n m a2 a3 a4 a5 a6 a7 : Nat} {tf : Int32} {tc : Int32} {t2 : Nat → Int64} {t3 : Nat → Int32} {t4 : Nat → Int32} {t5 : Nat → Int32} {t6 : Nat → Int64} {t7 : Nat → Int64} {tp : Int32} {M : mM} {fr9 lo9 pc9 : Nat} {ls9 : List (Option Value)} {sk9 : List Value} {Q : Option Value → mH → Prop} {T T' : Nat → Int32} (g : zT ow h a ρ n m a2 a3 a4 a5 a6 a7 tf tc t2 t3 t4 t5 t6 t7 tp) (e : T = T') (K : ∀ h', cFr [ρ] 0 ow h ow h' → zT ow h' a ρ n m a2 a3 a4 a5 a6 a7 tf tc t2 t3 t4 T' t6 t7 tp → Wp M fr9 lo9 pc9 ls9 sk9 h' Q) : Wp M fr9 lo9 pc9 ls9 sk9 (stI h a5 T) Q := by
  have ne9 := g.ne
  exact K _ (cFr_stI g.v5) ⟨g.o, g.w, g.ne, (by rw [hI_stI, if_neg (by omega)]; exact g.f0), (by rw [hI_stI, if_neg (by omega)]; exact g.f1), g.r2, g.a2, g.v2, g.c2, g.r3, g.a3, g.v3, (funext fun y9 => by rw [hI_stI, if_neg (by omega)]; exact congrFun g.c3 y9), g.r4, g.a4, g.v4, (funext fun y9 => by rw [hI_stI, if_neg (by omega)]; exact congrFun g.c4 y9), g.r5, g.a5, g.v5, (funext fun y9 => by rw [hI_stI, if_pos rfl, e]), g.r6, g.a6, g.v6, g.c6, g.r7, g.a7, g.v7, g.c7, (by rw [hI_stI, if_neg (by omega)]; exact g.f8)⟩
theorem zT.z6 {ow : Nat → Nat} {h : mH} {a ρ n m a2 a3 a4 a5 a6 a7 : Nat} {tf : Int32} {tc : Int32} {t2 : Nat → Int64} {t3 : Nat → Int32} {t4 : Nat → Int32} {t5 : Nat → Int32} {t6 : Nat → Int64} {t7 : Nat → Int64} {tp : Int32} {M : mM} {fr9 lo9 pc9 : Nat} {ls9 : List (Option Value)} {sk9 : List Value} {Q : Option Value → mH → Prop} {T T' : Nat → Int64} (g : zT ow h a ρ n m a2 a3 a4 a5 a6 a7 tf tc t2 t3 t4 t5 t6 t7 tp) (e : T = T') (K : ∀ h', cFr [ρ] 0 ow h ow h' → zT ow h' a ρ n m a2 a3 a4 a5 a6 a7 tf tc t2 t3 t4 t5 T' t7 tp → Wp M fr9 lo9 pc9 ls9 sk9 h' Q) : Wp M fr9 lo9 pc9 ls9 sk9 (stL h a6 T) Q := by
  have ne9 := g.ne
  exact K _ (cFr_stL g.v6) ⟨g.o, g.w, g.ne, g.f0, g.f1, g.r2, g.a2, g.v2, (funext fun y9 => by rw [hL_stL, if_neg (by omega)]; exact congrFun g.c2 y9), g.r3, g.a3, g.v3, g.c3, g.r4, g.a4, g.v4, g.c4, g.r5, g.a5, g.v5, g.c5, g.r6, g.a6, g.v6, (funext fun y9 => by rw [hL_stL, if_pos rfl, e]), g.r7, g.a7, g.v7, (funext fun y9 => by rw [hL_stL, if_neg (by omega)]; exact congrFun g.c7 y9), g.f8⟩
theorem zT.z7 {ow : Nat → Nat} {h : mH} {a ρ n m a2 a3 a4 a5 a6 a7 : Nat} {tf : Int32} {tc : Int32} {t2 : Nat → Int64} {t3 : Nat → Int32} {t4 : Nat → Int32} {t5 : Nat → Int32} {t6 : Nat → Int64} {t7 : Nat → Int64} {tp : Int32} {M : mM} {fr9 lo9 pc9 : Nat} {ls9 : List (Option Value)} {sk9 : List Value} {Q : Option Value → mH → Prop} {T T' : Nat → Int64} (g : zT ow h a ρ n m a2 a3 a4 a5 a6 a7 tf tc t2 t3 t4 t5 t6 t7 tp) (e : T = T') (K : ∀ h', cFr [ρ] 0 ow h ow h' → zT ow h' a ρ n m a2 a3 a4 a5 a6 a7 tf tc t2 t3 t4 t5 t6 T' tp → Wp M fr9 lo9 pc9 ls9 sk9 h' Q) : Wp M fr9 lo9 pc9 ls9 sk9 (stL h a7 T) Q := by
  have ne9 := g.ne
  exact K _ (cFr_stL g.v7) ⟨g.o, g.w, g.ne, g.f0, g.f1, g.r2, g.a2, g.v2, (funext fun y9 => by rw [hL_stL, if_neg (by omega)]; exact congrFun g.c2 y9), g.r3, g.a3, g.v3, g.c3, g.r4, g.a4, g.v4, g.c4, g.r5, g.a5, g.v5, g.c5, g.r6, g.a6, g.v6, (funext fun y9 => by rw [hL_stL, if_neg (by omega)]; exact congrFun g.c6 y9), g.r7, g.a7, g.v7, (funext fun y9 => by rw [hL_stL, if_pos rfl, e]), g.f8⟩
theorem zY.z3 {ow : Nat → Nat} {h : mH} {n a3 a4 a5 : Nat} {yp : Int32} {yf : Int32} {yc : Int32} {y3 : Nat → Int64} {y4 : Nat → Int64} {y5 : Nat → Int32} {M : mM} {fr9 lo9 pc9 : Nat} {ls9 : List (Option Value)} {sk9 : List Value} {Q : Option Value → mH → Prop} {T T' : Nat → Int64} (g : zY ow h n a3 a4 a5 yp yf yc y3 y4 y5) (e : T = T') (K : ∀ h', cFr [10] 0 ow h ow h' → zY ow h' n a3 a4 a5 yp yf yc T' y4 y5 → Wp M fr9 lo9 pc9 ls9 sk9 h' Q) : Wp M fr9 lo9 pc9 ls9 sk9 (stL h a3 T) Q := by
  have ne9 := g.ne
  exact K _ (cFr_stL g.v3) ⟨g.o, g.w, g.ne, g.f0, g.f1, g.f2, g.r3, g.a3, g.v3, (funext fun y9 => by rw [hL_stL, if_pos rfl, e]), g.r4, g.a4, g.v4, (funext fun y9 => by rw [hL_stL, if_neg (by omega)]; exact congrFun g.c4 y9), g.r5, g.a5, g.v5, g.c5⟩
theorem zY.z4 {ow : Nat → Nat} {h : mH} {n a3 a4 a5 : Nat} {yp : Int32} {yf : Int32} {yc : Int32} {y3 : Nat → Int64} {y4 : Nat → Int64} {y5 : Nat → Int32} {M : mM} {fr9 lo9 pc9 : Nat} {ls9 : List (Option Value)} {sk9 : List Value} {Q : Option Value → mH → Prop} {T T' : Nat → Int64} (g : zY ow h n a3 a4 a5 yp yf yc y3 y4 y5) (e : T = T') (K : ∀ h', cFr [10] 0 ow h ow h' → zY ow h' n a3 a4 a5 yp yf yc y3 T' y5 → Wp M fr9 lo9 pc9 ls9 sk9 h' Q) : Wp M fr9 lo9 pc9 ls9 sk9 (stL h a4 T) Q := by
  have ne9 := g.ne
  exact K _ (cFr_stL g.v4) ⟨g.o, g.w, g.ne, g.f0, g.f1, g.f2, g.r3, g.a3, g.v3, (funext fun y9 => by rw [hL_stL, if_neg (by omega)]; exact congrFun g.c3 y9), g.r4, g.a4, g.v4, (funext fun y9 => by rw [hL_stL, if_pos rfl, e]), g.r5, g.a5, g.v5, g.c5⟩
theorem zY.z5 {ow : Nat → Nat} {h : mH} {n a3 a4 a5 : Nat} {yp : Int32} {yf : Int32} {yc : Int32} {y3 : Nat → Int64} {y4 : Nat → Int64} {y5 : Nat → Int32} {M : mM} {fr9 lo9 pc9 : Nat} {ls9 : List (Option Value)} {sk9 : List Value} {Q : Option Value → mH → Prop} {T T' : Nat → Int32} (g : zY ow h n a3 a4 a5 yp yf yc y3 y4 y5) (e : T = T') (K : ∀ h', cFr [10] 0 ow h ow h' → zY ow h' n a3 a4 a5 yp yf yc y3 y4 T' → Wp M fr9 lo9 pc9 ls9 sk9 h' Q) : Wp M fr9 lo9 pc9 ls9 sk9 (stI h a5 T) Q := by
  have ne9 := g.ne
  exact K _ (cFr_stI g.v5) ⟨g.o, g.w, g.ne, (by rw [hI_stI, if_neg (by omega)]; exact g.f0), (by rw [hI_stI, if_neg (by omega)]; exact g.f1), (by rw [hI_stI, if_neg (by omega)]; exact g.f2), g.r3, g.a3, g.v3, g.c3, g.r4, g.a4, g.v4, g.c4, g.r5, g.a5, g.v5, (funext fun y9 => by rw [hI_stI, if_pos rfl, e])⟩
set_option maxRecDepth 20000 in
theorem pJ7_fill_d0a16 {h : mH} {Q : Option Value → mH → Prop} {a n : Nat} {v : Int64} (ha : hA h a 15 n) (hn : n < 2147483648) (hq : Q none (stL h a (fiL (hL h a) v n))) : Wp mJ7_fill_d0a16 0 0 0 [some (.ref a), some (.long v), none, none, none] [] h Q := by
  have hloop : ∀  (t9 : Nat) (k : Nat), (k ≤ n) → (n < k + t9) → Wp mJ7_fill_d0a16 0 0 6 [some (.ref a), some (.long v), none, some (.int (nI k)), some (.int (nI n))] [] (stL h a (fiL (hL h a) v k)) Q := by
    intro t9
    induction t9 with
    | zero => intros; omega
    | succ t9 ih =>
      intro k hk hmz
      refine wp_iload_n dJ7_fill_d0a16_6 rfl rfl ?_
      refine wp_iload dJ7_fill_d0a16_7 rfl ?_
      refine wp_icmp_geN dJ7_fill_d0a16_9 rfl rfl ⟨by omega, by omega⟩ (fun c2 => ?_) (fun c2 => ?_)
      · refine wp_vreturn dJ7_fill_d0a16_22 rfl ?_
        have e9 : k = n := by omega
        subst e9
        exact hq
      · refine wp_aload_n dJ7_fill_d0a16_12 rfl rfl ?_
        refine wp_iload_n dJ7_fill_d0a16_13 rfl rfl ?_
        refine wp_lload_n dJ7_fill_d0a16_14 rfl rfl ?_
        refine wp_lastN dJ7_fill_d0a16_15 (show hA (stL h a _) a 15 n from ha) rfl ⟨by omega, by omega⟩ ?_
        rw [sL_stL, fiL_s]
        refine wp_iinc1 (ls1 := [_, _, _, some _, _]) dJ7_fill_d0a16_16 rfl (by decide) rfl ?_
        refine wp_goto dJ7_fill_d0a16_19 ?_
        exact ih (k + 1) (by omega) (by omega)
  refine wp_iconst (v := (nI 0)) dJ7_fill_d0a16_0 (by decide +kernel) ?_
  refine wp_istore_n (ls1 := [_, _, _, some _, _]) dJ7_fill_d0a16_1 rfl (by decide) rfl ?_
  refine wp_aload_n dJ7_fill_d0a16_2 rfl rfl ?_
  refine wp_alen dJ7_fill_d0a16_3 ha (by decide) (by decide) rfl ?_
  refine wp_istore (ls1 := [_, _, _, _, some _]) dJ7_fill_d0a16_4 (by decide) rfl ?_
  have e0 : stL h a (fiL (hL h a) v 0) = h := stL_id (fun y => if_neg (Nat.not_lt_zero y))
  have w9 := hloop (n + 1) 0 (by omega) (by omega)
  rw [e0] at w9
  exact w9
set_option maxRecDepth 20000 in
theorem pJ7_fill_53178 {h : mH} {Q : Option Value → mH → Prop} {a n : Nat} {v : Int32} (ha : hA h a 14 n) (hn : n < 2147483648) (hq : Q none (stI h a (fiI (hI h a) v n))) : Wp mJ7_fill_53178 0 0 0 [some (.ref a), some (.int v), none, none] [] h Q := by
  have hloop : ∀  (t9 : Nat) (k : Nat), (k ≤ n) → (n < k + t9) → Wp mJ7_fill_53178 0 0 5 [some (.ref a), some (.int v), some (.int (nI k)), some (.int (nI n))] [] (stI h a (fiI (hI h a) v k)) Q := by
    intro t9
    induction t9 with
    | zero => intros; omega
    | succ t9 ih =>
      intro k hk hmz
      refine wp_iload_n dJ7_fill_53178_5 rfl rfl ?_
      refine wp_iload_n dJ7_fill_53178_6 rfl rfl ?_
      refine wp_icmp_geN dJ7_fill_53178_7 rfl rfl ⟨by omega, by omega⟩ (fun c2 => ?_) (fun c2 => ?_)
      · refine wp_vreturn dJ7_fill_53178_20 rfl ?_
        have e9 : k = n := by omega
        subst e9
        exact hq
      · refine wp_aload_n dJ7_fill_53178_10 rfl rfl ?_
        refine wp_iload_n dJ7_fill_53178_11 rfl rfl ?_
        refine wp_iload_n dJ7_fill_53178_12 rfl rfl ?_
        refine wp_iastN dJ7_fill_53178_13 (show hA (stI h a _) a 14 n from ha) rfl ⟨by omega, by omega⟩ ?_
        rw [sI_stI, fiI_s]
        refine wp_iinc1 (ls1 := [_, _, some _, _]) dJ7_fill_53178_14 rfl (by decide) rfl ?_
        refine wp_goto dJ7_fill_53178_17 ?_
        exact ih (k + 1) (by omega) (by omega)
  refine wp_iconst (v := (nI 0)) dJ7_fill_53178_0 (by decide +kernel) ?_
  refine wp_istore_n (ls1 := [_, _, some _, _]) dJ7_fill_53178_1 rfl (by decide) rfl ?_
  refine wp_aload_n dJ7_fill_53178_2 rfl rfl ?_
  refine wp_alen dJ7_fill_53178_3 ha (by decide) (by decide) rfl ?_
  refine wp_istore_n (ls1 := [_, _, _, some _]) dJ7_fill_53178_4 rfl (by decide) rfl ?_
  have e0 : stI h a (fiI (hI h a) v 0) = h := stI_id (fun y => if_neg (Nat.not_lt_zero y))
  have w9 := hloop (n + 1) 0 (by omega) (by omega)
  rw [e0] at w9
  exact w9
theorem cFr_new {S : List Nat} {ow : Nat → Nat} {h h' : mH} {n : Nat} (r : Nat) (hz : hN h < scrA) (h1 : hN h' = hN h + 1) (h2 : hU h' = hU h + n) (h3 : ∀ x, x ≠ hN h → hK h' x = hK h x ∧ cSm h h' x) : cFr S (n + 8) ow h (upN ow (hN h) r) h' := by
  refine ⟨⟨by omega, by omega, by omega⟩, fun x hx => ?_⟩
  have hne : x ≠ hN h := by omega
  exact ⟨(h3 x hne).1, if_neg hne, fun _ => (h3 x hne).2⟩
def nwC (h h' : mH) (kd m : Nat) : Prop := hN h' = hN h + 1 ∧ hU h' = hU h + m ∧ hA h' (hN h) kd m ∧ ∀ x, x ≠ hN h → hK h' x = hK h x ∧ cSm h h' x
theorem cpy_newL {h : mH} {a n m k : Nat} (ha : hA h a 15 n) : nwC h (cpL (nw h 15 m) a 0 (hN h) 0 k) 15 m ∧ ∀ y, y < k → hL (cpL (nw h 15 m) a 0 (hN h) 0 k) (hN h) y = hL h a y := by
  have hne : a ≠ hN h := Nat.ne_of_lt ha.1
  refine ⟨⟨rfl, rfl, ⟨Nat.lt_succ_self _, by rw [hK_cpL, hK_nw, if_pos rfl]⟩, fun x hx => ⟨by rw [hK_cpL, hK_nw, if_neg hx], ?_, ?_, ?_⟩⟩, fun y hy => ?_⟩
  · funext y; rw [hI_cpL, hI_nw, if_neg hx]
  · funext y; rw [hL_cpL, if_neg hx, hL_nw, if_neg hx]
  · funext y; rw [hR_cpL, hR_nw, if_neg hx]
  · rw [hL_cpL, if_pos rfl, pk_cpy_in (Nat.zero_le _) (by omega), hL_nw, if_neg hne, show 0 + (y - 0) = y by omega]
theorem cl_newL {h : mH} {a n : Nat} (ha : hA h a 15 n) : nwC h (cl h a) 15 n ∧ ∀ y, hL (cl h a) (hN h) y = hL h a y := by
  refine ⟨⟨rfl, by rw [hU_cl, ha.2], ⟨Nat.lt_succ_self _, by rw [hK_cl, if_pos rfl, ha.2]⟩, fun x hx => ⟨by rw [hK_cl, if_neg hx], ?_, ?_, ?_⟩⟩, fun y => ?_⟩
  · funext y; rw [hI_cl, if_neg hx]
  · funext y; rw [hL_cl, if_neg hx]
  · funext y; rw [hR_cl, if_neg hx]
  · rw [hL_cl, if_pos rfl]
theorem cpy_newI {h : mH} {a n m k : Nat} (ha : hA h a 14 n) : nwC h (cpI (nw h 14 m) a 0 (hN h) 0 k) 14 m ∧ ∀ y, y < k → hI (cpI (nw h 14 m) a 0 (hN h) 0 k) (hN h) y = hI h a y := by
  have hne : a ≠ hN h := Nat.ne_of_lt ha.1
  refine ⟨⟨rfl, rfl, ⟨Nat.lt_succ_self _, by rw [hK_cpI, hK_nw, if_pos rfl]⟩, fun x hx => ⟨by rw [hK_cpI, hK_nw, if_neg hx], ?_, ?_, ?_⟩⟩, fun y hy => ?_⟩
  · funext y; rw [hI_cpI, if_neg hx, hI_nw, if_neg hx]
  · funext y; rw [hL_cpI, hL_nw, if_neg hx]
  · funext y; rw [hR_cpI, hR_nw, if_neg hx]
  · rw [hI_cpI, if_pos rfl, pk_cpy_in (Nat.zero_le _) (by omega), hI_nw, if_neg hne, show 0 + (y - 0) = y by omega]
theorem cl_newI {h : mH} {a n : Nat} (ha : hA h a 14 n) : nwC h (cl h a) 14 n ∧ ∀ y, hI (cl h a) (hN h) y = hI h a y := by
  refine ⟨⟨rfl, by rw [hU_cl, ha.2], ⟨Nat.lt_succ_self _, by rw [hK_cl, if_pos rfl, ha.2]⟩, fun x hx => ⟨by rw [hK_cl, if_neg hx], ?_, ?_, ?_⟩⟩, fun y => ?_⟩
  · funext y; rw [hI_cl, if_neg hx]
  · funext y; rw [hL_cl, if_neg hx]
  · funext y; rw [hR_cl, if_neg hx]
  · rw [hI_cl, if_pos rfl]
set_option maxRecDepth 20000 in
theorem pJ7_copyOf_c38d5 {h : mH} {Q : Option Value → mH → Prop} {a n m : Nat} (ha : hA h a 15 n) (hn : n < 2147483648) (hm : m ≤ 60000000) (hq : ∀ h', nwC h h' 15 m → (∀ y, y < min n m → hL h' (hN h) y = hL h a y) → Q (some (.ref (hN h))) h') : Wp mJ7_copyOf_c38d5 1 26 0 [some (.ref a), some (.int (nI m)), none] [] h Q := by
  refine wp_iload_n dJ7_copyOf_c38d5_0 rfl rfl ?_
  refine wp_aload_n dJ7_copyOf_c38d5_1 rfl rfl ?_
  refine wp_alen dJ7_copyOf_c38d5_2 ha (by decide) (by decide) rfl ?_
  refine wp_icmp_neN dJ7_copyOf_c38d5_3 rfl rfl ⟨by omega, by omega⟩ (fun c1 => ?_) (fun c1 => ?_)
  · refine wp_iload_n dJ7_copyOf_c38d5_14 rfl rfl ?_
    refine wp_newL (N := m) dJ7_copyOf_c38d5_15 wAc15 (nI_pos (by omega)) (nI_clamp (by omega)) hm ?_
    refine wp_astore_n (ls1 := [_, _, some _]) dJ7_copyOf_c38d5_17 rfl (by decide) rfl ?_
    refine wp_aload_n dJ7_copyOf_c38d5_18 rfl rfl ?_
    refine wp_iconst (v := (nI 0)) dJ7_copyOf_c38d5_19 (by decide +kernel) ?_
    refine wp_aload_n dJ7_copyOf_c38d5_20 rfl rfl ?_
    refine wp_iconst (v := (nI 0)) dJ7_copyOf_c38d5_21 (by decide +kernel) ?_
    refine wp_aload_n dJ7_copyOf_c38d5_22 rfl rfl ?_
    refine wp_alen dJ7_copyOf_c38d5_23 (hA_nw ha) (by decide) (by decide) rfl ?_
    refine wp_iload_n dJ7_copyOf_c38d5_24 rfl rfl ?_
    refine wp_cS2 0 0 [some _, some _] dJ7_copyOf_c38d5_25 tJ9_min_7cf53 sJ9_min_7cf53 lJ7_304 ⟨by decide, by decide⟩ (Nat.le_of_ble_eq_true rfl) (Nat.le_of_ble_eq_true rfl) rfl ?_
    refine pJ9_min_7cf53 (by omega) (by omega) ?_
    intro _ _
    refine wp_copyL dJ7_copyOf_c38d5_28 lJ7_150 wCn wCs wCi (hA_nw ha) (hA_new _ _ _) (by decide +kernel) (by decide +kernel) (nI_pos (by omega)) (by rw [nI_clamp (by omega), nI_clamp (by omega)]; omega) (by rw [nI_clamp (by omega), nI_clamp (by omega)]; omega) (by decide) (by decide) ?_
    rw [nI_clamp (n := 0) (by decide), nI_clamp (n := min n m) (by omega)]
    refine wp_aload_n dJ7_copyOf_c38d5_31 rfl rfl ?_
    refine wp_areturn dJ7_copyOf_c38d5_32 (Or.inr ⟨_, rfl⟩) ?_
    exact hq _ (cpy_newL ha).1 (cpy_newL ha).2
  · refine wp_aload_n dJ7_copyOf_c38d5_6 rfl rfl ?_
    refine wp_cloneL dJ7_copyOf_c38d5_7 lJ7_319 wKmJ wKn wKi wKsJ ha (by decide) (by decide) ?_
    refine wp_castA dJ7_copyOf_c38d5_10 (cl_newL ha).1.2.2.1 (by decide) lJ7_320 ?_
    refine wp_areturn dJ7_copyOf_c38d5_13 (Or.inr ⟨_, rfl⟩) ?_
    subst c1
    exact hq _ (cl_newL ha).1 (fun y _ => (cl_newL ha).2 y)
set_option maxRecDepth 20000 in
theorem pJ7_copyOf_59c91 {h : mH} {Q : Option Value → mH → Prop} {a n m : Nat} (ha : hA h a 14 n) (hn : n < 2147483648) (hm : m ≤ 60000000) (hq : ∀ h', nwC h h' 14 m → (∀ y, y < min n m → hI h' (hN h) y = hI h a y) → Q (some (.ref (hN h))) h') : Wp mJ7_copyOf_59c91 1 26 0 [some (.ref a), some (.int (nI m)), none] [] h Q := by
  refine wp_iload_n dJ7_copyOf_59c91_0 rfl rfl ?_
  refine wp_aload_n dJ7_copyOf_59c91_1 rfl rfl ?_
  refine wp_alen dJ7_copyOf_59c91_2 ha (by decide) (by decide) rfl ?_
  refine wp_icmp_neN dJ7_copyOf_59c91_3 rfl rfl ⟨by omega, by omega⟩ (fun c1 => ?_) (fun c1 => ?_)
  · refine wp_iload_n dJ7_copyOf_59c91_14 rfl rfl ?_
    refine wp_newI (N := m) dJ7_copyOf_59c91_15 wAc14 (nI_pos (by omega)) (nI_clamp (by omega)) hm ?_
    refine wp_astore_n (ls1 := [_, _, some _]) dJ7_copyOf_59c91_17 rfl (by decide) rfl ?_
    refine wp_aload_n dJ7_copyOf_59c91_18 rfl rfl ?_
    refine wp_iconst (v := (nI 0)) dJ7_copyOf_59c91_19 (by decide +kernel) ?_
    refine wp_aload_n dJ7_copyOf_59c91_20 rfl rfl ?_
    refine wp_iconst (v := (nI 0)) dJ7_copyOf_59c91_21 (by decide +kernel) ?_
    refine wp_aload_n dJ7_copyOf_59c91_22 rfl rfl ?_
    refine wp_alen dJ7_copyOf_59c91_23 (hA_nw ha) (by decide) (by decide) rfl ?_
    refine wp_iload_n dJ7_copyOf_59c91_24 rfl rfl ?_
    refine wp_cS2 0 0 [some _, some _] dJ7_copyOf_59c91_25 tJ9_min_7cf53 sJ9_min_7cf53 lJ7_304 ⟨by decide, by decide⟩ (Nat.le_of_ble_eq_true rfl) (Nat.le_of_ble_eq_true rfl) rfl ?_
    refine pJ9_min_7cf53 (by omega) (by omega) ?_
    intro _ _
    refine wp_copyI dJ7_copyOf_59c91_28 lJ7_150 wCn wCs wCi (hA_nw ha) (hA_new _ _ _) (by decide +kernel) (by decide +kernel) (nI_pos (by omega)) (by rw [nI_clamp (by omega), nI_clamp (by omega)]; omega) (by rw [nI_clamp (by omega), nI_clamp (by omega)]; omega) (by decide) (by decide) ?_
    rw [nI_clamp (n := 0) (by decide), nI_clamp (n := min n m) (by omega)]
    refine wp_aload_n dJ7_copyOf_59c91_31 rfl rfl ?_
    refine wp_areturn dJ7_copyOf_59c91_32 (Or.inr ⟨_, rfl⟩) ?_
    exact hq _ (cpy_newI ha).1 (cpy_newI ha).2
  · refine wp_aload_n dJ7_copyOf_59c91_6 rfl rfl ?_
    refine wp_cloneI dJ7_copyOf_59c91_7 lJ7_316 wKmI wKn wKi wKsI ha (by decide) (by decide) ?_
    refine wp_castA dJ7_copyOf_59c91_10 (cl_newI ha).1.2.2.1 (by decide) lJ7_317 ?_
    refine wp_areturn dJ7_copyOf_59c91_13 (Or.inr ⟨_, rfl⟩) ?_
    subst c1
    exact hq _ (cl_newI ha).1 (fun y _ => (cl_newI ha).2 y)
