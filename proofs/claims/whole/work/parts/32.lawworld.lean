/-! the law's world: the reference's cells and the class's, apart -/
theorem va_D_l {A : Nat → Prop} {w1 w2 : va_W} (h : va_D A (w1 ++ w2)) : va_D A w1 :=
  ⟨fun i j p q hi hj => h.1 i j p q (by rw [List.getElem?_append_left (List.getElem?_eq_some_iff.mp hi).1]; exact hi) (by rw [List.getElem?_append_left (List.getElem?_eq_some_iff.mp hj).1]; exact hj), fun i p hi => h.2 i p (by rw [List.getElem?_append_left (List.getElem?_eq_some_iff.mp hi).1]; exact hi)⟩
theorem va_shift {w1 w2 : va_W} {i : Nat} {p : Nat × va_E} (h : w2[i]? = some p) : (w1 ++ w2)[w1.length + i]? = some p := by
  rw [List.getElem?_append_right (by omega), show w1.length + i - w1.length = i by omega]
  exact h
theorem va_D_r {A : Nat → Prop} {w1 w2 : va_W} (h : va_D A (w1 ++ w2)) : va_D A w2 :=
  ⟨fun i j p q hi hj e => by have := h.1 _ _ p q (va_shift (w1 := w1) hi) (va_shift (w1 := w1) hj) e; omega, fun i p hi => h.2 _ p (va_shift (w1 := w1) hi)⟩
theorem va_D_x {A : Nat → Prop} {w1 w2 : va_W} (h : va_D A (w1 ++ w2)) (i j : Nat) (p q : Nat × va_E) (hi : w1[i]? = some p) (hj : w2[j]? = some q) : p.1 ≠ q.1 := fun e => by
  have h1 := (List.getElem?_eq_some_iff.mp hi).1
  have := h.1 _ _ p q (by rw [List.getElem?_append_left h1]; exact hi) (va_shift (w1 := w1) hj) e
  omega
abbrev l_A (s : State) : Nat → Prop := fun q => s.heap.size ≤ q
/-- the reference stands at M, the class at T -/
def l_I (D : va_G) (om : Nat) (ad : Nat → Nat) (cA : ClassId) (oc : Nat) (ap : Nat → Nat) (cB cR cU : ClassId) (M T : tr_S) (z : tr_Z) (s : State) (H : Heap) (locs : List Loc) : Prop :=
  va_K D vwCl [(cA, .int)] s ∧ va_K D vwCl (c_T cB cR cU) s ∧ (∀ k, ad k ∈ (m_W om ad cA M).map Prod.fst) ∧ va_P D vwCl (m_W om ad cA M) H ∧
  (∃ (ρ σ ra : Nat → Nat) (L : List Nat) (f : Nat → va_E), va_P D vwCl (c_W oc ap cB cR cU ρ ra L f T z) H ∧ c_G cB ρ σ ra L f T ∧ va_D (l_A s) (m_W om ad cA M ++ c_W oc ap cB cR cU ρ ra L f T z)) ∧
  va_S (l_A s) s.heap H locs
/-- a contract of the class, as the law uses it -/
def l_C {α : Type} (Qf : (α → tr_S × tr_Z → Prop) → (tr_S × tr_Z → State → Prop) → (Nat → Prop) → Array Value → State → Outcome → State → Prop) (l : Launch) (y : MethodName) (ws : List Cond) (rm : Room) (av : List Value) (D : va_G) (oc : Nat) (ap : Nat → Nat) (cB cR cU : ClassId) (T : tr_S) (z : tr_Z) (mc ms : Nat) (post : α → tr_S × tr_Z → Prop) : Prop :=
  ∀ (A : Nat → Prop) (ρ σ ra : Nat → Nat) (L : List Nat) (f : Nat → va_E), ∃ (B0 : State → Prop) (Bq : tr_S × tr_Z → State → Prop), FrameBlind (va_Pc (.ref oc :: av) B0) ∧ (∀ U, c_B D oc ap cB cR cU A ρ σ ra L f T z U → (∀ q, U.heap.size ≤ q → A q) → va_Nw (.castable "[I" "java/lang/Cloneable") U → B0 U) ∧ (∀ u U, Bq u U → c_E2 D oc ap cB cR cU A u U) ∧ Met l y ws rm (va_Pc (.ref oc :: av) B0) (Qf post Bq A) mc ms A
section LW
variable {l : Launch} {y : MethodName} {ws : List Cond} {rm : Room} {av : List Value} {D : va_G} {oc : Nat} {ap : Nat → Nat} {cB cR cU : ClassId} {T : tr_S} {z : tr_Z} {mc ms : Nat}
theorem c_E_E2 {A : Nat → Prop} {ρ σ ra : Nat → Nat} {L : List Nat} (u : tr_S × tr_Z) (U : State) (h : c_E D oc ap cB cR cU A ρ σ ra L u U) : c_E2 D oc ap cB cR cU A u U := by
  obtain ⟨f, h⟩ := h
  exact ⟨ρ, σ, ra, L, f, h⟩
theorem l_C_i {post : Int32 → tr_S × tr_Z → Prop} (h : ∀ (A : Nat → Prop) (ρ σ ra : Nat → Nat) (L : List Nat) (f : Nat → va_E), c_Mi l y ws rm av D oc ap cB cR cU A ρ σ ra L f T z post) : l_C va_Qi l y ws rm av D oc ap cB cR cU T z 0 0 post :=
  fun A ρ σ ra L f => ⟨_, _, c_B.blind, fun U hU _ _ => hU, fun u U hu => c_E_E2 u U hu, h A ρ σ ra L f⟩
theorem l_C_l {post : Int64 → tr_S × tr_Z → Prop} (h : ∀ (A : Nat → Prop) (ρ σ ra : Nat → Nat) (L : List Nat) (f : Nat → va_E), c_Ml l y ws rm av D oc ap cB cR cU A ρ σ ra L f T z post) : l_C va_Ql l y ws rm av D oc ap cB cR cU T z 0 0 post :=
  fun A ρ σ ra L f => ⟨_, _, c_B.blind, fun U hU _ _ => hU, fun u U hu => c_E_E2 u U hu, h A ρ σ ra L f⟩
theorem l_C_a {post : Int32 → tr_S × tr_Z → Prop} (h : ∀ (A : Nat → Prop) (ρ σ ra : Nat → Nat) (L : List Nat) (f : Nat → va_E), c_Ma l y ws rm av D oc ap cB cR cU A ρ σ ra L f T z mc ms post) : l_C va_Qi l y ws rm av D oc ap cB cR cU T z mc ms post :=
  fun A ρ σ ra L f => ⟨_, _, fun a U g mk q => by
    obtain ⟨q0, ⟨qP, qK, qD, qG⟩, qA⟩ := q
    exact ⟨q0, ⟨qP, va_K.moved (u := U) (U := U.calling g mk a) (Vm.Alike.refl U.vm) qK, qD, qG⟩, qA⟩, fun U hU hA _ => ⟨hU, hA⟩, fun _ _ hu => hu, h A ρ σ ra L f⟩
theorem l_C_k {post : Int32 → tr_S × tr_Z → Prop} (h : ∀ (A : Nat → Prop) (ρ σ ra : Nat → Nat) (L : List Nat) (f : Nat → va_E), c_Mk l y ws rm av D oc ap cB cR cU A ρ σ ra L f T z mc ms post) : l_C va_Qi l y ws rm av D oc ap cB cR cU T z mc ms post :=
  fun A ρ σ ra L f => ⟨_, _, fun a U g mk q => by
    obtain ⟨q0, ⟨qP, qK, qD, qG⟩, qA, qN⟩ := q
    exact ⟨q0, ⟨qP, va_K.moved (u := U) (U := U.calling g mk a) (Vm.Alike.refl U.vm) qK, qD, qG⟩, qA, qN⟩, fun U hU hA hN => ⟨hU, hA, hN⟩, fun _ _ hu => hu, h A ρ σ ra L f⟩
variable {p : Program} {e : Env} {R : Room} {s : State} {m : MethodId} {args : Array Value} {below : List Frame} {meth : Method} {c : Code} {H : Heap} {locs : List Loc} {cells slots : Nat} {Q : State → Prop}
variable {cc : ByteArray} {pc : Nat} {ls : Array Slot} {rest st0 : List Value} {Ts : List Cond} {index nL n maxL : Nat} {own : String} {bytes : ByteArray} {ret : Option FieldType}
variable {om : Nat} {ad : Nat → Nat} {cA : ClassId} {M : tr_S}
/-- what stands behind a call of the class -/
theorem l_back {ρ ra : Nat → Nat} {L : List Nat} {f : Nat → va_E} {u : tr_S × tr_Z} {t : State} {H1 : Heap} {locs1 : List Loc} (hKm : va_K D vwCl [(cA, .int)] s) (had : ∀ k, ad k ∈ (m_W om ad cA M).map Prod.fst) (hPm : va_P D vwCl (m_W om ad cA M) H) (hPc : va_P D vwCl (c_W oc ap cB cR cU ρ ra L f T z) H) (hD : va_D (l_A s) (m_W om ad cA M ++ c_W oc ap cB cR cU ρ ra L f T z)) (hS : va_S (l_A s) s.heap H locs) (ht : t.heap = H1) (hvm : s.vm.Alike t.vm) (hB : c_E2 D oc ap cB cR cU (va_A (c_W oc ap cB cR cU ρ ra L f T z) H.size) u t) (hk1 : ∀ q : Nat, q < H.size → ¬ va_A (c_W oc ap cB cR cU ρ ra L f T z) H.size q → H1[q]? = H[q]?) (hS1 : va_S (l_A s) s.heap H1 locs1) : l_I D om ad cA oc ap cB cR cU M u.1 u.2 s H1 locs1 := by
  obtain ⟨ρ1, σ1, ra1, L1, f1, b1, b2, b3, b4⟩ := hB
  rw [ht] at b1
  have hx := va_D_x hD
  have hmlt : ∀ (i : Nat) (x : Nat × va_E), (m_W om ad cA M)[i]? = some x → x.1 < H.size := fun i x hi => (hPm i x hi).lt
  have hnA : ∀ (i : Nat) (x : Nat × va_E), (m_W om ad cA M)[i]? = some x → ¬ va_A (c_W oc ap cB cR cU ρ ra L f T z) H.size x.1 := by
    rintro i x hi (⟨k, e1, w⟩ | w)
    · exact hx i k x (x.1, e1) hi w rfl
    · have := hmlt i x hi
      omega
  refine ⟨hKm, va_K.moved hvm.symm b2, had, hPm.kept (fun k x hk => hk1 x.1 (hmlt k x hk) (hnA k x hk)), ⟨ρ1, σ1, ra1, L1, f1, b1, b4, ?_⟩, hS1⟩
  refine va_D.app (va_D_l hD) (b3.weaken (fun k x hk w => ?_)) (fun i j x y hi hj w => hnA i x hi (by rw [w]; exact b3.2 j y hj))
  rcases w with ⟨k2, e1, w⟩ | w
  · exact (va_D_r hD).2 k2 (x.1, e1) w
  · exact Nat.le_trans hS.1 w
theorem l_calli {post : Int32 → tr_S × tr_Z → Prop} (X : CallFix p m c cc nL s args Ts own) (hM : l_C va_Qi l y ws rm av D oc ap cB cR cU T z mc ms post) (cw : CallW R s args own RX2 index y bytes maxL ret ws rm mc ms n) (hNw : va_Nw (.castable "[I" "java/lang/Cloneable") s) (I : l_I D om ad cA oc ap cB cR cU M T z s H locs) (hn : av.length = n) (hsize : ls.size = nL) (hst : st0 = av.reverse ++ .ref oc :: rest) (hroom : (rest.map fun v => v.category).sum ≤ 8) (hdg : decode cc pc = .ok (.invokevirtual index, 3)) (hf : cells + mc ≤ R.cells ∧ slots + ms ≤ R.slots)
    (kk : ∀ (r : Int32) (S1 : tr_S) (z1 : tr_Z) (H1 : Heap) (locs1 : List Loc), post r (S1, z1) → l_I D om ad cA oc ap cB cR cU M S1 z1 s H1 locs1 → W p l e R s m args below meth c H1 locs1 (cells + mc) (slots + ms) Q (F0 m (pc + 3) ls (.int r :: rest))) : W p l e R s m args below meth c H locs cells slots Q (F0 m pc ls st0) := by
  obtain ⟨hKm, hKc, had, hPm, ⟨ρ, σ, ra, L, f, hPc, hG, hD⟩, hS⟩ := I
  obtain ⟨B0, Bq, hbl, hpre, hpost, hMet⟩ := hM (va_A (c_W oc ap cB cR cU ρ ra L f T z) H.size) ρ σ ra L f
  have hAf : ∀ q, va_A (c_W oc ap cB cR cU ρ ra L f T z) H.size q → l_A s q := by
    rintro q (⟨k, e1, w⟩ | w)
    · exact (va_D_r hD).2 k _ w
    · exact Nat.le_trans hS.1 w
  refine va_calli (va_runV X hMet cw ⟨hbl, va_recv hKc hPc (ci := 2) (q0 := 0) rfl rfl, fun U hU hW => ⟨rfl, hpre U ⟨by rw [hU]; exact hPc, va_K.moved hW.alike hKc, (va_D_r hD).self, hG⟩ (fun q w => Or.inr (by rw [hU] at w; exact w)) (va_Nw.warmC hW hNw)⟩⟩ rfl hn hsize hst (lv_room hroom) hdg hf) hS (fun q _ w => hAf q w) hAf (fun r u t H1 locs1 ht hvm hp hB _ hk1 hS1 => ?_)
  exact kk r u.1 u.2 H1 locs1 hp (l_back hKm had hPm hPc hD hS ht hvm (hpost u t hB) hk1 hS1)
theorem l_calll {post : Int64 → tr_S × tr_Z → Prop} (X : CallFix p m c cc nL s args Ts own) (hM : l_C va_Ql l y ws rm av D oc ap cB cR cU T z mc ms post) (cw : CallW R s args own RX2 index y bytes maxL ret ws rm mc ms n) (hNw : va_Nw (.castable "[I" "java/lang/Cloneable") s) (I : l_I D om ad cA oc ap cB cR cU M T z s H locs) (hn : av.length = n) (hsize : ls.size = nL) (hst : st0 = av.reverse ++ .ref oc :: rest) (hroom : (rest.map fun v => v.category).sum ≤ 8) (hdg : decode cc pc = .ok (.invokevirtual index, 3)) (hf : cells + mc ≤ R.cells ∧ slots + ms ≤ R.slots)
    (kk : ∀ (r : Int64) (S1 : tr_S) (z1 : tr_Z) (H1 : Heap) (locs1 : List Loc), post r (S1, z1) → l_I D om ad cA oc ap cB cR cU M S1 z1 s H1 locs1 → W p l e R s m args below meth c H1 locs1 (cells + mc) (slots + ms) Q (F0 m (pc + 3) ls (.long r :: rest))) : W p l e R s m args below meth c H locs cells slots Q (F0 m pc ls st0) := by
  obtain ⟨hKm, hKc, had, hPm, ⟨ρ, σ, ra, L, f, hPc, hG, hD⟩, hS⟩ := I
  obtain ⟨B0, Bq, hbl, hpre, hpost, hMet⟩ := hM (va_A (c_W oc ap cB cR cU ρ ra L f T z) H.size) ρ σ ra L f
  have hAf : ∀ q, va_A (c_W oc ap cB cR cU ρ ra L f T z) H.size q → l_A s q := by
    rintro q (⟨k, e1, w⟩ | w)
    · exact (va_D_r hD).2 k _ w
    · exact Nat.le_trans hS.1 w
  refine va_calll (va_runV X hMet cw ⟨hbl, va_recv hKc hPc (ci := 2) (q0 := 0) rfl rfl, fun U hU hW => ⟨rfl, hpre U ⟨by rw [hU]; exact hPc, va_K.moved hW.alike hKc, (va_D_r hD).self, hG⟩ (fun q w => Or.inr (by rw [hU] at w; exact w)) (va_Nw.warmC hW hNw)⟩⟩ rfl hn hsize hst (lv_room hroom) hdg hf) hS (fun q _ w => hAf q w) hAf (fun r u t H1 locs1 ht hvm hp hB _ hk1 hS1 => ?_)
  exact kk r u.1 u.2 H1 locs1 hp (l_back hKm had hPm hPc hD hS ht hvm (hpost u t hB) hk1 hS1)
/-- what stands behind a call of the reference -/
theorem l_backm {M1 : tr_S} {t : State} {H1 : Heap} {locs1 : List Loc} (I : l_I D om ad cA oc ap cB cR cU M T z s H locs) (ht : t.heap = H1) (hB : m_B D om ad cA M1 t) (hk1 : ∀ q : Nat, q < H.size → ¬ m_A om ad q → H1[q]? = H[q]?) (hS1 : va_S (l_A s) s.heap H1 locs1) : l_I D om ad cA oc ap cB cR cU M1 T z s H1 locs1 := by
  obtain ⟨hKm, hKc, had, hPm, ⟨ρ, σ, ra, L, f, hPc, hG, hD⟩, hS⟩ := I
  obtain ⟨b1, b2, b3⟩ := hB
  rw [ht] at b1
  have hx := va_D_x hD
  have hin : ∀ q, m_A om ad q → q ∈ (m_W om ad cA M).map Prod.fst := by
    rintro q (w | ⟨k, w⟩)
    · rw [w]; exact List.mem_cons_self
    · rw [w]; exact had k
  have hnA : ∀ (j : Nat) (x : Nat × va_E), (c_W oc ap cB cR cU ρ ra L f T z)[j]? = some x → ¬ m_A om ad x.1 := by
    intro j x hj w
    obtain ⟨x0, w1, w2⟩ := List.mem_map.mp (hin _ w)
    obtain ⟨i, hi⟩ := List.getElem?_of_mem w1
    exact hx i j x0 x hi hj w2
  refine ⟨hKm, hKc, had, b1, ⟨ρ, σ, ra, L, f, hPc.kept (fun k x hk => hk1 x.1 ((hPc k x hk).lt) (hnA k x hk)), hG, ?_⟩, hS1⟩
  refine va_D.app (b3.weaken (fun k x hk w => ?_)) (va_D_r hD) (fun i j x y hi hj w => hnA j y hj (by rw [← w]; exact b3.2 i x hi))
  obtain ⟨x0, w1, w2⟩ := List.mem_map.mp (hin _ w)
  obtain ⟨i, hi⟩ := List.getElem?_of_mem w1
  rw [← w2]
  exact (va_D_l hD).2 i x0 hi
theorem l_mA (I : l_I D om ad cA oc ap cB cR cU M T z s H locs) : ∀ q, m_A om ad q → l_A s q := by
  obtain ⟨hKm, hKc, had, hPm, ⟨ρ, σ, ra, L, f, hPc, hG, hD⟩, hS⟩ := I
  intro q w
  have hin : q ∈ (m_W om ad cA M).map Prod.fst := by
    rcases w with w | ⟨k, w⟩
    · rw [w]; exact List.mem_cons_self
    · rw [w]; exact had k
  obtain ⟨x0, w1, w2⟩ := List.mem_map.mp hin
  obtain ⟨i, hi⟩ := List.getElem?_of_mem w1
  rw [← w2]
  exact (va_D_l hD).2 i x0 hi
theorem l_mi {post : Int32 → tr_S → Prop} (X : CallFix p m c cc nL s args Ts own) (hM : m_Mi l y ws rm av D om ad cA M post) (cw : CallW R s args own RX3 index y bytes maxL ret ws rm 0 0 n) (I : l_I D om ad cA oc ap cB cR cU M T z s H locs) (hn : av.length = n) (hsize : ls.size = nL) (hst : st0 = av.reverse ++ .ref om :: rest) (hroom : (rest.map fun v => v.category).sum ≤ 8) (hdg : decode cc pc = .ok (.invokevirtual index, 3)) (hf : cells ≤ R.cells ∧ slots ≤ R.slots)
    (kk : ∀ (r : Int32) (M1 : tr_S) (H1 : Heap) (locs1 : List Loc), post r M1 → l_I D om ad cA oc ap cB cR cU M1 T z s H1 locs1 → W p l e R s m args below meth c H1 locs1 cells slots Q (F0 m (pc + 3) ls (.int r :: rest))) : W p l e R s m args below meth c H locs cells slots Q (F0 m pc ls st0) := by
  have I0 := I
  obtain ⟨hKm, hKc, had, hPm, ⟨ρ, σ, ra, L, f, hPc, hG, hD⟩, hS⟩ := I
  refine va_calli (va_runV X hM cw ⟨m_B.blind, va_recv hKm hPm (ci := 3) (q0 := 0) rfl rfl, fun U hU hW => ⟨rfl, by rw [hU]; exact hPm, va_K.moved hW.alike hKm, (va_D_l hD).1, fun _ _ w => m_W_A w⟩⟩ rfl hn hsize hst (lv_room hroom) hdg hf) hS (fun q _ w => l_mA I0 q w) (l_mA I0) (fun r u t H1 locs1 ht hvm hp hB _ hk1 hS1 => ?_)
  exact kk r u H1 locs1 hp (l_backm I0 ht hB hk1 hS1)
theorem l_ml {post : Int64 → tr_S → Prop} (X : CallFix p m c cc nL s args Ts own) (hM : m_Ml l y ws rm av D om ad cA M post) (cw : CallW R s args own RX3 index y bytes maxL ret ws rm 0 0 n) (I : l_I D om ad cA oc ap cB cR cU M T z s H locs) (hn : av.length = n) (hsize : ls.size = nL) (hst : st0 = av.reverse ++ .ref om :: rest) (hroom : (rest.map fun v => v.category).sum ≤ 8) (hdg : decode cc pc = .ok (.invokevirtual index, 3)) (hf : cells ≤ R.cells ∧ slots ≤ R.slots)
    (kk : ∀ (r : Int64) (M1 : tr_S) (H1 : Heap) (locs1 : List Loc), post r M1 → l_I D om ad cA oc ap cB cR cU M1 T z s H1 locs1 → W p l e R s m args below meth c H1 locs1 cells slots Q (F0 m (pc + 3) ls (.long r :: rest))) : W p l e R s m args below meth c H locs cells slots Q (F0 m pc ls st0) := by
  have I0 := I
  obtain ⟨hKm, hKc, had, hPm, ⟨ρ, σ, ra, L, f, hPc, hG, hD⟩, hS⟩ := I
  refine va_calll (va_runV X hM cw ⟨m_B.blind, va_recv hKm hPm (ci := 3) (q0 := 0) rfl rfl, fun U hU hW => ⟨rfl, by rw [hU]; exact hPm, va_K.moved hW.alike hKm, (va_D_l hD).1, fun _ _ w => m_W_A w⟩⟩ rfl hn hsize hst (lv_room hroom) hdg hf) hS (fun q _ w => l_mA I0 q w) (l_mA I0) (fun r u t H1 locs1 ht hvm hp hB _ hk1 hS1 => ?_)
  exact kk r u H1 locs1 hp (l_backm I0 ht hB hk1 hS1)
theorem l_I_eq {M1 T1 : tr_S} (h : e_eq T1 M1) (I : l_I D om ad cA oc ap cB cR cU M1 T1 z s H locs) : l_I D om ad cA oc ap cB cR cU M1 M1 z s H locs := by
  obtain ⟨hKm, hKc, had, hPm, ⟨ρ, σ, ra, L, f, hPc, hG, hD⟩, hS⟩ := I
  exact ⟨hKm, hKc, had, hPm, ⟨ρ, σ, ra, L, f, by rw [c_W_eq h]; exact hPc, c_G_eq h hG, by rw [c_W_eq h]; exact hD⟩, hS⟩
end LW
