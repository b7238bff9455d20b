theorem rng_iff {v : Int32} (N : Nat) (hN : N < 2 ^ 30) {R : Int32} (hR : R = nI N) : (¬ v < 0 ∧ ¬ R ≤ v) ↔ (0 ≤ v ∧ v ≤ R - 1) := by
  subst hR
  constructor
  · rintro ⟨h1, h2⟩
    refine ⟨Int32.not_lt.mp h1, ?_⟩
    obtain ⟨j, hj, rfl⟩ := nI_of h1
    have := nI_ub hj (by omega) h2
    cases N with
    | zero => omega
    | succ k => rw [nI_pred]; exact nI_le (by omega) (by omega)
  · rintro ⟨h1, h2⟩
    refine ⟨Int32.not_lt.mpr h1, ?_⟩
    cases N with
    | zero =>
      have a := Int32.le_iff_toInt_le.mp h1
      have b := Int32.le_iff_toInt_le.mp h2
      have e1 : (0 : Int32).toInt = 0 := rfl
      have e2 : (nI 0 - 1).toInt = -1 := by decide +kernel
      omega
    | succ k =>
      rw [nI_pred] at h2
      obtain ⟨j, hj, rfl⟩ := nI_of2 (n := k) (M := nI k) (nI_toInt (by omega)) (Int32.not_lt.mpr h1) h2
      exact nI_ge (by omega) (by omega)
theorem rng_of {v : Int32} {N : Nat} (hN : N < 2 ^ 30) (h : 0 ≤ v ∧ v ≤ nI N - 1) : ∃ j, j < N ∧ v = nI j := by
  obtain ⟨h1, h2⟩ := (rng_iff N hN rfl).mpr h
  obtain ⟨j, hj, rfl⟩ := nI_of h1
  exact ⟨j, nI_ub hj (by omega) h2, rfl⟩
set_option maxHeartbeats 4000000 in
set_option maxRecDepth 100000 in
theorem c_X2_isPlace (l : Launch) (v : Int32) : Met l yX2_isPlace wsX2_isPlace { frames := 0, cells := 0, slots := 0, locals := 0 } (va_Pc [.int v] (fun _ => True)) (vp_Si (fun r => ((0 ≤ v ∧ v ≤ 7) ∧ r = 1) ∨ (¬ (0 ≤ v ∧ v ≤ 7) ∧ r = 0))) 0 0 (fun _ => False) := by
  refine Met.ofW (cc := cX2_isPlace) (maxL := 1) (ret := (some .boolean)) (by decide) rfl ?_
  intro p e s m args below meth c s₁ B hml hv
  obtain ⟨rfl, -⟩ := hv
  have hx := B.exec
  have hb := B.bytes
  have hr := B.returns
  have hts := atoms_spec (ws := wsX2_isPlace) B.pre
  have hown : s.vm.findClass RX2 = some m.cls := findClass_of_methodNamed B.named
  have hlocks := B.notSynchronized
  have hl := lv_entry ([.int v]) (n := 1) (Nat.le_of_ble_eq_true rfl)
  rw [lg_entry_eq]
  generalize (lg_sl ([.int v]) ++ List.replicate (1 - (lg_sl ([.int v])).length) Slot.unset).toArray = ls at hl ⊢
  have hl : lv_has ls 1 [(0, .int v)] := hl
  refine lv_iload_n hx hb dX2_isPlace_0 rfl (lv_at hl 0 rfl) ?_
  refine lv_if_lt (tgt := 14) hx hb dX2_isPlace_1 (by decide) (fun c1 => ?_) (fun c1 => ?_)
  · refine lv_iconst (v := 0) hx hb dX2_isPlace_14 (by decide) ?_
    exact W.zret hx hb hr rfl (fun t ht hW => ⟨_, rfl, Or.inr ⟨fun h => ((rng_iff 8 (by decide) (R := 8) rfl).mpr h).1 c1, rfl⟩, ht⟩) (fun q h => by cases h) dX2_isPlace_15 hlocks
  · refine lv_iload_n hx hb dX2_isPlace_4 rfl (lv_at hl 0 rfl) ?_
    refine lv_bipush (v := 8) hx hb dX2_isPlace_5 (by decide) ?_
    refine lv_icmp_ge (tgt := 14) hx hb dX2_isPlace_7 (by decide) (fun c7 => ?_) (fun c7 => ?_)
    · refine lv_iconst (v := 0) hx hb dX2_isPlace_14 (by decide) ?_
      exact W.zret hx hb hr rfl (fun t ht hW => ⟨_, rfl, Or.inr ⟨fun h => ((rng_iff 8 (by decide) (R := 8) rfl).mpr h).2 c7, rfl⟩, ht⟩) (fun q h => by cases h) dX2_isPlace_15 hlocks
    · refine lv_iconst (v := 1) hx hb dX2_isPlace_10 (by decide) ?_
      refine lv_goto (tgt := 15) hx hb dX2_isPlace_11 (by decide) ?_
      exact W.zret hx hb hr rfl (fun t ht hW => ⟨_, rfl, Or.inl ⟨(rng_iff 8 (by decide) (R := 8) rfl).mp ⟨c1, c7⟩, rfl⟩, ht⟩) (fun q h => by cases h) dX2_isPlace_15 hlocks

set_option maxHeartbeats 4000000 in
set_option maxRecDepth 100000 in
theorem c_X2_isRow (l : Launch) (v : Int32) : Met l yX2_isRow wsX2_isRow { frames := 0, cells := 0, slots := 0, locals := 0 } (va_Pc [.int v] (fun _ => True)) (vp_Si (fun r => ((0 ≤ v ∧ v ≤ 3) ∧ r = 1) ∨ (¬ (0 ≤ v ∧ v ≤ 3) ∧ r = 0))) 0 0 (fun _ => False) := by
  refine Met.ofW (cc := cX2_isRow) (maxL := 1) (ret := (some .boolean)) (by decide) rfl ?_
  intro p e s m args below meth c s₁ B hml hv
  obtain ⟨rfl, -⟩ := hv
  have hx := B.exec
  have hb := B.bytes
  have hr := B.returns
  have hts := atoms_spec (ws := wsX2_isRow) B.pre
  have hown : s.vm.findClass RX2 = some m.cls := findClass_of_methodNamed B.named
  have hlocks := B.notSynchronized
  have hl := lv_entry ([.int v]) (n := 1) (Nat.le_of_ble_eq_true rfl)
  rw [lg_entry_eq]
  generalize (lg_sl ([.int v]) ++ List.replicate (1 - (lg_sl ([.int v])).length) Slot.unset).toArray = ls at hl ⊢
  have hl : lv_has ls 1 [(0, .int v)] := hl
  refine lv_iload_n hx hb dX2_isRow_0 rfl (lv_at hl 0 rfl) ?_
  refine lv_if_lt (tgt := 13) hx hb dX2_isRow_1 (by decide) (fun c1 => ?_) (fun c1 => ?_)
  · refine lv_iconst (v := 0) hx hb dX2_isRow_13 (by decide) ?_
    exact W.zret hx hb hr rfl (fun t ht hW => ⟨_, rfl, Or.inr ⟨fun h => ((rng_iff 4 (by decide) (R := 4) rfl).mpr h).1 c1, rfl⟩, ht⟩) (fun q h => by cases h) dX2_isRow_14 hlocks
  · refine lv_iload_n hx hb dX2_isRow_4 rfl (lv_at hl 0 rfl) ?_
    refine lv_iconst (v := 4) hx hb dX2_isRow_5 (by decide) ?_
    refine lv_icmp_ge (tgt := 13) hx hb dX2_isRow_6 (by decide) (fun c6 => ?_) (fun c6 => ?_)
    · refine lv_iconst (v := 0) hx hb dX2_isRow_13 (by decide) ?_
      exact W.zret hx hb hr rfl (fun t ht hW => ⟨_, rfl, Or.inr ⟨fun h => ((rng_iff 4 (by decide) (R := 4) rfl).mpr h).2 c6, rfl⟩, ht⟩) (fun q h => by cases h) dX2_isRow_14 hlocks
    · refine lv_iconst (v := 1) hx hb dX2_isRow_9 (by decide) ?_
      refine lv_goto (tgt := 14) hx hb dX2_isRow_10 (by decide) ?_
      exact W.zret hx hb hr rfl (fun t ht hW => ⟨_, rfl, Or.inl ⟨(rng_iff 4 (by decide) (R := 4) rfl).mp ⟨c1, c6⟩, rfl⟩, ht⟩) (fun q h => by cases h) dX2_isRow_14 hlocks

set_option maxHeartbeats 4000000 in
set_option maxRecDepth 100000 in
theorem c_X2_failureAnswer (l : Launch) (v : Int32) : Met l yX2_failureAnswer wsX2_failureAnswer { frames := 0, cells := 0, slots := 0, locals := 0 } (va_Pc [.int v] (fun _ => True)) (vp_Si (fun r => r = -10 - v)) 0 0 (fun _ => False) := by
  refine Met.ofW (cc := cX2_failureAnswer) (maxL := 1) (ret := (some .int)) (by decide) rfl ?_
  intro p e s m args below meth c s₁ B hml hv
  obtain ⟨rfl, -⟩ := hv
  have hx := B.exec
  have hb := B.bytes
  have hr := B.returns
  have hts := atoms_spec (ws := wsX2_failureAnswer) B.pre
  have hown : s.vm.findClass RX2 = some m.cls := findClass_of_methodNamed B.named
  have hlocks := B.notSynchronized
  have hl := lv_entry ([.int v]) (n := 1) (Nat.le_of_ble_eq_true rfl)
  rw [lg_entry_eq]
  generalize (lg_sl ([.int v]) ++ List.replicate (1 - (lg_sl ([.int v])).length) Slot.unset).toArray = ls at hl ⊢
  have hl : lv_has ls 1 [(0, .int v)] := hl
  refine lv_bipush (v := (-10)) hx hb dX2_failureAnswer_0 (by decide) ?_
  refine lv_iload_n hx hb dX2_failureAnswer_2 rfl (lv_at hl 0 rfl) ?_
  refine lv_isub hx hb dX2_failureAnswer_3 ?_
  exact W.iret hx hb hr (fun t ht hW => ⟨_, rfl, rfl, ht⟩) (fun q h => by cases h) dX2_failureAnswer_4 hlocks

section CS1
variable {p : Program} {l : Launch} {e : Env} {R : Room} {s : State} {m : MethodId} {args : Array Value} {below : List Frame} {meth : Method} {c : Code} {H H0 : Heap} {locs : List Loc} {cells slots : Nat} {Q : State → Prop}
variable {cc : ByteArray} {pc : Nat} {ls : Array Slot} {rest st0 : List Value} {Ts : List Cond} {index nL : Nat} {own : String}
variable {D : va_G} {o : Nat} {ap : Nat → Nat} {cA cR cU : ClassId} {A : Nat → Prop} {ρ σ ra : Nat → Nat} {L : List Nat} {f : Nat → va_E} {S : tr_S} {z : tr_Z}
theorem c_isPlace (X : CallFix p m c cc nL s args Ts own) (hG : GoodIn Ts (va_wsS own index yX2_isPlace wsX2_isPlace)) (hR : 0 + 1 ≤ R.frames ∧ 8 + (1 + 11) + 0 ≤ R.locals) (hf : cells ≤ R.cells ∧ slots ≤ R.slots) (hsize : ls.size = nL) (hroom : (rest.map fun v => v.category).sum ≤ 8) {v : Int32} (hdg : decode cc pc = .ok (.invokestatic index, 3))
    (kt : 0 ≤ v ∧ v ≤ 7 → W p l e R s m args below meth c H locs cells slots Q (F0 m (pc + 3) ls (.int 1 :: rest))) (kf : ¬ (0 ≤ v ∧ v ≤ 7) → W p l e R s m args below meth c H locs cells slots Q (F0 m (pc + 3) ls (.int 0 :: rest))) : W p l e R s m args below meth c H locs cells slots Q (F0 m pc ls (.int v :: rest)) := by
  refine vp_callSi (W.runS X (c_X2_isPlace l v) (va_cwS 1 X.2.2.2.2 hG rfl rfl rfl (by decide +kernel) hR) ⟨fun a U g mk q => q, fun U _ _ => ⟨rfl, trivial⟩⟩ rfl rfl hsize rfl (lv_room hroom) hdg hf) (fun r hr => ?_)
  rcases hr with ⟨h, rfl⟩ | ⟨h, rfl⟩
  · exact kt h
  · exact kf h
theorem c_isRow (X : CallFix p m c cc nL s args Ts own) (hG : GoodIn Ts (va_wsS own index yX2_isRow wsX2_isRow)) (hR : 0 + 1 ≤ R.frames ∧ 8 + (1 + 11) + 0 ≤ R.locals) (hf : cells ≤ R.cells ∧ slots ≤ R.slots) (hsize : ls.size = nL) (hroom : (rest.map fun v => v.category).sum ≤ 8) {v : Int32} (hdg : decode cc pc = .ok (.invokestatic index, 3))
    (kt : 0 ≤ v ∧ v ≤ 3 → W p l e R s m args below meth c H locs cells slots Q (F0 m (pc + 3) ls (.int 1 :: rest))) (kf : ¬ (0 ≤ v ∧ v ≤ 3) → W p l e R s m args below meth c H locs cells slots Q (F0 m (pc + 3) ls (.int 0 :: rest))) : W p l e R s m args below meth c H locs cells slots Q (F0 m pc ls (.int v :: rest)) := by
  refine vp_callSi (W.runS X (c_X2_isRow l v) (va_cwS 1 X.2.2.2.2 hG rfl rfl rfl (by decide +kernel) hR) ⟨fun a U g mk q => q, fun U _ _ => ⟨rfl, trivial⟩⟩ rfl rfl hsize rfl (lv_room hroom) hdg hf) (fun r hr => ?_)
  rcases hr with ⟨h, rfl⟩ | ⟨h, rfl⟩
  · exact kt h
  · exact kf h
theorem c_failAns (X : CallFix p m c cc nL s args Ts own) (hG : GoodIn Ts (va_wsS own index yX2_failureAnswer wsX2_failureAnswer)) (hR : 0 + 1 ≤ R.frames ∧ 8 + (1 + 11) + 0 ≤ R.locals) (hf : cells ≤ R.cells ∧ slots ≤ R.slots) (hsize : ls.size = nL) (hroom : (rest.map fun v => v.category).sum ≤ 8) {v : Int32} (hdg : decode cc pc = .ok (.invokestatic index, 3))
    (kk : W p l e R s m args below meth c H locs cells slots Q (F0 m (pc + 3) ls (.int (-10 - v) :: rest))) : W p l e R s m args below meth c H locs cells slots Q (F0 m pc ls (.int v :: rest)) := by
  refine vp_callSi (W.runS X (c_X2_failureAnswer l v) (va_cwS 1 X.2.2.2.2 hG rfl rfl rfl (by decide +kernel) hR) ⟨fun a U g mk q => q, fun U _ _ => ⟨rfl, trivial⟩⟩ rfl rfl hsize rfl (lv_room hroom) hdg hf) (fun r hr => ?_)
  subst hr
  exact kk
theorem c_I_16 {v : Int32} (h : c_I D o ap cA cR cU A ρ σ ra L f S z s H0 H locs) : c_I D o ap cA cR cU A ρ σ ra L f (sF S 16 v) z s H0 H locs := h
theorem c_I_17 {v : Int32} (h : c_I D o ap cA cR cU A ρ σ ra L f S z s H0 H locs) : c_I D o ap cA cR cU A ρ σ ra L f (sF S 17 v) z s H0 H locs := h
theorem c_I_19 {v : Int32} (h : c_I D o ap cA cR cU A ρ σ ra L f S z s H0 H locs) : c_I D o ap cA cR cU A ρ σ ra L f (sF S 19 v) z s H0 H locs := h
end CS1
set_option maxHeartbeats 4000000 in
set_option maxRecDepth 100000 in
theorem c_X2_isRule (l : Launch) (D : va_G) (o : Nat) (ap : Nat → Nat) (cA cR cU : ClassId) (A : Nat → Prop) (ρ σ ra : Nat → Nat) (L : List Nat) (f0 : Nat → va_E) (S0 : tr_S) (z0 : tr_Z) (r : Int32) (N : Nat) (hN : S0.1 4 = nI N) (h40 : N ≤ 40) : c_Mi l yX2_isRule wsX2_isRule { frames := 0, cells := 0, slots := 0, locals := 0 } [.int r] D o ap cA cR cU A ρ σ ra L f0 S0 z0 (fun v u => u = (S0, z0) ∧ (((0 ≤ r ∧ r ≤ S0.1 4 - 1) ∧ v = 1) ∨ (¬ (0 ≤ r ∧ r ≤ S0.1 4 - 1) ∧ v = 0))) := by
  refine Met.ofW (cc := cX2_isRule) (maxL := 2) (ret := (some .boolean)) (by decide) rfl ?_
  intro p e s m args below meth c s₁ B hml hv
  obtain ⟨rfl, hB⟩ := hv
  have hx := B.exec
  have hb := B.bytes
  have hr := B.returns
  have hts := atoms_spec (ws := wsX2_isRule) B.pre
  have hown : s.vm.findClass RX2 = some m.cls := findClass_of_methodNamed B.named
  have hlocks := B.notSynchronized
  have I := c_I.of hB
  have hin2 : ∀ w ∈ wsX20, w ∈ wsX2_isRule := fun _ h => List.mem_cons_of_mem _ (List.mem_append_right _ h)
  have L27 := hts (.fieldLink RX2 27 "TollRules" "rulesMade" "I") (by decide +kernel)
  have hl := lv_entry ([.ref o, .int r]) (n := 2) (Nat.le_of_ble_eq_true rfl)
  rw [lg_entry_eq]
  generalize (lg_sl ([.ref o, .int r]) ++ List.replicate (2 - (lg_sl ([.ref o, .int r])).length) Slot.unset).toArray = ls at hl ⊢
  have hl : lv_has ls 2 [(0, .ref o), (1, .int r)] := hl
  refine lv_iload_n hx hb dX2_isRule_0 rfl (lv_at hl 1 rfl) ?_
  refine lv_if_lt (tgt := 16) hx hb dX2_isRule_1 (by decide) (fun c1 => ?_) (fun c1 => ?_)
  · refine lv_iconst (v := 0) hx hb dX2_isRule_16 (by decide) ?_
    exact c_zret hx hb hr hlocks I rfl dX2_isRule_17 (⟨rfl, Or.inr ⟨fun h => ((rng_iff N (by omega) hN).mpr h).1 c1, rfl⟩⟩)
  · refine lv_iload_n hx hb dX2_isRule_4 rfl (lv_at hl 1 rfl) ?_
    refine lv_aload_n hx hb dX2_isRule_5 rfl (lv_at hl 0 rfl) ?_
    refine c_get3 hx hb hts hin2 hown I L27 dX2_isRule_6 (x := S0.1 4) rfl ?_
    refine lv_icmp_ge (tgt := 16) hx hb dX2_isRule_9 (by decide) (fun c9 => ?_) (fun c9 => ?_)
    · refine lv_iconst (v := 0) hx hb dX2_isRule_16 (by decide) ?_
      exact c_zret hx hb hr hlocks I rfl dX2_isRule_17 (⟨rfl, Or.inr ⟨fun h => ((rng_iff N (by omega) hN).mpr h).2 c9, rfl⟩⟩)
    · refine lv_iconst (v := 1) hx hb dX2_isRule_12 (by decide) ?_
      refine lv_goto (tgt := 17) hx hb dX2_isRule_13 (by decide) ?_
      exact c_zret hx hb hr hlocks I rfl dX2_isRule_17 (⟨rfl, Or.inl ⟨(rng_iff N (by omega) hN).mp ⟨c1, c9⟩, rfl⟩⟩)

set_option maxHeartbeats 4000000 in
set_option maxRecDepth 100000 in
theorem c_X2_isRefused (l : Launch) (D : va_G) (o : Nat) (ap : Nat → Nat) (cA cR cU : ClassId) (A : Nat → Prop) (ρ σ ra : Nat → Nat) (L : List Nat) (f0 : Nat → va_E) (S0 : tr_S) (z0 : tr_Z)  : c_Mi l yX2_isRefused wsX2_isRefused { frames := 0, cells := 0, slots := 0, locals := 0 } [] D o ap cA cR cU A ρ σ ra L f0 S0 z0 (fun v u => u = (S0, z0) ∧ ((¬ z0.1 = 0 ∧ v = 1) ∨ (z0.1 = 0 ∧ v = 0))) := by
  refine Met.ofW (cc := cX2_isRefused) (maxL := 1) (ret := (some .boolean)) (by decide) rfl ?_
  intro p e s m args below meth c s₁ B hml hv
  obtain ⟨rfl, hB⟩ := hv
  have hx := B.exec
  have hb := B.bytes
  have hr := B.returns
  have hts := atoms_spec (ws := wsX2_isRefused) B.pre
  have hown : s.vm.findClass RX2 = some m.cls := findClass_of_methodNamed B.named
  have hlocks := B.notSynchronized
  have I := c_I.of hB
  have hin2 : ∀ w ∈ wsX20, w ∈ wsX2_isRefused := fun _ h => List.mem_cons_of_mem _ (List.mem_append_right _ h)
  have L40 := hts (.fieldLink RX2 40 "TollRules" "refusal" "I") (by decide +kernel)
  have hl := lv_entry ([.ref o]) (n := 1) (Nat.le_of_ble_eq_true rfl)
  rw [lg_entry_eq]
  generalize (lg_sl ([.ref o]) ++ List.replicate (1 - (lg_sl ([.ref o])).length) Slot.unset).toArray = ls at hl ⊢
  have hl : lv_has ls 1 [(0, .ref o)] := hl
  refine lv_aload_n hx hb dX2_isRefused_0 rfl (lv_at hl 0 rfl) ?_
  refine c_get7 hx hb hts hin2 hown I L40 dX2_isRefused_1 (x := z0.1) rfl ?_
  refine lv_if_eq (tgt := 11) hx hb dX2_isRefused_4 (by decide) (fun c4 => ?_) (fun c4 => ?_)
  · refine lv_iconst (v := 0) hx hb dX2_isRefused_11 (by decide) ?_
    exact c_zret hx hb hr hlocks I rfl dX2_isRefused_12 (⟨rfl, Or.inr ⟨c4, rfl⟩⟩)
  · refine lv_iconst (v := 1) hx hb dX2_isRefused_7 (by decide) ?_
    refine lv_goto (tgt := 12) hx hb dX2_isRefused_8 (by decide) ?_
    exact c_zret hx hb hr hlocks I rfl dX2_isRefused_12 (⟨rfl, Or.inl ⟨c4, rfl⟩⟩)

section CS2
variable {p : Program} {l : Launch} {e : Env} {R : Room} {s : State} {m : MethodId} {args : Array Value} {below : List Frame} {meth : Method} {c : Code} {H H0 : Heap} {locs : List Loc} {cells slots : Nat} {Q : State → Prop}
variable {cc : ByteArray} {pc : Nat} {ls : Array Slot} {rest st0 : List Value} {Ts : List Cond} {index nL : Nat} {own : String}
variable {D : va_G} {o : Nat} {ap : Nat → Nat} {cA cR cU : ClassId} {A : Nat → Prop} {ρ σ ra : Nat → Nat} {L : List Nat} {f : Nat → va_E} {S : tr_S} {z : tr_Z}
theorem c_isRule {N : Nat} {r : Int32} (hN : wf S N) (X : CallFix p m c cc nL s args Ts own) (hG : GoodIn Ts (wsV own index RX2 yX2_isRule wsX2_isRule)) (hR : 0 + 1 ≤ R.frames ∧ 8 + (2 + 11) + 0 ≤ R.locals) (hf : cells ≤ R.cells ∧ slots ≤ R.slots) (I : c_I D o ap cA cR cU A ρ σ ra L f S z s H0 H locs) (hsize : ls.size = nL) (hroom : (rest.map fun v => v.category).sum ≤ 8) (hdg : decode cc pc = .ok (.invokevirtual index, 3))
    (kt : 0 ≤ r ∧ r ≤ S.1 4 - 1 → ∀ (f1 : Nat → va_E) (H1 : Heap) (locs1 : List Loc), c_I D o ap cA cR cU A ρ σ ra L f1 S z s H0 H1 locs1 → W p l e R s m args below meth c H1 locs1 cells slots Q (F0 m (pc + 3) ls (.int 1 :: rest))) (kf : ¬ (0 ≤ r ∧ r ≤ S.1 4 - 1) → ∀ (f1 : Nat → va_E) (H1 : Heap) (locs1 : List Loc), c_I D o ap cA cR cU A ρ σ ra L f1 S z s H0 H1 locs1 → W p l e R s m args below meth c H1 locs1 cells slots Q (F0 m (pc + 3) ls (.int 0 :: rest))) : W p l e R s m args below meth c H locs cells slots Q (F0 m pc ls (.int r :: .ref o :: rest)) := by
  refine c_calli (rest := rest) X (c_X2_isRule l D o ap cA cR cU A ρ σ ra L f S z r N hN.2.1 hN.1) (cwV 1 X.2.2.2.2 hG rfl rfl rfl (by decide +kernel) hR) I rfl hsize rfl hroom hdg hf (fun x S1 z1 f1 H1 locs1 hp I1 => ?_)
  obtain ⟨e1, h | h⟩ := hp
  · obtain ⟨rfl, rfl⟩ := Prod.mk.inj e1
    obtain ⟨h, rfl⟩ := h
    exact kt h f1 H1 locs1 I1
  · obtain ⟨rfl, rfl⟩ := Prod.mk.inj e1
    obtain ⟨h, rfl⟩ := h
    exact kf h f1 H1 locs1 I1
theorem c_isRefused (X : CallFix p m c cc nL s args Ts own) (hG : GoodIn Ts (wsV own index RX2 yX2_isRefused wsX2_isRefused)) (hR : 0 + 1 ≤ R.frames ∧ 8 + (1 + 11) + 0 ≤ R.locals) (hf : cells ≤ R.cells ∧ slots ≤ R.slots) (I : c_I D o ap cA cR cU A ρ σ ra L f S z s H0 H locs) (hsize : ls.size = nL) (hroom : (rest.map fun v => v.category).sum ≤ 8) (hdg : decode cc pc = .ok (.invokevirtual index, 3))
    (kt : ¬ z.1 = 0 → ∀ (f1 : Nat → va_E) (H1 : Heap) (locs1 : List Loc), c_I D o ap cA cR cU A ρ σ ra L f1 S z s H0 H1 locs1 → W p l e R s m args below meth c H1 locs1 cells slots Q (F0 m (pc + 3) ls (.int 1 :: rest))) (kf : z.1 = 0 → ∀ (f1 : Nat → va_E) (H1 : Heap) (locs1 : List Loc), c_I D o ap cA cR cU A ρ σ ra L f1 S z s H0 H1 locs1 → W p l e R s m args below meth c H1 locs1 cells slots Q (F0 m (pc + 3) ls (.int 0 :: rest))) : W p l e R s m args below meth c H locs cells slots Q (F0 m pc ls (.ref o :: rest)) := by
  refine c_calli (rest := rest) X (c_X2_isRefused l D o ap cA cR cU A ρ σ ra L f S z) (cwV 0 X.2.2.2.2 hG rfl rfl rfl (by decide +kernel) hR) I rfl hsize rfl hroom hdg hf (fun x S1 z1 f1 H1 locs1 hp I1 => ?_)
  obtain ⟨e1, h | h⟩ := hp
  · obtain ⟨rfl, rfl⟩ := Prod.mk.inj e1
    obtain ⟨h, rfl⟩ := h
    exact kt h f1 H1 locs1 I1
  · obtain ⟨rfl, rfl⟩ := Prod.mk.inj e1
    obtain ⟨h, rfl⟩ := h
    exact kf h f1 H1 locs1 I1
end CS2
set_option maxHeartbeats 4000000 in
set_option maxRecDepth 100000 in
theorem c_X2_begin (l : Launch) (D : va_G) (o : Nat) (ap : Nat → Nat) (cA cR cU : ClassId) (A : Nat → Prop) (ρ σ ra : Nat → Nat) (L : List Nat) (f0 : Nat → va_E) (S0 : tr_S) (z0 : tr_Z)  : c_Mv l yX2_begin wsX2_begin { frames := 0, cells := 0, slots := 0, locals := 0 } [] D o ap cA cR cU A ρ σ ra L f0 S0 z0 (fun u => u = (sF S0 18 0, (0, z0.2.1, z0.2.2))) := by
  refine Met.ofW (cc := cX2_begin) (maxL := 1) (ret := none) (by decide) rfl ?_
  intro p e s m args below meth c s₁ B hml hv
  obtain ⟨rfl, hB⟩ := hv
  have hx := B.exec
  have hb := B.bytes
  have hr := B.returns
  have hts := atoms_spec (ws := wsX2_begin) B.pre
  have hown : s.vm.findClass RX2 = some m.cls := findClass_of_methodNamed B.named
  have hlocks := B.notSynchronized
  have I := c_I.of hB
  have hin2 : ∀ w ∈ wsX20, w ∈ wsX2_begin := fun _ h => List.mem_cons_of_mem _ (List.mem_append_right _ h)
  have L40 := hts (.fieldLink RX2 40 "TollRules" "refusal" "I") (by decide +kernel)
  have L49 := hts (.fieldLink RX2 49 "TollRules" "latestSteps" "I") (by decide +kernel)
  have hl := lv_entry ([.ref o]) (n := 1) (Nat.le_of_ble_eq_true rfl)
  rw [lg_entry_eq]
  generalize (lg_sl ([.ref o]) ++ List.replicate (1 - (lg_sl ([.ref o])).length) Slot.unset).toArray = ls at hl ⊢
  have hl : lv_has ls 1 [(0, .ref o)] := hl
  refine lv_aload_n hx hb dX2_begin_0 rfl (lv_at hl 0 rfl) ?_
  refine lv_iconst (v := 0) hx hb dX2_begin_1 (by decide) ?_
  refine c_put10 hx hb hts hin2 hown I L49 dX2_begin_2 (fun H locs I => ?_)
  refine lv_aload_n hx hb dX2_begin_5 rfl (lv_at hl 0 rfl) ?_
  refine lv_iconst (v := 0) hx hb dX2_begin_6 (by decide) ?_
  refine c_put7 hx hb hts hin2 hown I L40 dX2_begin_7 (fun H locs I => ?_)
  exact c_vret hx hb hr hlocks I dX2_begin_10 (rfl)

set_option maxHeartbeats 4000000 in
set_option maxRecDepth 100000 in
theorem c_X2_refuse (l : Launch) (D : va_G) (o : Nat) (ap : Nat → Nat) (cA cR cU : ClassId) (A : Nat → Prop) (ρ σ ra : Nat → Nat) (L : List Nat) (f0 : Nat → va_E) (S0 : tr_S) (z0 : tr_Z) (a b : Int32) : c_Mi l yX2_refuse wsX2_refuse { frames := 0, cells := 0, slots := 0, locals := 0 } [.int a, .int b] D o ap cA cR cU A ρ σ ra L f0 S0 z0 (fun v u => v = 0 ∧ u = (S0, (a, b, z0.2.2))) := by
  refine Met.ofW (cc := cX2_refuse) (maxL := 3) (ret := (some .int)) (by decide) rfl ?_
  intro p e s m args below meth c s₁ B hml hv
  obtain ⟨rfl, hB⟩ := hv
  have hx := B.exec
  have hb := B.bytes
  have hr := B.returns
  have hts := atoms_spec (ws := wsX2_refuse) B.pre
  have hown : s.vm.findClass RX2 = some m.cls := findClass_of_methodNamed B.named
  have hlocks := B.notSynchronized
  have I := c_I.of hB
  have hin2 : ∀ w ∈ wsX20, w ∈ wsX2_refuse := fun _ h => List.mem_cons_of_mem _ (List.mem_append_right _ h)
  have L40 := hts (.fieldLink RX2 40 "TollRules" "refusal" "I") (by decide +kernel)
  have L43 := hts (.fieldLink RX2 43 "TollRules" "refusedRule" "I") (by decide +kernel)
  have hl := lv_entry ([.ref o, .int a, .int b]) (n := 3) (Nat.le_of_ble_eq_true rfl)
  rw [lg_entry_eq]
  generalize (lg_sl ([.ref o, .int a, .int b]) ++ List.replicate (3 - (lg_sl ([.ref o, .int a, .int b])).length) Slot.unset).toArray = ls at hl ⊢
  have hl : lv_has ls 3 [(0, .ref o), (1, .int a), (2, .int b)] := hl
  refine lv_aload_n hx hb dX2_refuse_0 rfl (lv_at hl 0 rfl) ?_
  refine lv_iload_n hx hb dX2_refuse_1 rfl (lv_at hl 1 rfl) ?_
  refine c_put7 hx hb hts hin2 hown I L40 dX2_refuse_2 (fun H locs I => ?_)
  refine lv_aload_n hx hb dX2_refuse_5 rfl (lv_at hl 0 rfl) ?_
  refine lv_iload_n hx hb dX2_refuse_6 rfl (lv_at hl 2 rfl) ?_
  refine c_put8 hx hb hts hin2 hown I L43 dX2_refuse_7 (fun H locs I => ?_)
  refine lv_iconst (v := 0) hx hb dX2_refuse_10 (by decide) ?_
  exact c_iret hx hb hr hlocks I dX2_refuse_11 (⟨rfl, rfl⟩)

set_option maxHeartbeats 4000000 in
set_option maxRecDepth 100000 in
theorem c_X2_fail (l : Launch) (D : va_G) (o : Nat) (ap : Nat → Nat) (cA cR cU : ClassId) (A : Nat → Prop) (ρ σ ra : Nat → Nat) (L : List Nat) (f0 : Nat → va_E) (S0 : tr_S) (z0 : tr_Z)  : c_Mi l yX2_fail wsX2_fail { frames := 1, cells := 0, slots := 0, locals := 20 } [] D o ap cA cR cU A ρ σ ra L f0 S0 z0 (fun v u => (v, u) = (-10 - z0.1, sF (sF (sF S0 21 z0.1) 22 z0.2.1) 23 (S0.1 23 + 1), z0)) := by
  refine Met.ofW (cc := cX2_fail) (maxL := 1) (ret := (some .int)) (by decide) rfl ?_
  intro p e s m args below meth c s₁ B hml hv
  obtain ⟨rfl, hB⟩ := hv
  have hx := B.exec
  have hb := B.bytes
  have hr := B.returns
  have hts := atoms_spec (ws := wsX2_fail) B.pre
  have hown : s.vm.findClass RX2 = some m.cls := findClass_of_methodNamed B.named
  have hlocks := B.notSynchronized
  have I := c_I.of hB
  have hin2 : ∀ w ∈ wsX20, w ∈ wsX2_fail := fun _ h => List.mem_cons_of_mem _ (List.mem_append_right _ h)
  have L40 := hts (.fieldLink RX2 40 "TollRules" "refusal" "I") (by decide +kernel)
  have L43 := hts (.fieldLink RX2 43 "TollRules" "refusedRule" "I") (by decide +kernel)
  have L55 := hts (.fieldLink RX2 55 "TollRules" "failedKind" "I") (by decide +kernel)
  have L58 := hts (.fieldLink RX2 58 "TollRules" "failedRule" "I") (by decide +kernel)
  have L61 := hts (.fieldLink RX2 61 "TollRules" "failedCalls" "I") (by decide +kernel)
  have hl := lv_entry ([.ref o]) (n := 1) (Nat.le_of_ble_eq_true rfl)
  rw [lg_entry_eq]
  generalize (lg_sl ([.ref o]) ++ List.replicate (1 - (lg_sl ([.ref o])).length) Slot.unset).toArray = ls at hl ⊢
  have hl : lv_has ls 1 [(0, .ref o)] := hl
  refine lv_aload_n hx hb dX2_fail_0 rfl (lv_at hl 0 rfl) ?_
  refine lv_aload_n hx hb dX2_fail_1 rfl (lv_at hl 0 rfl) ?_
  refine c_get7 hx hb hts hin2 hown I L40 dX2_fail_2 (x := z0.1) rfl ?_
  refine c_put12 hx hb hts hin2 hown I L55 dX2_fail_5 (fun H locs I => ?_)
  refine lv_aload_n hx hb dX2_fail_8 rfl (lv_at hl 0 rfl) ?_
  refine lv_aload_n hx hb dX2_fail_9 rfl (lv_at hl 0 rfl) ?_
  refine c_get8 hx hb hts hin2 hown I L43 dX2_fail_10 (x := z0.2.1) rfl ?_
  refine c_put13 hx hb hts hin2 hown I L58 dX2_fail_13 (fun H locs I => ?_)
  refine lv_aload_n hx hb dX2_fail_16 rfl (lv_at hl 0 rfl) ?_
  refine lv_dup hx hb dX2_fail_17 rfl ?_
  refine c_get14 hx hb hts hin2 hown I L61 dX2_fail_18 (x := S0.1 23) rfl ?_
  refine lv_iconst (v := 1) hx hb dX2_fail_21 (by decide) ?_
  refine lv_iadd hx hb dX2_fail_22 ?_
  refine c_put14 hx hb hts hin2 hown I L61 dX2_fail_23 (fun H locs I => ?_)
  refine lv_aload_n hx hb dX2_fail_26 rfl (lv_at hl 0 rfl) ?_
  refine c_get7 hx hb hts hin2 hown I L40 dX2_fail_27 (x := z0.1) rfl ?_
  refine c_failAns ⟨hx, hb, hml, hown, hts⟩ gX2_fail_X2_failureAnswer ⟨Nat.le_of_ble_eq_true rfl, Nat.le_of_ble_eq_true rfl⟩ ⟨Nat.le_refl _, Nat.le_refl _⟩ hl.1 (Nat.le_of_ble_eq_true rfl) dX2_fail_30 ?_
  exact c_iret hx hb hr hlocks I dX2_fail_33 (rfl)

/-- row.reaches(i): the heap is as it was -/
theorem c_X0_reaches (l : Launch) (D : va_G) (q b : Nat) (cA : ClassId) (n : Nat) (g : Nat → Int32) (hn : n < 2 ^ 30) (i : Int32) : Met l yX0_reaches wsX0_reaches { frames := 0, cells := 0, slots := 0, locals := 0 } (va_Pc [.ref q, .int i] (fun U => va_P D vwCl [(q, .inr (0, [.ref b])), (b, .inl (cA, n, .inl g))] U.heap ∧ va_K D vwCl [(cA, .int)] U)) (vp_Si (fun r => ((0 ≤ i ∧ i ≤ nI n - 1) ∧ r = 1) ∨ (¬ (0 ≤ i ∧ i ≤ nI n - 1) ∧ r = 0))) 0 0 (fun _ => False) := by
  refine Met.ofW (cc := cX0_reaches) (maxL := 2) (ret := (some .boolean)) (by decide) rfl ?_
  intro p e s m args below meth c s₁ B hml hv
  obtain ⟨rfl, hP, hK⟩ := hv
  have hx := B.exec
  have hb := B.bytes
  have hr := B.returns
  have hts := atoms_spec (ws := wsX0_reaches) B.pre
  have hown : s.vm.findClass RX0 = some m.cls := findClass_of_methodNamed B.named
  have hlocks := B.notSynchronized
  have hin : ∀ w ∈ wsX00, w ∈ wsX0_reaches := fun _ h => List.mem_cons_of_mem _ (List.mem_append_right _ h)
  have hl := lv_entry ([.ref q, .int i]) (n := 2) (Nat.le_of_ble_eq_true rfl)
  rw [lg_entry_eq]
  generalize (lg_sl ([.ref q, .int i]) ++ List.replicate (2 - (lg_sl ([.ref q, .int i])).length) Slot.unset).toArray = ls at hl ⊢
  have hl : lv_has ls 2 [(0, .ref q), (1, .int i)] := hl
  refine lv_iload_n hx hb dX0_reaches_0 rfl (lv_at hl 1 rfl) ?_
  refine lv_if_lt (tgt := 17) hx hb dX0_reaches_1 (by decide) (fun c1 => ?_) (fun c1 => ?_)
  · refine lv_iconst (v := 0) hx hb dX0_reaches_17 (by decide) ?_
    exact W.zret hx hb hr rfl (fun t ht hW => ⟨_, rfl, Or.inr ⟨fun h => ((rng_iff n (by omega) rfl).mpr h).1 c1, rfl⟩, ht⟩) (fun q h => by cases h) dX0_reaches_18 hlocks
  · refine lv_iload_n hx hb dX0_reaches_4 rfl (lv_at hl 1 rfl) ?_
    refine lv_aload_n hx hb dX0_reaches_5 rfl (lv_at hl 0 rfl) ?_
    refine va_get (D := D) (cl := vwCl) (C := RX0) (T := TX0) (N := 1) (ci := 0) hx hb hts hin hown hK hP 0 rfl rfl 0 (by decide) (hts (.fieldLink RX0 7 "TollRules$Row" "items" "[I") (by decide +kernel)) (fun _ h => h) rfl dX0_reaches_6 ?_
    refine va_alen hx hb hK hP 1 0 rfl rfl (v := nI n) rfl dX0_reaches_9 ?_
    refine lv_icmp_ge (tgt := 17) hx hb dX0_reaches_10 (by decide) (fun c10 => ?_) (fun c10 => ?_)
    · refine lv_iconst (v := 0) hx hb dX0_reaches_17 (by decide) ?_
      exact W.zret hx hb hr rfl (fun t ht hW => ⟨_, rfl, Or.inr ⟨fun h => ((rng_iff n (by omega) rfl).mpr h).2 c10, rfl⟩, ht⟩) (fun q h => by cases h) dX0_reaches_18 hlocks
    · refine lv_iconst (v := 1) hx hb dX0_reaches_13 (by decide) ?_
      refine lv_goto (tgt := 18) hx hb dX0_reaches_14 (by decide) ?_
      exact W.zret hx hb hr rfl (fun t ht hW => ⟨_, rfl, Or.inl ⟨(rng_iff n (by omega) rfl).mp ⟨c1, c10⟩, rfl⟩, ht⟩) (fun q h => by cases h) dX0_reaches_18 hlocks
section CS3
variable {p : Program} {l : Launch} {e : Env} {R : Room} {s : State} {m : MethodId} {args : Array Value} {below : List Frame} {meth : Method} {c : Code} {H H0 : Heap} {locs : List Loc} {cells slots : Nat} {Q : State → Prop}
variable {cc : ByteArray} {pc : Nat} {ls : Array Slot} {rest st0 : List Value} {Ts : List Cond} {index nL : Nat} {own : String}
variable {D : va_G} {o : Nat} {ap : Nat → Nat} {cA cR cU : ClassId} {A : Nat → Prop} {ρ σ ra : Nat → Nat} {L : List Nat} {f : Nat → va_E} {S : tr_S} {z : tr_Z}
theorem c_reaches {q n : Nat} {i : Int32} (hq : c_held S q) (hn : S.2 2 q = nI n) (h10 : n ≤ 10) (X : CallFix p m c cc nL s args Ts own) (hG : GoodIn Ts (wsV own index RX0 yX0_reaches wsX0_reaches)) (hR : 0 + 1 ≤ R.frames ∧ 8 + (2 + 11) + 0 ≤ R.locals) (hf : cells ≤ R.cells ∧ slots ≤ R.slots) (I : c_I D o ap cA cR cU A ρ σ ra L f S z s H0 H locs) (hsize : ls.size = nL) (hroom : (rest.map fun v => v.category).sum ≤ 8) (hdg : decode cc pc = .ok (.invokevirtual index, 3))
    (kt : 0 ≤ i ∧ i ≤ S.2 2 q - 1 → W p l e R s m args below meth c H locs cells slots Q (F0 m (pc + 3) ls (.int 1 :: rest))) (kf : ¬ (0 ≤ i ∧ i ≤ S.2 2 q - 1) → W p l e R s m args below meth c H locs cells slots Q (F0 m (pc + 3) ls (.int 0 :: rest))) : W p l e R s m args below meth c H locs cells slots Q (F0 m pc ls (.int i :: .ref (ρ q) :: rest)) := by
  obtain ⟨a1, a2, a3, a4⟩ := I.2.2.2.2.2.1 q hq
  obtain ⟨j1, hj1⟩ := va_pl_get (X := c_X o ap cA cR cU ρ ra S z) (f := f) a1
  obtain ⟨j2, hj2⟩ := va_pl_get (X := c_X o ap cA cR cU ρ ra S z) (f := f) a3
  rw [a2] at hj1
  rw [a4] at hj2
  have hj1 : (c_W o ap cA cR cU ρ ra L f S z)[j1]? = some (ρ q, .inr (0, [.ref (σ q)])) := hj1
  have hj2 : (c_W o ap cA cR cU ρ ra L f S z)[j2]? = some (σ q, .inl (cA, (S.2 2 q).toNatClampNeg, .inl (c_items S q))) := hj2
  have hP : va_P D vwCl [(ρ q, .inr (0, [.ref (σ q)])), (σ q, .inl (cA, (S.2 2 q).toNatClampNeg, .inl (c_items S q)))] H := I.1.sub [j1, j2] (by simp [hj1, hj2])
  have hK : va_K D vwCl [(cA, .int)] s := I.2.1.sub [0] rfl
  have en : (S.2 2 q).toNatClampNeg = n := by rw [hn, nI_clamp (by omega)]
  rw [en] at hP
  refine vp_callSi (W.runV X (c_X0_reaches l D (ρ q) (σ q) cA n (c_items S q) (by omega) i) (cwV 1 X.2.2.2.2 hG rfl rfl rfl (by decide +kernel) hR) ⟨fun a U g mk w => by obtain ⟨w0, w1, w2⟩ := w; exact ⟨w0, w1, va_K.moved (u := U) (U := U.calling g mk a) (Vm.Alike.refl U.vm) w2⟩, va_recv hK hP (ci := 0) (q0 := 0) rfl rfl, fun U hU hW => ⟨rfl, by rw [hU]; exact hP, va_K.moved hW.alike hK⟩⟩ rfl rfl hsize rfl (lv_room hroom) hdg hf) (fun r hr => ?_)
  rw [← hn] at hr
  rcases hr with ⟨h, rfl⟩ | ⟨h, rfl⟩
  · exact kt h
  · exact kf h
end CS3
/-- what a method says that applies rules: ev's answer and state; refused: which, and by whom -/
def g_post (q : Int32 × tr_S) (z : tr_Z) (v : Int32) (u : tr_S × tr_Z) : Prop := u.1 = q.2 ∧ u.2.2.2 = z.2.2 ∧ u.2.1 = q.2.1 16 ∧ (¬ q.2.1 16 = 0 → u.2.2.1 = q.2.1 17) ∧ (q.2.1 16 = 0 → v = q.1)
set_option maxHeartbeats 4000000 in
set_option maxRecDepth 100000 in
theorem c_X2_giveItem_n (l : Launch) (D : va_G) (o : Nat) (ap : Nat → Nat) (cA cR cU : ClassId) (A : Nat → Prop) (ρ σ ra : Nat → Nat) (L : List Nat) (f0 : Nat → va_E) (S0 : tr_S) (z0 : tr_Z) (i r : Int32) : c_Mi l yX2_giveItem wsX2_giveItem { frames := 1, cells := 0, slots := 0, locals := 22 } [.null, .int i, .int r] D o ap cA cR cU A ρ σ ra L f0 S0 z0 (g_post (f_itemAt (-1) i r S0) z0) := by
  refine Met.ofW (cc := cX2_giveItem) (maxL := 4) (ret := (some .int)) (by decide) rfl ?_
  intro p e s m args below meth c s₁ B hml hv
  obtain ⟨rfl, hB⟩ := hv
  have hx := B.exec
  have hb := B.bytes
  have hr := B.returns
  have hts := atoms_spec (ws := wsX2_giveItem) B.pre
  have hown : s.vm.findClass RX2 = some m.cls := findClass_of_methodNamed B.named
  have hlocks := B.notSynchronized
  have I := c_I.of hB
  have hin0 : ∀ w ∈ wsX00, w ∈ wsX2_giveItem := fun _ h => List.mem_cons_of_mem _ (List.mem_append_left _ (List.mem_append_right _ h))
  have hin2 : ∀ w ∈ wsX20, w ∈ wsX2_giveItem := fun _ h => List.mem_cons_of_mem _ (List.mem_append_right _ h)
  have hl := lv_entry ([.ref o, .null, .int i, .int r]) (n := 4) (Nat.le_of_ble_eq_true rfl)
  rw [lg_entry_eq]
  generalize (lg_sl ([.ref o, .null, .int i, .int r]) ++ List.replicate (4 - (lg_sl ([.ref o, .null, .int i, .int r])).length) Slot.unset).toArray = ls at hl ⊢
  have hl : lv_has ls 4 [(0, .ref o), (1, .null), (2, .int i), (3, .int r)] := hl
  refine lv_aload_nN hx hb dX2_giveItem_0 rfl (lv_at hl 1 rfl) ?_
  refine lv_ifnonnullN hx hb dX2_giveItem_1 ?_
  refine lv_aload_n hx hb dX2_giveItem_4 rfl (lv_at hl 0 rfl) ?_
  refine lv_iconst (v := 3) hx hb dX2_giveItem_5 (by decide) ?_
  refine lv_iload_n hx hb dX2_giveItem_6 rfl (lv_at hl 3 rfl) ?_
  refine c_calli (rest := []) ⟨hx, hb, hml, hown, hts⟩ (c_X2_refuse l D o ap cA cR cU A ρ σ ra L _ S0 z0 3 r) (cwV 2 hts gX2_giveItem_X2_refuse rfl rfl rfl (by decide +kernel) ⟨Nat.le_of_ble_eq_true rfl, Nat.le_of_ble_eq_true rfl⟩) I rfl hl.1 rfl (Nat.le_of_ble_eq_true rfl) dX2_giveItem_7 ⟨Nat.le_refl _, Nat.le_refl _⟩ (fun r7 S7 z7 f1 H locs p7 I => ?_)
  obtain ⟨rfl, e7⟩ := p7
  obtain ⟨ea7, eb7⟩ := Prod.mk.inj e7
  rw [ea7, eb7] at I
  have e0 : f_itemAt (-1) i r S0 = (0, f_fails 3 r S0) := by unfold f_itemAt; rw [if_neg (by decide)]
  exact c_iret (S := f_fails 3 r S0) hx hb hr hlocks I dX2_giveItem_10 (by rw [e0]; exact ⟨rfl, rfl, rfl, fun _ => rfl, fun h => absurd (show (3 : Int32) = 0 from h) (by decide)⟩)

set_option maxHeartbeats 4000000 in
set_option maxRecDepth 100000 in
theorem c_X2_giveItem_r (l : Launch) (D : va_G) (o : Nat) (ap : Nat → Nat) (cA cR cU : ClassId) (A : Nat → Prop) (ρ σ ra : Nat → Nat) (L : List Nat) (f0 : Nat → va_E) (S0 : tr_S) (z0 : tr_Z) (q n : Nat) (i r : Int32) (hq48 : q < 48) (hq : c_held S0 q) (hn : S0.2 2 q = nI n) (h10 : n ≤ 10) (hz : z0.1 = 0) (h0 : S0.1 16 = 0) : c_Mi l yX2_giveItem wsX2_giveItem { frames := 1, cells := 0, slots := 0, locals := 22 } [.ref (ρ q), .int i, .int r] D o ap cA cR cU A ρ σ ra L f0 S0 z0 (g_post (f_itemAt (nI q) i r S0) z0) := by
  refine Met.ofW (cc := cX2_giveItem) (maxL := 4) (ret := (some .int)) (by decide) rfl ?_
  intro p e s m args below meth c s₁ B hml hv
  obtain ⟨rfl, hB⟩ := hv
  have hx := B.exec
  have hb := B.bytes
  have hr := B.returns
  have hts := atoms_spec (ws := wsX2_giveItem) B.pre
  have hown : s.vm.findClass RX2 = some m.cls := findClass_of_methodNamed B.named
  have hlocks := B.notSynchronized
  have I := c_I.of hB
  have hin0 : ∀ w ∈ wsX00, w ∈ wsX2_giveItem := fun _ h => List.mem_cons_of_mem _ (List.mem_append_left _ (List.mem_append_right _ h))
  have hin2 : ∀ w ∈ wsX20, w ∈ wsX2_giveItem := fun _ h => List.mem_cons_of_mem _ (List.mem_append_right _ h)
  have L86 := hts (.fieldLink RX2 86 "TollRules$Row" "items" "[I") (by decide +kernel)
  have hl := lv_entry ([.ref o, .ref (ρ q), .int i, .int r]) (n := 4) (Nat.le_of_ble_eq_true rfl)
  rw [lg_entry_eq]
  generalize (lg_sl ([.ref o, .ref (ρ q), .int i, .int r]) ++ List.replicate (4 - (lg_sl ([.ref o, .ref (ρ q), .int i, .int r])).length) Slot.unset).toArray = ls at hl ⊢
  have hl : lv_has ls 4 [(0, .ref o), (1, .ref (ρ q)), (2, .int i), (3, .int r)] := hl
  refine lv_aload_n hx hb dX2_giveItem_0 rfl (lv_at hl 1 rfl) ?_
  refine lv_ifnonnull (tgt := 11) hx hb dX2_giveItem_1 (by decide) ?_
  refine lv_aload_n hx hb dX2_giveItem_11 rfl (lv_at hl 1 rfl) ?_
  refine lv_iload_n hx hb dX2_giveItem_12 rfl (lv_at hl 2 rfl) ?_
  refine c_reaches hq hn h10 ⟨hx, hb, hml, hown, hts⟩ gX2_giveItem_X0_reaches ⟨Nat.le_of_ble_eq_true rfl, Nat.le_of_ble_eq_true rfl⟩ ⟨Nat.le_refl _, Nat.le_refl _⟩ I hl.1 (Nat.le_of_ble_eq_true rfl) dX2_giveItem_13 (fun h13 => ?_) (fun h13 => ?_)
  · refine lv_if_eq (tgt := 28) hx hb dX2_giveItem_16 (by decide) (fun h => absurd h (by decide)) (fun _ => ?_)
    obtain ⟨j, hj, rfl⟩ := rng_of (N := n) (by omega) (by rw [← hn]; exact h13)
    refine lv_aload_n hx hb dX2_giveItem_19 rfl (lv_at hl 1 rfl) ?_
    refine c_items_get hx hb hts hin0 hown I hq L86 dX2_giveItem_20 ?_
    refine lv_iload_n hx hb dX2_giveItem_23 rfl (lv_at hl 2 rfl) ?_
    refine c_arr_ld hx hb I hq hn h10 hj dX2_giveItem_24 (x := S0.2 3 (10 * q + j)) rfl ?_
    refine lv_goto (tgt := 34) hx hb dX2_giveItem_25 (by decide) ?_
    have e0 : (0 : Int32) ≤ nI q := nI_pos' (by omega)
    exact c_iret hx hb hr hlocks I dX2_giveItem_34 (by unfold f_itemAt; rw [if_pos e0, nI_clamp (show q < 2 ^ 31 by omega), if_pos h13, nI_10 (by omega)]; exact ⟨rfl, rfl, hz.trans h0.symm, fun h => absurd h0 h, fun _ => rfl⟩)
  · refine lv_if_eq (tgt := 28) hx hb dX2_giveItem_16 (by decide) (fun _ => ?_) (fun h => absurd h (by decide))
    refine lv_aload_n hx hb dX2_giveItem_28 rfl (lv_at hl 0 rfl) ?_
    refine lv_iconst (v := 2) hx hb dX2_giveItem_29 (by decide) ?_
    refine lv_iload_n hx hb dX2_giveItem_30 rfl (lv_at hl 3 rfl) ?_
    refine c_calli (rest := []) ⟨hx, hb, hml, hown, hts⟩ (c_X2_refuse l D o ap cA cR cU A ρ σ ra L _ S0 z0 2 r) (cwV 2 hts gX2_giveItem_X2_refuse rfl rfl rfl (by decide +kernel) ⟨Nat.le_of_ble_eq_true rfl, Nat.le_of_ble_eq_true rfl⟩) I rfl hl.1 rfl (Nat.le_of_ble_eq_true rfl) dX2_giveItem_31 ⟨Nat.le_refl _, Nat.le_refl _⟩ (fun r31 S31 z31 f1 H locs p31 I => ?_)
    obtain ⟨rfl, e31⟩ := p31
    obtain ⟨ea31, eb31⟩ := Prod.mk.inj e31
    rw [ea31, eb31] at I
    have e0 : (0 : Int32) ≤ nI q := nI_pos' (by omega)
    exact c_iret (S := f_fails 2 r S0) hx hb hr hlocks I dX2_giveItem_34 (by unfold f_itemAt; rw [if_pos e0, nI_clamp (show q < 2 ^ 31 by omega), if_neg h13]; exact ⟨rfl, rfl, rfl, fun _ => rfl, fun h => absurd (show (2 : Int32) = 0 from h) (by decide)⟩)

set_option maxHeartbeats 4000000 in
set_option maxRecDepth 100000 in
theorem c_X2_giveRoom (l : Launch) (D : va_G) (o : Nat) (ap : Nat → Nat) (cA cR cU : ClassId) (A : Nat → Prop) (ρ σ ra : Nat → Nat) (L : List Nat) (f0 : Nat → va_E) (S0 : tr_S) (z0 : tr_Z) (x r : Int32) (hz : z0.1 = 0) (h0 : S0.1 16 = 0) : c_Mi l yX2_giveRoom wsX2_giveRoom { frames := 1, cells := 0, slots := 0, locals := 22 } [.int x, .int r] D o ap cA cR cU A ρ σ ra L f0 S0 z0 (g_post (if 0 ≤ x - x / 50 * 50 then (x - x / 50 * 50, S0) else (x - x / 50 * 50, f_fails 4 r S0)) z0) := by
  refine Met.ofW (cc := cX2_giveRoom) (maxL := 4) (ret := (some .int)) (by decide) rfl ?_
  intro p e s m args below meth c s₁ B hml hv
  obtain ⟨rfl, hB⟩ := hv
  have hx := B.exec
  have hb := B.bytes
  have hr := B.returns
  have hts := atoms_spec (ws := wsX2_giveRoom) B.pre
  have hown : s.vm.findClass RX2 = some m.cls := findClass_of_methodNamed B.named
  have hlocks := B.notSynchronized
  have I := c_I.of hB
  have hin2 : ∀ w ∈ wsX20, w ∈ wsX2_giveRoom := fun _ h => List.mem_cons_of_mem _ (List.mem_append_right _ h)
  have hl := lv_entry ([.ref o, .int x, .int r]) (n := 4) (Nat.le_of_ble_eq_true rfl)
  rw [lg_entry_eq]
  generalize (lg_sl ([.ref o, .int x, .int r]) ++ List.replicate (4 - (lg_sl ([.ref o, .int x, .int r])).length) Slot.unset).toArray = ls at hl ⊢
  have hl : lv_has ls 4 [(0, .ref o), (1, .int x), (2, .int r)] := hl
  refine lv_iload_n hx hb dX2_giveRoom_0 rfl (lv_at hl 1 rfl) ?_
  refine lv_bipush (v := 50) hx hb dX2_giveRoom_1 (by decide) ?_
  refine lv_irem hx hb dX2_giveRoom_3 (by decide) ?_
  refine lv_istore_n (lv' := [(3, .int (x - x / 50 * 50)), (0, .ref o), (1, .int x), (2, .int r)]) hx hb dX2_giveRoom_4 rfl hl (by decide) rfl (fun ls hl => ?_)
  refine lv_iload_n hx hb dX2_giveRoom_5 rfl (lv_at hl 0 rfl) ?_
  refine lv_if_ge (tgt := 18) hx hb dX2_giveRoom_6 (by decide) (fun c6 => ?_) (fun c6 => ?_)
  · refine lv_iload_n hx hb dX2_giveRoom_18 rfl (lv_at hl 0 rfl) ?_
    exact c_iret hx hb hr hlocks I dX2_giveRoom_19 (by rw [if_pos c6]; exact ⟨rfl, rfl, hz.trans h0.symm, fun h => absurd h0 h, fun _ => rfl⟩)
  · refine lv_aload_n hx hb dX2_giveRoom_9 rfl (lv_at hl 1 rfl) ?_
    refine lv_iconst (v := 4) hx hb dX2_giveRoom_10 (by decide) ?_
    refine lv_iload_n hx hb dX2_giveRoom_11 rfl (lv_at hl 3 rfl) ?_
    refine c_calli (rest := []) ⟨hx, hb, hml, hown, hts⟩ (c_X2_refuse l D o ap cA cR cU A ρ σ ra L _ S0 z0 4 r) (cwV 2 hts gX2_giveRoom_X2_refuse rfl rfl rfl (by decide +kernel) ⟨Nat.le_of_ble_eq_true rfl, Nat.le_of_ble_eq_true rfl⟩) I rfl hl.1 rfl (Nat.le_of_ble_eq_true rfl) dX2_giveRoom_12 ⟨Nat.le_refl _, Nat.le_refl _⟩ (fun r12 S12 z12 f1 H locs p12 I => ?_)
    obtain ⟨rfl, e12⟩ := p12
    obtain ⟨ea12, eb12⟩ := Prod.mk.inj e12
    rw [ea12, eb12] at I
    refine lv_goto (tgt := 19) hx hb dX2_giveRoom_15 (by decide) ?_
    exact c_iret (S := f_fails 4 r S0) hx hb hr hlocks I dX2_giveRoom_19 (by rw [if_neg c6]; exact ⟨rfl, rfl, rfl, fun _ => rfl, fun h => absurd (show (4 : Int32) = 0 from h) (by decide)⟩)

