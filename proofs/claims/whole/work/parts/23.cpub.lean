section CS23
variable {p : Program} {l : Launch} {e : Env} {R : Room} {s : State} {m : MethodId} {args : Array Value} {below : List Frame} {meth : Method} {c : Code} {H H0 : Heap} {locs : List Loc} {cells slots : Nat} {Q : State → Prop}
variable {cc : ByteArray} {pc : Nat} {ls : Array Slot} {rest st0 : List Value} {Ts : List Cond} {index nL : Nat} {own : String}
variable {D : va_G} {o : Nat} {ap : Nat → Nat} {cA cR cU : ClassId} {A : Nat → Prop} {ρ σ ra : Nat → Nat} {L : List Nat} {f : Nat → va_E} {S : tr_S} {z : tr_Z}
theorem f_ends_ok {T : tr_S} (w : Int32) (h : T.1 16 = 0) : f_ends w T = (w, sF T 19 (T.1 18)) := by
  unfold f_ends
  rw [if_pos (by rw [h]; exact Int32.le_refl _)]
theorem f_ends_no {T : tr_S} (w : Int32) (h : ¬ T.1 16 = 0) (g : e_pos T) : f_ends w T = (-10 - T.1 16, sF (sF (sF (sF T 19 (T.1 18)) 21 (T.1 16)) 22 (T.1 17)) 23 (T.1 23 + 1)) := by
  unfold f_ends
  rw [if_neg (Int32.not_le.mpr (g.elim (fun q => absurd q h) id))]
  rfl
theorem c_I_ok {T : tr_S} {w : Int32} (h : T.1 16 = 0) (I : c_I D o ap cA cR cU A ρ σ ra L f T z s H0 H locs) : c_I D o ap cA cR cU A ρ σ ra L f (f_ends w T).2 z s H0 H locs := by
  rw [f_ends_ok w h]
  exact I
theorem c_I_no {T : tr_S} {w : Int32} (h : ¬ T.1 16 = 0) (g : e_pos T) (I : c_I D o ap cA cR cU A ρ σ ra L f (sF (sF (sF T 21 (T.1 16)) 22 (T.1 17)) 23 (T.1 23 + 1)) z s H0 H locs) : c_I D o ap cA cR cU A ρ σ ra L f (f_ends w T).2 z s H0 H locs := by
  rw [f_ends_no w h g]
  exact I
theorem c_held_sm {S T : tr_S} {q : Nat} (h : e_sm S T) (g : c_held S q) : c_held T q := by
  unfold c_held at g ⊢
  rw [h.1, h.2.1, h.2.2.2.2.2.2.1]
  exact g
end CS23
set_option maxHeartbeats 4000000 in
set_option maxRecDepth 100000 in
theorem c_X2_place (l : Launch) (D : va_G) (o : Nat) (ap : Nat → Nat) (cA cR cU : ClassId) (A : Nat → Prop) (ρ σ ra : Nat → Nat) (L : List Nat) (f0 : Nat → va_E) (S0 : tr_S) (z0 : tr_Z) (a1 a2 : Int32) : c_Ml l yX2_place wsX2_place { frames := 1, cells := 0, slots := 0, locals := 20 } [.int a1, .int a2] D o ap cA cR cU A ρ σ ra L f0 S0 z0 (fun v u => (v, u.1) = f_place a1 a2 S0) := by
  refine Met.ofW (cc := cX2_place) (maxL := 4) (ret := (some .long)) (by decide) rfl ?_
  intro p e s m args below meth c s₁ B hml hv
  obtain ⟨rfl, hB⟩ := hv
  have hx := B.exec
  have hb := B.bytes
  have hr := B.returns
  have hts := atoms_spec (ws := wsX2_place) B.pre
  have hown : s.vm.findClass RX2 = some m.cls := findClass_of_methodNamed B.named
  have hlocks := B.notSynchronized
  have I := c_I.of hB
  have hin2 : ∀ w ∈ wsX20, w ∈ wsX2_place := fun _ h => List.mem_cons_of_mem _ (List.mem_append_right _ h)
  have L11 := hts (.fieldLink RX2 11 "TollRules" "places" "[I") (by decide +kernel)
  have hl := lv_entry ([.ref o, .int a1, .int a2]) (n := 4) (Nat.le_of_ble_eq_true rfl)
  rw [lg_entry_eq]
  generalize (lg_sl ([.ref o, .int a1, .int a2]) ++ List.replicate (4 - (lg_sl ([.ref o, .int a1, .int a2])).length) Slot.unset).toArray = ls at hl ⊢
  have hl : lv_has ls 4 [(0, .ref o), (1, .int a1), (2, .int a2)] := hl
  refine lv_iload_n hx hb dX2_place_0 rfl (lv_at hl 1 rfl) ?_
  refine c_isPlace ⟨hx, hb, hml, hown, hts⟩ gX2_place_X2_isPlace ⟨Nat.le_of_ble_eq_true rfl, Nat.le_of_ble_eq_true rfl⟩ ⟨Nat.le_refl _, Nat.le_refl _⟩ hl.1 (Nat.le_of_ble_eq_true rfl) dX2_place_1 (fun h1 => ?_) (fun h1 => ?_)
  · refine lv_if_ne (tgt := 11) hx hb dX2_place_4 (by decide) (fun _ => ?_) (fun h => absurd h (by decide))
    refine lv_aload_n hx hb dX2_place_11 rfl (lv_at hl 0 rfl) ?_
    refine c_get0 hx hb hts hin2 hown I L11 dX2_place_12 ?_
    refine lv_iload_n hx hb dX2_place_15 rfl (lv_at hl 1 rfl) ?_
    refine c_ald0 hx hb I (ix_of h1 (by decide) (by decide)) dX2_place_16 (x := S0.2 0 a1.toNatClampNeg) rfl ?_
    refine lv_istore_n (lv' := [(3, .int (S0.2 0 a1.toNatClampNeg)), (0, .ref o), (1, .int a1), (2, .int a2)]) hx hb dX2_place_17 rfl hl (by decide) rfl (fun ls hl => ?_)
    refine lv_aload_n hx hb dX2_place_18 rfl (lv_at hl 1 rfl) ?_
    refine c_get0 hx hb hts hin2 hown I L11 dX2_place_19 ?_
    refine lv_iload_n hx hb dX2_place_22 rfl (lv_at hl 2 rfl) ?_
    refine lv_iload_n hx hb dX2_place_23 rfl (lv_at hl 3 rfl) ?_
    refine c_ast0 hx hb I (ix_of h1 (by decide) (by decide)) dX2_place_24 (fun H locs I => ?_)
    refine lv_iload_n hx hb dX2_place_25 rfl (lv_at hl 0 rfl) ?_
    refine lv_i2l hx hb dX2_place_26 rfl ?_
    exact c_lret hx hb hr hlocks I dX2_place_27 (by simp [f_place, h1])
  · refine lv_if_ne (tgt := 11) hx hb dX2_place_4 (by decide) (fun h => absurd h (by decide)) (fun _ => ?_)
    refine lv_ldc2 hx hb hown (hts (.constantLong RX2 71 (-9223372036854775808)) (by decide +kernel)) dX2_place_7 ?_
    exact c_lret hx hb hr hlocks I dX2_place_10 (by simp [f_place, h1])

set_option maxHeartbeats 4000000 in
set_option maxRecDepth 100000 in
theorem c_X2_has (l : Launch) (D : va_G) (o : Nat) (ap : Nat → Nat) (cA cR cU : ClassId) (A : Nat → Prop) (ρ σ ra : Nat → Nat) (L : List Nat) (f0 : Nat → va_E) (S0 : tr_S) (z0 : tr_Z) (a1 : Int32) : c_Ml l yX2_has wsX2_has { frames := 1, cells := 0, slots := 0, locals := 20 } [.int a1] D o ap cA cR cU A ρ σ ra L f0 S0 z0 (fun v u => v = f_has a1 S0 ∧ u.1 = S0) := by
  refine Met.ofW (cc := cX2_has) (maxL := 2) (ret := (some .long)) (by decide) rfl ?_
  intro p e s m args below meth c s₁ B hml hv
  obtain ⟨rfl, hB⟩ := hv
  have hx := B.exec
  have hb := B.bytes
  have hr := B.returns
  have hts := atoms_spec (ws := wsX2_has) B.pre
  have hown : s.vm.findClass RX2 = some m.cls := findClass_of_methodNamed B.named
  have hlocks := B.notSynchronized
  have I := c_I.of hB
  have hin2 : ∀ w ∈ wsX20, w ∈ wsX2_has := fun _ h => List.mem_cons_of_mem _ (List.mem_append_right _ h)
  have L11 := hts (.fieldLink RX2 11 "TollRules" "places" "[I") (by decide +kernel)
  have hl := lv_entry ([.ref o, .int a1]) (n := 2) (Nat.le_of_ble_eq_true rfl)
  rw [lg_entry_eq]
  generalize (lg_sl ([.ref o, .int a1]) ++ List.replicate (2 - (lg_sl ([.ref o, .int a1])).length) Slot.unset).toArray = ls at hl ⊢
  have hl : lv_has ls 2 [(0, .ref o), (1, .int a1)] := hl
  refine lv_iload_n hx hb dX2_has_0 rfl (lv_at hl 1 rfl) ?_
  refine c_isPlace ⟨hx, hb, hml, hown, hts⟩ gX2_has_X2_isPlace ⟨Nat.le_of_ble_eq_true rfl, Nat.le_of_ble_eq_true rfl⟩ ⟨Nat.le_refl _, Nat.le_refl _⟩ hl.1 (Nat.le_of_ble_eq_true rfl) dX2_has_1 (fun h1 => ?_) (fun h1 => ?_)
  · refine lv_if_eq (tgt := 17) hx hb dX2_has_4 (by decide) (fun h => absurd h (by decide)) (fun _ => ?_)
    refine lv_aload_n hx hb dX2_has_7 rfl (lv_at hl 0 rfl) ?_
    refine c_get0 hx hb hts hin2 hown I L11 dX2_has_8 ?_
    refine lv_iload_n hx hb dX2_has_11 rfl (lv_at hl 1 rfl) ?_
    refine c_ald0 hx hb I (ix_of h1 (by decide) (by decide)) dX2_has_12 (x := S0.2 0 a1.toNatClampNeg) rfl ?_
    refine lv_i2l hx hb dX2_has_13 rfl ?_
    refine lv_goto (tgt := 20) hx hb dX2_has_14 (by decide) ?_
    exact c_lret hx hb hr hlocks I dX2_has_20 (⟨by simp [f_has, h1], rfl⟩)
  · refine lv_if_eq (tgt := 17) hx hb dX2_has_4 (by decide) (fun _ => ?_) (fun h => absurd h (by decide))
    refine lv_ldc2 hx hb hown (hts (.constantLong RX2 71 (-9223372036854775808)) (by decide +kernel)) dX2_has_17 ?_
    exact c_lret hx hb hr hlocks I dX2_has_20 (⟨by simp [f_has, h1], rfl⟩)

set_option maxHeartbeats 4000000 in
set_option maxRecDepth 100000 in
theorem c_X2_result (l : Launch) (D : va_G) (o : Nat) (ap : Nat → Nat) (cA cR cU : ClassId) (A : Nat → Prop) (ρ σ ra : Nat → Nat) (L : List Nat) (f0 : Nat → va_E) (S0 : tr_S) (z0 : tr_Z)  : c_Mi l yX2_result wsX2_result { frames := 0, cells := 0, slots := 0, locals := 0 } [] D o ap cA cR cU A ρ σ ra L f0 S0 z0 (fun v u => v = S0.1 25 ∧ u.1 = S0) := by
  refine Met.ofW (cc := cX2_result) (maxL := 1) (ret := (some .int)) (by decide) rfl ?_
  intro p e s m args below meth c s₁ B hml hv
  obtain ⟨rfl, hB⟩ := hv
  have hx := B.exec
  have hb := B.bytes
  have hr := B.returns
  have hts := atoms_spec (ws := wsX2_result) B.pre
  have hown : s.vm.findClass RX2 = some m.cls := findClass_of_methodNamed B.named
  have hlocks := B.notSynchronized
  have I := c_I.of hB
  have hin2 : ∀ w ∈ wsX20, w ∈ wsX2_result := fun _ h => List.mem_cons_of_mem _ (List.mem_append_right _ h)
  have L46 := hts (.fieldLink RX2 46 "TollRules" "latestResult" "I") (by decide +kernel)
  have hl := lv_entry ([.ref o]) (n := 1) (Nat.le_of_ble_eq_true rfl)
  rw [lg_entry_eq]
  generalize (lg_sl ([.ref o]) ++ List.replicate (1 - (lg_sl ([.ref o])).length) Slot.unset).toArray = ls at hl ⊢
  have hl : lv_has ls 1 [(0, .ref o)] := hl
  refine lv_aload_n hx hb dX2_result_0 rfl (lv_at hl 0 rfl) ?_
  refine c_get9 hx hb hts hin2 hown I L46 dX2_result_1 (x := S0.1 25) rfl ?_
  exact c_iret hx hb hr hlocks I dX2_result_4 (⟨rfl, rfl⟩)

set_option maxHeartbeats 4000000 in
set_option maxRecDepth 100000 in
theorem c_X2_steps (l : Launch) (D : va_G) (o : Nat) (ap : Nat → Nat) (cA cR cU : ClassId) (A : Nat → Prop) (ρ σ ra : Nat → Nat) (L : List Nat) (f0 : Nat → va_E) (S0 : tr_S) (z0 : tr_Z)  : c_Mi l yX2_steps wsX2_steps { frames := 0, cells := 0, slots := 0, locals := 0 } [] D o ap cA cR cU A ρ σ ra L f0 S0 z0 (fun v u => v = S0.1 18 ∧ u.1 = S0) := by
  refine Met.ofW (cc := cX2_steps) (maxL := 1) (ret := (some .int)) (by decide) rfl ?_
  intro p e s m args below meth c s₁ B hml hv
  obtain ⟨rfl, hB⟩ := hv
  have hx := B.exec
  have hb := B.bytes
  have hr := B.returns
  have hts := atoms_spec (ws := wsX2_steps) B.pre
  have hown : s.vm.findClass RX2 = some m.cls := findClass_of_methodNamed B.named
  have hlocks := B.notSynchronized
  have I := c_I.of hB
  have hin2 : ∀ w ∈ wsX20, w ∈ wsX2_steps := fun _ h => List.mem_cons_of_mem _ (List.mem_append_right _ h)
  have L49 := hts (.fieldLink RX2 49 "TollRules" "latestSteps" "I") (by decide +kernel)
  have hl := lv_entry ([.ref o]) (n := 1) (Nat.le_of_ble_eq_true rfl)
  rw [lg_entry_eq]
  generalize (lg_sl ([.ref o]) ++ List.replicate (1 - (lg_sl ([.ref o])).length) Slot.unset).toArray = ls at hl ⊢
  have hl : lv_has ls 1 [(0, .ref o)] := hl
  refine lv_aload_n hx hb dX2_steps_0 rfl (lv_at hl 0 rfl) ?_
  refine c_get10 hx hb hts hin2 hown I L49 dX2_steps_1 (x := S0.1 18) rfl ?_
  exact c_iret hx hb hr hlocks I dX2_steps_4 (⟨rfl, rfl⟩)

set_option maxHeartbeats 4000000 in
set_option maxRecDepth 100000 in
theorem c_X2_apply (l : Launch) (D : va_G) (o : Nat) (ap : Nat → Nat) (cA cR cU : ClassId) (A : Nat → Prop) (ρ σ ra : Nat → Nat) (L : List Nat) (f0 : Nat → va_E) (S0 : tr_S) (z0 : tr_Z) (r x : Int32) (N : Nat) (hN : wf S0 N) : c_Mi l yX2_apply wsX2_apply { frames := 121, cells := 0, slots := 0, locals := 2743 } [.int r, .int x] D o ap cA cR cU A ρ σ ra L f0 S0 z0 (fun v u => (v, u.1) = a_apply r x S0) := by
  refine Met.ofW (cc := cX2_apply) (maxL := 4) (ret := (some .int)) (by decide) rfl ?_
  intro p e s m args below meth c s₁ B hml hv
  obtain ⟨rfl, hB⟩ := hv
  have hx := B.exec
  have hb := B.bytes
  have hr := B.returns
  have hts := atoms_spec (ws := wsX2_apply) B.pre
  have hown : s.vm.findClass RX2 = some m.cls := findClass_of_methodNamed B.named
  have hlocks := B.notSynchronized
  have I := c_I.of hB
  have hin2 : ∀ w ∈ wsX20, w ∈ wsX2_apply := fun _ h => List.mem_cons_of_mem _ (List.mem_append_left _ (List.mem_append_left _ (List.mem_append_right _ h)))
  have hin1 : ∀ w ∈ wsX10, w ∈ wsX2_apply := fun _ h => List.mem_cons_of_mem _ (List.mem_append_left _ (List.mem_append_right _ h))
  have hin0 : ∀ w ∈ wsX00, w ∈ wsX2_apply := fun _ h => List.mem_cons_of_mem _ (List.mem_append_right _ h)
  have L46 := hts (.fieldLink RX2 46 "TollRules" "latestResult" "I") (by decide +kernel)
  have hl := lv_entry ([.ref o, .int r, .int x]) (n := 4) (Nat.le_of_ble_eq_true rfl)
  rw [lg_entry_eq]
  generalize (lg_sl ([.ref o, .int r, .int x]) ++ List.replicate (4 - (lg_sl ([.ref o, .int r, .int x])).length) Slot.unset).toArray = ls at hl ⊢
  have hl : lv_has ls 4 [(0, .ref o), (1, .int r), (2, .int x)] := hl
  refine lv_aload_n hx hb dX2_apply_0 rfl (lv_at hl 0 rfl) ?_
  refine lv_iload_n hx hb dX2_apply_1 rfl (lv_at hl 1 rfl) ?_
  refine c_isRule hN ⟨hx, hb, hml, hown, hts⟩ gX2_apply_X2_isRule ⟨Nat.le_of_ble_eq_true rfl, Nat.le_of_ble_eq_true rfl⟩ ⟨Nat.le_refl _, Nat.le_refl _⟩ I hl.1 (Nat.le_of_ble_eq_true rfl) dX2_apply_2 (fun h2 f1 H locs I => ?_) (fun h2 f1 H locs I => ?_)
  · refine lv_if_ne (tgt := 10) hx hb dX2_apply_5 (by decide) (fun _ => ?_) (fun h => absurd h (by decide))
    refine lv_aload_n hx hb dX2_apply_10 rfl (lv_at hl 0 rfl) ?_
    refine c_callv (rest := []) ⟨hx, hb, hml, hown, hts⟩ (c_X2_begin l D o ap cA cR cU A ρ σ ra L _ S0 z0) (cwV 0 hts gX2_apply_X2_begin rfl rfl rfl (by decide +kernel) ⟨Nat.le_of_ble_eq_true rfl, Nat.le_of_ble_eq_true rfl⟩) I rfl hl.1 rfl (Nat.le_of_ble_eq_true rfl) dX2_apply_11 ⟨Nat.le_refl _, Nat.le_refl _⟩ (fun S11 z11 f1 H locs p11 I => ?_)
    obtain ⟨ea11, eb11⟩ := Prod.mk.inj p11
    rw [ea11, eb11] at I
    have I : c_I D o ap cA cR cU A ρ σ ra L f1 (e_start S0) (0, z0.2.1, z0.2.2) s s.heap H locs := I
    obtain ⟨k, hk, ek⟩ := rule_of hN h2
    rw [ek] at hl
    refine lv_aload_n hx hb dX2_apply_14 rfl (lv_at hl 0 rfl) ?_
    refine lv_iload_n hx hb dX2_apply_15 rfl (lv_at hl 1 rfl) ?_
    refine lv_iload_n hx hb dX2_apply_16 rfl (lv_at hl 2 rfl) ?_
    refine c_calli (rest := []) ⟨hx, hb, hml, hown, hts⟩ (c_X2_give l N 40 D o ap cA cR cU A ρ σ ra L _ (e_start S0) (0, z0.2.1, z0.2.2) k x (by have := hN.1; omega) (by omega) (e_go.of hN).1 (e_go.of hN).2.2 (e_go.of hN).2.1 rfl) (cwV 2 hts gX2_apply_X2_give rfl rfl rfl (by decide +kernel) ⟨Nat.le_of_ble_eq_true rfl, Nat.le_of_ble_eq_true rfl⟩) I rfl hl.1 rfl (Nat.le_of_ble_eq_true rfl) dX2_apply_17 ⟨Nat.le_refl _, Nat.le_refl _⟩ (fun r17 S17 z17 f1 H locs p17 I => ?_)
    obtain ⟨q17, hq17⟩ : ∃ qx, qx = ev 40 (nI k) x (e_start S0) := ⟨_, rfl⟩
    rw [← hq17] at p17
    obtain ⟨ea17, eb17, ec17, ed17, ee17⟩ := p17
    have ea17 : S17 = q17.2 := ea17
    have eb17 : z17.2.2 = (0, z0.2.1, z0.2.2).2.2 := eb17
    have ec17 : z17.1 = q17.2.1 16 := ec17
    have ed17 : ¬ q17.2.1 16 = 0 → z17.2.1 = q17.2.1 17 := ed17
    rw [ea17] at I
    have sm17 : e_sm (e_start S0) q17.2 := by rw [hq17]; exact ev_sm 40 _ _ _
    have ps17 : e_pos q17.2 := by rw [hq17]; exact ev_pos 40 _ _ _ (Or.inl (e_go.of hN).2.1)
    have go17 : q17.2.1 16 = 0 → e_go q17.2 N := fun h => by rw [hq17] at h ⊢; exact (e_go.of hN).ev 40 _ _ h
    refine lv_istore_n (lv' := [(3, .int r17), (0, .ref o), (1, .int (nI k)), (2, .int x)]) hx hb dX2_apply_20 rfl hl (by decide) rfl (fun ls hl => ?_)
    refine lv_aload_n hx hb dX2_apply_21 rfl (lv_at hl 1 rfl) ?_
    refine c_isRefused ⟨hx, hb, hml, hown, hts⟩ gX2_apply_X2_isRefused ⟨Nat.le_of_ble_eq_true rfl, Nat.le_of_ble_eq_true rfl⟩ ⟨Nat.le_refl _, Nat.le_refl _⟩ I hl.1 (Nat.le_of_ble_eq_true rfl) dX2_apply_22 (fun h22 f1 H locs I => ?_) (fun h22 f1 H locs I => ?_)
    · refine lv_if_eq (tgt := 33) hx hb dX2_apply_25 (by decide) (fun h => absurd h (by decide)) (fun _ => ?_)
      refine lv_aload_n hx hb dX2_apply_28 rfl (lv_at hl 1 rfl) ?_
      refine c_calli (rest := []) ⟨hx, hb, hml, hown, hts⟩ (c_X2_fail l D o ap cA cR cU A ρ σ ra L _ q17.2 z17) (cwV 0 hts gX2_apply_X2_fail rfl rfl rfl (by decide +kernel) ⟨Nat.le_of_ble_eq_true rfl, Nat.le_of_ble_eq_true rfl⟩) I rfl hl.1 rfl (Nat.le_of_ble_eq_true rfl) dX2_apply_29 ⟨Nat.le_refl _, Nat.le_refl _⟩ (fun r29 S29 z29 f1 H locs p29 I => ?_)
      have fa : r29 = -10 - z17.1 := congrArg Prod.fst p29
      have fb : S29 = sF (sF (sF q17.2 21 z17.1) 22 z17.2.1) 23 (q17.2.1 23 + 1) := congrArg (fun t => t.2.1) p29
      have hne : ¬ q17.2.1 16 = 0 := fun h => h22 (ec17.trans h)
      rw [fb, ec17, ed17 hne] at I
      rw [ec17] at fa
      refine c_iret (S := (f_ends 1 q17.2).2) hx hb hr hlocks (c_I_no hne ps17 I) dX2_apply_32 ?_
      unfold a_apply
      rw [if_pos h2, ek, ← hq17, if_neg hne, f_ends_no 1 hne ps17, fa]
    · refine lv_if_eq (tgt := 33) hx hb dX2_apply_25 (by decide) (fun _ => ?_) (fun h => absurd h (by decide))
      refine lv_aload_n hx hb dX2_apply_33 rfl (lv_at hl 1 rfl) ?_
      refine lv_iload_n hx hb dX2_apply_34 rfl (lv_at hl 0 rfl) ?_
      refine c_put9 hx hb hts hin2 hown I L46 dX2_apply_35 (fun H locs I => ?_)
      refine lv_iconst (v := 1) hx hb dX2_apply_38 (by decide) ?_
      have h0 : q17.2.1 16 = 0 := ec17.symm.trans h22
      rw [ee17 h0] at I
      refine c_iret (S := (f_ends 1 (sF q17.2 25 q17.1)).2) hx hb hr hlocks (c_I_ok (T := sF q17.2 25 q17.1) h0 I) dX2_apply_39 ?_
      unfold a_apply
      rw [if_pos h2, ek, ← hq17, if_pos h0, f_ends_ok 1 (T := sF q17.2 25 q17.1) h0]
  · refine lv_if_ne (tgt := 10) hx hb dX2_apply_5 (by decide) (fun h => absurd h (by decide)) (fun _ => ?_)
    refine lv_iconst (v := (-1)) hx hb dX2_apply_8 (by decide) ?_
    exact c_iret hx hb hr hlocks I dX2_apply_9 (by unfold a_apply; rw [if_neg h2])

