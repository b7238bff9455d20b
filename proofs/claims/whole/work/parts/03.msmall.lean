/-! indices -/
theorem ix_of {x lo hi : Int32} {n : Nat} (h : lo ≤ x ∧ x ≤ hi) (h0 : (0 : Int) ≤ lo.toInt) (hn : hi.toInt < (n : Int)) : vp_in x n := by
  rw [vp_in_iff]
  have h1 := Int32.le_iff_toInt_le.mp h.1
  have h2 := Int32.le_iff_toInt_le.mp h.2
  omega
/-! the reference's small methods: static ones -/
set_option maxHeartbeats 4000000 in
set_option maxRecDepth 100000 in
theorem c_X3_in (l : Launch) (v lo hi : Int32) : Met l yX3_in wsX3_in { frames := 0, cells := 0, slots := 0, locals := 0 } (va_Pc [.int v, .int lo, .int hi] (fun _ => True)) (vp_Si (fun r => ((lo ≤ v ∧ v ≤ hi) ∧ r = 1) ∨ (¬ (lo ≤ v ∧ v ≤ hi) ∧ r = 0))) 0 0 (fun _ => False) := by
  refine Met.ofW (cc := cX3_in) (maxL := 3) (ret := (some .boolean)) (by decide) rfl ?_
  intro p e s m args below meth c s₁ B hml hv
  obtain ⟨rfl, -⟩ := hv
  have hx := B.exec
  have hb := B.bytes
  have hr := B.returns
  have hts := atoms_spec (ws := wsX3_in) B.pre
  have hown : s.vm.findClass RX3 = some m.cls := findClass_of_methodNamed B.named
  have hlocks := B.notSynchronized
  have hl := lv_entry ([.int v, .int lo, .int hi]) (n := 3) (Nat.le_of_ble_eq_true rfl)
  rw [lg_entry_eq]
  generalize (lg_sl ([.int v, .int lo, .int hi]) ++ List.replicate (3 - (lg_sl ([.int v, .int lo, .int hi])).length) Slot.unset).toArray = ls at hl ⊢
  have hl : lv_has ls 3 [(0, .int v), (1, .int lo), (2, .int hi)] := hl
  refine lv_iload_n hx hb dX3_in_0 rfl (lv_at hl 0 rfl) ?_
  refine lv_iload_n hx hb dX3_in_1 rfl (lv_at hl 1 rfl) ?_
  refine lv_icmp_lt (tgt := 14) hx hb dX3_in_2 (by decide) (fun c2 => ?_) (fun c2 => ?_)
  · refine lv_iconst (v := 0) hx hb dX3_in_14 (by decide) ?_
    exact W.zret hx hb hr rfl (fun t ht hW => ⟨_, rfl, Or.inr ⟨fun h => absurd c2 (Int32.not_lt.mpr h.1), rfl⟩, ht⟩) (fun q h => by cases h) dX3_in_15 hlocks
  · refine lv_iload_n hx hb dX3_in_5 rfl (lv_at hl 0 rfl) ?_
    refine lv_iload_n hx hb dX3_in_6 rfl (lv_at hl 2 rfl) ?_
    refine lv_icmp_gt (tgt := 14) hx hb dX3_in_7 (by decide) (fun c7 => ?_) (fun c7 => ?_)
    · refine lv_iconst (v := 0) hx hb dX3_in_14 (by decide) ?_
      exact W.zret hx hb hr rfl (fun t ht hW => ⟨_, rfl, Or.inr ⟨fun h => absurd c7 (Int32.not_lt.mpr h.2), rfl⟩, ht⟩) (fun q h => by cases h) dX3_in_15 hlocks
    · refine lv_iconst (v := 1) hx hb dX3_in_10 (by decide) ?_
      refine lv_goto (tgt := 15) hx hb dX3_in_11 (by decide) ?_
      exact W.zret hx hb hr rfl (fun t ht hW => ⟨_, rfl, Or.inl ⟨⟨Int32.not_lt.mp c2, Int32.not_lt.mp c7⟩, rfl⟩, ht⟩) (fun q h => by cases h) dX3_in_15 hlocks

section MI1
variable {p : Program} {l : Launch} {e : Env} {R : Room} {s : State} {m : MethodId} {args : Array Value} {below : List Frame} {meth : Method} {c : Code} {H H0 : Heap} {locs : List Loc} {cells slots : Nat} {Q : State → Prop}
variable {cc : ByteArray} {pc : Nat} {ls : Array Slot} {rest st0 : List Value} {Ts : List Cond} {index nL : Nat} {own : String}
theorem m_in (X : CallFix p m c cc nL s args Ts own) (hG : GoodIn Ts (va_wsS own index yX3_in wsX3_in)) (hR : 0 + 1 ≤ R.frames ∧ 8 + (3 + 11) + 0 ≤ R.locals) (hf : cells ≤ R.cells ∧ slots ≤ R.slots) (hsize : ls.size = nL) (hroom : (rest.map fun v => v.category).sum ≤ 8) {v lo hi : Int32} (hdg : decode cc pc = .ok (.invokestatic index, 3))
    (kt : lo ≤ v ∧ v ≤ hi → W p l e R s m args below meth c H locs cells slots Q (F0 m (pc + 3) ls (.int 1 :: rest))) (kf : ¬ (lo ≤ v ∧ v ≤ hi) → W p l e R s m args below meth c H locs cells slots Q (F0 m (pc + 3) ls (.int 0 :: rest))) : W p l e R s m args below meth c H locs cells slots Q (F0 m pc ls (.int hi :: .int lo :: .int v :: rest)) := by
  refine vp_callSi (W.runS X (c_X3_in l v lo hi) (va_cwS 3 X.2.2.2.2 hG rfl rfl rfl (by decide +kernel) hR) ⟨fun a U g mk q => q, fun U _ _ => ⟨rfl, trivial⟩⟩ rfl rfl hsize rfl (lv_room hroom) hdg hf) (fun r hr => ?_)
  rcases hr with ⟨h, rfl⟩ | ⟨h, rfl⟩
  · exact kt h
  · exact kf h
end MI1
set_option maxHeartbeats 4000000 in
set_option maxRecDepth 100000 in
theorem c_X3_asks (l : Launch) (k : Int32) : Met l yX3_asks wsX3_asks { frames := 1, cells := 0, slots := 0, locals := 22 } (va_Pc [.int k] (fun _ => True)) (vp_Si (fun r => (((8 ≤ k ∧ k ≤ 11) ∨ k = 16) ∧ r = 1) ∨ (¬ ((8 ≤ k ∧ k ≤ 11) ∨ k = 16) ∧ r = 0))) 0 0 (fun _ => False) := by
  refine Met.ofW (cc := cX3_asks) (maxL := 1) (ret := (some .boolean)) (by decide) rfl ?_
  intro p e s m args below meth c s₁ B hml hv
  obtain ⟨rfl, -⟩ := hv
  have hx := B.exec
  have hb := B.bytes
  have hr := B.returns
  have hts := atoms_spec (ws := wsX3_asks) B.pre
  have hown : s.vm.findClass RX3 = some m.cls := findClass_of_methodNamed B.named
  have hlocks := B.notSynchronized
  have hl := lv_entry ([.int k]) (n := 1) (Nat.le_of_ble_eq_true rfl)
  rw [lg_entry_eq]
  generalize (lg_sl ([.int k]) ++ List.replicate (1 - (lg_sl ([.int k])).length) Slot.unset).toArray = ls at hl ⊢
  have hl : lv_has ls 1 [(0, .int k)] := hl
  refine lv_iload_n hx hb dX3_asks_0 rfl (lv_at hl 0 rfl) ?_
  refine lv_bipush (v := 8) hx hb dX3_asks_1 (by decide) ?_
  refine lv_bipush (v := 11) hx hb dX3_asks_3 (by decide) ?_
  refine m_in ⟨hx, hb, hml, hown, hts⟩ gX3_asks_X3_in ⟨Nat.le_of_ble_eq_true rfl, Nat.le_of_ble_eq_true rfl⟩ ⟨Nat.le_refl _, Nat.le_refl _⟩ hl.1 (Nat.le_of_ble_eq_true rfl) dX3_asks_5 (fun h5 => ?_) (fun h5 => ?_)
  · refine lv_if_ne (tgt := 17) hx hb dX3_asks_8 (by decide) (fun _ => ?_) (fun h => absurd h (by decide))
    refine lv_iconst (v := 1) hx hb dX3_asks_17 (by decide) ?_
    refine lv_goto (tgt := 22) hx hb dX3_asks_18 (by decide) ?_
    exact W.zret hx hb hr rfl (fun t ht hW => ⟨_, rfl, Or.inl ⟨Or.inl h5, rfl⟩, ht⟩) (fun q h => by cases h) dX3_asks_22 hlocks
  · refine lv_if_ne (tgt := 17) hx hb dX3_asks_8 (by decide) (fun h => absurd h (by decide)) (fun _ => ?_)
    refine lv_iload_n hx hb dX3_asks_11 rfl (lv_at hl 0 rfl) ?_
    refine lv_bipush (v := 16) hx hb dX3_asks_12 (by decide) ?_
    refine lv_icmp_ne (tgt := 21) hx hb dX3_asks_14 (by decide) (fun c14 => ?_) (fun c14 => ?_)
    · refine lv_iconst (v := 0) hx hb dX3_asks_21 (by decide) ?_
      exact W.zret hx hb hr rfl (fun t ht hW => ⟨_, rfl, Or.inr ⟨fun h => h.elim h5 c14, rfl⟩, ht⟩) (fun q h => by cases h) dX3_asks_22 hlocks
    · refine lv_iconst (v := 1) hx hb dX3_asks_17 (by decide) ?_
      refine lv_goto (tgt := 22) hx hb dX3_asks_18 (by decide) ?_
      exact W.zret hx hb hr rfl (fun t ht hW => ⟨_, rfl, Or.inl ⟨Or.inr c14, rfl⟩, ht⟩) (fun q h => by cases h) dX3_asks_22 hlocks

section MI2
variable {p : Program} {l : Launch} {e : Env} {R : Room} {s : State} {m : MethodId} {args : Array Value} {below : List Frame} {meth : Method} {c : Code} {H H0 : Heap} {locs : List Loc} {cells slots : Nat} {Q : State → Prop}
variable {cc : ByteArray} {pc : Nat} {ls : Array Slot} {rest st0 : List Value} {Ts : List Cond} {index nL : Nat} {own : String} {D : va_G} {o : Nat} {ad : Nat → Nat} {cA : ClassId} {S : tr_S}
theorem m_asks (X : CallFix p m c cc nL s args Ts own) (hG : GoodIn Ts (va_wsS own index yX3_asks wsX3_asks)) (hR : 1 + 1 ≤ R.frames ∧ 8 + (1 + 11) + 22 ≤ R.locals) (hf : cells ≤ R.cells ∧ slots ≤ R.slots) (hsize : ls.size = nL) (hroom : (rest.map fun v => v.category).sum ≤ 8) {k : Int32} (hdg : decode cc pc = .ok (.invokestatic index, 3))
    (kt : (8 ≤ k ∧ k ≤ 11) ∨ k = 16 → W p l e R s m args below meth c H locs cells slots Q (F0 m (pc + 3) ls (.int 1 :: rest))) (kf : ¬ ((8 ≤ k ∧ k ≤ 11) ∨ k = 16) → W p l e R s m args below meth c H locs cells slots Q (F0 m (pc + 3) ls (.int 0 :: rest))) : W p l e R s m args below meth c H locs cells slots Q (F0 m pc ls (.int k :: rest)) := by
  refine vp_callSi (W.runS X (c_X3_asks l k) (va_cwS 1 X.2.2.2.2 hG rfl rfl rfl (by decide +kernel) hR) ⟨fun a U g mk q => q, fun U _ _ => ⟨rfl, trivial⟩⟩ rfl rfl hsize rfl (lv_room hroom) hdg hf) (fun r hr => ?_)
  rcases hr with ⟨h, rfl⟩ | ⟨h, rfl⟩
  · exact kt h
  · exact kf h
end MI2
set_option maxHeartbeats 4000000 in
set_option maxRecDepth 100000 in
theorem c_X3_isRule (l : Launch) (D : va_G) (o : Nat) (ad : Nat → Nat) (cA : ClassId) (S0 : tr_S) (r : Int32) : m_Mi l yX3_isRule wsX3_isRule { frames := 1, cells := 0, slots := 0, locals := 22 } [.int r] D o ad cA S0 (fun x S => S = S0 ∧ (((0 ≤ r ∧ r ≤ S0.1 4 - 1) ∧ x = 1) ∨ (¬ (0 ≤ r ∧ r ≤ S0.1 4 - 1) ∧ x = 0))) := by
  refine Met.ofW (cc := cX3_isRule) (maxL := 2) (ret := (some .boolean)) (by decide) rfl ?_
  intro p e s m args below meth c s₁ B hml hv
  obtain ⟨rfl, hB⟩ := hv
  have hx := B.exec
  have hb := B.bytes
  have hr := B.returns
  have hts := atoms_spec (ws := wsX3_isRule) B.pre
  have hown : s.vm.findClass RX3 = some m.cls := findClass_of_methodNamed B.named
  have hlocks := B.notSynchronized
  have I := m_I.of hB
  have hin : ∀ w ∈ wsX30, w ∈ wsX3_isRule := fun _ h => List.mem_cons_of_mem _ (List.mem_append_right _ h)
  have L65 := hts (.fieldLink RX3 65 "TollRulesModel" "rules" "I") (by decide +kernel)
  have hl := lv_entry ([.ref o, .int r]) (n := 2) (Nat.le_of_ble_eq_true rfl)
  rw [lg_entry_eq]
  generalize (lg_sl ([.ref o, .int r]) ++ List.replicate (2 - (lg_sl ([.ref o, .int r])).length) Slot.unset).toArray = ls at hl ⊢
  have hl : lv_has ls 2 [(0, .ref o), (1, .int r)] := hl
  refine lv_iload_n hx hb dX3_isRule_0 rfl (lv_at hl 1 rfl) ?_
  refine lv_iconst (v := 0) hx hb dX3_isRule_1 (by decide) ?_
  refine lv_aload_n hx hb dX3_isRule_2 rfl (lv_at hl 0 rfl) ?_
  refine m_get4 hx hb hts hin hown I L65 dX3_isRule_3 (x := S0.1 4) rfl ?_
  refine lv_iconst (v := 1) hx hb dX3_isRule_6 (by decide) ?_
  refine lv_isub hx hb dX3_isRule_7 ?_
  refine m_in ⟨hx, hb, hml, hown, hts⟩ gX3_isRule_X3_in ⟨Nat.le_of_ble_eq_true rfl, Nat.le_of_ble_eq_true rfl⟩ ⟨Nat.le_refl _, Nat.le_refl _⟩ hl.1 (Nat.le_of_ble_eq_true rfl) dX3_isRule_8 (fun h8 => ?_) (fun h8 => ?_)
  · exact m_zret hx hb hr hlocks I rfl dX3_isRule_11 (⟨rfl, Or.inl ⟨h8, rfl⟩⟩)
  · exact m_zret hx hb hr hlocks I rfl dX3_isRule_11 (⟨rfl, Or.inr ⟨h8, rfl⟩⟩)

section MI3
variable {p : Program} {l : Launch} {e : Env} {R : Room} {s : State} {m : MethodId} {args : Array Value} {below : List Frame} {meth : Method} {c : Code} {H H0 : Heap} {locs : List Loc} {cells slots : Nat} {Q : State → Prop}
variable {cc : ByteArray} {pc : Nat} {ls : Array Slot} {rest st0 : List Value} {Ts : List Cond} {index nL : Nat} {own : String} {D : va_G} {o : Nat} {ad : Nat → Nat} {cA : ClassId} {S : tr_S}
theorem m_isRule (X : CallFix p m c cc nL s args Ts own) (hG : GoodIn Ts (wsV own index RX3 yX3_isRule wsX3_isRule)) (hR : 1 + 1 ≤ R.frames ∧ 8 + (2 + 11) + 22 ≤ R.locals) (hf : cells ≤ R.cells ∧ slots ≤ R.slots) (I : m_I D o ad cA S s H0 H locs) (hsize : ls.size = nL) (hroom : (rest.map fun v => v.category).sum ≤ 8) {r : Int32} (hdg : decode cc pc = .ok (.invokevirtual index, 3))
    (kt : 0 ≤ r ∧ r ≤ S.1 4 - 1 → ∀ (H1 : Heap) (locs1 : List Loc), m_I D o ad cA S s H0 H1 locs1 → W p l e R s m args below meth c H1 locs1 cells slots Q (F0 m (pc + 3) ls (.int 1 :: rest))) (kf : ¬ (0 ≤ r ∧ r ≤ S.1 4 - 1) → ∀ (H1 : Heap) (locs1 : List Loc), m_I D o ad cA S s H0 H1 locs1 → W p l e R s m args below meth c H1 locs1 cells slots Q (F0 m (pc + 3) ls (.int 0 :: rest))) : W p l e R s m args below meth c H locs cells slots Q (F0 m pc ls (.int r :: .ref o :: rest)) := by
  refine m_calli (rest := rest) X (c_X3_isRule l D o ad cA S r) (cwV 1 X.2.2.2.2 hG rfl rfl rfl (by decide +kernel) hR) I rfl hsize rfl hroom hdg hf (fun x S1 H1 locs1 hp I1 => ?_)
  obtain ⟨rfl, ⟨h, rfl⟩ | ⟨h, rfl⟩⟩ := hp
  · exact kt h H1 locs1 I1
  · exact kf h H1 locs1 I1
end MI3
/-! the reference's steps -/
def f_fails (w a : Int32) (S : tr_S) : tr_S := sF (sF S 16 w) 17 a
def f_tick (S : tr_S) : tr_S := sF (sF S 18 (S.1 18 + 1)) 20 (S.1 20 + 1)
def f_push (r x : Int32) (S : tr_S) : tr_S := sF (sA (sA (sA S 12 (S.1 11).toNatClampNeg r) 13 (S.1 11).toNatClampNeg x) 14 (S.1 11).toNatClampNeg 0) 11 (S.1 11 + 1)
def f_begins (r x : Int32) (S : tr_S) : Int32 × tr_S := if S.1 18 = 64 then (0, f_fails 5 r S) else (1, f_push r x (f_tick S))
set_option maxHeartbeats 4000000 in
set_option maxRecDepth 100000 in
theorem c_X3_fails (l : Launch) (D : va_G) (o : Nat) (ad : Nat → Nat) (cA : ClassId) (S0 : tr_S) (w a : Int32) : m_Mv l yX3_fails wsX3_fails { frames := 0, cells := 0, slots := 0, locals := 0 } [.int w, .int a] D o ad cA S0 (fun S => S = f_fails w a S0) := by
  refine Met.ofW (cc := cX3_fails) (maxL := 3) (ret := none) (by decide) rfl ?_
  intro p e s m args below meth c s₁ B hml hv
  obtain ⟨rfl, hB⟩ := hv
  have hx := B.exec
  have hb := B.bytes
  have hr := B.returns
  have hts := atoms_spec (ws := wsX3_fails) B.pre
  have hown : s.vm.findClass RX3 = some m.cls := findClass_of_methodNamed B.named
  have hlocks := B.notSynchronized
  have I := m_I.of hB
  have hin : ∀ w ∈ wsX30, w ∈ wsX3_fails := fun _ h => List.mem_cons_of_mem _ (List.mem_append_right _ h)
  have L95 := hts (.fieldLink RX3 95 "TollRulesModel" "failure" "I") (by decide +kernel)
  have L98 := hts (.fieldLink RX3 98 "TollRulesModel" "failureAt" "I") (by decide +kernel)
  have hl := lv_entry ([.ref o, .int w, .int a]) (n := 3) (Nat.le_of_ble_eq_true rfl)
  rw [lg_entry_eq]
  generalize (lg_sl ([.ref o, .int w, .int a]) ++ List.replicate (3 - (lg_sl ([.ref o, .int w, .int a])).length) Slot.unset).toArray = ls at hl ⊢
  have hl : lv_has ls 3 [(0, .ref o), (1, .int w), (2, .int a)] := hl
  refine lv_aload_n hx hb dX3_fails_0 rfl (lv_at hl 0 rfl) ?_
  refine lv_iload_n hx hb dX3_fails_1 rfl (lv_at hl 1 rfl) ?_
  refine m_put16 hx hb hts hin hown I L95 dX3_fails_2 (fun H locs I => ?_)
  refine lv_aload_n hx hb dX3_fails_5 rfl (lv_at hl 0 rfl) ?_
  refine lv_iload_n hx hb dX3_fails_6 rfl (lv_at hl 2 rfl) ?_
  refine m_put17 hx hb hts hin hown I L98 dX3_fails_7 (fun H locs I => ?_)
  exact m_vret hx hb hr hlocks I dX3_fails_10 (rfl)

set_option maxHeartbeats 4000000 in
set_option maxRecDepth 100000 in
theorem c_X3_startsCall (l : Launch) (D : va_G) (o : Nat) (ad : Nat → Nat) (cA : ClassId) (S0 : tr_S)  : m_Mv l yX3_startsCall wsX3_startsCall { frames := 0, cells := 0, slots := 0, locals := 0 } [] D o ad cA S0 (fun S => S = sF (sF S0 18 0) 16 0) := by
  refine Met.ofW (cc := cX3_startsCall) (maxL := 1) (ret := none) (by decide) rfl ?_
  intro p e s m args below meth c s₁ B hml hv
  obtain ⟨rfl, hB⟩ := hv
  have hx := B.exec
  have hb := B.bytes
  have hr := B.returns
  have hts := atoms_spec (ws := wsX3_startsCall) B.pre
  have hown : s.vm.findClass RX3 = some m.cls := findClass_of_methodNamed B.named
  have hlocks := B.notSynchronized
  have I := m_I.of hB
  have hin : ∀ w ∈ wsX30, w ∈ wsX3_startsCall := fun _ h => List.mem_cons_of_mem _ (List.mem_append_right _ h)
  have L82 := hts (.fieldLink RX3 82 "TollRulesModel" "steps" "I") (by decide +kernel)
  have L95 := hts (.fieldLink RX3 95 "TollRulesModel" "failure" "I") (by decide +kernel)
  have hl := lv_entry ([.ref o]) (n := 1) (Nat.le_of_ble_eq_true rfl)
  rw [lg_entry_eq]
  generalize (lg_sl ([.ref o]) ++ List.replicate (1 - (lg_sl ([.ref o])).length) Slot.unset).toArray = ls at hl ⊢
  have hl : lv_has ls 1 [(0, .ref o)] := hl
  refine lv_aload_n hx hb dX3_startsCall_0 rfl (lv_at hl 0 rfl) ?_
  refine lv_iconst (v := 0) hx hb dX3_startsCall_1 (by decide) ?_
  refine m_put18 hx hb hts hin hown I L82 dX3_startsCall_2 (fun H locs I => ?_)
  refine lv_aload_n hx hb dX3_startsCall_5 rfl (lv_at hl 0 rfl) ?_
  refine lv_iconst (v := 0) hx hb dX3_startsCall_6 (by decide) ?_
  refine m_put16 hx hb hts hin hown I L95 dX3_startsCall_7 (fun H locs I => ?_)
  exact m_vret hx hb hr hlocks I dX3_startsCall_10 (rfl)

set_option maxHeartbeats 4000000 in
set_option maxRecDepth 100000 in
theorem c_X3_begins (l : Launch) (D : va_G) (o : Nat) (ad : Nat → Nat) (cA : ClassId) (S0 : tr_S) (r x : Int32) (hw : vp_in (S0.1 11) 65) : m_Mi l yX3_begins wsX3_begins { frames := 1, cells := 0, slots := 0, locals := 22 } [.int r, .int x] D o ad cA S0 (fun v S => (v, S) = f_begins r x S0) := by
  refine Met.ofW (cc := cX3_begins) (maxL := 3) (ret := (some .boolean)) (by decide) rfl ?_
  intro p e s m args below meth c s₁ B hml hv
  obtain ⟨rfl, hB⟩ := hv
  have hx := B.exec
  have hb := B.bytes
  have hr := B.returns
  have hts := atoms_spec (ws := wsX3_begins) B.pre
  have hown : s.vm.findClass RX3 = some m.cls := findClass_of_methodNamed B.named
  have hlocks := B.notSynchronized
  have I := m_I.of hB
  have hin : ∀ w ∈ wsX30, w ∈ wsX3_begins := fun _ h => List.mem_cons_of_mem _ (List.mem_append_right _ h)
  have L40 := hts (.fieldLink RX3 40 "TollRulesModel" "waitRule" "[I") (by decide +kernel)
  have L43 := hts (.fieldLink RX3 43 "TollRulesModel" "waitValue" "[I") (by decide +kernel)
  have L46 := hts (.fieldLink RX3 46 "TollRulesModel" "waitPhase" "[I") (by decide +kernel)
  have L82 := hts (.fieldLink RX3 82 "TollRulesModel" "steps" "I") (by decide +kernel)
  have L89 := hts (.fieldLink RX3 89 "TollRulesModel" "stepsEver" "I") (by decide +kernel)
  have L92 := hts (.fieldLink RX3 92 "TollRulesModel" "waiting" "I") (by decide +kernel)
  have hl := lv_entry ([.ref o, .int r, .int x]) (n := 3) (Nat.le_of_ble_eq_true rfl)
  rw [lg_entry_eq]
  generalize (lg_sl ([.ref o, .int r, .int x]) ++ List.replicate (3 - (lg_sl ([.ref o, .int r, .int x])).length) Slot.unset).toArray = ls at hl ⊢
  have hl : lv_has ls 3 [(0, .ref o), (1, .int r), (2, .int x)] := hl
  refine lv_aload_n hx hb dX3_begins_0 rfl (lv_at hl 0 rfl) ?_
  refine m_get18 hx hb hts hin hown I L82 dX3_begins_1 (x := S0.1 18) rfl ?_
  refine lv_bipush (v := 64) hx hb dX3_begins_4 (by decide) ?_
  refine lv_icmp_ne (tgt := 17) hx hb dX3_begins_6 (by decide) (fun c6 => ?_) (fun c6 => ?_)
  · refine lv_aload_n hx hb dX3_begins_17 rfl (lv_at hl 0 rfl) ?_
    refine lv_dup hx hb dX3_begins_18 rfl ?_
    refine m_get18 hx hb hts hin hown I L82 dX3_begins_19 (x := S0.1 18) rfl ?_
    refine lv_iconst (v := 1) hx hb dX3_begins_22 (by decide) ?_
    refine lv_iadd hx hb dX3_begins_23 ?_
    refine m_put18 hx hb hts hin hown I L82 dX3_begins_24 (fun H locs I => ?_)
    refine lv_aload_n hx hb dX3_begins_27 rfl (lv_at hl 0 rfl) ?_
    refine lv_dup hx hb dX3_begins_28 rfl ?_
    refine m_get20 hx hb hts hin hown I L89 dX3_begins_29 (x := S0.1 20) rfl ?_
    refine lv_iconst (v := 1) hx hb dX3_begins_32 (by decide) ?_
    refine lv_iadd hx hb dX3_begins_33 ?_
    refine m_put20 hx hb hts hin hown I L89 dX3_begins_34 (fun H locs I => ?_)
    refine lv_aload_n hx hb dX3_begins_37 rfl (lv_at hl 0 rfl) ?_
    refine m_get12 hx hb hts hin hown I L40 dX3_begins_38 ?_
    refine lv_aload_n hx hb dX3_begins_41 rfl (lv_at hl 0 rfl) ?_
    refine m_get11 hx hb hts hin hown I L92 dX3_begins_42 (x := S0.1 11) rfl ?_
    refine lv_iload_n hx hb dX3_begins_45 rfl (lv_at hl 1 rfl) ?_
    refine m_ast12 hx hb I hw dX3_begins_46 (fun H locs I => ?_)
    refine lv_aload_n hx hb dX3_begins_47 rfl (lv_at hl 0 rfl) ?_
    refine m_get13 hx hb hts hin hown I L43 dX3_begins_48 ?_
    refine lv_aload_n hx hb dX3_begins_51 rfl (lv_at hl 0 rfl) ?_
    refine m_get11 hx hb hts hin hown I L92 dX3_begins_52 (x := S0.1 11) rfl ?_
    refine lv_iload_n hx hb dX3_begins_55 rfl (lv_at hl 2 rfl) ?_
    refine m_ast13 hx hb I hw dX3_begins_56 (fun H locs I => ?_)
    refine lv_aload_n hx hb dX3_begins_57 rfl (lv_at hl 0 rfl) ?_
    refine m_get14 hx hb hts hin hown I L46 dX3_begins_58 ?_
    refine lv_aload_n hx hb dX3_begins_61 rfl (lv_at hl 0 rfl) ?_
    refine m_get11 hx hb hts hin hown I L92 dX3_begins_62 (x := S0.1 11) rfl ?_
    refine lv_iconst (v := 0) hx hb dX3_begins_65 (by decide) ?_
    refine m_ast14 hx hb I hw dX3_begins_66 (fun H locs I => ?_)
    refine lv_aload_n hx hb dX3_begins_67 rfl (lv_at hl 0 rfl) ?_
    refine lv_dup hx hb dX3_begins_68 rfl ?_
    refine m_get11 hx hb hts hin hown I L92 dX3_begins_69 (x := S0.1 11) rfl ?_
    refine lv_iconst (v := 1) hx hb dX3_begins_72 (by decide) ?_
    refine lv_iadd hx hb dX3_begins_73 ?_
    refine m_put11 hx hb hts hin hown I L92 dX3_begins_74 (fun H locs I => ?_)
    refine lv_iconst (v := 1) hx hb dX3_begins_77 (by decide) ?_
    exact m_zret hx hb hr hlocks I rfl dX3_begins_78 ((if_neg c6).symm)
  · refine lv_aload_n hx hb dX3_begins_9 rfl (lv_at hl 0 rfl) ?_
    refine lv_iconst (v := 5) hx hb dX3_begins_10 (by decide) ?_
    refine lv_iload_n hx hb dX3_begins_11 rfl (lv_at hl 1 rfl) ?_
    refine m_callv (rest := []) ⟨hx, hb, hml, hown, hts⟩ (c_X3_fails l D o ad cA S0 5 r) (cwV 2 hts gX3_begins_X3_fails rfl rfl rfl (by decide +kernel) ⟨Nat.le_of_ble_eq_true rfl, Nat.le_of_ble_eq_true rfl⟩) I rfl hl.1 rfl (Nat.le_of_ble_eq_true rfl) dX3_begins_12 ⟨Nat.le_refl _, Nat.le_refl _⟩ (fun S12 H locs p12 I => ?_)
    refine lv_iconst (v := 0) hx hb dX3_begins_15 (by decide) ?_
    exact m_zret hx hb hr hlocks I rfl dX3_begins_16 (by rw [p12]; exact (if_pos c6).symm)

set_option maxHeartbeats 4000000 in
set_option maxRecDepth 100000 in
theorem c_X3_result (l : Launch) (D : va_G) (o : Nat) (ad : Nat → Nat) (cA : ClassId) (S0 : tr_S)  : m_Mi l yX3_result wsX3_result { frames := 0, cells := 0, slots := 0, locals := 0 } [] D o ad cA S0 (fun v S => v = S0.1 25 ∧ S = S0) := by
  refine Met.ofW (cc := cX3_result) (maxL := 1) (ret := (some .int)) (by decide) rfl ?_
  intro p e s m args below meth c s₁ B hml hv
  obtain ⟨rfl, hB⟩ := hv
  have hx := B.exec
  have hb := B.bytes
  have hr := B.returns
  have hts := atoms_spec (ws := wsX3_result) B.pre
  have hown : s.vm.findClass RX3 = some m.cls := findClass_of_methodNamed B.named
  have hlocks := B.notSynchronized
  have I := m_I.of hB
  have hin : ∀ w ∈ wsX30, w ∈ wsX3_result := fun _ h => List.mem_cons_of_mem _ (List.mem_append_right _ h)
  have L152 := hts (.fieldLink RX3 152 "TollRulesModel" "result" "I") (by decide +kernel)
  have hl := lv_entry ([.ref o]) (n := 1) (Nat.le_of_ble_eq_true rfl)
  rw [lg_entry_eq]
  generalize (lg_sl ([.ref o]) ++ List.replicate (1 - (lg_sl ([.ref o])).length) Slot.unset).toArray = ls at hl ⊢
  have hl : lv_has ls 1 [(0, .ref o)] := hl
  refine lv_aload_n hx hb dX3_result_0 rfl (lv_at hl 0 rfl) ?_
  refine m_get25 hx hb hts hin hown I L152 dX3_result_1 (x := S0.1 25) rfl ?_
  exact m_iret hx hb hr hlocks I dX3_result_4 (⟨rfl, rfl⟩)

set_option maxHeartbeats 4000000 in
set_option maxRecDepth 100000 in
theorem c_X3_steps (l : Launch) (D : va_G) (o : Nat) (ad : Nat → Nat) (cA : ClassId) (S0 : tr_S)  : m_Mi l yX3_steps wsX3_steps { frames := 0, cells := 0, slots := 0, locals := 0 } [] D o ad cA S0 (fun v S => v = S0.1 19 ∧ S = S0) := by
  refine Met.ofW (cc := cX3_steps) (maxL := 1) (ret := (some .int)) (by decide) rfl ?_
  intro p e s m args below meth c s₁ B hml hv
  obtain ⟨rfl, hB⟩ := hv
  have hx := B.exec
  have hb := B.bytes
  have hr := B.returns
  have hts := atoms_spec (ws := wsX3_steps) B.pre
  have hown : s.vm.findClass RX3 = some m.cls := findClass_of_methodNamed B.named
  have hlocks := B.notSynchronized
  have I := m_I.of hB
  have hin : ∀ w ∈ wsX30, w ∈ wsX3_steps := fun _ h => List.mem_cons_of_mem _ (List.mem_append_right _ h)
  have L128 := hts (.fieldLink RX3 128 "TollRulesModel" "stepsTold" "I") (by decide +kernel)
  have hl := lv_entry ([.ref o]) (n := 1) (Nat.le_of_ble_eq_true rfl)
  rw [lg_entry_eq]
  generalize (lg_sl ([.ref o]) ++ List.replicate (1 - (lg_sl ([.ref o])).length) Slot.unset).toArray = ls at hl ⊢
  have hl : lv_has ls 1 [(0, .ref o)] := hl
  refine lv_aload_n hx hb dX3_steps_0 rfl (lv_at hl 0 rfl) ?_
  refine m_get19 hx hb hts hin hown I L128 dX3_steps_1 (x := S0.1 19) rfl ?_
  exact m_iret hx hb hr hlocks I dX3_steps_4 (⟨rfl, rfl⟩)

def f_failed (w : Int32) (S : tr_S) : Int32 := if w = 0 then S.1 21 else if w = 1 then S.1 22 else -1
set_option maxHeartbeats 4000000 in
set_option maxRecDepth 100000 in
theorem c_X3_failed_ (l : Launch) (D : va_G) (o : Nat) (ad : Nat → Nat) (cA : ClassId) (S0 : tr_S) (w : Int32) : m_Mi l yX3_failed_ wsX3_failed_ { frames := 0, cells := 0, slots := 0, locals := 0 } [.int w] D o ad cA S0 (fun v S => v = f_failed w S0 ∧ S = S0) := by
  refine Met.ofW (cc := cX3_failed_) (maxL := 2) (ret := (some .int)) (by decide) rfl ?_
  intro p e s m args below meth c s₁ B hml hv
  obtain ⟨rfl, hB⟩ := hv
  have hx := B.exec
  have hb := B.bytes
  have hr := B.returns
  have hts := atoms_spec (ws := wsX3_failed_) B.pre
  have hown : s.vm.findClass RX3 = some m.cls := findClass_of_methodNamed B.named
  have hlocks := B.notSynchronized
  have I := m_I.of hB
  have hin : ∀ w ∈ wsX30, w ∈ wsX3_failed_ := fun _ h => List.mem_cons_of_mem _ (List.mem_append_right _ h)
  have L52 := hts (.fieldLink RX3 52 "TollRulesModel" "failedRule" "I") (by decide +kernel)
  have L134 := hts (.fieldLink RX3 134 "TollRulesModel" "failedKind" "I") (by decide +kernel)
  have hl := lv_entry ([.ref o, .int w]) (n := 2) (Nat.le_of_ble_eq_true rfl)
  rw [lg_entry_eq]
  generalize (lg_sl ([.ref o, .int w]) ++ List.replicate (2 - (lg_sl ([.ref o, .int w])).length) Slot.unset).toArray = ls at hl ⊢
  have hl : lv_has ls 2 [(0, .ref o), (1, .int w)] := hl
  refine lv_iload_n hx hb dX3_failed__0 rfl (lv_at hl 1 rfl) ?_
  refine lv_if_ne (tgt := 11) hx hb dX3_failed__1 (by decide) (fun c1 => ?_) (fun c1 => ?_)
  · refine lv_iload_n hx hb dX3_failed__11 rfl (lv_at hl 1 rfl) ?_
    refine lv_iconst (v := 1) hx hb dX3_failed__12 (by decide) ?_
    refine lv_icmp_ne (tgt := 23) hx hb dX3_failed__13 (by decide) (fun c13 => ?_) (fun c13 => ?_)
    · refine lv_iconst (v := (-1)) hx hb dX3_failed__23 (by decide) ?_
      exact m_iret hx hb hr hlocks I dX3_failed__24 (⟨by simp [f_failed, c1, c13], rfl⟩)
    · refine lv_aload_n hx hb dX3_failed__16 rfl (lv_at hl 0 rfl) ?_
      refine m_get22 hx hb hts hin hown I L52 dX3_failed__17 (x := S0.1 22) rfl ?_
      refine lv_goto (tgt := 24) hx hb dX3_failed__20 (by decide) ?_
      exact m_iret hx hb hr hlocks I dX3_failed__24 (⟨by simp [f_failed, c1, c13], rfl⟩)
  · refine lv_aload_n hx hb dX3_failed__4 rfl (lv_at hl 0 rfl) ?_
    refine m_get21 hx hb hts hin hown I L134 dX3_failed__5 (x := S0.1 21) rfl ?_
    refine lv_goto (tgt := 24) hx hb dX3_failed__8 (by decide) ?_
    exact m_iret hx hb hr hlocks I dX3_failed__24 (⟨by simp [f_failed, c1], rfl⟩)

def f_fail (w a : Int32) (S : tr_S) : Int32 × tr_S := (-10 - w, sF (sF (sF S 21 w) 22 a) 23 (S.1 23 + 1))
set_option maxHeartbeats 4000000 in
set_option maxRecDepth 100000 in
theorem c_X3_failed (l : Launch) (D : va_G) (o : Nat) (ad : Nat → Nat) (cA : ClassId) (S0 : tr_S) (w a n : Int32) : m_Mi l yX3_failed wsX3_failed { frames := 0, cells := 0, slots := 0, locals := 0 } [.int w, .int a, .int n] D o ad cA S0 (fun v S => (v, S) = f_fail w a S0) := by
  refine Met.ofW (cc := cX3_failed) (maxL := 4) (ret := (some .int)) (by decide) rfl ?_
  intro p e s m args below meth c s₁ B hml hv
  obtain ⟨rfl, hB⟩ := hv
  have hx := B.exec
  have hb := B.bytes
  have hr := B.returns
  have hts := atoms_spec (ws := wsX3_failed) B.pre
  have hown : s.vm.findClass RX3 = some m.cls := findClass_of_methodNamed B.named
  have hlocks := B.notSynchronized
  have I := m_I.of hB
  have hin : ∀ w ∈ wsX30, w ∈ wsX3_failed := fun _ h => List.mem_cons_of_mem _ (List.mem_append_right _ h)
  have L52 := hts (.fieldLink RX3 52 "TollRulesModel" "failedRule" "I") (by decide +kernel)
  have L134 := hts (.fieldLink RX3 134 "TollRulesModel" "failedKind" "I") (by decide +kernel)
  have L137 := hts (.fieldLink RX3 137 "TollRulesModel" "failedMany" "I") (by decide +kernel)
  have hl := lv_entry ([.ref o, .int w, .int a, .int n]) (n := 4) (Nat.le_of_ble_eq_true rfl)
  rw [lg_entry_eq]
  generalize (lg_sl ([.ref o, .int w, .int a, .int n]) ++ List.replicate (4 - (lg_sl ([.ref o, .int w, .int a, .int n])).length) Slot.unset).toArray = ls at hl ⊢
  have hl : lv_has ls 4 [(0, .ref o), (1, .int w), (2, .int a), (3, .int n)] := hl
  refine lv_aload_n hx hb dX3_failed_0 rfl (lv_at hl 0 rfl) ?_
  refine lv_iload_n hx hb dX3_failed_1 rfl (lv_at hl 1 rfl) ?_
  refine m_put21 hx hb hts hin hown I L134 dX3_failed_2 (fun H locs I => ?_)
  refine lv_aload_n hx hb dX3_failed_5 rfl (lv_at hl 0 rfl) ?_
  refine lv_iload_n hx hb dX3_failed_6 rfl (lv_at hl 2 rfl) ?_
  refine m_put22 hx hb hts hin hown I L52 dX3_failed_7 (fun H locs I => ?_)
  refine lv_aload_n hx hb dX3_failed_10 rfl (lv_at hl 0 rfl) ?_
  refine lv_dup hx hb dX3_failed_11 rfl ?_
  refine m_get23 hx hb hts hin hown I L137 dX3_failed_12 (x := S0.1 23) rfl ?_
  refine lv_iconst (v := 1) hx hb dX3_failed_15 (by decide) ?_
  refine lv_iadd hx hb dX3_failed_16 ?_
  refine m_put23 hx hb hts hin hown I L137 dX3_failed_17 (fun H locs I => ?_)
  refine lv_bipush (v := (-10)) hx hb dX3_failed_20 (by decide) ?_
  refine lv_iload_n hx hb dX3_failed_22 rfl (lv_at hl 1 rfl) ?_
  refine lv_isub hx hb dX3_failed_23 ?_
  exact m_iret hx hb hr hlocks I dX3_failed_24 (rfl)

def f_ends (v : Int32) (S : tr_S) : Int32 × tr_S := if S.1 16 ≤ 0 then (v, sF S 19 (S.1 18)) else f_fail (S.1 16) (S.1 17) (sF S 19 (S.1 18))
set_option maxHeartbeats 4000000 in
set_option maxRecDepth 100000 in
theorem c_X3_ends (l : Launch) (D : va_G) (o : Nat) (ad : Nat → Nat) (cA : ClassId) (S0 : tr_S) (v : Int32) : m_Mi l yX3_ends wsX3_ends { frames := 1, cells := 0, slots := 0, locals := 23 } [.int v] D o ad cA S0 (fun x S => (x, S) = f_ends v S0) := by
  refine Met.ofW (cc := cX3_ends) (maxL := 2) (ret := (some .int)) (by decide) rfl ?_
  intro p e s m args below meth c s₁ B hml hv
  obtain ⟨rfl, hB⟩ := hv
  have hx := B.exec
  have hb := B.bytes
  have hr := B.returns
  have hts := atoms_spec (ws := wsX3_ends) B.pre
  have hown : s.vm.findClass RX3 = some m.cls := findClass_of_methodNamed B.named
  have hlocks := B.notSynchronized
  have I := m_I.of hB
  have hin : ∀ w ∈ wsX30, w ∈ wsX3_ends := fun _ h => List.mem_cons_of_mem _ (List.mem_append_right _ h)
  have L82 := hts (.fieldLink RX3 82 "TollRulesModel" "steps" "I") (by decide +kernel)
  have L95 := hts (.fieldLink RX3 95 "TollRulesModel" "failure" "I") (by decide +kernel)
  have L98 := hts (.fieldLink RX3 98 "TollRulesModel" "failureAt" "I") (by decide +kernel)
  have L128 := hts (.fieldLink RX3 128 "TollRulesModel" "stepsTold" "I") (by decide +kernel)
  have hl := lv_entry ([.ref o, .int v]) (n := 2) (Nat.le_of_ble_eq_true rfl)
  rw [lg_entry_eq]
  generalize (lg_sl ([.ref o, .int v]) ++ List.replicate (2 - (lg_sl ([.ref o, .int v])).length) Slot.unset).toArray = ls at hl ⊢
  have hl : lv_has ls 2 [(0, .ref o), (1, .int v)] := hl
  refine lv_aload_n hx hb dX3_ends_0 rfl (lv_at hl 0 rfl) ?_
  refine lv_aload_n hx hb dX3_ends_1 rfl (lv_at hl 0 rfl) ?_
  refine m_get18 hx hb hts hin hown I L82 dX3_ends_2 (x := S0.1 18) rfl ?_
  refine m_put19 hx hb hts hin hown I L128 dX3_ends_5 (fun H locs I => ?_)
  refine lv_aload_n hx hb dX3_ends_8 rfl (lv_at hl 0 rfl) ?_
  refine m_get16 hx hb hts hin hown I L95 dX3_ends_9 (x := S0.1 16) rfl ?_
  refine lv_if_le (tgt := 31) hx hb dX3_ends_12 (by decide) (fun c12 => ?_) (fun c12 => ?_)
  · refine lv_iload_n hx hb dX3_ends_31 rfl (lv_at hl 1 rfl) ?_
    exact m_iret hx hb hr hlocks I dX3_ends_32 (by simp [f_ends, c12])
  · refine lv_aload_n hx hb dX3_ends_15 rfl (lv_at hl 0 rfl) ?_
    refine lv_aload_n hx hb dX3_ends_16 rfl (lv_at hl 0 rfl) ?_
    refine m_get16 hx hb hts hin hown I L95 dX3_ends_17 (x := S0.1 16) rfl ?_
    refine lv_aload_n hx hb dX3_ends_20 rfl (lv_at hl 0 rfl) ?_
    refine m_get17 hx hb hts hin hown I L98 dX3_ends_21 (x := S0.1 17) rfl ?_
    refine lv_iconst (v := 0) hx hb dX3_ends_24 (by decide) ?_
    refine m_calli (rest := []) ⟨hx, hb, hml, hown, hts⟩ (c_X3_failed l D o ad cA (sF S0 19 (S0.1 18)) (S0.1 16) (S0.1 17) 0) (cwV 3 hts gX3_ends_X3_failed rfl rfl rfl (by decide +kernel) ⟨Nat.le_of_ble_eq_true rfl, Nat.le_of_ble_eq_true rfl⟩) I rfl hl.1 rfl (Nat.le_of_ble_eq_true rfl) dX3_ends_25 ⟨Nat.le_refl _, Nat.le_refl _⟩ (fun r25 S25 H locs p25 I => ?_)
    refine lv_goto (tgt := 32) hx hb dX3_ends_28 (by decide) ?_
    exact m_iret hx hb hr hlocks I dX3_ends_32 (by rw [p25]; simp [f_ends, c12])

def f_place (p v : Int32) (S : tr_S) : Int64 × tr_S := if 0 ≤ p ∧ p ≤ 7 then ((S.2 0 p.toNatClampNeg).toInt64, sA S 0 p.toNatClampNeg v) else (-9223372036854775808, S)
def f_has (p : Int32) (S : tr_S) : Int64 := if 0 ≤ p ∧ p ≤ 7 then (S.2 0 p.toNatClampNeg).toInt64 else -9223372036854775808
set_option maxHeartbeats 4000000 in
set_option maxRecDepth 100000 in
theorem c_X3_place (l : Launch) (D : va_G) (o : Nat) (ad : Nat → Nat) (cA : ClassId) (S0 : tr_S) (a1 a2 : Int32) : m_Ml l yX3_place wsX3_place { frames := 1, cells := 0, slots := 0, locals := 22 } [.int a1, .int a2] D o ad cA S0 (fun x S => (x, S) = f_place a1 a2 S0) := by
  refine Met.ofW (cc := cX3_place) (maxL := 4) (ret := (some .long)) (by decide) rfl ?_
  intro p e s m args below meth c s₁ B hml hv
  obtain ⟨rfl, hB⟩ := hv
  have hx := B.exec
  have hb := B.bytes
  have hr := B.returns
  have hts := atoms_spec (ws := wsX3_place) B.pre
  have hown : s.vm.findClass RX3 = some m.cls := findClass_of_methodNamed B.named
  have hlocks := B.notSynchronized
  have I := m_I.of hB
  have hin : ∀ w ∈ wsX30, w ∈ wsX3_place := fun _ h => List.mem_cons_of_mem _ (List.mem_append_right _ h)
  have L7 := hts (.fieldLink RX3 7 "TollRulesModel" "places" "[I") (by decide +kernel)
  have hl := lv_entry ([.ref o, .int a1, .int a2]) (n := 4) (Nat.le_of_ble_eq_true rfl)
  rw [lg_entry_eq]
  generalize (lg_sl ([.ref o, .int a1, .int a2]) ++ List.replicate (4 - (lg_sl ([.ref o, .int a1, .int a2])).length) Slot.unset).toArray = ls at hl ⊢
  have hl : lv_has ls 4 [(0, .ref o), (1, .int a1), (2, .int a2)] := hl
  refine lv_iload_n hx hb dX3_place_0 rfl (lv_at hl 1 rfl) ?_
  refine lv_iconst (v := 0) hx hb dX3_place_1 (by decide) ?_
  refine lv_bipush (v := 7) hx hb dX3_place_2 (by decide) ?_
  refine m_in ⟨hx, hb, hml, hown, hts⟩ gX3_place_X3_in ⟨Nat.le_of_ble_eq_true rfl, Nat.le_of_ble_eq_true rfl⟩ ⟨Nat.le_refl _, Nat.le_refl _⟩ hl.1 (Nat.le_of_ble_eq_true rfl) dX3_place_4 (fun h4 => ?_) (fun h4 => ?_)
  · refine lv_if_ne (tgt := 14) hx hb dX3_place_7 (by decide) (fun _ => ?_) (fun h => absurd h (by decide))
    refine lv_aload_n hx hb dX3_place_14 rfl (lv_at hl 0 rfl) ?_
    refine m_get0 hx hb hts hin hown I L7 dX3_place_15 ?_
    refine lv_iload_n hx hb dX3_place_18 rfl (lv_at hl 1 rfl) ?_
    refine m_ald0 hx hb I (ix_of h4 (by decide) (by decide)) dX3_place_19 (x := S0.2 0 a1.toNatClampNeg) rfl ?_
    refine lv_istore_n (lv' := [(3, .int (S0.2 0 a1.toNatClampNeg)), (0, .ref o), (1, .int a1), (2, .int a2)]) hx hb dX3_place_20 rfl hl (by decide) rfl (fun ls hl => ?_)
    refine lv_aload_n hx hb dX3_place_21 rfl (lv_at hl 1 rfl) ?_
    refine m_get0 hx hb hts hin hown I L7 dX3_place_22 ?_
    refine lv_iload_n hx hb dX3_place_25 rfl (lv_at hl 2 rfl) ?_
    refine lv_iload_n hx hb dX3_place_26 rfl (lv_at hl 3 rfl) ?_
    refine m_ast0 hx hb I (ix_of h4 (by decide) (by decide)) dX3_place_27 (fun H locs I => ?_)
    refine lv_iload_n hx hb dX3_place_28 rfl (lv_at hl 0 rfl) ?_
    refine lv_i2l hx hb dX3_place_29 rfl ?_
    exact m_lret hx hb hr hlocks I dX3_place_30 (by simp [f_place, h4])
  · refine lv_if_ne (tgt := 14) hx hb dX3_place_7 (by decide) (fun h => absurd h (by decide)) (fun _ => ?_)
    refine lv_ldc2 hx hb hown (hts (.constantLong RX3 72 (-9223372036854775808)) (by decide +kernel)) dX3_place_10 ?_
    exact m_lret hx hb hr hlocks I dX3_place_13 (by simp [f_place, h4])

set_option maxHeartbeats 4000000 in
set_option maxRecDepth 100000 in
theorem c_X3_has (l : Launch) (D : va_G) (o : Nat) (ad : Nat → Nat) (cA : ClassId) (S0 : tr_S) (a1 : Int32) : m_Ml l yX3_has wsX3_has { frames := 1, cells := 0, slots := 0, locals := 22 } [.int a1] D o ad cA S0 (fun x S => x = f_has a1 S0 ∧ S = S0) := by
  refine Met.ofW (cc := cX3_has) (maxL := 2) (ret := (some .long)) (by decide) rfl ?_
  intro p e s m args below meth c s₁ B hml hv
  obtain ⟨rfl, hB⟩ := hv
  have hx := B.exec
  have hb := B.bytes
  have hr := B.returns
  have hts := atoms_spec (ws := wsX3_has) B.pre
  have hown : s.vm.findClass RX3 = some m.cls := findClass_of_methodNamed B.named
  have hlocks := B.notSynchronized
  have I := m_I.of hB
  have hin : ∀ w ∈ wsX30, w ∈ wsX3_has := fun _ h => List.mem_cons_of_mem _ (List.mem_append_right _ h)
  have L7 := hts (.fieldLink RX3 7 "TollRulesModel" "places" "[I") (by decide +kernel)
  have hl := lv_entry ([.ref o, .int a1]) (n := 2) (Nat.le_of_ble_eq_true rfl)
  rw [lg_entry_eq]
  generalize (lg_sl ([.ref o, .int a1]) ++ List.replicate (2 - (lg_sl ([.ref o, .int a1])).length) Slot.unset).toArray = ls at hl ⊢
  have hl : lv_has ls 2 [(0, .ref o), (1, .int a1)] := hl
  refine lv_iload_n hx hb dX3_has_0 rfl (lv_at hl 1 rfl) ?_
  refine lv_iconst (v := 0) hx hb dX3_has_1 (by decide) ?_
  refine lv_bipush (v := 7) hx hb dX3_has_2 (by decide) ?_
  refine m_in ⟨hx, hb, hml, hown, hts⟩ gX3_has_X3_in ⟨Nat.le_of_ble_eq_true rfl, Nat.le_of_ble_eq_true rfl⟩ ⟨Nat.le_refl _, Nat.le_refl _⟩ hl.1 (Nat.le_of_ble_eq_true rfl) dX3_has_4 (fun h4 => ?_) (fun h4 => ?_)
  · refine lv_if_eq (tgt := 20) hx hb dX3_has_7 (by decide) (fun h => absurd h (by decide)) (fun _ => ?_)
    refine lv_aload_n hx hb dX3_has_10 rfl (lv_at hl 0 rfl) ?_
    refine m_get0 hx hb hts hin hown I L7 dX3_has_11 ?_
    refine lv_iload_n hx hb dX3_has_14 rfl (lv_at hl 1 rfl) ?_
    refine m_ald0 hx hb I (ix_of h4 (by decide) (by decide)) dX3_has_15 (x := S0.2 0 a1.toNatClampNeg) rfl ?_
    refine lv_i2l hx hb dX3_has_16 rfl ?_
    refine lv_goto (tgt := 23) hx hb dX3_has_17 (by decide) ?_
    exact m_lret hx hb hr hlocks I dX3_has_23 (⟨by simp [f_has, h4], rfl⟩)
  · refine lv_if_eq (tgt := 20) hx hb dX3_has_7 (by decide) (fun _ => ?_) (fun h => absurd h (by decide))
    refine lv_ldc2 hx hb hown (hts (.constantLong RX3 72 (-9223372036854775808)) (by decide +kernel)) dX3_has_20 ?_
    exact m_lret hx hb hr hlocks I dX3_has_23 (⟨by simp [f_has, h4], rfl⟩)

