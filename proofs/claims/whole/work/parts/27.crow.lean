theorem va_D1 (q : Nat) (e : va_E) : va_D (fun x => x = q) [(q, e)] := by
  refine ⟨fun i j a b hi hj _ => ?_, fun k x hk => ?_⟩
  · have h1 := (List.getElem?_eq_some_iff.mp hi).1
    have h2 := (List.getElem?_eq_some_iff.mp hj).1
    have h1 : i < 1 := h1
    have h2 : j < 1 := h2
    omega
  · have h1 : k < 1 := (List.getElem?_eq_some_iff.mp hk).1
    rw [show k = 0 by omega] at hk
    cases hk
    rfl
set_option maxHeartbeats 4000000 in
set_option maxRecDepth 100000 in
theorem c_X0_init (l : Launch) (D : va_G) (q : Nat) (b : Nat) : Met l yX0_init wsX0_init { frames := 1, cells := 0, slots := 0, locals := 20 } (va_Pc [.ref q, .ref b] (fun U => va_P D vwCl [(q, .inr (0, [.null]))] U.heap ∧ va_K D vwCl [] U)) (va_Qv (fun _ : Unit => True) (fun _ U => va_P D vwCl [(q, .inr (0, [.ref b]))] U.heap) (fun x => x = q)) 0 0 (fun x => x = q) := by
  refine Met.ofW (cc := cX0_init) (maxL := 2) (ret := none) (by decide) rfl ?_
  intro p e s m args below meth c s₁ B hml hv
  obtain ⟨rfl, hP, hK⟩ := hv
  have hx := B.exec
  have hb := B.bytes
  have hr := B.returns
  have hts := atoms_spec (ws := wsX0_init) B.pre
  have hown : s.vm.findClass RX0 = some m.cls := findClass_of_methodNamed B.named
  have hlocks := B.notSynchronized
  have hin : meth.name = "<init>" := (name_of_methodNamed B.named B.method).1
  have hinw : ∀ w ∈ wsX00, w ∈ wsX0_init := fun _ h => List.mem_cons_of_mem _ (List.mem_append_right _ h)
  have hS : va_S (fun x => x = q) s.heap s.heap [] := va_S.rf
  have hD := va_D1 q (.inr (0, [.null]))
  have hl := lv_entry ([.ref q, .ref b]) (n := 2) (Nat.le_of_ble_eq_true rfl)
  rw [lg_entry_eq]
  generalize (lg_sl ([.ref q, .ref b]) ++ List.replicate (2 - (lg_sl ([.ref q, .ref b])).length) Slot.unset).toArray = ls at hl ⊢
  have hl : lv_has ls 2 [(0, .ref q), (1, .ref b)] := hl
  refine lv_aload_n hx hb dX0_init_0 rfl (lv_at hl 0 rfl) ?_
  refine W.objInit hx hb hown (hts (.methodLink RX0 1 objectInit) (by decide +kernel)) (hts (.instanceMethod objectInit) (by decide +kernel)) (hts _ (List.mem_cons_of_mem _ (List.mem_append_left _ (List.mem_of_getElem? (i := 2) rfl)))) rfl (by rw [hml]; exact hl.1) rfl dX0_init_1 (Nat.le_of_ble_eq_true rfl) (Nat.le_of_ble_eq_true rfl) ?_
  refine W.eq (g2 := F0 m 4 ls []) rfl ?_
  refine lv_aload_n hx hb dX0_init_4 rfl (lv_at hl 0 rfl) ?_
  refine lv_aload_n hx hb dX0_init_5 rfl (lv_at hl 1 rfl) ?_
  refine va_putF (D := D) (ci := 0) (v := .ref b) (ty := .array .int) (C := RX0) (T := TX0) (N := 1) hx hb hts hinw tyX0 tyX0_ok nmX0 hown hK hP hD hS 0 rfl rfl 0 (by decide) (hts (.fieldLink RX0 7 "TollRules$Row" "items" "[I") (by decide +kernel)) (fun _ h9 => h9) rfl hin rfl (by decide +kernel) rfl rfl (Nat.le_of_ble_eq_true rfl) dX0_init_6 (fun H locs hP hD hS => ?_)
  have hP : va_P D vwCl [(q, .inr (0, [.ref b]))] H := hP
  have hD : va_D (fun x => x = q) [(q, .inr (0, [.ref b]))] := hD
  exact W.vret hx hb hr (fun t ht hW => ⟨⟨(), rfl, trivial, (by show va_P D vwCl _ t.heap; rw [ht]; exact hP)⟩, hS.F ht⟩) hS.2.2 dX0_init_9 hlocks

set_option maxHeartbeats 4000000 in
set_option maxRecDepth 100000 in
theorem c_X1_init_n (l : Launch) (D : va_G) (q : Nat) (k a b v : Int32)  : Met l yX1_init wsX1_init { frames := 1, cells := 0, slots := 0, locals := 20 } (va_Pc [.ref q, .int k, .int a, .int b, .int v, .null] (fun U => va_P D vwCl [(q, .inr (1, [.int 0, .int 0, .int 0, .int 0, .null, .int 0]))] U.heap ∧ va_K D vwCl [] U)) (va_Qv (fun _ : Unit => True) (fun _ U => va_P D vwCl [(q, .inr (1, [.int k, .int a, .int b, .int v, .null, .int 0]))] U.heap) (fun x => x = q)) 0 0 (fun x => x = q) := by
  refine Met.ofW (cc := cX1_init) (maxL := 6) (ret := none) (by decide) rfl ?_
  intro p e s m args below meth c s₁ B hml hv
  obtain ⟨rfl, hP, hK⟩ := hv
  have hx := B.exec
  have hb := B.bytes
  have hr := B.returns
  have hts := atoms_spec (ws := wsX1_init) B.pre
  have hown : s.vm.findClass RX1 = some m.cls := findClass_of_methodNamed B.named
  have hlocks := B.notSynchronized
  have hin : meth.name = "<init>" := (name_of_methodNamed B.named B.method).1
  have hinw : ∀ w ∈ wsX10, w ∈ wsX1_init := fun _ h => List.mem_cons_of_mem _ (List.mem_append_right _ h)
  have hS : va_S (fun x => x = q) s.heap s.heap [] := va_S.rf
  have hD := va_D1 q (.inr (1, [.int 0, .int 0, .int 0, .int 0, .null, .int 0]))
  have hl := lv_entry ([.ref q, .int k, .int a, .int b, .int v, .null]) (n := 6) (Nat.le_of_ble_eq_true rfl)
  rw [lg_entry_eq]
  generalize (lg_sl ([.ref q, .int k, .int a, .int b, .int v, .null]) ++ List.replicate (6 - (lg_sl ([.ref q, .int k, .int a, .int b, .int v, .null])).length) Slot.unset).toArray = ls at hl ⊢
  have hl : lv_has ls 6 [(0, .ref q), (1, .int k), (2, .int a), (3, .int b), (4, .int v), (5, .null)] := hl
  refine lv_aload_n hx hb dX1_init_0 rfl (lv_at hl 0 rfl) ?_
  refine W.objInit hx hb hown (hts (.methodLink RX1 1 objectInit) (by decide +kernel)) (hts (.instanceMethod objectInit) (by decide +kernel)) (hts _ (List.mem_cons_of_mem _ (List.mem_append_left _ (List.mem_of_getElem? (i := 2) rfl)))) rfl (by rw [hml]; exact hl.1) rfl dX1_init_1 (Nat.le_of_ble_eq_true rfl) (Nat.le_of_ble_eq_true rfl) ?_
  refine W.eq (g2 := F0 m 4 ls []) rfl ?_
  refine lv_aload_n hx hb dX1_init_4 rfl (lv_at hl 0 rfl) ?_
  refine lv_iload_n hx hb dX1_init_5 rfl (lv_at hl 1 rfl) ?_
  refine va_putF (D := D) (ci := 1) (v := .int k) (ty := .int) (C := RX1) (T := TX1) (N := 6) hx hb hts hinw tyX1 tyX1_ok nmX1 hown hK hP hD hS 0 rfl rfl 0 (by decide) (hts (.fieldLink RX1 7 "TollRules$Rule" "kind" "I") (by decide +kernel)) (fun _ h9 => h9) rfl hin rfl (by decide +kernel) rfl rfl (Nat.le_of_ble_eq_true rfl) dX1_init_6 (fun H locs hP hD hS => ?_)
  have hP : va_P D vwCl [(q, .inr (1, [.int k, .int 0, .int 0, .int 0, .null, .int 0]))] H := hP
  have hD : va_D (fun x => x = q) [(q, .inr (1, [.int k, .int 0, .int 0, .int 0, .null, .int 0]))] := hD
  refine lv_aload_n hx hb dX1_init_9 rfl (lv_at hl 0 rfl) ?_
  refine lv_iload_n hx hb dX1_init_10 rfl (lv_at hl 2 rfl) ?_
  refine va_putF (D := D) (ci := 1) (v := .int a) (ty := .int) (C := RX1) (T := TX1) (N := 6) hx hb hts hinw tyX1 tyX1_ok nmX1 hown hK hP hD hS 0 rfl rfl 1 (by decide) (hts (.fieldLink RX1 13 "TollRules$Rule" "a" "I") (by decide +kernel)) (fun _ h9 => h9) rfl hin rfl (by decide +kernel) rfl rfl (Nat.le_of_ble_eq_true rfl) dX1_init_11 (fun H locs hP hD hS => ?_)
  have hP : va_P D vwCl [(q, .inr (1, [.int k, .int a, .int 0, .int 0, .null, .int 0]))] H := hP
  have hD : va_D (fun x => x = q) [(q, .inr (1, [.int k, .int a, .int 0, .int 0, .null, .int 0]))] := hD
  refine lv_aload_n hx hb dX1_init_14 rfl (lv_at hl 0 rfl) ?_
  refine lv_iload_n hx hb dX1_init_15 rfl (lv_at hl 3 rfl) ?_
  refine va_putF (D := D) (ci := 1) (v := .int b) (ty := .int) (C := RX1) (T := TX1) (N := 6) hx hb hts hinw tyX1 tyX1_ok nmX1 hown hK hP hD hS 0 rfl rfl 2 (by decide) (hts (.fieldLink RX1 16 "TollRules$Rule" "b" "I") (by decide +kernel)) (fun _ h9 => h9) rfl hin rfl (by decide +kernel) rfl rfl (Nat.le_of_ble_eq_true rfl) dX1_init_16 (fun H locs hP hD hS => ?_)
  have hP : va_P D vwCl [(q, .inr (1, [.int k, .int a, .int b, .int 0, .null, .int 0]))] H := hP
  have hD : va_D (fun x => x = q) [(q, .inr (1, [.int k, .int a, .int b, .int 0, .null, .int 0]))] := hD
  refine lv_aload_n hx hb dX1_init_19 rfl (lv_at hl 0 rfl) ?_
  refine lv_iload hx hb dX1_init_20 (lv_at hl 4 rfl) ?_
  refine va_putF (D := D) (ci := 1) (v := .int v) (ty := .int) (C := RX1) (T := TX1) (N := 6) hx hb hts hinw tyX1 tyX1_ok nmX1 hown hK hP hD hS 0 rfl rfl 3 (by decide) (hts (.fieldLink RX1 19 "TollRules$Rule" "kept" "I") (by decide +kernel)) (fun _ h9 => h9) rfl hin rfl (by decide +kernel) rfl rfl (Nat.le_of_ble_eq_true rfl) dX1_init_22 (fun H locs hP hD hS => ?_)
  have hP : va_P D vwCl [(q, .inr (1, [.int k, .int a, .int b, .int v, .null, .int 0]))] H := hP
  have hD : va_D (fun x => x = q) [(q, .inr (1, [.int k, .int a, .int b, .int v, .null, .int 0]))] := hD
  refine lv_aload_n hx hb dX1_init_25 rfl (lv_at hl 0 rfl) ?_
  refine lv_aloadN hx hb dX1_init_26 (lv_at hl 5 rfl) ?_
  refine va_putF (D := D) (ci := 1) (v := .null) (ty := .object "TollRules$Row") (C := RX1) (T := TX1) (N := 6) hx hb hts hinw tyX1 tyX1_ok nmX1 hown hK hP hD hS 0 rfl rfl 4 (by decide) (hts (.fieldLink RX1 22 "TollRules$Rule" "keptRow" "LTollRules$Row;") (by decide +kernel)) (fun _ h9 => h9) rfl hin rfl (by decide +kernel) rfl rfl (Nat.le_of_ble_eq_true rfl) dX1_init_28 (fun H locs hP hD hS => ?_)
  have hP : va_P D vwCl [(q, .inr (1, [.int k, .int a, .int b, .int v, .null, .int 0]))] H := hP
  have hD : va_D (fun x => x = q) [(q, .inr (1, [.int k, .int a, .int b, .int v, .null, .int 0]))] := hD
  refine lv_aload_n hx hb dX1_init_31 rfl (lv_at hl 0 rfl) ?_
  refine lv_iconst (v := 0) hx hb dX1_init_32 (by decide) ?_
  refine va_put (D := D) (ci := 1) (v := .int 0) (ty := .int) (C := RX1) (T := TX1) (N := 6) hx hb hts hinw tyX1 tyX1_ok nmX1 hown hK hP hD hS 0 rfl rfl 5 (by decide) (hts (.fieldLink RX1 26 "TollRules$Rule" "own" "I") (by decide +kernel)) (fun _ h9 => h9) rfl (by decide +kernel) rfl rfl (Nat.le_of_ble_eq_true rfl) dX1_init_33 (fun H locs hP hD hS => ?_)
  have hP : va_P D vwCl [(q, .inr (1, [.int k, .int a, .int b, .int v, .null, .int 0]))] H := hP
  have hD : va_D (fun x => x = q) [(q, .inr (1, [.int k, .int a, .int b, .int v, .null, .int 0]))] := hD
  exact W.vret hx hb hr (fun t ht hW => ⟨⟨(), rfl, trivial, (by show va_P D vwCl _ t.heap; rw [ht]; exact hP)⟩, hS.F ht⟩) hS.2.2 dX1_init_36 hlocks

set_option maxHeartbeats 4000000 in
set_option maxRecDepth 100000 in
theorem c_X1_init_r (l : Launch) (D : va_G) (q : Nat) (k a b v : Int32) (b5 : Nat) : Met l yX1_init wsX1_init { frames := 1, cells := 0, slots := 0, locals := 20 } (va_Pc [.ref q, .int k, .int a, .int b, .int v, .ref b5] (fun U => va_P D vwCl [(q, .inr (1, [.int 0, .int 0, .int 0, .int 0, .null, .int 0]))] U.heap ∧ va_K D vwCl [] U)) (va_Qv (fun _ : Unit => True) (fun _ U => va_P D vwCl [(q, .inr (1, [.int k, .int a, .int b, .int v, .ref b5, .int 0]))] U.heap) (fun x => x = q)) 0 0 (fun x => x = q) := by
  refine Met.ofW (cc := cX1_init) (maxL := 6) (ret := none) (by decide) rfl ?_
  intro p e s m args below meth c s₁ B hml hv
  obtain ⟨rfl, hP, hK⟩ := hv
  have hx := B.exec
  have hb := B.bytes
  have hr := B.returns
  have hts := atoms_spec (ws := wsX1_init) B.pre
  have hown : s.vm.findClass RX1 = some m.cls := findClass_of_methodNamed B.named
  have hlocks := B.notSynchronized
  have hin : meth.name = "<init>" := (name_of_methodNamed B.named B.method).1
  have hinw : ∀ w ∈ wsX10, w ∈ wsX1_init := fun _ h => List.mem_cons_of_mem _ (List.mem_append_right _ h)
  have hS : va_S (fun x => x = q) s.heap s.heap [] := va_S.rf
  have hD := va_D1 q (.inr (1, [.int 0, .int 0, .int 0, .int 0, .null, .int 0]))
  have hl := lv_entry ([.ref q, .int k, .int a, .int b, .int v, .ref b5]) (n := 6) (Nat.le_of_ble_eq_true rfl)
  rw [lg_entry_eq]
  generalize (lg_sl ([.ref q, .int k, .int a, .int b, .int v, .ref b5]) ++ List.replicate (6 - (lg_sl ([.ref q, .int k, .int a, .int b, .int v, .ref b5])).length) Slot.unset).toArray = ls at hl ⊢
  have hl : lv_has ls 6 [(0, .ref q), (1, .int k), (2, .int a), (3, .int b), (4, .int v), (5, .ref b5)] := hl
  refine lv_aload_n hx hb dX1_init_0 rfl (lv_at hl 0 rfl) ?_
  refine W.objInit hx hb hown (hts (.methodLink RX1 1 objectInit) (by decide +kernel)) (hts (.instanceMethod objectInit) (by decide +kernel)) (hts _ (List.mem_cons_of_mem _ (List.mem_append_left _ (List.mem_of_getElem? (i := 2) rfl)))) rfl (by rw [hml]; exact hl.1) rfl dX1_init_1 (Nat.le_of_ble_eq_true rfl) (Nat.le_of_ble_eq_true rfl) ?_
  refine W.eq (g2 := F0 m 4 ls []) rfl ?_
  refine lv_aload_n hx hb dX1_init_4 rfl (lv_at hl 0 rfl) ?_
  refine lv_iload_n hx hb dX1_init_5 rfl (lv_at hl 1 rfl) ?_
  refine va_putF (D := D) (ci := 1) (v := .int k) (ty := .int) (C := RX1) (T := TX1) (N := 6) hx hb hts hinw tyX1 tyX1_ok nmX1 hown hK hP hD hS 0 rfl rfl 0 (by decide) (hts (.fieldLink RX1 7 "TollRules$Rule" "kind" "I") (by decide +kernel)) (fun _ h9 => h9) rfl hin rfl (by decide +kernel) rfl rfl (Nat.le_of_ble_eq_true rfl) dX1_init_6 (fun H locs hP hD hS => ?_)
  have hP : va_P D vwCl [(q, .inr (1, [.int k, .int 0, .int 0, .int 0, .null, .int 0]))] H := hP
  have hD : va_D (fun x => x = q) [(q, .inr (1, [.int k, .int 0, .int 0, .int 0, .null, .int 0]))] := hD
  refine lv_aload_n hx hb dX1_init_9 rfl (lv_at hl 0 rfl) ?_
  refine lv_iload_n hx hb dX1_init_10 rfl (lv_at hl 2 rfl) ?_
  refine va_putF (D := D) (ci := 1) (v := .int a) (ty := .int) (C := RX1) (T := TX1) (N := 6) hx hb hts hinw tyX1 tyX1_ok nmX1 hown hK hP hD hS 0 rfl rfl 1 (by decide) (hts (.fieldLink RX1 13 "TollRules$Rule" "a" "I") (by decide +kernel)) (fun _ h9 => h9) rfl hin rfl (by decide +kernel) rfl rfl (Nat.le_of_ble_eq_true rfl) dX1_init_11 (fun H locs hP hD hS => ?_)
  have hP : va_P D vwCl [(q, .inr (1, [.int k, .int a, .int 0, .int 0, .null, .int 0]))] H := hP
  have hD : va_D (fun x => x = q) [(q, .inr (1, [.int k, .int a, .int 0, .int 0, .null, .int 0]))] := hD
  refine lv_aload_n hx hb dX1_init_14 rfl (lv_at hl 0 rfl) ?_
  refine lv_iload_n hx hb dX1_init_15 rfl (lv_at hl 3 rfl) ?_
  refine va_putF (D := D) (ci := 1) (v := .int b) (ty := .int) (C := RX1) (T := TX1) (N := 6) hx hb hts hinw tyX1 tyX1_ok nmX1 hown hK hP hD hS 0 rfl rfl 2 (by decide) (hts (.fieldLink RX1 16 "TollRules$Rule" "b" "I") (by decide +kernel)) (fun _ h9 => h9) rfl hin rfl (by decide +kernel) rfl rfl (Nat.le_of_ble_eq_true rfl) dX1_init_16 (fun H locs hP hD hS => ?_)
  have hP : va_P D vwCl [(q, .inr (1, [.int k, .int a, .int b, .int 0, .null, .int 0]))] H := hP
  have hD : va_D (fun x => x = q) [(q, .inr (1, [.int k, .int a, .int b, .int 0, .null, .int 0]))] := hD
  refine lv_aload_n hx hb dX1_init_19 rfl (lv_at hl 0 rfl) ?_
  refine lv_iload hx hb dX1_init_20 (lv_at hl 4 rfl) ?_
  refine va_putF (D := D) (ci := 1) (v := .int v) (ty := .int) (C := RX1) (T := TX1) (N := 6) hx hb hts hinw tyX1 tyX1_ok nmX1 hown hK hP hD hS 0 rfl rfl 3 (by decide) (hts (.fieldLink RX1 19 "TollRules$Rule" "kept" "I") (by decide +kernel)) (fun _ h9 => h9) rfl hin rfl (by decide +kernel) rfl rfl (Nat.le_of_ble_eq_true rfl) dX1_init_22 (fun H locs hP hD hS => ?_)
  have hP : va_P D vwCl [(q, .inr (1, [.int k, .int a, .int b, .int v, .null, .int 0]))] H := hP
  have hD : va_D (fun x => x = q) [(q, .inr (1, [.int k, .int a, .int b, .int v, .null, .int 0]))] := hD
  refine lv_aload_n hx hb dX1_init_25 rfl (lv_at hl 0 rfl) ?_
  refine lv_aload hx hb dX1_init_26 (lv_at hl 5 rfl) ?_
  refine va_putF (D := D) (ci := 1) (v := .ref b5) (ty := .object "TollRules$Row") (C := RX1) (T := TX1) (N := 6) hx hb hts hinw tyX1 tyX1_ok nmX1 hown hK hP hD hS 0 rfl rfl 4 (by decide) (hts (.fieldLink RX1 22 "TollRules$Rule" "keptRow" "LTollRules$Row;") (by decide +kernel)) (fun _ h9 => h9) rfl hin rfl (by decide +kernel) rfl rfl (Nat.le_of_ble_eq_true rfl) dX1_init_28 (fun H locs hP hD hS => ?_)
  have hP : va_P D vwCl [(q, .inr (1, [.int k, .int a, .int b, .int v, .ref b5, .int 0]))] H := hP
  have hD : va_D (fun x => x = q) [(q, .inr (1, [.int k, .int a, .int b, .int v, .ref b5, .int 0]))] := hD
  refine lv_aload_n hx hb dX1_init_31 rfl (lv_at hl 0 rfl) ?_
  refine lv_iconst (v := 0) hx hb dX1_init_32 (by decide) ?_
  refine va_put (D := D) (ci := 1) (v := .int 0) (ty := .int) (C := RX1) (T := TX1) (N := 6) hx hb hts hinw tyX1 tyX1_ok nmX1 hown hK hP hD hS 0 rfl rfl 5 (by decide) (hts (.fieldLink RX1 26 "TollRules$Rule" "own" "I") (by decide +kernel)) (fun _ h9 => h9) rfl (by decide +kernel) rfl rfl (Nat.le_of_ble_eq_true rfl) dX1_init_33 (fun H locs hP hD hS => ?_)
  have hP : va_P D vwCl [(q, .inr (1, [.int k, .int a, .int b, .int v, .ref b5, .int 0]))] H := hP
  have hD : va_D (fun x => x = q) [(q, .inr (1, [.int k, .int a, .int b, .int v, .ref b5, .int 0]))] := hD
  exact W.vret hx hb hr (fun t ht hW => ⟨⟨(), rfl, trivial, (by show va_P D vwCl _ t.heap; rw [ht]; exact hP)⟩, hS.F ht⟩) hS.2.2 dX1_init_36 hlocks

/-- behind a method that makes: other addresses -/
def c_E2 (D : va_G) (o : Nat) (ap : Nat → Nat) (cA cR cU : ClassId) (A : Nat → Prop) (u : tr_S × tr_Z) (U : State) : Prop := ∃ (ρ σ ra : Nat → Nat) (L : List Nat) (f : Nat → va_E), c_B D o ap cA cR cU A ρ σ ra L f u.1 u.2 U
abbrev c_Ma (l : Launch) (y : MethodName) (ws : List Cond) (rm : Room) (av : List Value) (D : va_G) (o : Nat) (ap : Nat → Nat) (cA cR cU : ClassId) (A : Nat → Prop) (ρ σ ra : Nat → Nat) (L : List Nat) (f : Nat → va_E) (S : tr_S) (z : tr_Z) (mc ms : Nat) (post : Int32 → tr_S × tr_Z → Prop) : Prop := Met l y ws rm (va_Pc (.ref o :: av) (fun U => c_B D o ap cA cR cU A ρ σ ra L f S z U ∧ ∀ q, U.heap.size ≤ q → A q)) (va_Qi post (c_E2 D o ap cA cR cU A) A) mc ms A
section CS27
variable {p : Program} {l : Launch} {e : Env} {R : Room} {s : State} {m : MethodId} {args : Array Value} {below : List Frame} {meth : Method} {c : Code} {H H0 : Heap} {locs : List Loc} {cells slots : Nat} {Q : State → Prop}
variable {cc : ByteArray} {pc : Nat} {ls : Array Slot} {rest st0 : List Value} {Ts : List Cond} {index nL : Nat} {own : String}
variable {D : va_G} {o : Nat} {ap : Nat → Nat} {cA cR cU : ClassId} {A : Nat → Prop} {ρ σ ra : Nat → Nat} {L : List Nat} {f : Nat → va_E} {S : tr_S} {z : tr_Z}
theorem c_iret2 (hx : p.tables.exec = Jvm.exec) (hb : c.code = cc) (hr : meth.sig.returnType = some .int) (hlocks : meth.locks = false) (I : c_I D o ap cA cR cU A ρ σ ra L f S z s s.heap H locs) {post : Int32 → tr_S × tr_Z → Prop} {v : Int32} (hdg : decode cc pc = .ok (.ireturn, 1)) (hp : post v (S, z)) :
    W p l e R s m args below meth c H locs cells slots (MQ below (va_Qi post (c_E2 D o ap cA cR cU A) A) args s cells slots A) (F0 m pc ls [.int v]) :=
  W.iret hx hb hr (fun t ht hW => ⟨⟨v, (S, z), rfl, hp, ρ, σ, ra, L, f, I.to ht hW⟩, I.2.2.2.1.F ht⟩) I.2.2.2.1.2.2 hdg hlocks
theorem c_push {q : Nat} {e0 : va_E} (hD : va_D A (c_W o ap cA cR cU ρ ra L f S z ++ [(q, e0)])) : q ∉ L ∧ c_W o ap cA cR cU ρ ra L f S z ++ [(q, e0)] = c_W o ap cA cR cU ρ ra (L ++ [q]) (va_up f q e0) S z := by
  have h : q ∉ L := va_pl_fresh2 (X := c_X o ap cA cR cU ρ ra S z) (L := L) (f := f) hD
  refine ⟨h, ?_⟩
  unfold c_W
  rw [List.append_assoc, va_pl_push h]
theorem c_same {cB : ClassId} {tys : List (ClassId × FieldType)} (hK : va_K D vwCl (tys ++ [(cB, .int)]) s) (hA : va_K D vwCl ((cA, .int) :: tys) s) : cB = cA := by
  have w1 := va_nm_int (hK.2 tys.length (cB, .int) (by simp)).2
  have w2 := va_nm_int (hA.2 0 _ rfl).2
  exact Option.some.inj (w1.symm.trans w2)
/-- a call of a constructor on an object of the world -/
theorem c_initW {y : MethodName} {bytes : ByteArray} {maxL n : Nat} {ws : List Cond} {rm : Room} {av : List Value} {wd : va_W} {tys : List (ClassId × FieldType)} {k q : Nat} {e0 e1 : va_E} (X : CallFix p m c cc nL s args Ts own) (hM : Met l y ws rm (va_Pc (.ref q :: av) (fun U => va_P D vwCl [(q, e0)] U.heap ∧ va_K D vwCl [] U)) (va_Qv (fun _ : Unit => True) (fun _ U => va_P D vwCl [(q, e1)] U.heap) (fun x => x = q)) 0 0 (fun x => x = q)) (cw : CallB R s args own index y bytes maxL none ws rm 0 0 n ∧ y.name = "<init>" ∧ (Cond.instanceMethod y).before args s = true) (hK : va_K D vwCl tys s) (hP : va_P D vwCl wd H) (hD : va_D A wd) (hS : va_S A H0 H locs) (hk : wd[k]? = some (q, e0)) (hn : av.length = n) (hsize : ls.size = nL) (hst : st0 = av.reverse ++ .ref q :: rest) (hroom : (rest.map fun v => v.category).sum ≤ 8) (hdg : decode cc pc = .ok (.invokespecial index, 3)) (hf : cells ≤ R.cells ∧ slots ≤ R.slots)
    (kk : ∀ (H1 : Heap) (locs1 : List Loc), va_P D vwCl (wd.set k (q, e1)) H1 → va_D A (wd.set k (q, e1)) → va_S A H0 H1 locs1 → W p l e R s m args below meth c H1 locs1 cells slots Q (F0 m (pc + 3) ls rest)) : W p l e R s m args below meth c H locs cells slots Q (F0 m pc ls st0) := by
  have hPc : va_P D vwCl [(q, e0)] H := hP.sub [k] (by simp [hk])
  have hKc := hK.sub (tys' := []) [] rfl
  have hAq : A q := hD.2 k _ hk
  refine va_callv (va_runI (As := av) (rest := rest) X hM cw ⟨fun a U g mk w => by obtain ⟨w0, w1, w2⟩ := w; exact ⟨w0, w1, va_K.moved (u := U) (U := U.calling g mk a) (Vm.Alike.refl U.vm) w2⟩, fun U hU hW => ⟨rfl, by rw [hU]; exact hPc, va_K.moved hW.alike hKc⟩⟩ rfl hn hsize hst (lv_room hroom) hdg hf) hS (fun x _ h => by rw [h]; exact hAq) (fun x h => by rw [h]; exact hAq) (fun u t H1 locs1 ht hvm hp hB hz hk1 hS => ?_)
  have hB : va_P D vwCl [(q, e1)] t.heap := hB
  rw [ht] at hB
  refine kk H1 locs1 (fun j x hj => ?_) (hD.set hk) hS
  by_cases e9 : j = k
  · subst e9
    rw [List.getElem?_set_self ((List.getElem?_eq_some_iff.mp hk).1)] at hj
    cases hj
    exact hB 0 _ rfl
  · rw [List.getElem?_set_ne (fun w => e9 w.symm)] at hj
    exact (hP j x hj).kept (hk1 x.1 (hP j x hj).lt (fun w => e9 (hD.1 j k _ _ hj hk w)))
theorem c_ref_up {kn q1 : Nat} {a : Int32} (h : ¬ a = nI kn) : c_ref (va_up ρ kn q1) a = c_ref ρ a := by
  unfold c_ref
  by_cases c : a < 0
  · rw [if_pos c, if_pos c]
  · rw [if_neg c, if_neg c, va_up_ne]
    intro w
    have ha : a = nI a.toNatClampNeg := (Int32.toInt_inj.mp (by
      have h0 := Int32.le_iff_toInt_le.mp (Int32.not_lt.mp c)
      have e0 : (0 : Int32).toInt = 0 := rfl
      have h1 : a.toInt < 2 ^ 31 := Int32.toInt_lt a
      have h2 : a.toNatClampNeg = a.toInt.toNat := rfl
      rw [nI_toInt (by omega)]
      omega))
    exact h (by rw [← w]; exact ha)
/-- a state with a row more -/
def n_row (S S2 : tr_S) (kn r : Nat) : Prop := S2.1 = S.1 ∧ (∀ k, k ≠ 1 → k ≠ 2 → k ≠ 3 → S2.2 k = S.2 k) ∧ S2.2 1 = upd (S.2 1) r (nI kn) ∧ (∀ j, j ≠ kn → S2.2 2 j = S.2 2 j) ∧ ∀ j i, j ≠ kn → i < 10 → S2.2 3 (10 * j + i) = S.2 3 (10 * j + i)
theorem c_new_done {S2 : tr_S} {kn r q1 q2 : Nat} (hn : n_row S S2 kn r) (hr : r < 4) (hkn : kn < 48) (hno : ¬ c_held S kn) (hG : c_G cA ρ σ ra L f S) (h1 : q1 ∉ L) (h2 : q2 ∉ L) (h12 : q1 ≠ q2) {f3 : Nat → va_E} (ef : ∀ x, x ≠ q1 → x ≠ q2 → f3 x = f x) (e1 : f3 q1 = .inr (0, [.ref q2])) (e2 : f3 q2 = c_row cA S2 kn) :
    c_rows (va_up ρ kn q1) S2 = va_up (c_rows ρ S) r (some q1) ∧ c_G cA (va_up ρ kn q1) (va_up σ kn q2) ra (L ++ [q1] ++ [q2]) f3 S2 := by
  obtain ⟨n1, n2, n3, n4, n5⟩ := hn
  have hr1 : ∀ j, j < 4 → ¬ S.2 1 j = nI kn := fun j hj w => hno ⟨hkn, Or.inl ⟨j, hj, w⟩⟩
  have hr9 : ∀ k, k < (S.1 4).toNatClampNeg → ¬ S.2 9 k = nI kn := fun k hk w => hno ⟨hkn, Or.inr ⟨k, hk, w⟩⟩
  have hne : ∀ x, x ∈ L → f3 x = f x := fun x hx => ef x (fun w => h1 (w ▸ hx)) (fun w => h2 (w ▸ hx))
  have inL : ∀ x, x ∈ L → x ∈ L ++ [q1] ++ [q2] := fun x hx => List.mem_append_left _ (List.mem_append_left _ hx)
  have hu : ∀ k, k < (S.1 4).toNatClampNeg → c_rule (va_up ρ kn q1) S2 k = c_rule ρ S k := by
    intro k hk
    unfold c_rule
    rw [n2 5 (by decide) (by decide) (by decide), n2 6 (by decide) (by decide) (by decide), n2 7 (by decide) (by decide) (by decide), n2 8 (by decide) (by decide) (by decide), n2 9 (by decide) (by decide) (by decide), n2 10 (by decide) (by decide) (by decide), c_ref_up (hr9 k hk)]
  have hrow : ∀ q, q ≠ kn → c_row cA S2 q = c_row cA S q := by
    intro q hq
    unfold c_row
    rw [n4 q hq]
    congr 4
    funext i
    unfold c_items
    by_cases c : i < 10
    · rw [if_pos c, if_pos c, n5 q i hq c]
    · rw [if_neg c, if_neg c]
  have held : ∀ q, q ≠ kn → c_held S2 q → c_held S q := by
    rintro q hq ⟨h48, ⟨j, hj, w⟩ | w⟩
    · rw [n3] at w
      unfold upd at w
      by_cases c : j = r
      · rw [if_pos c] at w
        exact absurd ((nI_eq (by omega) (by omega)).mp w).symm hq
      · rw [if_neg c] at w
        exact ⟨h48, Or.inl ⟨j, hj, w⟩⟩
    · rw [n1, n2 9 (by decide) (by decide) (by decide)] at w
      exact ⟨h48, Or.inr w⟩
  refine ⟨?_, fun k hk => ?_, fun q hq => ?_, ?_, fun i j hi hj w => ?_⟩
  · funext j
    unfold c_rows
    rw [n3]
    by_cases c : j = r
    · rw [c, if_pos hr, va_up_self]
      unfold upd
      rw [if_pos rfl]
      unfold c_ref
      rw [if_neg (nI_pos (by omega)), nI_clamp (by omega), va_up_self]
    · rw [va_up_ne _ _ c]
      unfold upd
      rw [if_neg c]
      by_cases c4 : j < 4
      · rw [if_pos c4, if_pos c4, c_ref_up (hr1 j c4)]
      · rw [if_neg c4, if_neg c4]
  · rw [n1] at hk
    rw [hu k hk]
    exact ⟨inL _ (hG.1 k hk).1, (hne _ (hG.1 k hk).1).trans (hG.1 k hk).2⟩
  · by_cases c : q = kn
    · rw [c, va_up_self, va_up_self]
      exact ⟨by simp, e1, by simp, e2⟩
    · rw [va_up_ne _ _ c, va_up_ne _ _ c, hrow q c]
      obtain ⟨a1, a2, a3, a4⟩ := hG.2.1 q (held q c hq)
      exact ⟨inL _ a1, (hne _ a1).trans a2, inL _ a3, (hne _ a3).trans a4⟩
  · rw [n1]; exact hG.2.2.1
  · by_cases ci : i = kn
    · by_cases cj : j = kn
      · rw [ci, cj]
      · rw [ci, va_up_self, va_up_ne _ _ cj] at w
        exact absurd (hG.2.1 j (held j cj hj)).2.2.1 (by rw [← w]; exact h2)
    · by_cases cj : j = kn
      · rw [cj, va_up_self, va_up_ne _ _ ci] at w
        exact absurd (hG.2.1 i (held i ci hi)).2.2.1 (by rw [w]; exact h2)
      · rw [va_up_ne _ _ ci, va_up_ne _ _ cj] at w
        exact hG.2.2.2 i j (held i ci hi) (held j cj hj) w
theorem c_W_new {S2 : tr_S} {kn r q1 : Nat} {g : Nat → va_E} {L2 : List Nat} (hn : n_row S S2 kn r) (hrows : c_rows (va_up ρ kn q1) S2 = va_up (c_rows ρ S) r (some q1)) : (c_W o ap cA cR cU ρ ra L2 g S z).set 2 (ap 1, .inl (cR, 4, .inr (.inr (.inr (.inr (va_up (c_rows ρ S) r (some q1))))))) = c_W o ap cA cR cU (va_up ρ kn q1) ra L2 g S2 z := by
  have e4 : c_rules ra S2 = c_rules ra S := by unfold c_rules; rw [hn.1]
  have e5 : c_F ap S2 z = c_F ap S z := by unfold c_F; rw [hn.1]
  unfold c_W c_X
  rw [hrows, e4, e5, hn.2.1 0 (by decide) (by decide) (by decide)]
  rfl
/-- invokespecial Row(int[]), aastore: a row more -/
theorem c_row_new {S2 : tr_S} {kn q1 q2 n : Nat} {i : Int32} {g : Nat → Int32} {maxL : Nat} (X : CallFix p m c cc nL s args Ts own) (cw : CallB R s args own index yX0_init cX0_init maxL none wsX0_init { frames := 1, cells := 0, slots := 0, locals := 20 } 0 0 1 ∧ yX0_init.name = "<init>" ∧ (Cond.instanceMethod yX0_init).before args s = true) (hi : vp_in i 4) (hn : n_row S S2 kn i.toNatClampNeg) (hkn : kn < 48) (hno : ¬ c_held S kn) (hg : c_row cA S2 kn = .inl (cA, n, .inl g)) (hK : va_K D vwCl (c_T cA cR cU) s) (hP : va_P D vwCl (c_W o ap cA cR cU ρ ra L f S z ++ [(q1, .inr (0, [.null]))] ++ [(q2, .inl (cA, n, .inl g))]) H) (hD : va_D A (c_W o ap cA cR cU ρ ra L f S z ++ [(q1, .inr (0, [.null]))] ++ [(q2, .inl (cA, n, .inl g))])) (hS : va_S A H0 H locs) (hG : c_G cA ρ σ ra L f S) (hsize : ls.size = nL) (hroom : (rest.map fun v => v.category).sum ≤ 5) (hdg : decode cc pc = .ok (.invokespecial index, 3)) (hda : decode cc (pc + 3) = .ok (.aastore, 1)) (hf : cells ≤ R.cells ∧ slots ≤ R.slots)
    (kk : ∀ (ρ1 σ1 : Nat → Nat) (L1 : List Nat) (f1 : Nat → va_E) (H1 : Heap) (locs1 : List Loc), c_I D o ap cA cR cU A ρ1 σ1 ra L1 f1 S2 z s H0 H1 locs1 → W p l e R s m args below meth c H1 locs1 cells slots Q (F0 m (pc + 4) ls rest)) : W p l e R s m args below meth c H locs cells slots Q (F0 m pc ls (.ref q2 :: .ref q1 :: .ref q1 :: .int i :: .ref (ap 1) :: rest)) := by
  have hx := X.1
  have hb := X.2.1
  have hD1 : va_D A (c_W o ap cA cR cU ρ ra L f S z ++ [(q1, .inr (0, [.null]))]) := ⟨fun a b x y ha hb => hD.1 a b x y (by rw [List.getElem?_append_left (List.getElem?_eq_some_iff.mp ha).1]; exact ha) (by rw [List.getElem?_append_left (List.getElem?_eq_some_iff.mp hb).1]; exact hb), fun a x ha => hD.2 a x (by rw [List.getElem?_append_left (List.getElem?_eq_some_iff.mp ha).1]; exact ha)⟩
  obtain ⟨h1, p1⟩ := c_push hD1
  rw [p1] at hP hD
  obtain ⟨h2, p2⟩ := c_push hD
  rw [p2] at hP hD
  have h12 : q1 ≠ q2 := fun w => h2 (by rw [← w]; simp)
  have h2L : q2 ∉ L := fun w => h2 (List.mem_append_left _ w)
  have m1 : q1 ∈ L ++ [q1] ++ [q2] := by simp
  obtain ⟨k, hk0⟩ := va_pl_get (X := c_X o ap cA cR cU ρ ra S z) (f := va_up (va_up f q1 (.inr (0, [.null]))) q2 (.inl (cA, n, .inl g))) m1
  have ev : va_up (va_up f q1 (.inr (0, [.null]))) q2 (.inl (cA, n, .inl g)) q1 = .inr (0, [.null]) := by rw [va_up_ne _ _ h12, va_up_self]
  have hk := hk0
  rw [ev] at hk
  refine c_initW (rest := .ref q1 :: .int i :: .ref (ap 1) :: rest) (av := [.ref q2]) (e1 := .inr (0, [.ref q2])) X (c_X0_init l D q1 q2) cw hK hP hD hS hk rfl hsize rfl (by rw [List.map_cons, List.map_cons, List.map_cons, List.sum_cons, List.sum_cons, List.sum_cons]; show 1 + (1 + (1 + _)) ≤ 8; omega) hdg hf (fun H locs hP hD hS => ?_)
  have es := va_pl_set (e := .inr (0, [.ref q2])) (by exact (show va_D A _ from by assumption) : va_D A (c_X o ap cA cR cU ρ ra S z ++ va_pl (L ++ [q1] ++ [q2]) (va_up (va_up f q1 (.inr (0, [.null]))) q2 (.inl (cA, n, .inl g))))) m1 hk0
  have hP : va_P D vwCl (List.set (c_X o ap cA cR cU ρ ra S z ++ va_pl (L ++ [q1] ++ [q2]) (va_up (va_up f q1 (.inr (0, [.null]))) q2 (.inl (cA, n, .inl g)))) k _) H := hP
  have hD : va_D A (List.set (c_X o ap cA cR cU ρ ra S z ++ va_pl (L ++ [q1] ++ [q2]) (va_up (va_up f q1 (.inr (0, [.null]))) q2 (.inl (cA, n, .inl g)))) k _) := hD
  have hP : va_P D vwCl _ H := es ▸ hP
  have hD : va_D A _ := es ▸ hD
  obtain ⟨f3, hf3⟩ : ∃ f3, f3 = va_up (va_up (va_up f q1 (.inr (0, [.null]))) q2 (.inl (cA, n, .inl g))) q1 (.inr (0, [.ref q2])) := ⟨_, rfl⟩
  rw [← hf3] at hP hD
  have e1 : f3 q1 = .inr (0, [.ref q2]) := by rw [hf3, va_up_self]
  have e2 : f3 q2 = c_row cA S2 kn := by rw [hf3, va_up_ne _ _ (fun w => h12 w.symm), va_up_self, hg]
  have ef : ∀ x, x ≠ q1 → x ≠ q2 → f3 x = f x := fun x w1 w2 => by rw [hf3, va_up_ne _ _ w1, va_up_ne _ _ w2, va_up_ne _ _ w1]
  obtain ⟨k2, hk2⟩ := va_pl_get (X := c_X o ap cA cR cU ρ ra S z) (f := f3) m1
  rw [e1] at hk2
  obtain ⟨hrows, hG2⟩ := c_new_done hn (ix_nI hi (by decide)).2 hkn hno hG h1 h2L h12 ef e1 e2
  refine va_astq hx hb hK hP hD hS 2 1 k2 0 (r := (RX0, TX0, 1)) rfl rfl hk2 rfl hi hda (fun H locs hP hD hS => ?_)
  have ew := c_W_new (o := o) (ap := ap) (cA := cA) (cR := cR) (cU := cU) (ra := ra) (z := z) (g := f3) (L2 := L ++ [q1] ++ [q2]) hn hrows
  have hP : va_P D vwCl ((c_W o ap cA cR cU ρ ra (L ++ [q1] ++ [q2]) f3 S z).set 2 _) H := hP
  have hD : va_D A ((c_W o ap cA cR cU ρ ra (L ++ [q1] ++ [q2]) f3 S z).set 2 _) := hD
  have hP : va_P D vwCl _ H := ew ▸ hP
  have hD : va_D A _ := ew ▸ hD
  exact kk _ _ _ _ H locs ⟨hP, hK, hD, hS, hG2⟩
theorem c_ge0 {v : Int32} (h : ¬ v < -1) (h2 : ¬ v = -1) : ¬ v < 0 := by
  intro q
  have q1 := Int32.lt_iff_toInt_lt.mp q
  have q2 : ¬ v.toInt < (-1 : Int32).toInt := fun w => h (Int32.lt_iff_toInt_lt.mpr w)
  have q3 : ¬ v.toInt = (-1 : Int32).toInt := fun w => h2 (Int32.toInt_inj.mp w)
  have e1 : (-1 : Int32).toInt = -1 := by decide
  have e0 : (0 : Int32).toInt = 0 := rfl
  omega
theorem f_zero_F (q : Nat) (S : tr_S) : ∀ n, (f_zero q n S).1 = S.1
  | 0 => rfl
  | n + 1 => f_zero_F q S n
theorem f_zero_A (q : Nat) (S : tr_S) {k : Nat} (hk : k ≠ 3) : ∀ n, (f_zero q n S).2 k = S.2 k
  | 0 => rfl
  | n + 1 => by
    rw [← f_zero_A q S hk n]
    show va_up (f_zero q n S).2 3 _ k = _
    unfold va_up
    rw [if_neg hk]
theorem f_zero_3 (q : Nat) (S : tr_S) (r i : Nat) (hi : i < 10) : ∀ n, n ≤ 10 → (f_zero q n S).2 3 (10 * r + i) = if r = q ∧ i < n then 0 else S.2 3 (10 * r + i)
  | 0, _ => by rw [if_neg (by omega)]; rfl
  | n + 1, h => by
    show (sA (f_zero q n S) 3 (10 * q + n) 0).2 3 (10 * r + i) = _
    rw [sA_A, if_pos rfl]
    by_cases e : 10 * r + i = 10 * q + n
    · rw [if_pos e, if_pos (by omega)]
    · rw [if_neg e, f_zero_3 q S r i hi n (by omega)]
      by_cases e2 : r = q ∧ i < n
      · rw [if_pos e2, if_pos (by omega)]
      · rw [if_neg e2, if_neg (by omega)]
theorem n_row_of (S : tr_S) (kn r mm : Nat) (hm : mm ≤ 10) (v : Int32) : n_row S (sA (f_zero kn mm (sA S 2 kn v)) 1 r (nI kn)) kn r := by
  refine ⟨?_, fun k h1 h2 h3 => ?_, ?_, fun j hj => ?_, fun j i hj hi => ?_⟩
  · show (f_zero kn mm (sA S 2 kn v)).1 = S.1
    rw [f_zero_F]
    rfl
  · show va_up (f_zero kn mm (sA S 2 kn v)).2 1 _ k = _
    rw [va_up_ne _ _ h1, f_zero_A _ _ h3]
    show va_up S.2 2 _ k = _
    rw [va_up_ne _ _ h2]
  · show va_up (f_zero kn mm (sA S 2 kn v)).2 1 (upd ((f_zero kn mm (sA S 2 kn v)).2 1) r (nI kn)) 1 = _
    rw [va_up_self, f_zero_A _ _ (by decide)]
    rfl
  · show (f_zero kn mm (sA S 2 kn v)).2 2 j = _
    rw [f_zero_A _ _ (by decide), sA_A, if_pos rfl, if_neg hj]
  · show (f_zero kn mm (sA S 2 kn v)).2 3 (10 * j + i) = _
    rw [f_zero_3 _ _ _ _ hi _ hm, if_neg (fun w => hj w.1)]
    rfl
theorem c_row_of (S : tr_S) (kn r n mm : Nat) (hm : mm = 10) (hn : n ≤ 10) : c_row cA (sA (f_zero kn mm (sA S 2 kn (nI n))) 1 r (nI kn)) kn = .inl (cA, n, .inl (fun _ => 0)) := by
  unfold c_row
  have e1 : (sA (f_zero kn mm (sA S 2 kn (nI n))) 1 r (nI kn)).2 2 kn = nI n := by
    show (f_zero kn mm (sA S 2 kn (nI n))).2 2 kn = _
    rw [f_zero_A _ _ (by decide), sA_A, if_pos rfl, if_pos rfl]
  rw [e1, nI_clamp (by omega)]
  congr 4
  funext i
  unfold c_items
  by_cases c : i < 10
  · rw [if_pos c]
    show (f_zero kn mm (sA S 2 kn (nI n))).2 3 (10 * kn + i) = 0
    rw [f_zero_3 _ _ _ _ c _ (by omega), if_pos ⟨rfl, by omega⟩]
  · rw [if_neg c]
theorem c_not_held {N kn : Nat} (hN : wf S N) (h : w_new S kn) : kn < 48 ∧ ¬ c_held S kn := by
  have h40 := hN.1
  have h48 := h.1
  refine ⟨h.1, ?_⟩
  rintro ⟨-, ⟨r, hr, w⟩ | ⟨k, hk, w⟩⟩
  · exact h.2.1 (Or.inl ⟨r, hr, w⟩)
  · rw [hN.N] at hk
    refine h.2.1 (Or.inr ⟨k, by rw [hN.N]; exact hk, ?_, w⟩)
    by_cases c : S.2 5 k = 6
    · exact c
    · have := (hN.2.2.1 k hk).2.2.2.2.2.2 c
      rw [this] at w
      exact absurd w (c_m1 h.1)
end CS27
set_option maxHeartbeats 4000000 in
set_option maxRecDepth 100000 in
theorem c_X2_row (l : Launch) (D : va_G) (o : Nat) (ap : Nat → Nat) (cA cR cU : ClassId) (A : Nat → Prop) (ρ σ ra : Nat → Nat) (L : List Nat) (f0 : Nat → va_E) (S0 : tr_S) (z0 : tr_Z) (r y : Int32) (kn N : Nat) (hN : wf S0 N) (hq : w_new S0 kn) : c_Ma l yX2_row wsX2_row { frames := 2, cells := 2, slots := 11, locals := 41 } [.int r, .int y] D o ap cA cR cU A ρ σ ra L f0 S0 z0 2 11 (fun v u => (v, u.1) = f_row r y kn S0) := by
  refine Met.ofW (cc := cX2_row) (maxL := 3) (ret := (some .int)) (by decide) rfl ?_
  intro p e s m args below meth c s₁ B hml hv
  obtain ⟨rfl, hB, hA⟩ := hv
  have hx := B.exec
  have hb := B.bytes
  have hr := B.returns
  have hts := atoms_spec (ws := wsX2_row) B.pre
  have hown : s.vm.findClass RX2 = some m.cls := findClass_of_methodNamed B.named
  have hlocks := B.notSynchronized
  have I := c_I.of hB
  have hin2 : ∀ w ∈ wsX20, w ∈ wsX2_row := fun _ h => List.mem_cons_of_mem _ (List.mem_append_left _ (List.mem_append_right _ h))
  have hin0 : ∀ w ∈ wsX00, w ∈ wsX2_row := fun _ h => List.mem_cons_of_mem _ (List.mem_append_right _ h)
  have L17 := hts (.fieldLink RX2 17 "TollRules" "rows" "[LTollRules$Row;") (by decide +kernel)
  have hl := lv_entry ([.ref o, .int r, .int y]) (n := 3) (Nat.le_of_ble_eq_true rfl)
  rw [lg_entry_eq]
  generalize (lg_sl ([.ref o, .int r, .int y]) ++ List.replicate (3 - (lg_sl ([.ref o, .int r, .int y])).length) Slot.unset).toArray = ls at hl ⊢
  have hl : lv_has ls 3 [(0, .ref o), (1, .int r), (2, .int y)] := hl
  refine lv_iload_n hx hb dX2_row_0 rfl (lv_at hl 1 rfl) ?_
  refine c_isRow ⟨hx, hb, hml, hown, hts⟩ gX2_row_X2_isRow ⟨Nat.le_of_ble_eq_true rfl, Nat.le_of_ble_eq_true rfl⟩ ⟨Nat.zero_le _, Nat.zero_le _⟩ hl.1 (Nat.le_of_ble_eq_true rfl) dX2_row_1 (fun h1 => ?_) (fun h1 => ?_)
  · refine lv_if_eq (tgt := 18) hx hb dX2_row_4 (by decide) (fun h => absurd h (by decide)) (fun _ => ?_)
    refine lv_iload_n hx hb dX2_row_7 rfl (lv_at hl 2 rfl) ?_
    refine lv_iconst (v := (-1)) hx hb dX2_row_8 (by decide) ?_
    refine lv_icmp_lt (tgt := 18) hx hb dX2_row_9 (by decide) (fun c9 => ?_) (fun c9 => ?_)
    · refine lv_iconst (v := (-1)) hx hb dX2_row_18 (by decide) ?_
      exact W.widen (k := 2) (n := 11) (by decide) (by decide) (c_iret2 hx hb hr hlocks I dX2_row_19 (by unfold f_row; rw [if_neg (fun q => absurd c9 (Int32.not_lt.mpr q.2.1))]))
    · refine lv_iload_n hx hb dX2_row_12 rfl (lv_at hl 2 rfl) ?_
      refine lv_bipush (v := 10) hx hb dX2_row_13 (by decide) ?_
      refine lv_icmp_le (tgt := 20) hx hb dX2_row_15 (by decide) (fun c15 => ?_) (fun c15 => ?_)
      · refine lv_aload_n hx hb dX2_row_20 rfl (lv_at hl 0 rfl) ?_
        refine c_get1 hx hb hts hin2 hown I L17 dX2_row_21 ?_
        refine lv_iload_n hx hb dX2_row_24 rfl (lv_at hl 1 rfl) ?_
        refine lv_iload_n hx hb dX2_row_25 rfl (lv_at hl 2 rfl) ?_
        refine lv_iconst (v := (-1)) hx hb dX2_row_26 (by decide) ?_
        refine lv_icmp_ne (tgt := 34) hx hb dX2_row_27 (by decide) (fun c27 => ?_) (fun c27 => ?_)
        · have hy0 : ¬ y < 0 := c_ge0 c9 c27
          have hy10 : y ≤ 10 := c15
          obtain ⟨n, hn10, en⟩ : ∃ n : Nat, n ≤ 10 ∧ y = nI n := nI_of2 (M := 10) rfl hy0 hy10
          refine va_new (ci := 0) (fs := [.null]) (C := RX0) (T := TX0) (N := 1) hx hb hts hin0 tyX0 tyX0_ok hown (hts (.classLink RX2 15 RX0) (by decide +kernel)) (hts (.instantiable RX0 1) (by decide +kernel)) (hts (.initialized RX0) (by decide +kernel)) I.2.1 I.1 I.2.2.1 I.2.2.2.1 hA rfl (fun j hj => by rcases (show j = 0 by omega) with rfl <;> rfl) (Nat.le_of_ble_eq_true rfl) (Nat.le_of_ble_eq_true rfl) dX2_row_34 (fun q1 H hP hD hS => ?_)
          refine lv_dup hx hb dX2_row_37 rfl ?_
          refine lv_iload_n hx hb dX2_row_38 rfl (lv_at hl 2 rfl) ?_
          refine va_newa (atype := .int) (ty := .int) (N' := n) hx hb (hts (.arrayClass .int) (by decide +kernel)) rfl I.2.1 hP hD hS hA (a0 := (n, .inl (fun _ => 0))) (fun cA => rfl) hy0 (by rw [en, nI_clamp (by omega)]) (show n * 4 ≤ 536870912 by omega) (Nat.le_of_ble_eq_true rfl) (show 0 + 1 + n ≤ 11 by omega) dX2_row_39 (fun q2 cB H hKn hP hD hS => ?_)
          have eC : cB = cA := Option.some.inj ((va_nm_int (hKn.2 3 _ rfl).2).symm.trans (va_nm_int (I.2.1.2 0 _ rfl).2))
          rw [eC] at hP hD
          obtain ⟨hk48, hno⟩ := c_not_held hN hq
          refine c_row_new (rest := []) (i := r) ⟨hx, hb, hml, hown, hts⟩ (cwI 1 hts gX2_row_X0_init rfl rfl rfl (hts (.initialized RX0) (by decide +kernel)) (hts (.methodLink RX2 76 yX0_init) (by decide +kernel)) (hts (.instanceMethod yX0_init) (by decide +kernel)) rfl (by decide +kernel) ⟨Nat.le_of_ble_eq_true rfl, Nat.le_of_ble_eq_true rfl⟩) (ix_of h1 (by decide) (by decide)) (n_row_of S0 kn r.toNatClampNeg 10 (by decide) y) hk48 hno (by rw [en]; exact c_row_of S0 kn _ n 10 rfl hn10) I.2.1 hP hD hS I.2.2.2.2 hl.1 (Nat.le_of_ble_eq_true rfl) dX2_row_41 dX2_row_44 ⟨Nat.le_of_ble_eq_true rfl, show 0 + 1 + n ≤ 11 by omega⟩ (fun ρ1 σ1 L1 f1 H locs I => ?_)
          refine lv_iconst (v := 1) hx hb dX2_row_45 (by decide) ?_
          exact W.widen (k := 2) (n := 11) (by decide) (by omega) (c_iret2 hx hb hr hlocks I dX2_row_46 (by unfold f_row; rw [if_pos ⟨h1, ⟨Int32.not_lt.mp c9, c15⟩⟩, if_pos (Int32.not_lt.mp hy0)]))
        · refine lv_null hx hb dX2_row_30 ?_
          refine lv_goto (tgt := 44) hx hb dX2_row_31 (by decide) ?_
          refine c_rows_stn hx hb I (ix_of h1 (by decide) (by decide)) dX2_row_44 (fun H locs I => ?_)
          refine lv_iconst (v := 1) hx hb dX2_row_45 (by decide) ?_
          exact W.widen (k := 2) (n := 11) (by decide) (by decide) (c_iret2 hx hb hr hlocks I dX2_row_46 (by unfold f_row; rw [if_pos ⟨h1, by rw [c27]; decide⟩, if_neg (by rw [c27]; decide)]))
      · refine lv_iconst (v := (-1)) hx hb dX2_row_18 (by decide) ?_
        exact W.widen (k := 2) (n := 11) (by decide) (by decide) (c_iret2 hx hb hr hlocks I dX2_row_19 (by unfold f_row; rw [if_neg (fun q => c15 q.2.2)]))
  · refine lv_if_eq (tgt := 18) hx hb dX2_row_4 (by decide) (fun _ => ?_) (fun h => absurd h (by decide))
    refine lv_iconst (v := (-1)) hx hb dX2_row_18 (by decide) ?_
    exact W.widen (k := 2) (n := 11) (by decide) (by decide) (c_iret2 hx hb hr hlocks I dX2_row_19 (by unfold f_row; rw [if_neg (fun q => h1 q.1)]))

