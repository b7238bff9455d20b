set_option maxHeartbeats 4000000 in
set_option maxRecDepth 100000 in
theorem l_case6 {p : Program} {l : Launch} {e : Env} {s : State} {m : MethodId} {below : List Frame} {meth : Method} {c : Code} {D : va_G} {om oc : Nat} {ad ap : Nat → Nat} {cA cB cR cU : ClassId} {b L0 : Nat} {xs : Nat → Int32} (hL : L0 ≤ 2560) (C0 : lw_At p s m meth c b L0 xs) (hNw : va_Nw (.castable "[I" "java/lang/Cloneable") s) {i kc ks : Nat} {M : tr_S} {z : tr_Z} {H : Heap} {locs : List Loc} {ls : Array Slot} (hi : i + 5 ≤ L0) (hkc : kc ≤ 30 + 2 * i) (hks : ks ≤ 1200 + 11 * i) (hr0 : r_ok M) (I : l_I D om ad cA oc ap cB cR cU M M z s H locs) (hl : lv_has ls 4 [(3, .int (nI i)), (0, .ref b), (1, .ref oc), (2, .ref om)]) (K : ∀ (M1 : tr_S) (z1 : tr_Z) (kc1 ks1 : Nat) (H1 : Heap) (locs1 : List Loc), r_ok M1 → kc1 ≤ kc + 2 → ks1 ≤ ks + 11 → l_I D om ad cA oc ap cB cR cU M1 M1 z1 s H1 locs1 → W p l e room_1 s m #[Value.ref b] below meth c H1 locs1 kc1 ks1 (lw_Z below #[Value.ref b] s) (F0 m 660 ls [])) : W p l e room_1 s m #[Value.ref b] below meth c H locs kc ks (lw_Z below #[Value.ref b] s) (F0 m 317 ls []) := by
  obtain ⟨hx, hb, hr, hml, hown, hts0, hX, hbl, hlocks, hgv⟩ := C0
  have hts : ∀ w ∈ wsL_law, w.before #[Value.ref b] s = true := fun w h => hts0 w (wsL_law_in w h)
  have hbA : ¬ l_A s b := Nat.not_le.mpr hbl
  obtain ⟨N, hN⟩ := hr0.1
  refine lv_aload_n hx hb dL_law_317 rfl (lv_at hl 2 rfl) ?_
  refine lv_aload_n hx hb dL_law_318 rfl (lv_at hl 1 rfl) ?_
  refine lv_iload_n hx hb dL_law_319 rfl (lv_at hl 0 rfl) ?_
  refine lv_iconst (v := 1) hx hb dL_law_320 (by decide) ?_
  refine lv_iadd hx hb dL_law_321 ?_
  refine va_sld hx hb hX hbl hbA I.2.2.2.2.2 (i := nI i + nI 1) (l_in (by omega) hL) dL_law_322 ?_
  rw [l_ix i 1 (by omega)]
  refine lv_aload_n hx hb dL_law_323 rfl (lv_at hl 1 rfl) ?_
  refine lv_iload_n hx hb dL_law_324 rfl (lv_at hl 0 rfl) ?_
  refine lv_iconst (v := 2) hx hb dL_law_325 (by decide) ?_
  refine lv_iadd hx hb dL_law_326 ?_
  refine va_sld hx hb hX hbl hbA I.2.2.2.2.2 (i := nI i + nI 2) (l_in (by omega) hL) dL_law_327 ?_
  rw [l_ix i 2 (by omega)]
  refine lv_aload_n hx hb dL_law_328 rfl (lv_at hl 1 rfl) ?_
  refine lv_iload_n hx hb dL_law_329 rfl (lv_at hl 0 rfl) ?_
  refine lv_iconst (v := 3) hx hb dL_law_330 (by decide) ?_
  refine lv_iadd hx hb dL_law_331 ?_
  refine va_sld hx hb hX hbl hbA I.2.2.2.2.2 (i := nI i + nI 3) (l_in (by omega) hL) dL_law_332 ?_
  rw [l_ix i 3 (by omega)]
  refine l_calli (rest := []) (mc := 1) (ms := 6) ⟨hx, hb, hml, hown, hts⟩ (l_C_a (fun A ρ σ ra L f => c_X2_rule l D oc ap cB cR cU A ρ σ ra L f M z (xs (i + 1)) (xs (i + 2)) (xs (i + 3)) N hN)) (cwV 3 hts gL_law_X2_rule rfl rfl rfl (by decide +kernel) ⟨Nat.le_of_ble_eq_true rfl, Nat.le_of_ble_eq_true rfl⟩) hNw I rfl hl.1 rfl (Nat.le_of_ble_eq_true rfl) dL_law_333 ⟨show kc + 1 ≤ 678364 by omega, show ks + 6 ≤ 7067155 by omega⟩ (fun r1 S1 z1 H locs p1 I => ?_)
  refine lv_aload_n hx hb dL_law_336 rfl (lv_at hl 3 rfl) ?_
  refine lv_aload_n hx hb dL_law_337 rfl (lv_at hl 1 rfl) ?_
  refine lv_iload_n hx hb dL_law_338 rfl (lv_at hl 0 rfl) ?_
  refine lv_iconst (v := 1) hx hb dL_law_339 (by decide) ?_
  refine lv_iadd hx hb dL_law_340 ?_
  refine va_sld hx hb hX hbl hbA I.2.2.2.2.2 (i := nI i + nI 1) (l_in (by omega) hL) dL_law_341 ?_
  rw [l_ix i 1 (by omega)]
  refine lv_aload_n hx hb dL_law_342 rfl (lv_at hl 1 rfl) ?_
  refine lv_iload_n hx hb dL_law_343 rfl (lv_at hl 0 rfl) ?_
  refine lv_iconst (v := 2) hx hb dL_law_344 (by decide) ?_
  refine lv_iadd hx hb dL_law_345 ?_
  refine va_sld hx hb hX hbl hbA I.2.2.2.2.2 (i := nI i + nI 2) (l_in (by omega) hL) dL_law_346 ?_
  rw [l_ix i 2 (by omega)]
  refine lv_aload_n hx hb dL_law_347 rfl (lv_at hl 1 rfl) ?_
  refine lv_iload_n hx hb dL_law_348 rfl (lv_at hl 0 rfl) ?_
  refine lv_iconst (v := 3) hx hb dL_law_349 (by decide) ?_
  refine lv_iadd hx hb dL_law_350 ?_
  refine va_sld hx hb hX hbl hbA I.2.2.2.2.2 (i := nI i + nI 3) (l_in (by omega) hL) dL_law_351 ?_
  rw [l_ix i 3 (by omega)]
  refine l_mi (rest := [.int r1]) ⟨hx, hb, hml, hown, hts⟩ (c_X3_rule l D om ad cA M (xs (i + 1)) (xs (i + 2)) (xs (i + 3)) N hN) (cwV 3 hts gL_law_X3_rule rfl rfl rfl (by decide +kernel) ⟨Nat.le_of_ble_eq_true rfl, Nat.le_of_ble_eq_true rfl⟩) I rfl hl.1 rfl (Nat.le_of_ble_eq_true rfl) dL_law_352 ⟨show kc + 1 ≤ 678364 by omega, show ks + 6 ≤ 7067155 by omega⟩ (fun r2 M1 H locs p2 I => ?_)
  have e1 : r1 = r2 := (congrArg Prod.fst p1).trans p2.1.symm
  have e2 := congrArg Prod.snd p1
  have ee : e_eq S1 M1 := by rw [show S1 = _ from e2]; exact p2.2
  have hr1 : r_ok M1 := r_eq (r_rule hr0 (xs (i + 1)) (xs (i + 2)) (xs (i + 3))) p2.2
  have I := l_I_eq ee I
  refine lv_icmp_eq (tgt := 660) hx hb dL_law_355 (by decide) (fun _ => ?_) (fun w => absurd e1 w)
  exact K M1 z1 _ _ H locs hr1 (by omega) (by omega) I
set_option maxHeartbeats 4000000 in
set_option maxRecDepth 100000 in
theorem l_case7 {p : Program} {l : Launch} {e : Env} {s : State} {m : MethodId} {below : List Frame} {meth : Method} {c : Code} {D : va_G} {om oc : Nat} {ad ap : Nat → Nat} {cA cB cR cU : ClassId} {b L0 : Nat} {xs : Nat → Int32} (hL : L0 ≤ 2560) (C0 : lw_At p s m meth c b L0 xs) (hNw : va_Nw (.castable "[I" "java/lang/Cloneable") s) {i kc ks : Nat} {M : tr_S} {z : tr_Z} {H : Heap} {locs : List Loc} {ls : Array Slot} (hi : i + 5 ≤ L0) (hkc : kc ≤ 30 + 2 * i) (hks : ks ≤ 1200 + 11 * i) (hr0 : r_ok M) (I : l_I D om ad cA oc ap cB cR cU M M z s H locs) (hl : lv_has ls 4 [(3, .int (nI i)), (0, .ref b), (1, .ref oc), (2, .ref om)]) (K : ∀ (M1 : tr_S) (z1 : tr_Z) (kc1 ks1 : Nat) (H1 : Heap) (locs1 : List Loc), r_ok M1 → kc1 ≤ kc + 2 → ks1 ≤ ks + 11 → l_I D om ad cA oc ap cB cR cU M1 M1 z1 s H1 locs1 → W p l e room_1 s m #[Value.ref b] below meth c H1 locs1 kc1 ks1 (lw_Z below #[Value.ref b] s) (F0 m 660 ls [])) : W p l e room_1 s m #[Value.ref b] below meth c H locs kc ks (lw_Z below #[Value.ref b] s) (F0 m 360 ls []) := by
  obtain ⟨hx, hb, hr, hml, hown, hts0, hX, hbl, hlocks, hgv⟩ := C0
  have hts : ∀ w ∈ wsL_law, w.before #[Value.ref b] s = true := fun w h => hts0 w (wsL_law_in w h)
  have hbA : ¬ l_A s b := Nat.not_le.mpr hbl
  obtain ⟨N, hN⟩ := hr0.1
  refine lv_aload_n hx hb dL_law_360 rfl (lv_at hl 2 rfl) ?_
  refine lv_aload_n hx hb dL_law_361 rfl (lv_at hl 1 rfl) ?_
  refine lv_iload_n hx hb dL_law_362 rfl (lv_at hl 0 rfl) ?_
  refine lv_iconst (v := 1) hx hb dL_law_363 (by decide) ?_
  refine lv_iadd hx hb dL_law_364 ?_
  refine va_sld hx hb hX hbl hbA I.2.2.2.2.2 (i := nI i + nI 1) (l_in (by omega) hL) dL_law_365 ?_
  rw [l_ix i 1 (by omega)]
  refine lv_aload_n hx hb dL_law_366 rfl (lv_at hl 1 rfl) ?_
  refine lv_iload_n hx hb dL_law_367 rfl (lv_at hl 0 rfl) ?_
  refine lv_iconst (v := 2) hx hb dL_law_368 (by decide) ?_
  refine lv_iadd hx hb dL_law_369 ?_
  refine va_sld hx hb hX hbl hbA I.2.2.2.2.2 (i := nI i + nI 2) (l_in (by omega) hL) dL_law_370 ?_
  rw [l_ix i 2 (by omega)]
  refine l_calli (rest := []) (mc := 0) (ms := 0) ⟨hx, hb, hml, hown, hts⟩ (l_C_i (fun A ρ σ ra L f => c_X2_apply l D oc ap cB cR cU A ρ σ ra L f M z (xs (i + 1)) (xs (i + 2)) N hN)) (cwV 2 hts gL_law_X2_apply rfl rfl rfl (by decide +kernel) ⟨Nat.le_of_ble_eq_true rfl, Nat.le_of_ble_eq_true rfl⟩) hNw I rfl hl.1 rfl (Nat.le_of_ble_eq_true rfl) dL_law_371 ⟨show kc + 0 ≤ 678364 by omega, show ks + 0 ≤ 7067155 by omega⟩ (fun r1 S1 z1 H locs p1 I => ?_)
  refine lv_aload_n hx hb dL_law_374 rfl (lv_at hl 3 rfl) ?_
  refine lv_aload_n hx hb dL_law_375 rfl (lv_at hl 1 rfl) ?_
  refine lv_iload_n hx hb dL_law_376 rfl (lv_at hl 0 rfl) ?_
  refine lv_iconst (v := 1) hx hb dL_law_377 (by decide) ?_
  refine lv_iadd hx hb dL_law_378 ?_
  refine va_sld hx hb hX hbl hbA I.2.2.2.2.2 (i := nI i + nI 1) (l_in (by omega) hL) dL_law_379 ?_
  rw [l_ix i 1 (by omega)]
  refine lv_aload_n hx hb dL_law_380 rfl (lv_at hl 1 rfl) ?_
  refine lv_iload_n hx hb dL_law_381 rfl (lv_at hl 0 rfl) ?_
  refine lv_iconst (v := 2) hx hb dL_law_382 (by decide) ?_
  refine lv_iadd hx hb dL_law_383 ?_
  refine va_sld hx hb hX hbl hbA I.2.2.2.2.2 (i := nI i + nI 2) (l_in (by omega) hL) dL_law_384 ?_
  rw [l_ix i 2 (by omega)]
  refine l_mi (rest := [.int r1]) ⟨hx, hb, hml, hown, hts⟩ (c_X3_apply l D om ad cA M (xs (i + 1)) (xs (i + 2)) N hN) (cwV 2 hts gL_law_X3_apply rfl rfl rfl (by decide +kernel) ⟨Nat.le_of_ble_eq_true rfl, Nat.le_of_ble_eq_true rfl⟩) I rfl hl.1 rfl (Nat.le_of_ble_eq_true rfl) dL_law_385 ⟨show kc + 0 ≤ 678364 by omega, show ks + 0 ≤ 7067155 by omega⟩ (fun r2 M1 H locs p2 I => ?_)
  have e1 : r1 = r2 := (congrArg Prod.fst p1).trans p2.1.symm
  have e2 := congrArg Prod.snd p1
  have ee : e_eq S1 M1 := by rw [show S1 = _ from e2]; exact p2.2
  have hr1 : r_ok M1 := r_eq (r_apply hr0 (xs (i + 1)) (xs (i + 2))) p2.2
  have I := l_I_eq ee I
  refine lv_icmp_eq (tgt := 660) hx hb dL_law_388 (by decide) (fun _ => ?_) (fun w => absurd e1 w)
  exact K M1 z1 _ _ H locs hr1 (by omega) (by omega) I
set_option maxHeartbeats 4000000 in
set_option maxRecDepth 100000 in
theorem l_case8 {p : Program} {l : Launch} {e : Env} {s : State} {m : MethodId} {below : List Frame} {meth : Method} {c : Code} {D : va_G} {om oc : Nat} {ad ap : Nat → Nat} {cA cB cR cU : ClassId} {b L0 : Nat} {xs : Nat → Int32} (hL : L0 ≤ 2560) (C0 : lw_At p s m meth c b L0 xs) (hNw : va_Nw (.castable "[I" "java/lang/Cloneable") s) {i kc ks : Nat} {M : tr_S} {z : tr_Z} {H : Heap} {locs : List Loc} {ls : Array Slot} (hi : i + 5 ≤ L0) (hkc : kc ≤ 30 + 2 * i) (hks : ks ≤ 1200 + 11 * i) (hr0 : r_ok M) (I : l_I D om ad cA oc ap cB cR cU M M z s H locs) (hl : lv_has ls 4 [(3, .int (nI i)), (0, .ref b), (1, .ref oc), (2, .ref om)]) (K : ∀ (M1 : tr_S) (z1 : tr_Z) (kc1 ks1 : Nat) (H1 : Heap) (locs1 : List Loc), r_ok M1 → kc1 ≤ kc + 2 → ks1 ≤ ks + 11 → l_I D om ad cA oc ap cB cR cU M1 M1 z1 s H1 locs1 → W p l e room_1 s m #[Value.ref b] below meth c H1 locs1 kc1 ks1 (lw_Z below #[Value.ref b] s) (F0 m 660 ls [])) : W p l e room_1 s m #[Value.ref b] below meth c H locs kc ks (lw_Z below #[Value.ref b] s) (F0 m 393 ls []) := by
  obtain ⟨hx, hb, hr, hml, hown, hts0, hX, hbl, hlocks, hgv⟩ := C0
  have hts : ∀ w ∈ wsL_law, w.before #[Value.ref b] s = true := fun w h => hts0 w (wsL_law_in w h)
  have hbA : ¬ l_A s b := Nat.not_le.mpr hbl
  obtain ⟨N, hN⟩ := hr0.1
  refine lv_aload_n hx hb dL_law_393 rfl (lv_at hl 2 rfl) ?_
  refine lv_aload_n hx hb dL_law_394 rfl (lv_at hl 1 rfl) ?_
  refine lv_iload_n hx hb dL_law_395 rfl (lv_at hl 0 rfl) ?_
  refine lv_iconst (v := 1) hx hb dL_law_396 (by decide) ?_
  refine lv_iadd hx hb dL_law_397 ?_
  refine va_sld hx hb hX hbl hbA I.2.2.2.2.2 (i := nI i + nI 1) (l_in (by omega) hL) dL_law_398 ?_
  rw [l_ix i 1 (by omega)]
  refine lv_aload_n hx hb dL_law_399 rfl (lv_at hl 1 rfl) ?_
  refine lv_iload_n hx hb dL_law_400 rfl (lv_at hl 0 rfl) ?_
  refine lv_iconst (v := 2) hx hb dL_law_401 (by decide) ?_
  refine lv_iadd hx hb dL_law_402 ?_
  refine va_sld hx hb hX hbl hbA I.2.2.2.2.2 (i := nI i + nI 2) (l_in (by omega) hL) dL_law_403 ?_
  rw [l_ix i 2 (by omega)]
  refine l_calli (rest := []) (mc := 0) (ms := 0) ⟨hx, hb, hml, hown, hts⟩ (l_C_i (fun A ρ σ ra L f => c_X2_each l D oc ap cB cR cU A ρ σ ra L f M z (xs (i + 1)) (xs (i + 2)) N hN)) (cwV 2 hts gL_law_X2_each rfl rfl rfl (by decide +kernel) ⟨Nat.le_of_ble_eq_true rfl, Nat.le_of_ble_eq_true rfl⟩) hNw I rfl hl.1 rfl (Nat.le_of_ble_eq_true rfl) dL_law_404 ⟨show kc + 0 ≤ 678364 by omega, show ks + 0 ≤ 7067155 by omega⟩ (fun r1 S1 z1 H locs p1 I => ?_)
  refine lv_aload_n hx hb dL_law_407 rfl (lv_at hl 3 rfl) ?_
  refine lv_aload_n hx hb dL_law_408 rfl (lv_at hl 1 rfl) ?_
  refine lv_iload_n hx hb dL_law_409 rfl (lv_at hl 0 rfl) ?_
  refine lv_iconst (v := 1) hx hb dL_law_410 (by decide) ?_
  refine lv_iadd hx hb dL_law_411 ?_
  refine va_sld hx hb hX hbl hbA I.2.2.2.2.2 (i := nI i + nI 1) (l_in (by omega) hL) dL_law_412 ?_
  rw [l_ix i 1 (by omega)]
  refine lv_aload_n hx hb dL_law_413 rfl (lv_at hl 1 rfl) ?_
  refine lv_iload_n hx hb dL_law_414 rfl (lv_at hl 0 rfl) ?_
  refine lv_iconst (v := 2) hx hb dL_law_415 (by decide) ?_
  refine lv_iadd hx hb dL_law_416 ?_
  refine va_sld hx hb hX hbl hbA I.2.2.2.2.2 (i := nI i + nI 2) (l_in (by omega) hL) dL_law_417 ?_
  rw [l_ix i 2 (by omega)]
  refine l_mi (rest := [.int r1]) ⟨hx, hb, hml, hown, hts⟩ (c_X3_each l D om ad cA M (xs (i + 1)) (xs (i + 2)) N hN) (cwV 2 hts gL_law_X3_each rfl rfl rfl (by decide +kernel) ⟨Nat.le_of_ble_eq_true rfl, Nat.le_of_ble_eq_true rfl⟩) I rfl hl.1 rfl (Nat.le_of_ble_eq_true rfl) dL_law_418 ⟨show kc + 0 ≤ 678364 by omega, show ks + 0 ≤ 7067155 by omega⟩ (fun r2 M1 H locs p2 I => ?_)
  have e1 : r1 = r2 := (congrArg Prod.fst p1).trans p2.1.symm
  have e2 := congrArg Prod.snd p1
  have ee : e_eq S1 M1 := by rw [show S1 = _ from e2]; exact p2.2
  have hr1 : r_ok M1 := r_eq (r_each hr0 (xs (i + 1)) (xs (i + 2))) p2.2
  have I := l_I_eq ee I
  refine lv_icmp_eq (tgt := 660) hx hb dL_law_421 (by decide) (fun _ => ?_) (fun w => absurd e1 w)
  exact K M1 z1 _ _ H locs hr1 (by omega) (by omega) I
set_option maxHeartbeats 4000000 in
set_option maxRecDepth 100000 in
theorem l_case9 {p : Program} {l : Launch} {e : Env} {s : State} {m : MethodId} {below : List Frame} {meth : Method} {c : Code} {D : va_G} {om oc : Nat} {ad ap : Nat → Nat} {cA cB cR cU : ClassId} {b L0 : Nat} {xs : Nat → Int32} (hL : L0 ≤ 2560) (C0 : lw_At p s m meth c b L0 xs) (hNw : va_Nw (.castable "[I" "java/lang/Cloneable") s) {i kc ks : Nat} {M : tr_S} {z : tr_Z} {H : Heap} {locs : List Loc} {ls : Array Slot} (hi : i + 5 ≤ L0) (hkc : kc ≤ 30 + 2 * i) (hks : ks ≤ 1200 + 11 * i) (hr0 : r_ok M) (I : l_I D om ad cA oc ap cB cR cU M M z s H locs) (hl : lv_has ls 4 [(3, .int (nI i)), (0, .ref b), (1, .ref oc), (2, .ref om)]) (K : ∀ (M1 : tr_S) (z1 : tr_Z) (kc1 ks1 : Nat) (H1 : Heap) (locs1 : List Loc), r_ok M1 → kc1 ≤ kc + 2 → ks1 ≤ ks + 11 → l_I D om ad cA oc ap cB cR cU M1 M1 z1 s H1 locs1 → W p l e room_1 s m #[Value.ref b] below meth c H1 locs1 kc1 ks1 (lw_Z below #[Value.ref b] s) (F0 m 660 ls [])) : W p l e room_1 s m #[Value.ref b] below meth c H locs kc ks (lw_Z below #[Value.ref b] s) (F0 m 426 ls []) := by
  obtain ⟨hx, hb, hr, hml, hown, hts0, hX, hbl, hlocks, hgv⟩ := C0
  have hts : ∀ w ∈ wsL_law, w.before #[Value.ref b] s = true := fun w h => hts0 w (wsL_law_in w h)
  have hbA : ¬ l_A s b := Nat.not_le.mpr hbl
  obtain ⟨N, hN⟩ := hr0.1
  obtain ⟨kn, hq⟩ := new_ex hN
  refine lv_aload_n hx hb dL_law_426 rfl (lv_at hl 2 rfl) ?_
  refine lv_aload_n hx hb dL_law_427 rfl (lv_at hl 1 rfl) ?_
  refine lv_iload_n hx hb dL_law_428 rfl (lv_at hl 0 rfl) ?_
  refine lv_iconst (v := 1) hx hb dL_law_429 (by decide) ?_
  refine lv_iadd hx hb dL_law_430 ?_
  refine va_sld hx hb hX hbl hbA I.2.2.2.2.2 (i := nI i + nI 1) (l_in (by omega) hL) dL_law_431 ?_
  rw [l_ix i 1 (by omega)]
  refine lv_aload_n hx hb dL_law_432 rfl (lv_at hl 1 rfl) ?_
  refine lv_iload_n hx hb dL_law_433 rfl (lv_at hl 0 rfl) ?_
  refine lv_iconst (v := 2) hx hb dL_law_434 (by decide) ?_
  refine lv_iadd hx hb dL_law_435 ?_
  refine va_sld hx hb hX hbl hbA I.2.2.2.2.2 (i := nI i + nI 2) (l_in (by omega) hL) dL_law_436 ?_
  rw [l_ix i 2 (by omega)]
  refine l_calli (rest := []) (mc := 2) (ms := 11) ⟨hx, hb, hml, hown, hts⟩ (l_C_k (fun A ρ σ ra L f => c_X2_keep l D oc ap cB cR cU A ρ σ ra L f M z (xs (i + 1)) (xs (i + 2)) N kn hN hq)) (cwV 2 hts gL_law_X2_keep rfl rfl rfl (by decide +kernel) ⟨Nat.le_of_ble_eq_true rfl, Nat.le_of_ble_eq_true rfl⟩) hNw I rfl hl.1 rfl (Nat.le_of_ble_eq_true rfl) dL_law_437 ⟨show kc + 2 ≤ 678364 by omega, show ks + 11 ≤ 7067155 by omega⟩ (fun r1 S1 z1 H locs p1 I => ?_)
  refine lv_aload_n hx hb dL_law_440 rfl (lv_at hl 3 rfl) ?_
  refine lv_aload_n hx hb dL_law_441 rfl (lv_at hl 1 rfl) ?_
  refine lv_iload_n hx hb dL_law_442 rfl (lv_at hl 0 rfl) ?_
  refine lv_iconst (v := 1) hx hb dL_law_443 (by decide) ?_
  refine lv_iadd hx hb dL_law_444 ?_
  refine va_sld hx hb hX hbl hbA I.2.2.2.2.2 (i := nI i + nI 1) (l_in (by omega) hL) dL_law_445 ?_
  rw [l_ix i 1 (by omega)]
  refine lv_aload_n hx hb dL_law_446 rfl (lv_at hl 1 rfl) ?_
  refine lv_iload_n hx hb dL_law_447 rfl (lv_at hl 0 rfl) ?_
  refine lv_iconst (v := 2) hx hb dL_law_448 (by decide) ?_
  refine lv_iadd hx hb dL_law_449 ?_
  refine va_sld hx hb hX hbl hbA I.2.2.2.2.2 (i := nI i + nI 2) (l_in (by omega) hL) dL_law_450 ?_
  rw [l_ix i 2 (by omega)]
  refine l_mi (rest := [.int r1]) ⟨hx, hb, hml, hown, hts⟩ (c_X3_keep l D om ad cA M (xs (i + 1)) (xs (i + 2)) N kn hN hq) (cwV 2 hts gL_law_X3_keep rfl rfl rfl (by decide +kernel) ⟨Nat.le_of_ble_eq_true rfl, Nat.le_of_ble_eq_true rfl⟩) I rfl hl.1 rfl (Nat.le_of_ble_eq_true rfl) dL_law_451 ⟨show kc + 2 ≤ 678364 by omega, show ks + 11 ≤ 7067155 by omega⟩ (fun r2 M1 H locs p2 I => ?_)
  have e1 : r1 = r2 := (congrArg Prod.fst p1).trans p2.1.symm
  have e2 := congrArg Prod.snd p1
  have ee : e_eq S1 M1 := by rw [show S1 = _ from e2]; exact p2.2
  have hr1 : r_ok M1 := r_eq (r_keep hr0 (xs (i + 1)) (xs (i + 2)) hq.1) p2.2
  have I := l_I_eq ee I
  refine lv_icmp_eq (tgt := 660) hx hb dL_law_454 (by decide) (fun _ => ?_) (fun w => absurd e1 w)
  exact K M1 z1 _ _ H locs hr1 (by omega) (by omega) I
set_option maxHeartbeats 4000000 in
set_option maxRecDepth 100000 in
theorem l_case10 {p : Program} {l : Launch} {e : Env} {s : State} {m : MethodId} {below : List Frame} {meth : Method} {c : Code} {D : va_G} {om oc : Nat} {ad ap : Nat → Nat} {cA cB cR cU : ClassId} {b L0 : Nat} {xs : Nat → Int32} (hL : L0 ≤ 2560) (C0 : lw_At p s m meth c b L0 xs) (hNw : va_Nw (.castable "[I" "java/lang/Cloneable") s) {i kc ks : Nat} {M : tr_S} {z : tr_Z} {H : Heap} {locs : List Loc} {ls : Array Slot} (hi : i + 5 ≤ L0) (hkc : kc ≤ 30 + 2 * i) (hks : ks ≤ 1200 + 11 * i) (hr0 : r_ok M) (I : l_I D om ad cA oc ap cB cR cU M M z s H locs) (hl : lv_has ls 4 [(3, .int (nI i)), (0, .ref b), (1, .ref oc), (2, .ref om)]) (K : ∀ (M1 : tr_S) (z1 : tr_Z) (kc1 ks1 : Nat) (H1 : Heap) (locs1 : List Loc), r_ok M1 → kc1 ≤ kc + 2 → ks1 ≤ ks + 11 → l_I D om ad cA oc ap cB cR cU M1 M1 z1 s H1 locs1 → W p l e room_1 s m #[Value.ref b] below meth c H1 locs1 kc1 ks1 (lw_Z below #[Value.ref b] s) (F0 m 660 ls [])) : W p l e room_1 s m #[Value.ref b] below meth c H locs kc ks (lw_Z below #[Value.ref b] s) (F0 m 459 ls []) := by
  obtain ⟨hx, hb, hr, hml, hown, hts0, hX, hbl, hlocks, hgv⟩ := C0
  have hts : ∀ w ∈ wsL_law, w.before #[Value.ref b] s = true := fun w h => hts0 w (wsL_law_in w h)
  have hbA : ¬ l_A s b := Nat.not_le.mpr hbl
  obtain ⟨N, hN⟩ := hr0.1
  refine lv_aload_n hx hb dL_law_459 rfl (lv_at hl 2 rfl) ?_
  refine lv_aload_n hx hb dL_law_460 rfl (lv_at hl 1 rfl) ?_
  refine lv_iload_n hx hb dL_law_461 rfl (lv_at hl 0 rfl) ?_
  refine lv_iconst (v := 1) hx hb dL_law_462 (by decide) ?_
  refine lv_iadd hx hb dL_law_463 ?_
  refine va_sld hx hb hX hbl hbA I.2.2.2.2.2 (i := nI i + nI 1) (l_in (by omega) hL) dL_law_464 ?_
  rw [l_ix i 1 (by omega)]
  refine lv_aload_n hx hb dL_law_465 rfl (lv_at hl 1 rfl) ?_
  refine lv_iload_n hx hb dL_law_466 rfl (lv_at hl 0 rfl) ?_
  refine lv_iconst (v := 2) hx hb dL_law_467 (by decide) ?_
  refine lv_iadd hx hb dL_law_468 ?_
  refine va_sld hx hb hX hbl hbA I.2.2.2.2.2 (i := nI i + nI 2) (l_in (by omega) hL) dL_law_469 ?_
  rw [l_ix i 2 (by omega)]
  refine l_calli (rest := []) (mc := 0) (ms := 0) ⟨hx, hb, hml, hown, hts⟩ (l_C_i (fun A ρ σ ra L f => c_X2_order l D oc ap cB cR cU A ρ σ ra L f M z (xs (i + 1)) (xs (i + 2)) N hN)) (cwV 2 hts gL_law_X2_order rfl rfl rfl (by decide +kernel) ⟨Nat.le_of_ble_eq_true rfl, Nat.le_of_ble_eq_true rfl⟩) hNw I rfl hl.1 rfl (Nat.le_of_ble_eq_true rfl) dL_law_470 ⟨show kc + 0 ≤ 678364 by omega, show ks + 0 ≤ 7067155 by omega⟩ (fun r1 S1 z1 H locs p1 I => ?_)
  refine lv_aload_n hx hb dL_law_473 rfl (lv_at hl 3 rfl) ?_
  refine lv_aload_n hx hb dL_law_474 rfl (lv_at hl 1 rfl) ?_
  refine lv_iload_n hx hb dL_law_475 rfl (lv_at hl 0 rfl) ?_
  refine lv_iconst (v := 1) hx hb dL_law_476 (by decide) ?_
  refine lv_iadd hx hb dL_law_477 ?_
  refine va_sld hx hb hX hbl hbA I.2.2.2.2.2 (i := nI i + nI 1) (l_in (by omega) hL) dL_law_478 ?_
  rw [l_ix i 1 (by omega)]
  refine lv_aload_n hx hb dL_law_479 rfl (lv_at hl 1 rfl) ?_
  refine lv_iload_n hx hb dL_law_480 rfl (lv_at hl 0 rfl) ?_
  refine lv_iconst (v := 2) hx hb dL_law_481 (by decide) ?_
  refine lv_iadd hx hb dL_law_482 ?_
  refine va_sld hx hb hX hbl hbA I.2.2.2.2.2 (i := nI i + nI 2) (l_in (by omega) hL) dL_law_483 ?_
  rw [l_ix i 2 (by omega)]
  refine l_mi (rest := [.int r1]) ⟨hx, hb, hml, hown, hts⟩ (c_X3_order l D om ad cA M (xs (i + 1)) (xs (i + 2)) N hN) (cwV 2 hts gL_law_X3_order rfl rfl rfl (by decide +kernel) ⟨Nat.le_of_ble_eq_true rfl, Nat.le_of_ble_eq_true rfl⟩) I rfl hl.1 rfl (Nat.le_of_ble_eq_true rfl) dL_law_484 ⟨show kc + 0 ≤ 678364 by omega, show ks + 0 ≤ 7067155 by omega⟩ (fun r2 M1 H locs p2 I => ?_)
  have e1 : r1 = r2 := (congrArg Prod.fst p1).trans p2.1.symm
  have e2 := congrArg Prod.snd p1
  have ee : e_eq S1 M1 := by rw [show S1 = _ from e2]; exact p2.2
  have hr1 : r_ok M1 := r_eq (r_order hr0 (xs (i + 1)) (xs (i + 2))) p2.2
  have I := l_I_eq ee I
  refine lv_icmp_eq (tgt := 660) hx hb dL_law_487 (by decide) (fun _ => ?_) (fun w => absurd e1 w)
  exact K M1 z1 _ _ H locs hr1 (by omega) (by omega) I
