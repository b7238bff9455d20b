set_option maxHeartbeats 4000000 in
set_option maxRecDepth 100000 in
theorem l_case11 {p : Program} {l : Launch} {e : Env} {s : State} {m : MethodId} {below : List Frame} {meth : Method} {c : Code} {D : va_G} {om oc : Nat} {ad ap : Nat → Nat} {cA cB cR cU : ClassId} {b L0 : Nat} {xs : Nat → Int32} (hL : L0 ≤ 2560) (C0 : lw_At p s m meth c b L0 xs) (hNw : va_Nw (.castable "[I" "java/lang/Cloneable") s) {i kc ks : Nat} {M : tr_S} {z : tr_Z} {H : Heap} {locs : List Loc} {ls : Array Slot} (hi : i + 5 ≤ L0) (hkc : kc ≤ 30 + 2 * i) (hks : ks ≤ 1200 + 11 * i) (hr0 : r_ok M) (I : l_I D om ad cA oc ap cB cR cU M M z s H locs) (hl : lv_has ls 4 [(3, .int (nI i)), (0, .ref b), (1, .ref oc), (2, .ref om)]) (K : ∀ (M1 : tr_S) (z1 : tr_Z) (kc1 ks1 : Nat) (H1 : Heap) (locs1 : List Loc), r_ok M1 → kc1 ≤ kc + 2 → ks1 ≤ ks + 11 → l_I D om ad cA oc ap cB cR cU M1 M1 z1 s H1 locs1 → W p l e room_1 s m #[Value.ref b] below meth c H1 locs1 kc1 ks1 (lw_Z below #[Value.ref b] s) (F0 m 660 ls [])) : W p l e room_1 s m #[Value.ref b] below meth c H locs kc ks (lw_Z below #[Value.ref b] s) (F0 m 492 ls []) := by
  obtain ⟨hx, hb, hr, hml, hown, hts0, hX, hbl, hlocks, hgv⟩ := C0
  have hts : ∀ w ∈ wsL_law, w.before #[Value.ref b] s = true := fun w h => hts0 w (wsL_law_in w h)
  have hbA : ¬ l_A s b := Nat.not_le.mpr hbl
  obtain ⟨N, hN⟩ := hr0.1
  refine lv_aload_n hx hb dL_law_492 rfl (lv_at hl 2 rfl) ?_
  refine lv_aload_n hx hb dL_law_493 rfl (lv_at hl 1 rfl) ?_
  refine lv_iload_n hx hb dL_law_494 rfl (lv_at hl 0 rfl) ?_
  refine lv_iconst (v := 1) hx hb dL_law_495 (by decide) ?_
  refine lv_iadd hx hb dL_law_496 ?_
  refine va_sld hx hb hX hbl hbA I.2.2.2.2.2 (i := nI i + nI 1) (l_in (by omega) hL) dL_law_497 ?_
  rw [l_ix i 1 (by omega)]
  refine lv_aload_n hx hb dL_law_498 rfl (lv_at hl 1 rfl) ?_
  refine lv_iload_n hx hb dL_law_499 rfl (lv_at hl 0 rfl) ?_
  refine lv_iconst (v := 2) hx hb dL_law_500 (by decide) ?_
  refine lv_iadd hx hb dL_law_501 ?_
  refine va_sld hx hb hX hbl hbA I.2.2.2.2.2 (i := nI i + nI 2) (l_in (by omega) hL) dL_law_502 ?_
  rw [l_ix i 2 (by omega)]
  refine lv_aload_n hx hb dL_law_503 rfl (lv_at hl 1 rfl) ?_
  refine lv_iload_n hx hb dL_law_504 rfl (lv_at hl 0 rfl) ?_
  refine lv_iconst (v := 3) hx hb dL_law_505 (by decide) ?_
  refine lv_iadd hx hb dL_law_506 ?_
  refine va_sld hx hb hX hbl hbA I.2.2.2.2.2 (i := nI i + nI 3) (l_in (by omega) hL) dL_law_507 ?_
  rw [l_ix i 3 (by omega)]
  refine l_calli (rest := []) (mc := 0) (ms := 0) ⟨hx, hb, hml, hown, hts⟩ (l_C_i (fun A ρ σ ra L f => c_X2_fold l D oc ap cB cR cU A ρ σ ra L f M z (xs (i + 1)) (xs (i + 2)) (xs (i + 3)) N hN)) (cwV 3 hts gL_law_X2_fold rfl rfl rfl (by decide +kernel) ⟨Nat.le_of_ble_eq_true rfl, Nat.le_of_ble_eq_true rfl⟩) hNw I rfl hl.1 rfl (Nat.le_of_ble_eq_true rfl) dL_law_508 ⟨show kc + 0 ≤ 678364 by omega, show ks + 0 ≤ 7067155 by omega⟩ (fun r1 S1 z1 H locs p1 I => ?_)
  refine lv_aload_n hx hb dL_law_511 rfl (lv_at hl 3 rfl) ?_
  refine lv_aload_n hx hb dL_law_512 rfl (lv_at hl 1 rfl) ?_
  refine lv_iload_n hx hb dL_law_513 rfl (lv_at hl 0 rfl) ?_
  refine lv_iconst (v := 1) hx hb dL_law_514 (by decide) ?_
  refine lv_iadd hx hb dL_law_515 ?_
  refine va_sld hx hb hX hbl hbA I.2.2.2.2.2 (i := nI i + nI 1) (l_in (by omega) hL) dL_law_516 ?_
  rw [l_ix i 1 (by omega)]
  refine lv_aload_n hx hb dL_law_517 rfl (lv_at hl 1 rfl) ?_
  refine lv_iload_n hx hb dL_law_518 rfl (lv_at hl 0 rfl) ?_
  refine lv_iconst (v := 2) hx hb dL_law_519 (by decide) ?_
  refine lv_iadd hx hb dL_law_520 ?_
  refine va_sld hx hb hX hbl hbA I.2.2.2.2.2 (i := nI i + nI 2) (l_in (by omega) hL) dL_law_521 ?_
  rw [l_ix i 2 (by omega)]
  refine lv_aload_n hx hb dL_law_522 rfl (lv_at hl 1 rfl) ?_
  refine lv_iload_n hx hb dL_law_523 rfl (lv_at hl 0 rfl) ?_
  refine lv_iconst (v := 3) hx hb dL_law_524 (by decide) ?_
  refine lv_iadd hx hb dL_law_525 ?_
  refine va_sld hx hb hX hbl hbA I.2.2.2.2.2 (i := nI i + nI 3) (l_in (by omega) hL) dL_law_526 ?_
  rw [l_ix i 3 (by omega)]
  refine l_mi (rest := [.int r1]) ⟨hx, hb, hml, hown, hts⟩ (c_X3_fold l D om ad cA M (xs (i + 1)) (xs (i + 2)) (xs (i + 3)) N hN) (cwV 3 hts gL_law_X3_fold rfl rfl rfl (by decide +kernel) ⟨Nat.le_of_ble_eq_true rfl, Nat.le_of_ble_eq_true rfl⟩) I rfl hl.1 rfl (Nat.le_of_ble_eq_true rfl) dL_law_527 ⟨show kc + 0 ≤ 678364 by omega, show ks + 0 ≤ 7067155 by omega⟩ (fun r2 M1 H locs p2 I => ?_)
  have e1 : r1 = r2 := (congrArg Prod.fst p1).trans (congrArg Prod.fst p2).symm
  have e2 := congrArg Prod.snd p1
  have e3 := congrArg Prod.snd p2
  have ee : e_eq S1 M1 := by rw [show S1 = _ from e2, show M1 = _ from e3]; exact e_eq.rf _
  have hr1 : r_ok M1 := by rw [show M1 = _ from e3]; exact r_fold hr0 (xs (i + 1)) (xs (i + 2)) (xs (i + 3))
  have I := l_I_eq ee I
  refine lv_icmp_eq (tgt := 660) hx hb dL_law_530 (by decide) (fun _ => ?_) (fun w => absurd e1 w)
  exact K M1 z1 _ _ H locs hr1 (by omega) (by omega) I
set_option maxHeartbeats 4000000 in
set_option maxRecDepth 100000 in
theorem l_case12 {p : Program} {l : Launch} {e : Env} {s : State} {m : MethodId} {below : List Frame} {meth : Method} {c : Code} {D : va_G} {om oc : Nat} {ad ap : Nat → Nat} {cA cB cR cU : ClassId} {b L0 : Nat} {xs : Nat → Int32} (hL : L0 ≤ 2560) (C0 : lw_At p s m meth c b L0 xs) (hNw : va_Nw (.castable "[I" "java/lang/Cloneable") s) {i kc ks : Nat} {M : tr_S} {z : tr_Z} {H : Heap} {locs : List Loc} {ls : Array Slot} (hi : i + 5 ≤ L0) (hkc : kc ≤ 30 + 2 * i) (hks : ks ≤ 1200 + 11 * i) (hr0 : r_ok M) (I : l_I D om ad cA oc ap cB cR cU M M z s H locs) (hl : lv_has ls 4 [(3, .int (nI i)), (0, .ref b), (1, .ref oc), (2, .ref om)]) (K : ∀ (M1 : tr_S) (z1 : tr_Z) (kc1 ks1 : Nat) (H1 : Heap) (locs1 : List Loc), r_ok M1 → kc1 ≤ kc + 2 → ks1 ≤ ks + 11 → l_I D om ad cA oc ap cB cR cU M1 M1 z1 s H1 locs1 → W p l e room_1 s m #[Value.ref b] below meth c H1 locs1 kc1 ks1 (lw_Z below #[Value.ref b] s) (F0 m 660 ls [])) : W p l e room_1 s m #[Value.ref b] below meth c H locs kc ks (lw_Z below #[Value.ref b] s) (F0 m 535 ls []) := by
  obtain ⟨hx, hb, hr, hml, hown, hts0, hX, hbl, hlocks, hgv⟩ := C0
  have hts : ∀ w ∈ wsL_law, w.before #[Value.ref b] s = true := fun w h => hts0 w (wsL_law_in w h)
  have hbA : ¬ l_A s b := Nat.not_le.mpr hbl
  obtain ⟨N, hN⟩ := hr0.1
  refine lv_aload_n hx hb dL_law_535 rfl (lv_at hl 2 rfl) ?_
  refine lv_aload_n hx hb dL_law_536 rfl (lv_at hl 1 rfl) ?_
  refine lv_iload_n hx hb dL_law_537 rfl (lv_at hl 0 rfl) ?_
  refine lv_iconst (v := 1) hx hb dL_law_538 (by decide) ?_
  refine lv_iadd hx hb dL_law_539 ?_
  refine va_sld hx hb hX hbl hbA I.2.2.2.2.2 (i := nI i + nI 1) (l_in (by omega) hL) dL_law_540 ?_
  rw [l_ix i 1 (by omega)]
  refine lv_aload_n hx hb dL_law_541 rfl (lv_at hl 1 rfl) ?_
  refine lv_iload_n hx hb dL_law_542 rfl (lv_at hl 0 rfl) ?_
  refine lv_iconst (v := 2) hx hb dL_law_543 (by decide) ?_
  refine lv_iadd hx hb dL_law_544 ?_
  refine va_sld hx hb hX hbl hbA I.2.2.2.2.2 (i := nI i + nI 2) (l_in (by omega) hL) dL_law_545 ?_
  rw [l_ix i 2 (by omega)]
  refine lv_aload_n hx hb dL_law_546 rfl (lv_at hl 1 rfl) ?_
  refine lv_iload_n hx hb dL_law_547 rfl (lv_at hl 0 rfl) ?_
  refine lv_iconst (v := 3) hx hb dL_law_548 (by decide) ?_
  refine lv_iadd hx hb dL_law_549 ?_
  refine va_sld hx hb hX hbl hbA I.2.2.2.2.2 (i := nI i + nI 3) (l_in (by omega) hL) dL_law_550 ?_
  rw [l_ix i 3 (by omega)]
  refine lv_aload_n hx hb dL_law_551 rfl (lv_at hl 1 rfl) ?_
  refine lv_iload_n hx hb dL_law_552 rfl (lv_at hl 0 rfl) ?_
  refine lv_iconst (v := 4) hx hb dL_law_553 (by decide) ?_
  refine lv_iadd hx hb dL_law_554 ?_
  refine va_sld hx hb hX hbl hbA I.2.2.2.2.2 (i := nI i + nI 4) (l_in (by omega) hL) dL_law_555 ?_
  rw [l_ix i 4 (by omega)]
  refine l_calli (rest := []) (mc := 0) (ms := 0) ⟨hx, hb, hml, hown, hts⟩ (l_C_i (fun A ρ σ ra L f => c_X2_until l D oc ap cB cR cU A ρ σ ra L f M z (xs (i + 1)) (xs (i + 2)) (xs (i + 3)) (xs (i + 4)) N hN)) (cwV 4 hts gL_law_X2_until rfl rfl rfl (by decide +kernel) ⟨Nat.le_of_ble_eq_true rfl, Nat.le_of_ble_eq_true rfl⟩) hNw I rfl hl.1 rfl (Nat.le_of_ble_eq_true rfl) dL_law_556 ⟨show kc + 0 ≤ 678364 by omega, show ks + 0 ≤ 7067155 by omega⟩ (fun r1 S1 z1 H locs p1 I => ?_)
  refine lv_aload_n hx hb dL_law_559 rfl (lv_at hl 3 rfl) ?_
  refine lv_aload_n hx hb dL_law_560 rfl (lv_at hl 1 rfl) ?_
  refine lv_iload_n hx hb dL_law_561 rfl (lv_at hl 0 rfl) ?_
  refine lv_iconst (v := 1) hx hb dL_law_562 (by decide) ?_
  refine lv_iadd hx hb dL_law_563 ?_
  refine va_sld hx hb hX hbl hbA I.2.2.2.2.2 (i := nI i + nI 1) (l_in (by omega) hL) dL_law_564 ?_
  rw [l_ix i 1 (by omega)]
  refine lv_aload_n hx hb dL_law_565 rfl (lv_at hl 1 rfl) ?_
  refine lv_iload_n hx hb dL_law_566 rfl (lv_at hl 0 rfl) ?_
  refine lv_iconst (v := 2) hx hb dL_law_567 (by decide) ?_
  refine lv_iadd hx hb dL_law_568 ?_
  refine va_sld hx hb hX hbl hbA I.2.2.2.2.2 (i := nI i + nI 2) (l_in (by omega) hL) dL_law_569 ?_
  rw [l_ix i 2 (by omega)]
  refine lv_aload_n hx hb dL_law_570 rfl (lv_at hl 1 rfl) ?_
  refine lv_iload_n hx hb dL_law_571 rfl (lv_at hl 0 rfl) ?_
  refine lv_iconst (v := 3) hx hb dL_law_572 (by decide) ?_
  refine lv_iadd hx hb dL_law_573 ?_
  refine va_sld hx hb hX hbl hbA I.2.2.2.2.2 (i := nI i + nI 3) (l_in (by omega) hL) dL_law_574 ?_
  rw [l_ix i 3 (by omega)]
  refine lv_aload_n hx hb dL_law_575 rfl (lv_at hl 1 rfl) ?_
  refine lv_iload_n hx hb dL_law_576 rfl (lv_at hl 0 rfl) ?_
  refine lv_iconst (v := 4) hx hb dL_law_577 (by decide) ?_
  refine lv_iadd hx hb dL_law_578 ?_
  refine va_sld hx hb hX hbl hbA I.2.2.2.2.2 (i := nI i + nI 4) (l_in (by omega) hL) dL_law_579 ?_
  rw [l_ix i 4 (by omega)]
  refine l_mi (rest := [.int r1]) ⟨hx, hb, hml, hown, hts⟩ (c_X3_until l D om ad cA M (xs (i + 1)) (xs (i + 2)) (xs (i + 3)) (xs (i + 4)) N hN) (cwV 4 hts gL_law_X3_until rfl rfl rfl (by decide +kernel) ⟨Nat.le_of_ble_eq_true rfl, Nat.le_of_ble_eq_true rfl⟩) I rfl hl.1 rfl (Nat.le_of_ble_eq_true rfl) dL_law_580 ⟨show kc + 0 ≤ 678364 by omega, show ks + 0 ≤ 7067155 by omega⟩ (fun r2 M1 H locs p2 I => ?_)
  have e1 : r1 = r2 := (congrArg Prod.fst p1).trans p2.1.symm
  have e2 := congrArg Prod.snd p1
  have ee : e_eq S1 M1 := by rw [show S1 = _ from e2]; exact p2.2
  have hr1 : r_ok M1 := r_eq (r_until hr0 (xs (i + 1)) (xs (i + 2)) (xs (i + 3)) (xs (i + 4))) p2.2
  have I := l_I_eq ee I
  refine lv_icmp_eq (tgt := 660) hx hb dL_law_583 (by decide) (fun _ => ?_) (fun w => absurd e1 w)
  exact K M1 z1 _ _ H locs hr1 (by omega) (by omega) I
set_option maxHeartbeats 4000000 in
set_option maxRecDepth 100000 in
theorem l_case13 {p : Program} {l : Launch} {e : Env} {s : State} {m : MethodId} {below : List Frame} {meth : Method} {c : Code} {D : va_G} {om oc : Nat} {ad ap : Nat → Nat} {cA cB cR cU : ClassId} {b L0 : Nat} {xs : Nat → Int32} (hL : L0 ≤ 2560) (C0 : lw_At p s m meth c b L0 xs) (hNw : va_Nw (.castable "[I" "java/lang/Cloneable") s) {i kc ks : Nat} {M : tr_S} {z : tr_Z} {H : Heap} {locs : List Loc} {ls : Array Slot} (hi : i + 5 ≤ L0) (hkc : kc ≤ 30 + 2 * i) (hks : ks ≤ 1200 + 11 * i) (hr0 : r_ok M) (I : l_I D om ad cA oc ap cB cR cU M M z s H locs) (hl : lv_has ls 4 [(3, .int (nI i)), (0, .ref b), (1, .ref oc), (2, .ref om)]) (K : ∀ (M1 : tr_S) (z1 : tr_Z) (kc1 ks1 : Nat) (H1 : Heap) (locs1 : List Loc), r_ok M1 → kc1 ≤ kc + 2 → ks1 ≤ ks + 11 → l_I D om ad cA oc ap cB cR cU M1 M1 z1 s H1 locs1 → W p l e room_1 s m #[Value.ref b] below meth c H1 locs1 kc1 ks1 (lw_Z below #[Value.ref b] s) (F0 m 660 ls [])) : W p l e room_1 s m #[Value.ref b] below meth c H locs kc ks (lw_Z below #[Value.ref b] s) (F0 m 588 ls []) := by
  obtain ⟨hx, hb, hr, hml, hown, hts0, hX, hbl, hlocks, hgv⟩ := C0
  have hts : ∀ w ∈ wsL_law, w.before #[Value.ref b] s = true := fun w h => hts0 w (wsL_law_in w h)
  have hbA : ¬ l_A s b := Nat.not_le.mpr hbl
  obtain ⟨N, hN⟩ := hr0.1
  refine lv_aload_n hx hb dL_law_588 rfl (lv_at hl 2 rfl) ?_
  refine l_calli (rest := []) (mc := 0) (ms := 0) ⟨hx, hb, hml, hown, hts⟩ (l_C_i (fun A ρ σ ra L f => c_X2_result l D oc ap cB cR cU A ρ σ ra L f M z  )) (cwV 0 hts gL_law_X2_result rfl rfl rfl (by decide +kernel) ⟨Nat.le_of_ble_eq_true rfl, Nat.le_of_ble_eq_true rfl⟩) hNw I rfl hl.1 rfl (Nat.le_of_ble_eq_true rfl) dL_law_589 ⟨show kc + 0 ≤ 678364 by omega, show ks + 0 ≤ 7067155 by omega⟩ (fun r1 S1 z1 H locs p1 I => ?_)
  refine lv_aload_n hx hb dL_law_592 rfl (lv_at hl 3 rfl) ?_
  refine l_mi (rest := [.int r1]) ⟨hx, hb, hml, hown, hts⟩ (c_X3_result l D om ad cA M  ) (cwV 0 hts gL_law_X3_result rfl rfl rfl (by decide +kernel) ⟨Nat.le_of_ble_eq_true rfl, Nat.le_of_ble_eq_true rfl⟩) I rfl hl.1 rfl (Nat.le_of_ble_eq_true rfl) dL_law_593 ⟨show kc + 0 ≤ 678364 by omega, show ks + 0 ≤ 7067155 by omega⟩ (fun r2 M1 H locs p2 I => ?_)
  have e1 : r1 = r2 := p1.1.trans p2.1.symm
  have e2 : S1 = M := p1.2
  have e3 : M1 = M := p2.2
  have ee : e_eq S1 M1 := by rw [e2, e3]; exact e_eq.rf _
  have hr1 : r_ok M1 := by rw [e3]; exact hr0
  have I := l_I_eq ee I
  refine lv_icmp_eq (tgt := 660) hx hb dL_law_596 (by decide) (fun _ => ?_) (fun w => absurd e1 w)
  exact K M1 z1 _ _ H locs hr1 (by omega) (by omega) I
set_option maxHeartbeats 4000000 in
set_option maxRecDepth 100000 in
theorem l_case14 {p : Program} {l : Launch} {e : Env} {s : State} {m : MethodId} {below : List Frame} {meth : Method} {c : Code} {D : va_G} {om oc : Nat} {ad ap : Nat → Nat} {cA cB cR cU : ClassId} {b L0 : Nat} {xs : Nat → Int32} (hL : L0 ≤ 2560) (C0 : lw_At p s m meth c b L0 xs) (hNw : va_Nw (.castable "[I" "java/lang/Cloneable") s) {i kc ks : Nat} {M : tr_S} {z : tr_Z} {H : Heap} {locs : List Loc} {ls : Array Slot} (hi : i + 5 ≤ L0) (hkc : kc ≤ 30 + 2 * i) (hks : ks ≤ 1200 + 11 * i) (hr0 : r_ok M) (I : l_I D om ad cA oc ap cB cR cU M M z s H locs) (hl : lv_has ls 4 [(3, .int (nI i)), (0, .ref b), (1, .ref oc), (2, .ref om)]) (K : ∀ (M1 : tr_S) (z1 : tr_Z) (kc1 ks1 : Nat) (H1 : Heap) (locs1 : List Loc), r_ok M1 → kc1 ≤ kc + 2 → ks1 ≤ ks + 11 → l_I D om ad cA oc ap cB cR cU M1 M1 z1 s H1 locs1 → W p l e room_1 s m #[Value.ref b] below meth c H1 locs1 kc1 ks1 (lw_Z below #[Value.ref b] s) (F0 m 660 ls [])) : W p l e room_1 s m #[Value.ref b] below meth c H locs kc ks (lw_Z below #[Value.ref b] s) (F0 m 601 ls []) := by
  obtain ⟨hx, hb, hr, hml, hown, hts0, hX, hbl, hlocks, hgv⟩ := C0
  have hts : ∀ w ∈ wsL_law, w.before #[Value.ref b] s = true := fun w h => hts0 w (wsL_law_in w h)
  have hbA : ¬ l_A s b := Nat.not_le.mpr hbl
  obtain ⟨N, hN⟩ := hr0.1
  refine lv_aload_n hx hb dL_law_601 rfl (lv_at hl 2 rfl) ?_
  refine l_calli (rest := []) (mc := 0) (ms := 0) ⟨hx, hb, hml, hown, hts⟩ (l_C_i (fun A ρ σ ra L f => c_X2_steps l D oc ap cB cR cU A ρ σ ra L f M z  )) (cwV 0 hts gL_law_X2_steps rfl rfl rfl (by decide +kernel) ⟨Nat.le_of_ble_eq_true rfl, Nat.le_of_ble_eq_true rfl⟩) hNw I rfl hl.1 rfl (Nat.le_of_ble_eq_true rfl) dL_law_602 ⟨show kc + 0 ≤ 678364 by omega, show ks + 0 ≤ 7067155 by omega⟩ (fun r1 S1 z1 H locs p1 I => ?_)
  refine lv_aload_n hx hb dL_law_605 rfl (lv_at hl 3 rfl) ?_
  refine l_mi (rest := [.int r1]) ⟨hx, hb, hml, hown, hts⟩ (c_X3_steps l D om ad cA M  ) (cwV 0 hts gL_law_X3_steps rfl rfl rfl (by decide +kernel) ⟨Nat.le_of_ble_eq_true rfl, Nat.le_of_ble_eq_true rfl⟩) I rfl hl.1 rfl (Nat.le_of_ble_eq_true rfl) dL_law_606 ⟨show kc + 0 ≤ 678364 by omega, show ks + 0 ≤ 7067155 by omega⟩ (fun r2 M1 H locs p2 I => ?_)
  have e1 : r1 = r2 := p1.1.trans (hr0.2.trans p2.1.symm)
  have e2 : S1 = M := p1.2
  have e3 : M1 = M := p2.2
  have ee : e_eq S1 M1 := by rw [e2, e3]; exact e_eq.rf _
  have hr1 : r_ok M1 := by rw [e3]; exact hr0
  have I := l_I_eq ee I
  refine lv_icmp_eq (tgt := 660) hx hb dL_law_609 (by decide) (fun _ => ?_) (fun w => absurd e1 w)
  exact K M1 z1 _ _ H locs hr1 (by omega) (by omega) I
set_option maxHeartbeats 4000000 in
set_option maxRecDepth 100000 in
theorem l_case15 {p : Program} {l : Launch} {e : Env} {s : State} {m : MethodId} {below : List Frame} {meth : Method} {c : Code} {D : va_G} {om oc : Nat} {ad ap : Nat → Nat} {cA cB cR cU : ClassId} {b L0 : Nat} {xs : Nat → Int32} (hL : L0 ≤ 2560) (C0 : lw_At p s m meth c b L0 xs) (hNw : va_Nw (.castable "[I" "java/lang/Cloneable") s) {i kc ks : Nat} {M : tr_S} {z : tr_Z} {H : Heap} {locs : List Loc} {ls : Array Slot} (hi : i + 5 ≤ L0) (hkc : kc ≤ 30 + 2 * i) (hks : ks ≤ 1200 + 11 * i) (hr0 : r_ok M) (I : l_I D om ad cA oc ap cB cR cU M M z s H locs) (hl : lv_has ls 4 [(3, .int (nI i)), (0, .ref b), (1, .ref oc), (2, .ref om)]) (K : ∀ (M1 : tr_S) (z1 : tr_Z) (kc1 ks1 : Nat) (H1 : Heap) (locs1 : List Loc), r_ok M1 → kc1 ≤ kc + 2 → ks1 ≤ ks + 11 → l_I D om ad cA oc ap cB cR cU M1 M1 z1 s H1 locs1 → W p l e room_1 s m #[Value.ref b] below meth c H1 locs1 kc1 ks1 (lw_Z below #[Value.ref b] s) (F0 m 660 ls [])) : W p l e room_1 s m #[Value.ref b] below meth c H locs kc ks (lw_Z below #[Value.ref b] s) (F0 m 614 ls []) := by
  obtain ⟨hx, hb, hr, hml, hown, hts0, hX, hbl, hlocks, hgv⟩ := C0
  have hts : ∀ w ∈ wsL_law, w.before #[Value.ref b] s = true := fun w h => hts0 w (wsL_law_in w h)
  have hbA : ¬ l_A s b := Nat.not_le.mpr hbl
  obtain ⟨N, hN⟩ := hr0.1
  refine lv_aload_n hx hb dL_law_614 rfl (lv_at hl 2 rfl) ?_
  refine lv_aload_n hx hb dL_law_615 rfl (lv_at hl 1 rfl) ?_
  refine lv_iload_n hx hb dL_law_616 rfl (lv_at hl 0 rfl) ?_
  refine lv_iconst (v := 1) hx hb dL_law_617 (by decide) ?_
  refine lv_iadd hx hb dL_law_618 ?_
  refine va_sld hx hb hX hbl hbA I.2.2.2.2.2 (i := nI i + nI 1) (l_in (by omega) hL) dL_law_619 ?_
  rw [l_ix i 1 (by omega)]
  refine l_calli (rest := []) (mc := 0) (ms := 0) ⟨hx, hb, hml, hown, hts⟩ (l_C_i (fun A ρ σ ra L f => c_X2_failed l D oc ap cB cR cU A ρ σ ra L f M z (xs (i + 1)) )) (cwV 1 hts gL_law_X2_failed rfl rfl rfl (by decide +kernel) ⟨Nat.le_of_ble_eq_true rfl, Nat.le_of_ble_eq_true rfl⟩) hNw I rfl hl.1 rfl (Nat.le_of_ble_eq_true rfl) dL_law_620 ⟨show kc + 0 ≤ 678364 by omega, show ks + 0 ≤ 7067155 by omega⟩ (fun r1 S1 z1 H locs p1 I => ?_)
  refine lv_aload_n hx hb dL_law_623 rfl (lv_at hl 3 rfl) ?_
  refine lv_aload_n hx hb dL_law_624 rfl (lv_at hl 1 rfl) ?_
  refine lv_iload_n hx hb dL_law_625 rfl (lv_at hl 0 rfl) ?_
  refine lv_iconst (v := 1) hx hb dL_law_626 (by decide) ?_
  refine lv_iadd hx hb dL_law_627 ?_
  refine va_sld hx hb hX hbl hbA I.2.2.2.2.2 (i := nI i + nI 1) (l_in (by omega) hL) dL_law_628 ?_
  rw [l_ix i 1 (by omega)]
  refine l_mi (rest := [.int r1]) ⟨hx, hb, hml, hown, hts⟩ (c_X3_failed_ l D om ad cA M (xs (i + 1)) ) (cwV 1 hts gL_law_X3_failed_ rfl rfl rfl (by decide +kernel) ⟨Nat.le_of_ble_eq_true rfl, Nat.le_of_ble_eq_true rfl⟩) I rfl hl.1 rfl (Nat.le_of_ble_eq_true rfl) dL_law_629 ⟨show kc + 0 ≤ 678364 by omega, show ks + 0 ≤ 7067155 by omega⟩ (fun r2 M1 H locs p2 I => ?_)
  have e1 : r1 = r2 := p1.1.trans p2.1.symm
  have e2 : S1 = M := p1.2
  have e3 : M1 = M := p2.2
  have ee : e_eq S1 M1 := by rw [e2, e3]; exact e_eq.rf _
  have hr1 : r_ok M1 := by rw [e3]; exact hr0
  have I := l_I_eq ee I
  refine lv_icmp_eq (tgt := 660) hx hb dL_law_632 (by decide) (fun _ => ?_) (fun w => absurd e1 w)
  exact K M1 z1 _ _ H locs hr1 (by omega) (by omega) I
set_option maxHeartbeats 4000000 in
set_option maxRecDepth 100000 in
theorem l_case16 {p : Program} {l : Launch} {e : Env} {s : State} {m : MethodId} {below : List Frame} {meth : Method} {c : Code} {D : va_G} {om oc : Nat} {ad ap : Nat → Nat} {cA cB cR cU : ClassId} {b L0 : Nat} {xs : Nat → Int32} (hL : L0 ≤ 2560) (C0 : lw_At p s m meth c b L0 xs) (hNw : va_Nw (.castable "[I" "java/lang/Cloneable") s) {i kc ks : Nat} {M : tr_S} {z : tr_Z} {H : Heap} {locs : List Loc} {ls : Array Slot} (hi : i + 5 ≤ L0) (hkc : kc ≤ 30 + 2 * i) (hks : ks ≤ 1200 + 11 * i) (hr0 : r_ok M) (I : l_I D om ad cA oc ap cB cR cU M M z s H locs) (hl : lv_has ls 4 [(3, .int (nI i)), (0, .ref b), (1, .ref oc), (2, .ref om)]) (K : ∀ (M1 : tr_S) (z1 : tr_Z) (kc1 ks1 : Nat) (H1 : Heap) (locs1 : List Loc), r_ok M1 → kc1 ≤ kc + 2 → ks1 ≤ ks + 11 → l_I D om ad cA oc ap cB cR cU M1 M1 z1 s H1 locs1 → W p l e room_1 s m #[Value.ref b] below meth c H1 locs1 kc1 ks1 (lw_Z below #[Value.ref b] s) (F0 m 660 ls [])) : W p l e room_1 s m #[Value.ref b] below meth c H locs kc ks (lw_Z below #[Value.ref b] s) (F0 m 637 ls []) := by
  obtain ⟨hx, hb, hr, hml, hown, hts0, hX, hbl, hlocks, hgv⟩ := C0
  have hts : ∀ w ∈ wsL_law, w.before #[Value.ref b] s = true := fun w h => hts0 w (wsL_law_in w h)
  have hbA : ¬ l_A s b := Nat.not_le.mpr hbl
  obtain ⟨N, hN⟩ := hr0.1
  refine lv_aload_n hx hb dL_law_637 rfl (lv_at hl 2 rfl) ?_
  refine lv_aload_n hx hb dL_law_638 rfl (lv_at hl 1 rfl) ?_
  refine lv_iload_n hx hb dL_law_639 rfl (lv_at hl 0 rfl) ?_
  refine lv_iconst (v := 1) hx hb dL_law_640 (by decide) ?_
  refine lv_iadd hx hb dL_law_641 ?_
  refine va_sld hx hb hX hbl hbA I.2.2.2.2.2 (i := nI i + nI 1) (l_in (by omega) hL) dL_law_642 ?_
  rw [l_ix i 1 (by omega)]
  refine l_calli (rest := []) (mc := 0) (ms := 0) ⟨hx, hb, hml, hown, hts⟩ (l_C_i (fun A ρ σ ra L f => c_X2_count l D oc ap cB cR cU A ρ σ ra L f M z (xs (i + 1)) )) (cwV 1 hts gL_law_X2_count rfl rfl rfl (by decide +kernel) ⟨Nat.le_of_ble_eq_true rfl, Nat.le_of_ble_eq_true rfl⟩) hNw I rfl hl.1 rfl (Nat.le_of_ble_eq_true rfl) dL_law_643 ⟨show kc + 0 ≤ 678364 by omega, show ks + 0 ≤ 7067155 by omega⟩ (fun r1 S1 z1 H locs p1 I => ?_)
  refine lv_aload_n hx hb dL_law_646 rfl (lv_at hl 3 rfl) ?_
  refine lv_aload_n hx hb dL_law_647 rfl (lv_at hl 1 rfl) ?_
  refine lv_iload_n hx hb dL_law_648 rfl (lv_at hl 0 rfl) ?_
  refine lv_iconst (v := 1) hx hb dL_law_649 (by decide) ?_
  refine lv_iadd hx hb dL_law_650 ?_
  refine va_sld hx hb hX hbl hbA I.2.2.2.2.2 (i := nI i + nI 1) (l_in (by omega) hL) dL_law_651 ?_
  rw [l_ix i 1 (by omega)]
  refine l_mi (rest := [.int r1]) ⟨hx, hb, hml, hown, hts⟩ (c_X3_count l D om ad cA M (xs (i + 1)) ) (cwV 1 hts gL_law_X3_count rfl rfl rfl (by decide +kernel) ⟨Nat.le_of_ble_eq_true rfl, Nat.le_of_ble_eq_true rfl⟩) I rfl hl.1 rfl (Nat.le_of_ble_eq_true rfl) dL_law_652 ⟨show kc + 0 ≤ 678364 by omega, show ks + 0 ≤ 7067155 by omega⟩ (fun r2 M1 H locs p2 I => ?_)
  have e1 : r1 = r2 := p1.1.trans p2.1.symm
  have e2 : S1 = M := p1.2
  have e3 : M1 = M := p2.2
  have ee : e_eq S1 M1 := by rw [e2, e3]; exact e_eq.rf _
  have hr1 : r_ok M1 := by rw [e3]; exact hr0
  have I := l_I_eq ee I
  refine lv_icmp_eq (tgt := 660) hx hb dL_law_655 (by decide) (fun _ => ?_) (fun w => absurd e1 w)
  exact K M1 z1 _ _ H locs hr1 (by omega) (by omega) I
