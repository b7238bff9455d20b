set_option maxHeartbeats 4000000 in
set_option maxRecDepth 100000 in
theorem l_loop {p : Program} {l : Launch} {e : Env} {s : State} {m : MethodId} {below : List Frame} {meth : Method} {c : Code} {D : va_G} {om oc : Nat} {ad ap : Nat → Nat} {cA cB cR cU : ClassId} {b L0 : Nat} {xs : Nat → Int32} (hL : L0 ≤ 2560) (C0 : lw_At p s m meth c b L0 xs) (hNw : va_Nw (.castable "[I" "java/lang/Cloneable") s) : ∀ (d i kc ks : Nat) (M : tr_S) (z : tr_Z) (H : Heap) (locs : List Loc) (ls : Array Slot), L0 < i + d → i ≤ L0 → kc ≤ 30 + 2 * i → ks ≤ 1200 + 11 * i → r_ok M → l_I D om ad cA oc ap cB cR cU M M z s H locs → lv_has ls 4 [(3, .int (nI i)), (0, .ref b), (1, .ref oc), (2, .ref om)] → W p l e room_1 s m #[Value.ref b] below meth c H locs kc ks (lw_Z below #[Value.ref b] s) (F0 m 18 ls []) := by
  intro d
  induction d with
  | zero => intro i kc ks M z H locs ls hd hi; omega
  | succ d ih =>
    intro i kc ks M z H locs ls hd hi hkc hks hr0 I hl
    obtain ⟨hx, hb, hr, hml, hown, hts0, hX, hbl, hlocks, hgv⟩ := id C0
    have hbA : ¬ l_A s b := Nat.not_le.mpr hbl
    refine lv_iload_n hx hb dL_law_18 rfl (lv_at hl 0 rfl) ?_
    refine lv_aload_n hx hb dL_law_19 rfl (lv_at hl 1 rfl) ?_
    refine va_slen hx hb hX hbl hbA I.2.2.2.2.2 dL_law_20 ?_
    refine lv_iconst (v := 5) hx hb dL_law_21 (by decide) ?_
    refine lv_isub hx hb dL_law_22 ?_
    refine lv_icmp_gt (tgt := 666) hx hb dL_law_23 (by decide) (fun c23 => ?_) (fun c23 => ?_)
    · refine lv_iconst (v := 1) hx hb dL_law_666 (by decide) ?_
      refine va_forget (fun q hq => I.2.2.2.2.2.2.2 q hq) ?_
      refine W.widen (k := 678364) (n := 7067155) (by omega) (by omega) ?_
      exact lw_ret hx hb hr hlocks dL_law_667
    have hi5 : i + 5 ≤ L0 := l_end hL (by omega) c23
    have K : ∀ (M1 : tr_S) (z1 : tr_Z) (kc1 ks1 : Nat) (H1 : Heap) (locs1 : List Loc), r_ok M1 → kc1 ≤ kc + 2 → ks1 ≤ ks + 11 → l_I D om ad cA oc ap cB cR cU M1 M1 z1 s H1 locs1 → W p l e room_1 s m #[Value.ref b] below meth c H1 locs1 kc1 ks1 (lw_Z below #[Value.ref b] s) (F0 m 660 ls []) := by
      intro M1 z1 kc1 ks1 H1 locs1 hr1 h1 h2 I1
      refine lv_iinc (v := nI i + 5) (lv' := [(3, .int (nI i + 5)), (0, .ref b), (1, .ref oc), (2, .ref om)]) hx hb dL_law_660 hl (k := 0) rfl rfl (by decide) rfl (fun ls hl => ?_)
      refine lv_goto (tgt := 18) hx hb dL_law_663 (by decide) ?_
      rw [show nI i + 5 = nI (i + 5) from nI_add i 5] at hl
      exact ih (i + 5) kc1 ks1 M1 z1 H1 locs1 ls (by omega) hi5 (by omega) (by omega) hr1 I1 hl
    refine lv_aload_n hx hb dL_law_26 rfl (lv_at hl 1 rfl) ?_
    refine lv_iload_n hx hb dL_law_27 rfl (lv_at hl 0 rfl) ?_
    refine va_sld hx hb hX hbl hbA I.2.2.2.2.2 (vp_in_nI (show i < L0 by omega) (by omega)) dL_law_28 ?_
    refine lv_bipush (v := 31) hx hb dL_law_29 (by decide) ?_
    refine lv_iand hx hb dL_law_31 ?_
    generalize (xs (nI i).toNatClampNeg &&& 31) = x
    by_cases k_0 : x = 0
    · refine lv_tableIn (tgt := 116) hx hb dL_law_32 (by rw [k_0]; decide) (by rw [k_0]; decide) (off := 84) (by rw [k_0]; rfl) (by decide) ?_
      exact l_case0 hL C0 hNw hi5 hkc hks hr0 I hl K
    by_cases k_1 : x = 1
    · refine lv_tableIn (tgt := 150) hx hb dL_law_32 (by rw [k_1]; decide) (by rw [k_1]; decide) (off := 118) (by rw [k_1]; rfl) (by decide) ?_
      exact l_case1 hL C0 hNw hi5 hkc hks hr0 I hl K
    by_cases k_2 : x = 2
    · refine lv_tableIn (tgt := 174) hx hb dL_law_32 (by rw [k_2]; decide) (by rw [k_2]; decide) (off := 142) (by rw [k_2]; rfl) (by decide) ?_
      exact l_case2 hL C0 hNw hi5 hkc hks hr0 I hl K
    by_cases k_3 : x = 3
    · refine lv_tableIn (tgt := 207) hx hb dL_law_32 (by rw [k_3]; decide) (by rw [k_3]; decide) (off := 175) (by rw [k_3]; rfl) (by decide) ?_
      exact l_case3 hL C0 hNw hi5 hkc hks hr0 I hl K
    by_cases k_4 : x = 4
    · refine lv_tableIn (tgt := 240) hx hb dL_law_32 (by rw [k_4]; decide) (by rw [k_4]; decide) (off := 208) (by rw [k_4]; rfl) (by decide) ?_
      exact l_case4 hL C0 hNw hi5 hkc hks hr0 I hl K
    by_cases k_5 : x = 5
    · refine lv_tableIn (tgt := 283) hx hb dL_law_32 (by rw [k_5]; decide) (by rw [k_5]; decide) (off := 251) (by rw [k_5]; rfl) (by decide) ?_
      exact l_case5 hL C0 hNw hi5 hkc hks hr0 I hl K
    by_cases k_6 : x = 6
    · refine lv_tableIn (tgt := 317) hx hb dL_law_32 (by rw [k_6]; decide) (by rw [k_6]; decide) (off := 285) (by rw [k_6]; rfl) (by decide) ?_
      exact l_case6 hL C0 hNw hi5 hkc hks hr0 I hl K
    by_cases k_7 : x = 7
    · refine lv_tableIn (tgt := 360) hx hb dL_law_32 (by rw [k_7]; decide) (by rw [k_7]; decide) (off := 328) (by rw [k_7]; rfl) (by decide) ?_
      exact l_case7 hL C0 hNw hi5 hkc hks hr0 I hl K
    by_cases k_8 : x = 8
    · refine lv_tableIn (tgt := 393) hx hb dL_law_32 (by rw [k_8]; decide) (by rw [k_8]; decide) (off := 361) (by rw [k_8]; rfl) (by decide) ?_
      exact l_case8 hL C0 hNw hi5 hkc hks hr0 I hl K
    by_cases k_9 : x = 9
    · refine lv_tableIn (tgt := 426) hx hb dL_law_32 (by rw [k_9]; decide) (by rw [k_9]; decide) (off := 394) (by rw [k_9]; rfl) (by decide) ?_
      exact l_case9 hL C0 hNw hi5 hkc hks hr0 I hl K
    by_cases k_10 : x = 10
    · refine lv_tableIn (tgt := 459) hx hb dL_law_32 (by rw [k_10]; decide) (by rw [k_10]; decide) (off := 427) (by rw [k_10]; rfl) (by decide) ?_
      exact l_case10 hL C0 hNw hi5 hkc hks hr0 I hl K
    by_cases k_11 : x = 11
    · refine lv_tableIn (tgt := 492) hx hb dL_law_32 (by rw [k_11]; decide) (by rw [k_11]; decide) (off := 460) (by rw [k_11]; rfl) (by decide) ?_
      exact l_case11 hL C0 hNw hi5 hkc hks hr0 I hl K
    by_cases k_12 : x = 12
    · refine lv_tableIn (tgt := 535) hx hb dL_law_32 (by rw [k_12]; decide) (by rw [k_12]; decide) (off := 503) (by rw [k_12]; rfl) (by decide) ?_
      exact l_case12 hL C0 hNw hi5 hkc hks hr0 I hl K
    by_cases k_13 : x = 13
    · refine lv_tableIn (tgt := 588) hx hb dL_law_32 (by rw [k_13]; decide) (by rw [k_13]; decide) (off := 556) (by rw [k_13]; rfl) (by decide) ?_
      exact l_case13 hL C0 hNw hi5 hkc hks hr0 I hl K
    by_cases k_14 : x = 14
    · refine lv_tableIn (tgt := 601) hx hb dL_law_32 (by rw [k_14]; decide) (by rw [k_14]; decide) (off := 569) (by rw [k_14]; rfl) (by decide) ?_
      exact l_case14 hL C0 hNw hi5 hkc hks hr0 I hl K
    by_cases k_15 : x = 15
    · refine lv_tableIn (tgt := 614) hx hb dL_law_32 (by rw [k_15]; decide) (by rw [k_15]; decide) (off := 582) (by rw [k_15]; rfl) (by decide) ?_
      exact l_case15 hL C0 hNw hi5 hkc hks hr0 I hl K
    by_cases k_16 : x = 16
    · refine lv_tableIn (tgt := 637) hx hb dL_law_32 (by rw [k_16]; decide) (by rw [k_16]; decide) (off := 605) (by rw [k_16]; rfl) (by decide) ?_
      exact l_case16 hL C0 hNw hi5 hkc hks hr0 I hl K
    refine lv_tableOut (tgt := 660) hx hb dL_law_32 (by have t0 := lv_neT k_0 (a := 0) rfl; have t1 := lv_neT k_1 (a := 1) rfl; have t2 := lv_neT k_2 (a := 2) rfl; have t3 := lv_neT k_3 (a := 3) rfl; have t4 := lv_neT k_4 (a := 4) rfl; have t5 := lv_neT k_5 (a := 5) rfl; have t6 := lv_neT k_6 (a := 6) rfl; have t7 := lv_neT k_7 (a := 7) rfl; have t8 := lv_neT k_8 (a := 8) rfl; have t9 := lv_neT k_9 (a := 9) rfl; have t10 := lv_neT k_10 (a := 10) rfl; have t11 := lv_neT k_11 (a := 11) rfl; have t12 := lv_neT k_12 (a := 12) rfl; have t13 := lv_neT k_13 (a := 13) rfl; have t14 := lv_neT k_14 (a := 14) rfl; have t15 := lv_neT k_15 (a := 15) rfl; have t16 := lv_neT k_16 (a := 16) rfl; omega) (by decide) ?_
    exact K M z kc ks H locs hr0 (by omega) (by omega) I
