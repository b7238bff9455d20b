set_option maxHeartbeats 4000000 in
set_option maxRecDepth 100000 in
theorem l_case0 {p : Program} {l : Launch} {e : Env} {s : State} {m : MethodId} {below : List Frame} {meth : Method} {c : Code} {D : va_G} {om oc : Nat} {ad ap : Nat → Nat} {cA cB cR cU : ClassId} {b L0 : Nat} {xs : Nat → Int32} (hL : L0 ≤ 2560) (C0 : lw_At p s m meth c b L0 xs) (hNw : va_Nw (.castable "[I" "java/lang/Cloneable") s) {i kc ks : Nat} {M : tr_S} {z : tr_Z} {H : Heap} {locs : List Loc} {ls : Array Slot} (hi : i + 5 ≤ L0) (hkc : kc ≤ 30 + 2 * i) (hks : ks ≤ 1200 + 11 * i) (hr0 : r_ok M) (I : l_I D om ad cA oc ap cB cR cU M M z s H locs) (hl : lv_has ls 4 [(3, .int (nI i)), (0, .ref b), (1, .ref oc), (2, .ref om)]) (K : ∀ (M1 : tr_S) (z1 : tr_Z) (kc1 ks1 : Nat) (H1 : Heap) (locs1 : List Loc), r_ok M1 → kc1 ≤ kc + 2 → ks1 ≤ ks + 11 → l_I D om ad cA oc ap cB cR cU M1 M1 z1 s H1 locs1 → W p l e room_1 s m #[Value.ref b] below meth c H1 locs1 kc1 ks1 (lw_Z below #[Value.ref b] s) (F0 m 660 ls [])) : W p l e room_1 s m #[Value.ref b] below meth c H locs kc ks (lw_Z below #[Value.ref b] s) (F0 m 116 ls []) := by
  obtain ⟨hx, hb, hr, hml, hown, hts0, hX, hbl, hlocks, hgv⟩ := C0
  have hts : ∀ w ∈ wsL_law, w.before #[Value.ref b] s = true := fun w h => hts0 w (wsL_law_in w h)
  have hbA : ¬ l_A s b := Nat.not_le.mpr hbl
  obtain ⟨N, hN⟩ := hr0.1
  refine lv_aload_n hx hb dL_law_116 rfl (lv_at hl 2 rfl) ?_
  refine lv_aload_n hx hb dL_law_117 rfl (lv_at hl 1 rfl) ?_
  refine lv_iload_n hx hb dL_law_118 rfl (lv_at hl 0 rfl) ?_
  refine lv_iconst (v := 1) hx hb dL_law_119 (by decide) ?_
  refine lv_iadd hx hb dL_law_120 ?_
  refine va_sld hx hb hX hbl hbA I.2.2.2.2.2 (i := nI i + nI 1) (l_in (by omega) hL) dL_law_121 ?_
  rw [l_ix i 1 (by omega)]
  refine lv_aload_n hx hb dL_law_122 rfl (lv_at hl 1 rfl) ?_
  refine lv_iload_n hx hb dL_law_123 rfl (lv_at hl 0 rfl) ?_
  refine lv_iconst (v := 2) hx hb dL_law_124 (by decide) ?_
  refine lv_iadd hx hb dL_law_125 ?_
  refine va_sld hx hb hX hbl hbA I.2.2.2.2.2 (i := nI i + nI 2) (l_in (by omega) hL) dL_law_126 ?_
  rw [l_ix i 2 (by omega)]
  refine l_calll (rest := []) (mc := 0) (ms := 0) ⟨hx, hb, hml, hown, hts⟩ (l_C_l (fun A ρ σ ra L f => c_X2_place l D oc ap cB cR cU A ρ σ ra L f M z (xs (i + 1)) (xs (i + 2)) )) (cwV 2 hts gL_law_X2_place rfl rfl rfl (by decide +kernel) ⟨Nat.le_of_ble_eq_true rfl, Nat.le_of_ble_eq_true rfl⟩) hNw I rfl hl.1 rfl (Nat.le_of_ble_eq_true rfl) dL_law_127 ⟨show kc + 0 ≤ 678364 by omega, show ks + 0 ≤ 7067155 by omega⟩ (fun r1 S1 z1 H locs p1 I => ?_)
  refine lv_aload_n hx hb dL_law_130 rfl (lv_at hl 3 rfl) ?_
  refine lv_aload_n hx hb dL_law_131 rfl (lv_at hl 1 rfl) ?_
  refine lv_iload_n hx hb dL_law_132 rfl (lv_at hl 0 rfl) ?_
  refine lv_iconst (v := 1) hx hb dL_law_133 (by decide) ?_
  refine lv_iadd hx hb dL_law_134 ?_
  refine va_sld hx hb hX hbl hbA I.2.2.2.2.2 (i := nI i + nI 1) (l_in (by omega) hL) dL_law_135 ?_
  rw [l_ix i 1 (by omega)]
  refine lv_aload_n hx hb dL_law_136 rfl (lv_at hl 1 rfl) ?_
  refine lv_iload_n hx hb dL_law_137 rfl (lv_at hl 0 rfl) ?_
  refine lv_iconst (v := 2) hx hb dL_law_138 (by decide) ?_
  refine lv_iadd hx hb dL_law_139 ?_
  refine va_sld hx hb hX hbl hbA I.2.2.2.2.2 (i := nI i + nI 2) (l_in (by omega) hL) dL_law_140 ?_
  rw [l_ix i 2 (by omega)]
  refine l_ml (rest := [.long r1]) ⟨hx, hb, hml, hown, hts⟩ (c_X3_place l D om ad cA M (xs (i + 1)) (xs (i + 2)) ) (cwV 2 hts gL_law_X3_place rfl rfl rfl (by decide +kernel) ⟨Nat.le_of_ble_eq_true rfl, Nat.le_of_ble_eq_true rfl⟩) I rfl hl.1 rfl (Nat.le_of_ble_eq_true rfl) dL_law_141 ⟨show kc + 0 ≤ 678364 by omega, show ks + 0 ≤ 7067155 by omega⟩ (fun r2 M1 H locs p2 I => ?_)
  have e1 : r1 = r2 := (congrArg Prod.fst p1).trans (congrArg Prod.fst p2).symm
  have e2 : S1 = M1 := (congrArg Prod.snd p1).trans (congrArg Prod.snd p2).symm
  have ee : e_eq S1 M1 := by rw [e2]; exact e_eq.rf _
  have hr1 : r_ok M1 := by rw [show M1 = _ from congrArg Prod.snd p2]; exact r_place hr0 (xs (i + 1)) (xs (i + 2))
  have I := l_I_eq ee I
  rw [e1]
  refine W.lcmp hx hb dL_law_144 ?_
  refine lv_if_eq (tgt := 660) hx hb dL_law_145 (by decide) (fun _ => ?_) (fun w => absurd (lg_self r2) w)
  exact K M1 z1 _ _ H locs hr1 (by omega) (by omega) I
set_option maxHeartbeats 4000000 in
set_option maxRecDepth 100000 in
theorem l_case1 {p : Program} {l : Launch} {e : Env} {s : State} {m : MethodId} {below : List Frame} {meth : Method} {c : Code} {D : va_G} {om oc : Nat} {ad ap : Nat → Nat} {cA cB cR cU : ClassId} {b L0 : Nat} {xs : Nat → Int32} (hL : L0 ≤ 2560) (C0 : lw_At p s m meth c b L0 xs) (hNw : va_Nw (.castable "[I" "java/lang/Cloneable") s) {i kc ks : Nat} {M : tr_S} {z : tr_Z} {H : Heap} {locs : List Loc} {ls : Array Slot} (hi : i + 5 ≤ L0) (hkc : kc ≤ 30 + 2 * i) (hks : ks ≤ 1200 + 11 * i) (hr0 : r_ok M) (I : l_I D om ad cA oc ap cB cR cU M M z s H locs) (hl : lv_has ls 4 [(3, .int (nI i)), (0, .ref b), (1, .ref oc), (2, .ref om)]) (K : ∀ (M1 : tr_S) (z1 : tr_Z) (kc1 ks1 : Nat) (H1 : Heap) (locs1 : List Loc), r_ok M1 → kc1 ≤ kc + 2 → ks1 ≤ ks + 11 → l_I D om ad cA oc ap cB cR cU M1 M1 z1 s H1 locs1 → W p l e room_1 s m #[Value.ref b] below meth c H1 locs1 kc1 ks1 (lw_Z below #[Value.ref b] s) (F0 m 660 ls [])) : W p l e room_1 s m #[Value.ref b] below meth c H locs kc ks (lw_Z below #[Value.ref b] s) (F0 m 150 ls []) := by
  obtain ⟨hx, hb, hr, hml, hown, hts0, hX, hbl, hlocks, hgv⟩ := C0
  have hts : ∀ w ∈ wsL_law, w.before #[Value.ref b] s = true := fun w h => hts0 w (wsL_law_in w h)
  have hbA : ¬ l_A s b := Nat.not_le.mpr hbl
  obtain ⟨N, hN⟩ := hr0.1
  refine lv_aload_n hx hb dL_law_150 rfl (lv_at hl 2 rfl) ?_
  refine lv_aload_n hx hb dL_law_151 rfl (lv_at hl 1 rfl) ?_
  refine lv_iload_n hx hb dL_law_152 rfl (lv_at hl 0 rfl) ?_
  refine lv_iconst (v := 1) hx hb dL_law_153 (by decide) ?_
  refine lv_iadd hx hb dL_law_154 ?_
  refine va_sld hx hb hX hbl hbA I.2.2.2.2.2 (i := nI i + nI 1) (l_in (by omega) hL) dL_law_155 ?_
  rw [l_ix i 1 (by omega)]
  refine l_calll (rest := []) (mc := 0) (ms := 0) ⟨hx, hb, hml, hown, hts⟩ (l_C_l (fun A ρ σ ra L f => c_X2_has l D oc ap cB cR cU A ρ σ ra L f M z (xs (i + 1)) )) (cwV 1 hts gL_law_X2_has rfl rfl rfl (by decide +kernel) ⟨Nat.le_of_ble_eq_true rfl, Nat.le_of_ble_eq_true rfl⟩) hNw I rfl hl.1 rfl (Nat.le_of_ble_eq_true rfl) dL_law_156 ⟨show kc + 0 ≤ 678364 by omega, show ks + 0 ≤ 7067155 by omega⟩ (fun r1 S1 z1 H locs p1 I => ?_)
  refine lv_aload_n hx hb dL_law_159 rfl (lv_at hl 3 rfl) ?_
  refine lv_aload_n hx hb dL_law_160 rfl (lv_at hl 1 rfl) ?_
  refine lv_iload_n hx hb dL_law_161 rfl (lv_at hl 0 rfl) ?_
  refine lv_iconst (v := 1) hx hb dL_law_162 (by decide) ?_
  refine lv_iadd hx hb dL_law_163 ?_
  refine va_sld hx hb hX hbl hbA I.2.2.2.2.2 (i := nI i + nI 1) (l_in (by omega) hL) dL_law_164 ?_
  rw [l_ix i 1 (by omega)]
  refine l_ml (rest := [.long r1]) ⟨hx, hb, hml, hown, hts⟩ (c_X3_has l D om ad cA M (xs (i + 1)) ) (cwV 1 hts gL_law_X3_has rfl rfl rfl (by decide +kernel) ⟨Nat.le_of_ble_eq_true rfl, Nat.le_of_ble_eq_true rfl⟩) I rfl hl.1 rfl (Nat.le_of_ble_eq_true rfl) dL_law_165 ⟨show kc + 0 ≤ 678364 by omega, show ks + 0 ≤ 7067155 by omega⟩ (fun r2 M1 H locs p2 I => ?_)
  have e1 : r1 = r2 := p1.1.trans p2.1.symm
  have e2 : S1 = M := p1.2
  have e3 : M1 = M := p2.2
  have ee : e_eq S1 M1 := by rw [e2, e3]; exact e_eq.rf _
  have hr1 : r_ok M1 := by rw [e3]; exact hr0
  have I := l_I_eq ee I
  rw [e1]
  refine W.lcmp hx hb dL_law_168 ?_
  refine lv_if_eq (tgt := 660) hx hb dL_law_169 (by decide) (fun _ => ?_) (fun w => absurd (lg_self r2) w)
  exact K M1 z1 _ _ H locs hr1 (by omega) (by omega) I
set_option maxHeartbeats 4000000 in
set_option maxRecDepth 100000 in
theorem l_case2 {p : Program} {l : Launch} {e : Env} {s : State} {m : MethodId} {below : List Frame} {meth : Method} {c : Code} {D : va_G} {om oc : Nat} {ad ap : Nat → Nat} {cA cB cR cU : ClassId} {b L0 : Nat} {xs : Nat → Int32} (hL : L0 ≤ 2560) (C0 : lw_At p s m meth c b L0 xs) (hNw : va_Nw (.castable "[I" "java/lang/Cloneable") s) {i kc ks : Nat} {M : tr_S} {z : tr_Z} {H : Heap} {locs : List Loc} {ls : Array Slot} (hi : i + 5 ≤ L0) (hkc : kc ≤ 30 + 2 * i) (hks : ks ≤ 1200 + 11 * i) (hr0 : r_ok M) (I : l_I D om ad cA oc ap cB cR cU M M z s H locs) (hl : lv_has ls 4 [(3, .int (nI i)), (0, .ref b), (1, .ref oc), (2, .ref om)]) (K : ∀ (M1 : tr_S) (z1 : tr_Z) (kc1 ks1 : Nat) (H1 : Heap) (locs1 : List Loc), r_ok M1 → kc1 ≤ kc + 2 → ks1 ≤ ks + 11 → l_I D om ad cA oc ap cB cR cU M1 M1 z1 s H1 locs1 → W p l e room_1 s m #[Value.ref b] below meth c H1 locs1 kc1 ks1 (lw_Z below #[Value.ref b] s) (F0 m 660 ls [])) : W p l e room_1 s m #[Value.ref b] below meth c H locs kc ks (lw_Z below #[Value.ref b] s) (F0 m 174 ls []) := by
  obtain ⟨hx, hb, hr, hml, hown, hts0, hX, hbl, hlocks, hgv⟩ := C0
  have hts : ∀ w ∈ wsL_law, w.before #[Value.ref b] s = true := fun w h => hts0 w (wsL_law_in w h)
  have hbA : ¬ l_A s b := Nat.not_le.mpr hbl
  obtain ⟨N, hN⟩ := hr0.1
  obtain ⟨kn, hq⟩ := new_ex hN
  refine lv_aload_n hx hb dL_law_174 rfl (lv_at hl 2 rfl) ?_
  refine lv_aload_n hx hb dL_law_175 rfl (lv_at hl 1 rfl) ?_
  refine lv_iload_n hx hb dL_law_176 rfl (lv_at hl 0 rfl) ?_
  refine lv_iconst (v := 1) hx hb dL_law_177 (by decide) ?_
  refine lv_iadd hx hb dL_law_178 ?_
  refine va_sld hx hb hX hbl hbA I.2.2.2.2.2 (i := nI i + nI 1) (l_in (by omega) hL) dL_law_179 ?_
  rw [l_ix i 1 (by omega)]
  refine lv_aload_n hx hb dL_law_180 rfl (lv_at hl 1 rfl) ?_
  refine lv_iload_n hx hb dL_law_181 rfl (lv_at hl 0 rfl) ?_
  refine lv_iconst (v := 2) hx hb dL_law_182 (by decide) ?_
  refine lv_iadd hx hb dL_law_183 ?_
  refine va_sld hx hb hX hbl hbA I.2.2.2.2.2 (i := nI i + nI 2) (l_in (by omega) hL) dL_law_184 ?_
  rw [l_ix i 2 (by omega)]
  refine l_calli (rest := []) (mc := 2) (ms := 11) ⟨hx, hb, hml, hown, hts⟩ (l_C_a (fun A ρ σ ra L f => c_X2_row l D oc ap cB cR cU A ρ σ ra L f M z (xs (i + 1)) (xs (i + 2)) kn N hN hq)) (cwV 2 hts gL_law_X2_row rfl rfl rfl (by decide +kernel) ⟨Nat.le_of_ble_eq_true rfl, Nat.le_of_ble_eq_true rfl⟩) hNw I rfl hl.1 rfl (Nat.le_of_ble_eq_true rfl) dL_law_185 ⟨show kc + 2 ≤ 678364 by omega, show ks + 11 ≤ 7067155 by omega⟩ (fun r1 S1 z1 H locs p1 I => ?_)
  refine lv_aload_n hx hb dL_law_188 rfl (lv_at hl 3 rfl) ?_
  refine lv_aload_n hx hb dL_law_189 rfl (lv_at hl 1 rfl) ?_
  refine lv_iload_n hx hb dL_law_190 rfl (lv_at hl 0 rfl) ?_
  refine lv_iconst (v := 1) hx hb dL_law_191 (by decide) ?_
  refine lv_iadd hx hb dL_law_192 ?_
  refine va_sld hx hb hX hbl hbA I.2.2.2.2.2 (i := nI i + nI 1) (l_in (by omega) hL) dL_law_193 ?_
  rw [l_ix i 1 (by omega)]
  refine lv_aload_n hx hb dL_law_194 rfl (lv_at hl 1 rfl) ?_
  refine lv_iload_n hx hb dL_law_195 rfl (lv_at hl 0 rfl) ?_
  refine lv_iconst (v := 2) hx hb dL_law_196 (by decide) ?_
  refine lv_iadd hx hb dL_law_197 ?_
  refine va_sld hx hb hX hbl hbA I.2.2.2.2.2 (i := nI i + nI 2) (l_in (by omega) hL) dL_law_198 ?_
  rw [l_ix i 2 (by omega)]
  refine l_mi (rest := [.int r1]) ⟨hx, hb, hml, hown, hts⟩ (c_X3_row l D om ad cA M (xs (i + 1)) (xs (i + 2)) kn N hq hN.2.1 hN.1) (cwV 2 hts gL_law_X3_row rfl rfl rfl (by decide +kernel) ⟨Nat.le_of_ble_eq_true rfl, Nat.le_of_ble_eq_true rfl⟩) I rfl hl.1 rfl (Nat.le_of_ble_eq_true rfl) dL_law_199 ⟨show kc + 2 ≤ 678364 by omega, show ks + 11 ≤ 7067155 by omega⟩ (fun r2 M1 H locs p2 I => ?_)
  have e1 : r1 = r2 := (congrArg Prod.fst p1).trans (congrArg Prod.fst p2).symm
  have e2 : S1 = M1 := (congrArg Prod.snd p1).trans (congrArg Prod.snd p2).symm
  have ee : e_eq S1 M1 := by rw [e2]; exact e_eq.rf _
  have hr1 : r_ok M1 := by rw [show M1 = _ from congrArg Prod.snd p2]; exact r_row hr0 (xs (i + 1)) (xs (i + 2)) hq.1
  have I := l_I_eq ee I
  refine lv_icmp_eq (tgt := 660) hx hb dL_law_202 (by decide) (fun _ => ?_) (fun w => absurd e1 w)
  exact K M1 z1 _ _ H locs hr1 (by omega) (by omega) I
set_option maxHeartbeats 4000000 in
set_option maxRecDepth 100000 in
theorem l_case3 {p : Program} {l : Launch} {e : Env} {s : State} {m : MethodId} {below : List Frame} {meth : Method} {c : Code} {D : va_G} {om oc : Nat} {ad ap : Nat → Nat} {cA cB cR cU : ClassId} {b L0 : Nat} {xs : Nat → Int32} (hL : L0 ≤ 2560) (C0 : lw_At p s m meth c b L0 xs) (hNw : va_Nw (.castable "[I" "java/lang/Cloneable") s) {i kc ks : Nat} {M : tr_S} {z : tr_Z} {H : Heap} {locs : List Loc} {ls : Array Slot} (hi : i + 5 ≤ L0) (hkc : kc ≤ 30 + 2 * i) (hks : ks ≤ 1200 + 11 * i) (hr0 : r_ok M) (I : l_I D om ad cA oc ap cB cR cU M M z s H locs) (hl : lv_has ls 4 [(3, .int (nI i)), (0, .ref b), (1, .ref oc), (2, .ref om)]) (K : ∀ (M1 : tr_S) (z1 : tr_Z) (kc1 ks1 : Nat) (H1 : Heap) (locs1 : List Loc), r_ok M1 → kc1 ≤ kc + 2 → ks1 ≤ ks + 11 → l_I D om ad cA oc ap cB cR cU M1 M1 z1 s H1 locs1 → W p l e room_1 s m #[Value.ref b] below meth c H1 locs1 kc1 ks1 (lw_Z below #[Value.ref b] s) (F0 m 660 ls [])) : W p l e room_1 s m #[Value.ref b] below meth c H locs kc ks (lw_Z below #[Value.ref b] s) (F0 m 207 ls []) := by
  obtain ⟨hx, hb, hr, hml, hown, hts0, hX, hbl, hlocks, hgv⟩ := C0
  have hts : ∀ w ∈ wsL_law, w.before #[Value.ref b] s = true := fun w h => hts0 w (wsL_law_in w h)
  have hbA : ¬ l_A s b := Nat.not_le.mpr hbl
  obtain ⟨N, hN⟩ := hr0.1
  refine lv_aload_n hx hb dL_law_207 rfl (lv_at hl 2 rfl) ?_
  refine lv_aload_n hx hb dL_law_208 rfl (lv_at hl 1 rfl) ?_
  refine lv_iload_n hx hb dL_law_209 rfl (lv_at hl 0 rfl) ?_
  refine lv_iconst (v := 1) hx hb dL_law_210 (by decide) ?_
  refine lv_iadd hx hb dL_law_211 ?_
  refine va_sld hx hb hX hbl hbA I.2.2.2.2.2 (i := nI i + nI 1) (l_in (by omega) hL) dL_law_212 ?_
  rw [l_ix i 1 (by omega)]
  refine lv_aload_n hx hb dL_law_213 rfl (lv_at hl 1 rfl) ?_
  refine lv_iload_n hx hb dL_law_214 rfl (lv_at hl 0 rfl) ?_
  refine lv_iconst (v := 2) hx hb dL_law_215 (by decide) ?_
  refine lv_iadd hx hb dL_law_216 ?_
  refine va_sld hx hb hX hbl hbA I.2.2.2.2.2 (i := nI i + nI 2) (l_in (by omega) hL) dL_law_217 ?_
  rw [l_ix i 2 (by omega)]
  refine l_calli (rest := []) (mc := 0) (ms := 0) ⟨hx, hb, hml, hown, hts⟩ (l_C_i (fun A ρ σ ra L f => c_X2_share l D oc ap cB cR cU A ρ σ ra L f M z (xs (i + 1)) (xs (i + 2)) N hN)) (cwV 2 hts gL_law_X2_share rfl rfl rfl (by decide +kernel) ⟨Nat.le_of_ble_eq_true rfl, Nat.le_of_ble_eq_true rfl⟩) hNw I rfl hl.1 rfl (Nat.le_of_ble_eq_true rfl) dL_law_218 ⟨show kc + 0 ≤ 678364 by omega, show ks + 0 ≤ 7067155 by omega⟩ (fun r1 S1 z1 H locs p1 I => ?_)
  refine lv_aload_n hx hb dL_law_221 rfl (lv_at hl 3 rfl) ?_
  refine lv_aload_n hx hb dL_law_222 rfl (lv_at hl 1 rfl) ?_
  refine lv_iload_n hx hb dL_law_223 rfl (lv_at hl 0 rfl) ?_
  refine lv_iconst (v := 1) hx hb dL_law_224 (by decide) ?_
  refine lv_iadd hx hb dL_law_225 ?_
  refine va_sld hx hb hX hbl hbA I.2.2.2.2.2 (i := nI i + nI 1) (l_in (by omega) hL) dL_law_226 ?_
  rw [l_ix i 1 (by omega)]
  refine lv_aload_n hx hb dL_law_227 rfl (lv_at hl 1 rfl) ?_
  refine lv_iload_n hx hb dL_law_228 rfl (lv_at hl 0 rfl) ?_
  refine lv_iconst (v := 2) hx hb dL_law_229 (by decide) ?_
  refine lv_iadd hx hb dL_law_230 ?_
  refine va_sld hx hb hX hbl hbA I.2.2.2.2.2 (i := nI i + nI 2) (l_in (by omega) hL) dL_law_231 ?_
  rw [l_ix i 2 (by omega)]
  refine l_mi (rest := [.int r1]) ⟨hx, hb, hml, hown, hts⟩ (c_X3_share l D om ad cA M (xs (i + 1)) (xs (i + 2)) ) (cwV 2 hts gL_law_X3_share rfl rfl rfl (by decide +kernel) ⟨Nat.le_of_ble_eq_true rfl, Nat.le_of_ble_eq_true rfl⟩) I rfl hl.1 rfl (Nat.le_of_ble_eq_true rfl) dL_law_232 ⟨show kc + 0 ≤ 678364 by omega, show ks + 0 ≤ 7067155 by omega⟩ (fun r2 M1 H locs p2 I => ?_)
  have e1 : r1 = r2 := (congrArg Prod.fst p1).trans (congrArg Prod.fst p2).symm
  have e2 : S1 = M1 := (congrArg Prod.snd p1).trans (congrArg Prod.snd p2).symm
  have ee : e_eq S1 M1 := by rw [e2]; exact e_eq.rf _
  have hr1 : r_ok M1 := by rw [show M1 = _ from congrArg Prod.snd p2]; exact r_share hr0 (xs (i + 1)) (xs (i + 2))
  have I := l_I_eq ee I
  refine lv_icmp_eq (tgt := 660) hx hb dL_law_235 (by decide) (fun _ => ?_) (fun w => absurd e1 w)
  exact K M1 z1 _ _ H locs hr1 (by omega) (by omega) I
set_option maxHeartbeats 4000000 in
set_option maxRecDepth 100000 in
theorem l_case4 {p : Program} {l : Launch} {e : Env} {s : State} {m : MethodId} {below : List Frame} {meth : Method} {c : Code} {D : va_G} {om oc : Nat} {ad ap : Nat → Nat} {cA cB cR cU : ClassId} {b L0 : Nat} {xs : Nat → Int32} (hL : L0 ≤ 2560) (C0 : lw_At p s m meth c b L0 xs) (hNw : va_Nw (.castable "[I" "java/lang/Cloneable") s) {i kc ks : Nat} {M : tr_S} {z : tr_Z} {H : Heap} {locs : List Loc} {ls : Array Slot} (hi : i + 5 ≤ L0) (hkc : kc ≤ 30 + 2 * i) (hks : ks ≤ 1200 + 11 * i) (hr0 : r_ok M) (I : l_I D om ad cA oc ap cB cR cU M M z s H locs) (hl : lv_has ls 4 [(3, .int (nI i)), (0, .ref b), (1, .ref oc), (2, .ref om)]) (K : ∀ (M1 : tr_S) (z1 : tr_Z) (kc1 ks1 : Nat) (H1 : Heap) (locs1 : List Loc), r_ok M1 → kc1 ≤ kc + 2 → ks1 ≤ ks + 11 → l_I D om ad cA oc ap cB cR cU M1 M1 z1 s H1 locs1 → W p l e room_1 s m #[Value.ref b] below meth c H1 locs1 kc1 ks1 (lw_Z below #[Value.ref b] s) (F0 m 660 ls [])) : W p l e room_1 s m #[Value.ref b] below meth c H locs kc ks (lw_Z below #[Value.ref b] s) (F0 m 240 ls []) := by
  obtain ⟨hx, hb, hr, hml, hown, hts0, hX, hbl, hlocks, hgv⟩ := C0
  have hts : ∀ w ∈ wsL_law, w.before #[Value.ref b] s = true := fun w h => hts0 w (wsL_law_in w h)
  have hbA : ¬ l_A s b := Nat.not_le.mpr hbl
  obtain ⟨N, hN⟩ := hr0.1
  refine lv_aload_n hx hb dL_law_240 rfl (lv_at hl 2 rfl) ?_
  refine lv_aload_n hx hb dL_law_241 rfl (lv_at hl 1 rfl) ?_
  refine lv_iload_n hx hb dL_law_242 rfl (lv_at hl 0 rfl) ?_
  refine lv_iconst (v := 1) hx hb dL_law_243 (by decide) ?_
  refine lv_iadd hx hb dL_law_244 ?_
  refine va_sld hx hb hX hbl hbA I.2.2.2.2.2 (i := nI i + nI 1) (l_in (by omega) hL) dL_law_245 ?_
  rw [l_ix i 1 (by omega)]
  refine lv_aload_n hx hb dL_law_246 rfl (lv_at hl 1 rfl) ?_
  refine lv_iload_n hx hb dL_law_247 rfl (lv_at hl 0 rfl) ?_
  refine lv_iconst (v := 2) hx hb dL_law_248 (by decide) ?_
  refine lv_iadd hx hb dL_law_249 ?_
  refine va_sld hx hb hX hbl hbA I.2.2.2.2.2 (i := nI i + nI 2) (l_in (by omega) hL) dL_law_250 ?_
  rw [l_ix i 2 (by omega)]
  refine lv_aload_n hx hb dL_law_251 rfl (lv_at hl 1 rfl) ?_
  refine lv_iload_n hx hb dL_law_252 rfl (lv_at hl 0 rfl) ?_
  refine lv_iconst (v := 3) hx hb dL_law_253 (by decide) ?_
  refine lv_iadd hx hb dL_law_254 ?_
  refine va_sld hx hb hX hbl hbA I.2.2.2.2.2 (i := nI i + nI 3) (l_in (by omega) hL) dL_law_255 ?_
  rw [l_ix i 3 (by omega)]
  refine l_calli (rest := []) (mc := 0) (ms := 0) ⟨hx, hb, hml, hown, hts⟩ (l_C_i (fun A ρ σ ra L f => c_X2_put l D oc ap cB cR cU A ρ σ ra L f M z (xs (i + 1)) (xs (i + 2)) (xs (i + 3)) N hN)) (cwV 3 hts gL_law_X2_put rfl rfl rfl (by decide +kernel) ⟨Nat.le_of_ble_eq_true rfl, Nat.le_of_ble_eq_true rfl⟩) hNw I rfl hl.1 rfl (Nat.le_of_ble_eq_true rfl) dL_law_256 ⟨show kc + 0 ≤ 678364 by omega, show ks + 0 ≤ 7067155 by omega⟩ (fun r1 S1 z1 H locs p1 I => ?_)
  refine lv_aload_n hx hb dL_law_259 rfl (lv_at hl 3 rfl) ?_
  refine lv_aload_n hx hb dL_law_260 rfl (lv_at hl 1 rfl) ?_
  refine lv_iload_n hx hb dL_law_261 rfl (lv_at hl 0 rfl) ?_
  refine lv_iconst (v := 1) hx hb dL_law_262 (by decide) ?_
  refine lv_iadd hx hb dL_law_263 ?_
  refine va_sld hx hb hX hbl hbA I.2.2.2.2.2 (i := nI i + nI 1) (l_in (by omega) hL) dL_law_264 ?_
  rw [l_ix i 1 (by omega)]
  refine lv_aload_n hx hb dL_law_265 rfl (lv_at hl 1 rfl) ?_
  refine lv_iload_n hx hb dL_law_266 rfl (lv_at hl 0 rfl) ?_
  refine lv_iconst (v := 2) hx hb dL_law_267 (by decide) ?_
  refine lv_iadd hx hb dL_law_268 ?_
  refine va_sld hx hb hX hbl hbA I.2.2.2.2.2 (i := nI i + nI 2) (l_in (by omega) hL) dL_law_269 ?_
  rw [l_ix i 2 (by omega)]
  refine lv_aload_n hx hb dL_law_270 rfl (lv_at hl 1 rfl) ?_
  refine lv_iload_n hx hb dL_law_271 rfl (lv_at hl 0 rfl) ?_
  refine lv_iconst (v := 3) hx hb dL_law_272 (by decide) ?_
  refine lv_iadd hx hb dL_law_273 ?_
  refine va_sld hx hb hX hbl hbA I.2.2.2.2.2 (i := nI i + nI 3) (l_in (by omega) hL) dL_law_274 ?_
  rw [l_ix i 3 (by omega)]
  refine l_mi (rest := [.int r1]) ⟨hx, hb, hml, hown, hts⟩ (c_X3_put l D om ad cA M (xs (i + 1)) (xs (i + 2)) (xs (i + 3)) hN.rows) (cwV 3 hts gL_law_X3_put rfl rfl rfl (by decide +kernel) ⟨Nat.le_of_ble_eq_true rfl, Nat.le_of_ble_eq_true rfl⟩) I rfl hl.1 rfl (Nat.le_of_ble_eq_true rfl) dL_law_275 ⟨show kc + 0 ≤ 678364 by omega, show ks + 0 ≤ 7067155 by omega⟩ (fun r2 M1 H locs p2 I => ?_)
  have e1 : r1 = r2 := (congrArg Prod.fst p1).trans (congrArg Prod.fst p2).symm
  have e2 : S1 = M1 := (congrArg Prod.snd p1).trans (congrArg Prod.snd p2).symm
  have ee : e_eq S1 M1 := by rw [e2]; exact e_eq.rf _
  have hr1 : r_ok M1 := by rw [show M1 = _ from congrArg Prod.snd p2]; exact r_put hr0 (xs (i + 1)) (xs (i + 2)) (xs (i + 3))
  have I := l_I_eq ee I
  refine lv_icmp_eq (tgt := 660) hx hb dL_law_278 (by decide) (fun _ => ?_) (fun w => absurd e1 w)
  exact K M1 z1 _ _ H locs hr1 (by omega) (by omega) I
set_option maxHeartbeats 4000000 in
set_option maxRecDepth 100000 in
theorem l_case5 {p : Program} {l : Launch} {e : Env} {s : State} {m : MethodId} {below : List Frame} {meth : Method} {c : Code} {D : va_G} {om oc : Nat} {ad ap : Nat → Nat} {cA cB cR cU : ClassId} {b L0 : Nat} {xs : Nat → Int32} (hL : L0 ≤ 2560) (C0 : lw_At p s m meth c b L0 xs) (hNw : va_Nw (.castable "[I" "java/lang/Cloneable") s) {i kc ks : Nat} {M : tr_S} {z : tr_Z} {H : Heap} {locs : List Loc} {ls : Array Slot} (hi : i + 5 ≤ L0) (hkc : kc ≤ 30 + 2 * i) (hks : ks ≤ 1200 + 11 * i) (hr0 : r_ok M) (I : l_I D om ad cA oc ap cB cR cU M M z s H locs) (hl : lv_has ls 4 [(3, .int (nI i)), (0, .ref b), (1, .ref oc), (2, .ref om)]) (K : ∀ (M1 : tr_S) (z1 : tr_Z) (kc1 ks1 : Nat) (H1 : Heap) (locs1 : List Loc), r_ok M1 → kc1 ≤ kc + 2 → ks1 ≤ ks + 11 → l_I D om ad cA oc ap cB cR cU M1 M1 z1 s H1 locs1 → W p l e room_1 s m #[Value.ref b] below meth c H1 locs1 kc1 ks1 (lw_Z below #[Value.ref b] s) (F0 m 660 ls [])) : W p l e room_1 s m #[Value.ref b] below meth c H locs kc ks (lw_Z below #[Value.ref b] s) (F0 m 283 ls []) := by
  obtain ⟨hx, hb, hr, hml, hown, hts0, hX, hbl, hlocks, hgv⟩ := C0
  have hts : ∀ w ∈ wsL_law, w.before #[Value.ref b] s = true := fun w h => hts0 w (wsL_law_in w h)
  have hbA : ¬ l_A s b := Nat.not_le.mpr hbl
  obtain ⟨N, hN⟩ := hr0.1
  refine lv_aload_n hx hb dL_law_283 rfl (lv_at hl 2 rfl) ?_
  refine lv_aload_n hx hb dL_law_284 rfl (lv_at hl 1 rfl) ?_
  refine lv_iload_n hx hb dL_law_285 rfl (lv_at hl 0 rfl) ?_
  refine lv_iconst (v := 1) hx hb dL_law_286 (by decide) ?_
  refine lv_iadd hx hb dL_law_287 ?_
  refine va_sld hx hb hX hbl hbA I.2.2.2.2.2 (i := nI i + nI 1) (l_in (by omega) hL) dL_law_288 ?_
  rw [l_ix i 1 (by omega)]
  refine lv_aload_n hx hb dL_law_289 rfl (lv_at hl 1 rfl) ?_
  refine lv_iload_n hx hb dL_law_290 rfl (lv_at hl 0 rfl) ?_
  refine lv_iconst (v := 2) hx hb dL_law_291 (by decide) ?_
  refine lv_iadd hx hb dL_law_292 ?_
  refine va_sld hx hb hX hbl hbA I.2.2.2.2.2 (i := nI i + nI 2) (l_in (by omega) hL) dL_law_293 ?_
  rw [l_ix i 2 (by omega)]
  refine l_calll (rest := []) (mc := 0) (ms := 0) ⟨hx, hb, hml, hown, hts⟩ (l_C_l (fun A ρ σ ra L f => c_X2_item l D oc ap cB cR cU A ρ σ ra L f M z (xs (i + 1)) (xs (i + 2)) N hN)) (cwV 2 hts gL_law_X2_item rfl rfl rfl (by decide +kernel) ⟨Nat.le_of_ble_eq_true rfl, Nat.le_of_ble_eq_true rfl⟩) hNw I rfl hl.1 rfl (Nat.le_of_ble_eq_true rfl) dL_law_294 ⟨show kc + 0 ≤ 678364 by omega, show ks + 0 ≤ 7067155 by omega⟩ (fun r1 S1 z1 H locs p1 I => ?_)
  refine lv_aload_n hx hb dL_law_297 rfl (lv_at hl 3 rfl) ?_
  refine lv_aload_n hx hb dL_law_298 rfl (lv_at hl 1 rfl) ?_
  refine lv_iload_n hx hb dL_law_299 rfl (lv_at hl 0 rfl) ?_
  refine lv_iconst (v := 1) hx hb dL_law_300 (by decide) ?_
  refine lv_iadd hx hb dL_law_301 ?_
  refine va_sld hx hb hX hbl hbA I.2.2.2.2.2 (i := nI i + nI 1) (l_in (by omega) hL) dL_law_302 ?_
  rw [l_ix i 1 (by omega)]
  refine lv_aload_n hx hb dL_law_303 rfl (lv_at hl 1 rfl) ?_
  refine lv_iload_n hx hb dL_law_304 rfl (lv_at hl 0 rfl) ?_
  refine lv_iconst (v := 2) hx hb dL_law_305 (by decide) ?_
  refine lv_iadd hx hb dL_law_306 ?_
  refine va_sld hx hb hX hbl hbA I.2.2.2.2.2 (i := nI i + nI 2) (l_in (by omega) hL) dL_law_307 ?_
  rw [l_ix i 2 (by omega)]
  refine l_ml (rest := [.long r1]) ⟨hx, hb, hml, hown, hts⟩ (c_X3_item l D om ad cA M (xs (i + 1)) (xs (i + 2)) hN.rows) (cwV 2 hts gL_law_X3_item rfl rfl rfl (by decide +kernel) ⟨Nat.le_of_ble_eq_true rfl, Nat.le_of_ble_eq_true rfl⟩) I rfl hl.1 rfl (Nat.le_of_ble_eq_true rfl) dL_law_308 ⟨show kc + 0 ≤ 678364 by omega, show ks + 0 ≤ 7067155 by omega⟩ (fun r2 M1 H locs p2 I => ?_)
  have e1 : r1 = r2 := p1.1.trans p2.1.symm
  have e2 : S1 = M := p1.2
  have e3 : M1 = M := p2.2
  have ee : e_eq S1 M1 := by rw [e2, e3]; exact e_eq.rf _
  have hr1 : r_ok M1 := by rw [e3]; exact hr0
  have I := l_I_eq ee I
  rw [e1]
  refine W.lcmp hx hb dL_law_311 ?_
  refine lv_if_eq (tgt := 660) hx hb dL_law_312 (by decide) (fun _ => ?_) (fun w => absurd (lg_self r2) w)
  exact K M1 z1 _ _ H locs hr1 (by omega) (by omega) I
