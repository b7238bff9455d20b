set_option maxHeartbeats 8000000 in
set_option maxRecDepth 100000 in
/-- THE LAW, from its entry -/
theorem whole_start {p : Program} {e : Env} {s : State} {m : MethodId} {below : List Frame} {meth : Method} {c : Code} (l : Launch) {b L : Nat} {xs : Nat → Int32} (hL : L ≤ 2560) (C0 : lw_At p s m meth c b L xs) : W p l e room_1 s m #[Value.ref b] below meth c s.heap [] 0 0 (lw_Z below #[Value.ref b] s) (entryFrame m ([Value.ref b] : List Value).toArray 4) := by
  obtain ⟨hx, hb, hr, hml, hown, hts0, hX, hbl, hlocks, hgv⟩ := id C0
  have hts : ∀ w ∈ wsL_law, w.before #[Value.ref b] s = true := fun w h => hts0 w (wsL_law_in w h)
  have hNw : va_Nw (.castable "[I" "java/lang/Cloneable") s := va_Nw.of rfl (hts0 (.castable "[I" "java/lang/Cloneable") (by decide +kernel))
  have hO0 : va_AO RX0 s := va_AO.of (hts0 (.arrayOver (.object RX0)) (by decide +kernel))
  have hO1 : va_AO RX1 s := va_AO.of (hts0 (.arrayOver (.object RX1)) (by decide +kernel))
  have hA : ∀ q : Nat, s.heap.size ≤ q → l_A s q := fun _ h => h
  obtain ⟨c0, iS0, hKn0⟩ := u_known (C := RX0) (T := TX0) (N := 1) (n := 1) hts inlX0 (hts (.instantiable RX0 1) (by decide +kernel))
  obtain ⟨c1, iS1, hKn1⟩ := u_known (C := RX1) (T := TX1) (N := 6) (n := 6) hts inlX1 (hts (.instantiable RX1 6) (by decide +kernel))
  obtain ⟨c2, iS2, hKn2⟩ := u_known (C := RX2) (T := TX2) (N := 16) (n := 16) hts inlX2 (hts (.instantiable RX2 16) (by decide +kernel))
  obtain ⟨c3, iS3, hKn3⟩ := u_known (C := RX3) (T := TX3) (N := 30) (n := 30) hts inlX3 (hts (.instantiable RX3 30) (by decide +kernel))
  obtain ⟨D, hKc⟩ : ∃ D : va_G, ∀ (k : Nat) (q : vw_C), vwCl[k]? = some q → u_Kn s q.1 q.2.1 q.2.2 (D.1 k) (D.2 k) := by
    refine ⟨(fun k => if k = 0 then c0 else if k = 1 then c1 else if k = 2 then c2 else c3, fun k => if k = 0 then iS0 else if k = 1 then iS1 else if k = 2 then iS2 else iS3), ?_⟩
    intro k q hq
    match k, hq with
    | 0, hq => cases hq; exact hKn0
    | 1, hq => cases hq; exact hKn1
    | 2, hq => cases hq; exact hKn2
    | 3, hq => cases hq; exact hKn3
    | k + 4, hq => simp [vwCl] at hq
  have hS : va_S (l_A s) s.heap s.heap [] := va_S.rf
  have hK : va_K D vwCl [] s := ⟨hKc, fun k q h => by simp at h⟩
  have hP : va_P D vwCl [] s.heap := fun k q h => by simp at h
  have hD : va_D (l_A s) [] := ⟨fun i j p q h => by simp at h, fun k q h => by simp at h⟩
  have hl := lv_entry ([.ref b]) (n := 4) (Nat.le_of_ble_eq_true rfl)
  rw [lg_entry_eq]
  generalize (lg_sl ([.ref b]) ++ List.replicate (4 - (lg_sl ([.ref b])).length) Slot.unset).toArray = ls at hl ⊢
  have hl : lv_has ls 4 [(0, .ref b)] := hl
  -- the class
  refine va_new (ci := 2) (fs := [.null, .null, .null, .int 0, .null, .null, .null, .int 0, .int 0, .int 0, .int 0, .int 0, .int 0, .int 0, .int 0, .int 0]) (C := RX2) (T := TX2) (N := 16) hx hb hts inlX2 tyX2 tyX2_ok hown (hts (.classLink RL 7 RX2) (by decide +kernel)) (hts (.instantiable RX2 16) (by decide +kernel)) (hts (.initialized RX2) (by decide +kernel)) hK hP hD hS hA rfl (fun j hj => by rcases (show j = 0 ∨ j = 1 ∨ j = 2 ∨ j = 3 ∨ j = 4 ∨ j = 5 ∨ j = 6 ∨ j = 7 ∨ j = 8 ∨ j = 9 ∨ j = 10 ∨ j = 11 ∨ j = 12 ∨ j = 13 ∨ j = 14 ∨ j = 15 by omega) with rfl | rfl | rfl | rfl | rfl | rfl | rfl | rfl | rfl | rfl | rfl | rfl | rfl | rfl | rfl | rfl <;> rfl) (Nat.le_of_ble_eq_true rfl) (Nat.le_of_ble_eq_true rfl) dL_law_0 (fun oc H hP hD hS => ?_)
  refine lv_dup hx hb dL_law_3 rfl ?_
  have hoc : l_A s oc := hD.2 0 _ rfl
  have hPc : va_P D vwCl _ H := hP
  refine va_callv (va_runI (As := []) (rest := [.ref oc]) ⟨hx, hb, hml, hown, hts⟩ (c_X2_init l D oc (fun q => q = oc ∨ H.size ≤ q)) (cwI 0 hts gL_law_X2_init rfl rfl rfl (hts (.initialized RX2) (by decide +kernel)) (hts (.methodLink RL 9 yX2_init) (by decide +kernel)) (hts (.instanceMethod yX2_init) (by decide +kernel)) rfl (by decide +kernel) ⟨Nat.le_of_ble_eq_true rfl, Nat.le_of_ble_eq_true rfl⟩) ⟨fun a U g mk w => by obtain ⟨w0, w1, w2, w3, w4, w5, w6⟩ := w; exact ⟨w0, w1, va_K.moved (u := U) (U := U.calling g mk a) (Vm.Alike.refl U.vm) w2, w3, w4, w5, w6⟩, fun U hU hW => ⟨rfl, by rw [hU]; exact hPc, va_K.moved hW.alike hK, Or.inl rfl, fun q w => Or.inr (by rw [hU] at w; exact w), va_AO.moved hW.alike hO0, va_AO.moved hW.alike hO1⟩⟩ rfl rfl hl.1 rfl (lv_room (Nat.le_of_ble_eq_true rfl)) dL_law_4 ⟨Nat.le_of_ble_eq_true rfl, Nat.le_of_ble_eq_true rfl⟩) hS (fun q _ w => w.elim (fun h => by rw [h]; exact hoc) (fun h => Nat.le_trans hS.1 h)) (fun q w => w.elim (fun h => by rw [h]; exact hoc) (fun h => Nat.le_trans hS.1 h)) (fun u t H1 locs ht hvm hp hB hz hk1 hS1 => ?_)
  obtain ⟨ap, cB, cR, cU, ρ, σ, ra, L1, f, b1, b2, b3, b4⟩ := hB
  rw [ht] at b1
  have hKB : va_K D vwCl (c_T cB cR cU) s := va_K.moved hvm.symm b2
  have hDB : va_D (l_A s) (c_W oc ap cB cR cU ρ ra L1 f i_S i_Z) := b3.weaken (fun _ x _ w => w.elim (fun h => by rw [h]; exact hoc) (fun h => Nat.le_trans hS.1 h))
  refine lv_astore_n (lv' := [(1, .ref oc), (0, .ref b)]) hx hb dL_law_7 rfl hl (by decide) rfl (fun ls hl => ?_)
  -- the reference
  refine va_new (ci := 3) (fs := [.null, .null, .null, .null, .int 0, .null, .null, .null, .null, .null, .null, .int 0, .null, .null, .null, .null, .int 0, .int 0, .int 0, .int 0, .int 0, .int 0, .int 0, .int 0, .int 0, .int 0, .int 0, .null, .null, .null]) (C := RX3) (T := TX3) (N := 30) hx hb hts inlX3 tyX3 tyX3_ok hown (hts (.classLink RL 10 RX3) (by decide +kernel)) (hts (.instantiable RX3 30) (by decide +kernel)) (hts (.initialized RX3) (by decide +kernel)) hKB b1 hDB hS1 hA rfl (by decide +kernel) (Nat.le_of_ble_eq_true rfl) (Nat.le_of_ble_eq_true rfl) dL_law_8 (fun om H2 hP2 hD2 hS2 => ?_)
  refine lv_dup hx hb dL_law_11 rfl ?_
  have hlast : (c_W oc ap cB cR cU ρ ra L1 f i_S i_Z ++ [(om, (.inr (3, [.null, .null, .null, .null, .int 0, .null, .null, .null, .null, .null, .null, .int 0, .null, .null, .null, .null, .int 0, .int 0, .int 0, .int 0, .int 0, .int 0, .int 0, .int 0, .int 0, .int 0, .int 0, .null, .null, .null]) : va_E))])[(c_W oc ap cB cR cU ρ ra L1 f i_S i_Z).length]? = some (om, .inr (3, [.null, .null, .null, .null, .int 0, .null, .null, .null, .null, .null, .null, .int 0, .null, .null, .null, .null, .int 0, .int 0, .int 0, .int 0, .int 0, .int 0, .int 0, .int 0, .int 0, .int 0, .int 0, .null, .null, .null])) := by simp
  have hom : l_A s om := hD2.2 _ _ hlast
  have hPm : va_P D vwCl [(om, .inr (3, [.null, .null, .null, .null, .int 0, .null, .null, .null, .null, .null, .null, .int 0, .null, .null, .null, .null, .int 0, .int 0, .int 0, .int 0, .int 0, .int 0, .int 0, .int 0, .int 0, .int 0, .int 0, .null, .null, .null]))] H2 := hP2.sub [(c_W oc ap cB cR cU ρ ra L1 f i_S i_Z).length] (by simp)
  have hne : ∀ (j : Nat) (x : Nat × va_E), (c_W oc ap cB cR cU ρ ra L1 f i_S i_Z)[j]? = some x → x.1 ≠ om := fun j x hj => va_D_x hD2 j 0 x (om, _) hj rfl
  have hPB : va_P D vwCl (c_W oc ap cB cR cU ρ ra L1 f i_S i_Z) H2 := fun j x hj => hP2 j x (by rw [List.getElem?_append_left (List.getElem?_eq_some_iff.mp hj).1]; exact hj)
  refine va_callv (va_runI (As := []) (rest := [.ref om]) ⟨hx, hb, hml, hown, hts⟩ (c_X3_init l D om (fun q => q = om ∨ H2.size ≤ q)) (cwI 0 hts gL_law_X3_init rfl rfl rfl (hts (.initialized RX3) (by decide +kernel)) (hts (.methodLink RL 12 yX3_init) (by decide +kernel)) (hts (.instanceMethod yX3_init) (by decide +kernel)) rfl (by decide +kernel) ⟨Nat.le_of_ble_eq_true rfl, Nat.le_of_ble_eq_true rfl⟩) ⟨fun a U g mk w => by obtain ⟨w0, w1, w2, w3, w4⟩ := w; exact ⟨w0, w1, va_K.moved (u := U) (U := U.calling g mk a) (Vm.Alike.refl U.vm) w2, w3, w4⟩, fun U hU hW => ⟨rfl, by rw [hU]; exact hPm, va_K.moved hW.alike hK, Or.inl rfl, fun q w => Or.inr (by rw [hU] at w; exact w)⟩⟩ rfl rfl hl.1 rfl (lv_room (Nat.le_of_ble_eq_true rfl)) dL_law_12 ⟨Nat.le_of_ble_eq_true rfl, Nat.le_of_ble_eq_true rfl⟩) hS2 (fun q _ w => w.elim (fun h => by rw [h]; exact hom) (fun h => Nat.le_trans hS2.1 h)) (fun q w => w.elim (fun h => by rw [h]; exact hom) (fun h => Nat.le_trans hS2.1 h)) (fun u2 t2 H3 locs3 ht2 hvm2 hp2 hB2 hz2 hk2 hS3 => ?_)
  obtain ⟨ad, cA, ⟨m1, m2, m3⟩, m4, m5⟩ := hB2
  rw [ht2] at m1
  have hKA : va_K D vwCl [(cA, .int)] s := va_K.moved hvm2.symm m2
  have hnA : ∀ (j : Nat) (x : Nat × va_E), (c_W oc ap cB cR cU ρ ra L1 f i_S i_Z)[j]? = some x → ¬ (x.1 = om ∨ H2.size ≤ x.1) := by
    rintro j x hj (w | w)
    · exact hne j x hj w
    · have := (hPB j x hj).lt
      omega
  have I : l_I D om ad cA oc ap cB cR cU i_S i_S i_Z s H3 locs3 := by
    refine ⟨hKA, hKB, m5, m1, ⟨ρ, σ, ra, L1, f, hPB.kept (fun k x hk => hk2 x.1 ((hPB k x hk).lt) (hnA k x hk)), b4, ?_⟩, hS3⟩
    refine va_D.app (m4.weaken (fun _ x _ w => w.elim (fun h => by rw [h]; exact hom) (fun h => Nat.le_trans hS2.1 h))) hDB (fun i j x y hi hj w => hnA j y hj (by rw [← w]; exact m4.2 i x hi))
  refine lv_astore_n (lv' := [(2, .ref om), (1, .ref oc), (0, .ref b)]) hx hb dL_law_15 rfl hl (by decide) rfl (fun ls hl => ?_)
  refine lv_iconst (v := 0) hx hb dL_law_16 (by decide) ?_
  refine lv_istore_n (lv' := [(3, .int 0), (2, .ref om), (1, .ref oc), (0, .ref b)]) hx hb dL_law_17 rfl hl (by decide) rfl (fun ls hl => ?_)
  refine W.widen (k := 30) (n := 1200) (Nat.le_of_ble_eq_true rfl) (Nat.le_of_ble_eq_true rfl) ?_
  exact l_loop hL C0 hNw (L + 1) 0 30 1200 i_S i_Z H3 locs3 ls (by omega) (by omega) (by omega) (by omega) r_i I (lv_sub hl [0, 3, 2, 1] rfl)
