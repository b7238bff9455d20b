theorem ix_nI {x : Int32} {n : Nat} (h : vp_in x n) (hn : n < 2 ^ 31) : x = nI x.toNatClampNeg ∧ x.toNatClampNeg < n := by
  obtain ⟨j, hj, rfl⟩ := vp_in_of h hn
  rw [nI_clamp (by omega)]
  exact ⟨rfl, hj⟩
theorem ix_item {a b : Int32} (ha : vp_in a 48) (hb : vp_in b 10) : vp_in (10 * a + b) 480 := by
  obtain ⟨j, hj, rfl⟩ := vp_in_of ha (by decide)
  obtain ⟨k, hk, rfl⟩ := vp_in_of hb (by decide)
  rw [show (10 : Int32) = nI 10 from rfl, pk_mul, nI_add]
  exact vp_in_nI (by omega) (by decide)
theorem ix_item_n {a b : Int32} (ha : vp_in a 48) (hb : vp_in b 10) : (10 * a + b).toNatClampNeg = 10 * a.toNatClampNeg + b.toNatClampNeg := by
  obtain ⟨j, hj, rfl⟩ := vp_in_of ha (by decide)
  obtain ⟨k, hk, rfl⟩ := vp_in_of hb (by decide)
  rw [show (10 : Int32) = nI 10 from rfl, pk_mul, nI_add, nI_clamp (by omega), nI_clamp (by omega), nI_clamp (by omega)]
theorem ix_size {i z : Int32} (h : 0 ≤ i ∧ i ≤ z - 1) (hz : ∃ n : Nat, n ≤ 10 ∧ z = nI n) : vp_in i 10 := by
  obtain ⟨n, hn, rfl⟩ := hz
  cases n with
  | zero =>
    have h2 := Int32.le_iff_toInt_le.mp h.1
    have h3 := Int32.le_iff_toInt_le.mp h.2
    have e1 : (0 : Int32).toInt = 0 := rfl
    have e2 : (nI 0 - 1).toInt = -1 := by decide +kernel
    omega
  | succ k =>
    rw [nI_pred] at h
    have h2 := Int32.le_iff_toInt_le.mp h.1
    have h3 := Int32.le_iff_toInt_le.mp h.2
    have e1 : (0 : Int32).toInt = 0 := rfl
    rw [nI_toInt (by omega)] at h3
    rw [vp_in_iff]
    omega
/-- a row's number, and how long it is -/
def s_ok (S : tr_S) (a : Int32) : Prop := vp_in a 48 ∧ ∃ n : Nat, n ≤ 10 ∧ S.2 2 a.toNatClampNeg = nI n
def g_ok (S : tr_S) (r : Int32) : Prop := vp_in r 40 ∧ (S.2 5 r.toNatClampNeg = 5 ∨ S.2 5 r.toNatClampNeg = 12 → vp_in (S.2 6 r.toNatClampNeg) 8) ∧ (S.2 5 r.toNatClampNeg = 7 → vp_in (S.2 6 r.toNatClampNeg) 4 ∧ (0 ≤ S.2 1 (S.2 6 r.toNatClampNeg).toNatClampNeg → s_ok S (S.2 1 (S.2 6 r.toNatClampNeg).toNatClampNeg))) ∧ (S.2 5 r.toNatClampNeg = 6 → 0 ≤ S.2 9 r.toNatClampNeg → s_ok S (S.2 9 r.toNatClampNeg))
def f_itemAt (a i r : Int32) (S : tr_S) : Int32 × tr_S := if 0 ≤ a then (if 0 ≤ i ∧ i ≤ S.2 2 a.toNatClampNeg - 1 then (S.2 3 (10 * a + i).toNatClampNeg, S) else (0, f_fails 2 r S)) else (0, f_fails 3 r S)
def f_given (r x : Int32) (S : tr_S) : Int32 × tr_S :=
  if S.2 5 r.toNatClampNeg = 0 then (x + S.2 6 r.toNatClampNeg, S)
  else if S.2 5 r.toNatClampNeg = 1 then (x * S.2 6 r.toNatClampNeg, S)
  else if S.2 5 r.toNatClampNeg = 2 then (if S.2 6 r.toNatClampNeg = 0 then (0, f_fails 1 r S) else (x / S.2 6 r.toNatClampNeg, S))
  else if S.2 5 r.toNatClampNeg = 3 then (if S.2 6 r.toNatClampNeg = 0 then (0, f_fails 1 r S) else (x - x / S.2 6 r.toNatClampNeg * S.2 6 r.toNatClampNeg, S))
  else if S.2 5 r.toNatClampNeg = 4 then (x + S.2 8 r.toNatClampNeg, S)
  else if S.2 5 r.toNatClampNeg = 5 then (x + S.2 0 (S.2 6 r.toNatClampNeg).toNatClampNeg, S)
  else if S.2 5 r.toNatClampNeg = 6 then f_itemAt (S.2 9 r.toNatClampNeg) x r S
  else if S.2 5 r.toNatClampNeg = 7 then f_itemAt (S.2 1 (S.2 6 r.toNatClampNeg).toNatClampNeg) x r S
  else if S.2 5 r.toNatClampNeg = 12 then (x + (S.2 0 (S.2 6 r.toNatClampNeg).toNatClampNeg + 1), sA S 0 (S.2 6 r.toNatClampNeg).toNatClampNeg (S.2 0 (S.2 6 r.toNatClampNeg).toNatClampNeg + 1))
  else if S.2 5 r.toNatClampNeg = 13 then (x + S.2 6 r.toNatClampNeg * (S.2 10 r.toNatClampNeg + 1), sA S 10 r.toNatClampNeg (S.2 10 r.toNatClampNeg + 1))
  else if S.2 5 r.toNatClampNeg = 14 then (S.2 8 r.toNatClampNeg, S)
  else if S.2 5 r.toNatClampNeg = 15 then (if 0 ≤ x - x / 50 * 50 then (x - x / 50 * 50, S) else (x - x / 50 * 50, f_fails 4 r S))
  else (0, f_fails 3 r S)
set_option maxHeartbeats 4000000 in
set_option maxRecDepth 100000 in
theorem c_X3_itemAt (l : Launch) (D : va_G) (o : Nat) (ad : Nat → Nat) (cA : ClassId) (S0 : tr_S) (a i r : Int32) (hs : 0 ≤ a → s_ok S0 a) : m_Mi l yX3_itemAt wsX3_itemAt { frames := 1, cells := 0, slots := 0, locals := 22 } [.int a, .int i, .int r] D o ad cA S0 (fun x S => (x, S) = f_itemAt a i r S0) := by
  refine Met.ofW (cc := cX3_itemAt) (maxL := 4) (ret := (some .int)) (by decide) rfl ?_
  intro p e s m args below meth c s₁ B hml hv
  obtain ⟨rfl, hB⟩ := hv
  have hx := B.exec
  have hb := B.bytes
  have hr := B.returns
  have hts := atoms_spec (ws := wsX3_itemAt) B.pre
  have hown : s.vm.findClass RX3 = some m.cls := findClass_of_methodNamed B.named
  have hlocks := B.notSynchronized
  have I := m_I.of hB
  have hin : ∀ w ∈ wsX30, w ∈ wsX3_itemAt := fun _ h => List.mem_cons_of_mem _ (List.mem_append_right _ h)
  have L16 := hts (.fieldLink RX3 16 "TollRulesModel" "size" "[I") (by decide +kernel)
  have L19 := hts (.fieldLink RX3 19 "TollRulesModel" "item" "[I") (by decide +kernel)
  have hl := lv_entry ([.ref o, .int a, .int i, .int r]) (n := 4) (Nat.le_of_ble_eq_true rfl)
  rw [lg_entry_eq]
  generalize (lg_sl ([.ref o, .int a, .int i, .int r]) ++ List.replicate (4 - (lg_sl ([.ref o, .int a, .int i, .int r])).length) Slot.unset).toArray = ls at hl ⊢
  have hl : lv_has ls 4 [(0, .ref o), (1, .int a), (2, .int i), (3, .int r)] := hl
  refine lv_iload_n hx hb dX3_itemAt_0 rfl (lv_at hl 1 rfl) ?_
  refine lv_if_ge (tgt := 12) hx hb dX3_itemAt_1 (by decide) (fun c1 => ?_) (fun c1 => ?_)
  · refine lv_iload_n hx hb dX3_itemAt_12 rfl (lv_at hl 2 rfl) ?_
    refine lv_iconst (v := 0) hx hb dX3_itemAt_13 (by decide) ?_
    refine lv_aload_n hx hb dX3_itemAt_14 rfl (lv_at hl 0 rfl) ?_
    refine m_get2 hx hb hts hin hown I L16 dX3_itemAt_15 ?_
    refine lv_iload_n hx hb dX3_itemAt_18 rfl (lv_at hl 1 rfl) ?_
    refine m_ald2 hx hb I (hs c1).1 dX3_itemAt_19 (x := S0.2 2 a.toNatClampNeg) rfl ?_
    refine lv_iconst (v := 1) hx hb dX3_itemAt_20 (by decide) ?_
    refine lv_isub hx hb dX3_itemAt_21 ?_
    refine m_in ⟨hx, hb, hml, hown, hts⟩ gX3_itemAt_X3_in ⟨Nat.le_of_ble_eq_true rfl, Nat.le_of_ble_eq_true rfl⟩ ⟨Nat.le_refl _, Nat.le_refl _⟩ hl.1 (Nat.le_of_ble_eq_true rfl) dX3_itemAt_22 (fun h22 => ?_) (fun h22 => ?_)
    · refine lv_if_ne (tgt := 36) hx hb dX3_itemAt_25 (by decide) (fun _ => ?_) (fun h => absurd h (by decide))
      refine lv_aload_n hx hb dX3_itemAt_36 rfl (lv_at hl 0 rfl) ?_
      refine m_get3 hx hb hts hin hown I L19 dX3_itemAt_37 ?_
      refine lv_bipush (v := 10) hx hb dX3_itemAt_40 (by decide) ?_
      refine lv_iload_n hx hb dX3_itemAt_42 rfl (lv_at hl 1 rfl) ?_
      refine lv_imul hx hb dX3_itemAt_43 ?_
      refine lv_iload_n hx hb dX3_itemAt_44 rfl (lv_at hl 2 rfl) ?_
      refine lv_iadd hx hb dX3_itemAt_45 ?_
      refine m_ald3 hx hb I (ix_item (hs c1).1 (ix_size h22 (hs c1).2)) dX3_itemAt_46 (x := S0.2 3 (((10 * a) + i).toNatClampNeg)) rfl ?_
      exact m_iret hx hb hr hlocks I dX3_itemAt_47 (by simp [f_itemAt, c1, h22])
    · refine lv_if_ne (tgt := 36) hx hb dX3_itemAt_25 (by decide) (fun h => absurd h (by decide)) (fun _ => ?_)
      refine lv_aload_n hx hb dX3_itemAt_28 rfl (lv_at hl 0 rfl) ?_
      refine lv_iconst (v := 2) hx hb dX3_itemAt_29 (by decide) ?_
      refine lv_iload_n hx hb dX3_itemAt_30 rfl (lv_at hl 3 rfl) ?_
      refine m_callv (rest := []) ⟨hx, hb, hml, hown, hts⟩ (c_X3_fails l D o ad cA S0 2 r) (cwV 2 hts gX3_itemAt_X3_fails rfl rfl rfl (by decide +kernel) ⟨Nat.le_of_ble_eq_true rfl, Nat.le_of_ble_eq_true rfl⟩) I rfl hl.1 rfl (Nat.le_of_ble_eq_true rfl) dX3_itemAt_31 ⟨Nat.le_refl _, Nat.le_refl _⟩ (fun S31 H locs p31 I => ?_)
      refine lv_iconst (v := 0) hx hb dX3_itemAt_34 (by decide) ?_
      exact m_iret hx hb hr hlocks I dX3_itemAt_35 (by rw [p31]; simp [f_itemAt, c1, h22])
  · refine lv_aload_n hx hb dX3_itemAt_4 rfl (lv_at hl 0 rfl) ?_
    refine lv_iconst (v := 3) hx hb dX3_itemAt_5 (by decide) ?_
    refine lv_iload_n hx hb dX3_itemAt_6 rfl (lv_at hl 3 rfl) ?_
    refine m_callv (rest := []) ⟨hx, hb, hml, hown, hts⟩ (c_X3_fails l D o ad cA S0 3 r) (cwV 2 hts gX3_itemAt_X3_fails rfl rfl rfl (by decide +kernel) ⟨Nat.le_of_ble_eq_true rfl, Nat.le_of_ble_eq_true rfl⟩) I rfl hl.1 rfl (Nat.le_of_ble_eq_true rfl) dX3_itemAt_7 ⟨Nat.le_refl _, Nat.le_refl _⟩ (fun S7 H locs p7 I => ?_)
    refine lv_iconst (v := 0) hx hb dX3_itemAt_10 (by decide) ?_
    exact m_iret hx hb hr hlocks I dX3_itemAt_11 (by rw [p7]; simp [f_itemAt, c1])

set_option maxHeartbeats 4000000 in
set_option maxRecDepth 100000 in
theorem c_X3_given (l : Launch) (D : va_G) (o : Nat) (ad : Nat → Nat) (cA : ClassId) (S0 : tr_S) (r x : Int32) (G : g_ok S0 r) : m_Mi l yX3_given wsX3_given { frames := 2, cells := 0, slots := 0, locals := 45 } [.int r, .int x] D o ad cA S0 (fun v S => (v, S) = f_given r x S0) := by
  refine Met.ofW (cc := cX3_given) (maxL := 4) (ret := (some .int)) (by decide) rfl ?_
  intro p e s m args below meth c s₁ B hml hv
  obtain ⟨rfl, hB⟩ := hv
  have hx := B.exec
  have hb := B.bytes
  have hr := B.returns
  have hts := atoms_spec (ws := wsX3_given) B.pre
  have hown : s.vm.findClass RX3 = some m.cls := findClass_of_methodNamed B.named
  have hlocks := B.notSynchronized
  have I := m_I.of hB
  have hin : ∀ w ∈ wsX30, w ∈ wsX3_given := fun _ h => List.mem_cons_of_mem _ (List.mem_append_right _ h)
  have L7 := hts (.fieldLink RX3 7 "TollRulesModel" "places" "[I") (by decide +kernel)
  have L13 := hts (.fieldLink RX3 13 "TollRulesModel" "rowOf" "[I") (by decide +kernel)
  have L22 := hts (.fieldLink RX3 22 "TollRulesModel" "kind" "[I") (by decide +kernel)
  have L25 := hts (.fieldLink RX3 25 "TollRulesModel" "first" "[I") (by decide +kernel)
  have L31 := hts (.fieldLink RX3 31 "TollRulesModel" "kept" "[I") (by decide +kernel)
  have L34 := hts (.fieldLink RX3 34 "TollRulesModel" "keptRow" "[I") (by decide +kernel)
  have L37 := hts (.fieldLink RX3 37 "TollRulesModel" "own" "[I") (by decide +kernel)
  have hl := lv_entry ([.ref o, .int r, .int x]) (n := 4) (Nat.le_of_ble_eq_true rfl)
  rw [lg_entry_eq]
  generalize (lg_sl ([.ref o, .int r, .int x]) ++ List.replicate (4 - (lg_sl ([.ref o, .int r, .int x])).length) Slot.unset).toArray = ls at hl ⊢
  have hl : lv_has ls 4 [(0, .ref o), (1, .int r), (2, .int x)] := hl
  refine lv_aload_n hx hb dX3_given_0 rfl (lv_at hl 0 rfl) ?_
  refine m_get6 hx hb hts hin hown I L25 dX3_given_1 ?_
  refine lv_iload_n hx hb dX3_given_4 rfl (lv_at hl 1 rfl) ?_
  refine m_ald6 hx hb I G.1 dX3_given_5 (x := S0.2 6 r.toNatClampNeg) rfl ?_
  refine lv_istore_n (lv' := [(3, .int (S0.2 6 r.toNatClampNeg)), (0, .ref o), (1, .int r), (2, .int x)]) hx hb dX3_given_6 rfl hl (by decide) rfl (fun ls hl => ?_)
  refine lv_aload_n hx hb dX3_given_7 rfl (lv_at hl 1 rfl) ?_
  refine m_get5 hx hb hts hin hown I L22 dX3_given_8 ?_
  refine lv_iload_n hx hb dX3_given_11 rfl (lv_at hl 2 rfl) ?_
  refine m_ald5 hx hb I G.1 dX3_given_12 (x := S0.2 5 r.toNatClampNeg) rfl ?_
  by_cases k13_0 : (S0.2 5 r.toNatClampNeg) = 0
  · refine lv_tableIn (tgt := 92) hx hb dX3_given_13 (by rw [k13_0]; decide) (by rw [k13_0]; decide) (off := 79) (by rw [k13_0]; rfl) (by decide) ?_
    refine lv_iload_n hx hb dX3_given_92 rfl (lv_at hl 3 rfl) ?_
    refine lv_iload_n hx hb dX3_given_93 rfl (lv_at hl 0 rfl) ?_
    refine lv_iadd hx hb dX3_given_94 ?_
    exact m_iret hx hb hr hlocks I dX3_given_95 (by simp (decide := true) [f_given, k13_0])
  by_cases k13_1 : (S0.2 5 r.toNatClampNeg) = 1
  · refine lv_tableIn (tgt := 96) hx hb dX3_given_13 (by rw [k13_1]; decide) (by rw [k13_1]; decide) (off := 83) (by rw [k13_1]; rfl) (by decide) ?_
    refine lv_iload_n hx hb dX3_given_96 rfl (lv_at hl 3 rfl) ?_
    refine lv_iload_n hx hb dX3_given_97 rfl (lv_at hl 0 rfl) ?_
    refine lv_imul hx hb dX3_given_98 ?_
    exact m_iret hx hb hr hlocks I dX3_given_99 (by simp (decide := true) [f_given, k13_1])
  by_cases k13_2 : (S0.2 5 r.toNatClampNeg) = 2
  · refine lv_tableIn (tgt := 100) hx hb dX3_given_13 (by rw [k13_2]; decide) (by rw [k13_2]; decide) (off := 87) (by rw [k13_2]; rfl) (by decide) ?_
    refine lv_iload_n hx hb dX3_given_100 rfl (lv_at hl 0 rfl) ?_
    refine lv_if_ne (tgt := 112) hx hb dX3_given_101 (by decide) (fun c101 => ?_) (fun c101 => ?_)
    · refine lv_aload_n hx hb dX3_given_112 rfl (lv_at hl 1 rfl) ?_
      refine m_get5 hx hb hts hin hown I L22 dX3_given_113 ?_
      refine lv_iload_n hx hb dX3_given_116 rfl (lv_at hl 2 rfl) ?_
      refine m_ald5 hx hb I G.1 dX3_given_117 (x := S0.2 5 r.toNatClampNeg) rfl ?_
      refine lv_iconst (v := 2) hx hb dX3_given_118 (by decide) ?_
      refine lv_icmp_ne (tgt := 128) hx hb dX3_given_119 (by decide) (fun h => absurd k13_2 h) (fun _ => ?_)
      refine lv_iload_n hx hb dX3_given_122 rfl (lv_at hl 3 rfl) ?_
      refine lv_iload_n hx hb dX3_given_123 rfl (lv_at hl 0 rfl) ?_
      refine lv_idiv hx hb dX3_given_124 c101 ?_
      refine lv_goto (tgt := 131) hx hb dX3_given_125 (by decide) ?_
      exact m_iret hx hb hr hlocks I dX3_given_131 (by simp (decide := true) [f_given, k13_2, c101])
    · refine lv_aload_n hx hb dX3_given_104 rfl (lv_at hl 1 rfl) ?_
      refine lv_iconst (v := 1) hx hb dX3_given_105 (by decide) ?_
      refine lv_iload_n hx hb dX3_given_106 rfl (lv_at hl 2 rfl) ?_
      refine m_callv (rest := []) ⟨hx, hb, hml, hown, hts⟩ (c_X3_fails l D o ad cA S0 1 r) (cwV 2 hts gX3_given_X3_fails rfl rfl rfl (by decide +kernel) ⟨Nat.le_of_ble_eq_true rfl, Nat.le_of_ble_eq_true rfl⟩) I rfl hl.1 rfl (Nat.le_of_ble_eq_true rfl) dX3_given_107 ⟨Nat.le_refl _, Nat.le_refl _⟩ (fun S107 H locs p107 I => ?_)
      refine lv_iconst (v := 0) hx hb dX3_given_110 (by decide) ?_
      exact m_iret hx hb hr hlocks I dX3_given_111 (by rw [p107]; simp (decide := true) [f_given, k13_2, c101])
  by_cases k13_3 : (S0.2 5 r.toNatClampNeg) = 3
  · refine lv_tableIn (tgt := 100) hx hb dX3_given_13 (by rw [k13_3]; decide) (by rw [k13_3]; decide) (off := 87) (by rw [k13_3]; rfl) (by decide) ?_
    refine lv_iload_n hx hb dX3_given_100 rfl (lv_at hl 0 rfl) ?_
    refine lv_if_ne (tgt := 112) hx hb dX3_given_101 (by decide) (fun c101 => ?_) (fun c101 => ?_)
    · refine lv_aload_n hx hb dX3_given_112 rfl (lv_at hl 1 rfl) ?_
      refine m_get5 hx hb hts hin hown I L22 dX3_given_113 ?_
      refine lv_iload_n hx hb dX3_given_116 rfl (lv_at hl 2 rfl) ?_
      refine m_ald5 hx hb I G.1 dX3_given_117 (x := S0.2 5 r.toNatClampNeg) rfl ?_
      refine lv_iconst (v := 2) hx hb dX3_given_118 (by decide) ?_
      refine lv_icmp_ne (tgt := 128) hx hb dX3_given_119 (by decide) (fun _ => ?_) (fun h => absurd (k13_3.symm.trans h) (by decide))
      refine lv_iload_n hx hb dX3_given_128 rfl (lv_at hl 3 rfl) ?_
      refine lv_iload_n hx hb dX3_given_129 rfl (lv_at hl 0 rfl) ?_
      refine lv_irem hx hb dX3_given_130 c101 ?_
      exact m_iret hx hb hr hlocks I dX3_given_131 (by simp (decide := true) [f_given, k13_3, c101])
    · refine lv_aload_n hx hb dX3_given_104 rfl (lv_at hl 1 rfl) ?_
      refine lv_iconst (v := 1) hx hb dX3_given_105 (by decide) ?_
      refine lv_iload_n hx hb dX3_given_106 rfl (lv_at hl 2 rfl) ?_
      refine m_callv (rest := []) ⟨hx, hb, hml, hown, hts⟩ (c_X3_fails l D o ad cA S0 1 r) (cwV 2 hts gX3_given_X3_fails rfl rfl rfl (by decide +kernel) ⟨Nat.le_of_ble_eq_true rfl, Nat.le_of_ble_eq_true rfl⟩) I rfl hl.1 rfl (Nat.le_of_ble_eq_true rfl) dX3_given_107 ⟨Nat.le_refl _, Nat.le_refl _⟩ (fun S107 H locs p107 I => ?_)
      refine lv_iconst (v := 0) hx hb dX3_given_110 (by decide) ?_
      exact m_iret hx hb hr hlocks I dX3_given_111 (by rw [p107]; simp (decide := true) [f_given, k13_3, c101])
  by_cases k13_4 : (S0.2 5 r.toNatClampNeg) = 4
  · refine lv_tableIn (tgt := 132) hx hb dX3_given_13 (by rw [k13_4]; decide) (by rw [k13_4]; decide) (off := 119) (by rw [k13_4]; rfl) (by decide) ?_
    refine lv_iload_n hx hb dX3_given_132 rfl (lv_at hl 3 rfl) ?_
    refine lv_aload_n hx hb dX3_given_133 rfl (lv_at hl 1 rfl) ?_
    refine m_get8 hx hb hts hin hown I L31 dX3_given_134 ?_
    refine lv_iload_n hx hb dX3_given_137 rfl (lv_at hl 2 rfl) ?_
    refine m_ald8 hx hb I G.1 dX3_given_138 (x := S0.2 8 r.toNatClampNeg) rfl ?_
    refine lv_iadd hx hb dX3_given_139 ?_
    exact m_iret hx hb hr hlocks I dX3_given_140 (by simp (decide := true) [f_given, k13_4])
  by_cases k13_5 : (S0.2 5 r.toNatClampNeg) = 5
  · refine lv_tableIn (tgt := 141) hx hb dX3_given_13 (by rw [k13_5]; decide) (by rw [k13_5]; decide) (off := 128) (by rw [k13_5]; rfl) (by decide) ?_
    refine lv_iload_n hx hb dX3_given_141 rfl (lv_at hl 3 rfl) ?_
    refine lv_aload_n hx hb dX3_given_142 rfl (lv_at hl 1 rfl) ?_
    refine m_get0 hx hb hts hin hown I L7 dX3_given_143 ?_
    refine lv_iload_n hx hb dX3_given_146 rfl (lv_at hl 0 rfl) ?_
    refine m_ald0 hx hb I (G.2.1 (Or.inl k13_5)) dX3_given_147 (x := S0.2 0 ((S0.2 6 r.toNatClampNeg).toNatClampNeg)) rfl ?_
    refine lv_iadd hx hb dX3_given_148 ?_
    exact m_iret hx hb hr hlocks I dX3_given_149 (by simp (decide := true) [f_given, k13_5])
  by_cases k13_6 : (S0.2 5 r.toNatClampNeg) = 6
  · refine lv_tableIn (tgt := 150) hx hb dX3_given_13 (by rw [k13_6]; decide) (by rw [k13_6]; decide) (off := 137) (by rw [k13_6]; rfl) (by decide) ?_
    refine lv_aload_n hx hb dX3_given_150 rfl (lv_at hl 1 rfl) ?_
    refine lv_aload_n hx hb dX3_given_151 rfl (lv_at hl 1 rfl) ?_
    refine m_get9 hx hb hts hin hown I L34 dX3_given_152 ?_
    refine lv_iload_n hx hb dX3_given_155 rfl (lv_at hl 2 rfl) ?_
    refine m_ald9 hx hb I G.1 dX3_given_156 (x := S0.2 9 r.toNatClampNeg) rfl ?_
    refine lv_iload_n hx hb dX3_given_157 rfl (lv_at hl 3 rfl) ?_
    refine lv_iload_n hx hb dX3_given_158 rfl (lv_at hl 2 rfl) ?_
    refine m_calli (rest := []) ⟨hx, hb, hml, hown, hts⟩ (c_X3_itemAt l D o ad cA S0 (S0.2 9 r.toNatClampNeg) x r (G.2.2.2 k13_6)) (cwV 3 hts gX3_given_X3_itemAt rfl rfl rfl (by decide +kernel) ⟨Nat.le_of_ble_eq_true rfl, Nat.le_of_ble_eq_true rfl⟩) I rfl hl.1 rfl (Nat.le_of_ble_eq_true rfl) dX3_given_159 ⟨Nat.le_refl _, Nat.le_refl _⟩ (fun r159 S159 H locs p159 I => ?_)
    exact m_iret hx hb hr hlocks I dX3_given_162 (by rw [p159]; simp (decide := true) [f_given, k13_6])
  by_cases k13_7 : (S0.2 5 r.toNatClampNeg) = 7
  · refine lv_tableIn (tgt := 163) hx hb dX3_given_13 (by rw [k13_7]; decide) (by rw [k13_7]; decide) (off := 150) (by rw [k13_7]; rfl) (by decide) ?_
    refine lv_aload_n hx hb dX3_given_163 rfl (lv_at hl 1 rfl) ?_
    refine lv_aload_n hx hb dX3_given_164 rfl (lv_at hl 1 rfl) ?_
    refine m_get1 hx hb hts hin hown I L13 dX3_given_165 ?_
    refine lv_iload_n hx hb dX3_given_168 rfl (lv_at hl 0 rfl) ?_
    refine m_ald1 hx hb I (G.2.2.1 k13_7).1 dX3_given_169 (x := S0.2 1 ((S0.2 6 r.toNatClampNeg).toNatClampNeg)) rfl ?_
    refine lv_iload_n hx hb dX3_given_170 rfl (lv_at hl 3 rfl) ?_
    refine lv_iload_n hx hb dX3_given_171 rfl (lv_at hl 2 rfl) ?_
    refine m_calli (rest := []) ⟨hx, hb, hml, hown, hts⟩ (c_X3_itemAt l D o ad cA S0 (S0.2 1 ((S0.2 6 r.toNatClampNeg).toNatClampNeg)) x r (G.2.2.1 k13_7).2) (cwV 3 hts gX3_given_X3_itemAt rfl rfl rfl (by decide +kernel) ⟨Nat.le_of_ble_eq_true rfl, Nat.le_of_ble_eq_true rfl⟩) I rfl hl.1 rfl (Nat.le_of_ble_eq_true rfl) dX3_given_172 ⟨Nat.le_refl _, Nat.le_refl _⟩ (fun r172 S172 H locs p172 I => ?_)
    exact m_iret hx hb hr hlocks I dX3_given_175 (by rw [p172]; simp (decide := true) [f_given, k13_7])
  by_cases k13_8 : (S0.2 5 r.toNatClampNeg) = 8
  · refine lv_tableIn (tgt := 241) hx hb dX3_given_13 (by rw [k13_8]; decide) (by rw [k13_8]; decide) (off := 228) (by rw [k13_8]; rfl) (by decide) ?_
    refine lv_aload_n hx hb dX3_given_241 rfl (lv_at hl 1 rfl) ?_
    refine lv_iconst (v := 3) hx hb dX3_given_242 (by decide) ?_
    refine lv_iload_n hx hb dX3_given_243 rfl (lv_at hl 2 rfl) ?_
    refine m_callv (rest := []) ⟨hx, hb, hml, hown, hts⟩ (c_X3_fails l D o ad cA S0 3 r) (cwV 2 hts gX3_given_X3_fails rfl rfl rfl (by decide +kernel) ⟨Nat.le_of_ble_eq_true rfl, Nat.le_of_ble_eq_true rfl⟩) I rfl hl.1 rfl (Nat.le_of_ble_eq_true rfl) dX3_given_244 ⟨Nat.le_refl _, Nat.le_refl _⟩ (fun S244 H locs p244 I => ?_)
    refine lv_iconst (v := 0) hx hb dX3_given_247 (by decide) ?_
    exact m_iret hx hb hr hlocks I dX3_given_248 (by rw [p244]; simp (decide := true) [f_given, k13_8])
  by_cases k13_9 : (S0.2 5 r.toNatClampNeg) = 9
  · refine lv_tableIn (tgt := 241) hx hb dX3_given_13 (by rw [k13_9]; decide) (by rw [k13_9]; decide) (off := 228) (by rw [k13_9]; rfl) (by decide) ?_
    refine lv_aload_n hx hb dX3_given_241 rfl (lv_at hl 1 rfl) ?_
    refine lv_iconst (v := 3) hx hb dX3_given_242 (by decide) ?_
    refine lv_iload_n hx hb dX3_given_243 rfl (lv_at hl 2 rfl) ?_
    refine m_callv (rest := []) ⟨hx, hb, hml, hown, hts⟩ (c_X3_fails l D o ad cA S0 3 r) (cwV 2 hts gX3_given_X3_fails rfl rfl rfl (by decide +kernel) ⟨Nat.le_of_ble_eq_true rfl, Nat.le_of_ble_eq_true rfl⟩) I rfl hl.1 rfl (Nat.le_of_ble_eq_true rfl) dX3_given_244 ⟨Nat.le_refl _, Nat.le_refl _⟩ (fun S244 H locs p244 I => ?_)
    refine lv_iconst (v := 0) hx hb dX3_given_247 (by decide) ?_
    exact m_iret hx hb hr hlocks I dX3_given_248 (by rw [p244]; simp (decide := true) [f_given, k13_9])
  by_cases k13_10 : (S0.2 5 r.toNatClampNeg) = 10
  · refine lv_tableIn (tgt := 241) hx hb dX3_given_13 (by rw [k13_10]; decide) (by rw [k13_10]; decide) (off := 228) (by rw [k13_10]; rfl) (by decide) ?_
    refine lv_aload_n hx hb dX3_given_241 rfl (lv_at hl 1 rfl) ?_
    refine lv_iconst (v := 3) hx hb dX3_given_242 (by decide) ?_
    refine lv_iload_n hx hb dX3_given_243 rfl (lv_at hl 2 rfl) ?_
    refine m_callv (rest := []) ⟨hx, hb, hml, hown, hts⟩ (c_X3_fails l D o ad cA S0 3 r) (cwV 2 hts gX3_given_X3_fails rfl rfl rfl (by decide +kernel) ⟨Nat.le_of_ble_eq_true rfl, Nat.le_of_ble_eq_true rfl⟩) I rfl hl.1 rfl (Nat.le_of_ble_eq_true rfl) dX3_given_244 ⟨Nat.le_refl _, Nat.le_refl _⟩ (fun S244 H locs p244 I => ?_)
    refine lv_iconst (v := 0) hx hb dX3_given_247 (by decide) ?_
    exact m_iret hx hb hr hlocks I dX3_given_248 (by rw [p244]; simp (decide := true) [f_given, k13_10])
  by_cases k13_11 : (S0.2 5 r.toNatClampNeg) = 11
  · refine lv_tableIn (tgt := 241) hx hb dX3_given_13 (by rw [k13_11]; decide) (by rw [k13_11]; decide) (off := 228) (by rw [k13_11]; rfl) (by decide) ?_
    refine lv_aload_n hx hb dX3_given_241 rfl (lv_at hl 1 rfl) ?_
    refine lv_iconst (v := 3) hx hb dX3_given_242 (by decide) ?_
    refine lv_iload_n hx hb dX3_given_243 rfl (lv_at hl 2 rfl) ?_
    refine m_callv (rest := []) ⟨hx, hb, hml, hown, hts⟩ (c_X3_fails l D o ad cA S0 3 r) (cwV 2 hts gX3_given_X3_fails rfl rfl rfl (by decide +kernel) ⟨Nat.le_of_ble_eq_true rfl, Nat.le_of_ble_eq_true rfl⟩) I rfl hl.1 rfl (Nat.le_of_ble_eq_true rfl) dX3_given_244 ⟨Nat.le_refl _, Nat.le_refl _⟩ (fun S244 H locs p244 I => ?_)
    refine lv_iconst (v := 0) hx hb dX3_given_247 (by decide) ?_
    exact m_iret hx hb hr hlocks I dX3_given_248 (by rw [p244]; simp (decide := true) [f_given, k13_11])
  by_cases k13_12 : (S0.2 5 r.toNatClampNeg) = 12
  · refine lv_tableIn (tgt := 176) hx hb dX3_given_13 (by rw [k13_12]; decide) (by rw [k13_12]; decide) (off := 163) (by rw [k13_12]; rfl) (by decide) ?_
    refine lv_aload_n hx hb dX3_given_176 rfl (lv_at hl 1 rfl) ?_
    refine m_get0 hx hb hts hin hown I L7 dX3_given_177 ?_
    refine lv_iload_n hx hb dX3_given_180 rfl (lv_at hl 0 rfl) ?_
    refine lv_dup2_11 hx hb dX3_given_181 rfl rfl ?_
    refine m_ald0 hx hb I (G.2.1 (Or.inr k13_12)) dX3_given_182 (x := S0.2 0 ((S0.2 6 r.toNatClampNeg).toNatClampNeg)) rfl ?_
    refine lv_iconst (v := 1) hx hb dX3_given_183 (by decide) ?_
    refine lv_iadd hx hb dX3_given_184 ?_
    refine m_ast0 hx hb I (G.2.1 (Or.inr k13_12)) dX3_given_185 (fun H locs I => ?_)
    refine lv_iload_n hx hb dX3_given_186 rfl (lv_at hl 3 rfl) ?_
    refine lv_aload_n hx hb dX3_given_187 rfl (lv_at hl 1 rfl) ?_
    refine m_get0 hx hb hts hin hown I L7 dX3_given_188 ?_
    refine lv_iload_n hx hb dX3_given_191 rfl (lv_at hl 0 rfl) ?_
    refine m_ald0 hx hb I (G.2.1 (Or.inr k13_12)) dX3_given_192 (x := (S0.2 0 ((S0.2 6 r.toNatClampNeg).toNatClampNeg)) + 1) (by simp [sA, sF, va_up, upd]) ?_
    refine lv_iadd hx hb dX3_given_193 ?_
    exact m_iret hx hb hr hlocks I dX3_given_194 (by simp (decide := true) [f_given, k13_12])
  by_cases k13_13 : (S0.2 5 r.toNatClampNeg) = 13
  · refine lv_tableIn (tgt := 195) hx hb dX3_given_13 (by rw [k13_13]; decide) (by rw [k13_13]; decide) (off := 182) (by rw [k13_13]; rfl) (by decide) ?_
    refine lv_aload_n hx hb dX3_given_195 rfl (lv_at hl 1 rfl) ?_
    refine m_get10 hx hb hts hin hown I L37 dX3_given_196 ?_
    refine lv_iload_n hx hb dX3_given_199 rfl (lv_at hl 2 rfl) ?_
    refine lv_dup2_11 hx hb dX3_given_200 rfl rfl ?_
    refine m_ald10 hx hb I G.1 dX3_given_201 (x := S0.2 10 r.toNatClampNeg) rfl ?_
    refine lv_iconst (v := 1) hx hb dX3_given_202 (by decide) ?_
    refine lv_iadd hx hb dX3_given_203 ?_
    refine m_ast10 hx hb I G.1 dX3_given_204 (fun H locs I => ?_)
    refine lv_iload_n hx hb dX3_given_205 rfl (lv_at hl 3 rfl) ?_
    refine lv_iload_n hx hb dX3_given_206 rfl (lv_at hl 0 rfl) ?_
    refine lv_aload_n hx hb dX3_given_207 rfl (lv_at hl 1 rfl) ?_
    refine m_get10 hx hb hts hin hown I L37 dX3_given_208 ?_
    refine lv_iload_n hx hb dX3_given_211 rfl (lv_at hl 2 rfl) ?_
    refine m_ald10 hx hb I G.1 dX3_given_212 (x := (S0.2 10 r.toNatClampNeg) + 1) (by simp [sA, sF, va_up, upd]) ?_
    refine lv_imul hx hb dX3_given_213 ?_
    refine lv_iadd hx hb dX3_given_214 ?_
    exact m_iret hx hb hr hlocks I dX3_given_215 (by simp (decide := true) [f_given, k13_13])
  by_cases k13_14 : (S0.2 5 r.toNatClampNeg) = 14
  · refine lv_tableIn (tgt := 216) hx hb dX3_given_13 (by rw [k13_14]; decide) (by rw [k13_14]; decide) (off := 203) (by rw [k13_14]; rfl) (by decide) ?_
    refine lv_aload_n hx hb dX3_given_216 rfl (lv_at hl 1 rfl) ?_
    refine m_get8 hx hb hts hin hown I L31 dX3_given_217 ?_
    refine lv_iload_n hx hb dX3_given_220 rfl (lv_at hl 2 rfl) ?_
    refine m_ald8 hx hb I G.1 dX3_given_221 (x := S0.2 8 r.toNatClampNeg) rfl ?_
    exact m_iret hx hb hr hlocks I dX3_given_222 (by simp (decide := true) [f_given, k13_14])
  by_cases k13_15 : (S0.2 5 r.toNatClampNeg) = 15
  · refine lv_tableIn (tgt := 223) hx hb dX3_given_13 (by rw [k13_15]; decide) (by rw [k13_15]; decide) (off := 210) (by rw [k13_15]; rfl) (by decide) ?_
    refine lv_iload_n hx hb dX3_given_223 rfl (lv_at hl 3 rfl) ?_
    refine lv_bipush (v := 50) hx hb dX3_given_224 (by decide) ?_
    refine lv_irem hx hb dX3_given_226 (by decide) ?_
    refine lv_if_ge (tgt := 236) hx hb dX3_given_227 (by decide) (fun c227 => ?_) (fun c227 => ?_)
    · refine lv_iload_n hx hb dX3_given_236 rfl (lv_at hl 3 rfl) ?_
      refine lv_bipush (v := 50) hx hb dX3_given_237 (by decide) ?_
      refine lv_irem hx hb dX3_given_239 (by decide) ?_
      exact m_iret hx hb hr hlocks I dX3_given_240 (by simp (decide := true) [f_given, k13_15, c227])
    · refine lv_aload_n hx hb dX3_given_230 rfl (lv_at hl 1 rfl) ?_
      refine lv_iconst (v := 4) hx hb dX3_given_231 (by decide) ?_
      refine lv_iload_n hx hb dX3_given_232 rfl (lv_at hl 2 rfl) ?_
      refine m_callv (rest := []) ⟨hx, hb, hml, hown, hts⟩ (c_X3_fails l D o ad cA S0 4 r) (cwV 2 hts gX3_given_X3_fails rfl rfl rfl (by decide +kernel) ⟨Nat.le_of_ble_eq_true rfl, Nat.le_of_ble_eq_true rfl⟩) I rfl hl.1 rfl (Nat.le_of_ble_eq_true rfl) dX3_given_233 ⟨Nat.le_refl _, Nat.le_refl _⟩ (fun S233 H locs p233 I => ?_)
      refine lv_iload_n hx hb dX3_given_236 rfl (lv_at hl 3 rfl) ?_
      refine lv_bipush (v := 50) hx hb dX3_given_237 (by decide) ?_
      refine lv_irem hx hb dX3_given_239 (by decide) ?_
      exact m_iret hx hb hr hlocks I dX3_given_240 (by rw [p233]; simp (decide := true) [f_given, k13_15, c227])
  refine lv_tableOut (tgt := 241) hx hb dX3_given_13 (by have t0 := lv_neT k13_0 (a := 0) rfl; have t1 := lv_neT k13_1 (a := 1) rfl; have t2 := lv_neT k13_2 (a := 2) rfl; have t3 := lv_neT k13_3 (a := 3) rfl; have t4 := lv_neT k13_4 (a := 4) rfl; have t5 := lv_neT k13_5 (a := 5) rfl; have t6 := lv_neT k13_6 (a := 6) rfl; have t7 := lv_neT k13_7 (a := 7) rfl; have t8 := lv_neT k13_8 (a := 8) rfl; have t9 := lv_neT k13_9 (a := 9) rfl; have t10 := lv_neT k13_10 (a := 10) rfl; have t11 := lv_neT k13_11 (a := 11) rfl; have t12 := lv_neT k13_12 (a := 12) rfl; have t13 := lv_neT k13_13 (a := 13) rfl; have t14 := lv_neT k13_14 (a := 14) rfl; have t15 := lv_neT k13_15 (a := 15) rfl; omega) (by decide) ?_
  refine lv_aload_n hx hb dX3_given_241 rfl (lv_at hl 1 rfl) ?_
  refine lv_iconst (v := 3) hx hb dX3_given_242 (by decide) ?_
  refine lv_iload_n hx hb dX3_given_243 rfl (lv_at hl 2 rfl) ?_
  refine m_callv (rest := []) ⟨hx, hb, hml, hown, hts⟩ (c_X3_fails l D o ad cA S0 3 r) (cwV 2 hts gX3_given_X3_fails rfl rfl rfl (by decide +kernel) ⟨Nat.le_of_ble_eq_true rfl, Nat.le_of_ble_eq_true rfl⟩) I rfl hl.1 rfl (Nat.le_of_ble_eq_true rfl) dX3_given_244 ⟨Nat.le_refl _, Nat.le_refl _⟩ (fun S244 H locs p244 I => ?_)
  refine lv_iconst (v := 0) hx hb dX3_given_247 (by decide) ?_
  exact m_iret hx hb hr hlocks I dX3_given_248 (by rw [p244]; simp (decide := true) [f_given, k13_0, k13_1, k13_2, k13_3, k13_4, k13_5, k13_6, k13_7, k13_8, k13_9, k13_10, k13_11, k13_12, k13_13, k13_14, k13_15])

def f_goesOn (v : Int32) (S : tr_S) : Int32 × tr_S :=
  if S.2 14 (S.1 11 - 1).toNatClampNeg = 0 then (0, (f_begins (S.2 6 (S.2 12 (S.1 11 - 1).toNatClampNeg).toNatClampNeg) (S.2 13 (S.1 11 - 1).toNatClampNeg) (sA S 14 (S.1 11 - 1).toNatClampNeg (S.2 14 (S.1 11 - 1).toNatClampNeg + 1))).2)
  else if S.2 14 (S.1 11 - 1).toNatClampNeg = 1 ∧ (S.2 5 (S.2 12 (S.1 11 - 1).toNatClampNeg).toNatClampNeg = 8 ∨ S.2 5 (S.2 12 (S.1 11 - 1).toNatClampNeg).toNatClampNeg = 9 ∨ S.2 5 (S.2 12 (S.1 11 - 1).toNatClampNeg).toNatClampNeg = 16 ∨ (S.2 5 (S.2 12 (S.1 11 - 1).toNatClampNeg).toNatClampNeg = 10 ∧ ¬ v = 0)) then
    (0, (f_begins (if S.2 5 (S.2 12 (S.1 11 - 1).toNatClampNeg).toNatClampNeg = 9 then S.2 6 (S.2 12 (S.1 11 - 1).toNatClampNeg).toNatClampNeg else S.2 7 (S.2 12 (S.1 11 - 1).toNatClampNeg).toNatClampNeg) (if S.2 5 (S.2 12 (S.1 11 - 1).toNatClampNeg).toNatClampNeg = 8 ∨ S.2 5 (S.2 12 (S.1 11 - 1).toNatClampNeg).toNatClampNeg = 9 then v else S.2 13 (S.1 11 - 1).toNatClampNeg) (sA (sA S 14 (S.1 11 - 1).toNatClampNeg (S.2 14 (S.1 11 - 1).toNatClampNeg + 1)) 15 (S.1 11 - 1).toNatClampNeg v)).2)
  else (1, sF (sA S 14 (S.1 11 - 1).toNatClampNeg (S.2 14 (S.1 11 - 1).toNatClampNeg + 1)) 26 (if S.2 5 (S.2 12 (S.1 11 - 1).toNatClampNeg).toNatClampNeg = 10 ∧ S.2 14 (S.1 11 - 1).toNatClampNeg = 1 then S.2 13 (S.1 11 - 1).toNatClampNeg else if S.2 5 (S.2 12 (S.1 11 - 1).toNatClampNeg).toNatClampNeg = 16 then (if v ≤ S.2 15 (S.1 11 - 1).toNatClampNeg then v else S.2 15 (S.1 11 - 1).toNatClampNeg) else v))
set_option maxHeartbeats 4000000 in
set_option maxRecDepth 100000 in
theorem c_X3_goesOn (l : Launch) (D : va_G) (o : Nat) (ad : Nat → Nat) (cA : ClassId) (S0 : tr_S) (v : Int32) (ht : vp_in (S0.1 11 - 1) 65) (hw : vp_in (S0.1 11) 65) (hq : vp_in (S0.2 12 (S0.1 11 - 1).toNatClampNeg) 40) : m_Mi l yX3_goesOn wsX3_goesOn { frames := 2, cells := 0, slots := 0, locals := 44 } [.int v] D o ad cA S0 (fun x S => (x, S) = f_goesOn v S0) := by
  refine Met.ofW (cc := cX3_goesOn) (maxL := 9) (ret := (some .boolean)) (by decide) rfl ?_
  intro p e s m args below meth c s₁ B hml hv
  obtain ⟨rfl, hB⟩ := hv
  have hx := B.exec
  have hb := B.bytes
  have hr := B.returns
  have hts := atoms_spec (ws := wsX3_goesOn) B.pre
  have hown : s.vm.findClass RX3 = some m.cls := findClass_of_methodNamed B.named
  have hlocks := B.notSynchronized
  have I := m_I.of hB
  have hin : ∀ w ∈ wsX30, w ∈ wsX3_goesOn := fun _ h => List.mem_cons_of_mem _ (List.mem_append_right _ h)
  have L22 := hts (.fieldLink RX3 22 "TollRulesModel" "kind" "[I") (by decide +kernel)
  have L25 := hts (.fieldLink RX3 25 "TollRulesModel" "first" "[I") (by decide +kernel)
  have L28 := hts (.fieldLink RX3 28 "TollRulesModel" "second" "[I") (by decide +kernel)
  have L40 := hts (.fieldLink RX3 40 "TollRulesModel" "waitRule" "[I") (by decide +kernel)
  have L43 := hts (.fieldLink RX3 43 "TollRulesModel" "waitValue" "[I") (by decide +kernel)
  have L46 := hts (.fieldLink RX3 46 "TollRulesModel" "waitPhase" "[I") (by decide +kernel)
  have L49 := hts (.fieldLink RX3 49 "TollRulesModel" "waitHad" "[I") (by decide +kernel)
  have L92 := hts (.fieldLink RX3 92 "TollRulesModel" "waiting" "I") (by decide +kernel)
  have L109 := hts (.fieldLink RX3 109 "TollRulesModel" "handed" "I") (by decide +kernel)
  have hl := lv_entry ([.ref o, .int v]) (n := 9) (Nat.le_of_ble_eq_true rfl)
  rw [lg_entry_eq]
  generalize (lg_sl ([.ref o, .int v]) ++ List.replicate (9 - (lg_sl ([.ref o, .int v])).length) Slot.unset).toArray = ls at hl ⊢
  have hl : lv_has ls 9 [(0, .ref o), (1, .int v)] := hl
  refine lv_aload_n hx hb dX3_goesOn_0 rfl (lv_at hl 0 rfl) ?_
  refine m_get11 hx hb hts hin hown I L92 dX3_goesOn_1 (x := S0.1 11) rfl ?_
  refine lv_iconst (v := 1) hx hb dX3_goesOn_4 (by decide) ?_
  refine lv_isub hx hb dX3_goesOn_5 ?_
  refine lv_istore_n (lv' := [(2, .int ((S0.1 11) - 1)), (0, .ref o), (1, .int v)]) hx hb dX3_goesOn_6 rfl hl (by decide) rfl (fun ls hl => ?_)
  refine lv_aload_n hx hb dX3_goesOn_7 rfl (lv_at hl 1 rfl) ?_
  refine m_get12 hx hb hts hin hown I L40 dX3_goesOn_8 ?_
  refine lv_iload_n hx hb dX3_goesOn_11 rfl (lv_at hl 0 rfl) ?_
  refine m_ald12 hx hb I ht dX3_goesOn_12 (x := S0.2 12 (((S0.1 11) - 1).toNatClampNeg)) rfl ?_
  refine lv_istore_n (lv' := [(3, .int (S0.2 12 (((S0.1 11) - 1).toNatClampNeg))), (2, .int ((S0.1 11) - 1)), (0, .ref o), (1, .int v)]) hx hb dX3_goesOn_13 rfl hl (by decide) rfl (fun ls hl => ?_)
  refine lv_aload_n hx hb dX3_goesOn_14 rfl (lv_at hl 2 rfl) ?_
  refine m_get13 hx hb hts hin hown I L43 dX3_goesOn_15 ?_
  refine lv_iload_n hx hb dX3_goesOn_18 rfl (lv_at hl 1 rfl) ?_
  refine m_ald13 hx hb I ht dX3_goesOn_19 (x := S0.2 13 (((S0.1 11) - 1).toNatClampNeg)) rfl ?_
  refine lv_istore (lv' := [(4, .int (S0.2 13 (((S0.1 11) - 1).toNatClampNeg))), (3, .int (S0.2 12 (((S0.1 11) - 1).toNatClampNeg))), (2, .int ((S0.1 11) - 1)), (0, .ref o), (1, .int v)]) hx hb dX3_goesOn_20 hl (by decide) rfl (fun ls hl => ?_)
  refine lv_aload_n hx hb dX3_goesOn_22 rfl (lv_at hl 3 rfl) ?_
  refine m_get14 hx hb hts hin hown I L46 dX3_goesOn_23 ?_
  refine lv_iload_n hx hb dX3_goesOn_26 rfl (lv_at hl 2 rfl) ?_
  refine m_ald14 hx hb I ht dX3_goesOn_27 (x := S0.2 14 (((S0.1 11) - 1).toNatClampNeg)) rfl ?_
  refine lv_istore (lv' := [(5, .int (S0.2 14 (((S0.1 11) - 1).toNatClampNeg))), (4, .int (S0.2 13 (((S0.1 11) - 1).toNatClampNeg))), (3, .int (S0.2 12 (((S0.1 11) - 1).toNatClampNeg))), (2, .int ((S0.1 11) - 1)), (0, .ref o), (1, .int v)]) hx hb dX3_goesOn_28 hl (by decide) rfl (fun ls hl => ?_)
  refine lv_aload_n hx hb dX3_goesOn_30 rfl (lv_at hl 4 rfl) ?_
  refine m_get14 hx hb hts hin hown I L46 dX3_goesOn_31 ?_
  refine lv_iload_n hx hb dX3_goesOn_34 rfl (lv_at hl 3 rfl) ?_
  refine lv_dup2_11 hx hb dX3_goesOn_35 rfl rfl ?_
  refine m_ald14 hx hb I ht dX3_goesOn_36 (x := S0.2 14 (((S0.1 11) - 1).toNatClampNeg)) rfl ?_
  refine lv_iconst (v := 1) hx hb dX3_goesOn_37 (by decide) ?_
  refine lv_iadd hx hb dX3_goesOn_38 ?_
  refine m_ast14 hx hb I ht dX3_goesOn_39 (fun H locs I => ?_)
  refine lv_iload hx hb dX3_goesOn_40 (lv_at hl 0 rfl) ?_
  refine lv_if_ne (tgt := 61) hx hb dX3_goesOn_42 (by decide) (fun c42 => ?_) (fun c42 => ?_)
  · refine lv_aload_n hx hb dX3_goesOn_61 rfl (lv_at hl 4 rfl) ?_
    refine m_get5 hx hb hts hin hown I L22 dX3_goesOn_62 ?_
    refine lv_iload_n hx hb dX3_goesOn_65 rfl (lv_at hl 2 rfl) ?_
    refine m_ald5 hx hb I hq dX3_goesOn_66 (x := S0.2 5 ((S0.2 12 (((S0.1 11) - 1).toNatClampNeg)).toNatClampNeg)) rfl ?_
    refine lv_istore (lv' := [(6, .int (S0.2 5 ((S0.2 12 (((S0.1 11) - 1).toNatClampNeg)).toNatClampNeg))), (5, .int (S0.2 14 (((S0.1 11) - 1).toNatClampNeg))), (4, .int (S0.2 13 (((S0.1 11) - 1).toNatClampNeg))), (3, .int (S0.2 12 (((S0.1 11) - 1).toNatClampNeg))), (2, .int ((S0.1 11) - 1)), (0, .ref o), (1, .int v)]) hx hb dX3_goesOn_67 hl (by decide) rfl (fun ls hl => ?_)
    refine lv_iload hx hb dX3_goesOn_69 (lv_at hl 1 rfl) ?_
    refine lv_iconst (v := 1) hx hb dX3_goesOn_71 (by decide) ?_
    refine lv_icmp_ne (tgt := 111) hx hb dX3_goesOn_72 (by decide) (fun c72 => ?_) (fun c72 => ?_)
    · refine lv_iconst (v := 0) hx hb dX3_goesOn_111 (by decide) ?_
      refine lv_istore (lv' := [(7, .int 0), (6, .int (S0.2 5 ((S0.2 12 (((S0.1 11) - 1).toNatClampNeg)).toNatClampNeg))), (5, .int (S0.2 14 (((S0.1 11) - 1).toNatClampNeg))), (4, .int (S0.2 13 (((S0.1 11) - 1).toNatClampNeg))), (3, .int (S0.2 12 (((S0.1 11) - 1).toNatClampNeg))), (2, .int ((S0.1 11) - 1)), (0, .ref o), (1, .int v)]) hx hb dX3_goesOn_112 hl (by decide) rfl (fun ls hl => ?_)
      refine lv_iload hx hb dX3_goesOn_114 (lv_at hl 0 rfl) ?_
      refine lv_if_eq (tgt := 176) hx hb dX3_goesOn_116 (by decide) (fun _ => ?_) (fun h => absurd h (by decide))
      refine lv_aload_n hx hb dX3_goesOn_176 rfl (lv_at hl 6 rfl) ?_
      refine lv_iload hx hb dX3_goesOn_177 (lv_at hl 1 rfl) ?_
      refine lv_bipush (v := 10) hx hb dX3_goesOn_179 (by decide) ?_
      refine lv_icmp_ne (tgt := 195) hx hb dX3_goesOn_181 (by decide) (fun c181 => ?_) (fun c181 => ?_)
      · refine lv_iload hx hb dX3_goesOn_195 (lv_at hl 1 rfl) ?_
        refine lv_bipush (v := 16) hx hb dX3_goesOn_197 (by decide) ?_
        refine lv_icmp_ne (tgt := 225) hx hb dX3_goesOn_199 (by decide) (fun c199 => ?_) (fun c199 => ?_)
        · refine lv_iload_n hx hb dX3_goesOn_225 rfl (lv_at hl 7 rfl) ?_
          refine m_put26 hx hb hts hin hown I L109 dX3_goesOn_226 (fun H locs I => ?_)
          refine lv_iconst (v := 1) hx hb dX3_goesOn_229 (by decide) ?_
          exact m_zret hx hb hr hlocks I rfl dX3_goesOn_230 (by simp (decide := true) [f_goesOn, c42, c72, c181, c199])
        · refine lv_aload_n hx hb dX3_goesOn_202 rfl (lv_at hl 6 rfl) ?_
          refine m_get15 hx hb hts hin hown I L49 dX3_goesOn_203 ?_
          refine lv_iload_n hx hb dX3_goesOn_206 rfl (lv_at hl 5 rfl) ?_
          refine m_ald15 hx hb I ht dX3_goesOn_207 (x := S0.2 15 (((S0.1 11) - 1).toNatClampNeg)) rfl ?_
          refine lv_iload_n hx hb dX3_goesOn_208 rfl (lv_at hl 7 rfl) ?_
          refine lv_icmp_ge (tgt := 221) hx hb dX3_goesOn_209 (by decide) (fun c209 => ?_) (fun c209 => ?_)
          · refine lv_iload_n hx hb dX3_goesOn_221 rfl (lv_at hl 7 rfl) ?_
            refine lv_goto (tgt := 226) hx hb dX3_goesOn_222 (by decide) ?_
            refine m_put26 hx hb hts hin hown I L109 dX3_goesOn_226 (fun H locs I => ?_)
            refine lv_iconst (v := 1) hx hb dX3_goesOn_229 (by decide) ?_
            exact m_zret hx hb hr hlocks I rfl dX3_goesOn_230 (by simp (decide := true) [f_goesOn, c42, c72, c181, c199, c209])
          · refine lv_aload_n hx hb dX3_goesOn_212 rfl (lv_at hl 6 rfl) ?_
            refine m_get15 hx hb hts hin hown I L49 dX3_goesOn_213 ?_
            refine lv_iload_n hx hb dX3_goesOn_216 rfl (lv_at hl 5 rfl) ?_
            refine m_ald15 hx hb I ht dX3_goesOn_217 (x := S0.2 15 (((S0.1 11) - 1).toNatClampNeg)) rfl ?_
            refine lv_goto (tgt := 226) hx hb dX3_goesOn_218 (by decide) ?_
            refine m_put26 hx hb hts hin hown I L109 dX3_goesOn_226 (fun H locs I => ?_)
            refine lv_iconst (v := 1) hx hb dX3_goesOn_229 (by decide) ?_
            exact m_zret hx hb hr hlocks I rfl dX3_goesOn_230 (by simp (decide := true) [f_goesOn, c42, c72, c181, c199, c209])
      · refine lv_iload hx hb dX3_goesOn_184 (lv_at hl 2 rfl) ?_
        refine lv_iconst (v := 1) hx hb dX3_goesOn_186 (by decide) ?_
        refine lv_icmp_ne (tgt := 195) hx hb dX3_goesOn_187 (by decide) (fun _ => ?_) (fun h => absurd h c72)
        refine lv_iload hx hb dX3_goesOn_195 (lv_at hl 1 rfl) ?_
        refine lv_bipush (v := 16) hx hb dX3_goesOn_197 (by decide) ?_
        refine lv_icmp_ne (tgt := 225) hx hb dX3_goesOn_199 (by decide) (fun _ => ?_) (fun h => absurd (c181.symm.trans h) (by decide))
        refine lv_iload_n hx hb dX3_goesOn_225 rfl (lv_at hl 7 rfl) ?_
        refine m_put26 hx hb hts hin hown I L109 dX3_goesOn_226 (fun H locs I => ?_)
        refine lv_iconst (v := 1) hx hb dX3_goesOn_229 (by decide) ?_
        exact m_zret hx hb hr hlocks I rfl dX3_goesOn_230 (by simp (decide := true) [f_goesOn, c42, c72, c181])
    · refine lv_iload hx hb dX3_goesOn_75 (lv_at hl 0 rfl) ?_
      refine lv_bipush (v := 8) hx hb dX3_goesOn_77 (by decide) ?_
      refine lv_icmp_eq (tgt := 107) hx hb dX3_goesOn_79 (by decide) (fun c79 => ?_) (fun c79 => ?_)
      · refine lv_iconst (v := 1) hx hb dX3_goesOn_107 (by decide) ?_
        refine lv_goto (tgt := 112) hx hb dX3_goesOn_108 (by decide) ?_
        refine lv_istore (lv' := [(7, .int 1), (6, .int (S0.2 5 ((S0.2 12 (((S0.1 11) - 1).toNatClampNeg)).toNatClampNeg))), (5, .int (S0.2 14 (((S0.1 11) - 1).toNatClampNeg))), (4, .int (S0.2 13 (((S0.1 11) - 1).toNatClampNeg))), (3, .int (S0.2 12 (((S0.1 11) - 1).toNatClampNeg))), (2, .int ((S0.1 11) - 1)), (0, .ref o), (1, .int v)]) hx hb dX3_goesOn_112 hl (by decide) rfl (fun ls hl => ?_)
        refine lv_iload hx hb dX3_goesOn_114 (lv_at hl 0 rfl) ?_
        refine lv_if_eq (tgt := 176) hx hb dX3_goesOn_116 (by decide) (fun h => absurd h (by decide)) (fun _ => ?_)
        refine lv_aload_n hx hb dX3_goesOn_119 rfl (lv_at hl 6 rfl) ?_
        refine m_get15 hx hb hts hin hown I L49 dX3_goesOn_120 ?_
        refine lv_iload_n hx hb dX3_goesOn_123 rfl (lv_at hl 5 rfl) ?_
        refine lv_iload_n hx hb dX3_goesOn_124 rfl (lv_at hl 7 rfl) ?_
        refine m_ast15 hx hb I ht dX3_goesOn_125 (fun H locs I => ?_)
        refine lv_aload_n hx hb dX3_goesOn_126 rfl (lv_at hl 6 rfl) ?_
        refine lv_iload hx hb dX3_goesOn_127 (lv_at hl 1 rfl) ?_
        refine lv_bipush (v := 9) hx hb dX3_goesOn_129 (by decide) ?_
        refine lv_icmp_ne (tgt := 143) hx hb dX3_goesOn_131 (by decide) (fun _ => ?_) (fun h => absurd (c79.symm.trans h) (by decide))
        refine lv_aload_n hx hb dX3_goesOn_143 rfl (lv_at hl 6 rfl) ?_
        refine m_get7 hx hb hts hin hown I L28 dX3_goesOn_144 ?_
        refine lv_iload_n hx hb dX3_goesOn_147 rfl (lv_at hl 4 rfl) ?_
        refine m_ald7 hx hb I hq dX3_goesOn_148 (x := S0.2 7 ((S0.2 12 (((S0.1 11) - 1).toNatClampNeg)).toNatClampNeg)) rfl ?_
        refine lv_iload hx hb dX3_goesOn_149 (lv_at hl 1 rfl) ?_
        refine lv_bipush (v := 8) hx hb dX3_goesOn_151 (by decide) ?_
        refine lv_icmp_eq (tgt := 163) hx hb dX3_goesOn_153 (by decide) (fun _ => ?_) (fun h => absurd c79 h)
        refine lv_iload_n hx hb dX3_goesOn_163 rfl (lv_at hl 7 rfl) ?_
        refine lv_goto (tgt := 169) hx hb dX3_goesOn_164 (by decide) ?_
        refine m_calli (rest := []) ⟨hx, hb, hml, hown, hts⟩ (c_X3_begins l D o ad cA (sA (sA S0 14 (((S0.1 11) - 1).toNatClampNeg) ((S0.2 14 (((S0.1 11) - 1).toNatClampNeg)) + 1)) 15 (((S0.1 11) - 1).toNatClampNeg) v) (S0.2 7 ((S0.2 12 (((S0.1 11) - 1).toNatClampNeg)).toNatClampNeg)) v (hw)) (cwV 2 hts gX3_goesOn_X3_begins rfl rfl rfl (by decide +kernel) ⟨Nat.le_of_ble_eq_true rfl, Nat.le_of_ble_eq_true rfl⟩) I rfl hl.1 rfl (Nat.le_of_ble_eq_true rfl) dX3_goesOn_169 ⟨Nat.le_refl _, Nat.le_refl _⟩ (fun r169 S169 H locs p169 I => ?_)
        refine lv_istore (lv' := [(8, .int r169), (7, .int 1), (6, .int (S0.2 5 ((S0.2 12 (((S0.1 11) - 1).toNatClampNeg)).toNatClampNeg))), (5, .int (S0.2 14 (((S0.1 11) - 1).toNatClampNeg))), (4, .int (S0.2 13 (((S0.1 11) - 1).toNatClampNeg))), (3, .int (S0.2 12 (((S0.1 11) - 1).toNatClampNeg))), (2, .int ((S0.1 11) - 1)), (0, .ref o), (1, .int v)]) hx hb dX3_goesOn_172 hl (by decide) rfl (fun ls hl => ?_)
        refine lv_iconst (v := 0) hx hb dX3_goesOn_174 (by decide) ?_
        exact m_zret hx hb hr hlocks I rfl dX3_goesOn_175 (by rw [show S169 = (f_begins _ _ _).2 from congrArg Prod.snd p169]; simp (decide := true) [f_goesOn, c42, c72, c79])
      · refine lv_iload hx hb dX3_goesOn_82 (lv_at hl 0 rfl) ?_
        refine lv_bipush (v := 9) hx hb dX3_goesOn_84 (by decide) ?_
        refine lv_icmp_eq (tgt := 107) hx hb dX3_goesOn_86 (by decide) (fun c86 => ?_) (fun c86 => ?_)
        · refine lv_iconst (v := 1) hx hb dX3_goesOn_107 (by decide) ?_
          refine lv_goto (tgt := 112) hx hb dX3_goesOn_108 (by decide) ?_
          refine lv_istore (lv' := [(7, .int 1), (6, .int (S0.2 5 ((S0.2 12 (((S0.1 11) - 1).toNatClampNeg)).toNatClampNeg))), (5, .int (S0.2 14 (((S0.1 11) - 1).toNatClampNeg))), (4, .int (S0.2 13 (((S0.1 11) - 1).toNatClampNeg))), (3, .int (S0.2 12 (((S0.1 11) - 1).toNatClampNeg))), (2, .int ((S0.1 11) - 1)), (0, .ref o), (1, .int v)]) hx hb dX3_goesOn_112 hl (by decide) rfl (fun ls hl => ?_)
          refine lv_iload hx hb dX3_goesOn_114 (lv_at hl 0 rfl) ?_
          refine lv_if_eq (tgt := 176) hx hb dX3_goesOn_116 (by decide) (fun h => absurd h (by decide)) (fun _ => ?_)
          refine lv_aload_n hx hb dX3_goesOn_119 rfl (lv_at hl 6 rfl) ?_
          refine m_get15 hx hb hts hin hown I L49 dX3_goesOn_120 ?_
          refine lv_iload_n hx hb dX3_goesOn_123 rfl (lv_at hl 5 rfl) ?_
          refine lv_iload_n hx hb dX3_goesOn_124 rfl (lv_at hl 7 rfl) ?_
          refine m_ast15 hx hb I ht dX3_goesOn_125 (fun H locs I => ?_)
          refine lv_aload_n hx hb dX3_goesOn_126 rfl (lv_at hl 6 rfl) ?_
          refine lv_iload hx hb dX3_goesOn_127 (lv_at hl 1 rfl) ?_
          refine lv_bipush (v := 9) hx hb dX3_goesOn_129 (by decide) ?_
          refine lv_icmp_ne (tgt := 143) hx hb dX3_goesOn_131 (by decide) (fun h => absurd c86 h) (fun _ => ?_)
          refine lv_aload_n hx hb dX3_goesOn_134 rfl (lv_at hl 6 rfl) ?_
          refine m_get6 hx hb hts hin hown I L25 dX3_goesOn_135 ?_
          refine lv_iload_n hx hb dX3_goesOn_138 rfl (lv_at hl 4 rfl) ?_
          refine m_ald6 hx hb I hq dX3_goesOn_139 (x := S0.2 6 ((S0.2 12 (((S0.1 11) - 1).toNatClampNeg)).toNatClampNeg)) rfl ?_
          refine lv_goto (tgt := 149) hx hb dX3_goesOn_140 (by decide) ?_
          refine lv_iload hx hb dX3_goesOn_149 (lv_at hl 1 rfl) ?_
          refine lv_bipush (v := 8) hx hb dX3_goesOn_151 (by decide) ?_
          refine lv_icmp_eq (tgt := 163) hx hb dX3_goesOn_153 (by decide) (fun h => absurd (c86.symm.trans h) (by decide)) (fun _ => ?_)
          refine lv_iload hx hb dX3_goesOn_156 (lv_at hl 1 rfl) ?_
          refine lv_bipush (v := 9) hx hb dX3_goesOn_158 (by decide) ?_
          refine lv_icmp_ne (tgt := 167) hx hb dX3_goesOn_160 (by decide) (fun h => absurd c86 h) (fun _ => ?_)
          refine lv_iload_n hx hb dX3_goesOn_163 rfl (lv_at hl 7 rfl) ?_
          refine lv_goto (tgt := 169) hx hb dX3_goesOn_164 (by decide) ?_
          refine m_calli (rest := []) ⟨hx, hb, hml, hown, hts⟩ (c_X3_begins l D o ad cA (sA (sA S0 14 (((S0.1 11) - 1).toNatClampNeg) ((S0.2 14 (((S0.1 11) - 1).toNatClampNeg)) + 1)) 15 (((S0.1 11) - 1).toNatClampNeg) v) (S0.2 6 ((S0.2 12 (((S0.1 11) - 1).toNatClampNeg)).toNatClampNeg)) v (hw)) (cwV 2 hts gX3_goesOn_X3_begins rfl rfl rfl (by decide +kernel) ⟨Nat.le_of_ble_eq_true rfl, Nat.le_of_ble_eq_true rfl⟩) I rfl hl.1 rfl (Nat.le_of_ble_eq_true rfl) dX3_goesOn_169 ⟨Nat.le_refl _, Nat.le_refl _⟩ (fun r169 S169 H locs p169 I => ?_)
          refine lv_istore (lv' := [(8, .int r169), (7, .int 1), (6, .int (S0.2 5 ((S0.2 12 (((S0.1 11) - 1).toNatClampNeg)).toNatClampNeg))), (5, .int (S0.2 14 (((S0.1 11) - 1).toNatClampNeg))), (4, .int (S0.2 13 (((S0.1 11) - 1).toNatClampNeg))), (3, .int (S0.2 12 (((S0.1 11) - 1).toNatClampNeg))), (2, .int ((S0.1 11) - 1)), (0, .ref o), (1, .int v)]) hx hb dX3_goesOn_172 hl (by decide) rfl (fun ls hl => ?_)
          refine lv_iconst (v := 0) hx hb dX3_goesOn_174 (by decide) ?_
          exact m_zret hx hb hr hlocks I rfl dX3_goesOn_175 (by rw [show S169 = (f_begins _ _ _).2 from congrArg Prod.snd p169]; simp (decide := true) [f_goesOn, c42, c72, c79, c86])
        · refine lv_iload hx hb dX3_goesOn_89 (lv_at hl 0 rfl) ?_
          refine lv_bipush (v := 16) hx hb dX3_goesOn_91 (by decide) ?_
          refine lv_icmp_eq (tgt := 107) hx hb dX3_goesOn_93 (by decide) (fun c93 => ?_) (fun c93 => ?_)
          · refine lv_iconst (v := 1) hx hb dX3_goesOn_107 (by decide) ?_
            refine lv_goto (tgt := 112) hx hb dX3_goesOn_108 (by decide) ?_
            refine lv_istore (lv' := [(7, .int 1), (6, .int (S0.2 5 ((S0.2 12 (((S0.1 11) - 1).toNatClampNeg)).toNatClampNeg))), (5, .int (S0.2 14 (((S0.1 11) - 1).toNatClampNeg))), (4, .int (S0.2 13 (((S0.1 11) - 1).toNatClampNeg))), (3, .int (S0.2 12 (((S0.1 11) - 1).toNatClampNeg))), (2, .int ((S0.1 11) - 1)), (0, .ref o), (1, .int v)]) hx hb dX3_goesOn_112 hl (by decide) rfl (fun ls hl => ?_)
            refine lv_iload hx hb dX3_goesOn_114 (lv_at hl 0 rfl) ?_
            refine lv_if_eq (tgt := 176) hx hb dX3_goesOn_116 (by decide) (fun h => absurd h (by decide)) (fun _ => ?_)
            refine lv_aload_n hx hb dX3_goesOn_119 rfl (lv_at hl 6 rfl) ?_
            refine m_get15 hx hb hts hin hown I L49 dX3_goesOn_120 ?_
            refine lv_iload_n hx hb dX3_goesOn_123 rfl (lv_at hl 5 rfl) ?_
            refine lv_iload_n hx hb dX3_goesOn_124 rfl (lv_at hl 7 rfl) ?_
            refine m_ast15 hx hb I ht dX3_goesOn_125 (fun H locs I => ?_)
            refine lv_aload_n hx hb dX3_goesOn_126 rfl (lv_at hl 6 rfl) ?_
            refine lv_iload hx hb dX3_goesOn_127 (lv_at hl 1 rfl) ?_
            refine lv_bipush (v := 9) hx hb dX3_goesOn_129 (by decide) ?_
            refine lv_icmp_ne (tgt := 143) hx hb dX3_goesOn_131 (by decide) (fun _ => ?_) (fun h => absurd (c93.symm.trans h) (by decide))
            refine lv_aload_n hx hb dX3_goesOn_143 rfl (lv_at hl 6 rfl) ?_
            refine m_get7 hx hb hts hin hown I L28 dX3_goesOn_144 ?_
            refine lv_iload_n hx hb dX3_goesOn_147 rfl (lv_at hl 4 rfl) ?_
            refine m_ald7 hx hb I hq dX3_goesOn_148 (x := S0.2 7 ((S0.2 12 (((S0.1 11) - 1).toNatClampNeg)).toNatClampNeg)) rfl ?_
            refine lv_iload hx hb dX3_goesOn_149 (lv_at hl 1 rfl) ?_
            refine lv_bipush (v := 8) hx hb dX3_goesOn_151 (by decide) ?_
            refine lv_icmp_eq (tgt := 163) hx hb dX3_goesOn_153 (by decide) (fun h => absurd (c93.symm.trans h) (by decide)) (fun _ => ?_)
            refine lv_iload hx hb dX3_goesOn_156 (lv_at hl 1 rfl) ?_
            refine lv_bipush (v := 9) hx hb dX3_goesOn_158 (by decide) ?_
            refine lv_icmp_ne (tgt := 167) hx hb dX3_goesOn_160 (by decide) (fun _ => ?_) (fun h => absurd (c93.symm.trans h) (by decide))
            refine lv_iload hx hb dX3_goesOn_167 (lv_at hl 3 rfl) ?_
            refine m_calli (rest := []) ⟨hx, hb, hml, hown, hts⟩ (c_X3_begins l D o ad cA (sA (sA S0 14 (((S0.1 11) - 1).toNatClampNeg) ((S0.2 14 (((S0.1 11) - 1).toNatClampNeg)) + 1)) 15 (((S0.1 11) - 1).toNatClampNeg) v) (S0.2 7 ((S0.2 12 (((S0.1 11) - 1).toNatClampNeg)).toNatClampNeg)) (S0.2 13 (((S0.1 11) - 1).toNatClampNeg)) (hw)) (cwV 2 hts gX3_goesOn_X3_begins rfl rfl rfl (by decide +kernel) ⟨Nat.le_of_ble_eq_true rfl, Nat.le_of_ble_eq_true rfl⟩) I rfl hl.1 rfl (Nat.le_of_ble_eq_true rfl) dX3_goesOn_169 ⟨Nat.le_refl _, Nat.le_refl _⟩ (fun r169 S169 H locs p169 I => ?_)
            refine lv_istore (lv' := [(8, .int r169), (7, .int 1), (6, .int (S0.2 5 ((S0.2 12 (((S0.1 11) - 1).toNatClampNeg)).toNatClampNeg))), (5, .int (S0.2 14 (((S0.1 11) - 1).toNatClampNeg))), (4, .int (S0.2 13 (((S0.1 11) - 1).toNatClampNeg))), (3, .int (S0.2 12 (((S0.1 11) - 1).toNatClampNeg))), (2, .int ((S0.1 11) - 1)), (0, .ref o), (1, .int v)]) hx hb dX3_goesOn_172 hl (by decide) rfl (fun ls hl => ?_)
            refine lv_iconst (v := 0) hx hb dX3_goesOn_174 (by decide) ?_
            exact m_zret hx hb hr hlocks I rfl dX3_goesOn_175 (by rw [show S169 = (f_begins _ _ _).2 from congrArg Prod.snd p169]; simp (decide := true) [f_goesOn, c42, c72, c79, c86, c93])
          · refine lv_iload hx hb dX3_goesOn_96 (lv_at hl 0 rfl) ?_
            refine lv_bipush (v := 10) hx hb dX3_goesOn_98 (by decide) ?_
            refine lv_icmp_ne (tgt := 111) hx hb dX3_goesOn_100 (by decide) (fun c100 => ?_) (fun c100 => ?_)
            · refine lv_iconst (v := 0) hx hb dX3_goesOn_111 (by decide) ?_
              refine lv_istore (lv' := [(7, .int 0), (6, .int (S0.2 5 ((S0.2 12 (((S0.1 11) - 1).toNatClampNeg)).toNatClampNeg))), (5, .int (S0.2 14 (((S0.1 11) - 1).toNatClampNeg))), (4, .int (S0.2 13 (((S0.1 11) - 1).toNatClampNeg))), (3, .int (S0.2 12 (((S0.1 11) - 1).toNatClampNeg))), (2, .int ((S0.1 11) - 1)), (0, .ref o), (1, .int v)]) hx hb dX3_goesOn_112 hl (by decide) rfl (fun ls hl => ?_)
              refine lv_iload hx hb dX3_goesOn_114 (lv_at hl 0 rfl) ?_
              refine lv_if_eq (tgt := 176) hx hb dX3_goesOn_116 (by decide) (fun _ => ?_) (fun h => absurd h (by decide))
              refine lv_aload_n hx hb dX3_goesOn_176 rfl (lv_at hl 6 rfl) ?_
              refine lv_iload hx hb dX3_goesOn_177 (lv_at hl 1 rfl) ?_
              refine lv_bipush (v := 10) hx hb dX3_goesOn_179 (by decide) ?_
              refine lv_icmp_ne (tgt := 195) hx hb dX3_goesOn_181 (by decide) (fun _ => ?_) (fun h => absurd h c100)
              refine lv_iload hx hb dX3_goesOn_195 (lv_at hl 1 rfl) ?_
              refine lv_bipush (v := 16) hx hb dX3_goesOn_197 (by decide) ?_
              refine lv_icmp_ne (tgt := 225) hx hb dX3_goesOn_199 (by decide) (fun _ => ?_) (fun h => absurd h c93)
              refine lv_iload_n hx hb dX3_goesOn_225 rfl (lv_at hl 7 rfl) ?_
              refine m_put26 hx hb hts hin hown I L109 dX3_goesOn_226 (fun H locs I => ?_)
              refine lv_iconst (v := 1) hx hb dX3_goesOn_229 (by decide) ?_
              exact m_zret hx hb hr hlocks I rfl dX3_goesOn_230 (by simp (decide := true) [f_goesOn, c42, c72, c79, c86, c93, c100])
            · refine lv_iload_n hx hb dX3_goesOn_103 rfl (lv_at hl 6 rfl) ?_
              refine lv_if_eq (tgt := 111) hx hb dX3_goesOn_104 (by decide) (fun c104 => ?_) (fun c104 => ?_)
              · refine lv_iconst (v := 0) hx hb dX3_goesOn_111 (by decide) ?_
                refine lv_istore (lv' := [(7, .int 0), (6, .int (S0.2 5 ((S0.2 12 (((S0.1 11) - 1).toNatClampNeg)).toNatClampNeg))), (5, .int (S0.2 14 (((S0.1 11) - 1).toNatClampNeg))), (4, .int (S0.2 13 (((S0.1 11) - 1).toNatClampNeg))), (3, .int (S0.2 12 (((S0.1 11) - 1).toNatClampNeg))), (2, .int ((S0.1 11) - 1)), (0, .ref o), (1, .int v)]) hx hb dX3_goesOn_112 hl (by decide) rfl (fun ls hl => ?_)
                refine lv_iload hx hb dX3_goesOn_114 (lv_at hl 0 rfl) ?_
                refine lv_if_eq (tgt := 176) hx hb dX3_goesOn_116 (by decide) (fun _ => ?_) (fun h => absurd h (by decide))
                refine lv_aload_n hx hb dX3_goesOn_176 rfl (lv_at hl 6 rfl) ?_
                refine lv_iload hx hb dX3_goesOn_177 (lv_at hl 1 rfl) ?_
                refine lv_bipush (v := 10) hx hb dX3_goesOn_179 (by decide) ?_
                refine lv_icmp_ne (tgt := 195) hx hb dX3_goesOn_181 (by decide) (fun h => absurd c100 h) (fun _ => ?_)
                refine lv_iload hx hb dX3_goesOn_184 (lv_at hl 2 rfl) ?_
                refine lv_iconst (v := 1) hx hb dX3_goesOn_186 (by decide) ?_
                refine lv_icmp_ne (tgt := 195) hx hb dX3_goesOn_187 (by decide) (fun h => absurd c72 h) (fun _ => ?_)
                refine lv_iload hx hb dX3_goesOn_190 (lv_at hl 3 rfl) ?_
                refine lv_goto (tgt := 226) hx hb dX3_goesOn_192 (by decide) ?_
                refine m_put26 hx hb hts hin hown I L109 dX3_goesOn_226 (fun H locs I => ?_)
                refine lv_iconst (v := 1) hx hb dX3_goesOn_229 (by decide) ?_
                exact m_zret hx hb hr hlocks I rfl dX3_goesOn_230 (by simp (decide := true) [f_goesOn, c42, c72, c79, c86, c93, c100, c104])
              · refine lv_iconst (v := 1) hx hb dX3_goesOn_107 (by decide) ?_
                refine lv_goto (tgt := 112) hx hb dX3_goesOn_108 (by decide) ?_
                refine lv_istore (lv' := [(7, .int 1), (6, .int (S0.2 5 ((S0.2 12 (((S0.1 11) - 1).toNatClampNeg)).toNatClampNeg))), (5, .int (S0.2 14 (((S0.1 11) - 1).toNatClampNeg))), (4, .int (S0.2 13 (((S0.1 11) - 1).toNatClampNeg))), (3, .int (S0.2 12 (((S0.1 11) - 1).toNatClampNeg))), (2, .int ((S0.1 11) - 1)), (0, .ref o), (1, .int v)]) hx hb dX3_goesOn_112 hl (by decide) rfl (fun ls hl => ?_)
                refine lv_iload hx hb dX3_goesOn_114 (lv_at hl 0 rfl) ?_
                refine lv_if_eq (tgt := 176) hx hb dX3_goesOn_116 (by decide) (fun h => absurd h (by decide)) (fun _ => ?_)
                refine lv_aload_n hx hb dX3_goesOn_119 rfl (lv_at hl 6 rfl) ?_
                refine m_get15 hx hb hts hin hown I L49 dX3_goesOn_120 ?_
                refine lv_iload_n hx hb dX3_goesOn_123 rfl (lv_at hl 5 rfl) ?_
                refine lv_iload_n hx hb dX3_goesOn_124 rfl (lv_at hl 7 rfl) ?_
                refine m_ast15 hx hb I ht dX3_goesOn_125 (fun H locs I => ?_)
                refine lv_aload_n hx hb dX3_goesOn_126 rfl (lv_at hl 6 rfl) ?_
                refine lv_iload hx hb dX3_goesOn_127 (lv_at hl 1 rfl) ?_
                refine lv_bipush (v := 9) hx hb dX3_goesOn_129 (by decide) ?_
                refine lv_icmp_ne (tgt := 143) hx hb dX3_goesOn_131 (by decide) (fun _ => ?_) (fun h => absurd (c100.symm.trans h) (by decide))
                refine lv_aload_n hx hb dX3_goesOn_143 rfl (lv_at hl 6 rfl) ?_
                refine m_get7 hx hb hts hin hown I L28 dX3_goesOn_144 ?_
                refine lv_iload_n hx hb dX3_goesOn_147 rfl (lv_at hl 4 rfl) ?_
                refine m_ald7 hx hb I hq dX3_goesOn_148 (x := S0.2 7 ((S0.2 12 (((S0.1 11) - 1).toNatClampNeg)).toNatClampNeg)) rfl ?_
                refine lv_iload hx hb dX3_goesOn_149 (lv_at hl 1 rfl) ?_
                refine lv_bipush (v := 8) hx hb dX3_goesOn_151 (by decide) ?_
                refine lv_icmp_eq (tgt := 163) hx hb dX3_goesOn_153 (by decide) (fun h => absurd (c100.symm.trans h) (by decide)) (fun _ => ?_)
                refine lv_iload hx hb dX3_goesOn_156 (lv_at hl 1 rfl) ?_
                refine lv_bipush (v := 9) hx hb dX3_goesOn_158 (by decide) ?_
                refine lv_icmp_ne (tgt := 167) hx hb dX3_goesOn_160 (by decide) (fun _ => ?_) (fun h => absurd (c100.symm.trans h) (by decide))
                refine lv_iload hx hb dX3_goesOn_167 (lv_at hl 3 rfl) ?_
                refine m_calli (rest := []) ⟨hx, hb, hml, hown, hts⟩ (c_X3_begins l D o ad cA (sA (sA S0 14 (((S0.1 11) - 1).toNatClampNeg) ((S0.2 14 (((S0.1 11) - 1).toNatClampNeg)) + 1)) 15 (((S0.1 11) - 1).toNatClampNeg) v) (S0.2 7 ((S0.2 12 (((S0.1 11) - 1).toNatClampNeg)).toNatClampNeg)) (S0.2 13 (((S0.1 11) - 1).toNatClampNeg)) (hw)) (cwV 2 hts gX3_goesOn_X3_begins rfl rfl rfl (by decide +kernel) ⟨Nat.le_of_ble_eq_true rfl, Nat.le_of_ble_eq_true rfl⟩) I rfl hl.1 rfl (Nat.le_of_ble_eq_true rfl) dX3_goesOn_169 ⟨Nat.le_refl _, Nat.le_refl _⟩ (fun r169 S169 H locs p169 I => ?_)
                refine lv_istore (lv' := [(8, .int r169), (7, .int 1), (6, .int (S0.2 5 ((S0.2 12 (((S0.1 11) - 1).toNatClampNeg)).toNatClampNeg))), (5, .int (S0.2 14 (((S0.1 11) - 1).toNatClampNeg))), (4, .int (S0.2 13 (((S0.1 11) - 1).toNatClampNeg))), (3, .int (S0.2 12 (((S0.1 11) - 1).toNatClampNeg))), (2, .int ((S0.1 11) - 1)), (0, .ref o), (1, .int v)]) hx hb dX3_goesOn_172 hl (by decide) rfl (fun ls hl => ?_)
                refine lv_iconst (v := 0) hx hb dX3_goesOn_174 (by decide) ?_
                exact m_zret hx hb hr hlocks I rfl dX3_goesOn_175 (by rw [show S169 = (f_begins _ _ _).2 from congrArg Prod.snd p169]; simp (decide := true) [f_goesOn, c42, c72, c79, c86, c93, c100, c104])
  · refine lv_aload_n hx hb dX3_goesOn_45 rfl (lv_at hl 4 rfl) ?_
    refine lv_aload_n hx hb dX3_goesOn_46 rfl (lv_at hl 4 rfl) ?_
    refine m_get6 hx hb hts hin hown I L25 dX3_goesOn_47 ?_
    refine lv_iload_n hx hb dX3_goesOn_50 rfl (lv_at hl 2 rfl) ?_
    refine m_ald6 hx hb I hq dX3_goesOn_51 (x := S0.2 6 ((S0.2 12 (((S0.1 11) - 1).toNatClampNeg)).toNatClampNeg)) rfl ?_
    refine lv_iload hx hb dX3_goesOn_52 (lv_at hl 1 rfl) ?_
    refine m_calli (rest := []) ⟨hx, hb, hml, hown, hts⟩ (c_X3_begins l D o ad cA (sA S0 14 (((S0.1 11) - 1).toNatClampNeg) ((S0.2 14 (((S0.1 11) - 1).toNatClampNeg)) + 1)) (S0.2 6 ((S0.2 12 (((S0.1 11) - 1).toNatClampNeg)).toNatClampNeg)) (S0.2 13 (((S0.1 11) - 1).toNatClampNeg)) (hw)) (cwV 2 hts gX3_goesOn_X3_begins rfl rfl rfl (by decide +kernel) ⟨Nat.le_of_ble_eq_true rfl, Nat.le_of_ble_eq_true rfl⟩) I rfl hl.1 rfl (Nat.le_of_ble_eq_true rfl) dX3_goesOn_54 ⟨Nat.le_refl _, Nat.le_refl _⟩ (fun r54 S54 H locs p54 I => ?_)
    refine lv_istore (lv' := [(6, .int r54), (5, .int (S0.2 14 (((S0.1 11) - 1).toNatClampNeg))), (4, .int (S0.2 13 (((S0.1 11) - 1).toNatClampNeg))), (3, .int (S0.2 12 (((S0.1 11) - 1).toNatClampNeg))), (2, .int ((S0.1 11) - 1)), (0, .ref o), (1, .int v)]) hx hb dX3_goesOn_57 hl (by decide) rfl (fun ls hl => ?_)
    refine lv_iconst (v := 0) hx hb dX3_goesOn_59 (by decide) ?_
    exact m_zret hx hb hr hlocks I rfl dX3_goesOn_60 (by rw [show S54 = (f_begins _ _ _).2 from congrArg Prod.snd p54]; simp (decide := true) [f_goesOn, c42])

