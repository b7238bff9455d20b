set_option maxHeartbeats 4000000 in
set_option maxRecDepth 100000 in
theorem c_X2_each (l : Launch) (D : va_G) (o : Nat) (ap : Nat → Nat) (cA cR cU : ClassId) (A : Nat → Prop) (ρ σ ra : Nat → Nat) (L : List Nat) (f0 : Nat → va_E) (S0 : tr_S) (z0 : tr_Z) (r y : Int32) (N : Nat) (hN : wf S0 N) : c_Mi l yX2_each wsX2_each { frames := 121, cells := 0, slots := 0, locals := 2743 } [.int r, .int y] D o ap cA cR cU A ρ σ ra L f0 S0 z0 (fun v u => (v, u.1) = a_each r y S0) := by
  refine Met.ofW (cc := cX2_each) (maxL := 7) (ret := (some .int)) (by decide) rfl ?_
  intro p e s m args below meth c s₁ B hml hv
  obtain ⟨rfl, hB⟩ := hv
  have hx := B.exec
  have hb := B.bytes
  have hr := B.returns
  have hts := atoms_spec (ws := wsX2_each) B.pre
  have hown : s.vm.findClass RX2 = some m.cls := findClass_of_methodNamed B.named
  have hlocks := B.notSynchronized
  have I := c_I.of hB
  have hin2 : ∀ w ∈ wsX20, w ∈ wsX2_each := fun _ h => List.mem_cons_of_mem _ (List.mem_append_left _ (List.mem_append_left _ (List.mem_append_right _ h)))
  have hin0 : ∀ w ∈ wsX00, w ∈ wsX2_each := fun _ h => List.mem_cons_of_mem _ (List.mem_append_left _ (List.mem_append_right _ h))
  have hin1 : ∀ w ∈ wsX10, w ∈ wsX2_each := fun _ h => List.mem_cons_of_mem _ (List.mem_append_right _ h)
  have L17 := hts (.fieldLink RX2 17 "TollRules" "rows" "[LTollRules$Row;") (by decide +kernel)
  have L86 := hts (.fieldLink RX2 86 "TollRules$Row" "items" "[I") (by decide +kernel)
  have hl := lv_entry ([.ref o, .int r, .int y]) (n := 7) (Nat.le_of_ble_eq_true rfl)
  rw [lg_entry_eq]
  generalize (lg_sl ([.ref o, .int r, .int y]) ++ List.replicate (7 - (lg_sl ([.ref o, .int r, .int y])).length) Slot.unset).toArray = ls at hl ⊢
  have hl : lv_has ls 7 [(0, .ref o), (1, .int r), (2, .int y)] := hl
  by_cases hg : 0 ≤ r ∧ r ≤ S0.1 4 - 1
  · obtain ⟨k, hk, ek⟩ := rule_of hN hg
    have LE : ∀ (d q zn i rem : Nat) (SA : tr_S) (zz : tr_Z) (fg : Nat → va_E), rem < d → q < 48 → zn ≤ 10 → i + rem = zn → e_go SA N → SA.2 2 q = nI zn → c_held SA q → zz.1 = 0 → a_each r y S0 = f_ends (l_each (nI k) q rem i SA).1 (l_each (nI k) q rem i SA).2 → ∀ (H : Heap) (locs : List Loc) (ls : Array Slot), c_I D o ap cA cR cU A ρ σ ra L fg SA zz s s.heap H locs → lv_has ls 7 [(5, .int (nI i)), (4, .ref (σ q)), (3, .ref (ρ q)), (0, .ref o), (1, .int (nI k)), (2, .int y)] → W p l e (headSpec wsX2_each { frames := 121, cells := 0, slots := 0, locals := 2743 }).room s m (([.ref o, .int r, .int y] : List Value).toArray) below meth c H locs 0 0 (MQ below (va_Qi (fun v u => (v, u.1) = a_each r y S0) (c_E D o ap cA cR cU A ρ σ ra L) A) (([.ref o, .int r, .int y] : List Value).toArray) s 0 0 A) (F0 m 46 ls []) := by
      intro d
      induction d with
      | zero => intro q zn i rem _ _ _ hd; omega
      | succ d ih =>
        intro q zn i rem SA zz fg hd hq hz10 hiz g hz hh hzz hT H locs ls I hl
        refine lv_iload hx hb dX2_each_46 (lv_at hl 0 rfl) ?_
        refine lv_aload hx hb dX2_each_48 (lv_at hl 1 rfl) ?_
        refine c_arr_len hx hb I hh hz (by omega) dX2_each_50 ?_
        refine lv_icmp_ge (tgt := 91) hx hb dX2_each_51 (by decide) (fun c51 => ?_) (fun c51 => ?_)
        · refine lv_aload hx hb dX2_each_91 (lv_at hl 1 rfl) ?_
          refine c_arr_len hx hb I hh hz (by omega) dX2_each_93 ?_
          have hi : zn ≤ i := nI_lb (by omega) (by omega) c51
          obtain rfl : rem = 0 := by omega
          refine c_iret (S := (f_ends (nI i) SA).2) hx hb hr hlocks (c_I_ok g.2.1 I) dX2_each_94 ?_
          rw [hT]
          unfold l_each
          rw [f_ends_ok (nI i) g.2.1, show zn = i by omega]
        · have hi : i < zn := nI_ub (by omega) (by omega) c51
          obtain ⟨rm, rfl⟩ : ∃ k, rem = k + 1 := ⟨rem - 1, by omega⟩
          refine lv_aload_n hx hb dX2_each_54 rfl (lv_at hl 3 rfl) ?_
          refine lv_iload_n hx hb dX2_each_55 rfl (lv_at hl 4 rfl) ?_
          refine lv_aload hx hb dX2_each_56 (lv_at hl 1 rfl) ?_
          refine lv_iload hx hb dX2_each_58 (lv_at hl 0 rfl) ?_
          refine c_arr_ld hx hb I hh hz hz10 hi dX2_each_60 (x := SA.2 3 (10 * q + i)) rfl ?_
          refine c_calli (rest := []) ⟨hx, hb, hml, hown, hts⟩ (c_X2_give l N 40 D o ap cA cR cU A ρ σ ra L _ SA zz k (SA.2 3 (10 * q + i)) (by have := hN.1; omega) (by omega) g.1 g.2.2 g.2.1 hzz) (cwV 2 hts gX2_each_X2_give rfl rfl rfl (by decide +kernel) ⟨Nat.le_of_ble_eq_true rfl, Nat.le_of_ble_eq_true rfl⟩) I rfl hl.1 rfl (Nat.le_of_ble_eq_true rfl) dX2_each_61 ⟨Nat.le_refl _, Nat.le_refl _⟩ (fun r61 S61 z61 f1 H locs p61 I => ?_)
          obtain ⟨q61, hq61⟩ : ∃ qx, qx = ev 40 (nI k) (SA.2 3 (10 * q + i)) SA := ⟨_, rfl⟩
          rw [← hq61] at p61
          obtain ⟨ea61, eb61, ec61, ed61, ee61⟩ := p61
          have ea61 : S61 = q61.2 := ea61
          have eb61 : z61.2.2 = zz.2.2 := eb61
          have ec61 : z61.1 = q61.2.1 16 := ec61
          have ed61 : ¬ q61.2.1 16 = 0 → z61.2.1 = q61.2.1 17 := ed61
          rw [ea61] at I
          have sm61 : e_sm SA q61.2 := by rw [hq61]; exact ev_sm 40 _ _ _
          have ps61 : e_pos q61.2 := by rw [hq61]; exact ev_pos 40 _ _ _ (Or.inl g.2.1)
          have go61 : q61.2.1 16 = 0 → e_go q61.2 N := fun h => by rw [hq61] at h ⊢; exact g.ev 40 _ _ h
          refine lv_istore (lv' := [(6, .int r61), (5, .int (nI i)), (4, .ref (σ q)), (3, .ref (ρ q)), (0, .ref o), (1, .int (nI k)), (2, .int y)]) hx hb dX2_each_64 hl (by decide) rfl (fun ls hl => ?_)
          refine lv_aload_n hx hb dX2_each_66 rfl (lv_at hl 4 rfl) ?_
          refine c_isRefused ⟨hx, hb, hml, hown, hts⟩ gX2_each_X2_isRefused ⟨Nat.le_of_ble_eq_true rfl, Nat.le_of_ble_eq_true rfl⟩ ⟨Nat.le_refl _, Nat.le_refl _⟩ I hl.1 (Nat.le_of_ble_eq_true rfl) dX2_each_67 (fun h67 f1 H locs I => ?_) (fun h67 f1 H locs I => ?_)
          · refine lv_if_eq (tgt := 78) hx hb dX2_each_70 (by decide) (fun h => absurd h (by decide)) (fun _ => ?_)
            refine lv_aload_n hx hb dX2_each_73 rfl (lv_at hl 4 rfl) ?_
            refine c_calli (rest := []) ⟨hx, hb, hml, hown, hts⟩ (c_X2_fail l D o ap cA cR cU A ρ σ ra L _ q61.2 z61) (cwV 0 hts gX2_each_X2_fail rfl rfl rfl (by decide +kernel) ⟨Nat.le_of_ble_eq_true rfl, Nat.le_of_ble_eq_true rfl⟩) I rfl hl.1 rfl (Nat.le_of_ble_eq_true rfl) dX2_each_74 ⟨Nat.le_refl _, Nat.le_refl _⟩ (fun r74 S74 z74 f1 H locs p74 I => ?_)
            have fa : r74 = -10 - z61.1 := congrArg Prod.fst p74
            have fb : S74 = sF (sF (sF q61.2 21 z61.1) 22 z61.2.1) 23 (q61.2.1 23 + 1) := congrArg (fun t => t.2.1) p74
            have hne : ¬ q61.2.1 16 = 0 := fun h => h67 (ec61.trans h)
            rw [fb, ec61, ed61 hne] at I
            rw [ec61] at fa
            refine c_iret (S := (f_ends (nI i) q61.2).2) hx hb hr hlocks (c_I_no hne ps61 I) dX2_each_77 ?_
            rw [hT]
            unfold l_each
            rw [← hq61, if_neg hne, f_ends_no (nI i) hne ps61, fa]
          · refine lv_if_eq (tgt := 78) hx hb dX2_each_70 (by decide) (fun _ => ?_) (fun h => absurd h (by decide))
            refine lv_aload hx hb dX2_each_78 (lv_at hl 2 rfl) ?_
            refine lv_iload hx hb dX2_each_80 (lv_at hl 1 rfl) ?_
            refine lv_iload hx hb dX2_each_82 (lv_at hl 0 rfl) ?_
            refine c_arr_st hx hb I (c_held_sm sm61 hh) (by rw [sm61.2.2.1]; exact hz) hz10 hi dX2_each_84 (fun f1 H locs I => ?_)
            refine lv_iinc (v := (nI i) + 1) (lv' := [(5, .int ((nI i) + 1)), (6, .int r61), (4, .ref (σ q)), (3, .ref (ρ q)), (0, .ref o), (1, .int (nI k)), (2, .int y)]) hx hb dX2_each_85 hl (k := 1) rfl rfl (by decide) rfl (fun ls hl => ?_)
            refine lv_goto (tgt := 46) hx hb dX2_each_88 (by decide) ?_
            have h0 : q61.2.1 16 = 0 := ec61.symm.trans h67
            rw [ee61 h0] at I
            have hl := lv_sub hl [0, 2, 3, 4, 5, 6] rfl
            rw [nI_1] at hl
            refine ih q zn i.succ rm (sA q61.2 3 (10 * q + i) q61.1) z61 f1 (by omega) hq hz10 (by omega) ((go61 h0).set3 _ _) (by show q61.2.2 2 q = nI zn; rw [sm61.2.2.1]; exact hz) (show c_held q61.2 q from c_held_sm sm61 hh) (ec61.trans h0) ?_ H locs ls I hl
            rw [hT]
            conv => lhs; unfold l_each
            rw [← hq61, if_pos h0]
    refine lv_aload_n hx hb dX2_each_0 rfl (lv_at hl 0 rfl) ?_
    refine lv_iload_n hx hb dX2_each_1 rfl (lv_at hl 1 rfl) ?_
    refine c_isRule hN ⟨hx, hb, hml, hown, hts⟩ gX2_each_X2_isRule ⟨Nat.le_of_ble_eq_true rfl, Nat.le_of_ble_eq_true rfl⟩ ⟨Nat.le_refl _, Nat.le_refl _⟩ I hl.1 (Nat.le_of_ble_eq_true rfl) dX2_each_2 (fun h2 f1 H locs I => ?_) (fun h2 f1 H locs I => ?_)
    · refine lv_if_eq (tgt := 15) hx hb dX2_each_5 (by decide) (fun h => absurd h (by decide)) (fun _ => ?_)
      refine lv_iload_n hx hb dX2_each_8 rfl (lv_at hl 2 rfl) ?_
      refine c_isRow ⟨hx, hb, hml, hown, hts⟩ gX2_each_X2_isRow ⟨Nat.le_of_ble_eq_true rfl, Nat.le_of_ble_eq_true rfl⟩ ⟨Nat.le_refl _, Nat.le_refl _⟩ hl.1 (Nat.le_of_ble_eq_true rfl) dX2_each_9 (fun h9 => ?_) (fun h9 => ?_)
      · refine lv_if_ne (tgt := 17) hx hb dX2_each_12 (by decide) (fun _ => ?_) (fun h => absurd h (by decide))
        refine lv_aload_n hx hb dX2_each_17 rfl (lv_at hl 0 rfl) ?_
        refine c_get1 hx hb hts hin2 hown I L17 dX2_each_18 ?_
        refine lv_iload_n hx hb dX2_each_21 rfl (lv_at hl 2 rfl) ?_
        refine c_row_ld hx hb I (ix_of h9 (by decide) (by decide)) dX2_each_22 (fun n22 => ?_) (fun n22 => ?_)
        · refine lv_astore_nN (lv' := [(3, .null), (0, .ref o), (1, .int r), (2, .int y)]) hx hb dX2_each_23 rfl hl (by decide) rfl (fun ls hl => ?_)
          refine lv_aload_nN hx hb dX2_each_24 rfl (lv_at hl 0 rfl) ?_
          refine lv_ifnonnullN hx hb dX2_each_25 ?_
          refine lv_iconst (v := 3) hx hb dX2_each_28 (by decide) ?_
          refine c_failAns ⟨hx, hb, hml, hown, hts⟩ gX2_each_X2_failureAnswer ⟨Nat.le_of_ble_eq_true rfl, Nat.le_of_ble_eq_true rfl⟩ ⟨Nat.le_refl _, Nat.le_refl _⟩ hl.1 (Nat.le_of_ble_eq_true rfl) dX2_each_29 ?_
          refine c_iret hx hb hr hlocks I dX2_each_32 ?_
          unfold a_each
          rw [if_pos ⟨hg, h9⟩, if_neg (fun w => absurd n22 (Int32.not_lt.mpr w))]
          rfl
        · refine lv_astore_n (lv' := [(3, .ref (ρ (S0.2 1 y.toNatClampNeg).toNatClampNeg)), (0, .ref o), (1, .int r), (2, .int y)]) hx hb dX2_each_23 rfl hl (by decide) rfl (fun ls hl => ?_)
          refine lv_aload_n hx hb dX2_each_24 rfl (lv_at hl 0 rfl) ?_
          refine lv_ifnonnull (tgt := 33) hx hb dX2_each_25 (by decide) ?_
          obtain ⟨q, hq, eq⟩ := (neg_row (hN.2.2.2.1 _ (ix_nI (ix_of h9 (by decide) (by decide)) (by decide)).2)).2 n22
          obtain ⟨zn, hz10, hz⟩ := hN.2.2.2.2 q hq
          have hh : c_held S0 q := c_held_row (ix_nI (ix_of h9 (by decide) (by decide)) (by decide)).2 hq eq
          rw [eq, nI_clamp (show q < 2 ^ 31 by omega), ek] at hl
          refine lv_aload_n hx hb dX2_each_33 rfl (lv_at hl 1 rfl) ?_
          refine c_callv (rest := []) ⟨hx, hb, hml, hown, hts⟩ (c_X2_begin l D o ap cA cR cU A ρ σ ra L _ S0 z0) (cwV 0 hts gX2_each_X2_begin rfl rfl rfl (by decide +kernel) ⟨Nat.le_of_ble_eq_true rfl, Nat.le_of_ble_eq_true rfl⟩) I rfl hl.1 rfl (Nat.le_of_ble_eq_true rfl) dX2_each_34 ⟨Nat.le_refl _, Nat.le_refl _⟩ (fun S34 z34 f1 H locs p34 I => ?_)
          obtain ⟨ea34, eb34⟩ := Prod.mk.inj p34
          rw [ea34, eb34] at I
          have I : c_I D o ap cA cR cU A ρ σ ra L f1 (e_start S0) (0, z0.2.1, z0.2.2) s s.heap H locs := I
          refine lv_aload_n hx hb dX2_each_37 rfl (lv_at hl 0 rfl) ?_
          refine c_items_get hx hb hts hin0 hown I (show c_held (e_start S0) q from hh) L86 dX2_each_38 ?_
          refine lv_astore (lv' := [(4, .ref (σ q)), (3, .ref (ρ q)), (0, .ref o), (1, .int (nI k)), (2, .int y)]) hx hb dX2_each_41 hl (by decide) rfl (fun ls hl => ?_)
          refine lv_iconst (v := 0) hx hb dX2_each_43 (by decide) ?_
          refine lv_istore (lv' := [(5, .int 0), (4, .ref (σ q)), (3, .ref (ρ q)), (0, .ref o), (1, .int (nI k)), (2, .int y)]) hx hb dX2_each_44 hl (by decide) rfl (fun ls hl => ?_)
          refine LE (zn + 1) q zn 0 zn (e_start S0) _ f1 (by omega) hq hz10 (by omega) (e_go.of hN) hz hh rfl ?_ H locs ls I (lv_sub hl [0, 1, 2, 3, 4, 5] rfl)
          unfold a_each
          rw [if_pos ⟨hg, h9⟩, if_pos (by rw [eq]; exact nI_pos' (by omega)), eq, nI_clamp (show q < 2 ^ 31 by omega), hz, nI_clamp (show zn < 2 ^ 31 by omega), ek]
      · refine lv_if_ne (tgt := 17) hx hb dX2_each_12 (by decide) (fun h => absurd h (by decide)) (fun _ => ?_)
        refine lv_iconst (v := (-1)) hx hb dX2_each_15 (by decide) ?_
        exact c_iret hx hb hr hlocks I dX2_each_16 (by unfold a_each; rw [if_neg (fun w => h9 w.2)])
    · refine lv_if_eq (tgt := 15) hx hb dX2_each_5 (by decide) (fun _ => ?_) (fun h => absurd h (by decide))
      refine lv_iconst (v := (-1)) hx hb dX2_each_15 (by decide) ?_
      exact absurd hg h2
  · refine lv_aload_n hx hb dX2_each_0 rfl (lv_at hl 0 rfl) ?_
    refine lv_iload_n hx hb dX2_each_1 rfl (lv_at hl 1 rfl) ?_
    refine c_isRule hN ⟨hx, hb, hml, hown, hts⟩ gX2_each_X2_isRule ⟨Nat.le_of_ble_eq_true rfl, Nat.le_of_ble_eq_true rfl⟩ ⟨Nat.le_refl _, Nat.le_refl _⟩ I hl.1 (Nat.le_of_ble_eq_true rfl) dX2_each_2 (fun h2 f1 H locs I => ?_) (fun h2 f1 H locs I => ?_)
    · refine lv_if_eq (tgt := 15) hx hb dX2_each_5 (by decide) (fun h => absurd h (by decide)) (fun _ => ?_)
      refine lv_iload_n hx hb dX2_each_8 rfl (lv_at hl 2 rfl) ?_
      refine c_isRow ⟨hx, hb, hml, hown, hts⟩ gX2_each_X2_isRow ⟨Nat.le_of_ble_eq_true rfl, Nat.le_of_ble_eq_true rfl⟩ ⟨Nat.le_refl _, Nat.le_refl _⟩ hl.1 (Nat.le_of_ble_eq_true rfl) dX2_each_9 (fun h9 => ?_) (fun h9 => ?_)
      · refine lv_if_ne (tgt := 17) hx hb dX2_each_12 (by decide) (fun _ => ?_) (fun h => absurd h (by decide))
        exact absurd h2 hg
      · refine lv_if_ne (tgt := 17) hx hb dX2_each_12 (by decide) (fun h => absurd h (by decide)) (fun _ => ?_)
        refine lv_iconst (v := (-1)) hx hb dX2_each_15 (by decide) ?_
        exact absurd h2 hg
    · refine lv_if_eq (tgt := 15) hx hb dX2_each_5 (by decide) (fun _ => ?_) (fun h => absurd h (by decide))
      refine lv_iconst (v := (-1)) hx hb dX2_each_15 (by decide) ?_
      exact c_iret hx hb hr hlocks I dX2_each_16 (by unfold a_each; rw [if_neg (fun w => hg w.1)])

set_option maxHeartbeats 4000000 in
set_option maxRecDepth 100000 in
theorem c_X2_until (l : Launch) (D : va_G) (o : Nat) (ap : Nat → Nat) (cA cR cU : ClassId) (A : Nat → Prop) (ρ σ ra : Nat → Nat) (L : List Nat) (f0 : Nat → va_E) (S0 : tr_S) (z0 : tr_Z) (r b x y : Int32) (N : Nat) (hN : wf S0 N) : c_Mi l yX2_until wsX2_until { frames := 121, cells := 0, slots := 0, locals := 2743 } [.int r, .int b, .int x, .int y] D o ap cA cR cU A ρ σ ra L f0 S0 z0 (fun v u => (v, u.1) = a_until r b x y S0) := by
  refine Met.ofW (cc := cX2_until) (maxL := 8) (ret := (some .int)) (by decide) rfl ?_
  intro p e s m args below meth c s₁ B hml hv
  obtain ⟨rfl, hB⟩ := hv
  have hx := B.exec
  have hb := B.bytes
  have hr := B.returns
  have hts := atoms_spec (ws := wsX2_until) B.pre
  have hown : s.vm.findClass RX2 = some m.cls := findClass_of_methodNamed B.named
  have hlocks := B.notSynchronized
  have I := c_I.of hB
  have hin2 : ∀ w ∈ wsX20, w ∈ wsX2_until := fun _ h => List.mem_cons_of_mem _ (List.mem_append_left _ (List.mem_append_left _ (List.mem_append_right _ h)))
  have hin1 : ∀ w ∈ wsX10, w ∈ wsX2_until := fun _ h => List.mem_cons_of_mem _ (List.mem_append_left _ (List.mem_append_right _ h))
  have hin0 : ∀ w ∈ wsX00, w ∈ wsX2_until := fun _ h => List.mem_cons_of_mem _ (List.mem_append_right _ h)
  have L46 := hts (.fieldLink RX2 46 "TollRules" "latestResult" "I") (by decide +kernel)
  have hl := lv_entry ([.ref o, .int r, .int b, .int x, .int y]) (n := 8) (Nat.le_of_ble_eq_true rfl)
  rw [lg_entry_eq]
  generalize (lg_sl ([.ref o, .int r, .int b, .int x, .int y]) ++ List.replicate (8 - (lg_sl ([.ref o, .int r, .int b, .int x, .int y])).length) Slot.unset).toArray = ls at hl ⊢
  have hl : lv_has ls 8 [(0, .ref o), (1, .int r), (2, .int b), (3, .int x), (4, .int y)] := hl
  by_cases hg : (0 ≤ r ∧ r ≤ S0.1 4 - 1) ∧ (0 ≤ b ∧ b ≤ S0.1 4 - 1) ∧ (1 ≤ y ∧ y ≤ 30)
  · obtain ⟨k, hk, ek⟩ := rule_of hN hg.1
    obtain ⟨k2, hk2, ek2⟩ := rule_of hN hg.2.1
    obtain ⟨M, hM30, hy⟩ : ∃ M : Nat, M ≤ 30 ∧ y = nI M := nI_of2 (M := 30) rfl (Int32.not_lt.mpr (Int32.le_trans (by decide) hg.2.2.1)) hg.2.2.2
    have LU : ∀ (d n rem : Nat) (v : Int32) (SA : tr_S) (zz : tr_Z) (fg : Nat → va_E), rem < d → n + rem = M → e_go SA N → zz.1 = 0 → a_until r b x y S0 = f_untilEnd (l_until (nI k) (nI k2) rem n v SA) → ∀ (H : Heap) (locs : List Loc) (ls : Array Slot), c_I D o ap cA cR cU A ρ σ ra L fg SA zz s s.heap H locs → lv_has ls 8 [(7, .int 1), (6, .int (nI n)), (5, .int v), (0, .ref o), (1, .int (nI k)), (2, .int (nI k2)), (3, .int x), (4, .int y)] → W p l e (headSpec wsX2_until { frames := 121, cells := 0, slots := 0, locals := 2743 }).room s m (([.ref o, .int r, .int b, .int x, .int y] : List Value).toArray) below meth c H locs 0 0 (MQ below (va_Qi (fun v u => (v, u.1) = a_until r b x y S0) (c_E D o ap cA cR cU A ρ σ ra L) A) (([.ref o, .int r, .int b, .int x, .int y] : List Value).toArray) s 0 0 A) (F0 m 44 ls []) := by
      intro d
      induction d with
      | zero => intro n rem v _ _ _ hd; omega
      | succ d ih =>
        intro n rem v SA zz fg hd hnm g hzz hT H locs ls I hl
        refine lv_iload hx hb dX2_until_44 (lv_at hl 0 rfl) ?_
        refine lv_if_eq (tgt := 109) hx hb dX2_until_46 (by decide) (fun h => absurd h (by decide)) (fun _ => ?_)
        refine lv_iload hx hb dX2_until_49 (lv_at hl 1 rfl) ?_
        refine lv_iload hx hb dX2_until_51 (lv_at hl 7 rfl) ?_
        refine lv_icmp_ge (tgt := 109) hx hb dX2_until_53 (by decide) (fun c53 => ?_) (fun c53 => ?_)
        · refine lv_aload_n hx hb dX2_until_109 rfl (lv_at hl 3 rfl) ?_
          refine lv_iload hx hb dX2_until_110 (lv_at hl 2 rfl) ?_
          refine c_put9 hx hb hts hin2 hown I L46 dX2_until_112 (fun H locs I => ?_)
          refine lv_iload hx hb dX2_until_115 (lv_at hl 1 rfl) ?_
          have hn : M ≤ n := nI_lb (by omega) (by omega) (by rw [← hy]; exact c53)
          obtain rfl : rem = 0 := by omega
          refine c_iret (S := (f_ends (nI n) (sF SA 25 v)).2) hx hb hr hlocks (c_I_ok (T := sF SA 25 v) g.2.1 I) dX2_until_117 ?_
          rw [hT]
          unfold l_until f_untilEnd
          show _ = f_ends (nI n) (if SA.1 16 = 0 then _ else _)
          rw [if_pos g.2.1, f_ends_ok (nI n) (T := sF SA 25 v) g.2.1]
        · have hn : n < M := nI_ub (by omega) (by omega) (by rw [← hy]; exact c53)
          obtain ⟨rm, rfl⟩ : ∃ k, rem = k + 1 := ⟨rem - 1, by omega⟩
          refine lv_aload_n hx hb dX2_until_56 rfl (lv_at hl 3 rfl) ?_
          refine lv_iload_n hx hb dX2_until_57 rfl (lv_at hl 4 rfl) ?_
          refine lv_iload hx hb dX2_until_58 (lv_at hl 2 rfl) ?_
          refine c_calli (rest := []) ⟨hx, hb, hml, hown, hts⟩ (c_X2_give l N 40 D o ap cA cR cU A ρ σ ra L _ SA zz k v (by have := hN.1; omega) (by omega) g.1 g.2.2 g.2.1 hzz) (cwV 2 hts gX2_until_X2_give rfl rfl rfl (by decide +kernel) ⟨Nat.le_of_ble_eq_true rfl, Nat.le_of_ble_eq_true rfl⟩) I rfl hl.1 rfl (Nat.le_of_ble_eq_true rfl) dX2_until_60 ⟨Nat.le_refl _, Nat.le_refl _⟩ (fun r60 S60 z60 f1 H locs p60 I => ?_)
          obtain ⟨q60, hq60⟩ : ∃ qx, qx = ev 40 (nI k) v SA := ⟨_, rfl⟩
          rw [← hq60] at p60
          obtain ⟨ea60, eb60, ec60, ed60, ee60⟩ := p60
          have ea60 : S60 = q60.2 := ea60
          have eb60 : z60.2.2 = zz.2.2 := eb60
          have ec60 : z60.1 = q60.2.1 16 := ec60
          have ed60 : ¬ q60.2.1 16 = 0 → z60.2.1 = q60.2.1 17 := ed60
          rw [ea60] at I
          have sm60 : e_sm SA q60.2 := by rw [hq60]; exact ev_sm 40 _ _ _
          have ps60 : e_pos q60.2 := by rw [hq60]; exact ev_pos 40 _ _ _ (Or.inl g.2.1)
          have go60 : q60.2.1 16 = 0 → e_go q60.2 N := fun h => by rw [hq60] at h ⊢; exact g.ev 40 _ _ h
          refine lv_istore (lv' := [(5, .int r60), (7, .int 1), (6, .int (nI n)), (0, .ref o), (1, .int (nI k)), (2, .int (nI k2)), (3, .int x), (4, .int y)]) hx hb dX2_until_63 hl (by decide) rfl (fun ls hl => ?_)
          refine lv_aload_n hx hb dX2_until_65 rfl (lv_at hl 3 rfl) ?_
          refine c_isRefused ⟨hx, hb, hml, hown, hts⟩ gX2_until_X2_isRefused ⟨Nat.le_of_ble_eq_true rfl, Nat.le_of_ble_eq_true rfl⟩ ⟨Nat.le_refl _, Nat.le_refl _⟩ I hl.1 (Nat.le_of_ble_eq_true rfl) dX2_until_66 (fun h66 f1 H locs I => ?_) (fun h66 f1 H locs I => ?_)
          · refine lv_if_eq (tgt := 77) hx hb dX2_until_69 (by decide) (fun h => absurd h (by decide)) (fun _ => ?_)
            refine lv_aload_n hx hb dX2_until_72 rfl (lv_at hl 3 rfl) ?_
            refine c_calli (rest := []) ⟨hx, hb, hml, hown, hts⟩ (c_X2_fail l D o ap cA cR cU A ρ σ ra L _ q60.2 z60) (cwV 0 hts gX2_until_X2_fail rfl rfl rfl (by decide +kernel) ⟨Nat.le_of_ble_eq_true rfl, Nat.le_of_ble_eq_true rfl⟩) I rfl hl.1 rfl (Nat.le_of_ble_eq_true rfl) dX2_until_73 ⟨Nat.le_refl _, Nat.le_refl _⟩ (fun r73 S73 z73 f1 H locs p73 I => ?_)
            have fa : r73 = -10 - z60.1 := congrArg Prod.fst p73
            have fb : S73 = sF (sF (sF q60.2 21 z60.1) 22 z60.2.1) 23 (q60.2.1 23 + 1) := congrArg (fun t => t.2.1) p73
            have hne : ¬ q60.2.1 16 = 0 := fun h => h66 (ec60.trans h)
            rw [fb, ec60, ed60 hne] at I
            rw [ec60] at fa
            refine c_iret (S := (f_ends (nI n) q60.2).2) hx hb hr hlocks (c_I_no hne ps60 I) dX2_until_76 ?_
            rw [hT]
            unfold l_until
            rw [← hq60, if_neg hne]
            unfold f_untilEnd
            show _ = f_ends (nI n) (if q60.2.1 16 = 0 then _ else _)
            rw [if_neg hne, f_ends_no (nI n) hne ps60, fa]
          · refine lv_if_eq (tgt := 77) hx hb dX2_until_69 (by decide) (fun _ => ?_) (fun h => absurd h (by decide))
            have h60 : q60.2.1 16 = 0 := ec60.symm.trans h66
            rw [ee60 h60] at hl
            refine lv_iinc (v := (nI n) + 1) (lv' := [(6, .int ((nI n) + 1)), (5, .int q60.1), (7, .int 1), (0, .ref o), (1, .int (nI k)), (2, .int (nI k2)), (3, .int x), (4, .int y)]) hx hb dX2_until_77 hl (k := 2) rfl rfl (by decide) rfl (fun ls hl => ?_)
            refine lv_aload_n hx hb dX2_until_80 rfl (lv_at hl 3 rfl) ?_
            refine lv_iload_n hx hb dX2_until_81 rfl (lv_at hl 5 rfl) ?_
            refine lv_iload hx hb dX2_until_82 (lv_at hl 1 rfl) ?_
            refine c_calli (rest := []) ⟨hx, hb, hml, hown, hts⟩ (c_X2_give l N 40 D o ap cA cR cU A ρ σ ra L _ q60.2 z60 k2 q60.1 (by have := hN.1; omega) (by omega) (go60 h60).1 (go60 h60).2.2 (go60 h60).2.1 (ec60.trans h60)) (cwV 2 hts gX2_until_X2_give rfl rfl rfl (by decide +kernel) ⟨Nat.le_of_ble_eq_true rfl, Nat.le_of_ble_eq_true rfl⟩) I rfl hl.1 rfl (Nat.le_of_ble_eq_true rfl) dX2_until_84 ⟨Nat.le_refl _, Nat.le_refl _⟩ (fun r84 S84 z84 f1 H locs p84 I => ?_)
            obtain ⟨q84, hq84⟩ : ∃ qx, qx = ev 40 (nI k2) q60.1 q60.2 := ⟨_, rfl⟩
            rw [← hq84] at p84
            obtain ⟨ea84, eb84, ec84, ed84, ee84⟩ := p84
            have ea84 : S84 = q84.2 := ea84
            have eb84 : z84.2.2 = z60.2.2 := eb84
            have ec84 : z84.1 = q84.2.1 16 := ec84
            have ed84 : ¬ q84.2.1 16 = 0 → z84.2.1 = q84.2.1 17 := ed84
            rw [ea84] at I
            have sm84 : e_sm q60.2 q84.2 := by rw [hq84]; exact ev_sm 40 _ _ _
            have ps84 : e_pos q84.2 := by rw [hq84]; exact ev_pos 40 _ _ _ (Or.inl (go60 h60).2.1)
            have go84 : q84.2.1 16 = 0 → e_go q84.2 N := fun h => by rw [hq84] at h ⊢; exact (go60 h60).ev 40 _ _ h
            refine lv_if_eq (tgt := 94) hx hb dX2_until_87 (by decide) (fun c87 => ?_) (fun c87 => ?_)
            · refine lv_iconst (v := 0) hx hb dX2_until_94 (by decide) ?_
              refine lv_istore (lv' := [(7, .int 0), (6, .int ((nI n) + 1)), (5, .int q60.1), (0, .ref o), (1, .int (nI k)), (2, .int (nI k2)), (3, .int x), (4, .int y)]) hx hb dX2_until_95 hl (by decide) rfl (fun ls hl => ?_)
              refine lv_aload_n hx hb dX2_until_97 rfl (lv_at hl 3 rfl) ?_
              refine c_isRefused ⟨hx, hb, hml, hown, hts⟩ gX2_until_X2_isRefused ⟨Nat.le_of_ble_eq_true rfl, Nat.le_of_ble_eq_true rfl⟩ ⟨Nat.le_refl _, Nat.le_refl _⟩ I hl.1 (Nat.le_of_ble_eq_true rfl) dX2_until_98 (fun h98 f1 H locs I => ?_) (fun h98 f1 H locs I => ?_)
              · refine lv_if_eq (tgt := 44) hx hb dX2_until_101 (by decide) (fun h => absurd h (by decide)) (fun _ => ?_)
                refine lv_aload_n hx hb dX2_until_104 rfl (lv_at hl 3 rfl) ?_
                refine c_calli (rest := []) ⟨hx, hb, hml, hown, hts⟩ (c_X2_fail l D o ap cA cR cU A ρ σ ra L _ q84.2 z84) (cwV 0 hts gX2_until_X2_fail rfl rfl rfl (by decide +kernel) ⟨Nat.le_of_ble_eq_true rfl, Nat.le_of_ble_eq_true rfl⟩) I rfl hl.1 rfl (Nat.le_of_ble_eq_true rfl) dX2_until_105 ⟨Nat.le_refl _, Nat.le_refl _⟩ (fun r105 S105 z105 f1 H locs p105 I => ?_)
                have fa : r105 = -10 - z84.1 := congrArg Prod.fst p105
                have fb : S105 = sF (sF (sF q84.2 21 z84.1) 22 z84.2.1) 23 (q84.2.1 23 + 1) := congrArg (fun t => t.2.1) p105
                have hne : ¬ q84.2.1 16 = 0 := fun h => h98 (ec84.trans h)
                rw [fb, ec84, ed84 hne] at I
                rw [ec84] at fa
                refine c_iret (S := (f_ends (nI (n + 1)) q84.2).2) hx hb hr hlocks (c_I_no hne ps84 I) dX2_until_108 ?_
                rw [hT]
                unfold l_until
                rw [← hq60, if_pos h60, ← hq84, if_neg (fun w => hne w.1)]
                unfold f_untilEnd
                show _ = f_ends (nI (n + 1)) (if q84.2.1 16 = 0 then _ else _)
                rw [if_neg hne, f_ends_no (nI (n + 1)) hne ps84, fa]
              · refine lv_if_eq (tgt := 44) hx hb dX2_until_101 (by decide) (fun _ => ?_) (fun h => absurd h (by decide))
                have h84 : q84.2.1 16 = 0 := ec84.symm.trans h98
                refine lv_iload hx hb dX2_until_44 (lv_at hl 0 rfl) ?_
                refine lv_if_eq (tgt := 109) hx hb dX2_until_46 (by decide) (fun _ => ?_) (fun h => absurd h (by decide))
                refine lv_aload_n hx hb dX2_until_109 rfl (lv_at hl 3 rfl) ?_
                refine lv_iload hx hb dX2_until_110 (lv_at hl 2 rfl) ?_
                refine c_put9 hx hb hts hin2 hown I L46 dX2_until_112 (fun H locs I => ?_)
                refine lv_iload hx hb dX2_until_115 (lv_at hl 1 rfl) ?_
                rw [ee84 h84] at c87
                refine c_iret (S := (f_ends (nI (n + 1)) (sF q84.2 25 q60.1)).2) hx hb hr hlocks (c_I_ok (T := sF q84.2 25 q60.1) h84 I) dX2_until_117 ?_
                rw [hT]
                unfold l_until
                rw [← hq60, if_pos h60, ← hq84, if_neg (fun w => w.2 c87)]
                unfold f_untilEnd
                show _ = f_ends (nI (n + 1)) (if q84.2.1 16 = 0 then _ else _)
                rw [if_pos h84, f_ends_ok (nI (n + 1)) (T := sF q84.2 25 q60.1) h84, nI_1]
            · refine lv_iconst (v := 1) hx hb dX2_until_90 (by decide) ?_
              refine lv_goto (tgt := 95) hx hb dX2_until_91 (by decide) ?_
              refine lv_istore (lv' := [(7, .int 1), (6, .int ((nI n) + 1)), (5, .int q60.1), (0, .ref o), (1, .int (nI k)), (2, .int (nI k2)), (3, .int x), (4, .int y)]) hx hb dX2_until_95 hl (by decide) rfl (fun ls hl => ?_)
              refine lv_aload_n hx hb dX2_until_97 rfl (lv_at hl 3 rfl) ?_
              refine c_isRefused ⟨hx, hb, hml, hown, hts⟩ gX2_until_X2_isRefused ⟨Nat.le_of_ble_eq_true rfl, Nat.le_of_ble_eq_true rfl⟩ ⟨Nat.le_refl _, Nat.le_refl _⟩ I hl.1 (Nat.le_of_ble_eq_true rfl) dX2_until_98 (fun h98 f1 H locs I => ?_) (fun h98 f1 H locs I => ?_)
              · refine lv_if_eq (tgt := 44) hx hb dX2_until_101 (by decide) (fun h => absurd h (by decide)) (fun _ => ?_)
                refine lv_aload_n hx hb dX2_until_104 rfl (lv_at hl 3 rfl) ?_
                refine c_calli (rest := []) ⟨hx, hb, hml, hown, hts⟩ (c_X2_fail l D o ap cA cR cU A ρ σ ra L _ q84.2 z84) (cwV 0 hts gX2_until_X2_fail rfl rfl rfl (by decide +kernel) ⟨Nat.le_of_ble_eq_true rfl, Nat.le_of_ble_eq_true rfl⟩) I rfl hl.1 rfl (Nat.le_of_ble_eq_true rfl) dX2_until_105 ⟨Nat.le_refl _, Nat.le_refl _⟩ (fun r105 S105 z105 f1 H locs p105 I => ?_)
                have fa : r105 = -10 - z84.1 := congrArg Prod.fst p105
                have fb : S105 = sF (sF (sF q84.2 21 z84.1) 22 z84.2.1) 23 (q84.2.1 23 + 1) := congrArg (fun t => t.2.1) p105
                have hne : ¬ q84.2.1 16 = 0 := fun h => h98 (ec84.trans h)
                rw [fb, ec84, ed84 hne] at I
                rw [ec84] at fa
                refine c_iret (S := (f_ends (nI (n + 1)) q84.2).2) hx hb hr hlocks (c_I_no hne ps84 I) dX2_until_108 ?_
                rw [hT]
                unfold l_until
                rw [← hq60, if_pos h60, ← hq84, if_neg (fun w => hne w.1)]
                unfold f_untilEnd
                show _ = f_ends (nI (n + 1)) (if q84.2.1 16 = 0 then _ else _)
                rw [if_neg hne, f_ends_no (nI (n + 1)) hne ps84, fa]
              · refine lv_if_eq (tgt := 44) hx hb dX2_until_101 (by decide) (fun _ => ?_) (fun h => absurd h (by decide))
                have h84 : q84.2.1 16 = 0 := ec84.symm.trans h98
                rw [ee84 h84] at c87
                have hl := lv_sub hl [0, 1, 2, 3, 4, 5, 6, 7] rfl
                rw [nI_1] at hl
                refine ih (n + 1) rm q60.1 q84.2 z84 f1 (by omega) (by omega) (go84 h84) (ec84.trans h84) ?_ H locs ls I hl
                rw [hT]
                conv => lhs; unfold l_until
                rw [← hq60, if_pos h60, ← hq84, if_pos ⟨h84, c87⟩]
    refine lv_aload_n hx hb dX2_until_0 rfl (lv_at hl 0 rfl) ?_
    refine lv_iload_n hx hb dX2_until_1 rfl (lv_at hl 1 rfl) ?_
    refine c_isRule hN ⟨hx, hb, hml, hown, hts⟩ gX2_until_X2_isRule ⟨Nat.le_of_ble_eq_true rfl, Nat.le_of_ble_eq_true rfl⟩ ⟨Nat.le_refl _, Nat.le_refl _⟩ I hl.1 (Nat.le_of_ble_eq_true rfl) dX2_until_2 (fun h2 f1 H locs I => ?_) (fun h2 f1 H locs I => ?_)
    · refine lv_if_eq (tgt := 29) hx hb dX2_until_5 (by decide) (fun h => absurd h (by decide)) (fun _ => ?_)
      refine lv_aload_n hx hb dX2_until_8 rfl (lv_at hl 0 rfl) ?_
      refine lv_iload_n hx hb dX2_until_9 rfl (lv_at hl 2 rfl) ?_
      refine c_isRule hN ⟨hx, hb, hml, hown, hts⟩ gX2_until_X2_isRule ⟨Nat.le_of_ble_eq_true rfl, Nat.le_of_ble_eq_true rfl⟩ ⟨Nat.le_refl _, Nat.le_refl _⟩ I hl.1 (Nat.le_of_ble_eq_true rfl) dX2_until_10 (fun h10 f1 H locs I => ?_) (fun h10 f1 H locs I => ?_)
      · refine lv_if_eq (tgt := 29) hx hb dX2_until_13 (by decide) (fun h => absurd h (by decide)) (fun _ => ?_)
        refine lv_iload hx hb dX2_until_16 (lv_at hl 4 rfl) ?_
        refine lv_iconst (v := 1) hx hb dX2_until_18 (by decide) ?_
        refine lv_icmp_lt (tgt := 29) hx hb dX2_until_19 (by decide) (fun c19 => ?_) (fun c19 => ?_)
        · refine lv_iconst (v := (-1)) hx hb dX2_until_29 (by decide) ?_
          exact absurd hg.2.2.1 (Int32.not_le.mpr c19)
        · refine lv_iload hx hb dX2_until_22 (lv_at hl 4 rfl) ?_
          refine lv_bipush (v := 30) hx hb dX2_until_24 (by decide) ?_
          refine lv_icmp_le (tgt := 31) hx hb dX2_until_26 (by decide) (fun c26 => ?_) (fun c26 => ?_)
          · refine lv_aload_n hx hb dX2_until_31 rfl (lv_at hl 0 rfl) ?_
            refine c_callv (rest := []) ⟨hx, hb, hml, hown, hts⟩ (c_X2_begin l D o ap cA cR cU A ρ σ ra L _ S0 z0) (cwV 0 hts gX2_until_X2_begin rfl rfl rfl (by decide +kernel) ⟨Nat.le_of_ble_eq_true rfl, Nat.le_of_ble_eq_true rfl⟩) I rfl hl.1 rfl (Nat.le_of_ble_eq_true rfl) dX2_until_32 ⟨Nat.le_refl _, Nat.le_refl _⟩ (fun S32 z32 f1 H locs p32 I => ?_)
            obtain ⟨ea32, eb32⟩ := Prod.mk.inj p32
            rw [ea32, eb32] at I
            have I : c_I D o ap cA cR cU A ρ σ ra L f1 (e_start S0) (0, z0.2.1, z0.2.2) s s.heap H locs := I
            refine lv_iload_n hx hb dX2_until_35 rfl (lv_at hl 3 rfl) ?_
            refine lv_istore (lv' := [(5, .int x), (0, .ref o), (1, .int r), (2, .int b), (3, .int x), (4, .int y)]) hx hb dX2_until_36 hl (by decide) rfl (fun ls hl => ?_)
            refine lv_iconst (v := 0) hx hb dX2_until_38 (by decide) ?_
            refine lv_istore (lv' := [(6, .int 0), (5, .int x), (0, .ref o), (1, .int r), (2, .int b), (3, .int x), (4, .int y)]) hx hb dX2_until_39 hl (by decide) rfl (fun ls hl => ?_)
            refine lv_iconst (v := 1) hx hb dX2_until_41 (by decide) ?_
            refine lv_istore (lv' := [(7, .int 1), (6, .int 0), (5, .int x), (0, .ref o), (1, .int r), (2, .int b), (3, .int x), (4, .int y)]) hx hb dX2_until_42 hl (by decide) rfl (fun ls hl => ?_)
            have hl := lv_sub hl [0, 1, 2, 3, 4, 5, 6, 7] rfl
            rw [ek, ek2] at hl
            refine LU (M + 1) 0 M x (e_start S0) _ f1 (by omega) (by omega) (e_go.of hN) rfl ?_ H locs ls I hl
            unfold a_until
            rw [if_pos hg, hy, nI_clamp (show M < 2 ^ 31 by omega), ek, ek2]
          · refine lv_iconst (v := (-1)) hx hb dX2_until_29 (by decide) ?_
            exact absurd hg.2.2.2 c26
      · refine lv_if_eq (tgt := 29) hx hb dX2_until_13 (by decide) (fun _ => ?_) (fun h => absurd h (by decide))
        refine lv_iconst (v := (-1)) hx hb dX2_until_29 (by decide) ?_
        exact absurd hg.2.1 h10
    · refine lv_if_eq (tgt := 29) hx hb dX2_until_5 (by decide) (fun _ => ?_) (fun h => absurd h (by decide))
      refine lv_iconst (v := (-1)) hx hb dX2_until_29 (by decide) ?_
      exact absurd hg.1 h2
  · refine lv_aload_n hx hb dX2_until_0 rfl (lv_at hl 0 rfl) ?_
    refine lv_iload_n hx hb dX2_until_1 rfl (lv_at hl 1 rfl) ?_
    refine c_isRule hN ⟨hx, hb, hml, hown, hts⟩ gX2_until_X2_isRule ⟨Nat.le_of_ble_eq_true rfl, Nat.le_of_ble_eq_true rfl⟩ ⟨Nat.le_refl _, Nat.le_refl _⟩ I hl.1 (Nat.le_of_ble_eq_true rfl) dX2_until_2 (fun h2 f1 H locs I => ?_) (fun h2 f1 H locs I => ?_)
    · refine lv_if_eq (tgt := 29) hx hb dX2_until_5 (by decide) (fun h => absurd h (by decide)) (fun _ => ?_)
      refine lv_aload_n hx hb dX2_until_8 rfl (lv_at hl 0 rfl) ?_
      refine lv_iload_n hx hb dX2_until_9 rfl (lv_at hl 2 rfl) ?_
      refine c_isRule hN ⟨hx, hb, hml, hown, hts⟩ gX2_until_X2_isRule ⟨Nat.le_of_ble_eq_true rfl, Nat.le_of_ble_eq_true rfl⟩ ⟨Nat.le_refl _, Nat.le_refl _⟩ I hl.1 (Nat.le_of_ble_eq_true rfl) dX2_until_10 (fun h10 f1 H locs I => ?_) (fun h10 f1 H locs I => ?_)
      · refine lv_if_eq (tgt := 29) hx hb dX2_until_13 (by decide) (fun h => absurd h (by decide)) (fun _ => ?_)
        refine lv_iload hx hb dX2_until_16 (lv_at hl 4 rfl) ?_
        refine lv_iconst (v := 1) hx hb dX2_until_18 (by decide) ?_
        refine lv_icmp_lt (tgt := 29) hx hb dX2_until_19 (by decide) (fun c19 => ?_) (fun c19 => ?_)
        · refine lv_iconst (v := (-1)) hx hb dX2_until_29 (by decide) ?_
          exact c_iret hx hb hr hlocks I dX2_until_30 (by unfold a_until; rw [if_neg hg])
        · refine lv_iload hx hb dX2_until_22 (lv_at hl 4 rfl) ?_
          refine lv_bipush (v := 30) hx hb dX2_until_24 (by decide) ?_
          refine lv_icmp_le (tgt := 31) hx hb dX2_until_26 (by decide) (fun c26 => ?_) (fun c26 => ?_)
          · exact absurd ⟨h2, h10, Int32.not_lt.mp c19, c26⟩ hg
          · refine lv_iconst (v := (-1)) hx hb dX2_until_29 (by decide) ?_
            exact c_iret hx hb hr hlocks I dX2_until_30 (by unfold a_until; rw [if_neg hg])
      · refine lv_if_eq (tgt := 29) hx hb dX2_until_13 (by decide) (fun _ => ?_) (fun h => absurd h (by decide))
        refine lv_iconst (v := (-1)) hx hb dX2_until_29 (by decide) ?_
        exact c_iret hx hb hr hlocks I dX2_until_30 (by unfold a_until; rw [if_neg hg])
    · refine lv_if_eq (tgt := 29) hx hb dX2_until_5 (by decide) (fun _ => ?_) (fun h => absurd h (by decide))
      refine lv_iconst (v := (-1)) hx hb dX2_until_29 (by decide) ?_
      exact c_iret hx hb hr hlocks I dX2_until_30 (by unfold a_until; rw [if_neg hg])

