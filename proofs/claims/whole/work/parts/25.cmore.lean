theorem max_eq (a b : Int32) : (if a < b then b else a) = if a ≤ b then b else a := by
  by_cases h : a < b
  · rw [if_pos h, if_pos (Int32.le_of_lt h)]
  · rw [if_neg h]
    by_cases g : a ≤ b
    · rw [if_pos g]; exact Int32.le_antisymm g (Int32.not_lt.mp h)
    · rw [if_neg g]
set_option maxHeartbeats 4000000 in
set_option maxRecDepth 100000 in
theorem c_X2_foldOne (l : Launch) (D : va_G) (o : Nat) (ap : Nat → Nat) (cA cR cU : ClassId) (A : Nat → Prop) (ρ σ ra : Nat → Nat) (L : List Nat) (f0 : Nat → va_E) (S0 : tr_S) (z0 : tr_Z) (h x i : Int32) (hh : 0 ≤ h ∧ h ≤ 4) : c_Mi l yX2_foldOne wsX2_foldOne { frames := 1, cells := 0, slots := 0, locals := 22 } [.int h, .int x, .int i] D o ap cA cR cU A ρ σ ra L f0 S0 z0 (fun v u => (h = 4 ∧ i = 0 ∧ u = (S0, (1, -1, z0.2.2))) ∨ (¬ (h = 4 ∧ i = 0) ∧ v = f_fold1 h x i ∧ u = (S0, z0))) := by
  refine Met.ofW (cc := cX2_foldOne) (maxL := 4) (ret := (some .int)) (by decide) rfl ?_
  intro p e s m args below meth c s₁ B hml hv
  obtain ⟨rfl, hB⟩ := hv
  have hx := B.exec
  have hb := B.bytes
  have hr := B.returns
  have hts := atoms_spec (ws := wsX2_foldOne) B.pre
  have hown : s.vm.findClass RX2 = some m.cls := findClass_of_methodNamed B.named
  have hlocks := B.notSynchronized
  have I := c_I.of hB
  have hin2 : ∀ w ∈ wsX20, w ∈ wsX2_foldOne := fun _ h => List.mem_cons_of_mem _ (List.mem_append_right _ h)
  have hl := lv_entry ([.ref o, .int h, .int x, .int i]) (n := 4) (Nat.le_of_ble_eq_true rfl)
  rw [lg_entry_eq]
  generalize (lg_sl ([.ref o, .int h, .int x, .int i]) ++ List.replicate (4 - (lg_sl ([.ref o, .int h, .int x, .int i])).length) Slot.unset).toArray = ls at hl ⊢
  have hl : lv_has ls 4 [(0, .ref o), (1, .int h), (2, .int x), (3, .int i)] := hl
  refine lv_iload_n hx hb dX2_foldOne_0 rfl (lv_at hl 1 rfl) ?_
  by_cases k1_0 : h = 0
  · refine lv_tableIn (tgt := 32) hx hb dX2_foldOne_1 (by rw [k1_0]; decide) (by rw [k1_0]; decide) (off := 31) (by rw [k1_0]; rfl) (by decide) ?_
    refine lv_iload_n hx hb dX2_foldOne_32 rfl (lv_at hl 2 rfl) ?_
    refine lv_iload_n hx hb dX2_foldOne_33 rfl (lv_at hl 3 rfl) ?_
    refine lv_iadd hx hb dX2_foldOne_34 ?_
    exact c_iret hx hb hr hlocks I dX2_foldOne_35 (Or.inr ⟨fun q => absurd (k1_0.symm.trans q.1) (by decide), by unfold f_fold1; rw [if_pos k1_0], rfl⟩)
  by_cases k1_1 : h = 1
  · refine lv_tableIn (tgt := 36) hx hb dX2_foldOne_1 (by rw [k1_1]; decide) (by rw [k1_1]; decide) (off := 35) (by rw [k1_1]; rfl) (by decide) ?_
    refine lv_iload_n hx hb dX2_foldOne_36 rfl (lv_at hl 2 rfl) ?_
    refine lv_iload_n hx hb dX2_foldOne_37 rfl (lv_at hl 3 rfl) ?_
    refine va_mmax (rest := []) (R := (headSpec wsX2_foldOne { frames := 1, cells := 0, slots := 0, locals := 22 }).room) hx hb (hml.trans hl.1.symm) hown (hts (.methodLink RX2 176 Lib.Math.max.name) (by decide +kernel)) (hts (.static Lib.Math.max.name) (by decide +kernel)) (hts (.initialized "java/lang/Math") (by decide +kernel)) (hts (.code Lib.Math.max.name Lib.Math.max.code 2 (some .int)) (by decide +kernel)) (show 1 ≤ 1 by decide) (show 0 + 13 ≤ 22 by decide) (Nat.le_refl _) (Nat.le_refl _) dX2_foldOne_38 ?_
    exact c_iret hx hb hr hlocks I dX2_foldOne_41 (Or.inr ⟨fun q => absurd (k1_1.symm.trans q.1) (by decide), by unfold f_fold1; rw [if_neg k1_0, if_pos k1_1]; exact max_eq x i, rfl⟩)
  by_cases k1_2 : h = 2
  · refine lv_tableIn (tgt := 42) hx hb dX2_foldOne_1 (by rw [k1_2]; decide) (by rw [k1_2]; decide) (off := 41) (by rw [k1_2]; rfl) (by decide) ?_
    refine lv_bipush (v := 31) hx hb dX2_foldOne_42 (by decide) ?_
    refine lv_iload_n hx hb dX2_foldOne_44 rfl (lv_at hl 2 rfl) ?_
    refine lv_imul hx hb dX2_foldOne_45 ?_
    refine lv_iload_n hx hb dX2_foldOne_46 rfl (lv_at hl 3 rfl) ?_
    refine lv_iadd hx hb dX2_foldOne_47 ?_
    exact c_iret hx hb hr hlocks I dX2_foldOne_48 (Or.inr ⟨fun q => absurd (k1_2.symm.trans q.1) (by decide), by unfold f_fold1; rw [if_neg k1_0, if_neg k1_1, if_pos k1_2], rfl⟩)
  by_cases k1_3 : h = 3
  · refine lv_tableIn (tgt := 49) hx hb dX2_foldOne_1 (by rw [k1_3]; decide) (by rw [k1_3]; decide) (off := 48) (by rw [k1_3]; rfl) (by decide) ?_
    refine lv_iload_n hx hb dX2_foldOne_49 rfl (lv_at hl 3 rfl) ?_
    refine lv_iload_n hx hb dX2_foldOne_50 rfl (lv_at hl 2 rfl) ?_
    refine lv_isub hx hb dX2_foldOne_51 ?_
    exact c_iret hx hb hr hlocks I dX2_foldOne_52 (Or.inr ⟨fun q => absurd (k1_3.symm.trans q.1) (by decide), by unfold f_fold1; rw [if_neg k1_0, if_neg k1_1, if_neg k1_2, if_pos k1_3], rfl⟩)
  refine lv_tableOut (tgt := 53) hx hb dX2_foldOne_1 (by have t0 := lv_neT k1_0 (a := 0) rfl; have t1 := lv_neT k1_1 (a := 1) rfl; have t2 := lv_neT k1_2 (a := 2) rfl; have t3 := lv_neT k1_3 (a := 3) rfl; omega) (by decide) ?_
  refine lv_iload_n hx hb dX2_foldOne_53 rfl (lv_at hl 3 rfl) ?_
  refine lv_if_ne (tgt := 66) hx hb dX2_foldOne_54 (by decide) (fun c54 => ?_) (fun c54 => ?_)
  · refine lv_iload_n hx hb dX2_foldOne_66 rfl (lv_at hl 2 rfl) ?_
    refine lv_iload_n hx hb dX2_foldOne_67 rfl (lv_at hl 3 rfl) ?_
    refine lv_idiv hx hb dX2_foldOne_68 c54 ?_
    exact c_iret hx hb hr hlocks I dX2_foldOne_69 (Or.inr ⟨fun q => c54 q.2, by unfold f_fold1; rw [if_neg k1_0, if_neg k1_1, if_neg k1_2, if_neg k1_3], rfl⟩)
  · refine lv_aload_n hx hb dX2_foldOne_57 rfl (lv_at hl 0 rfl) ?_
    refine lv_iconst (v := 1) hx hb dX2_foldOne_58 (by decide) ?_
    refine lv_iconst (v := (-1)) hx hb dX2_foldOne_59 (by decide) ?_
    refine c_calli (rest := []) ⟨hx, hb, hml, hown, hts⟩ (c_X2_refuse l D o ap cA cR cU A ρ σ ra L _ S0 z0 1 (-1)) (cwV 2 hts gX2_foldOne_X2_refuse rfl rfl rfl (by decide +kernel) ⟨Nat.le_of_ble_eq_true rfl, Nat.le_of_ble_eq_true rfl⟩) I rfl hl.1 rfl (Nat.le_of_ble_eq_true rfl) dX2_foldOne_60 ⟨Nat.le_refl _, Nat.le_refl _⟩ (fun r60 S60 z60 f1 H locs p60 I => ?_)
    obtain ⟨rfl, e60⟩ := p60
    obtain ⟨ea60, eb60⟩ := Prod.mk.inj e60
    rw [ea60, eb60] at I
    refine lv_goto (tgt := 69) hx hb dX2_foldOne_63 (by decide) ?_
    exact c_iret hx hb hr hlocks I dX2_foldOne_69 (Or.inl ⟨Classical.byContradiction (fun q => fold_no k1_0 k1_1 k1_2 k1_3 q hh), c54, rfl⟩)

set_option maxHeartbeats 4000000 in
set_option maxRecDepth 100000 in
theorem c_X2_fold (l : Launch) (D : va_G) (o : Nat) (ap : Nat → Nat) (cA cR cU : ClassId) (A : Nat → Prop) (ρ σ ra : Nat → Nat) (L : List Nat) (f0 : Nat → va_E) (S0 : tr_S) (z0 : tr_Z) (h y x : Int32) (N : Nat) (hN : wf S0 N) : c_Mi l yX2_fold wsX2_fold { frames := 2, cells := 0, slots := 0, locals := 45 } [.int h, .int y, .int x] D o ap cA cR cU A ρ σ ra L f0 S0 z0 (fun v u => (v, u.1) = a_fold h y x S0) := by
  refine Met.ofW (cc := cX2_fold) (maxL := 8) (ret := (some .int)) (by decide) rfl ?_
  intro p e s m args below meth c s₁ B hml hv
  obtain ⟨rfl, hB⟩ := hv
  have hx := B.exec
  have hb := B.bytes
  have hr := B.returns
  have hts := atoms_spec (ws := wsX2_fold) B.pre
  have hown : s.vm.findClass RX2 = some m.cls := findClass_of_methodNamed B.named
  have hlocks := B.notSynchronized
  have I := c_I.of hB
  have hin2 : ∀ w ∈ wsX20, w ∈ wsX2_fold := fun _ h => List.mem_cons_of_mem _ (List.mem_append_left _ (List.mem_append_right _ h))
  have hin0 : ∀ w ∈ wsX00, w ∈ wsX2_fold := fun _ h => List.mem_cons_of_mem _ (List.mem_append_right _ h)
  have L17 := hts (.fieldLink RX2 17 "TollRules" "rows" "[LTollRules$Row;") (by decide +kernel)
  have L40 := hts (.fieldLink RX2 40 "TollRules" "refusal" "I") (by decide +kernel)
  have L46 := hts (.fieldLink RX2 46 "TollRules" "latestResult" "I") (by decide +kernel)
  have L86 := hts (.fieldLink RX2 86 "TollRules$Row" "items" "[I") (by decide +kernel)
  have hl := lv_entry ([.ref o, .int h, .int y, .int x]) (n := 8) (Nat.le_of_ble_eq_true rfl)
  rw [lg_entry_eq]
  generalize (lg_sl ([.ref o, .int h, .int y, .int x]) ++ List.replicate (8 - (lg_sl ([.ref o, .int h, .int y, .int x])).length) Slot.unset).toArray = ls at hl ⊢
  have hl : lv_has ls 8 [(0, .ref o), (1, .int h), (2, .int y), (3, .int x)] := hl
  have LF : ∀ (d q zn i rem : Nat) (v : Int32) (zz : tr_Z) (fg : Nat → va_E), (0 ≤ h ∧ h ≤ 4) → rem < d → q < 48 → zn ≤ 10 → i + rem = zn → S0.2 2 q = nI zn → c_held S0 q → zz.1 = 0 → a_fold h y x S0 = f_foldEnd (l_fold h q S0 rem i v) S0 → ∀ (H : Heap) (locs : List Loc) (ls : Array Slot), c_I D o ap cA cR cU A ρ σ ra L fg S0 zz s s.heap H locs → lv_has ls 8 [(7, .int (nI i)), (6, .int v), (5, .ref (σ q)), (4, .ref (ρ q)), (0, .ref o), (1, .int h), (2, .int y), (3, .int x)] → W p l e (headSpec wsX2_fold { frames := 2, cells := 0, slots := 0, locals := 45 }).room s m (([.ref o, .int h, .int y, .int x] : List Value).toArray) below meth c H locs 0 0 (MQ below (va_Qi (fun v u => (v, u.1) = a_fold h y x S0) (c_E D o ap cA cR cU A ρ σ ra L) A) (([.ref o, .int h, .int y, .int x] : List Value).toArray) s 0 0 A) (F0 m 54 ls []) := by
    intro d
    induction d with
    | zero => intro q zn i rem _ _ _ _ hd; omega
    | succ d ih =>
      intro q zn i rem v zz fg hh hd hq hz10 hiz hz hh2 hzz hT H locs ls I hl
      refine lv_iload hx hb dX2_fold_54 (lv_at hl 0 rfl) ?_
      refine lv_aload hx hb dX2_fold_56 (lv_at hl 2 rfl) ?_
      refine c_arr_len hx hb I hh2 hz (by omega) dX2_fold_58 ?_
      refine lv_icmp_ge (tgt := 94) hx hb dX2_fold_59 (by decide) (fun c59 => ?_) (fun c59 => ?_)
      · refine lv_aload_n hx hb dX2_fold_94 rfl (lv_at hl 4 rfl) ?_
        refine lv_iload hx hb dX2_fold_95 (lv_at hl 1 rfl) ?_
        refine c_put9 hx hb hts hin2 hown I L46 dX2_fold_97 (fun H locs I => ?_)
        refine lv_iconst (v := 1) hx hb dX2_fold_100 (by decide) ?_
        have hi : zn ≤ i := nI_lb (by omega) (by omega) c59
        obtain rfl : rem = 0 := by omega
        refine c_iret hx hb hr hlocks I dX2_fold_101 ?_
        rw [hT]
        rfl
      · have hi : i < zn := nI_ub (by omega) (by omega) c59
        obtain ⟨rm, rfl⟩ : ∃ k, rem = k + 1 := ⟨rem - 1, by omega⟩
        refine lv_aload_n hx hb dX2_fold_62 rfl (lv_at hl 4 rfl) ?_
        refine lv_iload_n hx hb dX2_fold_63 rfl (lv_at hl 5 rfl) ?_
        refine lv_iload hx hb dX2_fold_64 (lv_at hl 1 rfl) ?_
        refine lv_aload hx hb dX2_fold_66 (lv_at hl 2 rfl) ?_
        refine lv_iload hx hb dX2_fold_68 (lv_at hl 0 rfl) ?_
        refine c_arr_ld hx hb I hh2 hz hz10 hi dX2_fold_70 (x := S0.2 3 (10 * q + i)) rfl ?_
        refine c_calli (rest := []) ⟨hx, hb, hml, hown, hts⟩ (c_X2_foldOne l D o ap cA cR cU A ρ σ ra L _ S0 zz h v (S0.2 3 (10 * q + i)) hh) (cwV 3 hts gX2_fold_X2_foldOne rfl rfl rfl (by decide +kernel) ⟨Nat.le_of_ble_eq_true rfl, Nat.le_of_ble_eq_true rfl⟩) I rfl hl.1 rfl (Nat.le_of_ble_eq_true rfl) dX2_fold_71 ⟨Nat.le_refl _, Nat.le_refl _⟩ (fun r71 S71 z71 f1 H locs p71 I => ?_)
        rcases p71 with ⟨a71, b71, e71⟩ | ⟨a71, b71, e71⟩
        · obtain ⟨ea71, eb71⟩ := Prod.mk.inj e71
          rw [ea71, eb71] at I
          refine lv_istore (lv' := [(6, .int r71), (7, .int (nI i)), (5, .ref (σ q)), (4, .ref (ρ q)), (0, .ref o), (1, .int h), (2, .int y), (3, .int x)]) hx hb dX2_fold_74 hl (by decide) rfl (fun ls hl => ?_)
          refine lv_aload_n hx hb dX2_fold_76 rfl (lv_at hl 4 rfl) ?_
          refine c_isRefused ⟨hx, hb, hml, hown, hts⟩ gX2_fold_X2_isRefused ⟨Nat.le_of_ble_eq_true rfl, Nat.le_of_ble_eq_true rfl⟩ ⟨Nat.le_refl _, Nat.le_refl _⟩ I hl.1 (Nat.le_of_ble_eq_true rfl) dX2_fold_77 (fun h77 f1 H locs I => ?_) (fun h77 f1 H locs I => ?_)
          · refine lv_if_eq (tgt := 88) hx hb dX2_fold_80 (by decide) (fun h => absurd h (by decide)) (fun _ => ?_)
            refine lv_aload_n hx hb dX2_fold_83 rfl (lv_at hl 4 rfl) ?_
            refine c_calli (rest := []) ⟨hx, hb, hml, hown, hts⟩ (c_X2_fail l D o ap cA cR cU A ρ σ ra L _ S0 (1, (-1 : Int32), zz.2.2)) (cwV 0 hts gX2_fold_X2_fail rfl rfl rfl (by decide +kernel) ⟨Nat.le_of_ble_eq_true rfl, Nat.le_of_ble_eq_true rfl⟩) I rfl hl.1 rfl (Nat.le_of_ble_eq_true rfl) dX2_fold_84 ⟨Nat.le_refl _, Nat.le_refl _⟩ (fun r84 S84 z84 f1 H locs p84 I => ?_)
            refine c_iret hx hb hr hlocks I dX2_fold_87 ?_
            rw [hT]
            unfold l_fold
            rw [if_pos ⟨a71, b71⟩]
            exact congrArg (fun q => (q.1, q.2.1)) p84
          · refine lv_if_eq (tgt := 88) hx hb dX2_fold_80 (by decide) (fun _ => ?_) (fun h => absurd h (by decide))
            refine lv_iinc (v := (nI i) + 1) (lv' := [(7, .int ((nI i) + 1)), (6, .int r71), (5, .ref (σ q)), (4, .ref (ρ q)), (0, .ref o), (1, .int h), (2, .int y), (3, .int x)]) hx hb dX2_fold_88 hl (k := 1) rfl rfl (by decide) rfl (fun ls hl => ?_)
            refine lv_goto (tgt := 54) hx hb dX2_fold_91 (by decide) ?_
            exact absurd (show (1 : Int32) = 0 from h77) (by decide)
        · obtain ⟨ea71, eb71⟩ := Prod.mk.inj e71
          rw [ea71, eb71] at I
          refine lv_istore (lv' := [(6, .int r71), (7, .int (nI i)), (5, .ref (σ q)), (4, .ref (ρ q)), (0, .ref o), (1, .int h), (2, .int y), (3, .int x)]) hx hb dX2_fold_74 hl (by decide) rfl (fun ls hl => ?_)
          refine lv_aload_n hx hb dX2_fold_76 rfl (lv_at hl 4 rfl) ?_
          refine c_isRefused ⟨hx, hb, hml, hown, hts⟩ gX2_fold_X2_isRefused ⟨Nat.le_of_ble_eq_true rfl, Nat.le_of_ble_eq_true rfl⟩ ⟨Nat.le_refl _, Nat.le_refl _⟩ I hl.1 (Nat.le_of_ble_eq_true rfl) dX2_fold_77 (fun h77 f1 H locs I => ?_) (fun h77 f1 H locs I => ?_)
          · refine lv_if_eq (tgt := 88) hx hb dX2_fold_80 (by decide) (fun h => absurd h (by decide)) (fun _ => ?_)
            refine lv_aload_n hx hb dX2_fold_83 rfl (lv_at hl 4 rfl) ?_
            refine c_calli (rest := []) ⟨hx, hb, hml, hown, hts⟩ (c_X2_fail l D o ap cA cR cU A ρ σ ra L _ S0 zz) (cwV 0 hts gX2_fold_X2_fail rfl rfl rfl (by decide +kernel) ⟨Nat.le_of_ble_eq_true rfl, Nat.le_of_ble_eq_true rfl⟩) I rfl hl.1 rfl (Nat.le_of_ble_eq_true rfl) dX2_fold_84 ⟨Nat.le_refl _, Nat.le_refl _⟩ (fun r84 S84 z84 f1 H locs p84 I => ?_)
            exact absurd hzz h77
          · refine lv_if_eq (tgt := 88) hx hb dX2_fold_80 (by decide) (fun _ => ?_) (fun h => absurd h (by decide))
            refine lv_iinc (v := (nI i) + 1) (lv' := [(7, .int ((nI i) + 1)), (6, .int r71), (5, .ref (σ q)), (4, .ref (ρ q)), (0, .ref o), (1, .int h), (2, .int y), (3, .int x)]) hx hb dX2_fold_88 hl (k := 1) rfl rfl (by decide) rfl (fun ls hl => ?_)
            refine lv_goto (tgt := 54) hx hb dX2_fold_91 (by decide) ?_
            have hl := lv_sub hl [0, 1, 2, 3, 4, 5, 6, 7] rfl
            rw [nI_1, b71] at hl
            refine ih q zn (i + 1) rm (f_fold1 h v (S0.2 3 (10 * q + i))) zz f1 hh (by omega) hq hz10 (by omega) hz hh2 hzz ?_ H locs ls I hl
            rw [hT]
            conv => lhs; unfold l_fold
            rw [if_neg a71]
  refine lv_iload_n hx hb dX2_fold_0 rfl (lv_at hl 1 rfl) ?_
  refine lv_if_lt (tgt := 16) hx hb dX2_fold_1 (by decide) (fun c1 => ?_) (fun c1 => ?_)
  · refine lv_iconst (v := (-1)) hx hb dX2_fold_16 (by decide) ?_
    exact c_iret hx hb hr hlocks I dX2_fold_17 (by unfold a_fold; rw [if_neg (fun w => absurd c1 (Int32.not_lt.mpr w.1.1))])
  · refine lv_iload_n hx hb dX2_fold_4 rfl (lv_at hl 1 rfl) ?_
    refine lv_iconst (v := 4) hx hb dX2_fold_5 (by decide) ?_
    refine lv_icmp_gt (tgt := 16) hx hb dX2_fold_6 (by decide) (fun c6 => ?_) (fun c6 => ?_)
    · refine lv_iconst (v := (-1)) hx hb dX2_fold_16 (by decide) ?_
      exact c_iret hx hb hr hlocks I dX2_fold_17 (by unfold a_fold; rw [if_neg (fun w => absurd c6 (Int32.not_lt.mpr w.1.2))])
    · refine lv_iload_n hx hb dX2_fold_9 rfl (lv_at hl 2 rfl) ?_
      refine c_isRow ⟨hx, hb, hml, hown, hts⟩ gX2_fold_X2_isRow ⟨Nat.le_of_ble_eq_true rfl, Nat.le_of_ble_eq_true rfl⟩ ⟨Nat.le_refl _, Nat.le_refl _⟩ hl.1 (Nat.le_of_ble_eq_true rfl) dX2_fold_10 (fun h10 => ?_) (fun h10 => ?_)
      · refine lv_if_ne (tgt := 18) hx hb dX2_fold_13 (by decide) (fun _ => ?_) (fun h => absurd h (by decide))
        refine lv_aload_n hx hb dX2_fold_18 rfl (lv_at hl 0 rfl) ?_
        refine c_get1 hx hb hts hin2 hown I L17 dX2_fold_19 ?_
        refine lv_iload_n hx hb dX2_fold_22 rfl (lv_at hl 2 rfl) ?_
        refine c_row_ld hx hb I (ix_of h10 (by decide) (by decide)) dX2_fold_23 (fun n23 => ?_) (fun n23 => ?_)
        · refine lv_astoreN (lv' := [(4, .null), (0, .ref o), (1, .int h), (2, .int y), (3, .int x)]) hx hb dX2_fold_24 hl (by decide) rfl (fun ls hl => ?_)
          refine lv_aloadN hx hb dX2_fold_26 (lv_at hl 0 rfl) ?_
          refine lv_ifnonnullN hx hb dX2_fold_28 ?_
          refine lv_iconst (v := 3) hx hb dX2_fold_31 (by decide) ?_
          refine c_failAns ⟨hx, hb, hml, hown, hts⟩ gX2_fold_X2_failureAnswer ⟨Nat.le_of_ble_eq_true rfl, Nat.le_of_ble_eq_true rfl⟩ ⟨Nat.le_refl _, Nat.le_refl _⟩ hl.1 (Nat.le_of_ble_eq_true rfl) dX2_fold_32 ?_
          refine c_iret hx hb hr hlocks I dX2_fold_35 ?_
          unfold a_fold
          rw [if_pos ⟨⟨Int32.not_lt.mp c1, Int32.not_lt.mp c6⟩, h10⟩, if_neg (fun w => absurd n23 (Int32.not_lt.mpr w))]
          rfl
        · refine lv_astore (lv' := [(4, .ref (ρ (S0.2 1 y.toNatClampNeg).toNatClampNeg)), (0, .ref o), (1, .int h), (2, .int y), (3, .int x)]) hx hb dX2_fold_24 hl (by decide) rfl (fun ls hl => ?_)
          refine lv_aload hx hb dX2_fold_26 (lv_at hl 0 rfl) ?_
          refine lv_ifnonnull (tgt := 36) hx hb dX2_fold_28 (by decide) ?_
          obtain ⟨q, hq, eq⟩ := (neg_row (hN.2.2.2.1 _ (ix_nI (ix_of h10 (by decide) (by decide)) (by decide)).2)).2 n23
          obtain ⟨zn, hz10, hz⟩ := hN.2.2.2.2 q hq
          have hh2 : c_held S0 q := c_held_row (ix_nI (ix_of h10 (by decide) (by decide)) (by decide)).2 hq eq
          rw [eq, nI_clamp (show q < 2 ^ 31 by omega)] at hl
          have hh : 0 ≤ h ∧ h ≤ 4 := ⟨Int32.not_lt.mp c1, Int32.not_lt.mp c6⟩
          refine lv_aload_n hx hb dX2_fold_36 rfl (lv_at hl 1 rfl) ?_
          refine lv_iconst (v := 0) hx hb dX2_fold_37 (by decide) ?_
          refine c_put7 hx hb hts hin2 hown I L40 dX2_fold_38 (fun H locs I => ?_)
          refine lv_aload hx hb dX2_fold_41 (lv_at hl 0 rfl) ?_
          refine c_items_get hx hb hts hin0 hown I hh2 L86 dX2_fold_43 ?_
          refine lv_astore (lv' := [(5, .ref (σ q)), (4, .ref (ρ q)), (0, .ref o), (1, .int h), (2, .int y), (3, .int x)]) hx hb dX2_fold_46 hl (by decide) rfl (fun ls hl => ?_)
          refine lv_iload_n hx hb dX2_fold_48 rfl (lv_at hl 5 rfl) ?_
          refine lv_istore (lv' := [(6, .int x), (5, .ref (σ q)), (4, .ref (ρ q)), (0, .ref o), (1, .int h), (2, .int y), (3, .int x)]) hx hb dX2_fold_49 hl (by decide) rfl (fun ls hl => ?_)
          refine lv_iconst (v := 0) hx hb dX2_fold_51 (by decide) ?_
          refine lv_istore (lv' := [(7, .int 0), (6, .int x), (5, .ref (σ q)), (4, .ref (ρ q)), (0, .ref o), (1, .int h), (2, .int y), (3, .int x)]) hx hb dX2_fold_52 hl (by decide) rfl (fun ls hl => ?_)
          refine LF (zn + 1) q zn 0 zn x _ _ hh (by omega) hq hz10 (by omega) hz hh2 rfl ?_ H locs ls I (lv_sub hl [0, 1, 2, 3, 4, 5, 6, 7] rfl)
          unfold a_fold
          rw [if_pos ⟨hh, h10⟩, if_pos (by rw [eq]; exact nI_pos' (by omega)), eq, nI_clamp (show q < 2 ^ 31 by omega), hz, nI_clamp (show zn < 2 ^ 31 by omega)]
      · refine lv_if_ne (tgt := 18) hx hb dX2_fold_13 (by decide) (fun h => absurd h (by decide)) (fun _ => ?_)
        refine lv_iconst (v := (-1)) hx hb dX2_fold_16 (by decide) ?_
        exact c_iret hx hb hr hlocks I dX2_fold_17 (by unfold a_fold; rw [if_neg (fun w => h10 w.2)])

set_option maxHeartbeats 4000000 in
set_option maxRecDepth 100000 in
theorem c_X2_put (l : Launch) (D : va_G) (o : Nat) (ap : Nat → Nat) (cA cR cU : ClassId) (A : Nat → Prop) (ρ σ ra : Nat → Nat) (L : List Nat) (f0 : Nat → va_E) (S0 : tr_S) (z0 : tr_Z) (r i v : Int32) (N : Nat) (hN : wf S0 N) : c_Mi l yX2_put wsX2_put { frames := 1, cells := 0, slots := 0, locals := 21 } [.int r, .int i, .int v] D o ap cA cR cU A ρ σ ra L f0 S0 z0 (fun w u => (w, u.1) = f_put r i v S0) := by
  refine Met.ofW (cc := cX2_put) (maxL := 5) (ret := (some .int)) (by decide) rfl ?_
  intro p e s m args below meth c s₁ B hml hv
  obtain ⟨rfl, hB⟩ := hv
  have hx := B.exec
  have hb := B.bytes
  have hr := B.returns
  have hts := atoms_spec (ws := wsX2_put) B.pre
  have hown : s.vm.findClass RX2 = some m.cls := findClass_of_methodNamed B.named
  have hlocks := B.notSynchronized
  have I := c_I.of hB
  have hin2 : ∀ w ∈ wsX20, w ∈ wsX2_put := fun _ h => List.mem_cons_of_mem _ (List.mem_append_left _ (List.mem_append_right _ h))
  have hin0 : ∀ w ∈ wsX00, w ∈ wsX2_put := fun _ h => List.mem_cons_of_mem _ (List.mem_append_right _ h)
  have L17 := hts (.fieldLink RX2 17 "TollRules" "rows" "[LTollRules$Row;") (by decide +kernel)
  have L86 := hts (.fieldLink RX2 86 "TollRules$Row" "items" "[I") (by decide +kernel)
  have hl := lv_entry ([.ref o, .int r, .int i, .int v]) (n := 5) (Nat.le_of_ble_eq_true rfl)
  rw [lg_entry_eq]
  generalize (lg_sl ([.ref o, .int r, .int i, .int v]) ++ List.replicate (5 - (lg_sl ([.ref o, .int r, .int i, .int v])).length) Slot.unset).toArray = ls at hl ⊢
  have hl : lv_has ls 5 [(0, .ref o), (1, .int r), (2, .int i), (3, .int v)] := hl
  refine lv_iload_n hx hb dX2_put_0 rfl (lv_at hl 1 rfl) ?_
  refine c_isRow ⟨hx, hb, hml, hown, hts⟩ gX2_put_X2_isRow ⟨Nat.le_of_ble_eq_true rfl, Nat.le_of_ble_eq_true rfl⟩ ⟨Nat.le_refl _, Nat.le_refl _⟩ hl.1 (Nat.le_of_ble_eq_true rfl) dX2_put_1 (fun h1 => ?_) (fun h1 => ?_)
  · refine lv_if_ne (tgt := 9) hx hb dX2_put_4 (by decide) (fun _ => ?_) (fun h => absurd h (by decide))
    refine lv_aload_n hx hb dX2_put_9 rfl (lv_at hl 0 rfl) ?_
    refine c_get1 hx hb hts hin2 hown I L17 dX2_put_10 ?_
    refine lv_iload_n hx hb dX2_put_13 rfl (lv_at hl 1 rfl) ?_
    refine c_row_ld hx hb I (ix_of h1 (by decide) (by decide)) dX2_put_14 (fun n14 => ?_) (fun n14 => ?_)
    · have e9 := (neg_row (hN.2.2.2.1 _ (ix_nI (ix_of h1 (by decide) (by decide)) (by decide)).2)).1 n14
      refine lv_astoreN (lv' := [(4, .null), (0, .ref o), (1, .int r), (2, .int i), (3, .int v)]) hx hb dX2_put_15 hl (by decide) rfl (fun ls hl => ?_)
      refine lv_aloadN hx hb dX2_put_17 (lv_at hl 0 rfl) ?_
      refine lv_ifnonnullN hx hb dX2_put_19 ?_
      refine lv_iconst (v := 3) hx hb dX2_put_22 (by decide) ?_
      refine c_failAns ⟨hx, hb, hml, hown, hts⟩ gX2_put_X2_failureAnswer ⟨Nat.le_of_ble_eq_true rfl, Nat.le_of_ble_eq_true rfl⟩ ⟨Nat.le_refl _, Nat.le_refl _⟩ hl.1 (Nat.le_of_ble_eq_true rfl) dX2_put_23 ?_
      exact c_iret hx hb hr hlocks I dX2_put_26 (by unfold f_put; rw [if_pos h1, if_neg (by rw [e9]; decide)]; rfl)
    · obtain ⟨q, hq48, e9⟩ := (neg_row (hN.2.2.2.1 _ (ix_nI (ix_of h1 (by decide) (by decide)) (by decide)).2)).2 n14
      obtain ⟨nq, hnq10, hnq⟩ := hN.2.2.2.2 q hq48
      have hh : c_held S0 q := c_held_row (ix_nI (ix_of h1 (by decide) (by decide)) (by decide)).2 hq48 e9
      rw [show (S0.2 1 r.toNatClampNeg).toNatClampNeg = q by rw [e9, nI_clamp (show q < 2 ^ 31 by omega)]]
      refine lv_astore (lv' := [(4, .ref (ρ q)), (0, .ref o), (1, .int r), (2, .int i), (3, .int v)]) hx hb dX2_put_15 hl (by decide) rfl (fun ls hl => ?_)
      refine lv_aload hx hb dX2_put_17 (lv_at hl 0 rfl) ?_
      refine lv_ifnonnull (tgt := 27) hx hb dX2_put_19 (by decide) ?_
      refine lv_aload hx hb dX2_put_27 (lv_at hl 0 rfl) ?_
      refine lv_iload_n hx hb dX2_put_29 rfl (lv_at hl 3 rfl) ?_
      refine c_reaches hh hnq hnq10 ⟨hx, hb, hml, hown, hts⟩ gX2_put_X0_reaches ⟨Nat.le_of_ble_eq_true rfl, Nat.le_of_ble_eq_true rfl⟩ ⟨Nat.le_refl _, Nat.le_refl _⟩ I hl.1 (Nat.le_of_ble_eq_true rfl) dX2_put_30 (fun h30 => ?_) (fun h30 => ?_)
      · refine lv_if_ne (tgt := 41) hx hb dX2_put_33 (by decide) (fun _ => ?_) (fun h => absurd h (by decide))
        obtain ⟨j, hj, ej⟩ := rng_of (N := nq) (by omega) (by rw [← hnq]; exact h30)
        rw [ej] at hl
        refine lv_aload hx hb dX2_put_41 (lv_at hl 0 rfl) ?_
        refine c_items_get hx hb hts hin0 hown I hh L86 dX2_put_43 ?_
        refine lv_iload_n hx hb dX2_put_46 rfl (lv_at hl 3 rfl) ?_
        refine lv_iload_n hx hb dX2_put_47 rfl (lv_at hl 4 rfl) ?_
        refine c_arr_st hx hb I hh hnq hnq10 hj dX2_put_48 (fun f1 H locs I => ?_)
        refine lv_iconst (v := 1) hx hb dX2_put_49 (by decide) ?_
        exact c_iret hx hb hr hlocks I dX2_put_50 (by unfold f_put; rw [if_pos h1, if_pos (by rw [e9]; exact nI_pos' (by omega)), e9, nI_clamp (show q < 2 ^ 31 by omega), if_pos h30, ej, nI_10 (by omega)])
      · refine lv_if_ne (tgt := 41) hx hb dX2_put_33 (by decide) (fun h => absurd h (by decide)) (fun _ => ?_)
        refine lv_iconst (v := 2) hx hb dX2_put_36 (by decide) ?_
        refine c_failAns ⟨hx, hb, hml, hown, hts⟩ gX2_put_X2_failureAnswer ⟨Nat.le_of_ble_eq_true rfl, Nat.le_of_ble_eq_true rfl⟩ ⟨Nat.le_refl _, Nat.le_refl _⟩ hl.1 (Nat.le_of_ble_eq_true rfl) dX2_put_37 ?_
        exact c_iret hx hb hr hlocks I dX2_put_40 (by unfold f_put; rw [if_pos h1, if_pos (by rw [e9]; exact nI_pos' (by omega)), e9, nI_clamp (show q < 2 ^ 31 by omega), if_neg h30]; rfl)
  · refine lv_if_ne (tgt := 9) hx hb dX2_put_4 (by decide) (fun h => absurd h (by decide)) (fun _ => ?_)
    refine lv_iconst (v := (-1)) hx hb dX2_put_7 (by decide) ?_
    exact c_iret hx hb hr hlocks I dX2_put_8 (by unfold f_put; rw [if_neg h1])

set_option maxHeartbeats 4000000 in
set_option maxRecDepth 100000 in
theorem c_X2_item (l : Launch) (D : va_G) (o : Nat) (ap : Nat → Nat) (cA cR cU : ClassId) (A : Nat → Prop) (ρ σ ra : Nat → Nat) (L : List Nat) (f0 : Nat → va_E) (S0 : tr_S) (z0 : tr_Z) (r i : Int32) (N : Nat) (hN : wf S0 N) : c_Ml l yX2_item wsX2_item { frames := 1, cells := 0, slots := 0, locals := 21 } [.int r, .int i] D o ap cA cR cU A ρ σ ra L f0 S0 z0 (fun w u => w = f_item r i S0 ∧ u.1 = S0) := by
  refine Met.ofW (cc := cX2_item) (maxL := 4) (ret := (some .long)) (by decide) rfl ?_
  intro p e s m args below meth c s₁ B hml hv
  obtain ⟨rfl, hB⟩ := hv
  have hx := B.exec
  have hb := B.bytes
  have hr := B.returns
  have hts := atoms_spec (ws := wsX2_item) B.pre
  have hown : s.vm.findClass RX2 = some m.cls := findClass_of_methodNamed B.named
  have hlocks := B.notSynchronized
  have I := c_I.of hB
  have hin2 : ∀ w ∈ wsX20, w ∈ wsX2_item := fun _ h => List.mem_cons_of_mem _ (List.mem_append_left _ (List.mem_append_right _ h))
  have hin0 : ∀ w ∈ wsX00, w ∈ wsX2_item := fun _ h => List.mem_cons_of_mem _ (List.mem_append_right _ h)
  have L17 := hts (.fieldLink RX2 17 "TollRules" "rows" "[LTollRules$Row;") (by decide +kernel)
  have L86 := hts (.fieldLink RX2 86 "TollRules$Row" "items" "[I") (by decide +kernel)
  have hl := lv_entry ([.ref o, .int r, .int i]) (n := 4) (Nat.le_of_ble_eq_true rfl)
  rw [lg_entry_eq]
  generalize (lg_sl ([.ref o, .int r, .int i]) ++ List.replicate (4 - (lg_sl ([.ref o, .int r, .int i])).length) Slot.unset).toArray = ls at hl ⊢
  have hl : lv_has ls 4 [(0, .ref o), (1, .int r), (2, .int i)] := hl
  refine lv_iload_n hx hb dX2_item_0 rfl (lv_at hl 1 rfl) ?_
  refine c_isRow ⟨hx, hb, hml, hown, hts⟩ gX2_item_X2_isRow ⟨Nat.le_of_ble_eq_true rfl, Nat.le_of_ble_eq_true rfl⟩ ⟨Nat.le_refl _, Nat.le_refl _⟩ hl.1 (Nat.le_of_ble_eq_true rfl) dX2_item_1 (fun h1 => ?_) (fun h1 => ?_)
  · refine lv_if_ne (tgt := 11) hx hb dX2_item_4 (by decide) (fun _ => ?_) (fun h => absurd h (by decide))
    refine lv_aload_n hx hb dX2_item_11 rfl (lv_at hl 0 rfl) ?_
    refine c_get1 hx hb hts hin2 hown I L17 dX2_item_12 ?_
    refine lv_iload_n hx hb dX2_item_15 rfl (lv_at hl 1 rfl) ?_
    refine c_row_ld hx hb I (ix_of h1 (by decide) (by decide)) dX2_item_16 (fun n16 => ?_) (fun n16 => ?_)
    · have e9 := (neg_row (hN.2.2.2.1 _ (ix_nI (ix_of h1 (by decide) (by decide)) (by decide)).2)).1 n16
      refine lv_astore_nN (lv' := [(3, .null), (0, .ref o), (1, .int r), (2, .int i)]) hx hb dX2_item_17 rfl hl (by decide) rfl (fun ls hl => ?_)
      refine lv_aload_nN hx hb dX2_item_18 rfl (lv_at hl 0 rfl) ?_
      refine lv_ifnullN (tgt := 40) hx hb dX2_item_19 (by decide) ?_
      refine lv_ldc2 hx hb hown (hts (.constantLong RX2 71 (-9223372036854775808)) (by decide +kernel)) dX2_item_40 ?_
      exact c_lret hx hb hr hlocks I dX2_item_43 ⟨by unfold f_item; rw [if_neg (fun w => absurd w.2.1 (by rw [e9]; decide))], rfl⟩
    · obtain ⟨q, hq48, e9⟩ := (neg_row (hN.2.2.2.1 _ (ix_nI (ix_of h1 (by decide) (by decide)) (by decide)).2)).2 n16
      obtain ⟨nq, hnq10, hnq⟩ := hN.2.2.2.2 q hq48
      have hh : c_held S0 q := c_held_row (ix_nI (ix_of h1 (by decide) (by decide)) (by decide)).2 hq48 e9
      rw [show (S0.2 1 r.toNatClampNeg).toNatClampNeg = q by rw [e9, nI_clamp (show q < 2 ^ 31 by omega)]]
      refine lv_astore_n (lv' := [(3, .ref (ρ q)), (0, .ref o), (1, .int r), (2, .int i)]) hx hb dX2_item_17 rfl hl (by decide) rfl (fun ls hl => ?_)
      refine lv_aload_n hx hb dX2_item_18 rfl (lv_at hl 0 rfl) ?_
      refine lv_ifnull hx hb dX2_item_19 ?_
      refine lv_aload_n hx hb dX2_item_22 rfl (lv_at hl 0 rfl) ?_
      refine lv_iload_n hx hb dX2_item_23 rfl (lv_at hl 3 rfl) ?_
      refine c_reaches hh hnq hnq10 ⟨hx, hb, hml, hown, hts⟩ gX2_item_X0_reaches ⟨Nat.le_of_ble_eq_true rfl, Nat.le_of_ble_eq_true rfl⟩ ⟨Nat.le_refl _, Nat.le_refl _⟩ I hl.1 (Nat.le_of_ble_eq_true rfl) dX2_item_24 (fun h24 => ?_) (fun h24 => ?_)
      · refine lv_if_eq (tgt := 40) hx hb dX2_item_27 (by decide) (fun h => absurd h (by decide)) (fun _ => ?_)
        obtain ⟨j, hj, ej⟩ := rng_of (N := nq) (by omega) (by rw [← hnq]; exact h24)
        rw [ej] at hl
        refine lv_aload_n hx hb dX2_item_30 rfl (lv_at hl 0 rfl) ?_
        refine c_items_get hx hb hts hin0 hown I hh L86 dX2_item_31 ?_
        refine lv_iload_n hx hb dX2_item_34 rfl (lv_at hl 3 rfl) ?_
        refine c_arr_ld hx hb I hh hnq hnq10 hj dX2_item_35 (x := S0.2 3 (10 * q + j)) rfl ?_
        refine lv_i2l hx hb dX2_item_36 rfl ?_
        refine lv_goto (tgt := 43) hx hb dX2_item_37 (by decide) ?_
        exact c_lret hx hb hr hlocks I dX2_item_43 ⟨by unfold f_item; rw [e9, nI_clamp (show q < 2 ^ 31 by omega), if_pos ⟨h1, nI_pos' (by omega), h24⟩, ej, nI_10 (by omega)], rfl⟩
      · refine lv_if_eq (tgt := 40) hx hb dX2_item_27 (by decide) (fun _ => ?_) (fun h => absurd h (by decide))
        refine lv_ldc2 hx hb hown (hts (.constantLong RX2 71 (-9223372036854775808)) (by decide +kernel)) dX2_item_40 ?_
        exact c_lret hx hb hr hlocks I dX2_item_43 ⟨by unfold f_item; rw [if_neg (fun w => h24 (by have w3 := w.2.2; rw [e9, nI_clamp (show q < 2 ^ 31 by omega)] at w3; exact w3))], rfl⟩
  · refine lv_if_ne (tgt := 11) hx hb dX2_item_4 (by decide) (fun h => absurd h (by decide)) (fun _ => ?_)
    refine lv_ldc2 hx hb hown (hts (.constantLong RX2 71 (-9223372036854775808)) (by decide +kernel)) dX2_item_7 ?_
    exact c_lret hx hb hr hlocks I dX2_item_10 ⟨by unfold f_item; rw [if_neg (fun w => h1 w.1)], rfl⟩

theorem lk_ne {x : Int32} {a : Int} {b : Int32} (hb : b.toInt = a) (h : ¬ x = b) : ¬ x.toInt = a := fun q => h (Int32.toInt_inj.mp (q.trans hb.symm))
set_option maxHeartbeats 4000000 in
set_option maxRecDepth 100000 in
theorem c_X2_failed (l : Launch) (D : va_G) (o : Nat) (ap : Nat → Nat) (cA cR cU : ClassId) (A : Nat → Prop) (ρ σ ra : Nat → Nat) (L : List Nat) (f0 : Nat → va_E) (S0 : tr_S) (z0 : tr_Z) (w : Int32) : c_Mi l yX2_failed wsX2_failed { frames := 0, cells := 0, slots := 0, locals := 0 } [.int w] D o ap cA cR cU A ρ σ ra L f0 S0 z0 (fun v u => v = f_failed w S0 ∧ u.1 = S0) := by
  refine Met.ofW (cc := cX2_failed) (maxL := 2) (ret := (some .int)) (by decide) rfl ?_
  intro p e s m args below meth c s₁ B hml hv
  obtain ⟨rfl, hB⟩ := hv
  have hx := B.exec
  have hb := B.bytes
  have hr := B.returns
  have hts := atoms_spec (ws := wsX2_failed) B.pre
  have hown : s.vm.findClass RX2 = some m.cls := findClass_of_methodNamed B.named
  have hlocks := B.notSynchronized
  have I := c_I.of hB
  have hin2 : ∀ w ∈ wsX20, w ∈ wsX2_failed := fun _ h => List.mem_cons_of_mem _ (List.mem_append_right _ h)
  have L55 := hts (.fieldLink RX2 55 "TollRules" "failedKind" "I") (by decide +kernel)
  have L58 := hts (.fieldLink RX2 58 "TollRules" "failedRule" "I") (by decide +kernel)
  have hl := lv_entry ([.ref o, .int w]) (n := 2) (Nat.le_of_ble_eq_true rfl)
  rw [lg_entry_eq]
  generalize (lg_sl ([.ref o, .int w]) ++ List.replicate (2 - (lg_sl ([.ref o, .int w])).length) Slot.unset).toArray = ls at hl ⊢
  have hl : lv_has ls 2 [(0, .ref o), (1, .int w)] := hl
  refine lv_iload_n hx hb dX2_failed_0 rfl (lv_at hl 1 rfl) ?_
  by_cases k1_0 : w = 0
  · refine lv_lookup (tgt := 28) hx hb dX2_failed_1 (by decide) (off := 27) (by rw [k1_0]; rfl) (by decide) ?_
    refine lv_aload_n hx hb dX2_failed_28 rfl (lv_at hl 0 rfl) ?_
    refine c_get12 hx hb hts hin2 hown I L55 dX2_failed_29 (x := S0.1 21) rfl ?_
    exact c_iret hx hb hr hlocks I dX2_failed_32 (⟨by unfold f_failed; rw [if_pos k1_0], rfl⟩)
  by_cases k1_1 : w = 1
  · refine lv_lookup (tgt := 33) hx hb dX2_failed_1 (by decide) (off := 32) (by rw [k1_1]; rfl) (by decide) ?_
    refine lv_aload_n hx hb dX2_failed_33 rfl (lv_at hl 0 rfl) ?_
    refine c_get13 hx hb hts hin2 hown I L58 dX2_failed_34 (x := S0.1 22) rfl ?_
    exact c_iret hx hb hr hlocks I dX2_failed_37 (⟨by unfold f_failed; rw [if_neg k1_0, if_pos k1_1], rfl⟩)
  refine lv_lookup (tgt := 38) hx hb dX2_failed_1 (by decide) (off := 37) (by have t0 := lk_ne (b := 0) (a := 0) rfl k1_0; have t1 := lk_ne (b := 1) (a := 1) rfl k1_1; simp [Op.lookupswitch.offset, t0, t1, Ne.symm t0, Ne.symm t1]) (by decide) ?_
  refine lv_iconst (v := (-1)) hx hb dX2_failed_38 (by decide) ?_
  exact c_iret hx hb hr hlocks I dX2_failed_39 (⟨by unfold f_failed; rw [if_neg k1_0, if_neg k1_1], rfl⟩)

set_option maxHeartbeats 4000000 in
set_option maxRecDepth 100000 in
theorem c_X2_rowsOfNothing (l : Launch) (D : va_G) (o : Nat) (ap : Nat → Nat) (cA cR cU : ClassId) (A : Nat → Prop) (ρ σ ra : Nat → Nat) (L : List Nat) (f0 : Nat → va_E) (S0 : tr_S) (z0 : tr_Z)  : c_Mi l yX2_rowsOfNothing wsX2_rowsOfNothing { frames := 0, cells := 0, slots := 0, locals := 0 } [] D o ap cA cR cU A ρ σ ra L f0 S0 z0 (fun v u => v = f_none S0 4 ∧ u = (S0, z0)) := by
  refine Met.ofW (cc := cX2_rowsOfNothing) (maxL := 3) (ret := (some .int)) (by decide) rfl ?_
  intro p e s m args below meth c s₁ B hml hv
  obtain ⟨rfl, hB⟩ := hv
  have hx := B.exec
  have hb := B.bytes
  have hr := B.returns
  have hts := atoms_spec (ws := wsX2_rowsOfNothing) B.pre
  have hown : s.vm.findClass RX2 = some m.cls := findClass_of_methodNamed B.named
  have hlocks := B.notSynchronized
  have I := c_I.of hB
  have hin2 : ∀ w ∈ wsX20, w ∈ wsX2_rowsOfNothing := fun _ h => List.mem_cons_of_mem _ (List.mem_append_right _ h)
  have L17 := hts (.fieldLink RX2 17 "TollRules" "rows" "[LTollRules$Row;") (by decide +kernel)
  have hl := lv_entry ([.ref o]) (n := 3) (Nat.le_of_ble_eq_true rfl)
  rw [lg_entry_eq]
  generalize (lg_sl ([.ref o]) ++ List.replicate (3 - (lg_sl ([.ref o])).length) Slot.unset).toArray = ls at hl ⊢
  have hl : lv_has ls 3 [(0, .ref o)] := hl
  have LC : ∀ (d j : Nat) (f0 : Nat → va_E), 4 - j < d → j ≤ 4 → ∀ (H : Heap) (locs : List Loc) (ls : Array Slot), c_I D o ap cA cR cU A ρ σ ra L f0 S0 z0 s s.heap H locs → lv_has ls 3 [(2, .int (nI j)), (1, .int (f_none S0 j)), (0, .ref o)] → W p l e (headSpec wsX2_rowsOfNothing { frames := 0, cells := 0, slots := 0, locals := 0 }).room s m (([.ref o] : List Value).toArray) below meth c H locs 0 0 (MQ below (va_Qi (fun v u => v = f_none S0 4 ∧ u = (S0, z0)) (c_E D o ap cA cR cU A ρ σ ra L) A) (([.ref o] : List Value).toArray) s 0 0 A) (F0 m 4 ls []) := by
    intro d
    induction d with
    | zero => intro j f0 hj; omega
    | succ d ih =>
      intro j f0 hj hj4 H locs ls I hl
      refine lv_iload_n hx hb dX2_rowsOfNothing_4 rfl (lv_at hl 0 rfl) ?_
      refine lv_iconst (v := 4) hx hb dX2_rowsOfNothing_5 (by decide) ?_
      refine lv_icmp_ge (tgt := 27) hx hb dX2_rowsOfNothing_6 (by decide) (fun c6 => ?_) (fun c6 => ?_)
      · refine lv_iload_n hx hb dX2_rowsOfNothing_27 rfl (lv_at hl 1 rfl) ?_
        have hj4 := nI_lb (n := 4) (by omega) (by decide) c6
        obtain rfl : j = 4 := by omega
        exact c_iret hx hb hr hlocks I dX2_rowsOfNothing_28 ⟨rfl, rfl⟩
      · refine lv_aload_n hx hb dX2_rowsOfNothing_9 rfl (lv_at hl 2 rfl) ?_
        refine c_get1 hx hb hts hin2 hown I L17 dX2_rowsOfNothing_10 ?_
        refine lv_iload_n hx hb dX2_rowsOfNothing_13 rfl (lv_at hl 0 rfl) ?_
        refine c_row_ld hx hb I (vp_in_nI (nI_ub (n := 4) (by omega) (by decide) c6) (by decide)) dX2_rowsOfNothing_14 (fun n14 => ?_) (fun n14 => ?_)
        · refine lv_ifnonnullN hx hb dX2_rowsOfNothing_15 ?_
          refine lv_iinc (v := (f_none S0 j) + 1) (lv' := [(1, .int ((f_none S0 j) + 1)), (2, .int (nI j)), (0, .ref o)]) hx hb dX2_rowsOfNothing_18 hl (k := 1) rfl rfl (by decide) rfl (fun ls hl => ?_)
          refine lv_iinc (v := (nI j) + 1) (lv' := [(2, .int ((nI j) + 1)), (1, .int ((f_none S0 j) + 1)), (0, .ref o)]) hx hb dX2_rowsOfNothing_21 hl (k := 1) rfl rfl (by decide) rfl (fun ls hl => ?_)
          refine lv_goto (tgt := 4) hx hb dX2_rowsOfNothing_24 (by decide) ?_
          have hj4 := nI_ub (n := 4) (by omega) (by decide) c6
          have hl := lv_sub hl [0, 1, 2] rfl
          rw [nI_clamp (show j < 2 ^ 31 by omega)] at n14
          have eN : f_none S0 (j + 1) = f_none S0 j + 1 := by
            conv => lhs; unfold f_none
            rw [if_neg (Int32.not_le.mpr n14)]
          rw [nI_1, ← eN] at hl
          exact ih (j + 1) f0 (by omega) (by omega) H locs ls I hl
        · refine lv_ifnonnull (tgt := 21) hx hb dX2_rowsOfNothing_15 (by decide) ?_
          refine lv_iinc (v := (nI j) + 1) (lv' := [(2, .int ((nI j) + 1)), (1, .int (f_none S0 j)), (0, .ref o)]) hx hb dX2_rowsOfNothing_21 hl (k := 0) rfl rfl (by decide) rfl (fun ls hl => ?_)
          refine lv_goto (tgt := 4) hx hb dX2_rowsOfNothing_24 (by decide) ?_
          have hj4 := nI_ub (n := 4) (by omega) (by decide) c6
          have hl := lv_sub hl [0, 1, 2] rfl
          rw [nI_clamp (show j < 2 ^ 31 by omega)] at n14
          have eN : f_none S0 (j + 1) = f_none S0 j := by
            conv => lhs; unfold f_none
            rw [if_pos (Int32.not_lt.mp n14)]; exact Int32.add_zero _
          rw [nI_1, ← eN] at hl
          exact ih (j + 1) f0 (by omega) (by omega) H locs ls I hl
  refine lv_iconst (v := 0) hx hb dX2_rowsOfNothing_0 (by decide) ?_
  refine lv_istore_n (lv' := [(1, .int 0), (0, .ref o)]) hx hb dX2_rowsOfNothing_1 rfl hl (by decide) rfl (fun ls hl => ?_)
  refine lv_iconst (v := 0) hx hb dX2_rowsOfNothing_2 (by decide) ?_
  refine lv_istore_n (lv' := [(2, .int 0), (1, .int 0), (0, .ref o)]) hx hb dX2_rowsOfNothing_3 rfl hl (by decide) rfl (fun ls hl => ?_)
  exact LC 5 0 f0 (by omega) (by omega) _ _ ls I (lv_sub hl [0, 1, 2] rfl)

set_option maxHeartbeats 4000000 in
set_option maxRecDepth 100000 in
theorem c_X2_count (l : Launch) (D : va_G) (o : Nat) (ap : Nat → Nat) (cA cR cU : ClassId) (A : Nat → Prop) (ρ σ ra : Nat → Nat) (L : List Nat) (f0 : Nat → va_E) (S0 : tr_S) (z0 : tr_Z) (a : Int32) : c_Mi l yX2_count wsX2_count { frames := 1, cells := 0, slots := 0, locals := 22 } [.int a] D o ap cA cR cU A ρ σ ra L f0 S0 z0 (fun v u => v = f_count a S0 ∧ u.1 = S0) := by
  refine Met.ofW (cc := cX2_count) (maxL := 2) (ret := (some .int)) (by decide) rfl ?_
  intro p e s m args below meth c s₁ B hml hv
  obtain ⟨rfl, hB⟩ := hv
  have hx := B.exec
  have hb := B.bytes
  have hr := B.returns
  have hts := atoms_spec (ws := wsX2_count) B.pre
  have hown : s.vm.findClass RX2 = some m.cls := findClass_of_methodNamed B.named
  have hlocks := B.notSynchronized
  have I := c_I.of hB
  have hin2 : ∀ w ∈ wsX20, w ∈ wsX2_count := fun _ h => List.mem_cons_of_mem _ (List.mem_append_right _ h)
  have L27 := hts (.fieldLink RX2 27 "TollRules" "rulesMade" "I") (by decide +kernel)
  have L52 := hts (.fieldLink RX2 52 "TollRules" "stepsInAll" "I") (by decide +kernel)
  have L61 := hts (.fieldLink RX2 61 "TollRules" "failedCalls" "I") (by decide +kernel)
  have L64 := hts (.fieldLink RX2 64 "TollRules" "otherWays" "I") (by decide +kernel)
  have hl := lv_entry ([.ref o, .int a]) (n := 2) (Nat.le_of_ble_eq_true rfl)
  rw [lg_entry_eq]
  generalize (lg_sl ([.ref o, .int a]) ++ List.replicate (2 - (lg_sl ([.ref o, .int a])).length) Slot.unset).toArray = ls at hl ⊢
  have hl : lv_has ls 2 [(0, .ref o), (1, .int a)] := hl
  refine lv_iload_n hx hb dX2_count_0 rfl (lv_at hl 1 rfl) ?_
  by_cases k1_0 : a = 0
  · refine lv_tableIn (tgt := 36) hx hb dX2_count_1 (by rw [k1_0]; decide) (by rw [k1_0]; decide) (off := 35) (by rw [k1_0]; rfl) (by decide) ?_
    refine lv_aload_n hx hb dX2_count_36 rfl (lv_at hl 0 rfl) ?_
    refine c_get3 hx hb hts hin2 hown I L27 dX2_count_37 (x := S0.1 4) rfl ?_
    exact c_iret hx hb hr hlocks I dX2_count_40 ⟨by unfold f_count; rw [if_pos k1_0], rfl⟩
  by_cases k1_1 : a = 1
  · refine lv_tableIn (tgt := 41) hx hb dX2_count_1 (by rw [k1_1]; decide) (by rw [k1_1]; decide) (off := 40) (by rw [k1_1]; rfl) (by decide) ?_
    refine lv_aload_n hx hb dX2_count_41 rfl (lv_at hl 0 rfl) ?_
    refine c_get11 hx hb hts hin2 hown I L52 dX2_count_42 (x := S0.1 20) rfl ?_
    exact c_iret hx hb hr hlocks I dX2_count_45 ⟨by unfold f_count; rw [if_neg k1_0, if_pos k1_1], rfl⟩
  by_cases k1_2 : a = 2
  · refine lv_tableIn (tgt := 46) hx hb dX2_count_1 (by rw [k1_2]; decide) (by rw [k1_2]; decide) (off := 45) (by rw [k1_2]; rfl) (by decide) ?_
    refine lv_aload_n hx hb dX2_count_46 rfl (lv_at hl 0 rfl) ?_
    refine c_get14 hx hb hts hin2 hown I L61 dX2_count_47 (x := S0.1 23) rfl ?_
    exact c_iret hx hb hr hlocks I dX2_count_50 ⟨by unfold f_count; rw [if_neg k1_0, if_neg k1_1, if_pos k1_2], rfl⟩
  by_cases k1_3 : a = 3
  · refine lv_tableIn (tgt := 51) hx hb dX2_count_1 (by rw [k1_3]; decide) (by rw [k1_3]; decide) (off := 50) (by rw [k1_3]; rfl) (by decide) ?_
    refine lv_aload_n hx hb dX2_count_51 rfl (lv_at hl 0 rfl) ?_
    refine c_get15 hx hb hts hin2 hown I L64 dX2_count_52 (x := S0.1 24) rfl ?_
    exact c_iret hx hb hr hlocks I dX2_count_55 ⟨by unfold f_count; rw [if_neg k1_0, if_neg k1_1, if_neg k1_2, if_pos k1_3], rfl⟩
  by_cases k1_4 : a = 4
  · refine lv_tableIn (tgt := 56) hx hb dX2_count_1 (by rw [k1_4]; decide) (by rw [k1_4]; decide) (off := 55) (by rw [k1_4]; rfl) (by decide) ?_
    refine lv_aload_n hx hb dX2_count_56 rfl (lv_at hl 0 rfl) ?_
    refine c_calli (rest := []) ⟨hx, hb, hml, hown, hts⟩ (c_X2_rowsOfNothing l D o ap cA cR cU A ρ σ ra L _ S0 z0) (cwV 0 hts gX2_count_X2_rowsOfNothing rfl rfl rfl (by decide +kernel) ⟨Nat.le_of_ble_eq_true rfl, Nat.le_of_ble_eq_true rfl⟩) I rfl hl.1 rfl (Nat.le_of_ble_eq_true rfl) dX2_count_57 ⟨Nat.le_refl _, Nat.le_refl _⟩ (fun r57 S57 z57 f1 H locs p57 I => ?_)
    obtain ⟨e1, e2⟩ := p57
    obtain ⟨e3, e4⟩ := Prod.mk.inj e2
    exact c_iret hx hb hr hlocks I dX2_count_60 ⟨by unfold f_count; rw [if_neg k1_0, if_neg k1_1, if_neg k1_2, if_neg k1_3, if_pos k1_4]; exact e1, e3⟩
  refine lv_tableOut (tgt := 61) hx hb dX2_count_1 (by have t0 := lv_neT k1_0 (a := 0) rfl; have t1 := lv_neT k1_1 (a := 1) rfl; have t2 := lv_neT k1_2 (a := 2) rfl; have t3 := lv_neT k1_3 (a := 3) rfl; have t4 := lv_neT k1_4 (a := 4) rfl; omega) (by decide) ?_
  refine lv_iconst (v := (-1)) hx hb dX2_count_61 (by decide) ?_
  exact c_iret hx hb hr hlocks I dX2_count_62 ⟨by unfold f_count; rw [if_neg k1_0, if_neg k1_1, if_neg k1_2, if_neg k1_3, if_neg k1_4], rfl⟩

theorem told_d {k a b : Int32} {S : tr_S} (h4 : ¬ k = 4) (h5 : ¬ k = 5) (h6 : ¬ k = 6) (h7 : ¬ k = 7) (h8 : ¬ k = 8) (h9 : ¬ k = 9) (h10 : ¬ k = 10) (h11 : ¬ k = 11) (h12 : ¬ k = 12) (h14 : ¬ k = 14) (h16 : ¬ k = 16) (g0 : 0 ≤ k) (g1 : k ≤ 17) : g_rule k a b S := by
  have ha : ¬ ((8 ≤ k ∧ k ≤ 11) ∨ k = 16) := by
    intro q
    obtain ⟨j, hj, rfl⟩ := nI_of2 (M := 17) (n := 17) rfl (Int32.not_lt.mpr g0) g1
    have key : ∀ j, j < 18 → ((8 ≤ nI j ∧ nI j ≤ 11) ∨ nI j = 16) → nI j = 8 ∨ nI j = 9 ∨ nI j = 10 ∨ nI j = 11 ∨ nI j = 16 := by decide +kernel
    rcases key j (by omega) q with w | w | w | w | w
    · exact h8 w
    · exact h9 w
    · exact h10 w
    · exact h11 w
    · exact h16 w
  exact ⟨⟨g0, g1⟩, Or.inl ⟨ha, h14⟩, Or.inl ⟨h4, h5, h12⟩, Or.inl ⟨h6, h7⟩, Or.inl ha⟩
set_option maxHeartbeats 4000000 in
set_option maxRecDepth 100000 in
theorem c_X2_isAsTold (l : Launch) (D : va_G) (o : Nat) (ap : Nat → Nat) (cA cR cU : ClassId) (A : Nat → Prop) (ρ σ ra : Nat → Nat) (L : List Nat) (f0 : Nat → va_E) (S0 : tr_S) (z0 : tr_Z) (k a b : Int32) (N : Nat) (hN : wf S0 N) : c_Mi l yX2_isAsTold wsX2_isAsTold { frames := 1, cells := 0, slots := 0, locals := 21 } [.int k, .int a, .int b] D o ap cA cR cU A ρ σ ra L f0 S0 z0 (fun v u => u = (S0, z0) ∧ ((g_rule k a b S0 ∧ v = 1) ∨ (¬ g_rule k a b S0 ∧ v = 0))) := by
  refine Met.ofW (cc := cX2_isAsTold) (maxL := 4) (ret := (some .boolean)) (by decide) rfl ?_
  intro p e s m args below meth c s₁ B hml hv
  obtain ⟨rfl, hB⟩ := hv
  have hx := B.exec
  have hb := B.bytes
  have hr := B.returns
  have hts := atoms_spec (ws := wsX2_isAsTold) B.pre
  have hown : s.vm.findClass RX2 = some m.cls := findClass_of_methodNamed B.named
  have hlocks := B.notSynchronized
  have I := c_I.of hB
  have hin2 : ∀ w ∈ wsX20, w ∈ wsX2_isAsTold := fun _ h => List.mem_cons_of_mem _ (List.mem_append_right _ h)
  have hl := lv_entry ([.ref o, .int k, .int a, .int b]) (n := 4) (Nat.le_of_ble_eq_true rfl)
  rw [lg_entry_eq]
  generalize (lg_sl ([.ref o, .int k, .int a, .int b]) ++ List.replicate (4 - (lg_sl ([.ref o, .int k, .int a, .int b])).length) Slot.unset).toArray = ls at hl ⊢
  have hl : lv_has ls 4 [(0, .ref o), (1, .int k), (2, .int a), (3, .int b)] := hl
  refine lv_iload_n hx hb dX2_isAsTold_0 rfl (lv_at hl 1 rfl) ?_
  by_cases k1_4 : k = 4
  · refine lv_tableIn (tgt := 68) hx hb dX2_isAsTold_1 (by rw [k1_4]; decide) (by rw [k1_4]; decide) (off := 67) (by rw [k1_4]; rfl) (by decide) ?_
    refine lv_iload_n hx hb dX2_isAsTold_68 rfl (lv_at hl 2 rfl) ?_
    refine c_isPlace ⟨hx, hb, hml, hown, hts⟩ gX2_isAsTold_X2_isPlace ⟨Nat.le_of_ble_eq_true rfl, Nat.le_of_ble_eq_true rfl⟩ ⟨Nat.le_refl _, Nat.le_refl _⟩ hl.1 (Nat.le_of_ble_eq_true rfl) dX2_isAsTold_69 (fun h69 => ?_) (fun h69 => ?_)
    · exact c_zret hx hb hr hlocks I rfl dX2_isAsTold_72 ⟨rfl, Or.inl ⟨by rw [k1_4]; unfold g_rule; simp (decide := true) [h69], rfl⟩⟩
    · exact c_zret hx hb hr hlocks I rfl dX2_isAsTold_72 ⟨rfl, Or.inr ⟨by rw [k1_4]; unfold g_rule; simp (decide := true) [h69], rfl⟩⟩
  by_cases k1_5 : k = 5
  · refine lv_tableIn (tgt := 68) hx hb dX2_isAsTold_1 (by rw [k1_5]; decide) (by rw [k1_5]; decide) (off := 67) (by rw [k1_5]; rfl) (by decide) ?_
    refine lv_iload_n hx hb dX2_isAsTold_68 rfl (lv_at hl 2 rfl) ?_
    refine c_isPlace ⟨hx, hb, hml, hown, hts⟩ gX2_isAsTold_X2_isPlace ⟨Nat.le_of_ble_eq_true rfl, Nat.le_of_ble_eq_true rfl⟩ ⟨Nat.le_refl _, Nat.le_refl _⟩ hl.1 (Nat.le_of_ble_eq_true rfl) dX2_isAsTold_69 (fun h69 => ?_) (fun h69 => ?_)
    · exact c_zret hx hb hr hlocks I rfl dX2_isAsTold_72 ⟨rfl, Or.inl ⟨by rw [k1_5]; unfold g_rule; simp (decide := true) [h69], rfl⟩⟩
    · exact c_zret hx hb hr hlocks I rfl dX2_isAsTold_72 ⟨rfl, Or.inr ⟨by rw [k1_5]; unfold g_rule; simp (decide := true) [h69], rfl⟩⟩
  by_cases k1_6 : k = 6
  · refine lv_tableIn (tgt := 73) hx hb dX2_isAsTold_1 (by rw [k1_6]; decide) (by rw [k1_6]; decide) (off := 72) (by rw [k1_6]; rfl) (by decide) ?_
    refine lv_iload_n hx hb dX2_isAsTold_73 rfl (lv_at hl 2 rfl) ?_
    refine c_isRow ⟨hx, hb, hml, hown, hts⟩ gX2_isAsTold_X2_isRow ⟨Nat.le_of_ble_eq_true rfl, Nat.le_of_ble_eq_true rfl⟩ ⟨Nat.le_refl _, Nat.le_refl _⟩ hl.1 (Nat.le_of_ble_eq_true rfl) dX2_isAsTold_74 (fun h74 => ?_) (fun h74 => ?_)
    · exact c_zret hx hb hr hlocks I rfl dX2_isAsTold_77 ⟨rfl, Or.inl ⟨by rw [k1_6]; unfold g_rule; simp (decide := true) [h74], rfl⟩⟩
    · exact c_zret hx hb hr hlocks I rfl dX2_isAsTold_77 ⟨rfl, Or.inr ⟨by rw [k1_6]; unfold g_rule; simp (decide := true) [h74], rfl⟩⟩
  by_cases k1_7 : k = 7
  · refine lv_tableIn (tgt := 73) hx hb dX2_isAsTold_1 (by rw [k1_7]; decide) (by rw [k1_7]; decide) (off := 72) (by rw [k1_7]; rfl) (by decide) ?_
    refine lv_iload_n hx hb dX2_isAsTold_73 rfl (lv_at hl 2 rfl) ?_
    refine c_isRow ⟨hx, hb, hml, hown, hts⟩ gX2_isAsTold_X2_isRow ⟨Nat.le_of_ble_eq_true rfl, Nat.le_of_ble_eq_true rfl⟩ ⟨Nat.le_refl _, Nat.le_refl _⟩ hl.1 (Nat.le_of_ble_eq_true rfl) dX2_isAsTold_74 (fun h74 => ?_) (fun h74 => ?_)
    · exact c_zret hx hb hr hlocks I rfl dX2_isAsTold_77 ⟨rfl, Or.inl ⟨by rw [k1_7]; unfold g_rule; simp (decide := true) [h74], rfl⟩⟩
    · exact c_zret hx hb hr hlocks I rfl dX2_isAsTold_77 ⟨rfl, Or.inr ⟨by rw [k1_7]; unfold g_rule; simp (decide := true) [h74], rfl⟩⟩
  by_cases k1_8 : k = 8
  · refine lv_tableIn (tgt := 84) hx hb dX2_isAsTold_1 (by rw [k1_8]; decide) (by rw [k1_8]; decide) (off := 83) (by rw [k1_8]; rfl) (by decide) ?_
    refine lv_aload_n hx hb dX2_isAsTold_84 rfl (lv_at hl 0 rfl) ?_
    refine lv_iload_n hx hb dX2_isAsTold_85 rfl (lv_at hl 2 rfl) ?_
    refine c_isRule hN ⟨hx, hb, hml, hown, hts⟩ gX2_isAsTold_X2_isRule ⟨Nat.le_of_ble_eq_true rfl, Nat.le_of_ble_eq_true rfl⟩ ⟨Nat.le_refl _, Nat.le_refl _⟩ I hl.1 (Nat.le_of_ble_eq_true rfl) dX2_isAsTold_86 (fun h86 f1 H locs I => ?_) (fun h86 f1 H locs I => ?_)
    · refine lv_if_eq (tgt := 104) hx hb dX2_isAsTold_89 (by decide) (fun h => absurd h (by decide)) (fun _ => ?_)
      refine lv_aload_n hx hb dX2_isAsTold_92 rfl (lv_at hl 0 rfl) ?_
      refine lv_iload_n hx hb dX2_isAsTold_93 rfl (lv_at hl 3 rfl) ?_
      refine c_isRule hN ⟨hx, hb, hml, hown, hts⟩ gX2_isAsTold_X2_isRule ⟨Nat.le_of_ble_eq_true rfl, Nat.le_of_ble_eq_true rfl⟩ ⟨Nat.le_refl _, Nat.le_refl _⟩ I hl.1 (Nat.le_of_ble_eq_true rfl) dX2_isAsTold_94 (fun h94 f1 H locs I => ?_) (fun h94 f1 H locs I => ?_)
      · refine lv_if_eq (tgt := 104) hx hb dX2_isAsTold_97 (by decide) (fun h => absurd h (by decide)) (fun _ => ?_)
        refine lv_iconst (v := 1) hx hb dX2_isAsTold_100 (by decide) ?_
        refine lv_goto (tgt := 105) hx hb dX2_isAsTold_101 (by decide) ?_
        exact c_zret hx hb hr hlocks I rfl dX2_isAsTold_105 ⟨rfl, Or.inl ⟨by rw [k1_8]; unfold g_rule; simp (decide := true) [h86, h94], rfl⟩⟩
      · refine lv_if_eq (tgt := 104) hx hb dX2_isAsTold_97 (by decide) (fun _ => ?_) (fun h => absurd h (by decide))
        refine lv_iconst (v := 0) hx hb dX2_isAsTold_104 (by decide) ?_
        exact c_zret hx hb hr hlocks I rfl dX2_isAsTold_105 ⟨rfl, Or.inr ⟨by rw [k1_8]; unfold g_rule; simp (decide := true) [h86, h94], rfl⟩⟩
    · refine lv_if_eq (tgt := 104) hx hb dX2_isAsTold_89 (by decide) (fun _ => ?_) (fun h => absurd h (by decide))
      refine lv_iconst (v := 0) hx hb dX2_isAsTold_104 (by decide) ?_
      exact c_zret hx hb hr hlocks I rfl dX2_isAsTold_105 ⟨rfl, Or.inr ⟨by rw [k1_8]; unfold g_rule; simp (decide := true) [h86], rfl⟩⟩
  by_cases k1_9 : k = 9
  · refine lv_tableIn (tgt := 78) hx hb dX2_isAsTold_1 (by rw [k1_9]; decide) (by rw [k1_9]; decide) (off := 77) (by rw [k1_9]; rfl) (by decide) ?_
    refine lv_aload_n hx hb dX2_isAsTold_78 rfl (lv_at hl 0 rfl) ?_
    refine lv_iload_n hx hb dX2_isAsTold_79 rfl (lv_at hl 2 rfl) ?_
    refine c_isRule hN ⟨hx, hb, hml, hown, hts⟩ gX2_isAsTold_X2_isRule ⟨Nat.le_of_ble_eq_true rfl, Nat.le_of_ble_eq_true rfl⟩ ⟨Nat.le_refl _, Nat.le_refl _⟩ I hl.1 (Nat.le_of_ble_eq_true rfl) dX2_isAsTold_80 (fun h80 f1 H locs I => ?_) (fun h80 f1 H locs I => ?_)
    · exact c_zret hx hb hr hlocks I rfl dX2_isAsTold_83 ⟨rfl, Or.inl ⟨by rw [k1_9]; unfold g_rule; simp (decide := true) [h80], rfl⟩⟩
    · exact c_zret hx hb hr hlocks I rfl dX2_isAsTold_83 ⟨rfl, Or.inr ⟨by rw [k1_9]; unfold g_rule; simp (decide := true) [h80], rfl⟩⟩
  by_cases k1_10 : k = 10
  · refine lv_tableIn (tgt := 84) hx hb dX2_isAsTold_1 (by rw [k1_10]; decide) (by rw [k1_10]; decide) (off := 83) (by rw [k1_10]; rfl) (by decide) ?_
    refine lv_aload_n hx hb dX2_isAsTold_84 rfl (lv_at hl 0 rfl) ?_
    refine lv_iload_n hx hb dX2_isAsTold_85 rfl (lv_at hl 2 rfl) ?_
    refine c_isRule hN ⟨hx, hb, hml, hown, hts⟩ gX2_isAsTold_X2_isRule ⟨Nat.le_of_ble_eq_true rfl, Nat.le_of_ble_eq_true rfl⟩ ⟨Nat.le_refl _, Nat.le_refl _⟩ I hl.1 (Nat.le_of_ble_eq_true rfl) dX2_isAsTold_86 (fun h86 f1 H locs I => ?_) (fun h86 f1 H locs I => ?_)
    · refine lv_if_eq (tgt := 104) hx hb dX2_isAsTold_89 (by decide) (fun h => absurd h (by decide)) (fun _ => ?_)
      refine lv_aload_n hx hb dX2_isAsTold_92 rfl (lv_at hl 0 rfl) ?_
      refine lv_iload_n hx hb dX2_isAsTold_93 rfl (lv_at hl 3 rfl) ?_
      refine c_isRule hN ⟨hx, hb, hml, hown, hts⟩ gX2_isAsTold_X2_isRule ⟨Nat.le_of_ble_eq_true rfl, Nat.le_of_ble_eq_true rfl⟩ ⟨Nat.le_refl _, Nat.le_refl _⟩ I hl.1 (Nat.le_of_ble_eq_true rfl) dX2_isAsTold_94 (fun h94 f1 H locs I => ?_) (fun h94 f1 H locs I => ?_)
      · refine lv_if_eq (tgt := 104) hx hb dX2_isAsTold_97 (by decide) (fun h => absurd h (by decide)) (fun _ => ?_)
        refine lv_iconst (v := 1) hx hb dX2_isAsTold_100 (by decide) ?_
        refine lv_goto (tgt := 105) hx hb dX2_isAsTold_101 (by decide) ?_
        exact c_zret hx hb hr hlocks I rfl dX2_isAsTold_105 ⟨rfl, Or.inl ⟨by rw [k1_10]; unfold g_rule; simp (decide := true) [h86, h94], rfl⟩⟩
      · refine lv_if_eq (tgt := 104) hx hb dX2_isAsTold_97 (by decide) (fun _ => ?_) (fun h => absurd h (by decide))
        refine lv_iconst (v := 0) hx hb dX2_isAsTold_104 (by decide) ?_
        exact c_zret hx hb hr hlocks I rfl dX2_isAsTold_105 ⟨rfl, Or.inr ⟨by rw [k1_10]; unfold g_rule; simp (decide := true) [h86, h94], rfl⟩⟩
    · refine lv_if_eq (tgt := 104) hx hb dX2_isAsTold_89 (by decide) (fun _ => ?_) (fun h => absurd h (by decide))
      refine lv_iconst (v := 0) hx hb dX2_isAsTold_104 (by decide) ?_
      exact c_zret hx hb hr hlocks I rfl dX2_isAsTold_105 ⟨rfl, Or.inr ⟨by rw [k1_10]; unfold g_rule; simp (decide := true) [h86], rfl⟩⟩
  by_cases k1_11 : k = 11
  · refine lv_tableIn (tgt := 84) hx hb dX2_isAsTold_1 (by rw [k1_11]; decide) (by rw [k1_11]; decide) (off := 83) (by rw [k1_11]; rfl) (by decide) ?_
    refine lv_aload_n hx hb dX2_isAsTold_84 rfl (lv_at hl 0 rfl) ?_
    refine lv_iload_n hx hb dX2_isAsTold_85 rfl (lv_at hl 2 rfl) ?_
    refine c_isRule hN ⟨hx, hb, hml, hown, hts⟩ gX2_isAsTold_X2_isRule ⟨Nat.le_of_ble_eq_true rfl, Nat.le_of_ble_eq_true rfl⟩ ⟨Nat.le_refl _, Nat.le_refl _⟩ I hl.1 (Nat.le_of_ble_eq_true rfl) dX2_isAsTold_86 (fun h86 f1 H locs I => ?_) (fun h86 f1 H locs I => ?_)
    · refine lv_if_eq (tgt := 104) hx hb dX2_isAsTold_89 (by decide) (fun h => absurd h (by decide)) (fun _ => ?_)
      refine lv_aload_n hx hb dX2_isAsTold_92 rfl (lv_at hl 0 rfl) ?_
      refine lv_iload_n hx hb dX2_isAsTold_93 rfl (lv_at hl 3 rfl) ?_
      refine c_isRule hN ⟨hx, hb, hml, hown, hts⟩ gX2_isAsTold_X2_isRule ⟨Nat.le_of_ble_eq_true rfl, Nat.le_of_ble_eq_true rfl⟩ ⟨Nat.le_refl _, Nat.le_refl _⟩ I hl.1 (Nat.le_of_ble_eq_true rfl) dX2_isAsTold_94 (fun h94 f1 H locs I => ?_) (fun h94 f1 H locs I => ?_)
      · refine lv_if_eq (tgt := 104) hx hb dX2_isAsTold_97 (by decide) (fun h => absurd h (by decide)) (fun _ => ?_)
        refine lv_iconst (v := 1) hx hb dX2_isAsTold_100 (by decide) ?_
        refine lv_goto (tgt := 105) hx hb dX2_isAsTold_101 (by decide) ?_
        exact c_zret hx hb hr hlocks I rfl dX2_isAsTold_105 ⟨rfl, Or.inl ⟨by rw [k1_11]; unfold g_rule; simp (decide := true) [h86, h94], rfl⟩⟩
      · refine lv_if_eq (tgt := 104) hx hb dX2_isAsTold_97 (by decide) (fun _ => ?_) (fun h => absurd h (by decide))
        refine lv_iconst (v := 0) hx hb dX2_isAsTold_104 (by decide) ?_
        exact c_zret hx hb hr hlocks I rfl dX2_isAsTold_105 ⟨rfl, Or.inr ⟨by rw [k1_11]; unfold g_rule; simp (decide := true) [h86, h94], rfl⟩⟩
    · refine lv_if_eq (tgt := 104) hx hb dX2_isAsTold_89 (by decide) (fun _ => ?_) (fun h => absurd h (by decide))
      refine lv_iconst (v := 0) hx hb dX2_isAsTold_104 (by decide) ?_
      exact c_zret hx hb hr hlocks I rfl dX2_isAsTold_105 ⟨rfl, Or.inr ⟨by rw [k1_11]; unfold g_rule; simp (decide := true) [h86], rfl⟩⟩
  by_cases k1_12 : k = 12
  · refine lv_tableIn (tgt := 68) hx hb dX2_isAsTold_1 (by rw [k1_12]; decide) (by rw [k1_12]; decide) (off := 67) (by rw [k1_12]; rfl) (by decide) ?_
    refine lv_iload_n hx hb dX2_isAsTold_68 rfl (lv_at hl 2 rfl) ?_
    refine c_isPlace ⟨hx, hb, hml, hown, hts⟩ gX2_isAsTold_X2_isPlace ⟨Nat.le_of_ble_eq_true rfl, Nat.le_of_ble_eq_true rfl⟩ ⟨Nat.le_refl _, Nat.le_refl _⟩ hl.1 (Nat.le_of_ble_eq_true rfl) dX2_isAsTold_69 (fun h69 => ?_) (fun h69 => ?_)
    · exact c_zret hx hb hr hlocks I rfl dX2_isAsTold_72 ⟨rfl, Or.inl ⟨by rw [k1_12]; unfold g_rule; simp (decide := true) [h69], rfl⟩⟩
    · exact c_zret hx hb hr hlocks I rfl dX2_isAsTold_72 ⟨rfl, Or.inr ⟨by rw [k1_12]; unfold g_rule; simp (decide := true) [h69], rfl⟩⟩
  by_cases k1_13 : k = 13
  · refine lv_tableIn (tgt := 106) hx hb dX2_isAsTold_1 (by rw [k1_13]; decide) (by rw [k1_13]; decide) (off := 105) (by rw [k1_13]; rfl) (by decide) ?_
    refine lv_iload_n hx hb dX2_isAsTold_106 rfl (lv_at hl 1 rfl) ?_
    refine lv_if_lt (tgt := 120) hx hb dX2_isAsTold_107 (by decide) (fun c107 => ?_) (fun c107 => ?_)
    · refine lv_iconst (v := 0) hx hb dX2_isAsTold_120 (by decide) ?_
      exact absurd c107 (by rw [k1_13]; decide)
    · refine lv_iload_n hx hb dX2_isAsTold_110 rfl (lv_at hl 1 rfl) ?_
      refine lv_bipush (v := 17) hx hb dX2_isAsTold_111 (by decide) ?_
      refine lv_icmp_gt (tgt := 120) hx hb dX2_isAsTold_113 (by decide) (fun c113 => ?_) (fun c113 => ?_)
      · refine lv_iconst (v := 0) hx hb dX2_isAsTold_120 (by decide) ?_
        exact absurd c113 (by rw [k1_13]; decide)
      · refine lv_iconst (v := 1) hx hb dX2_isAsTold_116 (by decide) ?_
        refine lv_goto (tgt := 121) hx hb dX2_isAsTold_117 (by decide) ?_
        exact c_zret hx hb hr hlocks I rfl dX2_isAsTold_121 ⟨rfl, Or.inl ⟨by rw [k1_13]; unfold g_rule; simp (decide := true), rfl⟩⟩
  by_cases k1_14 : k = 14
  · refine lv_tableIn (tgt := 78) hx hb dX2_isAsTold_1 (by rw [k1_14]; decide) (by rw [k1_14]; decide) (off := 77) (by rw [k1_14]; rfl) (by decide) ?_
    refine lv_aload_n hx hb dX2_isAsTold_78 rfl (lv_at hl 0 rfl) ?_
    refine lv_iload_n hx hb dX2_isAsTold_79 rfl (lv_at hl 2 rfl) ?_
    refine c_isRule hN ⟨hx, hb, hml, hown, hts⟩ gX2_isAsTold_X2_isRule ⟨Nat.le_of_ble_eq_true rfl, Nat.le_of_ble_eq_true rfl⟩ ⟨Nat.le_refl _, Nat.le_refl _⟩ I hl.1 (Nat.le_of_ble_eq_true rfl) dX2_isAsTold_80 (fun h80 f1 H locs I => ?_) (fun h80 f1 H locs I => ?_)
    · exact c_zret hx hb hr hlocks I rfl dX2_isAsTold_83 ⟨rfl, Or.inl ⟨by rw [k1_14]; unfold g_rule; simp (decide := true) [h80], rfl⟩⟩
    · exact c_zret hx hb hr hlocks I rfl dX2_isAsTold_83 ⟨rfl, Or.inr ⟨by rw [k1_14]; unfold g_rule; simp (decide := true) [h80], rfl⟩⟩
  by_cases k1_15 : k = 15
  · refine lv_tableIn (tgt := 106) hx hb dX2_isAsTold_1 (by rw [k1_15]; decide) (by rw [k1_15]; decide) (off := 105) (by rw [k1_15]; rfl) (by decide) ?_
    refine lv_iload_n hx hb dX2_isAsTold_106 rfl (lv_at hl 1 rfl) ?_
    refine lv_if_lt (tgt := 120) hx hb dX2_isAsTold_107 (by decide) (fun c107 => ?_) (fun c107 => ?_)
    · refine lv_iconst (v := 0) hx hb dX2_isAsTold_120 (by decide) ?_
      exact absurd c107 (by rw [k1_15]; decide)
    · refine lv_iload_n hx hb dX2_isAsTold_110 rfl (lv_at hl 1 rfl) ?_
      refine lv_bipush (v := 17) hx hb dX2_isAsTold_111 (by decide) ?_
      refine lv_icmp_gt (tgt := 120) hx hb dX2_isAsTold_113 (by decide) (fun c113 => ?_) (fun c113 => ?_)
      · refine lv_iconst (v := 0) hx hb dX2_isAsTold_120 (by decide) ?_
        exact absurd c113 (by rw [k1_15]; decide)
      · refine lv_iconst (v := 1) hx hb dX2_isAsTold_116 (by decide) ?_
        refine lv_goto (tgt := 121) hx hb dX2_isAsTold_117 (by decide) ?_
        exact c_zret hx hb hr hlocks I rfl dX2_isAsTold_121 ⟨rfl, Or.inl ⟨by rw [k1_15]; unfold g_rule; simp (decide := true), rfl⟩⟩
  by_cases k1_16 : k = 16
  · refine lv_tableIn (tgt := 84) hx hb dX2_isAsTold_1 (by rw [k1_16]; decide) (by rw [k1_16]; decide) (off := 83) (by rw [k1_16]; rfl) (by decide) ?_
    refine lv_aload_n hx hb dX2_isAsTold_84 rfl (lv_at hl 0 rfl) ?_
    refine lv_iload_n hx hb dX2_isAsTold_85 rfl (lv_at hl 2 rfl) ?_
    refine c_isRule hN ⟨hx, hb, hml, hown, hts⟩ gX2_isAsTold_X2_isRule ⟨Nat.le_of_ble_eq_true rfl, Nat.le_of_ble_eq_true rfl⟩ ⟨Nat.le_refl _, Nat.le_refl _⟩ I hl.1 (Nat.le_of_ble_eq_true rfl) dX2_isAsTold_86 (fun h86 f1 H locs I => ?_) (fun h86 f1 H locs I => ?_)
    · refine lv_if_eq (tgt := 104) hx hb dX2_isAsTold_89 (by decide) (fun h => absurd h (by decide)) (fun _ => ?_)
      refine lv_aload_n hx hb dX2_isAsTold_92 rfl (lv_at hl 0 rfl) ?_
      refine lv_iload_n hx hb dX2_isAsTold_93 rfl (lv_at hl 3 rfl) ?_
      refine c_isRule hN ⟨hx, hb, hml, hown, hts⟩ gX2_isAsTold_X2_isRule ⟨Nat.le_of_ble_eq_true rfl, Nat.le_of_ble_eq_true rfl⟩ ⟨Nat.le_refl _, Nat.le_refl _⟩ I hl.1 (Nat.le_of_ble_eq_true rfl) dX2_isAsTold_94 (fun h94 f1 H locs I => ?_) (fun h94 f1 H locs I => ?_)
      · refine lv_if_eq (tgt := 104) hx hb dX2_isAsTold_97 (by decide) (fun h => absurd h (by decide)) (fun _ => ?_)
        refine lv_iconst (v := 1) hx hb dX2_isAsTold_100 (by decide) ?_
        refine lv_goto (tgt := 105) hx hb dX2_isAsTold_101 (by decide) ?_
        exact c_zret hx hb hr hlocks I rfl dX2_isAsTold_105 ⟨rfl, Or.inl ⟨by rw [k1_16]; unfold g_rule; simp (decide := true) [h86, h94], rfl⟩⟩
      · refine lv_if_eq (tgt := 104) hx hb dX2_isAsTold_97 (by decide) (fun _ => ?_) (fun h => absurd h (by decide))
        refine lv_iconst (v := 0) hx hb dX2_isAsTold_104 (by decide) ?_
        exact c_zret hx hb hr hlocks I rfl dX2_isAsTold_105 ⟨rfl, Or.inr ⟨by rw [k1_16]; unfold g_rule; simp (decide := true) [h86, h94], rfl⟩⟩
    · refine lv_if_eq (tgt := 104) hx hb dX2_isAsTold_89 (by decide) (fun _ => ?_) (fun h => absurd h (by decide))
      refine lv_iconst (v := 0) hx hb dX2_isAsTold_104 (by decide) ?_
      exact c_zret hx hb hr hlocks I rfl dX2_isAsTold_105 ⟨rfl, Or.inr ⟨by rw [k1_16]; unfold g_rule; simp (decide := true) [h86], rfl⟩⟩
  refine lv_tableOut (tgt := 106) hx hb dX2_isAsTold_1 (by have t4 := lv_neT k1_4 (a := 4) rfl; have t5 := lv_neT k1_5 (a := 5) rfl; have t6 := lv_neT k1_6 (a := 6) rfl; have t7 := lv_neT k1_7 (a := 7) rfl; have t8 := lv_neT k1_8 (a := 8) rfl; have t9 := lv_neT k1_9 (a := 9) rfl; have t10 := lv_neT k1_10 (a := 10) rfl; have t11 := lv_neT k1_11 (a := 11) rfl; have t12 := lv_neT k1_12 (a := 12) rfl; have t13 := lv_neT k1_13 (a := 13) rfl; have t14 := lv_neT k1_14 (a := 14) rfl; have t15 := lv_neT k1_15 (a := 15) rfl; have t16 := lv_neT k1_16 (a := 16) rfl; omega) (by decide) ?_
  refine lv_iload_n hx hb dX2_isAsTold_106 rfl (lv_at hl 1 rfl) ?_
  refine lv_if_lt (tgt := 120) hx hb dX2_isAsTold_107 (by decide) (fun c107 => ?_) (fun c107 => ?_)
  · refine lv_iconst (v := 0) hx hb dX2_isAsTold_120 (by decide) ?_
    exact c_zret hx hb hr hlocks I rfl dX2_isAsTold_121 ⟨rfl, Or.inr ⟨fun q => absurd c107 (Int32.not_lt.mpr q.1.1), rfl⟩⟩
  · refine lv_iload_n hx hb dX2_isAsTold_110 rfl (lv_at hl 1 rfl) ?_
    refine lv_bipush (v := 17) hx hb dX2_isAsTold_111 (by decide) ?_
    refine lv_icmp_gt (tgt := 120) hx hb dX2_isAsTold_113 (by decide) (fun c113 => ?_) (fun c113 => ?_)
    · refine lv_iconst (v := 0) hx hb dX2_isAsTold_120 (by decide) ?_
      exact c_zret hx hb hr hlocks I rfl dX2_isAsTold_121 ⟨rfl, Or.inr ⟨fun q => absurd c113 (Int32.not_lt.mpr q.1.2), rfl⟩⟩
    · refine lv_iconst (v := 1) hx hb dX2_isAsTold_116 (by decide) ?_
      refine lv_goto (tgt := 121) hx hb dX2_isAsTold_117 (by decide) ?_
      exact c_zret hx hb hr hlocks I rfl dX2_isAsTold_121 ⟨rfl, Or.inl ⟨told_d k1_4 k1_5 k1_6 k1_7 k1_8 k1_9 k1_10 k1_11 k1_12 k1_14 k1_16 (Int32.not_lt.mp c107) (Int32.not_lt.mp c113), rfl⟩⟩

