def f_fold1 (h v i : Int32) : Int32 := if h = 0 then v + i else if h = 1 then (if v ≤ i then i else v) else if h = 2 then 31 * v + i else if h = 3 then i - v else v / i
theorem fold_no {h : Int32} (h0 : ¬ h = 0) (h1 : ¬ h = 1) (h2 : ¬ h = 2) (h3 : ¬ h = 3) (h4 : ¬ h = 4) : ¬ (0 ≤ h ∧ h ≤ 4) := by
  intro q
  obtain ⟨j, hj, rfl⟩ := nI_of2 (M := 4) (n := 4) rfl (Int32.not_lt.mpr q.1) q.2
  have key : ∀ j, j < 5 → nI j = 0 ∨ nI j = 1 ∨ nI j = 2 ∨ nI j = 3 ∨ nI j = 4 := by decide +kernel
  rcases key j (by omega) with h | h | h | h | h
  · exact h0 h
  · exact h1 h
  · exact h2 h
  · exact h3 h
  · exact h4 h
def l_fold (h : Int32) (q : Nat) (S : tr_S) : Nat → Nat → Int32 → Option Int32
  | 0, _, v => some v
  | n + 1, i, v => if h = 4 ∧ S.2 3 (10 * q + i) = 0 then none else l_fold h q S n (i + 1) (f_fold1 h v (S.2 3 (10 * q + i)))
def f_foldEnd (a : Option Int32) (S : tr_S) : Int32 × tr_S := match a with
  | none => f_fail 1 (-1) S
  | some v => (1, sF S 25 v)
def a_fold (h y x : Int32) (S : tr_S) : Int32 × tr_S := if (0 ≤ h ∧ h ≤ 4) ∧ (0 ≤ y ∧ y ≤ 3) then (if 0 ≤ S.2 1 y.toNatClampNeg then f_foldEnd (l_fold h (S.2 1 y.toNatClampNeg).toNatClampNeg S (S.2 2 (S.2 1 y.toNatClampNeg).toNatClampNeg).toNatClampNeg 0 x) S else (-13, S)) else (-1, S)
set_option maxHeartbeats 4000000 in
set_option maxRecDepth 100000 in
theorem c_X3_fold (l : Launch) (D : va_G) (o : Nat) (ad : Nat → Nat) (cA : ClassId) (S0 : tr_S) (h y x : Int32) (N : Nat) (hN : wf S0 N) : m_Mi l yX3_fold wsX3_fold { frames := 1, cells := 0, slots := 0, locals := 23 } [.int h, .int y, .int x] D o ad cA S0 (fun v S => (v, S) = a_fold h y x S0) := by
  refine Met.ofW (cc := cX3_fold) (maxL := 8) (ret := (some .int)) (by decide) rfl ?_
  intro p e s m args below meth c s₁ B hml hv
  obtain ⟨rfl, hB⟩ := hv
  have hx := B.exec
  have hb := B.bytes
  have hr := B.returns
  have hts := atoms_spec (ws := wsX3_fold) B.pre
  have hown : s.vm.findClass RX3 = some m.cls := findClass_of_methodNamed B.named
  have hlocks := B.notSynchronized
  have I := m_I.of hB
  have hin : ∀ w ∈ wsX30, w ∈ wsX3_fold := fun _ h => List.mem_cons_of_mem _ (List.mem_append_right _ h)
  have L13 := hts (.fieldLink RX3 13 "TollRulesModel" "rowOf" "[I") (by decide +kernel)
  have L16 := hts (.fieldLink RX3 16 "TollRulesModel" "size" "[I") (by decide +kernel)
  have L19 := hts (.fieldLink RX3 19 "TollRulesModel" "item" "[I") (by decide +kernel)
  have L152 := hts (.fieldLink RX3 152 "TollRulesModel" "result" "I") (by decide +kernel)
  have hl := lv_entry ([.ref o, .int h, .int y, .int x]) (n := 8) (Nat.le_of_ble_eq_true rfl)
  rw [lg_entry_eq]
  generalize (lg_sl ([.ref o, .int h, .int y, .int x]) ++ List.replicate (8 - (lg_sl ([.ref o, .int h, .int y, .int x])).length) Slot.unset).toArray = ls at hl ⊢
  have hl : lv_has ls 8 [(0, .ref o), (1, .int h), (2, .int y), (3, .int x)] := hl
  have LF : ∀ (d q z i rem : Nat) (v : Int32), (0 ≤ h ∧ h ≤ 4) → rem < d → q < 48 → z ≤ 10 → i + rem = z → S0.2 2 q = nI z → a_fold h y x S0 = f_foldEnd (l_fold h q S0 rem i v) S0 → ∀ (H : Heap) (locs : List Loc) (ls : Array Slot), m_I D o ad cA S0 s s.heap H locs → lv_has ls 8 [(6, .int (nI i)), (5, .int v), (4, .int (nI q)), (0, .ref o), (1, .int h), (2, .int y), (3, .int x)] → W p l e (headSpec wsX3_fold { frames := 1, cells := 0, slots := 0, locals := 23 }).room s m (([.ref o, .int h, .int y, .int x] : List Value).toArray) below meth c H locs 0 0 (MQ below (va_Qi (fun v S => (v, S) = a_fold h y x S0) (m_B D o ad cA) (m_A o ad)) (([.ref o, .int h, .int y, .int x] : List Value).toArray) s 0 0 (m_A o ad)) (F0 m 46 ls []) := by
    intro d
    induction d with
    | zero => intro q z i rem _ _ hd; omega
    | succ d ih =>
      intro q z i rem v hh hd hq hz10 hiz hz hT H locs ls I hl
      refine lv_iload hx hb dX3_fold_46 (lv_at hl 0 rfl) ?_
      refine lv_aload_n hx hb dX3_fold_48 rfl (lv_at hl 3 rfl) ?_
      refine m_get2 hx hb hts hin hown I L16 dX3_fold_49 ?_
      refine lv_iload hx hb dX3_fold_52 (lv_at hl 2 rfl) ?_
      refine m_ald2 hx hb I (vp_in_nI hq (by decide)) dX3_fold_54 (x := S0.2 2 q) (by rw [nI_clamp (show q < 2 ^ 31 by omega)] <;> rfl) ?_
      refine lv_icmp_ge (tgt := 167) hx hb dX3_fold_55 (by decide) (fun c55 => ?_) (fun c55 => ?_)
      · refine lv_aload_n hx hb dX3_fold_167 rfl (lv_at hl 3 rfl) ?_
        refine lv_iload hx hb dX3_fold_168 (lv_at hl 1 rfl) ?_
        refine m_put25 hx hb hts hin hown I L152 dX3_fold_170 (fun H locs I => ?_)
        refine lv_iconst (v := 1) hx hb dX3_fold_173 (by decide) ?_
        have hi : z ≤ i := nI_lb (by omega) (by omega) (by rw [← hz]; exact c55)
        obtain rfl : rem = 0 := by omega
        refine m_iret hx hb hr hlocks I dX3_fold_174 ?_
        rw [hT]
        rfl
      · have hi : i < z := nI_ub (by omega) (by omega) (by rw [← hz]; exact c55)
        obtain ⟨rm, rfl⟩ : ∃ k, rem = k + 1 := ⟨rem - 1, by omega⟩
        refine lv_aload_n hx hb dX3_fold_58 rfl (lv_at hl 3 rfl) ?_
        refine m_get3 hx hb hts hin hown I L19 dX3_fold_59 ?_
        refine lv_bipush (v := 10) hx hb dX3_fold_62 (by decide) ?_
        refine lv_iload hx hb dX3_fold_64 (lv_at hl 2 rfl) ?_
        refine lv_imul hx hb dX3_fold_66 ?_
        refine lv_iload hx hb dX3_fold_67 (lv_at hl 0 rfl) ?_
        refine lv_iadd hx hb dX3_fold_69 ?_
        refine m_ald3 hx hb I (ix_480 hq (by omega)) dX3_fold_70 (x := S0.2 3 (10 * q + i)) (by rw [nI_10 (q := q) (k := i) (by omega)] <;> rfl) ?_
        refine lv_istore (lv' := [(7, .int (S0.2 3 (10 * q + i))), (6, .int (nI i)), (5, .int v), (4, .int (nI q)), (0, .ref o), (1, .int h), (2, .int y), (3, .int x)]) hx hb dX3_fold_71 hl (by decide) rfl (fun ls hl => ?_)
        refine lv_iload_n hx hb dX3_fold_73 rfl (lv_at hl 5 rfl) ?_
        refine lv_iconst (v := 4) hx hb dX3_fold_74 (by decide) ?_
        refine lv_icmp_ne (tgt := 91) hx hb dX3_fold_75 (by decide) (fun c75 => ?_) (fun c75 => ?_)
        · refine lv_iload_n hx hb dX3_fold_91 rfl (lv_at hl 5 rfl) ?_
          refine lv_if_ne (tgt := 103) hx hb dX3_fold_92 (by decide) (fun c92 => ?_) (fun c92 => ?_)
          · refine lv_iload_n hx hb dX3_fold_103 rfl (lv_at hl 5 rfl) ?_
            refine lv_iconst (v := 1) hx hb dX3_fold_104 (by decide) ?_
            refine lv_icmp_ne (tgt := 125) hx hb dX3_fold_105 (by decide) (fun c105 => ?_) (fun c105 => ?_)
            · refine lv_iload_n hx hb dX3_fold_125 rfl (lv_at hl 5 rfl) ?_
              refine lv_iconst (v := 2) hx hb dX3_fold_126 (by decide) ?_
              refine lv_icmp_ne (tgt := 141) hx hb dX3_fold_127 (by decide) (fun c127 => ?_) (fun c127 => ?_)
              · refine lv_iload_n hx hb dX3_fold_141 rfl (lv_at hl 5 rfl) ?_
                refine lv_iconst (v := 3) hx hb dX3_fold_142 (by decide) ?_
                refine lv_icmp_ne (tgt := 154) hx hb dX3_fold_143 (by decide) (fun c143 => ?_) (fun c143 => ?_)
                · refine lv_iload hx hb dX3_fold_154 (lv_at hl 2 rfl) ?_
                  refine lv_iload hx hb dX3_fold_156 (lv_at hl 0 rfl) ?_
                  refine lv_idiv hx hb dX3_fold_158 (absurd hh (fold_no c92 c105 c127 c143 c75)) ?_
                  refine lv_istore (lv' := [(5, .int (v / (S0.2 3 (10 * q + i)))), (7, .int (S0.2 3 (10 * q + i))), (6, .int (nI i)), (4, .int (nI q)), (0, .ref o), (1, .int h), (2, .int y), (3, .int x)]) hx hb dX3_fold_159 hl (by decide) rfl (fun ls hl => ?_)
                  refine lv_iinc (v := (nI i) + 1) (lv' := [(6, .int ((nI i) + 1)), (5, .int (v / (S0.2 3 (10 * q + i)))), (7, .int (S0.2 3 (10 * q + i))), (4, .int (nI q)), (0, .ref o), (1, .int h), (2, .int y), (3, .int x)]) hx hb dX3_fold_161 hl (k := 2) rfl rfl (by decide) rfl (fun ls hl => ?_)
                  refine lv_goto (tgt := 46) hx hb dX3_fold_164 (by decide) ?_
                  have hl := lv_sub hl [0, 1, 3, 4, 5, 6, 7] rfl
                  rw [nI_1] at hl
                  refine ih q z (i + 1) rm (v / (S0.2 3 (10 * q + i))) hh (by omega) hq hz10 (by omega) hz ?_ H locs ls I hl
                  rw [hT]
                  conv => lhs; unfold l_fold
                  rw [if_neg (fun q => c75 q.1)]
                  congr 2
                  unfold f_fold1
                  simp (decide := true) [c75, c92, c105, c127, c143]
                · refine lv_iload hx hb dX3_fold_146 (lv_at hl 0 rfl) ?_
                  refine lv_iload hx hb dX3_fold_148 (lv_at hl 2 rfl) ?_
                  refine lv_isub hx hb dX3_fold_150 ?_
                  refine lv_goto (tgt := 159) hx hb dX3_fold_151 (by decide) ?_
                  refine lv_istore (lv' := [(5, .int ((S0.2 3 (10 * q + i)) - v)), (7, .int (S0.2 3 (10 * q + i))), (6, .int (nI i)), (4, .int (nI q)), (0, .ref o), (1, .int h), (2, .int y), (3, .int x)]) hx hb dX3_fold_159 hl (by decide) rfl (fun ls hl => ?_)
                  refine lv_iinc (v := (nI i) + 1) (lv' := [(6, .int ((nI i) + 1)), (5, .int ((S0.2 3 (10 * q + i)) - v)), (7, .int (S0.2 3 (10 * q + i))), (4, .int (nI q)), (0, .ref o), (1, .int h), (2, .int y), (3, .int x)]) hx hb dX3_fold_161 hl (k := 2) rfl rfl (by decide) rfl (fun ls hl => ?_)
                  refine lv_goto (tgt := 46) hx hb dX3_fold_164 (by decide) ?_
                  have hl := lv_sub hl [0, 1, 3, 4, 5, 6, 7] rfl
                  rw [nI_1] at hl
                  refine ih q z (i + 1) rm ((S0.2 3 (10 * q + i)) - v) hh (by omega) hq hz10 (by omega) hz ?_ H locs ls I hl
                  rw [hT]
                  conv => lhs; unfold l_fold
                  rw [if_neg (fun q => c75 q.1)]
                  congr 2
                  unfold f_fold1
                  simp (decide := true) [c75, c92, c105, c127, c143]
              · refine lv_bipush (v := 31) hx hb dX3_fold_130 (by decide) ?_
                refine lv_iload hx hb dX3_fold_132 (lv_at hl 2 rfl) ?_
                refine lv_imul hx hb dX3_fold_134 ?_
                refine lv_iload hx hb dX3_fold_135 (lv_at hl 0 rfl) ?_
                refine lv_iadd hx hb dX3_fold_137 ?_
                refine lv_goto (tgt := 159) hx hb dX3_fold_138 (by decide) ?_
                refine lv_istore (lv' := [(5, .int ((31 * v) + (S0.2 3 (10 * q + i)))), (7, .int (S0.2 3 (10 * q + i))), (6, .int (nI i)), (4, .int (nI q)), (0, .ref o), (1, .int h), (2, .int y), (3, .int x)]) hx hb dX3_fold_159 hl (by decide) rfl (fun ls hl => ?_)
                refine lv_iinc (v := (nI i) + 1) (lv' := [(6, .int ((nI i) + 1)), (5, .int ((31 * v) + (S0.2 3 (10 * q + i)))), (7, .int (S0.2 3 (10 * q + i))), (4, .int (nI q)), (0, .ref o), (1, .int h), (2, .int y), (3, .int x)]) hx hb dX3_fold_161 hl (k := 2) rfl rfl (by decide) rfl (fun ls hl => ?_)
                refine lv_goto (tgt := 46) hx hb dX3_fold_164 (by decide) ?_
                have hl := lv_sub hl [0, 1, 3, 4, 5, 6, 7] rfl
                rw [nI_1] at hl
                refine ih q z (i + 1) rm ((31 * v) + (S0.2 3 (10 * q + i))) hh (by omega) hq hz10 (by omega) hz ?_ H locs ls I hl
                rw [hT]
                conv => lhs; unfold l_fold
                rw [if_neg (fun q => c75 q.1)]
                congr 2
                unfold f_fold1
                simp (decide := true) [c75, c92, c105, c127]
            · refine lv_iload hx hb dX3_fold_108 (lv_at hl 2 rfl) ?_
              refine lv_iload hx hb dX3_fold_110 (lv_at hl 0 rfl) ?_
              refine lv_icmp_le (tgt := 120) hx hb dX3_fold_112 (by decide) (fun c112 => ?_) (fun c112 => ?_)
              · refine lv_iload hx hb dX3_fold_120 (lv_at hl 0 rfl) ?_
                refine lv_goto (tgt := 159) hx hb dX3_fold_122 (by decide) ?_
                refine lv_istore (lv' := [(5, .int (S0.2 3 (10 * q + i))), (7, .int (S0.2 3 (10 * q + i))), (6, .int (nI i)), (4, .int (nI q)), (0, .ref o), (1, .int h), (2, .int y), (3, .int x)]) hx hb dX3_fold_159 hl (by decide) rfl (fun ls hl => ?_)
                refine lv_iinc (v := (nI i) + 1) (lv' := [(6, .int ((nI i) + 1)), (5, .int (S0.2 3 (10 * q + i))), (7, .int (S0.2 3 (10 * q + i))), (4, .int (nI q)), (0, .ref o), (1, .int h), (2, .int y), (3, .int x)]) hx hb dX3_fold_161 hl (k := 2) rfl rfl (by decide) rfl (fun ls hl => ?_)
                refine lv_goto (tgt := 46) hx hb dX3_fold_164 (by decide) ?_
                have hl := lv_sub hl [0, 1, 3, 4, 5, 6, 7] rfl
                rw [nI_1] at hl
                refine ih q z (i + 1) rm (S0.2 3 (10 * q + i)) hh (by omega) hq hz10 (by omega) hz ?_ H locs ls I hl
                rw [hT]
                conv => lhs; unfold l_fold
                rw [if_neg (fun q => c75 q.1)]
                congr 2
                unfold f_fold1
                simp (decide := true) [c75, c92, c105, c112]
              · refine lv_iload hx hb dX3_fold_115 (lv_at hl 2 rfl) ?_
                refine lv_goto (tgt := 159) hx hb dX3_fold_117 (by decide) ?_
                refine lv_istore (lv' := [(5, .int v), (7, .int (S0.2 3 (10 * q + i))), (6, .int (nI i)), (4, .int (nI q)), (0, .ref o), (1, .int h), (2, .int y), (3, .int x)]) hx hb dX3_fold_159 hl (by decide) rfl (fun ls hl => ?_)
                refine lv_iinc (v := (nI i) + 1) (lv' := [(6, .int ((nI i) + 1)), (5, .int v), (7, .int (S0.2 3 (10 * q + i))), (4, .int (nI q)), (0, .ref o), (1, .int h), (2, .int y), (3, .int x)]) hx hb dX3_fold_161 hl (k := 2) rfl rfl (by decide) rfl (fun ls hl => ?_)
                refine lv_goto (tgt := 46) hx hb dX3_fold_164 (by decide) ?_
                have hl := lv_sub hl [0, 1, 3, 4, 5, 6, 7] rfl
                rw [nI_1] at hl
                refine ih q z (i + 1) rm v hh (by omega) hq hz10 (by omega) hz ?_ H locs ls I hl
                rw [hT]
                conv => lhs; unfold l_fold
                rw [if_neg (fun q => c75 q.1)]
                congr 2
                unfold f_fold1
                simp (decide := true) [c75, c92, c105, c112]
          · refine lv_iload hx hb dX3_fold_95 (lv_at hl 2 rfl) ?_
            refine lv_iload hx hb dX3_fold_97 (lv_at hl 0 rfl) ?_
            refine lv_iadd hx hb dX3_fold_99 ?_
            refine lv_goto (tgt := 159) hx hb dX3_fold_100 (by decide) ?_
            refine lv_istore (lv' := [(5, .int (v + (S0.2 3 (10 * q + i)))), (7, .int (S0.2 3 (10 * q + i))), (6, .int (nI i)), (4, .int (nI q)), (0, .ref o), (1, .int h), (2, .int y), (3, .int x)]) hx hb dX3_fold_159 hl (by decide) rfl (fun ls hl => ?_)
            refine lv_iinc (v := (nI i) + 1) (lv' := [(6, .int ((nI i) + 1)), (5, .int (v + (S0.2 3 (10 * q + i)))), (7, .int (S0.2 3 (10 * q + i))), (4, .int (nI q)), (0, .ref o), (1, .int h), (2, .int y), (3, .int x)]) hx hb dX3_fold_161 hl (k := 2) rfl rfl (by decide) rfl (fun ls hl => ?_)
            refine lv_goto (tgt := 46) hx hb dX3_fold_164 (by decide) ?_
            have hl := lv_sub hl [0, 1, 3, 4, 5, 6, 7] rfl
            rw [nI_1] at hl
            refine ih q z (i + 1) rm (v + (S0.2 3 (10 * q + i))) hh (by omega) hq hz10 (by omega) hz ?_ H locs ls I hl
            rw [hT]
            conv => lhs; unfold l_fold
            rw [if_neg (fun q => c75 q.1)]
            congr 2
            unfold f_fold1
            simp (decide := true) [c75, c92]
        · refine lv_iload hx hb dX3_fold_78 (lv_at hl 0 rfl) ?_
          refine lv_if_ne (tgt := 91) hx hb dX3_fold_80 (by decide) (fun c80 => ?_) (fun c80 => ?_)
          · refine lv_iload_n hx hb dX3_fold_91 rfl (lv_at hl 5 rfl) ?_
            refine lv_if_ne (tgt := 103) hx hb dX3_fold_92 (by decide) (fun _ => ?_) (fun h => absurd (c75.symm.trans h) (by decide))
            refine lv_iload_n hx hb dX3_fold_103 rfl (lv_at hl 5 rfl) ?_
            refine lv_iconst (v := 1) hx hb dX3_fold_104 (by decide) ?_
            refine lv_icmp_ne (tgt := 125) hx hb dX3_fold_105 (by decide) (fun _ => ?_) (fun h => absurd (c75.symm.trans h) (by decide))
            refine lv_iload_n hx hb dX3_fold_125 rfl (lv_at hl 5 rfl) ?_
            refine lv_iconst (v := 2) hx hb dX3_fold_126 (by decide) ?_
            refine lv_icmp_ne (tgt := 141) hx hb dX3_fold_127 (by decide) (fun _ => ?_) (fun h => absurd (c75.symm.trans h) (by decide))
            refine lv_iload_n hx hb dX3_fold_141 rfl (lv_at hl 5 rfl) ?_
            refine lv_iconst (v := 3) hx hb dX3_fold_142 (by decide) ?_
            refine lv_icmp_ne (tgt := 154) hx hb dX3_fold_143 (by decide) (fun _ => ?_) (fun h => absurd (c75.symm.trans h) (by decide))
            refine lv_iload hx hb dX3_fold_154 (lv_at hl 2 rfl) ?_
            refine lv_iload hx hb dX3_fold_156 (lv_at hl 0 rfl) ?_
            refine lv_idiv hx hb dX3_fold_158 (fun z0 => c80 z0) ?_
            refine lv_istore (lv' := [(5, .int (v / (S0.2 3 (10 * q + i)))), (7, .int (S0.2 3 (10 * q + i))), (6, .int (nI i)), (4, .int (nI q)), (0, .ref o), (1, .int h), (2, .int y), (3, .int x)]) hx hb dX3_fold_159 hl (by decide) rfl (fun ls hl => ?_)
            refine lv_iinc (v := (nI i) + 1) (lv' := [(6, .int ((nI i) + 1)), (5, .int (v / (S0.2 3 (10 * q + i)))), (7, .int (S0.2 3 (10 * q + i))), (4, .int (nI q)), (0, .ref o), (1, .int h), (2, .int y), (3, .int x)]) hx hb dX3_fold_161 hl (k := 2) rfl rfl (by decide) rfl (fun ls hl => ?_)
            refine lv_goto (tgt := 46) hx hb dX3_fold_164 (by decide) ?_
            have hl := lv_sub hl [0, 1, 3, 4, 5, 6, 7] rfl
            rw [nI_1] at hl
            refine ih q z (i + 1) rm (v / (S0.2 3 (10 * q + i))) hh (by omega) hq hz10 (by omega) hz ?_ H locs ls I hl
            rw [hT]
            conv => lhs; unfold l_fold
            rw [if_neg (fun q => c80 q.2)]
            congr 2
            unfold f_fold1
            simp (decide := true) [c75, c80]
          · refine lv_aload_n hx hb dX3_fold_83 rfl (lv_at hl 4 rfl) ?_
            refine lv_iconst (v := 1) hx hb dX3_fold_84 (by decide) ?_
            refine lv_iconst (v := (-1)) hx hb dX3_fold_85 (by decide) ?_
            refine lv_iconst (v := 0) hx hb dX3_fold_86 (by decide) ?_
            refine m_calli (rest := []) ⟨hx, hb, hml, hown, hts⟩ (c_X3_failed l D o ad cA S0 1 (-1) 0) (cwV 3 hts gX3_fold_X3_failed rfl rfl rfl (by decide +kernel) ⟨Nat.le_of_ble_eq_true rfl, Nat.le_of_ble_eq_true rfl⟩) I rfl hl.1 rfl (Nat.le_of_ble_eq_true rfl) dX3_fold_87 ⟨Nat.le_refl _, Nat.le_refl _⟩ (fun r87 S87 H locs p87 I => ?_)
            refine m_iret hx hb hr hlocks I dX3_fold_90 ?_
            rw [hT]
            unfold l_fold
            rw [if_pos ⟨c75, c80⟩]
            exact p87
  refine lv_iload_n hx hb dX3_fold_0 rfl (lv_at hl 1 rfl) ?_
  refine lv_iconst (v := 0) hx hb dX3_fold_1 (by decide) ?_
  refine lv_iconst (v := 4) hx hb dX3_fold_2 (by decide) ?_
  refine m_in ⟨hx, hb, hml, hown, hts⟩ gX3_fold_X3_in ⟨Nat.le_of_ble_eq_true rfl, Nat.le_of_ble_eq_true rfl⟩ ⟨Nat.le_refl _, Nat.le_refl _⟩ hl.1 (Nat.le_of_ble_eq_true rfl) dX3_fold_3 (fun h3 => ?_) (fun h3 => ?_)
  · refine lv_if_eq (tgt := 18) hx hb dX3_fold_6 (by decide) (fun h => absurd h (by decide)) (fun _ => ?_)
    refine lv_iload_n hx hb dX3_fold_9 rfl (lv_at hl 2 rfl) ?_
    refine lv_iconst (v := 0) hx hb dX3_fold_10 (by decide) ?_
    refine lv_iconst (v := 3) hx hb dX3_fold_11 (by decide) ?_
    refine m_in ⟨hx, hb, hml, hown, hts⟩ gX3_fold_X3_in ⟨Nat.le_of_ble_eq_true rfl, Nat.le_of_ble_eq_true rfl⟩ ⟨Nat.le_refl _, Nat.le_refl _⟩ hl.1 (Nat.le_of_ble_eq_true rfl) dX3_fold_12 (fun h12 => ?_) (fun h12 => ?_)
    · refine lv_if_ne (tgt := 20) hx hb dX3_fold_15 (by decide) (fun _ => ?_) (fun h => absurd h (by decide))
      refine lv_aload_n hx hb dX3_fold_20 rfl (lv_at hl 0 rfl) ?_
      refine m_get1 hx hb hts hin hown I L13 dX3_fold_21 ?_
      refine lv_iload_n hx hb dX3_fold_24 rfl (lv_at hl 2 rfl) ?_
      refine m_ald1 hx hb I (ix_of h12 (by decide) (by decide)) dX3_fold_25 (x := S0.2 1 y.toNatClampNeg) rfl ?_
      refine lv_if_ge (tgt := 32) hx hb dX3_fold_26 (by decide) (fun c26 => ?_) (fun c26 => ?_)
      · refine lv_aload_n hx hb dX3_fold_32 rfl (lv_at hl 0 rfl) ?_
        refine m_get1 hx hb hts hin hown I L13 dX3_fold_33 ?_
        refine lv_iload_n hx hb dX3_fold_36 rfl (lv_at hl 2 rfl) ?_
        refine m_ald1 hx hb I (ix_of h12 (by decide) (by decide)) dX3_fold_37 (x := S0.2 1 y.toNatClampNeg) rfl ?_
        refine lv_istore (lv' := [(4, .int (S0.2 1 y.toNatClampNeg)), (0, .ref o), (1, .int h), (2, .int y), (3, .int x)]) hx hb dX3_fold_38 hl (by decide) rfl (fun ls hl => ?_)
        refine lv_iload_n hx hb dX3_fold_40 rfl (lv_at hl 4 rfl) ?_
        refine lv_istore (lv' := [(5, .int x), (4, .int (S0.2 1 y.toNatClampNeg)), (0, .ref o), (1, .int h), (2, .int y), (3, .int x)]) hx hb dX3_fold_41 hl (by decide) rfl (fun ls hl => ?_)
        refine lv_iconst (v := 0) hx hb dX3_fold_43 (by decide) ?_
        refine lv_istore (lv' := [(6, .int 0), (5, .int x), (4, .int (S0.2 1 y.toNatClampNeg)), (0, .ref o), (1, .int h), (2, .int y), (3, .int x)]) hx hb dX3_fold_44 hl (by decide) rfl (fun ls hl => ?_)
        obtain ⟨q, hq, eq⟩ : ∃ q, q < 48 ∧ S0.2 1 y.toNatClampNeg = nI q := by rcases hN.2.2.2.1 _ (ix_nI (ix_of h12 (by decide) (by decide)) (by decide)).2 with h | h; exact absurd c26 (by rw [h]; decide); exact h
        obtain ⟨z, hz10, hz⟩ := hN.2.2.2.2 q hq
        have hl := lv_sub hl [0, 1, 2, 3, 4, 5, 6] rfl
        rw [eq] at hl
        refine LF (z + 1) q z 0 z x h3 (by omega) hq hz10 (by omega) hz ?_ _ _ ls I hl
        unfold a_fold
        rw [if_pos ⟨h3, h12⟩, if_pos c26, eq, nI_clamp (show q < 2 ^ 31 by omega), hz, nI_clamp (show z < 2 ^ 31 by omega)]
      · refine lv_bipush (v := (-13)) hx hb dX3_fold_29 (by decide) ?_
        exact m_iret hx hb hr hlocks I dX3_fold_31 (by unfold a_fold; rw [if_pos ⟨h3, h12⟩, if_neg c26])
    · refine lv_if_ne (tgt := 20) hx hb dX3_fold_15 (by decide) (fun h => absurd h (by decide)) (fun _ => ?_)
      refine lv_iconst (v := (-1)) hx hb dX3_fold_18 (by decide) ?_
      exact m_iret hx hb hr hlocks I dX3_fold_19 (by unfold a_fold; rw [if_neg (fun q => h12 q.2)])
  · refine lv_if_eq (tgt := 18) hx hb dX3_fold_6 (by decide) (fun _ => ?_) (fun h => absurd h (by decide))
    refine lv_iconst (v := (-1)) hx hb dX3_fold_18 (by decide) ?_
    exact m_iret hx hb hr hlocks I dX3_fold_19 (by unfold a_fold; rw [if_neg (fun q => h3 q.1)])

def l_until (r u : Int32) : Nat → Nat → Int32 → tr_S → Nat × Int32 × tr_S
  | 0, n, v, S => (n, v, S)
  | k + 1, n, v, S => if (ev 40 r v S).2.1 16 = 0 then (if (ev 40 u (ev 40 r v S).1 (ev 40 r v S).2).2.1 16 = 0 ∧ ¬ (ev 40 u (ev 40 r v S).1 (ev 40 r v S).2).1 = 0 then l_until r u k (n + 1) (ev 40 r v S).1 (ev 40 u (ev 40 r v S).1 (ev 40 r v S).2).2 else (n + 1, (ev 40 r v S).1, (ev 40 u (ev 40 r v S).1 (ev 40 r v S).2).2)) else (n, v, (ev 40 r v S).2)
def f_untilEnd (a : Nat × Int32 × tr_S) : Int32 × tr_S := f_ends (nI a.1) (if a.2.2.1 16 = 0 then sF a.2.2 25 a.2.1 else a.2.2)
def a_until (r u x k : Int32) (S : tr_S) : Int32 × tr_S := if (0 ≤ r ∧ r ≤ S.1 4 - 1) ∧ (0 ≤ u ∧ u ≤ S.1 4 - 1) ∧ (1 ≤ k ∧ k ≤ 30) then f_untilEnd (l_until r u k.toNatClampNeg 0 x (e_start S)) else (-1, S)
theorem f_untilEnd_eq {S T : tr_S} (h : e_eq S T) (n : Nat) (v : Int32) : e_R (f_untilEnd (n, v, S)) (f_untilEnd (n, v, T)) := by
  unfold f_untilEnd
  show e_R (f_ends (nI n) (if S.1 16 = 0 then sF S 25 v else S)) (f_ends (nI n) (if T.1 16 = 0 then sF T 25 v else T))
  rw [h.1 16 (by decide) (by decide)]
  exact f_ends_eq (ite_R (R := e_eq) (e_eq_F h 25 rfl) h) _
set_option maxHeartbeats 4000000 in
set_option maxRecDepth 100000 in
theorem c_X3_until (l : Launch) (D : va_G) (o : Nat) (ad : Nat → Nat) (cA : ClassId) (S0 : tr_S) (r u x k : Int32) (N : Nat) (hN : wf S0 N) : m_Mi l yX3_until wsX3_until { frames := 4, cells := 0, slots := 0, locals := 97 } [.int r, .int u, .int x, .int k] D o ad cA S0 (fun v S => e_R (a_until r u x k S0) (v, S)) := by
  refine Met.ofW (cc := cX3_until) (maxL := 8) (ret := (some .int)) (by decide) rfl ?_
  intro p e s m args below meth c s₁ B hml hv
  obtain ⟨rfl, hB⟩ := hv
  have hx := B.exec
  have hb := B.bytes
  have hr := B.returns
  have hts := atoms_spec (ws := wsX3_until) B.pre
  have hown : s.vm.findClass RX3 = some m.cls := findClass_of_methodNamed B.named
  have hlocks := B.notSynchronized
  have I := m_I.of hB
  have hin : ∀ w ∈ wsX30, w ∈ wsX3_until := fun _ h => List.mem_cons_of_mem _ (List.mem_append_right _ h)
  have L95 := hts (.fieldLink RX3 95 "TollRulesModel" "failure" "I") (by decide +kernel)
  have L109 := hts (.fieldLink RX3 109 "TollRulesModel" "handed" "I") (by decide +kernel)
  have L152 := hts (.fieldLink RX3 152 "TollRulesModel" "result" "I") (by decide +kernel)
  have hl := lv_entry ([.ref o, .int r, .int u, .int x, .int k]) (n := 8) (Nat.le_of_ble_eq_true rfl)
  rw [lg_entry_eq]
  generalize (lg_sl ([.ref o, .int r, .int u, .int x, .int k]) ++ List.replicate (8 - (lg_sl ([.ref o, .int r, .int u, .int x, .int k])).length) Slot.unset).toArray = ls at hl ⊢
  have hl : lv_has ls 8 [(0, .ref o), (1, .int r), (2, .int u), (3, .int x), (4, .int k)] := hl
  by_cases hg : (0 ≤ r ∧ r ≤ S0.1 4 - 1) ∧ (0 ≤ u ∧ u ≤ S0.1 4 - 1) ∧ (1 ≤ k ∧ k ≤ 30)
  · have hr2 := rule_of hN hg.1
    have hu2 := rule_of hN hg.2.1
    obtain ⟨M, hM30, hk⟩ : ∃ M : Nat, M ≤ 30 ∧ k = nI M := nI_of2 (M := 30) rfl (Int32.not_lt.mpr (Int32.le_trans (by decide) hg.2.2.1)) hg.2.2.2
    have LU : ∀ (d n rem : Nat) (v : Int32) (SA S : tr_S), rem < d → n + rem = M → e_go SA N → e_eq SA S → a_until r u x k S0 = f_untilEnd (l_until r u rem n v SA) → ∀ (H : Heap) (locs : List Loc) (ls : Array Slot), m_I D o ad cA S s s.heap H locs → lv_has ls 8 [(7, .int 1), (6, .int (nI n)), (5, .int v), (0, .ref o), (1, .int r), (2, .int u), (3, .int x), (4, .int k)] → W p l e (headSpec wsX3_until { frames := 4, cells := 0, slots := 0, locals := 97 }).room s m (([.ref o, .int r, .int u, .int x, .int k] : List Value).toArray) below meth c H locs 0 0 (MQ below (va_Qi (fun v S => e_R (a_until r u x k S0) (v, S)) (m_B D o ad cA) (m_A o ad)) (([.ref o, .int r, .int u, .int x, .int k] : List Value).toArray) s 0 0 (m_A o ad)) (F0 m 42 ls []) := by
      intro d
      induction d with
      | zero => intro n rem v _ _ hd; omega
      | succ d ih =>
        intro n rem v SA S hd hnm g hS hT H locs ls I hl
        have g2 := g.eq hS
        refine lv_iload hx hb dX3_until_42 (lv_at hl 0 rfl) ?_
        refine lv_if_eq (tgt := 104) hx hb dX3_until_44 (by decide) (fun h => absurd h (by decide)) (fun _ => ?_)
        refine lv_iload hx hb dX3_until_47 (lv_at hl 1 rfl) ?_
        refine lv_iload hx hb dX3_until_49 (lv_at hl 7 rfl) ?_
        refine lv_icmp_ge (tgt := 104) hx hb dX3_until_51 (by decide) (fun c51 => ?_) (fun c51 => ?_)
        · refine lv_aload_n hx hb dX3_until_104 rfl (lv_at hl 3 rfl) ?_
          refine m_get16 hx hb hts hin hown I L95 dX3_until_105 (x := S.1 16) rfl ?_
          refine lv_if_ne (tgt := 117) hx hb dX3_until_108 (by decide) (fun c108 => ?_) (fun c108 => ?_)
          · refine lv_aload_n hx hb dX3_until_117 rfl (lv_at hl 3 rfl) ?_
            refine lv_iload hx hb dX3_until_118 (lv_at hl 1 rfl) ?_
            refine m_calli (rest := []) ⟨hx, hb, hml, hown, hts⟩ (c_X3_ends l D o ad cA S (nI n)) (cwV 1 hts gX3_until_X3_ends rfl rfl rfl (by decide +kernel) ⟨Nat.le_of_ble_eq_true rfl, Nat.le_of_ble_eq_true rfl⟩) I rfl hl.1 rfl (Nat.le_of_ble_eq_true rfl) dX3_until_120 ⟨Nat.le_refl _, Nat.le_refl _⟩ (fun r120 S120 H locs p120 I => ?_)
            have hn : M ≤ n := nI_lb (by omega) (by omega) (by rw [← hk]; exact c51)
            obtain rfl : rem = 0 := by omega
            have eL : l_until r u 0 n v SA = (n, v, SA) := rfl
            have eS := hS
            refine m_iret hx hb hr hlocks I dX3_until_123 ?_
            rw [hT, eL]
            have eF := f_untilEnd_eq eS n v
            rw [show f_untilEnd (n, v, S) = f_ends (nI (n)) S by unfold f_untilEnd; exact congrArg (f_ends _) (if_neg c108)] at eF
            rw [p120]
            exact eF
          · refine lv_aload_n hx hb dX3_until_111 rfl (lv_at hl 3 rfl) ?_
            refine lv_iload hx hb dX3_until_112 (lv_at hl 2 rfl) ?_
            refine m_put25 hx hb hts hin hown I L152 dX3_until_114 (fun H locs I => ?_)
            refine lv_aload_n hx hb dX3_until_117 rfl (lv_at hl 3 rfl) ?_
            refine lv_iload hx hb dX3_until_118 (lv_at hl 1 rfl) ?_
            refine m_calli (rest := []) ⟨hx, hb, hml, hown, hts⟩ (c_X3_ends l D o ad cA (sF S 25 v) (nI n)) (cwV 1 hts gX3_until_X3_ends rfl rfl rfl (by decide +kernel) ⟨Nat.le_of_ble_eq_true rfl, Nat.le_of_ble_eq_true rfl⟩) I rfl hl.1 rfl (Nat.le_of_ble_eq_true rfl) dX3_until_120 ⟨Nat.le_refl _, Nat.le_refl _⟩ (fun r120 S120 H locs p120 I => ?_)
            have hn : M ≤ n := nI_lb (by omega) (by omega) (by rw [← hk]; exact c51)
            obtain rfl : rem = 0 := by omega
            have eL : l_until r u 0 n v SA = (n, v, SA) := rfl
            have eS := hS
            refine m_iret hx hb hr hlocks I dX3_until_123 ?_
            rw [hT, eL]
            have eF := f_untilEnd_eq eS n v
            rw [show f_untilEnd (n, v, S) = f_ends (nI (n)) (sF S 25 v) by unfold f_untilEnd; exact congrArg (f_ends _) (if_pos c108)] at eF
            rw [p120]
            exact eF
        · have hn : n < M := nI_ub (by omega) (by omega) (by rw [← hk]; exact c51)
          obtain ⟨rm, rfl⟩ : ∃ k, rem = k + 1 := ⟨rem - 1, by omega⟩
          have hv := ev_eq 40 r v hS
          refine lv_aload_n hx hb dX3_until_54 rfl (lv_at hl 3 rfl) ?_
          refine lv_iload_n hx hb dX3_until_55 rfl (lv_at hl 4 rfl) ?_
          refine lv_iload hx hb dX3_until_56 (lv_at hl 2 rfl) ?_
          refine m_gives g2.1 hr2 g2.2.2 g2.2.1 ⟨hx, hb, hml, hown, hts⟩ gX3_until_X3_gives ⟨Nat.le_of_ble_eq_true rfl, Nat.le_of_ble_eq_true rfl⟩ ⟨Nat.le_refl _, Nat.le_refl _⟩ I hl.1 (Nat.le_of_ble_eq_true rfl) dX3_until_58 (fun h58 S58 H locs v58 e58 i58 I => ?_) (fun h58 S58 H locs e58 i58 I => ?_)
          · refine lv_istore (lv' := [(7, .int 1), (6, .int (nI n)), (5, .int v), (0, .ref o), (1, .int r), (2, .int u), (3, .int x), (4, .int k)]) hx hb dX3_until_61 hl (by decide) rfl (fun ls hl => ?_)
            have h58 : (ev 40 r v SA).2.1 16 = 0 := (hv.2.1 16 (by decide) (by decide)).symm.trans h58
            have e58 := hv.2.tr e58
            have v58 := v58.trans hv.1
            have g3 := (g.ev 40 r v h58).eq e58
            have hw := ev_eq 40 u (S58.1 26) e58
            rw [v58] at hw
            refine lv_iload hx hb dX3_until_63 (lv_at hl 0 rfl) ?_
            refine lv_if_eq (tgt := 42) hx hb dX3_until_65 (by decide) (fun h => absurd h (by decide)) (fun _ => ?_)
            refine lv_aload_n hx hb dX3_until_68 rfl (lv_at hl 3 rfl) ?_
            refine m_get26 hx hb hts hin hown I L109 dX3_until_69 (x := S58.1 26) rfl ?_
            refine lv_istore (lv' := [(5, .int (S58.1 26)), (7, .int 1), (6, .int (nI n)), (0, .ref o), (1, .int r), (2, .int u), (3, .int x), (4, .int k)]) hx hb dX3_until_72 hl (by decide) rfl (fun ls hl => ?_)
            refine lv_iinc (v := (nI n) + 1) (lv' := [(6, .int ((nI n) + 1)), (5, .int (S58.1 26)), (7, .int 1), (0, .ref o), (1, .int r), (2, .int u), (3, .int x), (4, .int k)]) hx hb dX3_until_74 hl (k := 2) rfl rfl (by decide) rfl (fun ls hl => ?_)
            refine lv_aload_n hx hb dX3_until_77 rfl (lv_at hl 3 rfl) ?_
            refine lv_iload_n hx hb dX3_until_78 rfl (lv_at hl 5 rfl) ?_
            refine lv_iload hx hb dX3_until_79 (lv_at hl 1 rfl) ?_
            refine m_gives g3.1 hu2 g3.2.2 g3.2.1 ⟨hx, hb, hml, hown, hts⟩ gX3_until_X3_gives ⟨Nat.le_of_ble_eq_true rfl, Nat.le_of_ble_eq_true rfl⟩ ⟨Nat.le_refl _, Nat.le_refl _⟩ I hl.1 (Nat.le_of_ble_eq_true rfl) dX3_until_81 (fun h81 S81 H locs v81 e81 i81 I => ?_) (fun h81 S81 H locs e81 i81 I => ?_)
            · refine lv_if_eq (tgt := 98) hx hb dX3_until_84 (by decide) (fun h => absurd h (by decide)) (fun _ => ?_)
              refine lv_aload_n hx hb dX3_until_87 rfl (lv_at hl 3 rfl) ?_
              refine m_get26 hx hb hts hin hown I L109 dX3_until_88 (x := S81.1 26) rfl ?_
              refine lv_if_eq (tgt := 98) hx hb dX3_until_91 (by decide) (fun c91 => ?_) (fun c91 => ?_)
              · refine lv_iconst (v := 0) hx hb dX3_until_98 (by decide) ?_
                refine lv_istore (lv' := [(7, .int 0), (6, .int ((nI n) + 1)), (5, .int (S58.1 26)), (0, .ref o), (1, .int r), (2, .int u), (3, .int x), (4, .int k)]) hx hb dX3_until_99 hl (by decide) rfl (fun ls hl => ?_)
                refine lv_goto (tgt := 42) hx hb dX3_until_101 (by decide) ?_
                refine lv_iload hx hb dX3_until_42 (lv_at hl 0 rfl) ?_
                refine lv_if_eq (tgt := 104) hx hb dX3_until_44 (by decide) (fun _ => ?_) (fun h => absurd h (by decide))
                rw [v58] at hl
                refine lv_aload_n hx hb dX3_until_104 rfl (lv_at hl 3 rfl) ?_
                refine m_get16 hx hb hts hin hown I L95 dX3_until_105 (x := S81.1 16) rfl ?_
                refine lv_if_ne (tgt := 117) hx hb dX3_until_108 (by decide) (fun c108 => ?_) (fun c108 => ?_)
                · refine lv_aload_n hx hb dX3_until_117 rfl (lv_at hl 3 rfl) ?_
                  refine lv_iload hx hb dX3_until_118 (lv_at hl 1 rfl) ?_
                  refine m_calli (rest := []) ⟨hx, hb, hml, hown, hts⟩ (c_X3_ends l D o ad cA S81 ((nI n) + 1)) (cwV 1 hts gX3_until_X3_ends rfl rfl rfl (by decide +kernel) ⟨Nat.le_of_ble_eq_true rfl, Nat.le_of_ble_eq_true rfl⟩) I rfl hl.1 rfl (Nat.le_of_ble_eq_true rfl) dX3_until_120 ⟨Nat.le_refl _, Nat.le_refl _⟩ (fun r120 S120 H locs p120 I => ?_)
                  rw [v58] at h81 v81 e81
                  have h81 : (ev 40 u (ev 40 r v SA).1 (ev 40 r v SA).2).2.1 16 = 0 := (hw.2.1 16 (by decide) (by decide)).symm.trans h81
                  have eL : l_until r u (rm + 1) n v SA = (n + 1, (ev 40 r v SA).1, (ev 40 u (ev 40 r v SA).1 (ev 40 r v SA).2).2) := by unfold l_until; rw [if_pos h58, if_neg (fun q => q.2 (by rw [← hw.1, ← v81]; exact c91))]
                  have eS := hw.2.tr e81
                  rw [nI_1] at p120
                  refine m_iret hx hb hr hlocks I dX3_until_123 ?_
                  rw [hT, eL]
                  have eF := f_untilEnd_eq eS (n + 1) ((ev 40 r v SA).1)
                  rw [show f_untilEnd (n + 1, (ev 40 r v SA).1, S81) = f_ends (nI (n + 1)) S81 by unfold f_untilEnd; exact congrArg (f_ends _) (if_neg c108)] at eF
                  rw [p120]
                  exact eF
                · refine lv_aload_n hx hb dX3_until_111 rfl (lv_at hl 3 rfl) ?_
                  refine lv_iload hx hb dX3_until_112 (lv_at hl 2 rfl) ?_
                  refine m_put25 hx hb hts hin hown I L152 dX3_until_114 (fun H locs I => ?_)
                  refine lv_aload_n hx hb dX3_until_117 rfl (lv_at hl 3 rfl) ?_
                  refine lv_iload hx hb dX3_until_118 (lv_at hl 1 rfl) ?_
                  refine m_calli (rest := []) ⟨hx, hb, hml, hown, hts⟩ (c_X3_ends l D o ad cA (sF S81 25 ((ev 40 r v SA).1)) ((nI n) + 1)) (cwV 1 hts gX3_until_X3_ends rfl rfl rfl (by decide +kernel) ⟨Nat.le_of_ble_eq_true rfl, Nat.le_of_ble_eq_true rfl⟩) I rfl hl.1 rfl (Nat.le_of_ble_eq_true rfl) dX3_until_120 ⟨Nat.le_refl _, Nat.le_refl _⟩ (fun r120 S120 H locs p120 I => ?_)
                  rw [v58] at h81 v81 e81
                  have h81 : (ev 40 u (ev 40 r v SA).1 (ev 40 r v SA).2).2.1 16 = 0 := (hw.2.1 16 (by decide) (by decide)).symm.trans h81
                  have eL : l_until r u (rm + 1) n v SA = (n + 1, (ev 40 r v SA).1, (ev 40 u (ev 40 r v SA).1 (ev 40 r v SA).2).2) := by unfold l_until; rw [if_pos h58, if_neg (fun q => q.2 (by rw [← hw.1, ← v81]; exact c91))]
                  have eS := hw.2.tr e81
                  rw [nI_1] at p120
                  refine m_iret hx hb hr hlocks I dX3_until_123 ?_
                  rw [hT, eL]
                  have eF := f_untilEnd_eq eS (n + 1) ((ev 40 r v SA).1)
                  rw [show f_untilEnd (n + 1, (ev 40 r v SA).1, S81) = f_ends (nI (n + 1)) (sF S81 25 ((ev 40 r v SA).1)) by unfold f_untilEnd; exact congrArg (f_ends _) (if_pos c108)] at eF
                  rw [p120]
                  exact eF
              · refine lv_iconst (v := 1) hx hb dX3_until_94 (by decide) ?_
                refine lv_goto (tgt := 99) hx hb dX3_until_95 (by decide) ?_
                refine lv_istore (lv' := [(7, .int 1), (6, .int ((nI n) + 1)), (5, .int (S58.1 26)), (0, .ref o), (1, .int r), (2, .int u), (3, .int x), (4, .int k)]) hx hb dX3_until_99 hl (by decide) rfl (fun ls hl => ?_)
                refine lv_goto (tgt := 42) hx hb dX3_until_101 (by decide) ?_
                rw [v58] at h81 v81 e81
                have h81 : (ev 40 u (ev 40 r v SA).1 (ev 40 r v SA).2).2.1 16 = 0 := (hw.2.1 16 (by decide) (by decide)).symm.trans h81
                have hl := lv_sub hl [0, 1, 2, 3, 4, 5, 6, 7] rfl
                rw [nI_1, v58] at hl
                refine ih (n + 1) rm (ev 40 r v SA).1 (ev 40 u (ev 40 r v SA).1 (ev 40 r v SA).2).2 _ (by omega) (by omega) ((g.ev 40 r v h58).ev 40 u _ h81) (hw.2.tr e81) ?_ H locs ls I hl
                rw [hT]
                conv => lhs; unfold l_until
                rw [if_pos h58, if_pos ⟨h81, fun q => c91 (by rw [v81, hw.1]; exact q)⟩]
            · refine lv_if_eq (tgt := 98) hx hb dX3_until_84 (by decide) (fun _ => ?_) (fun h => absurd h (by decide))
              refine lv_iconst (v := 0) hx hb dX3_until_98 (by decide) ?_
              refine lv_istore (lv' := [(7, .int 0), (6, .int ((nI n) + 1)), (5, .int (S58.1 26)), (0, .ref o), (1, .int r), (2, .int u), (3, .int x), (4, .int k)]) hx hb dX3_until_99 hl (by decide) rfl (fun ls hl => ?_)
              refine lv_goto (tgt := 42) hx hb dX3_until_101 (by decide) ?_
              refine lv_iload hx hb dX3_until_42 (lv_at hl 0 rfl) ?_
              refine lv_if_eq (tgt := 104) hx hb dX3_until_44 (by decide) (fun _ => ?_) (fun h => absurd h (by decide))
              rw [v58] at hl
              refine lv_aload_n hx hb dX3_until_104 rfl (lv_at hl 3 rfl) ?_
              refine m_get16 hx hb hts hin hown I L95 dX3_until_105 (x := S81.1 16) rfl ?_
              refine lv_if_ne (tgt := 117) hx hb dX3_until_108 (by decide) (fun c108 => ?_) (fun c108 => ?_)
              · refine lv_aload_n hx hb dX3_until_117 rfl (lv_at hl 3 rfl) ?_
                refine lv_iload hx hb dX3_until_118 (lv_at hl 1 rfl) ?_
                refine m_calli (rest := []) ⟨hx, hb, hml, hown, hts⟩ (c_X3_ends l D o ad cA S81 ((nI n) + 1)) (cwV 1 hts gX3_until_X3_ends rfl rfl rfl (by decide +kernel) ⟨Nat.le_of_ble_eq_true rfl, Nat.le_of_ble_eq_true rfl⟩) I rfl hl.1 rfl (Nat.le_of_ble_eq_true rfl) dX3_until_120 ⟨Nat.le_refl _, Nat.le_refl _⟩ (fun r120 S120 H locs p120 I => ?_)
                rw [v58] at h81 e81
                have h81 : ¬ (ev 40 u (ev 40 r v SA).1 (ev 40 r v SA).2).2.1 16 = 0 := fun q => h81 ((hw.2.1 16 (by decide) (by decide)).trans q)
                have eL : l_until r u (rm + 1) n v SA = (n + 1, (ev 40 r v SA).1, (ev 40 u (ev 40 r v SA).1 (ev 40 r v SA).2).2) := by unfold l_until; rw [if_pos h58, if_neg (fun q => h81 q.1)]
                have eS := hw.2.tr e81
                rw [nI_1] at p120
                refine m_iret hx hb hr hlocks I dX3_until_123 ?_
                rw [hT, eL]
                have eF := f_untilEnd_eq eS (n + 1) ((ev 40 r v SA).1)
                rw [show f_untilEnd (n + 1, (ev 40 r v SA).1, S81) = f_ends (nI (n + 1)) S81 by unfold f_untilEnd; exact congrArg (f_ends _) (if_neg c108)] at eF
                rw [p120]
                exact eF
              · refine lv_aload_n hx hb dX3_until_111 rfl (lv_at hl 3 rfl) ?_
                refine lv_iload hx hb dX3_until_112 (lv_at hl 2 rfl) ?_
                refine m_put25 hx hb hts hin hown I L152 dX3_until_114 (fun H locs I => ?_)
                refine lv_aload_n hx hb dX3_until_117 rfl (lv_at hl 3 rfl) ?_
                refine lv_iload hx hb dX3_until_118 (lv_at hl 1 rfl) ?_
                refine m_calli (rest := []) ⟨hx, hb, hml, hown, hts⟩ (c_X3_ends l D o ad cA (sF S81 25 ((ev 40 r v SA).1)) ((nI n) + 1)) (cwV 1 hts gX3_until_X3_ends rfl rfl rfl (by decide +kernel) ⟨Nat.le_of_ble_eq_true rfl, Nat.le_of_ble_eq_true rfl⟩) I rfl hl.1 rfl (Nat.le_of_ble_eq_true rfl) dX3_until_120 ⟨Nat.le_refl _, Nat.le_refl _⟩ (fun r120 S120 H locs p120 I => ?_)
                rw [v58] at h81 e81
                have h81 : ¬ (ev 40 u (ev 40 r v SA).1 (ev 40 r v SA).2).2.1 16 = 0 := fun q => h81 ((hw.2.1 16 (by decide) (by decide)).trans q)
                have eL : l_until r u (rm + 1) n v SA = (n + 1, (ev 40 r v SA).1, (ev 40 u (ev 40 r v SA).1 (ev 40 r v SA).2).2) := by unfold l_until; rw [if_pos h58, if_neg (fun q => h81 q.1)]
                have eS := hw.2.tr e81
                rw [nI_1] at p120
                refine m_iret hx hb hr hlocks I dX3_until_123 ?_
                rw [hT, eL]
                have eF := f_untilEnd_eq eS (n + 1) ((ev 40 r v SA).1)
                rw [show f_untilEnd (n + 1, (ev 40 r v SA).1, S81) = f_ends (nI (n + 1)) (sF S81 25 ((ev 40 r v SA).1)) by unfold f_untilEnd; exact congrArg (f_ends _) (if_pos c108)] at eF
                rw [p120]
                exact eF
          · refine lv_istore (lv' := [(7, .int 0), (6, .int (nI n)), (5, .int v), (0, .ref o), (1, .int r), (2, .int u), (3, .int x), (4, .int k)]) hx hb dX3_until_61 hl (by decide) rfl (fun ls hl => ?_)
            have h58 : ¬ (ev 40 r v SA).2.1 16 = 0 := fun q => h58 ((hv.2.1 16 (by decide) (by decide)).trans q)
            have e58 := hv.2.tr e58
            refine lv_iload hx hb dX3_until_63 (lv_at hl 0 rfl) ?_
            refine lv_if_eq (tgt := 42) hx hb dX3_until_65 (by decide) (fun _ => ?_) (fun h => absurd h (by decide))
            refine lv_iload hx hb dX3_until_42 (lv_at hl 0 rfl) ?_
            refine lv_if_eq (tgt := 104) hx hb dX3_until_44 (by decide) (fun _ => ?_) (fun h => absurd h (by decide))
            refine lv_aload_n hx hb dX3_until_104 rfl (lv_at hl 3 rfl) ?_
            refine m_get16 hx hb hts hin hown I L95 dX3_until_105 (x := S58.1 16) rfl ?_
            refine lv_if_ne (tgt := 117) hx hb dX3_until_108 (by decide) (fun c108 => ?_) (fun c108 => ?_)
            · refine lv_aload_n hx hb dX3_until_117 rfl (lv_at hl 3 rfl) ?_
              refine lv_iload hx hb dX3_until_118 (lv_at hl 1 rfl) ?_
              refine m_calli (rest := []) ⟨hx, hb, hml, hown, hts⟩ (c_X3_ends l D o ad cA S58 (nI n)) (cwV 1 hts gX3_until_X3_ends rfl rfl rfl (by decide +kernel) ⟨Nat.le_of_ble_eq_true rfl, Nat.le_of_ble_eq_true rfl⟩) I rfl hl.1 rfl (Nat.le_of_ble_eq_true rfl) dX3_until_120 ⟨Nat.le_refl _, Nat.le_refl _⟩ (fun r120 S120 H locs p120 I => ?_)
              have eL : l_until r u (rm + 1) n v SA = (n, v, (ev 40 r v SA).2) := by unfold l_until; rw [if_neg h58]
              have eS := e58
              refine m_iret hx hb hr hlocks I dX3_until_123 ?_
              rw [hT, eL]
              have eF := f_untilEnd_eq eS n v
              rw [show f_untilEnd (n, v, S58) = f_ends (nI (n)) S58 by unfold f_untilEnd; exact congrArg (f_ends _) (if_neg c108)] at eF
              rw [p120]
              exact eF
            · refine lv_aload_n hx hb dX3_until_111 rfl (lv_at hl 3 rfl) ?_
              refine lv_iload hx hb dX3_until_112 (lv_at hl 2 rfl) ?_
              refine m_put25 hx hb hts hin hown I L152 dX3_until_114 (fun H locs I => ?_)
              refine lv_aload_n hx hb dX3_until_117 rfl (lv_at hl 3 rfl) ?_
              refine lv_iload hx hb dX3_until_118 (lv_at hl 1 rfl) ?_
              refine m_calli (rest := []) ⟨hx, hb, hml, hown, hts⟩ (c_X3_ends l D o ad cA (sF S58 25 v) (nI n)) (cwV 1 hts gX3_until_X3_ends rfl rfl rfl (by decide +kernel) ⟨Nat.le_of_ble_eq_true rfl, Nat.le_of_ble_eq_true rfl⟩) I rfl hl.1 rfl (Nat.le_of_ble_eq_true rfl) dX3_until_120 ⟨Nat.le_refl _, Nat.le_refl _⟩ (fun r120 S120 H locs p120 I => ?_)
              have eL : l_until r u (rm + 1) n v SA = (n, v, (ev 40 r v SA).2) := by unfold l_until; rw [if_neg h58]
              have eS := e58
              refine m_iret hx hb hr hlocks I dX3_until_123 ?_
              rw [hT, eL]
              have eF := f_untilEnd_eq eS n v
              rw [show f_untilEnd (n, v, S58) = f_ends (nI (n)) (sF S58 25 v) by unfold f_untilEnd; exact congrArg (f_ends _) (if_pos c108)] at eF
              rw [p120]
              exact eF
    refine lv_aload_n hx hb dX3_until_0 rfl (lv_at hl 0 rfl) ?_
    refine lv_iload_n hx hb dX3_until_1 rfl (lv_at hl 1 rfl) ?_
    refine m_isRule ⟨hx, hb, hml, hown, hts⟩ gX3_until_X3_isRule ⟨Nat.le_of_ble_eq_true rfl, Nat.le_of_ble_eq_true rfl⟩ ⟨Nat.le_refl _, Nat.le_refl _⟩ I hl.1 (Nat.le_of_ble_eq_true rfl) dX3_until_2 (fun h2 H locs I => ?_) (fun h2 H locs I => ?_)
    · refine lv_if_eq (tgt := 27) hx hb dX3_until_5 (by decide) (fun h => absurd h (by decide)) (fun _ => ?_)
      refine lv_aload_n hx hb dX3_until_8 rfl (lv_at hl 0 rfl) ?_
      refine lv_iload_n hx hb dX3_until_9 rfl (lv_at hl 2 rfl) ?_
      refine m_isRule ⟨hx, hb, hml, hown, hts⟩ gX3_until_X3_isRule ⟨Nat.le_of_ble_eq_true rfl, Nat.le_of_ble_eq_true rfl⟩ ⟨Nat.le_refl _, Nat.le_refl _⟩ I hl.1 (Nat.le_of_ble_eq_true rfl) dX3_until_10 (fun h10 H locs I => ?_) (fun h10 H locs I => ?_)
      · refine lv_if_eq (tgt := 27) hx hb dX3_until_13 (by decide) (fun h => absurd h (by decide)) (fun _ => ?_)
        refine lv_iload hx hb dX3_until_16 (lv_at hl 4 rfl) ?_
        refine lv_iconst (v := 1) hx hb dX3_until_18 (by decide) ?_
        refine lv_bipush (v := 30) hx hb dX3_until_19 (by decide) ?_
        refine m_in ⟨hx, hb, hml, hown, hts⟩ gX3_until_X3_in ⟨Nat.le_of_ble_eq_true rfl, Nat.le_of_ble_eq_true rfl⟩ ⟨Nat.le_refl _, Nat.le_refl _⟩ hl.1 (Nat.le_of_ble_eq_true rfl) dX3_until_21 (fun h21 => ?_) (fun h21 => ?_)
        · refine lv_if_ne (tgt := 29) hx hb dX3_until_24 (by decide) (fun _ => ?_) (fun h => absurd h (by decide))
          refine lv_aload_n hx hb dX3_until_29 rfl (lv_at hl 0 rfl) ?_
          refine m_callv (rest := []) ⟨hx, hb, hml, hown, hts⟩ (c_X3_startsCall l D o ad cA S0) (cwV 0 hts gX3_until_X3_startsCall rfl rfl rfl (by decide +kernel) ⟨Nat.le_of_ble_eq_true rfl, Nat.le_of_ble_eq_true rfl⟩) I rfl hl.1 rfl (Nat.le_of_ble_eq_true rfl) dX3_until_30 ⟨Nat.le_refl _, Nat.le_refl _⟩ (fun S30 H locs p30 I => ?_)
          rw [show S30 = e_start S0 from p30] at I
          refine lv_iload_n hx hb dX3_until_33 rfl (lv_at hl 3 rfl) ?_
          refine lv_istore (lv' := [(5, .int x), (0, .ref o), (1, .int r), (2, .int u), (3, .int x), (4, .int k)]) hx hb dX3_until_34 hl (by decide) rfl (fun ls hl => ?_)
          refine lv_iconst (v := 0) hx hb dX3_until_36 (by decide) ?_
          refine lv_istore (lv' := [(6, .int 0), (5, .int x), (0, .ref o), (1, .int r), (2, .int u), (3, .int x), (4, .int k)]) hx hb dX3_until_37 hl (by decide) rfl (fun ls hl => ?_)
          refine lv_iconst (v := 1) hx hb dX3_until_39 (by decide) ?_
          refine lv_istore (lv' := [(7, .int 1), (6, .int 0), (5, .int x), (0, .ref o), (1, .int r), (2, .int u), (3, .int x), (4, .int k)]) hx hb dX3_until_40 hl (by decide) rfl (fun ls hl => ?_)
          exact LU (M + 1) 0 M x (e_start S0) _ (by omega) (by omega) (e_go.of hN) (e_eq.rf _) (by unfold a_until; rw [if_pos hg, hk, nI_clamp (show M < 2 ^ 31 by omega)]) _ _ ls I (lv_sub hl [0, 1, 2, 3, 4, 5, 6, 7] rfl)
        · refine lv_if_ne (tgt := 29) hx hb dX3_until_24 (by decide) (fun h => absurd h (by decide)) (fun _ => ?_)
          refine lv_iconst (v := (-1)) hx hb dX3_until_27 (by decide) ?_
          exact absurd hg (fun hg => h21 hg.2.2)
      · refine lv_if_eq (tgt := 27) hx hb dX3_until_13 (by decide) (fun _ => ?_) (fun h => absurd h (by decide))
        refine lv_iconst (v := (-1)) hx hb dX3_until_27 (by decide) ?_
        exact absurd hg (fun hg => h10 hg.2.1)
    · refine lv_if_eq (tgt := 27) hx hb dX3_until_5 (by decide) (fun _ => ?_) (fun h => absurd h (by decide))
      refine lv_iconst (v := (-1)) hx hb dX3_until_27 (by decide) ?_
      exact absurd hg (fun hg => h2 hg.1)
  · refine lv_aload_n hx hb dX3_until_0 rfl (lv_at hl 0 rfl) ?_
    refine lv_iload_n hx hb dX3_until_1 rfl (lv_at hl 1 rfl) ?_
    refine m_isRule ⟨hx, hb, hml, hown, hts⟩ gX3_until_X3_isRule ⟨Nat.le_of_ble_eq_true rfl, Nat.le_of_ble_eq_true rfl⟩ ⟨Nat.le_refl _, Nat.le_refl _⟩ I hl.1 (Nat.le_of_ble_eq_true rfl) dX3_until_2 (fun h2 H locs I => ?_) (fun h2 H locs I => ?_)
    · refine lv_if_eq (tgt := 27) hx hb dX3_until_5 (by decide) (fun h => absurd h (by decide)) (fun _ => ?_)
      refine lv_aload_n hx hb dX3_until_8 rfl (lv_at hl 0 rfl) ?_
      refine lv_iload_n hx hb dX3_until_9 rfl (lv_at hl 2 rfl) ?_
      refine m_isRule ⟨hx, hb, hml, hown, hts⟩ gX3_until_X3_isRule ⟨Nat.le_of_ble_eq_true rfl, Nat.le_of_ble_eq_true rfl⟩ ⟨Nat.le_refl _, Nat.le_refl _⟩ I hl.1 (Nat.le_of_ble_eq_true rfl) dX3_until_10 (fun h10 H locs I => ?_) (fun h10 H locs I => ?_)
      · refine lv_if_eq (tgt := 27) hx hb dX3_until_13 (by decide) (fun h => absurd h (by decide)) (fun _ => ?_)
        refine lv_iload hx hb dX3_until_16 (lv_at hl 4 rfl) ?_
        refine lv_iconst (v := 1) hx hb dX3_until_18 (by decide) ?_
        refine lv_bipush (v := 30) hx hb dX3_until_19 (by decide) ?_
        refine m_in ⟨hx, hb, hml, hown, hts⟩ gX3_until_X3_in ⟨Nat.le_of_ble_eq_true rfl, Nat.le_of_ble_eq_true rfl⟩ ⟨Nat.le_refl _, Nat.le_refl _⟩ hl.1 (Nat.le_of_ble_eq_true rfl) dX3_until_21 (fun h21 => ?_) (fun h21 => ?_)
        · refine lv_if_ne (tgt := 29) hx hb dX3_until_24 (by decide) (fun _ => ?_) (fun h => absurd h (by decide))
          exact absurd ⟨h2, h10, h21⟩ hg
        · refine lv_if_ne (tgt := 29) hx hb dX3_until_24 (by decide) (fun h => absurd h (by decide)) (fun _ => ?_)
          refine lv_iconst (v := (-1)) hx hb dX3_until_27 (by decide) ?_
          exact m_iret hx hb hr hlocks I dX3_until_28 (by unfold a_until; rw [if_neg hg]; exact ⟨rfl, e_eq.rf _⟩)
      · refine lv_if_eq (tgt := 27) hx hb dX3_until_13 (by decide) (fun _ => ?_) (fun h => absurd h (by decide))
        refine lv_iconst (v := (-1)) hx hb dX3_until_27 (by decide) ?_
        exact m_iret hx hb hr hlocks I dX3_until_28 (by unfold a_until; rw [if_neg hg]; exact ⟨rfl, e_eq.rf _⟩)
    · refine lv_if_eq (tgt := 27) hx hb dX3_until_5 (by decide) (fun _ => ?_) (fun h => absurd h (by decide))
      refine lv_iconst (v := (-1)) hx hb dX3_until_27 (by decide) ?_
      exact m_iret hx hb hr hlocks I dX3_until_28 (by unfold a_until; rw [if_neg hg]; exact ⟨rfl, e_eq.rf _⟩)

