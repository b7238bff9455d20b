theorem l_put_2 {S : tr_S} (q : Nat) (J : Nat → Int32) : ∀ n, (l_put q J n S).2 2 = S.2 2
  | 0 => rfl
  | n + 1 => by
    show (l_put q J n S).2 2 = S.2 2
    exact l_put_2 q J n
set_option maxHeartbeats 4000000 in
set_option maxRecDepth 100000 in
theorem c_X3_order (l : Launch) (D : va_G) (o : Nat) (ad : Nat → Nat) (cA : ClassId) (S0 : tr_S) (r y : Int32) (N : Nat) (hN : wf S0 N) : m_Mi l yX3_order wsX3_order { frames := 5, cells := 0, slots := 0, locals := 120 } [.int r, .int y] D o ad cA S0 (fun v S => e_R (a_order r y S0) (v, S)) := by
  refine Met.ofW (cc := cX3_order) (maxL := 8) (ret := (some .int)) (by decide) rfl ?_
  intro p e s m args below meth c s₁ B hml hv
  obtain ⟨rfl, hB⟩ := hv
  have hx := B.exec
  have hb := B.bytes
  have hr := B.returns
  have hts := atoms_spec (ws := wsX3_order) B.pre
  have hown : s.vm.findClass RX3 = some m.cls := findClass_of_methodNamed B.named
  have hlocks := B.notSynchronized
  have I := m_I.of hB
  have hin : ∀ w ∈ wsX30, w ∈ wsX3_order := fun _ h => List.mem_cons_of_mem _ (List.mem_append_right _ h)
  have L13 := hts (.fieldLink RX3 13 "TollRulesModel" "rowOf" "[I") (by decide +kernel)
  have L16 := hts (.fieldLink RX3 16 "TollRulesModel" "size" "[I") (by decide +kernel)
  have L19 := hts (.fieldLink RX3 19 "TollRulesModel" "item" "[I") (by decide +kernel)
  have L56 := hts (.fieldLink RX3 56 "TollRulesModel" "keys" "[I") (by decide +kernel)
  have L62 := hts (.fieldLink RX3 62 "TollRulesModel" "had" "[I") (by decide +kernel)
  have hl := lv_entry ([.ref o, .int r, .int y]) (n := 8) (Nat.le_of_ble_eq_true rfl)
  rw [lg_entry_eq]
  generalize (lg_sl ([.ref o, .int r, .int y]) ++ List.replicate (8 - (lg_sl ([.ref o, .int r, .int y])).length) Slot.unset).toArray = ls at hl ⊢
  have hl : lv_has ls 8 [(0, .ref o), (1, .int r), (2, .int y)] := hl
  have L3 : ∀ (q z : Nat) (K : Nat → Int32) (SA : tr_S), q < 48 → z ≤ 10 → SA.2 2 q = nI z → a_order r y S0 = f_ends (l_mv K z z) (l_put q (fun j => SA.2 3 (10 * q + l_find K z j z)) z SA) → ∀ (S : tr_S), e_eq SA S → (∀ j, j < z → S.2 29 j = (fun j => SA.2 3 (10 * q + l_find K z j z)) j) → ∀ (d k : Nat), z - k < d → k ≤ z → ∀ (H : Heap) (locs : List Loc) (ls : Array Slot), m_I D o ad cA (l_put q (fun j => SA.2 3 (10 * q + l_find K z j z)) k S) s s.heap H locs → lv_has ls 8 [(5, .int (nI k)), (4, .int (l_mv K z z)), (0, .ref o), (1, .int r), (2, .int y), (3, .int (nI q))] → W p l e (headSpec wsX3_order { frames := 5, cells := 0, slots := 0, locals := 120 }).room s m (([.ref o, .int r, .int y] : List Value).toArray) below meth c H locs 0 0 (MQ below (va_Qi (fun v S => e_R (a_order r y S0) (v, S)) (m_B D o ad cA) (m_A o ad)) (([.ref o, .int r, .int y] : List Value).toArray) s 0 0 (m_A o ad)) (F0 m 183 ls []) := by
    intro q z K SA hqq hz10 hz hT
    intro S hS hF d
    induction d with
    | zero => intro k hk; omega
    | succ d ih =>
      intro k hd hkz H locs ls I hl
      have hz2 : (l_put q (fun j => SA.2 3 (10 * q + l_find K z j z)) k S).2 2 q = nI z := by rw [(l_put_eq hS q (fun j => SA.2 3 (10 * q + l_find K z j z)) k).2 2 (by decide), l_put_2]; exact hz
      refine lv_iload hx hb dX3_order_183 (lv_at hl 0 rfl) ?_
      refine lv_aload_n hx hb dX3_order_185 rfl (lv_at hl 2 rfl) ?_
      refine m_get2 hx hb hts hin hown I L16 dX3_order_186 ?_
      refine lv_iload_n hx hb dX3_order_189 rfl (lv_at hl 5 rfl) ?_
      refine m_ald2 hx hb I (vp_in_nI hqq (by decide)) dX3_order_190 (x := (l_put q (fun j => SA.2 3 (10 * q + l_find K z j z)) k S).2 2 q) (by rw [nI_clamp (show q < 2 ^ 31 by omega)] <;> rfl) ?_
      refine lv_icmp_ge (tgt := 219) hx hb dX3_order_191 (by decide) (fun c191 => ?_) (fun c191 => ?_)
      · refine lv_aload_n hx hb dX3_order_219 rfl (lv_at hl 2 rfl) ?_
        refine lv_iload hx hb dX3_order_220 (lv_at hl 1 rfl) ?_
        refine m_calli (rest := []) ⟨hx, hb, hml, hown, hts⟩ (c_X3_ends l D o ad cA (l_put q (fun j => SA.2 3 (10 * q + l_find K z j z)) k S) (l_mv K z z)) (cwV 1 hts gX3_order_X3_ends rfl rfl rfl (by decide +kernel) ⟨Nat.le_of_ble_eq_true rfl, Nat.le_of_ble_eq_true rfl⟩) I rfl hl.1 rfl (Nat.le_of_ble_eq_true rfl) dX3_order_222 ⟨Nat.le_refl _, Nat.le_refl _⟩ (fun r222 S222 H locs p222 I => ?_)
        have hk : z ≤ k := nI_lb (by omega) (by omega) (by rw [← hz2]; exact c191)
        rw [show k = z by omega] at p222
        refine m_iret hx hb hr hlocks I dX3_order_225 ?_
        rw [hT, p222]
        exact f_ends_eq (l_put_eq hS q (fun j => SA.2 3 (10 * q + l_find K z j z)) z) _
      · have hk : k < z := nI_ub (by omega) (by omega) (by rw [← hz2]; exact c191)
        refine lv_aload_n hx hb dX3_order_194 rfl (lv_at hl 2 rfl) ?_
        refine m_get3 hx hb hts hin hown I L19 dX3_order_195 ?_
        refine lv_bipush (v := 10) hx hb dX3_order_198 (by decide) ?_
        refine lv_iload_n hx hb dX3_order_200 rfl (lv_at hl 5 rfl) ?_
        refine lv_imul hx hb dX3_order_201 ?_
        refine lv_iload hx hb dX3_order_202 (lv_at hl 0 rfl) ?_
        refine lv_iadd hx hb dX3_order_204 ?_
        refine lv_aload_n hx hb dX3_order_205 rfl (lv_at hl 2 rfl) ?_
        refine m_get29 hx hb hts hin hown I L62 dX3_order_206 ?_
        refine lv_iload hx hb dX3_order_209 (lv_at hl 0 rfl) ?_
        refine m_ald29 hx hb I (vp_in_nI (by omega) (by decide)) dX3_order_211 (x := (l_put q (fun j => SA.2 3 (10 * q + l_find K z j z)) k S).2 29 k) (by rw [nI_clamp (show k < 2 ^ 31 by omega)] <;> rfl) ?_
        refine m_ast3 hx hb I (ix_480 hqq (by omega)) dX3_order_212 (fun H locs I => ?_)
        rw [nI_10 (q := q) (k := k) (by omega)] at I
        refine lv_iinc (v := (nI k) + 1) (lv' := [(5, .int ((nI k) + 1)), (4, .int (l_mv K z z)), (0, .ref o), (1, .int r), (2, .int y), (3, .int (nI q))]) hx hb dX3_order_213 hl (k := 0) rfl rfl (by decide) rfl (fun ls hl => ?_)
        refine lv_goto (tgt := 183) hx hb dX3_order_216 (by decide) ?_
        have hl := lv_sub hl [0, 1, 2, 3, 4, 5] rfl
        rw [nI_1] at hl
        rw [show (l_put q (fun j => SA.2 3 (10 * q + l_find K z j z)) k S).2 29 k = (fun j => SA.2 3 (10 * q + l_find K z j z)) k by rw [l_put_hi q (fun j => SA.2 3 (10 * q + l_find K z j z)) S k 29 (by decide)]; exact hF k hk] at I
        exact ih (k + 1) (by omega) (by omega) H locs ls I hl
  have L2 : ∀ (q z : Nat) (K : Nat → Int32) (SA : tr_S), q < 48 → z ≤ 10 → SA.2 2 q = nI z → a_order r y S0 = f_ends (l_mv K z z) (l_put q (fun j => SA.2 3 (10 * q + l_find K z j z)) z SA) → ∀ (S : tr_S) (k : Nat) (mv : Int32), k < z → S.2 2 q = nI z → (∀ j, j < z → S.2 27 j = K j) → (∀ (H : Heap) (locs : List Loc) (ls : Array Slot), m_I D o ad cA S s s.heap H locs → lv_has ls 8 [(7, .int (nI z)), (6, .int (nI (l_cnt K k z))), (5, .int (nI k)), (4, .int mv), (0, .ref o), (1, .int r), (2, .int y), (3, .int (nI q))] → W p l e (headSpec wsX3_order { frames := 5, cells := 0, slots := 0, locals := 120 }).room s m (([.ref o, .int r, .int y] : List Value).toArray) below meth c H locs 0 0 (MQ below (va_Qi (fun v S => e_R (a_order r y S0) (v, S)) (m_B D o ad cA) (m_A o ad)) (([.ref o, .int r, .int y] : List Value).toArray) s 0 0 (m_A o ad)) (F0 m 138 ls [])) → ∀ (d i : Nat), z - i < d → i ≤ z → ∀ (H : Heap) (locs : List Loc) (ls : Array Slot), m_I D o ad cA S s s.heap H locs → lv_has ls 8 [(7, .int (nI i)), (6, .int (nI (l_cnt K k i))), (5, .int (nI k)), (4, .int mv), (0, .ref o), (1, .int r), (2, .int y), (3, .int (nI q))] → W p l e (headSpec wsX3_order { frames := 5, cells := 0, slots := 0, locals := 120 }).room s m (([.ref o, .int r, .int y] : List Value).toArray) below meth c H locs 0 0 (MQ below (va_Qi (fun v S => e_R (a_order r y S0) (v, S)) (m_B D o ad cA) (m_A o ad)) (([.ref o, .int r, .int y] : List Value).toArray) s 0 0 (m_A o ad)) (F0 m 70 ls []) := by
    intro q z K SA hqq hz10 hz hT
    intro S k mv hk hz2 hK K1 d
    induction d with
    | zero => intro i hi; omega
    | succ d ih =>
      intro i hd hiz H locs ls I hl
      refine lv_iload hx hb dX3_order_70 (lv_at hl 0 rfl) ?_
      refine lv_aload_n hx hb dX3_order_72 rfl (lv_at hl 4 rfl) ?_
      refine m_get2 hx hb hts hin hown I L16 dX3_order_73 ?_
      refine lv_iload_n hx hb dX3_order_76 rfl (lv_at hl 7 rfl) ?_
      refine m_ald2 hx hb I (vp_in_nI hqq (by decide)) dX3_order_77 (x := S.2 2 q) (by rw [nI_clamp (show q < 2 ^ 31 by omega)] <;> rfl) ?_
      refine lv_icmp_ge (tgt := 138) hx hb dX3_order_78 (by decide) (fun c78 => ?_) (fun c78 => ?_)
      · have hi : z ≤ i := nI_lb (by omega) (by omega) (by rw [← hz2]; exact c78)
        rw [show i = z by omega] at hl
        exact K1 H locs ls I hl
      · have hi : i < z := nI_ub (by omega) (by omega) (by rw [← hz2]; exact c78)
        refine lv_iload hx hb dX3_order_81 (lv_at hl 1 rfl) ?_
        refine lv_aload_n hx hb dX3_order_83 rfl (lv_at hl 4 rfl) ?_
        refine m_get27 hx hb hts hin hown I L56 dX3_order_84 ?_
        refine lv_iload hx hb dX3_order_87 (lv_at hl 0 rfl) ?_
        refine m_ald27 hx hb I (vp_in_nI (by omega) (by decide)) dX3_order_89 (x := S.2 27 i) (by rw [nI_clamp (show i < 2 ^ 31 by omega)] <;> rfl) ?_
        refine lv_aload_n hx hb dX3_order_90 rfl (lv_at hl 4 rfl) ?_
        refine m_get27 hx hb hts hin hown I L56 dX3_order_91 ?_
        refine lv_iload hx hb dX3_order_94 (lv_at hl 2 rfl) ?_
        refine m_ald27 hx hb I (vp_in_nI (by omega) (by decide)) dX3_order_96 (x := S.2 27 k) (by rw [nI_clamp (show k < 2 ^ 31 by omega)] <;> rfl) ?_
        refine lv_icmp_lt (tgt := 124) hx hb dX3_order_97 (by decide) (fun c97 => ?_) (fun c97 => ?_)
        · refine lv_iconst (v := 1) hx hb dX3_order_124 (by decide) ?_
          refine lv_goto (tgt := 129) hx hb dX3_order_125 (by decide) ?_
          refine lv_iadd hx hb dX3_order_129 ?_
          refine lv_istore (lv' := [(6, .int ((nI (l_cnt K k i)) + 1)), (7, .int (nI i)), (5, .int (nI k)), (4, .int mv), (0, .ref o), (1, .int r), (2, .int y), (3, .int (nI q))]) hx hb dX3_order_130 hl (by decide) rfl (fun ls hl => ?_)
          refine lv_iinc (v := (nI i) + 1) (lv' := [(7, .int ((nI i) + 1)), (6, .int ((nI (l_cnt K k i)) + 1)), (5, .int (nI k)), (4, .int mv), (0, .ref o), (1, .int r), (2, .int y), (3, .int (nI q))]) hx hb dX3_order_132 hl (k := 1) rfl rfl (by decide) rfl (fun ls hl => ?_)
          refine lv_goto (tgt := 70) hx hb dX3_order_135 (by decide) ?_
          have hl := lv_sub hl [0, 1, 2, 3, 4, 5, 6, 7] rfl
          rw [hK i hi, hK k hk] at c97
          have eC : l_cnt K k (i + 1) = l_cnt K k i + 1 := by
            conv => lhs; unfold l_cnt
            rw [if_pos (Or.inl c97)]
          rw [nI_1 i, nI_1 (l_cnt K k i), ← eC] at hl
          exact ih (i + 1) (by omega) (by omega) H locs ls I hl
        · refine lv_aload_n hx hb dX3_order_100 rfl (lv_at hl 4 rfl) ?_
          refine m_get27 hx hb hts hin hown I L56 dX3_order_101 ?_
          refine lv_iload hx hb dX3_order_104 (lv_at hl 0 rfl) ?_
          refine m_ald27 hx hb I (vp_in_nI (by omega) (by decide)) dX3_order_106 (x := S.2 27 i) (by rw [nI_clamp (show i < 2 ^ 31 by omega)] <;> rfl) ?_
          refine lv_aload_n hx hb dX3_order_107 rfl (lv_at hl 4 rfl) ?_
          refine m_get27 hx hb hts hin hown I L56 dX3_order_108 ?_
          refine lv_iload hx hb dX3_order_111 (lv_at hl 2 rfl) ?_
          refine m_ald27 hx hb I (vp_in_nI (by omega) (by decide)) dX3_order_113 (x := S.2 27 k) (by rw [nI_clamp (show k < 2 ^ 31 by omega)] <;> rfl) ?_
          refine lv_icmp_ne (tgt := 128) hx hb dX3_order_114 (by decide) (fun c114 => ?_) (fun c114 => ?_)
          · refine lv_iconst (v := 0) hx hb dX3_order_128 (by decide) ?_
            refine lv_iadd hx hb dX3_order_129 ?_
            refine lv_istore (lv' := [(6, .int ((nI (l_cnt K k i)) + 0)), (7, .int (nI i)), (5, .int (nI k)), (4, .int mv), (0, .ref o), (1, .int r), (2, .int y), (3, .int (nI q))]) hx hb dX3_order_130 hl (by decide) rfl (fun ls hl => ?_)
            refine lv_iinc (v := (nI i) + 1) (lv' := [(7, .int ((nI i) + 1)), (6, .int ((nI (l_cnt K k i)) + 0)), (5, .int (nI k)), (4, .int mv), (0, .ref o), (1, .int r), (2, .int y), (3, .int (nI q))]) hx hb dX3_order_132 hl (k := 1) rfl rfl (by decide) rfl (fun ls hl => ?_)
            refine lv_goto (tgt := 70) hx hb dX3_order_135 (by decide) ?_
            have hl := lv_sub hl [0, 1, 2, 3, 4, 5, 6, 7] rfl
            rw [hK i hi, hK k hk] at c97
            rw [hK i hi, hK k hk] at c114
            have eC : l_cnt K k (i + 1) = l_cnt K k i := by
              conv => lhs; unfold l_cnt
              rw [if_neg (fun q => q.elim c97 (fun q => c114 q.1))]; rfl
            rw [nI_1 i, Int32.add_zero, ← eC] at hl
            exact ih (i + 1) (by omega) (by omega) H locs ls I hl
          · refine lv_iload hx hb dX3_order_117 (lv_at hl 0 rfl) ?_
            refine lv_iload hx hb dX3_order_119 (lv_at hl 2 rfl) ?_
            refine lv_icmp_ge (tgt := 128) hx hb dX3_order_121 (by decide) (fun c121 => ?_) (fun c121 => ?_)
            · refine lv_iconst (v := 0) hx hb dX3_order_128 (by decide) ?_
              refine lv_iadd hx hb dX3_order_129 ?_
              refine lv_istore (lv' := [(6, .int ((nI (l_cnt K k i)) + 0)), (7, .int (nI i)), (5, .int (nI k)), (4, .int mv), (0, .ref o), (1, .int r), (2, .int y), (3, .int (nI q))]) hx hb dX3_order_130 hl (by decide) rfl (fun ls hl => ?_)
              refine lv_iinc (v := (nI i) + 1) (lv' := [(7, .int ((nI i) + 1)), (6, .int ((nI (l_cnt K k i)) + 0)), (5, .int (nI k)), (4, .int mv), (0, .ref o), (1, .int r), (2, .int y), (3, .int (nI q))]) hx hb dX3_order_132 hl (k := 1) rfl rfl (by decide) rfl (fun ls hl => ?_)
              refine lv_goto (tgt := 70) hx hb dX3_order_135 (by decide) ?_
              have hl := lv_sub hl [0, 1, 2, 3, 4, 5, 6, 7] rfl
              rw [hK i hi, hK k hk] at c97
              rw [hK i hi, hK k hk] at c114
              have eC : l_cnt K k (i + 1) = l_cnt K k i := by
                conv => lhs; unfold l_cnt
                rw [if_neg (fun q => q.elim c97 (fun q => by have := nI_lb (by omega) (by omega) c121; omega))]; rfl
              rw [nI_1 i, Int32.add_zero, ← eC] at hl
              exact ih (i + 1) (by omega) (by omega) H locs ls I hl
            · refine lv_iconst (v := 1) hx hb dX3_order_124 (by decide) ?_
              refine lv_goto (tgt := 129) hx hb dX3_order_125 (by decide) ?_
              refine lv_iadd hx hb dX3_order_129 ?_
              refine lv_istore (lv' := [(6, .int ((nI (l_cnt K k i)) + 1)), (7, .int (nI i)), (5, .int (nI k)), (4, .int mv), (0, .ref o), (1, .int r), (2, .int y), (3, .int (nI q))]) hx hb dX3_order_130 hl (by decide) rfl (fun ls hl => ?_)
              refine lv_iinc (v := (nI i) + 1) (lv' := [(7, .int ((nI i) + 1)), (6, .int ((nI (l_cnt K k i)) + 1)), (5, .int (nI k)), (4, .int mv), (0, .ref o), (1, .int r), (2, .int y), (3, .int (nI q))]) hx hb dX3_order_132 hl (k := 1) rfl rfl (by decide) rfl (fun ls hl => ?_)
              refine lv_goto (tgt := 70) hx hb dX3_order_135 (by decide) ?_
              have hl := lv_sub hl [0, 1, 2, 3, 4, 5, 6, 7] rfl
              rw [hK i hi, hK k hk] at c97
              rw [hK i hi, hK k hk] at c114
              have eC : l_cnt K k (i + 1) = l_cnt K k i + 1 := by
                conv => lhs; unfold l_cnt
                rw [if_pos (Or.inr ⟨c114, nI_ub (by omega) (by omega) c121⟩)]
              rw [nI_1 i, nI_1 (l_cnt K k i), ← eC] at hl
              exact ih (i + 1) (by omega) (by omega) H locs ls I hl
  have L1 : ∀ (q z : Nat) (K : Nat → Int32) (SA : tr_S), q < 48 → z ≤ 10 → SA.2 2 q = nI z → a_order r y S0 = f_ends (l_mv K z z) (l_put q (fun j => SA.2 3 (10 * q + l_find K z j z)) z SA) → ∀ (d k : Nat), z - k < d → k ≤ z → ∀ (S : tr_S), e_eq SA S → (∀ j, j < z → S.2 27 j = K j) → (∀ j, j < k → S.2 29 (l_cnt K j z) = SA.2 3 (10 * q + j)) → ∀ (H : Heap) (locs : List Loc) (ls : Array Slot), m_I D o ad cA S s s.heap H locs → lv_has ls 8 [(5, .int (nI k)), (4, .int (l_mv K z k)), (0, .ref o), (1, .int r), (2, .int y), (3, .int (nI q))] → W p l e (headSpec wsX3_order { frames := 5, cells := 0, slots := 0, locals := 120 }).room s m (([.ref o, .int r, .int y] : List Value).toArray) below meth c H locs 0 0 (MQ below (va_Qi (fun v S => e_R (a_order r y S0) (v, S)) (m_B D o ad cA) (m_A o ad)) (([.ref o, .int r, .int y] : List Value).toArray) s 0 0 (m_A o ad)) (F0 m 53 ls []) := by
    intro q z K SA hqq hz10 hz hT
    intro d
    induction d with
    | zero => intro k hk; omega
    | succ d ih =>
      intro k hd hkz S hS hK hF H locs ls I hl
      have hz2 : S.2 2 q = nI z := by rw [hS.2 2 (by decide)]; exact hz
      refine lv_iload hx hb dX3_order_53 (lv_at hl 0 rfl) ?_
      refine lv_aload_n hx hb dX3_order_55 rfl (lv_at hl 2 rfl) ?_
      refine m_get2 hx hb hts hin hown I L16 dX3_order_56 ?_
      refine lv_iload_n hx hb dX3_order_59 rfl (lv_at hl 5 rfl) ?_
      refine m_ald2 hx hb I (vp_in_nI hqq (by decide)) dX3_order_60 (x := S.2 2 q) (by rw [nI_clamp (show q < 2 ^ 31 by omega)] <;> rfl) ?_
      refine lv_icmp_ge (tgt := 180) hx hb dX3_order_61 (by decide) (fun c61 => ?_) (fun c61 => ?_)
      · have hk : z ≤ k := nI_lb (by omega) (by omega) (by rw [← hz2]; exact c61)
        rw [show k = z by omega] at hl hF
        have hFz : ∀ j, j < z → S.2 29 j = (fun j => SA.2 3 (10 * q + l_find K z j z)) j := by
          intro j hj
          obtain ⟨Q, hQ⟩ := k_srt_ex K z
          obtain ⟨q1, q2⟩ := hQ j hj
          have e1 := hF (Q j) q1
          rw [q2] at e1
          rw [e1]
          have e9 := l_find_eq (K := K) q1 z q1 (Nat.le_refl z)
          rw [q2] at e9
          show SA.2 3 (10 * q + Q j) = SA.2 3 (10 * q + l_find K z j z)
          rw [e9]
        refine lv_iconst (v := 0) hx hb dX3_order_180 (by decide) ?_
        refine lv_istore (lv' := [(5, .int 0), (4, .int (l_mv K z z)), (0, .ref o), (1, .int r), (2, .int y), (3, .int (nI q))]) hx hb dX3_order_181 hl (by decide) rfl (fun ls hl => ?_)
        exact L3 q z K SA hqq hz10 hz hT S hS hFz (z + 1) 0 (by omega) (by omega) H locs ls I (lv_sub hl [0, 1, 2, 3, 4, 5] rfl)
      · have hk : k < z := nI_ub (by omega) (by omega) (by rw [← hz2]; exact c61)
        refine lv_iconst (v := 0) hx hb dX3_order_64 (by decide) ?_
        refine lv_istore (lv' := [(6, .int 0), (5, .int (nI k)), (4, .int (l_mv K z k)), (0, .ref o), (1, .int r), (2, .int y), (3, .int (nI q))]) hx hb dX3_order_65 hl (by decide) rfl (fun ls hl => ?_)
        refine lv_iconst (v := 0) hx hb dX3_order_67 (by decide) ?_
        refine lv_istore (lv' := [(7, .int 0), (6, .int 0), (5, .int (nI k)), (4, .int (l_mv K z k)), (0, .ref o), (1, .int r), (2, .int y), (3, .int (nI q))]) hx hb dX3_order_68 hl (by decide) rfl (fun ls hl => ?_)
        have hcz := l_cnt_lt K k z hk
        refine L2 q z K SA hqq hz10 hz hT S k (l_mv K z k) hk hz2 hK (fun H locs ls I hl => ?_) (z + 1) 0 (by omega) (by omega) H locs ls I (lv_sub hl [0, 1, 2, 3, 4, 5, 6, 7] rfl)
        refine lv_aload_n hx hb dX3_order_138 rfl (lv_at hl 4 rfl) ?_
        refine m_get29 hx hb hts hin hown I L62 dX3_order_139 ?_
        refine lv_iload hx hb dX3_order_142 (lv_at hl 1 rfl) ?_
        refine lv_aload_n hx hb dX3_order_144 rfl (lv_at hl 4 rfl) ?_
        refine m_get3 hx hb hts hin hown I L19 dX3_order_145 ?_
        refine lv_bipush (v := 10) hx hb dX3_order_148 (by decide) ?_
        refine lv_iload_n hx hb dX3_order_150 rfl (lv_at hl 7 rfl) ?_
        refine lv_imul hx hb dX3_order_151 ?_
        refine lv_iload hx hb dX3_order_152 (lv_at hl 2 rfl) ?_
        refine lv_iadd hx hb dX3_order_154 ?_
        refine m_ald3 hx hb I (ix_480 hqq (by omega)) dX3_order_155 (x := S.2 3 (10 * q + k)) (by rw [nI_10 (q := q) (k := k) (by omega)] <;> rfl) ?_
        refine m_ast29 hx hb I (vp_in_nI (by omega) (by decide)) dX3_order_156 (fun H locs I => ?_)
        rw [nI_clamp (show l_cnt K k z < 2 ^ 31 by omega)] at I
        refine lv_iload hx hb dX3_order_157 (lv_at hl 3 rfl) ?_
        refine lv_iload hx hb dX3_order_159 (lv_at hl 1 rfl) ?_
        refine lv_iload hx hb dX3_order_161 (lv_at hl 2 rfl) ?_
        refine lv_icmp_ne (tgt := 170) hx hb dX3_order_163 (by decide) (fun c163 => ?_) (fun c163 => ?_)
        · refine lv_iconst (v := 1) hx hb dX3_order_170 (by decide) ?_
          refine lv_iadd hx hb dX3_order_171 ?_
          refine lv_istore (lv' := [(4, .int ((l_mv K z k) + 1)), (7, .int (nI z)), (6, .int (nI (l_cnt K k z))), (5, .int (nI k)), (0, .ref o), (1, .int r), (2, .int y), (3, .int (nI q))]) hx hb dX3_order_172 hl (by decide) rfl (fun ls hl => ?_)
          refine lv_iinc (v := (nI k) + 1) (lv' := [(5, .int ((nI k) + 1)), (4, .int ((l_mv K z k) + 1)), (7, .int (nI z)), (6, .int (nI (l_cnt K k z))), (0, .ref o), (1, .int r), (2, .int y), (3, .int (nI q))]) hx hb dX3_order_174 hl (k := 3) rfl rfl (by decide) rfl (fun ls hl => ?_)
          refine lv_goto (tgt := 53) hx hb dX3_order_177 (by decide) ?_
          have hl := lv_sub hl [0, 1, 4, 5, 6, 7] rfl
          have eM : l_mv K z (k + 1) = l_mv K z k + 1 := by
            conv => lhs; unfold l_mv
            rw [if_neg (fun q => c163 (by rw [q]))]
          rw [nI_1 k, ← eM] at hl
          refine ih (k + 1) (by omega) (by omega) (sA S 29 (l_cnt K k z) (S.2 3 (10 * q + k))) (e_eq_lA hS (by decide) _ _) (fun j hj => hK j hj) ?_ H locs ls I hl
          intro j hj
          rw [sA_A, if_pos rfl]
          by_cases e : j = k
          · rw [e, if_pos rfl, hS.2 3 (by decide)]
          · rw [if_neg (fun h => e (l_cnt_inj K (by omega) hk h))]; exact hF j (by omega)
        · refine lv_iconst (v := 0) hx hb dX3_order_166 (by decide) ?_
          refine lv_goto (tgt := 171) hx hb dX3_order_167 (by decide) ?_
          refine lv_iadd hx hb dX3_order_171 ?_
          refine lv_istore (lv' := [(4, .int ((l_mv K z k) + 0)), (7, .int (nI z)), (6, .int (nI (l_cnt K k z))), (5, .int (nI k)), (0, .ref o), (1, .int r), (2, .int y), (3, .int (nI q))]) hx hb dX3_order_172 hl (by decide) rfl (fun ls hl => ?_)
          refine lv_iinc (v := (nI k) + 1) (lv' := [(5, .int ((nI k) + 1)), (4, .int ((l_mv K z k) + 0)), (7, .int (nI z)), (6, .int (nI (l_cnt K k z))), (0, .ref o), (1, .int r), (2, .int y), (3, .int (nI q))]) hx hb dX3_order_174 hl (k := 3) rfl rfl (by decide) rfl (fun ls hl => ?_)
          refine lv_goto (tgt := 53) hx hb dX3_order_177 (by decide) ?_
          have hl := lv_sub hl [0, 1, 4, 5, 6, 7] rfl
          have eM : l_mv K z (k + 1) = l_mv K z k + 0 := by
            conv => lhs; unfold l_mv
            rw [if_pos ((nI_eq (by omega) (by omega)).mp c163)]
          rw [nI_1 k, ← eM] at hl
          refine ih (k + 1) (by omega) (by omega) (sA S 29 (l_cnt K k z) (S.2 3 (10 * q + k))) (e_eq_lA hS (by decide) _ _) (fun j hj => hK j hj) ?_ H locs ls I hl
          intro j hj
          rw [sA_A, if_pos rfl]
          by_cases e : j = k
          · rw [e, if_pos rfl, hS.2 3 (by decide)]
          · rw [if_neg (fun h => e (l_cnt_inj K (by omega) hk h))]; exact hF j (by omega)
  refine lv_aload_n hx hb dX3_order_0 rfl (lv_at hl 0 rfl) ?_
  refine lv_iload_n hx hb dX3_order_1 rfl (lv_at hl 1 rfl) ?_
  refine m_isRule ⟨hx, hb, hml, hown, hts⟩ gX3_order_X3_isRule ⟨Nat.le_of_ble_eq_true rfl, Nat.le_of_ble_eq_true rfl⟩ ⟨Nat.le_refl _, Nat.le_refl _⟩ I hl.1 (Nat.le_of_ble_eq_true rfl) dX3_order_2 (fun h2 H locs I => ?_) (fun h2 H locs I => ?_)
  · refine lv_if_eq (tgt := 17) hx hb dX3_order_5 (by decide) (fun h => absurd h (by decide)) (fun _ => ?_)
    refine lv_iload_n hx hb dX3_order_8 rfl (lv_at hl 2 rfl) ?_
    refine lv_iconst (v := 0) hx hb dX3_order_9 (by decide) ?_
    refine lv_iconst (v := 3) hx hb dX3_order_10 (by decide) ?_
    refine m_in ⟨hx, hb, hml, hown, hts⟩ gX3_order_X3_in ⟨Nat.le_of_ble_eq_true rfl, Nat.le_of_ble_eq_true rfl⟩ ⟨Nat.le_refl _, Nat.le_refl _⟩ hl.1 (Nat.le_of_ble_eq_true rfl) dX3_order_11 (fun h11 => ?_) (fun h11 => ?_)
    · refine lv_if_ne (tgt := 19) hx hb dX3_order_14 (by decide) (fun _ => ?_) (fun h => absurd h (by decide))
      refine lv_aload_n hx hb dX3_order_19 rfl (lv_at hl 0 rfl) ?_
      refine m_get1 hx hb hts hin hown I L13 dX3_order_20 ?_
      refine lv_iload_n hx hb dX3_order_23 rfl (lv_at hl 2 rfl) ?_
      refine m_ald1 hx hb I (ix_of h11 (by decide) (by decide)) dX3_order_24 (x := S0.2 1 y.toNatClampNeg) rfl ?_
      refine lv_if_ge (tgt := 31) hx hb dX3_order_25 (by decide) (fun c25 => ?_) (fun c25 => ?_)
      · refine lv_aload_n hx hb dX3_order_31 rfl (lv_at hl 0 rfl) ?_
        refine m_get1 hx hb hts hin hown I L13 dX3_order_32 ?_
        refine lv_iload_n hx hb dX3_order_35 rfl (lv_at hl 2 rfl) ?_
        refine m_ald1 hx hb I (ix_of h11 (by decide) (by decide)) dX3_order_36 (x := S0.2 1 y.toNatClampNeg) rfl ?_
        refine lv_istore_n (lv' := [(3, .int (S0.2 1 y.toNatClampNeg)), (0, .ref o), (1, .int r), (2, .int y)]) hx hb dX3_order_37 rfl hl (by decide) rfl (fun ls hl => ?_)
        refine lv_iconst (v := 0) hx hb dX3_order_38 (by decide) ?_
        refine lv_istore (lv' := [(4, .int 0), (3, .int (S0.2 1 y.toNatClampNeg)), (0, .ref o), (1, .int r), (2, .int y)]) hx hb dX3_order_39 hl (by decide) rfl (fun ls hl => ?_)
        obtain ⟨q, hqq, eq⟩ : ∃ q, q < 48 ∧ S0.2 1 y.toNatClampNeg = nI q := by rcases hN.2.2.2.1 _ (ix_nI (ix_of h11 (by decide) (by decide)) (by decide)).2 with h | h; exact absurd c25 (by rw [h]; decide); exact h
        obtain ⟨z, hz10, hz⟩ := hN.2.2.2.2 q hqq
        rw [eq] at hl
        have li := l_keys_ind (r := r) (q := q) z 0 (fun _ => 0) (e_start S0) (e_go.of hN)
        have eA : a_order r y S0 = f_order q z (l_keys r q z 0 (fun _ => 0) (e_start S0)) := by unfold a_order; rw [if_pos ⟨h2, h11⟩, if_pos c25, eq, nI_clamp (show q < 2 ^ 31 by omega), hz, nI_clamp (show z < 2 ^ 31 by omega)]
        refine lv_aload_n hx hb dX3_order_41 rfl (lv_at hl 2 rfl) ?_
        refine lv_iload_n hx hb dX3_order_42 rfl (lv_at hl 3 rfl) ?_
        refine lv_iload_n hx hb dX3_order_43 rfl (lv_at hl 1 rfl) ?_
        refine m_asksEach hN hqq hz10 hz (rule_of hN h2) ⟨hx, hb, hml, hown, hts⟩ gX3_order_X3_asksEach ⟨Nat.le_of_ble_eq_true rfl, Nat.le_of_ble_eq_true rfl⟩ ⟨Nat.le_refl _, Nat.le_refl _⟩ I hl.1 (Nat.le_of_ble_eq_true rfl) dX3_order_44 (fun h44 S44 H locs k44 e44 I => ?_) (fun h44 S44 H locs e44 I => ?_)
        · refine lv_if_eq (tgt := 219) hx hb dX3_order_47 (by decide) (fun h => absurd h (by decide)) (fun _ => ?_)
          refine lv_iconst (v := 0) hx hb dX3_order_50 (by decide) ?_
          refine lv_istore (lv' := [(5, .int 0), (4, .int 0), (3, .int (nI q)), (0, .ref o), (1, .int r), (2, .int y)]) hx hb dX3_order_51 hl (by decide) rfl (fun ls hl => ?_)
          exact L1 q z _ _ hqq hz10 (by rw [li.1.2.2.1]; exact hz) (by rw [eA]; unfold f_order; rw [if_pos h44]) (z + 1) 0 (by omega) (by omega) S44 e44 k44 (fun j hj => absurd hj (Nat.not_lt_zero j)) H locs ls I (lv_sub hl [0, 1, 3, 4, 5, 2] rfl)
        · refine lv_if_eq (tgt := 219) hx hb dX3_order_47 (by decide) (fun _ => ?_) (fun h => absurd h (by decide))
          refine lv_aload_n hx hb dX3_order_219 rfl (lv_at hl 2 rfl) ?_
          refine lv_iload hx hb dX3_order_220 (lv_at hl 0 rfl) ?_
          refine m_calli (rest := []) ⟨hx, hb, hml, hown, hts⟩ (c_X3_ends l D o ad cA S44 0) (cwV 1 hts gX3_order_X3_ends rfl rfl rfl (by decide +kernel) ⟨Nat.le_of_ble_eq_true rfl, Nat.le_of_ble_eq_true rfl⟩) I rfl hl.1 rfl (Nat.le_of_ble_eq_true rfl) dX3_order_222 ⟨Nat.le_refl _, Nat.le_refl _⟩ (fun r222 S222 H locs p222 I => ?_)
          refine m_iret hx hb hr hlocks I dX3_order_225 ?_
          rw [eA, p222]
          unfold f_order
          rw [if_neg h44]
          exact f_ends_eq e44 0
      · refine lv_bipush (v := (-13)) hx hb dX3_order_28 (by decide) ?_
        exact m_iret hx hb hr hlocks I dX3_order_30 (by unfold a_order; rw [if_pos ⟨h2, h11⟩, if_neg c25]; exact ⟨rfl, e_eq.rf _⟩)
    · refine lv_if_ne (tgt := 19) hx hb dX3_order_14 (by decide) (fun h => absurd h (by decide)) (fun _ => ?_)
      refine lv_iconst (v := (-1)) hx hb dX3_order_17 (by decide) ?_
      exact m_iret hx hb hr hlocks I dX3_order_18 (by unfold a_order; rw [if_neg (fun q => h11 q.2)]; exact ⟨rfl, e_eq.rf _⟩)
  · refine lv_if_eq (tgt := 17) hx hb dX3_order_5 (by decide) (fun _ => ?_) (fun h => absurd h (by decide))
    refine lv_iconst (v := (-1)) hx hb dX3_order_17 (by decide) ?_
    exact m_iret hx hb hr hlocks I dX3_order_18 (by unfold a_order; rw [if_neg (fun q => h2 q.1)]; exact ⟨rfl, e_eq.rf _⟩)

