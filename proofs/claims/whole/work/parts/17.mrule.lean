/-- a rule as it is told -/
def g_rule (k a b : Int32) (S : tr_S) : Prop := (0 ≤ k ∧ k ≤ 17) ∧ ((¬ ((8 ≤ k ∧ k ≤ 11) ∨ k = 16) ∧ ¬ k = 14) ∨ (0 ≤ a ∧ a ≤ S.1 4 - 1)) ∧ ((¬ k = 4 ∧ ¬ k = 5 ∧ ¬ k = 12) ∨ (0 ≤ a ∧ a ≤ 7)) ∧ ((¬ k = 6 ∧ ¬ k = 7) ∨ (0 ≤ a ∧ a ≤ 3)) ∧ (¬ ((8 ≤ k ∧ k ≤ 11) ∨ k = 16) ∨ k = 9 ∨ (0 ≤ b ∧ b ≤ S.1 4 - 1))
def f_add (k a b v : Int32) (S : tr_S) : Int32 × tr_S := (S.1 4 + 1 - 1, sF (sA (sA (sA (sA (sA (sA S 5 (S.1 4).toNatClampNeg k) 6 (S.1 4).toNatClampNeg a) 7 (S.1 4).toNatClampNeg b) 8 (S.1 4).toNatClampNeg v) 9 (S.1 4).toNatClampNeg (if k = 6 then S.2 1 a.toNatClampNeg else -1)) 10 (S.1 4).toNatClampNeg 0) 4 (S.1 4 + 1))
def f_now (k a b : Int32) (q : Int32 × tr_S) : Int32 × tr_S := if q.2.1 16 = 0 then f_add k a b q.1 (f_ends 1 q.2).2 else f_ends 1 q.2
noncomputable def a_rule (k a b : Int32) (S : tr_S) : Int32 × tr_S := @ite _ (g_rule k a b S) (Classical.propDecidable _) (if S.1 4 = 40 then (-2, S) else if k = 14 then f_now k a b (ev 40 a b (e_start S)) else f_add k a b (if k = 4 then S.2 0 a.toNatClampNeg else 0) S) (-1, S)
theorem a_rule_pos {k a b : Int32} {S : tr_S} (h : g_rule k a b S) : a_rule k a b S = if S.1 4 = 40 then (-2, S) else if k = 14 then f_now k a b (ev 40 a b (e_start S)) else f_add k a b (if k = 4 then S.2 0 a.toNatClampNeg else 0) S := by
  unfold a_rule
  exact if_pos h
theorem a_rule_neg {k a b : Int32} {S : tr_S} (h : ¬ g_rule k a b S) : a_rule k a b S = (-1, S) := by
  unfold a_rule
  exact if_neg h
theorem f_add_eq {S T : tr_S} (h : e_eq S T) (k a b : Int32) {u v : Int32} (e : v = u) : e_R (f_add k a b u S) (f_add k a b v T) := by
  have e4 := h.1 4 (by decide) (by decide)
  have e1 := h.2 1 (by decide)
  unfold f_add
  rw [e4, e1]
  exact ⟨rfl, e_eq_F (e_eq_A (e_eq_A (e_eq_A (e_eq_A (e_eq_A (e_eq_A h 5 _ (by decide) rfl) 6 _ (by decide) rfl) 7 _ (by decide) rfl) 8 _ (by decide) e) 9 _ (by decide) rfl) 10 _ (by decide) rfl) 4 rfl⟩
theorem fail_neg {v : Int32} (h : 0 ≤ v) (h5 : v ≤ 5) : ¬ 0 ≤ -10 - v := by
  obtain ⟨j, hj, rfl⟩ := nI_of2 (M := 5) (n := 5) rfl (Int32.not_lt.mpr h) h5
  have key : ∀ j, j < 6 → ¬ 0 ≤ -10 - nI j := by decide +kernel
  exact key j (by omega)
set_option maxHeartbeats 4000000 in
set_option maxRecDepth 100000 in
theorem c_X3_rule (l : Launch) (D : va_G) (o : Nat) (ad : Nat → Nat) (cA : ClassId) (S0 : tr_S) (k a b : Int32) (N : Nat) (hN : wf S0 N) : m_Mi l yX3_rule wsX3_rule { frames := 4, cells := 0, slots := 0, locals := 97 } [.int k, .int a, .int b] D o ad cA S0 (fun v S => e_R (a_rule k a b S0) (v, S)) := by
  refine Met.ofW (cc := cX3_rule) (maxL := 8) (ret := (some .int)) (by decide) rfl ?_
  intro p e s m args below meth c s₁ B hml hv
  obtain ⟨rfl, hB⟩ := hv
  have hx := B.exec
  have hb := B.bytes
  have hr := B.returns
  have hts := atoms_spec (ws := wsX3_rule) B.pre
  have hown : s.vm.findClass RX3 = some m.cls := findClass_of_methodNamed B.named
  have hlocks := B.notSynchronized
  have I := m_I.of hB
  have hin : ∀ w ∈ wsX30, w ∈ wsX3_rule := fun _ h => List.mem_cons_of_mem _ (List.mem_append_right _ h)
  have L7 := hts (.fieldLink RX3 7 "TollRulesModel" "places" "[I") (by decide +kernel)
  have L13 := hts (.fieldLink RX3 13 "TollRulesModel" "rowOf" "[I") (by decide +kernel)
  have L22 := hts (.fieldLink RX3 22 "TollRulesModel" "kind" "[I") (by decide +kernel)
  have L25 := hts (.fieldLink RX3 25 "TollRulesModel" "first" "[I") (by decide +kernel)
  have L28 := hts (.fieldLink RX3 28 "TollRulesModel" "second" "[I") (by decide +kernel)
  have L31 := hts (.fieldLink RX3 31 "TollRulesModel" "kept" "[I") (by decide +kernel)
  have L34 := hts (.fieldLink RX3 34 "TollRulesModel" "keptRow" "[I") (by decide +kernel)
  have L37 := hts (.fieldLink RX3 37 "TollRulesModel" "own" "[I") (by decide +kernel)
  have L65 := hts (.fieldLink RX3 65 "TollRulesModel" "rules" "I") (by decide +kernel)
  have L109 := hts (.fieldLink RX3 109 "TollRulesModel" "handed" "I") (by decide +kernel)
  have hl := lv_entry ([.ref o, .int k, .int a, .int b]) (n := 8) (Nat.le_of_ble_eq_true rfl)
  rw [lg_entry_eq]
  generalize (lg_sl ([.ref o, .int k, .int a, .int b]) ++ List.replicate (8 - (lg_sl ([.ref o, .int k, .int a, .int b])).length) Slot.unset).toArray = ls at hl ⊢
  have hl : lv_has ls 8 [(0, .ref o), (1, .int k), (2, .int a), (3, .int b)] := hl
  have J113 : ∀ (H : Heap) (locs : List Loc) (ls : Array Slot), (0 ≤ k ∧ k ≤ 17) → ((¬ ((8 ≤ k ∧ k ≤ 11) ∨ k = 16) ∧ ¬ k = 14) ∨ (0 ≤ a ∧ a ≤ S0.1 4 - 1)) → ((¬ k = 4 ∧ ¬ k = 5 ∧ ¬ k = 12) ∨ (0 ≤ a ∧ a ≤ 7)) → ((¬ k = 6 ∧ ¬ k = 7) ∨ (0 ≤ a ∧ a ≤ 3)) → (¬ ((8 ≤ k ∧ k ≤ 11) ∨ k = 16) ∨ k = 9 ∨ (0 ≤ b ∧ b ≤ S0.1 4 - 1)) → m_I D o ad cA S0 s s.heap H locs → lv_has ls 8 [(0, .ref o), (1, .int k), (2, .int a), (3, .int b)] → W p l e (headSpec wsX3_rule { frames := 4, cells := 0, slots := 0, locals := 97 }).room s m (([.ref o, .int k, .int a, .int b] : List Value).toArray) below meth c H locs 0 0 (MQ below (va_Qi (fun v S => e_R (a_rule k a b S0) (v, S)) (m_B D o ad cA) (m_A o ad)) (([.ref o, .int k, .int a, .int b] : List Value).toArray) s 0 0 (m_A o ad)) (F0 m 113 ls []) := by
    intro H locs ls gA gB gC gD gE I hl
    have hg : g_rule k a b S0 := ⟨gA, gB, gC, gD, gE⟩
    refine lv_aload_n hx hb dX3_rule_113 rfl (lv_at hl 0 rfl) ?_
    refine m_get4 hx hb hts hin hown I L65 dX3_rule_114 (x := S0.1 4) rfl ?_
    refine lv_bipush (v := 40) hx hb dX3_rule_117 (by decide) ?_
    refine lv_icmp_ne (tgt := 125) hx hb dX3_rule_119 (by decide) (fun c119 => ?_) (fun c119 => ?_)
    · have e4 : S0.1 4 = nI N := hN.2.1
      have h40 : N ≠ 40 := fun q => c119 (by rw [e4, q]; rfl)
      have hN40 := hN.1
      refine lv_iload_n hx hb dX3_rule_125 rfl (lv_at hl 1 rfl) ?_
      refine lv_iconst (v := 4) hx hb dX3_rule_126 (by decide) ?_
      refine lv_icmp_ne (tgt := 139) hx hb dX3_rule_127 (by decide) (fun c127 => ?_) (fun c127 => ?_)
      · refine lv_iconst (v := 0) hx hb dX3_rule_139 (by decide) ?_
        refine lv_istore (lv' := [(5, .int 0), (0, .ref o), (1, .int k), (2, .int a), (3, .int b)]) hx hb dX3_rule_140 hl (by decide) rfl (fun ls hl => ?_)
        refine lv_iload_n hx hb dX3_rule_142 rfl (lv_at hl 2 rfl) ?_
        refine lv_bipush (v := 14) hx hb dX3_rule_143 (by decide) ?_
        refine lv_icmp_ne (tgt := 181) hx hb dX3_rule_145 (by decide) (fun c145 => ?_) (fun c145 => ?_)
        · refine lv_aload_n hx hb dX3_rule_181 rfl (lv_at hl 1 rfl) ?_
          refine m_get5 hx hb hts hin hown I L22 dX3_rule_182 ?_
          refine lv_aload_n hx hb dX3_rule_185 rfl (lv_at hl 1 rfl) ?_
          refine m_get4 hx hb hts hin hown I L65 dX3_rule_186 (x := S0.1 4) rfl ?_
          refine lv_iload_n hx hb dX3_rule_189 rfl (lv_at hl 2 rfl) ?_
          refine m_ast5 hx hb I (by rw [e4]; exact vp_in_nI (show N < 40 by omega) (by decide)) dX3_rule_190 (fun H locs I => ?_)
          refine lv_aload_n hx hb dX3_rule_191 rfl (lv_at hl 1 rfl) ?_
          refine m_get6 hx hb hts hin hown I L25 dX3_rule_192 ?_
          refine lv_aload_n hx hb dX3_rule_195 rfl (lv_at hl 1 rfl) ?_
          refine m_get4 hx hb hts hin hown I L65 dX3_rule_196 (x := S0.1 4) rfl ?_
          refine lv_iload_n hx hb dX3_rule_199 rfl (lv_at hl 3 rfl) ?_
          refine m_ast6 hx hb I (by rw [e4]; exact vp_in_nI (show N < 40 by omega) (by decide)) dX3_rule_200 (fun H locs I => ?_)
          refine lv_aload_n hx hb dX3_rule_201 rfl (lv_at hl 1 rfl) ?_
          refine m_get7 hx hb hts hin hown I L28 dX3_rule_202 ?_
          refine lv_aload_n hx hb dX3_rule_205 rfl (lv_at hl 1 rfl) ?_
          refine m_get4 hx hb hts hin hown I L65 dX3_rule_206 (x := S0.1 4) rfl ?_
          refine lv_iload_n hx hb dX3_rule_209 rfl (lv_at hl 4 rfl) ?_
          refine m_ast7 hx hb I (by rw [e4]; exact vp_in_nI (show N < 40 by omega) (by decide)) dX3_rule_210 (fun H locs I => ?_)
          refine lv_aload_n hx hb dX3_rule_211 rfl (lv_at hl 1 rfl) ?_
          refine m_get8 hx hb hts hin hown I L31 dX3_rule_212 ?_
          refine lv_aload_n hx hb dX3_rule_215 rfl (lv_at hl 1 rfl) ?_
          refine m_get4 hx hb hts hin hown I L65 dX3_rule_216 (x := S0.1 4) rfl ?_
          refine lv_iload hx hb dX3_rule_219 (lv_at hl 0 rfl) ?_
          refine m_ast8 hx hb I (by rw [e4]; exact vp_in_nI (show N < 40 by omega) (by decide)) dX3_rule_221 (fun H locs I => ?_)
          refine lv_aload_n hx hb dX3_rule_222 rfl (lv_at hl 1 rfl) ?_
          refine m_get9 hx hb hts hin hown I L34 dX3_rule_223 ?_
          refine lv_aload_n hx hb dX3_rule_226 rfl (lv_at hl 1 rfl) ?_
          refine m_get4 hx hb hts hin hown I L65 dX3_rule_227 (x := S0.1 4) rfl ?_
          refine lv_iload_n hx hb dX3_rule_230 rfl (lv_at hl 2 rfl) ?_
          refine lv_bipush (v := 6) hx hb dX3_rule_231 (by decide) ?_
          refine lv_icmp_ne (tgt := 245) hx hb dX3_rule_233 (by decide) (fun c233 => ?_) (fun c233 => ?_)
          · refine lv_iconst (v := (-1)) hx hb dX3_rule_245 (by decide) ?_
            refine m_ast9 hx hb I (by rw [e4]; exact vp_in_nI (show N < 40 by omega) (by decide)) dX3_rule_246 (fun H locs I => ?_)
            refine lv_aload_n hx hb dX3_rule_247 rfl (lv_at hl 1 rfl) ?_
            refine m_get10 hx hb hts hin hown I L37 dX3_rule_248 ?_
            refine lv_aload_n hx hb dX3_rule_251 rfl (lv_at hl 1 rfl) ?_
            refine m_get4 hx hb hts hin hown I L65 dX3_rule_252 (x := S0.1 4) rfl ?_
            refine lv_iconst (v := 0) hx hb dX3_rule_255 (by decide) ?_
            refine m_ast10 hx hb I (by rw [e4]; exact vp_in_nI (show N < 40 by omega) (by decide)) dX3_rule_256 (fun H locs I => ?_)
            refine lv_aload_n hx hb dX3_rule_257 rfl (lv_at hl 1 rfl) ?_
            refine lv_dup hx hb dX3_rule_258 rfl ?_
            refine m_get4 hx hb hts hin hown I L65 dX3_rule_259 (x := S0.1 4) rfl ?_
            refine lv_iconst (v := 1) hx hb dX3_rule_262 (by decide) ?_
            refine lv_iadd hx hb dX3_rule_263 ?_
            refine m_put4 hx hb hts hin hown I L65 dX3_rule_264 (fun H locs I => ?_)
            refine lv_aload_n hx hb dX3_rule_267 rfl (lv_at hl 1 rfl) ?_
            refine m_get4 hx hb hts hin hown I L65 dX3_rule_268 (x := (S0.1 4) + 1) rfl ?_
            refine lv_iconst (v := 1) hx hb dX3_rule_271 (by decide) ?_
            refine lv_isub hx hb dX3_rule_272 ?_
            refine m_iret hx hb hr hlocks I dX3_rule_273 ?_
            rw [a_rule_pos hg, if_neg c119, if_neg c145, if_neg c127]
            unfold f_add
            rw [if_neg c233]
            exact ⟨rfl, e_eq.rf _⟩
          · refine lv_aload_n hx hb dX3_rule_236 rfl (lv_at hl 1 rfl) ?_
            refine m_get1 hx hb hts hin hown I L13 dX3_rule_237 ?_
            refine lv_iload_n hx hb dX3_rule_240 rfl (lv_at hl 3 rfl) ?_
            refine m_ald1 hx hb I (ix_of (gD.resolve_left (fun q => q.1 c233)) (by decide) (by decide)) dX3_rule_241 (x := S0.2 1 a.toNatClampNeg) rfl ?_
            refine lv_goto (tgt := 246) hx hb dX3_rule_242 (by decide) ?_
            refine m_ast9 hx hb I (by rw [e4]; exact vp_in_nI (show N < 40 by omega) (by decide)) dX3_rule_246 (fun H locs I => ?_)
            refine lv_aload_n hx hb dX3_rule_247 rfl (lv_at hl 1 rfl) ?_
            refine m_get10 hx hb hts hin hown I L37 dX3_rule_248 ?_
            refine lv_aload_n hx hb dX3_rule_251 rfl (lv_at hl 1 rfl) ?_
            refine m_get4 hx hb hts hin hown I L65 dX3_rule_252 (x := S0.1 4) rfl ?_
            refine lv_iconst (v := 0) hx hb dX3_rule_255 (by decide) ?_
            refine m_ast10 hx hb I (by rw [e4]; exact vp_in_nI (show N < 40 by omega) (by decide)) dX3_rule_256 (fun H locs I => ?_)
            refine lv_aload_n hx hb dX3_rule_257 rfl (lv_at hl 1 rfl) ?_
            refine lv_dup hx hb dX3_rule_258 rfl ?_
            refine m_get4 hx hb hts hin hown I L65 dX3_rule_259 (x := S0.1 4) rfl ?_
            refine lv_iconst (v := 1) hx hb dX3_rule_262 (by decide) ?_
            refine lv_iadd hx hb dX3_rule_263 ?_
            refine m_put4 hx hb hts hin hown I L65 dX3_rule_264 (fun H locs I => ?_)
            refine lv_aload_n hx hb dX3_rule_267 rfl (lv_at hl 1 rfl) ?_
            refine m_get4 hx hb hts hin hown I L65 dX3_rule_268 (x := (S0.1 4) + 1) rfl ?_
            refine lv_iconst (v := 1) hx hb dX3_rule_271 (by decide) ?_
            refine lv_isub hx hb dX3_rule_272 ?_
            refine m_iret hx hb hr hlocks I dX3_rule_273 ?_
            rw [a_rule_pos hg, if_neg c119, if_neg c145, if_neg c127]
            unfold f_add
            rw [if_pos c233]
            exact ⟨rfl, e_eq.rf _⟩
        · refine lv_aload_n hx hb dX3_rule_148 rfl (lv_at hl 1 rfl) ?_
          refine m_callv (rest := []) ⟨hx, hb, hml, hown, hts⟩ (c_X3_startsCall l D o ad cA S0) (cwV 0 hts gX3_rule_X3_startsCall rfl rfl rfl (by decide +kernel) ⟨Nat.le_of_ble_eq_true rfl, Nat.le_of_ble_eq_true rfl⟩) I rfl hl.1 rfl (Nat.le_of_ble_eq_true rfl) dX3_rule_149 ⟨Nat.le_refl _, Nat.le_refl _⟩ (fun S149 H locs p149 I => ?_)
          rw [show S149 = e_start S0 from p149] at I
          refine lv_aload_n hx hb dX3_rule_152 rfl (lv_at hl 1 rfl) ?_
          refine lv_iload_n hx hb dX3_rule_153 rfl (lv_at hl 3 rfl) ?_
          refine lv_iload_n hx hb dX3_rule_154 rfl (lv_at hl 4 rfl) ?_
          refine m_gives (hN.sm (e_start_sm S0)) (rule_of hN (gB.resolve_left (fun q => q.2 c145))) (e_start_st S0) rfl ⟨hx, hb, hml, hown, hts⟩ gX3_rule_X3_gives ⟨Nat.le_of_ble_eq_true rfl, Nat.le_of_ble_eq_true rfl⟩ ⟨Nat.le_refl _, Nat.le_refl _⟩ I hl.1 (Nat.le_of_ble_eq_true rfl) dX3_rule_155 (fun h155 S155 H locs v155 e155 i155 I => ?_) (fun h155 S155 H locs e155 i155 I => ?_)
          · refine lv_istore (lv' := [(6, .int 1), (5, .int 0), (0, .ref o), (1, .int k), (2, .int a), (3, .int b)]) hx hb dX3_rule_158 hl (by decide) rfl (fun ls hl => ?_)
            refine lv_aload_n hx hb dX3_rule_160 rfl (lv_at hl 2 rfl) ?_
            refine lv_iconst (v := 1) hx hb dX3_rule_161 (by decide) ?_
            refine m_calli (rest := []) ⟨hx, hb, hml, hown, hts⟩ (c_X3_ends l D o ad cA S155 1) (cwV 1 hts gX3_rule_X3_ends rfl rfl rfl (by decide +kernel) ⟨Nat.le_of_ble_eq_true rfl, Nat.le_of_ble_eq_true rfl⟩) I rfl hl.1 rfl (Nat.le_of_ble_eq_true rfl) dX3_rule_162 ⟨Nat.le_refl _, Nat.le_refl _⟩ (fun r162 S162 H locs p162 I => ?_)
            have f1 : f_ends 1 S155 = (1, sF S155 19 (S155.1 18)) := by unfold f_ends; rw [if_pos (by rw [e155.1 16 (by decide) (by decide), h155]; exact Int32.le_refl _)]
            rw [f1] at p162
            obtain ⟨rfl, rfl⟩ := Prod.mk.inj p162
            have e4 : S155.1 4 = nI N := (e155.1 4 (by decide) (by decide)).trans ((ev_sm 40 a b (e_start S0)).1.trans e4)
            refine lv_istore (lv' := [(7, .int 1), (6, .int 1), (5, .int 0), (0, .ref o), (1, .int k), (2, .int a), (3, .int b)]) hx hb dX3_rule_165 hl (by decide) rfl (fun ls hl => ?_)
            refine lv_iload hx hb dX3_rule_167 (lv_at hl 0 rfl) ?_
            refine lv_if_ge (tgt := 175) hx hb dX3_rule_169 (by decide) (fun _ => ?_) (fun h => absurd h (by decide))
            refine lv_aload_n hx hb dX3_rule_175 rfl (lv_at hl 3 rfl) ?_
            refine m_get26 hx hb hts hin hown I L109 dX3_rule_176 (x := S155.1 26) rfl ?_
            refine lv_istore (lv' := [(5, .int (S155.1 26)), (7, .int 1), (6, .int 1), (0, .ref o), (1, .int k), (2, .int a), (3, .int b)]) hx hb dX3_rule_179 hl (by decide) rfl (fun ls hl => ?_)
            refine lv_aload_n hx hb dX3_rule_181 rfl (lv_at hl 3 rfl) ?_
            refine m_get5 hx hb hts hin hown I L22 dX3_rule_182 ?_
            refine lv_aload_n hx hb dX3_rule_185 rfl (lv_at hl 3 rfl) ?_
            refine m_get4 hx hb hts hin hown I L65 dX3_rule_186 (x := S155.1 4) rfl ?_
            refine lv_iload_n hx hb dX3_rule_189 rfl (lv_at hl 4 rfl) ?_
            refine m_ast5 hx hb I (by rw [e4]; exact vp_in_nI (show N < 40 by omega) (by decide)) dX3_rule_190 (fun H locs I => ?_)
            refine lv_aload_n hx hb dX3_rule_191 rfl (lv_at hl 3 rfl) ?_
            refine m_get6 hx hb hts hin hown I L25 dX3_rule_192 ?_
            refine lv_aload_n hx hb dX3_rule_195 rfl (lv_at hl 3 rfl) ?_
            refine m_get4 hx hb hts hin hown I L65 dX3_rule_196 (x := S155.1 4) rfl ?_
            refine lv_iload_n hx hb dX3_rule_199 rfl (lv_at hl 5 rfl) ?_
            refine m_ast6 hx hb I (by rw [e4]; exact vp_in_nI (show N < 40 by omega) (by decide)) dX3_rule_200 (fun H locs I => ?_)
            refine lv_aload_n hx hb dX3_rule_201 rfl (lv_at hl 3 rfl) ?_
            refine m_get7 hx hb hts hin hown I L28 dX3_rule_202 ?_
            refine lv_aload_n hx hb dX3_rule_205 rfl (lv_at hl 3 rfl) ?_
            refine m_get4 hx hb hts hin hown I L65 dX3_rule_206 (x := S155.1 4) rfl ?_
            refine lv_iload_n hx hb dX3_rule_209 rfl (lv_at hl 6 rfl) ?_
            refine m_ast7 hx hb I (by rw [e4]; exact vp_in_nI (show N < 40 by omega) (by decide)) dX3_rule_210 (fun H locs I => ?_)
            refine lv_aload_n hx hb dX3_rule_211 rfl (lv_at hl 3 rfl) ?_
            refine m_get8 hx hb hts hin hown I L31 dX3_rule_212 ?_
            refine lv_aload_n hx hb dX3_rule_215 rfl (lv_at hl 3 rfl) ?_
            refine m_get4 hx hb hts hin hown I L65 dX3_rule_216 (x := S155.1 4) rfl ?_
            refine lv_iload hx hb dX3_rule_219 (lv_at hl 0 rfl) ?_
            refine m_ast8 hx hb I (by rw [e4]; exact vp_in_nI (show N < 40 by omega) (by decide)) dX3_rule_221 (fun H locs I => ?_)
            refine lv_aload_n hx hb dX3_rule_222 rfl (lv_at hl 3 rfl) ?_
            refine m_get9 hx hb hts hin hown I L34 dX3_rule_223 ?_
            refine lv_aload_n hx hb dX3_rule_226 rfl (lv_at hl 3 rfl) ?_
            refine m_get4 hx hb hts hin hown I L65 dX3_rule_227 (x := S155.1 4) rfl ?_
            refine lv_iload_n hx hb dX3_rule_230 rfl (lv_at hl 4 rfl) ?_
            refine lv_bipush (v := 6) hx hb dX3_rule_231 (by decide) ?_
            refine lv_icmp_ne (tgt := 245) hx hb dX3_rule_233 (by decide) (fun _ => ?_) (fun h => absurd (c145.symm.trans h) (by decide))
            refine lv_iconst (v := (-1)) hx hb dX3_rule_245 (by decide) ?_
            refine m_ast9 hx hb I (by rw [e4]; exact vp_in_nI (show N < 40 by omega) (by decide)) dX3_rule_246 (fun H locs I => ?_)
            refine lv_aload_n hx hb dX3_rule_247 rfl (lv_at hl 3 rfl) ?_
            refine m_get10 hx hb hts hin hown I L37 dX3_rule_248 ?_
            refine lv_aload_n hx hb dX3_rule_251 rfl (lv_at hl 3 rfl) ?_
            refine m_get4 hx hb hts hin hown I L65 dX3_rule_252 (x := S155.1 4) rfl ?_
            refine lv_iconst (v := 0) hx hb dX3_rule_255 (by decide) ?_
            refine m_ast10 hx hb I (by rw [e4]; exact vp_in_nI (show N < 40 by omega) (by decide)) dX3_rule_256 (fun H locs I => ?_)
            refine lv_aload_n hx hb dX3_rule_257 rfl (lv_at hl 3 rfl) ?_
            refine lv_dup hx hb dX3_rule_258 rfl ?_
            refine m_get4 hx hb hts hin hown I L65 dX3_rule_259 (x := S155.1 4) rfl ?_
            refine lv_iconst (v := 1) hx hb dX3_rule_262 (by decide) ?_
            refine lv_iadd hx hb dX3_rule_263 ?_
            refine m_put4 hx hb hts hin hown I L65 dX3_rule_264 (fun H locs I => ?_)
            refine lv_aload_n hx hb dX3_rule_267 rfl (lv_at hl 3 rfl) ?_
            refine m_get4 hx hb hts hin hown I L65 dX3_rule_268 (x := (S155.1 4) + 1) rfl ?_
            refine lv_iconst (v := 1) hx hb dX3_rule_271 (by decide) ?_
            refine lv_isub hx hb dX3_rule_272 ?_
            refine m_iret hx hb hr hlocks I dX3_rule_273 ?_
            rw [a_rule_pos hg, if_neg c119, if_pos c145]
            unfold f_now
            rw [if_pos h155]
            have e5 := f_ends_eq e155 1
            rw [f1] at e5
            have e6 := f_add_eq e5.2 k a b v155
            have hk6 : ¬ k = 6 := fun q => absurd (c145.symm.trans q) (by decide)
            unfold f_add at e6 ⊢
            simp only [if_neg hk6] at e6 ⊢
            exact e6
          · refine lv_istore (lv' := [(6, .int 0), (5, .int 0), (0, .ref o), (1, .int k), (2, .int a), (3, .int b)]) hx hb dX3_rule_158 hl (by decide) rfl (fun ls hl => ?_)
            refine lv_aload_n hx hb dX3_rule_160 rfl (lv_at hl 2 rfl) ?_
            refine lv_iconst (v := 1) hx hb dX3_rule_161 (by decide) ?_
            refine m_calli (rest := []) ⟨hx, hb, hml, hown, hts⟩ (c_X3_ends l D o ad cA S155 1) (cwV 1 hts gX3_rule_X3_ends rfl rfl rfl (by decide +kernel) ⟨Nat.le_of_ble_eq_true rfl, Nat.le_of_ble_eq_true rfl⟩) I rfl hl.1 rfl (Nat.le_of_ble_eq_true rfl) dX3_rule_162 ⟨Nat.le_refl _, Nat.le_refl _⟩ (fun r162 S162 H locs p162 I => ?_)
            refine lv_istore (lv' := [(7, .int r162), (6, .int 0), (5, .int 0), (0, .ref o), (1, .int k), (2, .int a), (3, .int b)]) hx hb dX3_rule_165 hl (by decide) rfl (fun ls hl => ?_)
            refine lv_iload hx hb dX3_rule_167 (lv_at hl 0 rfl) ?_
            refine lv_if_ge (tgt := 175) hx hb dX3_rule_169 (by decide) (fun c169 => ?_) (fun c169 => ?_)
            · have le := ev_le 40 a b (e_start S0) ⟨by show (0 : Int32) ≤ 0; decide, by show (0 : Int32) ≤ 5; decide⟩
              have e16 : S155.1 16 = (ev 40 a b (e_start S0)).2.1 16 := e155.1 16 (by decide) (by decide)
              unfold e_le at le
              rw [← e16] at le h155
              have f1 : (f_ends 1 S155).1 = -10 - S155.1 16 := by
                unfold f_ends
                rw [if_neg (fun q => h155 (Int32.le_antisymm q le.1))]
                rfl
              rw [← p162] at f1
              have f1 : r162 = -10 - S155.1 16 := f1
              rw [f1] at c169
              exact absurd c169 (fail_neg le.1 le.2)
            · refine lv_iload hx hb dX3_rule_172 (lv_at hl 0 rfl) ?_
              refine m_iret hx hb hr hlocks I dX3_rule_174 ?_
              rw [a_rule_pos hg, if_neg c119, if_pos c145, p162]
              unfold f_now
              rw [if_neg h155]
              exact f_ends_eq e155 1
      · refine lv_aload_n hx hb dX3_rule_130 rfl (lv_at hl 0 rfl) ?_
        refine m_get0 hx hb hts hin hown I L7 dX3_rule_131 ?_
        refine lv_iload_n hx hb dX3_rule_134 rfl (lv_at hl 2 rfl) ?_
        refine m_ald0 hx hb I (ix_of (gC.resolve_left (fun q => q.1 c127)) (by decide) (by decide)) dX3_rule_135 (x := S0.2 0 a.toNatClampNeg) rfl ?_
        refine lv_goto (tgt := 140) hx hb dX3_rule_136 (by decide) ?_
        refine lv_istore (lv' := [(5, .int (S0.2 0 a.toNatClampNeg)), (0, .ref o), (1, .int k), (2, .int a), (3, .int b)]) hx hb dX3_rule_140 hl (by decide) rfl (fun ls hl => ?_)
        refine lv_iload_n hx hb dX3_rule_142 rfl (lv_at hl 2 rfl) ?_
        refine lv_bipush (v := 14) hx hb dX3_rule_143 (by decide) ?_
        refine lv_icmp_ne (tgt := 181) hx hb dX3_rule_145 (by decide) (fun _ => ?_) (fun h => absurd (c127.symm.trans h) (by decide))
        refine lv_aload_n hx hb dX3_rule_181 rfl (lv_at hl 1 rfl) ?_
        refine m_get5 hx hb hts hin hown I L22 dX3_rule_182 ?_
        refine lv_aload_n hx hb dX3_rule_185 rfl (lv_at hl 1 rfl) ?_
        refine m_get4 hx hb hts hin hown I L65 dX3_rule_186 (x := S0.1 4) rfl ?_
        refine lv_iload_n hx hb dX3_rule_189 rfl (lv_at hl 2 rfl) ?_
        refine m_ast5 hx hb I (by rw [e4]; exact vp_in_nI (show N < 40 by omega) (by decide)) dX3_rule_190 (fun H locs I => ?_)
        refine lv_aload_n hx hb dX3_rule_191 rfl (lv_at hl 1 rfl) ?_
        refine m_get6 hx hb hts hin hown I L25 dX3_rule_192 ?_
        refine lv_aload_n hx hb dX3_rule_195 rfl (lv_at hl 1 rfl) ?_
        refine m_get4 hx hb hts hin hown I L65 dX3_rule_196 (x := S0.1 4) rfl ?_
        refine lv_iload_n hx hb dX3_rule_199 rfl (lv_at hl 3 rfl) ?_
        refine m_ast6 hx hb I (by rw [e4]; exact vp_in_nI (show N < 40 by omega) (by decide)) dX3_rule_200 (fun H locs I => ?_)
        refine lv_aload_n hx hb dX3_rule_201 rfl (lv_at hl 1 rfl) ?_
        refine m_get7 hx hb hts hin hown I L28 dX3_rule_202 ?_
        refine lv_aload_n hx hb dX3_rule_205 rfl (lv_at hl 1 rfl) ?_
        refine m_get4 hx hb hts hin hown I L65 dX3_rule_206 (x := S0.1 4) rfl ?_
        refine lv_iload_n hx hb dX3_rule_209 rfl (lv_at hl 4 rfl) ?_
        refine m_ast7 hx hb I (by rw [e4]; exact vp_in_nI (show N < 40 by omega) (by decide)) dX3_rule_210 (fun H locs I => ?_)
        refine lv_aload_n hx hb dX3_rule_211 rfl (lv_at hl 1 rfl) ?_
        refine m_get8 hx hb hts hin hown I L31 dX3_rule_212 ?_
        refine lv_aload_n hx hb dX3_rule_215 rfl (lv_at hl 1 rfl) ?_
        refine m_get4 hx hb hts hin hown I L65 dX3_rule_216 (x := S0.1 4) rfl ?_
        refine lv_iload hx hb dX3_rule_219 (lv_at hl 0 rfl) ?_
        refine m_ast8 hx hb I (by rw [e4]; exact vp_in_nI (show N < 40 by omega) (by decide)) dX3_rule_221 (fun H locs I => ?_)
        refine lv_aload_n hx hb dX3_rule_222 rfl (lv_at hl 1 rfl) ?_
        refine m_get9 hx hb hts hin hown I L34 dX3_rule_223 ?_
        refine lv_aload_n hx hb dX3_rule_226 rfl (lv_at hl 1 rfl) ?_
        refine m_get4 hx hb hts hin hown I L65 dX3_rule_227 (x := S0.1 4) rfl ?_
        refine lv_iload_n hx hb dX3_rule_230 rfl (lv_at hl 2 rfl) ?_
        refine lv_bipush (v := 6) hx hb dX3_rule_231 (by decide) ?_
        refine lv_icmp_ne (tgt := 245) hx hb dX3_rule_233 (by decide) (fun _ => ?_) (fun h => absurd (c127.symm.trans h) (by decide))
        refine lv_iconst (v := (-1)) hx hb dX3_rule_245 (by decide) ?_
        refine m_ast9 hx hb I (by rw [e4]; exact vp_in_nI (show N < 40 by omega) (by decide)) dX3_rule_246 (fun H locs I => ?_)
        refine lv_aload_n hx hb dX3_rule_247 rfl (lv_at hl 1 rfl) ?_
        refine m_get10 hx hb hts hin hown I L37 dX3_rule_248 ?_
        refine lv_aload_n hx hb dX3_rule_251 rfl (lv_at hl 1 rfl) ?_
        refine m_get4 hx hb hts hin hown I L65 dX3_rule_252 (x := S0.1 4) rfl ?_
        refine lv_iconst (v := 0) hx hb dX3_rule_255 (by decide) ?_
        refine m_ast10 hx hb I (by rw [e4]; exact vp_in_nI (show N < 40 by omega) (by decide)) dX3_rule_256 (fun H locs I => ?_)
        refine lv_aload_n hx hb dX3_rule_257 rfl (lv_at hl 1 rfl) ?_
        refine lv_dup hx hb dX3_rule_258 rfl ?_
        refine m_get4 hx hb hts hin hown I L65 dX3_rule_259 (x := S0.1 4) rfl ?_
        refine lv_iconst (v := 1) hx hb dX3_rule_262 (by decide) ?_
        refine lv_iadd hx hb dX3_rule_263 ?_
        refine m_put4 hx hb hts hin hown I L65 dX3_rule_264 (fun H locs I => ?_)
        refine lv_aload_n hx hb dX3_rule_267 rfl (lv_at hl 1 rfl) ?_
        refine m_get4 hx hb hts hin hown I L65 dX3_rule_268 (x := (S0.1 4) + 1) rfl ?_
        refine lv_iconst (v := 1) hx hb dX3_rule_271 (by decide) ?_
        refine lv_isub hx hb dX3_rule_272 ?_
        refine m_iret hx hb hr hlocks I dX3_rule_273 ?_
        rw [a_rule_pos hg, if_neg c119, if_neg (show ¬ k = 14 from fun q => absurd (c127.symm.trans q) (by decide)), if_pos c127]
        unfold f_add
        rw [if_neg (show ¬ k = 6 from fun q => absurd (c127.symm.trans q) (by decide))]
        exact ⟨rfl, e_eq.rf _⟩
    · refine lv_bipush (v := (-2)) hx hb dX3_rule_122 (by decide) ?_
      exact m_iret hx hb hr hlocks I dX3_rule_124 (by rw [a_rule_pos hg, if_pos c119]; exact ⟨rfl, e_eq.rf _⟩)
  have J78 : ∀ (H : Heap) (locs : List Loc) (ls : Array Slot), (0 ≤ k ∧ k ≤ 17) → ((¬ ((8 ≤ k ∧ k ≤ 11) ∨ k = 16) ∧ ¬ k = 14) ∨ (0 ≤ a ∧ a ≤ S0.1 4 - 1)) → ((¬ k = 4 ∧ ¬ k = 5 ∧ ¬ k = 12) ∨ (0 ≤ a ∧ a ≤ 7)) → ((¬ k = 6 ∧ ¬ k = 7) ∨ (0 ≤ a ∧ a ≤ 3)) → m_I D o ad cA S0 s s.heap H locs → lv_has ls 8 [(0, .ref o), (1, .int k), (2, .int a), (3, .int b)] → W p l e (headSpec wsX3_rule { frames := 4, cells := 0, slots := 0, locals := 97 }).room s m (([.ref o, .int k, .int a, .int b] : List Value).toArray) below meth c H locs 0 0 (MQ below (va_Qi (fun v S => e_R (a_rule k a b S0) (v, S)) (m_B D o ad cA) (m_A o ad)) (([.ref o, .int k, .int a, .int b] : List Value).toArray) s 0 0 (m_A o ad)) (F0 m 78 ls []) := by
    intro H locs ls gA gB gC gD I hl
    refine lv_iload_n hx hb dX3_rule_78 rfl (lv_at hl 1 rfl) ?_
    refine m_asks ⟨hx, hb, hml, hown, hts⟩ gX3_rule_X3_asks ⟨Nat.le_of_ble_eq_true rfl, Nat.le_of_ble_eq_true rfl⟩ ⟨Nat.le_refl _, Nat.le_refl _⟩ hl.1 (Nat.le_of_ble_eq_true rfl) dX3_rule_79 (fun h79 => ?_) (fun h79 => ?_)
    · refine lv_if_eq (tgt := 99) hx hb dX3_rule_82 (by decide) (fun h => absurd h (by decide)) (fun _ => ?_)
      refine lv_iload_n hx hb dX3_rule_85 rfl (lv_at hl 1 rfl) ?_
      refine lv_bipush (v := 9) hx hb dX3_rule_86 (by decide) ?_
      refine lv_icmp_eq (tgt := 99) hx hb dX3_rule_88 (by decide) (fun c88 => ?_) (fun c88 => ?_)
      · refine lv_iconst (v := 1) hx hb dX3_rule_99 (by decide) ?_
        refine lv_goto (tgt := 104) hx hb dX3_rule_100 (by decide) ?_
        refine lv_istore (lv' := [(4, .int 1), (0, .ref o), (1, .int k), (2, .int a), (3, .int b)]) hx hb dX3_rule_104 hl (by decide) rfl (fun ls hl => ?_)
        refine lv_iload hx hb dX3_rule_106 (lv_at hl 0 rfl) ?_
        refine lv_if_ne (tgt := 113) hx hb dX3_rule_108 (by decide) (fun _ => ?_) (fun h => absurd h (by decide))
        exact J113 H locs ls gA gB gC gD (by simp [h79, c88]) I (lv_sub hl [1, 2, 3, 4] rfl)
      · refine lv_aload_n hx hb dX3_rule_91 rfl (lv_at hl 0 rfl) ?_
        refine lv_iload_n hx hb dX3_rule_92 rfl (lv_at hl 3 rfl) ?_
        refine m_isRule ⟨hx, hb, hml, hown, hts⟩ gX3_rule_X3_isRule ⟨Nat.le_of_ble_eq_true rfl, Nat.le_of_ble_eq_true rfl⟩ ⟨Nat.le_refl _, Nat.le_refl _⟩ I hl.1 (Nat.le_of_ble_eq_true rfl) dX3_rule_93 (fun h93 H locs I => ?_) (fun h93 H locs I => ?_)
        · refine lv_if_eq (tgt := 103) hx hb dX3_rule_96 (by decide) (fun h => absurd h (by decide)) (fun _ => ?_)
          refine lv_iconst (v := 1) hx hb dX3_rule_99 (by decide) ?_
          refine lv_goto (tgt := 104) hx hb dX3_rule_100 (by decide) ?_
          refine lv_istore (lv' := [(4, .int 1), (0, .ref o), (1, .int k), (2, .int a), (3, .int b)]) hx hb dX3_rule_104 hl (by decide) rfl (fun ls hl => ?_)
          refine lv_iload hx hb dX3_rule_106 (lv_at hl 0 rfl) ?_
          refine lv_if_ne (tgt := 113) hx hb dX3_rule_108 (by decide) (fun _ => ?_) (fun h => absurd h (by decide))
          exact J113 H locs ls gA gB gC gD (by simp [h79, c88, h93]) I (lv_sub hl [1, 2, 3, 4] rfl)
        · refine lv_if_eq (tgt := 103) hx hb dX3_rule_96 (by decide) (fun _ => ?_) (fun h => absurd h (by decide))
          refine lv_iconst (v := 0) hx hb dX3_rule_103 (by decide) ?_
          refine lv_istore (lv' := [(4, .int 0), (0, .ref o), (1, .int k), (2, .int a), (3, .int b)]) hx hb dX3_rule_104 hl (by decide) rfl (fun ls hl => ?_)
          refine lv_iload hx hb dX3_rule_106 (lv_at hl 0 rfl) ?_
          refine lv_if_ne (tgt := 113) hx hb dX3_rule_108 (by decide) (fun h => absurd h (by decide)) (fun _ => ?_)
          refine lv_iconst (v := (-1)) hx hb dX3_rule_111 (by decide) ?_
          exact m_iret hx hb hr hlocks I dX3_rule_112 (by rw [a_rule_neg (fun q => absurd q.2.2.2.2 (by simp [h79, c88, h93]))]; exact ⟨rfl, e_eq.rf _⟩)
    · refine lv_if_eq (tgt := 99) hx hb dX3_rule_82 (by decide) (fun _ => ?_) (fun h => absurd h (by decide))
      refine lv_iconst (v := 1) hx hb dX3_rule_99 (by decide) ?_
      refine lv_goto (tgt := 104) hx hb dX3_rule_100 (by decide) ?_
      refine lv_istore (lv' := [(4, .int 1), (0, .ref o), (1, .int k), (2, .int a), (3, .int b)]) hx hb dX3_rule_104 hl (by decide) rfl (fun ls hl => ?_)
      refine lv_iload hx hb dX3_rule_106 (lv_at hl 0 rfl) ?_
      refine lv_if_ne (tgt := 113) hx hb dX3_rule_108 (by decide) (fun _ => ?_) (fun h => absurd h (by decide))
      exact J113 H locs ls gA gB gC gD (by simp [h79]) I (lv_sub hl [1, 2, 3, 4] rfl)
  have J57 : ∀ (H : Heap) (locs : List Loc) (ls : Array Slot), (0 ≤ k ∧ k ≤ 17) → ((¬ ((8 ≤ k ∧ k ≤ 11) ∨ k = 16) ∧ ¬ k = 14) ∨ (0 ≤ a ∧ a ≤ S0.1 4 - 1)) → ((¬ k = 4 ∧ ¬ k = 5 ∧ ¬ k = 12) ∨ (0 ≤ a ∧ a ≤ 7)) → m_I D o ad cA S0 s s.heap H locs → lv_has ls 8 [(0, .ref o), (1, .int k), (2, .int a), (3, .int b)] → W p l e (headSpec wsX3_rule { frames := 4, cells := 0, slots := 0, locals := 97 }).room s m (([.ref o, .int k, .int a, .int b] : List Value).toArray) below meth c H locs 0 0 (MQ below (va_Qi (fun v S => e_R (a_rule k a b S0) (v, S)) (m_B D o ad cA) (m_A o ad)) (([.ref o, .int k, .int a, .int b] : List Value).toArray) s 0 0 (m_A o ad)) (F0 m 57 ls []) := by
    intro H locs ls gA gB gC I hl
    refine lv_iload_n hx hb dX3_rule_57 rfl (lv_at hl 1 rfl) ?_
    refine lv_bipush (v := 6) hx hb dX3_rule_58 (by decide) ?_
    refine lv_icmp_eq (tgt := 69) hx hb dX3_rule_60 (by decide) (fun c60 => ?_) (fun c60 => ?_)
    · refine lv_iload_n hx hb dX3_rule_69 rfl (lv_at hl 2 rfl) ?_
      refine lv_iconst (v := 0) hx hb dX3_rule_70 (by decide) ?_
      refine lv_iconst (v := 3) hx hb dX3_rule_71 (by decide) ?_
      refine m_in ⟨hx, hb, hml, hown, hts⟩ gX3_rule_X3_in ⟨Nat.le_of_ble_eq_true rfl, Nat.le_of_ble_eq_true rfl⟩ ⟨Nat.le_refl _, Nat.le_refl _⟩ hl.1 (Nat.le_of_ble_eq_true rfl) dX3_rule_72 (fun h72 => ?_) (fun h72 => ?_)
      · refine lv_if_eq (tgt := 103) hx hb dX3_rule_75 (by decide) (fun h => absurd h (by decide)) (fun _ => ?_)
        exact J78 H locs ls gA gB gC (by simp [c60, h72]) I (lv_sub hl [0, 1, 2, 3] rfl)
      · refine lv_if_eq (tgt := 103) hx hb dX3_rule_75 (by decide) (fun _ => ?_) (fun h => absurd h (by decide))
        refine lv_iconst (v := 0) hx hb dX3_rule_103 (by decide) ?_
        refine lv_istore (lv' := [(4, .int 0), (0, .ref o), (1, .int k), (2, .int a), (3, .int b)]) hx hb dX3_rule_104 hl (by decide) rfl (fun ls hl => ?_)
        refine lv_iload hx hb dX3_rule_106 (lv_at hl 0 rfl) ?_
        refine lv_if_ne (tgt := 113) hx hb dX3_rule_108 (by decide) (fun h => absurd h (by decide)) (fun _ => ?_)
        refine lv_iconst (v := (-1)) hx hb dX3_rule_111 (by decide) ?_
        exact m_iret hx hb hr hlocks I dX3_rule_112 (by rw [a_rule_neg (fun q => absurd q.2.2.2.1 (by simp [c60, h72]))]; exact ⟨rfl, e_eq.rf _⟩)
    · refine lv_iload_n hx hb dX3_rule_63 rfl (lv_at hl 1 rfl) ?_
      refine lv_bipush (v := 7) hx hb dX3_rule_64 (by decide) ?_
      refine lv_icmp_ne (tgt := 78) hx hb dX3_rule_66 (by decide) (fun c66 => ?_) (fun c66 => ?_)
      · exact J78 H locs ls gA gB gC (by simp [c60, c66]) I (lv_sub hl [0, 1, 2, 3] rfl)
      · refine lv_iload_n hx hb dX3_rule_69 rfl (lv_at hl 2 rfl) ?_
        refine lv_iconst (v := 0) hx hb dX3_rule_70 (by decide) ?_
        refine lv_iconst (v := 3) hx hb dX3_rule_71 (by decide) ?_
        refine m_in ⟨hx, hb, hml, hown, hts⟩ gX3_rule_X3_in ⟨Nat.le_of_ble_eq_true rfl, Nat.le_of_ble_eq_true rfl⟩ ⟨Nat.le_refl _, Nat.le_refl _⟩ hl.1 (Nat.le_of_ble_eq_true rfl) dX3_rule_72 (fun h72 => ?_) (fun h72 => ?_)
        · refine lv_if_eq (tgt := 103) hx hb dX3_rule_75 (by decide) (fun h => absurd h (by decide)) (fun _ => ?_)
          exact J78 H locs ls gA gB gC (by simp [c60, c66, h72]) I (lv_sub hl [0, 1, 2, 3] rfl)
        · refine lv_if_eq (tgt := 103) hx hb dX3_rule_75 (by decide) (fun _ => ?_) (fun h => absurd h (by decide))
          refine lv_iconst (v := 0) hx hb dX3_rule_103 (by decide) ?_
          refine lv_istore (lv' := [(4, .int 0), (0, .ref o), (1, .int k), (2, .int a), (3, .int b)]) hx hb dX3_rule_104 hl (by decide) rfl (fun ls hl => ?_)
          refine lv_iload hx hb dX3_rule_106 (lv_at hl 0 rfl) ?_
          refine lv_if_ne (tgt := 113) hx hb dX3_rule_108 (by decide) (fun h => absurd h (by decide)) (fun _ => ?_)
          refine lv_iconst (v := (-1)) hx hb dX3_rule_111 (by decide) ?_
          exact m_iret hx hb hr hlocks I dX3_rule_112 (by rw [a_rule_neg (fun q => absurd q.2.2.2.1 (by simp [c60, c66, h72]))]; exact ⟨rfl, e_eq.rf _⟩)
  have J31 : ∀ (H : Heap) (locs : List Loc) (ls : Array Slot), (0 ≤ k ∧ k ≤ 17) → ((¬ ((8 ≤ k ∧ k ≤ 11) ∨ k = 16) ∧ ¬ k = 14) ∨ (0 ≤ a ∧ a ≤ S0.1 4 - 1)) → m_I D o ad cA S0 s s.heap H locs → lv_has ls 8 [(0, .ref o), (1, .int k), (2, .int a), (3, .int b)] → W p l e (headSpec wsX3_rule { frames := 4, cells := 0, slots := 0, locals := 97 }).room s m (([.ref o, .int k, .int a, .int b] : List Value).toArray) below meth c H locs 0 0 (MQ below (va_Qi (fun v S => e_R (a_rule k a b S0) (v, S)) (m_B D o ad cA) (m_A o ad)) (([.ref o, .int k, .int a, .int b] : List Value).toArray) s 0 0 (m_A o ad)) (F0 m 31 ls []) := by
    intro H locs ls gA gB I hl
    refine lv_iload_n hx hb dX3_rule_31 rfl (lv_at hl 1 rfl) ?_
    refine lv_iconst (v := 4) hx hb dX3_rule_32 (by decide) ?_
    refine lv_icmp_eq (tgt := 47) hx hb dX3_rule_33 (by decide) (fun c33 => ?_) (fun c33 => ?_)
    · refine lv_iload_n hx hb dX3_rule_47 rfl (lv_at hl 2 rfl) ?_
      refine lv_iconst (v := 0) hx hb dX3_rule_48 (by decide) ?_
      refine lv_bipush (v := 7) hx hb dX3_rule_49 (by decide) ?_
      refine m_in ⟨hx, hb, hml, hown, hts⟩ gX3_rule_X3_in ⟨Nat.le_of_ble_eq_true rfl, Nat.le_of_ble_eq_true rfl⟩ ⟨Nat.le_refl _, Nat.le_refl _⟩ hl.1 (Nat.le_of_ble_eq_true rfl) dX3_rule_51 (fun h51 => ?_) (fun h51 => ?_)
      · refine lv_if_eq (tgt := 103) hx hb dX3_rule_54 (by decide) (fun h => absurd h (by decide)) (fun _ => ?_)
        exact J57 H locs ls gA gB (by simp [c33, h51]) I (lv_sub hl [0, 1, 2, 3] rfl)
      · refine lv_if_eq (tgt := 103) hx hb dX3_rule_54 (by decide) (fun _ => ?_) (fun h => absurd h (by decide))
        refine lv_iconst (v := 0) hx hb dX3_rule_103 (by decide) ?_
        refine lv_istore (lv' := [(4, .int 0), (0, .ref o), (1, .int k), (2, .int a), (3, .int b)]) hx hb dX3_rule_104 hl (by decide) rfl (fun ls hl => ?_)
        refine lv_iload hx hb dX3_rule_106 (lv_at hl 0 rfl) ?_
        refine lv_if_ne (tgt := 113) hx hb dX3_rule_108 (by decide) (fun h => absurd h (by decide)) (fun _ => ?_)
        refine lv_iconst (v := (-1)) hx hb dX3_rule_111 (by decide) ?_
        exact m_iret hx hb hr hlocks I dX3_rule_112 (by rw [a_rule_neg (fun q => absurd q.2.2.1 (by simp [c33, h51]))]; exact ⟨rfl, e_eq.rf _⟩)
    · refine lv_iload_n hx hb dX3_rule_36 rfl (lv_at hl 1 rfl) ?_
      refine lv_iconst (v := 5) hx hb dX3_rule_37 (by decide) ?_
      refine lv_icmp_eq (tgt := 47) hx hb dX3_rule_38 (by decide) (fun c38 => ?_) (fun c38 => ?_)
      · refine lv_iload_n hx hb dX3_rule_47 rfl (lv_at hl 2 rfl) ?_
        refine lv_iconst (v := 0) hx hb dX3_rule_48 (by decide) ?_
        refine lv_bipush (v := 7) hx hb dX3_rule_49 (by decide) ?_
        refine m_in ⟨hx, hb, hml, hown, hts⟩ gX3_rule_X3_in ⟨Nat.le_of_ble_eq_true rfl, Nat.le_of_ble_eq_true rfl⟩ ⟨Nat.le_refl _, Nat.le_refl _⟩ hl.1 (Nat.le_of_ble_eq_true rfl) dX3_rule_51 (fun h51 => ?_) (fun h51 => ?_)
        · refine lv_if_eq (tgt := 103) hx hb dX3_rule_54 (by decide) (fun h => absurd h (by decide)) (fun _ => ?_)
          exact J57 H locs ls gA gB (by simp [c33, c38, h51]) I (lv_sub hl [0, 1, 2, 3] rfl)
        · refine lv_if_eq (tgt := 103) hx hb dX3_rule_54 (by decide) (fun _ => ?_) (fun h => absurd h (by decide))
          refine lv_iconst (v := 0) hx hb dX3_rule_103 (by decide) ?_
          refine lv_istore (lv' := [(4, .int 0), (0, .ref o), (1, .int k), (2, .int a), (3, .int b)]) hx hb dX3_rule_104 hl (by decide) rfl (fun ls hl => ?_)
          refine lv_iload hx hb dX3_rule_106 (lv_at hl 0 rfl) ?_
          refine lv_if_ne (tgt := 113) hx hb dX3_rule_108 (by decide) (fun h => absurd h (by decide)) (fun _ => ?_)
          refine lv_iconst (v := (-1)) hx hb dX3_rule_111 (by decide) ?_
          exact m_iret hx hb hr hlocks I dX3_rule_112 (by rw [a_rule_neg (fun q => absurd q.2.2.1 (by simp [c33, c38, h51]))]; exact ⟨rfl, e_eq.rf _⟩)
      · refine lv_iload_n hx hb dX3_rule_41 rfl (lv_at hl 1 rfl) ?_
        refine lv_bipush (v := 12) hx hb dX3_rule_42 (by decide) ?_
        refine lv_icmp_ne (tgt := 57) hx hb dX3_rule_44 (by decide) (fun c44 => ?_) (fun c44 => ?_)
        · exact J57 H locs ls gA gB (by simp [c33, c38, c44]) I (lv_sub hl [0, 1, 2, 3] rfl)
        · refine lv_iload_n hx hb dX3_rule_47 rfl (lv_at hl 2 rfl) ?_
          refine lv_iconst (v := 0) hx hb dX3_rule_48 (by decide) ?_
          refine lv_bipush (v := 7) hx hb dX3_rule_49 (by decide) ?_
          refine m_in ⟨hx, hb, hml, hown, hts⟩ gX3_rule_X3_in ⟨Nat.le_of_ble_eq_true rfl, Nat.le_of_ble_eq_true rfl⟩ ⟨Nat.le_refl _, Nat.le_refl _⟩ hl.1 (Nat.le_of_ble_eq_true rfl) dX3_rule_51 (fun h51 => ?_) (fun h51 => ?_)
          · refine lv_if_eq (tgt := 103) hx hb dX3_rule_54 (by decide) (fun h => absurd h (by decide)) (fun _ => ?_)
            exact J57 H locs ls gA gB (by simp [c33, c38, c44, h51]) I (lv_sub hl [0, 1, 2, 3] rfl)
          · refine lv_if_eq (tgt := 103) hx hb dX3_rule_54 (by decide) (fun _ => ?_) (fun h => absurd h (by decide))
            refine lv_iconst (v := 0) hx hb dX3_rule_103 (by decide) ?_
            refine lv_istore (lv' := [(4, .int 0), (0, .ref o), (1, .int k), (2, .int a), (3, .int b)]) hx hb dX3_rule_104 hl (by decide) rfl (fun ls hl => ?_)
            refine lv_iload hx hb dX3_rule_106 (lv_at hl 0 rfl) ?_
            refine lv_if_ne (tgt := 113) hx hb dX3_rule_108 (by decide) (fun h => absurd h (by decide)) (fun _ => ?_)
            refine lv_iconst (v := (-1)) hx hb dX3_rule_111 (by decide) ?_
            exact m_iret hx hb hr hlocks I dX3_rule_112 (by rw [a_rule_neg (fun q => absurd q.2.2.1 (by simp [c33, c38, c44, h51]))]; exact ⟨rfl, e_eq.rf _⟩)
  refine lv_iload_n hx hb dX3_rule_0 rfl (lv_at hl 1 rfl) ?_
  refine lv_iconst (v := 0) hx hb dX3_rule_1 (by decide) ?_
  refine lv_bipush (v := 17) hx hb dX3_rule_2 (by decide) ?_
  refine m_in ⟨hx, hb, hml, hown, hts⟩ gX3_rule_X3_in ⟨Nat.le_of_ble_eq_true rfl, Nat.le_of_ble_eq_true rfl⟩ ⟨Nat.le_refl _, Nat.le_refl _⟩ hl.1 (Nat.le_of_ble_eq_true rfl) dX3_rule_4 (fun h4 => ?_) (fun h4 => ?_)
  · refine lv_if_eq (tgt := 103) hx hb dX3_rule_7 (by decide) (fun h => absurd h (by decide)) (fun _ => ?_)
    refine lv_iload_n hx hb dX3_rule_10 rfl (lv_at hl 1 rfl) ?_
    refine m_asks ⟨hx, hb, hml, hown, hts⟩ gX3_rule_X3_asks ⟨Nat.le_of_ble_eq_true rfl, Nat.le_of_ble_eq_true rfl⟩ ⟨Nat.le_refl _, Nat.le_refl _⟩ hl.1 (Nat.le_of_ble_eq_true rfl) dX3_rule_11 (fun h11 => ?_) (fun h11 => ?_)
    · refine lv_if_ne (tgt := 23) hx hb dX3_rule_14 (by decide) (fun _ => ?_) (fun h => absurd h (by decide))
      refine lv_aload_n hx hb dX3_rule_23 rfl (lv_at hl 0 rfl) ?_
      refine lv_iload_n hx hb dX3_rule_24 rfl (lv_at hl 2 rfl) ?_
      refine m_isRule ⟨hx, hb, hml, hown, hts⟩ gX3_rule_X3_isRule ⟨Nat.le_of_ble_eq_true rfl, Nat.le_of_ble_eq_true rfl⟩ ⟨Nat.le_refl _, Nat.le_refl _⟩ I hl.1 (Nat.le_of_ble_eq_true rfl) dX3_rule_25 (fun h25 H locs I => ?_) (fun h25 H locs I => ?_)
      · refine lv_if_eq (tgt := 103) hx hb dX3_rule_28 (by decide) (fun h => absurd h (by decide)) (fun _ => ?_)
        exact J31 _ _ ls h4 (by simp [h11, h25]) I (lv_sub hl [0, 1, 2, 3] rfl)
      · refine lv_if_eq (tgt := 103) hx hb dX3_rule_28 (by decide) (fun _ => ?_) (fun h => absurd h (by decide))
        refine lv_iconst (v := 0) hx hb dX3_rule_103 (by decide) ?_
        refine lv_istore (lv' := [(4, .int 0), (0, .ref o), (1, .int k), (2, .int a), (3, .int b)]) hx hb dX3_rule_104 hl (by decide) rfl (fun ls hl => ?_)
        refine lv_iload hx hb dX3_rule_106 (lv_at hl 0 rfl) ?_
        refine lv_if_ne (tgt := 113) hx hb dX3_rule_108 (by decide) (fun h => absurd h (by decide)) (fun _ => ?_)
        refine lv_iconst (v := (-1)) hx hb dX3_rule_111 (by decide) ?_
        exact m_iret hx hb hr hlocks I dX3_rule_112 (by rw [a_rule_neg (fun q => absurd q.2.1 (by simp [h11, h25]))]; exact ⟨rfl, e_eq.rf _⟩)
    · refine lv_if_ne (tgt := 23) hx hb dX3_rule_14 (by decide) (fun h => absurd h (by decide)) (fun _ => ?_)
      refine lv_iload_n hx hb dX3_rule_17 rfl (lv_at hl 1 rfl) ?_
      refine lv_bipush (v := 14) hx hb dX3_rule_18 (by decide) ?_
      refine lv_icmp_ne (tgt := 31) hx hb dX3_rule_20 (by decide) (fun c20 => ?_) (fun c20 => ?_)
      · exact J31 _ _ ls h4 (by simp [h11, c20]) I (lv_sub hl [0, 1, 2, 3] rfl)
      · refine lv_aload_n hx hb dX3_rule_23 rfl (lv_at hl 0 rfl) ?_
        refine lv_iload_n hx hb dX3_rule_24 rfl (lv_at hl 2 rfl) ?_
        refine m_isRule ⟨hx, hb, hml, hown, hts⟩ gX3_rule_X3_isRule ⟨Nat.le_of_ble_eq_true rfl, Nat.le_of_ble_eq_true rfl⟩ ⟨Nat.le_refl _, Nat.le_refl _⟩ I hl.1 (Nat.le_of_ble_eq_true rfl) dX3_rule_25 (fun h25 H locs I => ?_) (fun h25 H locs I => ?_)
        · refine lv_if_eq (tgt := 103) hx hb dX3_rule_28 (by decide) (fun h => absurd h (by decide)) (fun _ => ?_)
          exact J31 _ _ ls h4 (by simp [h11, c20, h25]) I (lv_sub hl [0, 1, 2, 3] rfl)
        · refine lv_if_eq (tgt := 103) hx hb dX3_rule_28 (by decide) (fun _ => ?_) (fun h => absurd h (by decide))
          refine lv_iconst (v := 0) hx hb dX3_rule_103 (by decide) ?_
          refine lv_istore (lv' := [(4, .int 0), (0, .ref o), (1, .int k), (2, .int a), (3, .int b)]) hx hb dX3_rule_104 hl (by decide) rfl (fun ls hl => ?_)
          refine lv_iload hx hb dX3_rule_106 (lv_at hl 0 rfl) ?_
          refine lv_if_ne (tgt := 113) hx hb dX3_rule_108 (by decide) (fun h => absurd h (by decide)) (fun _ => ?_)
          refine lv_iconst (v := (-1)) hx hb dX3_rule_111 (by decide) ?_
          exact m_iret hx hb hr hlocks I dX3_rule_112 (by rw [a_rule_neg (fun q => absurd q.2.1 (by simp [h11, c20, h25]))]; exact ⟨rfl, e_eq.rf _⟩)
  · refine lv_if_eq (tgt := 103) hx hb dX3_rule_7 (by decide) (fun _ => ?_) (fun h => absurd h (by decide))
    refine lv_iconst (v := 0) hx hb dX3_rule_103 (by decide) ?_
    refine lv_istore (lv' := [(4, .int 0), (0, .ref o), (1, .int k), (2, .int a), (3, .int b)]) hx hb dX3_rule_104 hl (by decide) rfl (fun ls hl => ?_)
    refine lv_iload hx hb dX3_rule_106 (lv_at hl 0 rfl) ?_
    refine lv_if_ne (tgt := 113) hx hb dX3_rule_108 (by decide) (fun h => absurd h (by decide)) (fun _ => ?_)
    refine lv_iconst (v := (-1)) hx hb dX3_rule_111 (by decide) ?_
    exact m_iret hx hb hr hlocks I dX3_rule_112 (by rw [a_rule_neg (fun q => h4 q.1)]; exact ⟨rfl, e_eq.rf _⟩)

