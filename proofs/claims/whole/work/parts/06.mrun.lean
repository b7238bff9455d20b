/-! what is well made: the rules and rows of a state; the stack of the rules that wait -/
def rl_ok (S : tr_S) (k : Nat) : Prop :=
  (∃ d : Nat, d ≤ 17 ∧ S.2 5 k = nI d) ∧
  (S.2 5 k = 4 ∨ S.2 5 k = 5 ∨ S.2 5 k = 12 → vp_in (S.2 6 k) 8) ∧
  (S.2 5 k = 6 ∨ S.2 5 k = 7 → vp_in (S.2 6 k) 4) ∧
  ((8 ≤ S.2 5 k ∧ S.2 5 k ≤ 11) ∨ S.2 5 k = 16 ∨ S.2 5 k = 14 → ∃ a, a < k ∧ S.2 6 k = nI a) ∧
  (S.2 5 k = 8 ∨ S.2 5 k = 10 ∨ S.2 5 k = 11 ∨ S.2 5 k = 16 → ∃ b, b < k ∧ S.2 7 k = nI b) ∧
  (S.2 9 k = -1 ∨ ∃ q, q < 48 ∧ S.2 9 k = nI q) ∧ (¬ S.2 5 k = 6 → S.2 9 k = -1)
def wf (S : tr_S) (n : Nat) : Prop := n ≤ 40 ∧ S.1 4 = nI n ∧ (∀ k, k < n → rl_ok S k) ∧ (∀ r, r < 4 → S.2 1 r = -1 ∨ ∃ q, q < 48 ∧ S.2 1 r = nI q) ∧ (∀ q, q < 48 → ∃ z, z ≤ 10 ∧ S.2 2 q = nI z)
/-- what applying rules leaves as it is -/
def e_sm (S T : tr_S) : Prop := T.1 4 = S.1 4 ∧ T.2 1 = S.2 1 ∧ T.2 2 = S.2 2 ∧ T.2 5 = S.2 5 ∧ T.2 6 = S.2 6 ∧ T.2 7 = S.2 7 ∧ T.2 9 = S.2 9 ∧ T.2 3 = S.2 3 ∧ T.2 8 = S.2 8
theorem e_sm.rf (S : tr_S) : e_sm S S := ⟨rfl, rfl, rfl, rfl, rfl, rfl, rfl, rfl, rfl⟩
theorem e_sm.tr {S T U : tr_S} (h : e_sm S T) (g : e_sm T U) : e_sm S U := by
  obtain ⟨a1, a2, a3, a4, a5, a6, a7, a8, a9⟩ := h
  obtain ⟨b1, b2, b3, b4, b5, b6, b7, b8, b9⟩ := g
  exact ⟨b1.trans a1, b2.trans a2, b3.trans a3, b4.trans a4, b5.trans a5, b6.trans a6, b7.trans a7, b8.trans a8, b9.trans a9⟩
theorem wf.sm {S T : tr_S} {n : Nat} (h : wf S n) (g : e_sm S T) : wf T n := by
  obtain ⟨b1, b2, b3, b4, b5, b6, b7, -, -⟩ := g
  obtain ⟨h1, h2, h3, h4, h5⟩ := h
  refine ⟨h1, b1.trans h2, fun k hk => ?_, ?_, ?_⟩
  · have := h3 k hk
    unfold rl_ok at this ⊢
    rw [b4, b5, b6, b7]
    exact this
  · rw [b2]; exact h4
  · rw [b3]; exact h5
theorem nI_m1 {q : Nat} (h : q < 2 ^ 31) : ¬ nI q = -1 := by
  intro e
  have h1 := nI_toInt h
  rw [e] at h1
  have : (-1 : Int32).toInt = -1 := by decide +kernel
  omega
theorem wf.row {S : tr_S} {n : Nat} (h : wf S n) {a : Int32} (ha : a = -1 ∨ ∃ q, q < 48 ∧ a = nI q) (h0 : 0 ≤ a) : s_ok S a := by
  rcases ha with rfl | ⟨q, hq, rfl⟩
  · exact absurd h0 (by decide)
  · refine ⟨vp_in_nI hq (by decide), ?_⟩
    rw [nI_clamp (by omega)]
    exact h.2.2.2.2 q hq
theorem wf.rows {S : tr_S} {n : Nat} (h : wf S n) : w_rows S := fun k hk h0 => h.row (h.2.2.2.1 k hk) h0
theorem wf.g {S : tr_S} {n k : Nat} (h : wf S n) (hk : k < n) : g_ok S (nI k) := by
  have hn := h.1
  have hr := h.2.2.1 k hk
  unfold rl_ok at hr
  obtain ⟨r1, r2, r3, r4, r5, r6, r7⟩ := hr
  unfold g_ok
  rw [nI_clamp (by omega)]
  refine ⟨vp_in_nI (by omega) (by decide), fun q => r2 (q.elim (fun z => Or.inr (Or.inl z)) (fun z => Or.inr (Or.inr z))), fun q => ⟨r3 (Or.inr q), fun h0 => ?_⟩, fun q h0 => h.row r6 h0⟩
  have hi := ix_nI (r3 (Or.inr q)) (by decide)
  exact h.row (h.2.2.2.1 _ hi.2) h0
def j_st (S : tr_S) (w n : Nat) : Prop := S.1 11 = nI w ∧ (∃ st : Nat, st ≤ 64 ∧ w ≤ st ∧ S.1 18 = nI st) ∧ ∀ t, t < w → ∃ k, k < n ∧ S.2 12 t = nI k
theorem j_top {S : tr_S} {w n : Nat} (h : j_st S w n) (hn : n ≤ 40) (hw : ¬ S.1 11 ≤ 0) : ∃ u, w = u + 1 ∧ (S.1 11 - 1).toNatClampNeg = u ∧ S.1 11 - 1 = nI u ∧ vp_in (S.1 11 - 1) 65 ∧ vp_in (S.1 11) 65 ∧ u < 64 ∧ ∃ k, k < n ∧ S.2 12 u = nI k ∧ k < 40 := by
  obtain ⟨h1, ⟨st, h2, h3, h4⟩, h5⟩ := h
  cases w with
  | zero => exact absurd (by rw [h1]; exact nI_0 ▸ Int32.le_refl _) hw
  | succ u =>
    have e : S.1 11 - 1 = nI u := by rw [h1, nI_pred]
    obtain ⟨k, hk, ek⟩ := h5 u (by omega)
    exact ⟨u, rfl, by rw [e, nI_clamp (by omega)], e, by rw [e]; exact vp_in_nI (by omega) (by decide), by rw [h1]; exact vp_in_nI (by omega) (by decide), by omega, k, hk, ek, by omega⟩
def f_pop (S : tr_S) : tr_S := sF S 11 (S.1 11 - 1)
def f_else (u k : Nat) (S : tr_S) : tr_S := (f_begins (S.2 7 k) (S.2 13 u) (sA (sF (sF S 16 0) 24 (S.1 24 + 1)) 14 u 2)).2
def f_top (S : tr_S) : Nat := (S.1 11 - 1).toNatClampNeg
def f_rul (S : tr_S) : Nat := (S.2 12 (f_top S)).toNatClampNeg
def f_rec : Nat → tr_S → tr_S
  | 0, S => S
  | n + 1, S => if S.1 11 ≤ 0 then S else if ¬ S.1 16 = 5 ∧ S.2 5 (f_rul S) = 11 ∧ S.2 14 (f_top S) = 1 then (if (f_else (f_top S) (f_rul S) S).1 16 = 0 then f_else (f_top S) (f_rul S) S else f_rec n (f_else (f_top S) (f_rul S) S)) else f_rec n (f_pop S)
theorem f_begins_sm (r x : Int32) (S : tr_S) : e_sm S (f_begins r x S).2 := by
  unfold f_begins
  split
  · exact ⟨rfl, rfl, rfl, rfl, rfl, rfl, rfl, rfl, rfl⟩
  · exact ⟨rfl, rfl, rfl, rfl, rfl, rfl, rfl, rfl, rfl⟩
theorem f_else_sm (u k : Nat) (S : tr_S) : e_sm S (f_else u k S) := e_sm.tr ⟨rfl, rfl, rfl, rfl, rfl, rfl, rfl, rfl, rfl⟩ (f_begins_sm _ _ _)
theorem f_pop_sm (S : tr_S) : e_sm S (f_pop S) := ⟨rfl, rfl, rfl, rfl, rfl, rfl, rfl, rfl, rfl⟩
theorem f_rec_sm : ∀ (n : Nat) (S : tr_S), e_sm S (f_rec n S)
  | 0, S => e_sm.rf S
  | n + 1, S => by
    unfold f_rec
    split
    · exact e_sm.rf S
    · split
      · split
        · exact f_else_sm _ _ S
        · exact (f_else_sm _ _ S).tr (f_rec_sm n _)
      · exact (f_pop_sm S).tr (f_rec_sm n _)
theorem j_pop {S : tr_S} {u n : Nat} (h : j_st S (u + 1) n) : j_st (f_pop S) u n := by
  obtain ⟨h1, ⟨st, h2, h3, h4⟩, h5⟩ := h
  refine ⟨?_, ⟨st, h2, by omega, h4⟩, fun t ht => h5 t (by omega)⟩
  show S.1 11 - 1 = nI u
  rw [h1, nI_pred]
/-- a state that differs in what the stack's form doesn't show -/
theorem j_like {S T : tr_S} {w n : Nat} (h : j_st S w n) (h1 : T.1 11 = S.1 11) (h2 : T.1 18 = S.1 18) (h3 : T.2 12 = S.2 12) : j_st T w n := by
  unfold j_st at h ⊢
  rw [h1, h2, h3]
  exact h
/-- a rule is begun: it isn't, or it waits at the stack's top -/
theorem j_begins {S : tr_S} {w n : Nat} (h : j_st S w n) {r x : Int32} (hr : ∃ k, k < n ∧ r = nI k) : (S.1 18 = 64 ∧ f_begins r x S = (0, f_fails 5 r S) ∧ j_st (f_begins r x S).2 w n) ∨ (¬ S.1 18 = 64 ∧ f_begins r x S = (1, f_push r x (f_tick S)) ∧ j_st (f_begins r x S).2 (w + 1) n) := by
  by_cases hs : S.1 18 = 64
  · refine Or.inl ⟨hs, if_pos hs, ?_⟩
    unfold f_begins
    rw [if_pos hs]
    exact j_like h rfl rfl rfl
  · refine Or.inr ⟨hs, if_neg hs, ?_⟩
    unfold f_begins
    rw [if_neg hs]
    obtain ⟨h1, ⟨st, h2, h3, h4⟩, h5⟩ := h
    have hne : st ≠ 64 := fun q => hs (by rw [h4, q]; rfl)
    have ew : (S.1 11).toNatClampNeg = w := by rw [h1, nI_clamp (by omega)]
    refine ⟨?_, ⟨st + 1, by omega, by omega, ?_⟩, fun t ht => ?_⟩
    · show S.1 11 + 1 = nI (w + 1)
      rw [h1, nI_1]
    · show S.1 18 + 1 = nI (st + 1)
      rw [h4, nI_1]
    · show ∃ k, k < n ∧ upd (S.2 12) (S.1 11).toNatClampNeg r t = nI k
      rw [ew]
      unfold upd
      by_cases q : t = w
      · rw [if_pos q]; exact hr
      · rw [if_neg q]; exact h5 t (by omega)

theorem rl_snd {S : tr_S} {n k : Nat} (h : wf S n) (hk : k < n) (q : S.2 5 k = 8 ∨ S.2 5 k = 10 ∨ S.2 5 k = 11 ∨ S.2 5 k = 16) : ∃ b, b < n ∧ S.2 7 k = nI b := by
  obtain ⟨b, h1, h2⟩ := (h.2.2.1 k hk).2.2.2.2.1 q
  exact ⟨b, by omega, h2⟩
theorem rl_fst {S : tr_S} {n k : Nat} (h : wf S n) (hk : k < n) (q : (8 ≤ S.2 5 k ∧ S.2 5 k ≤ 11) ∨ S.2 5 k = 16) : ∃ b, b < n ∧ S.2 6 k = nI b := by
  obtain ⟨b, h1, h2⟩ := (h.2.2.1 k hk).2.2.2.1 (q.elim Or.inl (fun z => Or.inr (Or.inl z)))
  exact ⟨b, by omega, h2⟩
set_option maxHeartbeats 4000000 in
set_option maxRecDepth 100000 in
theorem c_X3_recovers (l : Launch) (D : va_G) (o : Nat) (ad : Nat → Nat) (cA : ClassId) (S0 : tr_S) (N u0 n : Nat) (hN0 : wf S0 N) (hj0 : j_st S0 u0 N) (hn : 2 * u0 + (if S0.1 16 = 5 then 0 else 1) < n) : m_Mv l yX3_recovers wsX3_recovers { frames := 2, cells := 0, slots := 0, locals := 44 } [] D o ad cA S0 (fun S => S = f_rec n S0) := by
  refine Met.ofW (cc := cX3_recovers) (maxL := 4) (ret := none) (by decide) rfl ?_
  intro p e s m args below meth c s₁ B hml hv
  obtain ⟨rfl, hB⟩ := hv
  have hx := B.exec
  have hb := B.bytes
  have hr := B.returns
  have hts := atoms_spec (ws := wsX3_recovers) B.pre
  have hown : s.vm.findClass RX3 = some m.cls := findClass_of_methodNamed B.named
  have hlocks := B.notSynchronized
  have I := m_I.of hB
  have hin : ∀ w ∈ wsX30, w ∈ wsX3_recovers := fun _ h => List.mem_cons_of_mem _ (List.mem_append_right _ h)
  have L22 := hts (.fieldLink RX3 22 "TollRulesModel" "kind" "[I") (by decide +kernel)
  have L28 := hts (.fieldLink RX3 28 "TollRulesModel" "second" "[I") (by decide +kernel)
  have L40 := hts (.fieldLink RX3 40 "TollRulesModel" "waitRule" "[I") (by decide +kernel)
  have L43 := hts (.fieldLink RX3 43 "TollRulesModel" "waitValue" "[I") (by decide +kernel)
  have L46 := hts (.fieldLink RX3 46 "TollRulesModel" "waitPhase" "[I") (by decide +kernel)
  have L92 := hts (.fieldLink RX3 92 "TollRulesModel" "waiting" "I") (by decide +kernel)
  have L95 := hts (.fieldLink RX3 95 "TollRulesModel" "failure" "I") (by decide +kernel)
  have L112 := hts (.fieldLink RX3 112 "TollRulesModel" "elses" "I") (by decide +kernel)
  have hl := lv_entry ([.ref o]) (n := 4) (Nat.le_of_ble_eq_true rfl)
  rw [lg_entry_eq]
  generalize (lg_sl ([.ref o]) ++ List.replicate (4 - (lg_sl ([.ref o])).length) Slot.unset).toArray = ls at hl ⊢
  have hl : lv_has ls 4 [(0, .ref o)] := hl
  have LR : ∀ (d : Nat) (S : tr_S) (w : Nat), wf S N → j_st S w N → 2 * w + (if S.1 16 = 5 then 0 else 1) < d → f_rec d S = f_rec n S0 → ∀ (H : Heap) (locs : List Loc) (ls : Array Slot), m_I D o ad cA S s s.heap H locs → lv_has ls 4 [(1, .int 0), (0, .ref o)] → W p l e (headSpec wsX3_recovers { frames := 2, cells := 0, slots := 0, locals := 44 }).room s m (([.ref o] : List Value).toArray) below meth c H locs 0 0 (MQ below (va_Qv (fun S => S = f_rec n S0) (m_B D o ad cA) (m_A o ad)) (([.ref o] : List Value).toArray) s 0 0 (m_A o ad)) (F0 m 2 ls []) := by
    intro d
    induction d with
    | zero => intro S w _ _ hd; omega
    | succ d ih =>
      intro S w hN hj hd hT H locs ls I hl
      refine lv_aload_n hx hb dX3_recovers_2 rfl (lv_at hl 1 rfl) ?_
      refine m_get11 hx hb hts hin hown I L92 dX3_recovers_3 (x := S.1 11) rfl ?_
      refine lv_if_le (tgt := 137) hx hb dX3_recovers_6 (by decide) (fun c6 => ?_) (fun c6 => ?_)
      · exact m_vret hx hb hr hlocks I dX3_recovers_137 (by rw [← hT]; unfold f_rec; rw [if_pos c6])
      · refine lv_iload_n hx hb dX3_recovers_9 rfl (lv_at hl 0 rfl) ?_
        refine lv_if_ne (tgt := 137) hx hb dX3_recovers_10 (by decide) (fun h => absurd h (by decide)) (fun _ => ?_)
        obtain ⟨u, rfl, et, eu, hu, hu1, hu64, k, hk, ek, hk40⟩ := j_top hj hN.1 c6
        have ef : f_top S = u := et
        have er : f_rul S = k := by unfold f_rul; rw [ef, ek, nI_clamp (by omega)]
        refine lv_aload_n hx hb dX3_recovers_13 rfl (lv_at hl 1 rfl) ?_
        refine m_get11 hx hb hts hin hown I L92 dX3_recovers_14 (x := S.1 11) rfl ?_
        refine lv_iconst (v := 1) hx hb dX3_recovers_17 (by decide) ?_
        refine lv_isub hx hb dX3_recovers_18 ?_
        refine lv_istore_n (lv' := [(2, .int ((S.1 11) - 1)), (1, .int 0), (0, .ref o)]) hx hb dX3_recovers_19 rfl hl (by decide) rfl (fun ls hl => ?_)
        refine lv_aload_n hx hb dX3_recovers_20 rfl (lv_at hl 2 rfl) ?_
        refine m_get16 hx hb hts hin hown I L95 dX3_recovers_21 (x := S.1 16) rfl ?_
        refine lv_iconst (v := 5) hx hb dX3_recovers_24 (by decide) ?_
        refine lv_icmp_eq (tgt := 58) hx hb dX3_recovers_25 (by decide) (fun c25 => ?_) (fun c25 => ?_)
        · refine lv_iconst (v := 0) hx hb dX3_recovers_58 (by decide) ?_
          refine lv_istore_n (lv' := [(1, .int 0), (2, .int ((S.1 11) - 1)), (0, .ref o)]) hx hb dX3_recovers_59 rfl hl (by decide) rfl (fun ls hl => ?_)
          refine lv_iload_n hx hb dX3_recovers_60 rfl (lv_at hl 0 rfl) ?_
          refine lv_if_eq (tgt := 124) hx hb dX3_recovers_61 (by decide) (fun _ => ?_) (fun h => absurd h (by decide))
          refine lv_aload_n hx hb dX3_recovers_124 rfl (lv_at hl 2 rfl) ?_
          refine lv_dup hx hb dX3_recovers_125 rfl ?_
          refine m_get11 hx hb hts hin hown I L92 dX3_recovers_126 (x := S.1 11) rfl ?_
          refine lv_iconst (v := 1) hx hb dX3_recovers_129 (by decide) ?_
          refine lv_isub hx hb dX3_recovers_130 ?_
          refine m_put11 hx hb hts hin hown I L92 dX3_recovers_131 (fun H locs I => ?_)
          refine lv_goto (tgt := 2) hx hb dX3_recovers_134 (by decide) ?_
          refine ih (f_pop S) u (hN.sm (f_pop_sm S)) (j_pop hj) (by show 2 * u + (if S.1 16 = 5 then 0 else 1) < d; omega) ?_ H locs ls I (lv_sub hl [0, 2] rfl)
          rw [← hT]
          conv => rhs; unfold f_rec
          rw [ef, er, if_neg c6, if_neg (fun q => q.1 c25)]
        · refine lv_aload_n hx hb dX3_recovers_28 rfl (lv_at hl 2 rfl) ?_
          refine m_get5 hx hb hts hin hown I L22 dX3_recovers_29 ?_
          refine lv_aload_n hx hb dX3_recovers_32 rfl (lv_at hl 2 rfl) ?_
          refine m_get12 hx hb hts hin hown I L40 dX3_recovers_33 ?_
          refine lv_iload_n hx hb dX3_recovers_36 rfl (lv_at hl 0 rfl) ?_
          refine m_ald12 hx hb I hu dX3_recovers_37 (x := S.2 12 u) (by rw [et] <;> rfl) ?_
          refine m_ald5 hx hb I (by rw [ek]; exact vp_in_nI hk40 (by decide)) dX3_recovers_38 (x := S.2 5 k) (by rw [ek, nI_clamp (show k < 2 ^ 31 by omega)] <;> rfl) ?_
          refine lv_bipush (v := 11) hx hb dX3_recovers_39 (by decide) ?_
          refine lv_icmp_ne (tgt := 58) hx hb dX3_recovers_41 (by decide) (fun c41 => ?_) (fun c41 => ?_)
          · refine lv_iconst (v := 0) hx hb dX3_recovers_58 (by decide) ?_
            refine lv_istore_n (lv' := [(1, .int 0), (2, .int ((S.1 11) - 1)), (0, .ref o)]) hx hb dX3_recovers_59 rfl hl (by decide) rfl (fun ls hl => ?_)
            refine lv_iload_n hx hb dX3_recovers_60 rfl (lv_at hl 0 rfl) ?_
            refine lv_if_eq (tgt := 124) hx hb dX3_recovers_61 (by decide) (fun _ => ?_) (fun h => absurd h (by decide))
            refine lv_aload_n hx hb dX3_recovers_124 rfl (lv_at hl 2 rfl) ?_
            refine lv_dup hx hb dX3_recovers_125 rfl ?_
            refine m_get11 hx hb hts hin hown I L92 dX3_recovers_126 (x := S.1 11) rfl ?_
            refine lv_iconst (v := 1) hx hb dX3_recovers_129 (by decide) ?_
            refine lv_isub hx hb dX3_recovers_130 ?_
            refine m_put11 hx hb hts hin hown I L92 dX3_recovers_131 (fun H locs I => ?_)
            refine lv_goto (tgt := 2) hx hb dX3_recovers_134 (by decide) ?_
            refine ih (f_pop S) u (hN.sm (f_pop_sm S)) (j_pop hj) (by show 2 * u + (if S.1 16 = 5 then 0 else 1) < d; omega) ?_ H locs ls I (lv_sub hl [0, 2] rfl)
            rw [← hT]
            conv => rhs; unfold f_rec
            rw [ef, er, if_neg c6, if_neg (fun q => c41 q.2.1)]
          · refine lv_aload_n hx hb dX3_recovers_44 rfl (lv_at hl 2 rfl) ?_
            refine m_get14 hx hb hts hin hown I L46 dX3_recovers_45 ?_
            refine lv_iload_n hx hb dX3_recovers_48 rfl (lv_at hl 0 rfl) ?_
            refine m_ald14 hx hb I hu dX3_recovers_49 (x := S.2 14 u) (by rw [et] <;> rfl) ?_
            refine lv_iconst (v := 1) hx hb dX3_recovers_50 (by decide) ?_
            refine lv_icmp_ne (tgt := 58) hx hb dX3_recovers_51 (by decide) (fun c51 => ?_) (fun c51 => ?_)
            · refine lv_iconst (v := 0) hx hb dX3_recovers_58 (by decide) ?_
              refine lv_istore_n (lv' := [(1, .int 0), (2, .int ((S.1 11) - 1)), (0, .ref o)]) hx hb dX3_recovers_59 rfl hl (by decide) rfl (fun ls hl => ?_)
              refine lv_iload_n hx hb dX3_recovers_60 rfl (lv_at hl 0 rfl) ?_
              refine lv_if_eq (tgt := 124) hx hb dX3_recovers_61 (by decide) (fun _ => ?_) (fun h => absurd h (by decide))
              refine lv_aload_n hx hb dX3_recovers_124 rfl (lv_at hl 2 rfl) ?_
              refine lv_dup hx hb dX3_recovers_125 rfl ?_
              refine m_get11 hx hb hts hin hown I L92 dX3_recovers_126 (x := S.1 11) rfl ?_
              refine lv_iconst (v := 1) hx hb dX3_recovers_129 (by decide) ?_
              refine lv_isub hx hb dX3_recovers_130 ?_
              refine m_put11 hx hb hts hin hown I L92 dX3_recovers_131 (fun H locs I => ?_)
              refine lv_goto (tgt := 2) hx hb dX3_recovers_134 (by decide) ?_
              refine ih (f_pop S) u (hN.sm (f_pop_sm S)) (j_pop hj) (by show 2 * u + (if S.1 16 = 5 then 0 else 1) < d; omega) ?_ H locs ls I (lv_sub hl [0, 2] rfl)
              rw [← hT]
              conv => rhs; unfold f_rec
              rw [ef, er, if_neg c6, if_neg (fun q => c51 q.2.2)]
            · refine lv_iconst (v := 1) hx hb dX3_recovers_54 (by decide) ?_
              refine lv_goto (tgt := 59) hx hb dX3_recovers_55 (by decide) ?_
              refine lv_istore_n (lv' := [(1, .int 1), (2, .int ((S.1 11) - 1)), (0, .ref o)]) hx hb dX3_recovers_59 rfl hl (by decide) rfl (fun ls hl => ?_)
              refine lv_iload_n hx hb dX3_recovers_60 rfl (lv_at hl 0 rfl) ?_
              refine lv_if_eq (tgt := 124) hx hb dX3_recovers_61 (by decide) (fun h => absurd h (by decide)) (fun _ => ?_)
              refine lv_aload_n hx hb dX3_recovers_64 rfl (lv_at hl 2 rfl) ?_
              refine lv_iconst (v := 0) hx hb dX3_recovers_65 (by decide) ?_
              refine m_put16 hx hb hts hin hown I L95 dX3_recovers_66 (fun H locs I => ?_)
              refine lv_aload_n hx hb dX3_recovers_69 rfl (lv_at hl 2 rfl) ?_
              refine lv_dup hx hb dX3_recovers_70 rfl ?_
              refine m_get24 hx hb hts hin hown I L112 dX3_recovers_71 (x := S.1 24) rfl ?_
              refine lv_iconst (v := 1) hx hb dX3_recovers_74 (by decide) ?_
              refine lv_iadd hx hb dX3_recovers_75 ?_
              refine m_put24 hx hb hts hin hown I L112 dX3_recovers_76 (fun H locs I => ?_)
              refine lv_aload_n hx hb dX3_recovers_79 rfl (lv_at hl 2 rfl) ?_
              refine m_get14 hx hb hts hin hown I L46 dX3_recovers_80 ?_
              refine lv_iload_n hx hb dX3_recovers_83 rfl (lv_at hl 1 rfl) ?_
              refine lv_iconst (v := 2) hx hb dX3_recovers_84 (by decide) ?_
              refine m_ast14 hx hb I hu dX3_recovers_85 (fun H locs I => ?_)
              rw [et] at I
              refine lv_aload_n hx hb dX3_recovers_86 rfl (lv_at hl 2 rfl) ?_
              refine lv_aload_n hx hb dX3_recovers_87 rfl (lv_at hl 2 rfl) ?_
              refine m_get7 hx hb hts hin hown I L28 dX3_recovers_88 ?_
              refine lv_aload_n hx hb dX3_recovers_91 rfl (lv_at hl 2 rfl) ?_
              refine m_get12 hx hb hts hin hown I L40 dX3_recovers_92 ?_
              refine lv_iload_n hx hb dX3_recovers_95 rfl (lv_at hl 1 rfl) ?_
              refine m_ald12 hx hb I hu dX3_recovers_96 (x := S.2 12 u) (by rw [et] <;> rfl) ?_
              refine m_ald7 hx hb I (by rw [ek]; exact vp_in_nI hk40 (by decide)) dX3_recovers_97 (x := S.2 7 k) (by rw [ek, nI_clamp (show k < 2 ^ 31 by omega)] <;> rfl) ?_
              refine lv_aload_n hx hb dX3_recovers_98 rfl (lv_at hl 2 rfl) ?_
              refine m_get13 hx hb hts hin hown I L43 dX3_recovers_99 ?_
              refine lv_iload_n hx hb dX3_recovers_102 rfl (lv_at hl 1 rfl) ?_
              refine m_ald13 hx hb I hu dX3_recovers_103 (x := S.2 13 u) (by rw [et] <;> rfl) ?_
              refine m_calli (rest := []) ⟨hx, hb, hml, hown, hts⟩ (c_X3_begins l D o ad cA (sA (sF (sF S 16 0) 24 ((S.1 24) + 1)) 14 u 2) (S.2 7 k) (S.2 13 u) (hu1)) (cwV 2 hts gX3_recovers_X3_begins rfl rfl rfl (by decide +kernel) ⟨Nat.le_of_ble_eq_true rfl, Nat.le_of_ble_eq_true rfl⟩) I rfl hl.1 rfl (Nat.le_of_ble_eq_true rfl) dX3_recovers_104 ⟨Nat.le_refl _, Nat.le_refl _⟩ (fun r104 S104 H locs p104 I => ?_)
              refine lv_istore_n (lv' := [(3, .int r104), (1, .int 1), (2, .int ((S.1 11) - 1)), (0, .ref o)]) hx hb dX3_recovers_107 rfl hl (by decide) rfl (fun ls hl => ?_)
              refine lv_aload_n hx hb dX3_recovers_108 rfl (lv_at hl 3 rfl) ?_
              refine m_get16 hx hb hts hin hown I L95 dX3_recovers_109 (x := S104.1 16) rfl ?_
              refine lv_if_ne (tgt := 119) hx hb dX3_recovers_112 (by decide) (fun c112 => ?_) (fun c112 => ?_)
              · refine lv_iconst (v := 0) hx hb dX3_recovers_119 (by decide) ?_
                refine lv_istore_n (lv' := [(1, .int 0), (3, .int r104), (2, .int ((S.1 11) - 1)), (0, .ref o)]) hx hb dX3_recovers_120 rfl hl (by decide) rfl (fun ls hl => ?_)
                refine lv_goto (tgt := 134) hx hb dX3_recovers_121 (by decide) ?_
                refine lv_goto (tgt := 2) hx hb dX3_recovers_134 (by decide) ?_
                have eS : S104 = f_else u k S := congrArg Prod.snd p104
                rcases j_begins (S := (sA (sF (sF S 16 0) 24 (S.1 24 + 1)) 14 u 2)) (x := S.2 13 u) (j_like hj rfl rfl rfl) (rl_snd hN hk (Or.inr (Or.inr (Or.inl c41)))) with ⟨-, eb, jb⟩ | ⟨-, eb, jb⟩
                · have e5 : S104 = f_fails 5 (S.2 7 k) (sA (sF (sF S 16 0) 24 (S.1 24 + 1)) 14 u 2) := by rw [eS]; unfold f_else; rw [eb]
                  refine ih S104 (u + 1) (hN.sm (by rw [eS]; exact f_else_sm u k S)) (by rw [eS]; exact jb) (by rw [if_neg c25] at hd; rw [if_pos (show S104.1 16 = 5 by rw [e5]; rfl)]; omega) ?_ H locs ls I (lv_sub hl [0, 3] rfl)
                  rw [← hT, eS]
                  rw [eS] at c112
                  conv => rhs; unfold f_rec
                  rw [ef, er, if_neg c6, if_pos ⟨c25, c41, c51⟩, if_neg c112]
                · exact absurd (by rw [eS]; unfold f_else; rw [eb]; rfl) c112
              · refine lv_iconst (v := 1) hx hb dX3_recovers_115 (by decide) ?_
                refine lv_goto (tgt := 120) hx hb dX3_recovers_116 (by decide) ?_
                refine lv_istore_n (lv' := [(1, .int 1), (3, .int r104), (2, .int ((S.1 11) - 1)), (0, .ref o)]) hx hb dX3_recovers_120 rfl hl (by decide) rfl (fun ls hl => ?_)
                refine lv_goto (tgt := 134) hx hb dX3_recovers_121 (by decide) ?_
                refine lv_goto (tgt := 2) hx hb dX3_recovers_134 (by decide) ?_
                have eS : S104 = f_else u k S := congrArg Prod.snd p104
                have c6x := c6
                refine lv_aload_n hx hb dX3_recovers_2 rfl (lv_at hl 3 rfl) ?_
                refine m_get11 hx hb hts hin hown I L92 dX3_recovers_3 (x := S104.1 11) rfl ?_
                refine lv_if_le (tgt := 137) hx hb dX3_recovers_6 (by decide) (fun c6 => ?_) (fun c6 => ?_)
                · refine m_vret hx hb hr hlocks I dX3_recovers_137 ?_
                  rw [← hT, eS]
                  rw [eS] at c112
                  unfold f_rec
                  rw [ef, er, if_neg c6x, if_pos ⟨c25, c41, c51⟩, if_pos c112]
                · refine lv_iload_n hx hb dX3_recovers_9 rfl (lv_at hl 0 rfl) ?_
                  refine lv_if_ne (tgt := 137) hx hb dX3_recovers_10 (by decide) (fun _ => ?_) (fun h => absurd h (by decide))
                  refine m_vret hx hb hr hlocks I dX3_recovers_137 ?_
                  rw [← hT, eS]
                  rw [eS] at c112
                  unfold f_rec
                  rw [ef, er, if_neg c6x, if_pos ⟨c25, c41, c51⟩, if_pos c112]
  refine lv_iconst (v := 0) hx hb dX3_recovers_0 (by decide) ?_
  refine lv_istore_n (lv' := [(1, .int 0), (0, .ref o)]) hx hb dX3_recovers_1 rfl hl (by decide) rfl (fun ls hl => ?_)
  exact LR n S0 u0 hN0 hj0 hn rfl _ _ ls I (lv_sub hl [0, 1] rfl)

/-! the reference's loop over the rules that wait -/
def f_asks (k : Int32) : Prop := (8 ≤ k ∧ k ≤ 11) ∨ k = 16
def f_turn1 (S : tr_S) : tr_S := if (f_goesOn (S.1 26) S).2.1 16 = 0 ∧ ¬ (f_goesOn (S.1 26) S).1 = 0 then f_pop (f_goesOn (S.1 26) S).2 else (f_goesOn (S.1 26) S).2
def f_leaf (S : tr_S) : tr_S := sF (f_given (S.2 12 (f_top S)) (S.2 13 (f_top S)) S).2 26 (f_given (S.2 12 (f_top S)) (S.2 13 (f_top S)) S).1
def f_turn2 (S : tr_S) : tr_S := if (f_leaf S).1 16 = 0 then f_pop (f_leaf S) else f_leaf S
def f_turn (S : tr_S) : tr_S := if (8 ≤ S.2 5 (f_rul S) ∧ S.2 5 (f_rul S) ≤ 11) ∨ S.2 5 (f_rul S) = 16 then f_turn1 S else f_turn2 S
def f_loop : Nat → tr_S → Option (Int32 × tr_S)
  | 0, _ => none
  | n + 1, S => if ¬ 0 < S.1 11 ∧ S.1 16 ≤ 0 then some (1, S) else if S.1 16 ≤ 0 then f_loop n (f_turn S) else if (f_rec 140 S).1 16 ≤ 0 then f_loop n (f_turn (f_rec 140 S)) else some (0, f_rec 140 S)
