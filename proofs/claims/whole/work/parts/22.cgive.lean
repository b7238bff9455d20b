def c_GIVE (l : Launch) (N n : Nat) : Prop := ∀ (D : va_G) (o : Nat) (ap : Nat → Nat) (cA cR cU : ClassId) (A : Nat → Prop) (ρ σ ra : Nat → Nat) (L : List Nat) (f0 : Nat → va_E) (S0 : tr_S) (z0 : tr_Z) (k : Nat) (x : Int32), k < n → k < N → wf S0 N → (∃ st : Nat, st ≤ 64 ∧ 0 ≤ st ∧ S0.1 18 = nI st) → S0.1 16 = 0 → z0.1 = 0 → c_Mi l yX2_give wsX2_give { frames := 3 * n, cells := 0, slots := 0, locals := 68 * n } [.int (nI k), .int x] D o ap cA cR cU A ρ σ ra L f0 S0 z0 (g_post (ev n (nI k) x S0) z0)
theorem g_post_z {q : Int32 × tr_S} {z w : tr_Z} {v : Int32} {u : tr_S × tr_Z} (h : g_post q z v u) (e : z.2.2 = w.2.2) : g_post q w v u := ⟨h.1, h.2.1.trans e, h.2.2⟩
theorem f_tick_A (S : tr_S) : (f_tick S).2 = S.2 := rfl
theorem f_tick_st {S : tr_S} (h : ∃ st : Nat, st ≤ 64 ∧ 0 ≤ st ∧ S.1 18 = nI st) (hs : ¬ S.1 18 = 64) : ∃ st : Nat, st ≤ 64 ∧ 0 ≤ st ∧ (f_tick S).1 18 = nI st := by
  obtain ⟨st, h1, h2, h3⟩ := h
  have : st ≠ 64 := fun q => hs (by rw [h3, q]; rfl)
  exact ⟨st + 1, by omega, by omega, by show S.1 18 + 1 = nI (st + 1); rw [h3, nI_1]⟩
theorem e_st_ex {S T : tr_S} (h : e_st S T) (g : ∃ st : Nat, st ≤ 64 ∧ 0 ≤ st ∧ S.1 18 = nI st) : ∃ st : Nat, st ≤ 64 ∧ 0 ≤ st ∧ T.1 18 = nI st := by
  obtain ⟨st, h1, h2, h3⟩ := g
  obtain ⟨s2, a1, a2, a3⟩ := h st h1 h3
  exact ⟨s2, a2, by omega, a3⟩
theorem c_held_of {S : tr_S} {N k q : Nat} (h : wf S N) (hk : k < N) (hq : q < 48) (e : S.2 9 k = nI q) : c_held S q := by
  have h40 := h.1
  exact ⟨hq, Or.inr ⟨k, by rw [h.2.1, nI_clamp (by omega)]; exact hk, e⟩⟩
theorem c_held_row {S : tr_S} {r q : Nat} (hr : r < 4) (hq : q < 48) (e : S.2 1 r = nI q) : c_held S q := ⟨hq, Or.inl ⟨r, hr, e⟩⟩
theorem wf.N {S : tr_S} {N : Nat} (h : wf S N) : (S.1 4).toNatClampNeg = N := by
  have h40 := h.1
  rw [h.2.1, nI_clamp (by omega)]
theorem neg_row {a : Int32} (h : a = -1 ∨ ∃ q, q < 48 ∧ a = nI q) : (a < 0 → a = -1) ∧ (¬ a < 0 → ∃ q, q < 48 ∧ a = nI q) := by
  rcases h with rfl | ⟨q, hq, rfl⟩
  · exact ⟨fun _ => rfl, fun h => absurd (by decide) h⟩
  · exact ⟨fun h => absurd h (nI_pos (by omega)), fun _ => ⟨q, hq, rfl⟩⟩
theorem min_eq (a b : Int32) : (if b < a then b else a) = if b ≤ a then b else a := by
  by_cases h : b < a
  · rw [if_pos h, if_pos (Int32.le_of_lt h)]
  · rw [if_neg h]
    by_cases g : b ≤ a
    · rw [if_pos g]; exact Int32.le_antisymm (Int32.not_lt.mp h) g
    · rw [if_neg g]
set_option maxHeartbeats 4000000 in
set_option maxRecDepth 100000 in
theorem c_X2_giveOtherWay (l : Launch) (D : va_G) (o : Nat) (ap : Nat → Nat) (cA cR cU : ClassId) (A : Nat → Prop) (ρ σ ra : Nat → Nat) (L : List Nat) (f0 : Nat → va_E) (S0 : tr_S) (z0 : tr_Z) (N n : Nat) (G : c_GIVE l N n) (kb : Nat) (x : Int32) (hkb : kb < n) (hkbN : kb < N) (hN : wf S0 N) (hst : ∃ st : Nat, st ≤ 64 ∧ 0 ≤ st ∧ S0.1 18 = nI st) : c_Mi l yX2_giveOtherWay wsX2_giveOtherWay { frames := (3 * n + 1), cells := 0, slots := 0, locals := (68 * n + 23) } [.int (nI kb), .int x] D o ap cA cR cU A ρ σ ra L f0 S0 z0 (g_post (ev n (nI kb) x (sF (sF S0 16 0) 24 (S0.1 24 + 1))) z0) := by
  refine Met.ofW (cc := cX2_giveOtherWay) (maxL := 3) (ret := (some .int)) (by decide) rfl ?_
  intro p e s m args below meth c s₁ B hml hv
  obtain ⟨rfl, hB⟩ := hv
  have hx := B.exec
  have hb := B.bytes
  have hr := B.returns
  have hts := atoms_spec (ws := wsX2_giveOtherWay) B.pre
  have hown : s.vm.findClass RX2 = some m.cls := findClass_of_methodNamed B.named
  have hlocks := B.notSynchronized
  have I := c_I.of hB
  have hin2 : ∀ w ∈ wsX20, w ∈ wsX2_giveOtherWay := fun _ h => List.mem_cons_of_mem _ (List.mem_append_left _ (List.mem_append_left _ (List.mem_append_right _ h)))
  have hin1 : ∀ w ∈ wsX10, w ∈ wsX2_giveOtherWay := fun _ h => List.mem_cons_of_mem _ (List.mem_append_left _ (List.mem_append_right _ h))
  have hin0 : ∀ w ∈ wsX00, w ∈ wsX2_giveOtherWay := fun _ h => List.mem_cons_of_mem _ (List.mem_append_right _ h)
  have L40 := hts (.fieldLink RX2 40 "TollRules" "refusal" "I") (by decide +kernel)
  have L64 := hts (.fieldLink RX2 64 "TollRules" "otherWays" "I") (by decide +kernel)
  have hl := lv_entry ([.ref o, .int (nI kb), .int x]) (n := 3) (Nat.le_of_ble_eq_true rfl)
  rw [lg_entry_eq]
  generalize (lg_sl ([.ref o, .int (nI kb), .int x]) ++ List.replicate (3 - (lg_sl ([.ref o, .int (nI kb), .int x])).length) Slot.unset).toArray = ls at hl ⊢
  have hl : lv_has ls 3 [(0, .ref o), (1, .int (nI kb)), (2, .int x)] := hl
  refine lv_aload_n hx hb dX2_giveOtherWay_0 rfl (lv_at hl 0 rfl) ?_
  refine lv_iconst (v := 0) hx hb dX2_giveOtherWay_1 (by decide) ?_
  refine c_put7 hx hb hts hin2 hown I L40 dX2_giveOtherWay_2 (fun H locs I => ?_)
  refine lv_aload_n hx hb dX2_giveOtherWay_5 rfl (lv_at hl 0 rfl) ?_
  refine lv_dup hx hb dX2_giveOtherWay_6 rfl ?_
  refine c_get15 hx hb hts hin2 hown I L64 dX2_giveOtherWay_7 (x := S0.1 24) rfl ?_
  refine lv_iconst (v := 1) hx hb dX2_giveOtherWay_10 (by decide) ?_
  refine lv_iadd hx hb dX2_giveOtherWay_11 ?_
  refine c_put15 hx hb hts hin2 hown I L64 dX2_giveOtherWay_12 (fun H locs I => ?_)
  have I : c_I D o ap cA cR cU A ρ σ ra L f0 (sF (sF S0 16 0) 24 (S0.1 24 + 1)) (0, z0.2.1, z0.2.2) s s.heap _ _ := I
  refine lv_aload_n hx hb dX2_giveOtherWay_15 rfl (lv_at hl 0 rfl) ?_
  refine lv_iload_n hx hb dX2_giveOtherWay_16 rfl (lv_at hl 1 rfl) ?_
  refine lv_iload_n hx hb dX2_giveOtherWay_17 rfl (lv_at hl 2 rfl) ?_
  refine c_calli (rest := []) ⟨hx, hb, hml, hown, hts⟩ (G D o ap cA cR cU A ρ σ ra L _ (sF (sF S0 16 0) 24 (S0.1 24 + 1)) (0, z0.2.1, z0.2.2) kb x hkb hkbN (hN.sm ⟨rfl, rfl, rfl, rfl, rfl, rfl, rfl, rfl, rfl⟩) hst rfl rfl) (cwV 2 hts gX2_giveOtherWay_X2_give rfl rfl rfl (by decide +kernel) ⟨show 3 * n + 1 ≤ 3 * n + 1 by omega, show 8 + (4 + 11) + 68 * n ≤ 68 * n + 23 by omega⟩) I rfl hl.1 rfl (Nat.le_of_ble_eq_true rfl) dX2_giveOtherWay_18 ⟨Nat.le_refl _, Nat.le_refl _⟩ (fun r18 S18 z18 f1 H locs p18 I => ?_)
  exact c_iret hx hb hr hlocks I dX2_giveOtherWay_21 (g_post_z p18 rfl)

set_option maxHeartbeats 4000000 in
set_option maxRecDepth 100000 in
theorem c_X2_giveByOthers (l : Launch) (D : va_G) (o : Nat) (ap : Nat → Nat) (cA cR cU : ClassId) (A : Nat → Prop) (ρ σ ra : Nat → Nat) (L : List Nat) (f0 : Nat → va_E) (S0 : tr_S) (z0 : tr_Z) (N n k : Nat) (G : c_GIVE l N n) (x : Int32) (hkn : k < n + 1) (hk : k < N) (hN : wf S0 N) (ha : (8 ≤ S0.2 5 k ∧ S0.2 5 k ≤ 11) ∨ S0.2 5 k = 16) (hst : ∃ st : Nat, st ≤ 64 ∧ 0 ≤ st ∧ S0.1 18 = nI st) (h0 : S0.1 16 = 0) (hz : z0.1 = 0) : c_Mi l yX2_giveByOthers wsX2_giveByOthers { frames := (3 * n + 2), cells := 0, slots := 0, locals := (68 * n + 45) } [.ref (ra k), .int x] D o ap cA cR cU A ρ σ ra L f0 S0 z0 (g_post (ev_then (ev n) (S0.2 5 k) (S0.2 6 k) (S0.2 7 k) x (ev n (S0.2 6 k) x S0)) z0) := by
  refine Met.ofW (cc := cX2_giveByOthers) (maxL := 4) (ret := (some .int)) (by decide) rfl ?_
  intro p e s m args below meth c s₁ B hml hv
  obtain ⟨rfl, hB⟩ := hv
  have hx := B.exec
  have hb := B.bytes
  have hr := B.returns
  have hts := atoms_spec (ws := wsX2_giveByOthers) B.pre
  have hown : s.vm.findClass RX2 = some m.cls := findClass_of_methodNamed B.named
  have hlocks := B.notSynchronized
  have I := c_I.of hB
  have hin2 : ∀ w ∈ wsX20, w ∈ wsX2_giveByOthers := fun _ h => List.mem_cons_of_mem _ (List.mem_append_left _ (List.mem_append_left _ (List.mem_append_right _ h)))
  have hin1 : ∀ w ∈ wsX10, w ∈ wsX2_giveByOthers := fun _ h => List.mem_cons_of_mem _ (List.mem_append_left _ (List.mem_append_right _ h))
  have hin0 : ∀ w ∈ wsX00, w ∈ wsX2_giveByOthers := fun _ h => List.mem_cons_of_mem _ (List.mem_append_right _ h)
  have L40 := hts (.fieldLink RX2 40 "TollRules" "refusal" "I") (by decide +kernel)
  have L138 := hts (.fieldLink RX2 138 "TollRules$Rule" "kind" "I") (by decide +kernel)
  have L141 := hts (.fieldLink RX2 141 "TollRules$Rule" "a" "I") (by decide +kernel)
  have L165 := hts (.fieldLink RX2 165 "TollRules$Rule" "b" "I") (by decide +kernel)
  have hl := lv_entry ([.ref o, .ref (ra k), .int x]) (n := 4) (Nat.le_of_ble_eq_true rfl)
  rw [lg_entry_eq]
  generalize (lg_sl ([.ref o, .ref (ra k), .int x]) ++ List.replicate (4 - (lg_sl ([.ref o, .ref (ra k), .int x])).length) Slot.unset).toArray = ls at hl ⊢
  have hl : lv_has ls 4 [(0, .ref o), (1, .ref (ra k)), (2, .int x)] := hl
  obtain ⟨ka, hkak, hka⟩ := (hN.2.2.1 k hk).2.2.2.1 (ha.elim Or.inl (fun z => Or.inr (Or.inl z)))
  refine lv_aload_n hx hb dX2_giveByOthers_0 rfl (lv_at hl 0 rfl) ?_
  refine lv_aload_n hx hb dX2_giveByOthers_1 rfl (lv_at hl 1 rfl) ?_
  refine c_rget1 hx hb hts hin1 hown I (by rw [hN.N]; exact hk) L141 dX2_giveByOthers_2 (x := nI ka) hka ?_
  refine lv_iload_n hx hb dX2_giveByOthers_5 rfl (lv_at hl 2 rfl) ?_
  refine c_calli (rest := []) ⟨hx, hb, hml, hown, hts⟩ (G D o ap cA cR cU A ρ σ ra L _ S0 z0 ka x (by omega) (by omega) hN hst h0 hz) (cwV 2 hts gX2_giveByOthers_X2_give rfl rfl rfl (by decide +kernel) ⟨show 3 * n + 1 ≤ 3 * n + 2 by omega, show 8 + (4 + 11) + 68 * n ≤ 68 * n + 45 by omega⟩) I rfl hl.1 rfl (Nat.le_of_ble_eq_true rfl) dX2_giveByOthers_6 ⟨Nat.le_refl _, Nat.le_refl _⟩ (fun r6 S6 z6 f1 H locs p6 I => ?_)
  obtain ⟨q, hq⟩ : ∃ q, q = ev n (nI ka) x S0 := ⟨_, rfl⟩
  rw [← hq] at p6
  obtain ⟨e1, e2, e3, e4, e5⟩ := p6
  have e1 : S6 = q.2 := e1
  have e2 : z6.2.2 = z0.2.2 := e2
  have e3 : z6.1 = q.2.1 16 := e3
  rw [e1] at I
  have smq : e_sm S0 q.2 := by rw [hq]; exact ev_sm n (nI ka) x S0
  have hNq : wf q.2 N := hN.sm smq
  have hstq := e_st_ex (S := S0) (T := q.2) (by rw [hq]; exact ev_st n (nI ka) x S0) hst
  have sm5 : q.2.2 5 k = S0.2 5 k := by rw [smq.2.2.2.1]
  have sm6 : q.2.2 6 k = S0.2 6 k := by rw [smq.2.2.2.2.1]
  have sm7 : q.2.2 7 k = S0.2 7 k := by rw [smq.2.2.2.2.2.1]
  rw [hka, ← hq]
  refine lv_istore_n (lv' := [(3, .int r6), (0, .ref o), (1, .ref (ra k)), (2, .int x)]) hx hb dX2_giveByOthers_9 rfl hl (by decide) rfl (fun ls hl => ?_)
  refine lv_aload_n hx hb dX2_giveByOthers_10 rfl (lv_at hl 1 rfl) ?_
  refine c_isRefused ⟨hx, hb, hml, hown, hts⟩ gX2_giveByOthers_X2_isRefused ⟨show 0 + 1 ≤ 3 * n + 2 by omega, show 8 + (1 + 11) + 0 ≤ 68 * n + 45 by omega⟩ ⟨Nat.le_refl _, Nat.le_refl _⟩ I hl.1 (Nat.le_of_ble_eq_true rfl) dX2_giveByOthers_11 (fun h11 f1 H locs I => ?_) (fun h11 f1 H locs I => ?_)
  · refine lv_if_eq (tgt := 48) hx hb dX2_giveByOthers_14 (by decide) (fun h => absurd h (by decide)) (fun _ => ?_)
    refine lv_aload_n hx hb dX2_giveByOthers_17 rfl (lv_at hl 2 rfl) ?_
    refine c_rget0 hx hb hts hin1 hown I (by rw [hNq.N]; exact hk) L138 dX2_giveByOthers_18 (x := S0.2 5 k) sm5 ?_
    refine lv_bipush (v := 11) hx hb dX2_giveByOthers_21 (by decide) ?_
    refine lv_icmp_ne (tgt := 46) hx hb dX2_giveByOthers_23 (by decide) (fun c23 => ?_) (fun c23 => ?_)
    · refine lv_iconst (v := 0) hx hb dX2_giveByOthers_46 (by decide) ?_
      exact c_iret hx hb hr hlocks I dX2_giveByOthers_47 (by unfold ev_then; rw [if_neg (fun w => h11 (e3.trans w)), if_neg (fun w => c23 w.1)]; exact ⟨rfl, e2, e3, e4, fun w => absurd (e3.trans w) h11⟩)
    · refine lv_aload_n hx hb dX2_giveByOthers_26 rfl (lv_at hl 1 rfl) ?_
      refine c_get7 hx hb hts hin2 hown I L40 dX2_giveByOthers_27 (x := z6.1) rfl ?_
      refine lv_iconst (v := 5) hx hb dX2_giveByOthers_30 (by decide) ?_
      refine lv_icmp_eq (tgt := 46) hx hb dX2_giveByOthers_31 (by decide) (fun c31 => ?_) (fun c31 => ?_)
      · refine lv_iconst (v := 0) hx hb dX2_giveByOthers_46 (by decide) ?_
        exact c_iret hx hb hr hlocks I dX2_giveByOthers_47 (by unfold ev_then; rw [if_neg (fun w => h11 (e3.trans w)), if_neg (fun w => w.2 (e3.symm.trans c31))]; exact ⟨rfl, e2, e3, e4, fun w => absurd (e3.trans w) h11⟩)
      · obtain ⟨kb, hkbk, hkb⟩ := (hN.2.2.1 k hk).2.2.2.2.1 (Or.inr (Or.inr (Or.inl c23)))
        refine lv_aload_n hx hb dX2_giveByOthers_34 rfl (lv_at hl 1 rfl) ?_
        refine lv_aload_n hx hb dX2_giveByOthers_35 rfl (lv_at hl 2 rfl) ?_
        refine c_rget2 hx hb hts hin1 hown I (by rw [hNq.N]; exact hk) L165 dX2_giveByOthers_36 (x := nI kb) (sm7.trans hkb) ?_
        refine lv_iload_n hx hb dX2_giveByOthers_39 rfl (lv_at hl 3 rfl) ?_
        refine c_calli (rest := []) ⟨hx, hb, hml, hown, hts⟩ (c_X2_giveOtherWay l D o ap cA cR cU A ρ σ ra L _ q.2 z6 N n G kb x (by omega) (by omega) hNq hstq) (cwV 2 hts gX2_giveByOthers_X2_giveOtherWay rfl rfl rfl (by decide +kernel) ⟨show (3 * n + 1) + 1 ≤ 3 * n + 2 by omega, show 8 + (3 + 11) + (68 * n + 23) ≤ 68 * n + 45 by omega⟩) I rfl hl.1 rfl (Nat.le_of_ble_eq_true rfl) dX2_giveByOthers_40 ⟨Nat.le_refl _, Nat.le_refl _⟩ (fun r40 S40 z40 f1 H locs p40 I => ?_)
        refine lv_goto (tgt := 47) hx hb dX2_giveByOthers_43 (by decide) ?_
        exact c_iret hx hb hr hlocks I dX2_giveByOthers_47 (by unfold ev_then; rw [if_neg (fun w => h11 (e3.trans w)), if_pos ⟨c23, fun w => c31 (e3.trans w)⟩, hkb]; exact g_post_z p40 e2)
  · refine lv_if_eq (tgt := 48) hx hb dX2_giveByOthers_14 (by decide) (fun _ => ?_) (fun h => absurd h (by decide))
    refine lv_aload_n hx hb dX2_giveByOthers_48 rfl (lv_at hl 2 rfl) ?_
    refine c_rget0 hx hb hts hin1 hown I (by rw [hNq.N]; exact hk) L138 dX2_giveByOthers_49 (x := S0.2 5 k) sm5 ?_
    by_cases k52_8 : (S0.2 5 k) = 8
    · refine lv_tableIn (tgt := 104) hx hb dX2_giveByOthers_52 (by rw [k52_8]; decide) (by rw [k52_8]; decide) (off := 52) (by rw [k52_8]; rfl) (by decide) ?_
      obtain ⟨kb, hkbk, hkb⟩ := (hN.2.2.1 k hk).2.2.2.2.1 (Or.inl k52_8)
      refine lv_aload_n hx hb dX2_giveByOthers_104 rfl (lv_at hl 1 rfl) ?_
      refine lv_aload_n hx hb dX2_giveByOthers_105 rfl (lv_at hl 2 rfl) ?_
      refine c_rget2 hx hb hts hin1 hown I (by rw [hNq.N]; exact hk) L165 dX2_giveByOthers_106 (x := nI kb) (sm7.trans hkb) ?_
      refine lv_iload_n hx hb dX2_giveByOthers_109 rfl (lv_at hl 0 rfl) ?_
      refine c_calli (rest := []) ⟨hx, hb, hml, hown, hts⟩ (G D o ap cA cR cU A ρ σ ra L _ q.2 z6 kb r6 (by omega) (by omega) hNq hstq (e3.symm.trans h11) h11) (cwV 2 hts gX2_giveByOthers_X2_give rfl rfl rfl (by decide +kernel) ⟨show 3 * n + 1 ≤ 3 * n + 2 by omega, show 8 + (4 + 11) + 68 * n ≤ 68 * n + 45 by omega⟩) I rfl hl.1 rfl (Nat.le_of_ble_eq_true rfl) dX2_giveByOthers_110 ⟨Nat.le_refl _, Nat.le_refl _⟩ (fun r110 S110 z110 f1 H locs p110 I => ?_)
      exact c_iret hx hb hr hlocks I dX2_giveByOthers_113 (by unfold ev_then; rw [if_pos (e3.symm.trans h11), if_pos k52_8, hkb, ← e5 (e3.symm.trans h11)]; exact g_post_z p110 e2)
    by_cases k52_9 : (S0.2 5 k) = 9
    · refine lv_tableIn (tgt := 114) hx hb dX2_giveByOthers_52 (by rw [k52_9]; decide) (by rw [k52_9]; decide) (off := 62) (by rw [k52_9]; rfl) (by decide) ?_
      refine lv_aload_n hx hb dX2_giveByOthers_114 rfl (lv_at hl 1 rfl) ?_
      refine lv_aload_n hx hb dX2_giveByOthers_115 rfl (lv_at hl 2 rfl) ?_
      refine c_rget1 hx hb hts hin1 hown I (by rw [hNq.N]; exact hk) L141 dX2_giveByOthers_116 (x := nI ka) (sm6.trans hka) ?_
      refine lv_iload_n hx hb dX2_giveByOthers_119 rfl (lv_at hl 0 rfl) ?_
      refine c_calli (rest := []) ⟨hx, hb, hml, hown, hts⟩ (G D o ap cA cR cU A ρ σ ra L _ q.2 z6 ka r6 (by omega) (by omega) hNq hstq (e3.symm.trans h11) h11) (cwV 2 hts gX2_giveByOthers_X2_give rfl rfl rfl (by decide +kernel) ⟨show 3 * n + 1 ≤ 3 * n + 2 by omega, show 8 + (4 + 11) + 68 * n ≤ 68 * n + 45 by omega⟩) I rfl hl.1 rfl (Nat.le_of_ble_eq_true rfl) dX2_giveByOthers_120 ⟨Nat.le_refl _, Nat.le_refl _⟩ (fun r120 S120 z120 f1 H locs p120 I => ?_)
      exact c_iret hx hb hr hlocks I dX2_giveByOthers_123 (by unfold ev_then; rw [if_pos (e3.symm.trans h11), if_neg (show ¬ S0.2 5 k = 8 from by rw [k52_9]; decide), if_pos k52_9, ← e5 (e3.symm.trans h11)]; exact g_post_z p120 e2)
    by_cases k52_10 : (S0.2 5 k) = 10
    · refine lv_tableIn (tgt := 124) hx hb dX2_giveByOthers_52 (by rw [k52_10]; decide) (by rw [k52_10]; decide) (off := 72) (by rw [k52_10]; rfl) (by decide) ?_
      refine lv_iload_n hx hb dX2_giveByOthers_124 rfl (lv_at hl 0 rfl) ?_
      refine lv_if_eq (tgt := 140) hx hb dX2_giveByOthers_125 (by decide) (fun c125 => ?_) (fun c125 => ?_)
      · refine lv_iload_n hx hb dX2_giveByOthers_140 rfl (lv_at hl 3 rfl) ?_
        exact c_iret hx hb hr hlocks I dX2_giveByOthers_141 (by unfold ev_then; rw [if_pos (e3.symm.trans h11), if_neg (show ¬ S0.2 5 k = 8 from by rw [k52_10]; decide), if_neg (show ¬ S0.2 5 k = 9 from by rw [k52_10]; decide), if_pos k52_10, ← e5 (e3.symm.trans h11), if_pos c125]; exact ⟨rfl, e2, e3, e4, fun _ => rfl⟩)
      · obtain ⟨kb, hkbk, hkb⟩ := (hN.2.2.1 k hk).2.2.2.2.1 (Or.inr (Or.inl k52_10))
        refine lv_aload_n hx hb dX2_giveByOthers_128 rfl (lv_at hl 1 rfl) ?_
        refine lv_aload_n hx hb dX2_giveByOthers_129 rfl (lv_at hl 2 rfl) ?_
        refine c_rget2 hx hb hts hin1 hown I (by rw [hNq.N]; exact hk) L165 dX2_giveByOthers_130 (x := nI kb) (sm7.trans hkb) ?_
        refine lv_iload_n hx hb dX2_giveByOthers_133 rfl (lv_at hl 3 rfl) ?_
        refine c_calli (rest := []) ⟨hx, hb, hml, hown, hts⟩ (G D o ap cA cR cU A ρ σ ra L _ q.2 z6 kb x (by omega) (by omega) hNq hstq (e3.symm.trans h11) h11) (cwV 2 hts gX2_giveByOthers_X2_give rfl rfl rfl (by decide +kernel) ⟨show 3 * n + 1 ≤ 3 * n + 2 by omega, show 8 + (4 + 11) + 68 * n ≤ 68 * n + 45 by omega⟩) I rfl hl.1 rfl (Nat.le_of_ble_eq_true rfl) dX2_giveByOthers_134 ⟨Nat.le_refl _, Nat.le_refl _⟩ (fun r134 S134 z134 f1 H locs p134 I => ?_)
        refine lv_goto (tgt := 141) hx hb dX2_giveByOthers_137 (by decide) ?_
        exact c_iret hx hb hr hlocks I dX2_giveByOthers_141 (by unfold ev_then; rw [if_pos (e3.symm.trans h11), if_neg (show ¬ S0.2 5 k = 8 from by rw [k52_10]; decide), if_neg (show ¬ S0.2 5 k = 9 from by rw [k52_10]; decide), if_pos k52_10, ← e5 (e3.symm.trans h11), if_neg c125, hkb]; exact g_post_z p134 e2)
    by_cases k52_11 : (S0.2 5 k) = 11
    · refine lv_tableIn (tgt := 156) hx hb dX2_giveByOthers_52 (by rw [k52_11]; decide) (by rw [k52_11]; decide) (off := 104) (by rw [k52_11]; rfl) (by decide) ?_
      refine lv_iload_n hx hb dX2_giveByOthers_156 rfl (lv_at hl 0 rfl) ?_
      exact c_iret hx hb hr hlocks I dX2_giveByOthers_157 (by unfold ev_then; rw [if_pos (e3.symm.trans h11), if_neg (show ¬ S0.2 5 k = 8 from by rw [k52_11]; decide), if_neg (show ¬ S0.2 5 k = 9 from by rw [k52_11]; decide), if_neg (show ¬ S0.2 5 k = 10 from by rw [k52_11]; decide), if_neg (show ¬ S0.2 5 k = 16 from by rw [k52_11]; decide)]; exact ⟨rfl, e2, e3, e4, e5⟩)
    by_cases k52_12 : (S0.2 5 k) = 12
    · refine lv_tableIn (tgt := 156) hx hb dX2_giveByOthers_52 (by rw [k52_12]; decide) (by rw [k52_12]; decide) (off := 104) (by rw [k52_12]; rfl) (by decide) ?_
      refine lv_iload_n hx hb dX2_giveByOthers_156 rfl (lv_at hl 0 rfl) ?_
      exact absurd ha (by rw [k52_12]; decide)
    by_cases k52_13 : (S0.2 5 k) = 13
    · refine lv_tableIn (tgt := 156) hx hb dX2_giveByOthers_52 (by rw [k52_13]; decide) (by rw [k52_13]; decide) (off := 104) (by rw [k52_13]; rfl) (by decide) ?_
      refine lv_iload_n hx hb dX2_giveByOthers_156 rfl (lv_at hl 0 rfl) ?_
      exact absurd ha (by rw [k52_13]; decide)
    by_cases k52_14 : (S0.2 5 k) = 14
    · refine lv_tableIn (tgt := 156) hx hb dX2_giveByOthers_52 (by rw [k52_14]; decide) (by rw [k52_14]; decide) (off := 104) (by rw [k52_14]; rfl) (by decide) ?_
      refine lv_iload_n hx hb dX2_giveByOthers_156 rfl (lv_at hl 0 rfl) ?_
      exact absurd ha (by rw [k52_14]; decide)
    by_cases k52_15 : (S0.2 5 k) = 15
    · refine lv_tableIn (tgt := 156) hx hb dX2_giveByOthers_52 (by rw [k52_15]; decide) (by rw [k52_15]; decide) (off := 104) (by rw [k52_15]; rfl) (by decide) ?_
      refine lv_iload_n hx hb dX2_giveByOthers_156 rfl (lv_at hl 0 rfl) ?_
      exact absurd ha (by rw [k52_15]; decide)
    by_cases k52_16 : (S0.2 5 k) = 16
    · refine lv_tableIn (tgt := 142) hx hb dX2_giveByOthers_52 (by rw [k52_16]; decide) (by rw [k52_16]; decide) (off := 90) (by rw [k52_16]; rfl) (by decide) ?_
      obtain ⟨kb, hkbk, hkb⟩ := (hN.2.2.1 k hk).2.2.2.2.1 (Or.inr (Or.inr (Or.inr k52_16)))
      refine lv_iload_n hx hb dX2_giveByOthers_142 rfl (lv_at hl 0 rfl) ?_
      refine lv_aload_n hx hb dX2_giveByOthers_143 rfl (lv_at hl 1 rfl) ?_
      refine lv_aload_n hx hb dX2_giveByOthers_144 rfl (lv_at hl 2 rfl) ?_
      refine c_rget2 hx hb hts hin1 hown I (by rw [hNq.N]; exact hk) L165 dX2_giveByOthers_145 (x := nI kb) (sm7.trans hkb) ?_
      refine lv_iload_n hx hb dX2_giveByOthers_148 rfl (lv_at hl 3 rfl) ?_
      refine c_calli (rest := [.int r6]) ⟨hx, hb, hml, hown, hts⟩ (G D o ap cA cR cU A ρ σ ra L _ q.2 z6 kb x (by omega) (by omega) hNq hstq (e3.symm.trans h11) h11) (cwV 2 hts gX2_giveByOthers_X2_give rfl rfl rfl (by decide +kernel) ⟨show 3 * n + 1 ≤ 3 * n + 2 by omega, show 8 + (4 + 11) + 68 * n ≤ 68 * n + 45 by omega⟩) I rfl hl.1 rfl (Nat.le_of_ble_eq_true rfl) dX2_giveByOthers_149 ⟨Nat.le_refl _, Nat.le_refl _⟩ (fun r149 S149 z149 f1 H locs p149 I => ?_)
      refine va_mmin (rest := []) (R := (headSpec wsX2_giveByOthers { frames := 3 * n + 2, cells := 0, slots := 0, locals := 68 * n + 45 }).room) hx hb (hml.trans hl.1.symm) hown (hts (.methodLink RX2 171 Lib.Math.min.name) (by decide +kernel)) (hts (.static Lib.Math.min.name) (by decide +kernel)) (hts (.initialized "java/lang/Math") (by decide +kernel)) (hts (.code Lib.Math.min.name Lib.Math.min.code 2 (some .int)) (by decide +kernel)) (show 1 ≤ 3 * n + 2 by omega) (show 0 + 13 ≤ 68 * n + 45 by omega) (Nat.le_refl _) (Nat.le_refl _) dX2_giveByOthers_152 ?_
      refine c_iret hx hb hr hlocks I dX2_giveByOthers_155 ?_
      unfold ev_then
      rw [if_pos (e3.symm.trans h11), if_neg (show ¬ S0.2 5 k = 8 from by rw [k52_16]; decide), if_neg (show ¬ S0.2 5 k = 9 from by rw [k52_16]; decide), if_neg (show ¬ S0.2 5 k = 10 from by rw [k52_16]; decide), if_pos k52_16, ← e5 (e3.symm.trans h11), hkb]
      obtain ⟨w1, w2, w3, w4, w5⟩ := p149
      refine ⟨w1, w2.trans e2, w3, w4, fun w => ?_⟩
      have w5 := w5 w
      rw [w5, min_eq]
      rfl
    refine lv_tableOut (tgt := 156) hx hb dX2_giveByOthers_52 (by have t8 := lv_neT k52_8 (a := 8) rfl; have t9 := lv_neT k52_9 (a := 9) rfl; have t10 := lv_neT k52_10 (a := 10) rfl; have t11 := lv_neT k52_11 (a := 11) rfl; have t12 := lv_neT k52_12 (a := 12) rfl; have t13 := lv_neT k52_13 (a := 13) rfl; have t14 := lv_neT k52_14 (a := 14) rfl; have t15 := lv_neT k52_15 (a := 15) rfl; have t16 := lv_neT k52_16 (a := 16) rfl; omega) (by decide) ?_
    refine lv_iload_n hx hb dX2_giveByOthers_156 rfl (lv_at hl 0 rfl) ?_
    rcases asks_to hN hk ha with w | w | w | w | w
    · exact absurd w k52_8
    · exact absurd w k52_9
    · exact absurd w k52_10
    · exact absurd w k52_11
    · exact absurd w k52_16

theorem kd_no {v : Int32} (h0 : ¬ v = 0) (h1 : ¬ v = 1) (h2 : ¬ v = 2) (h3 : ¬ v = 3) (h4 : ¬ v = 4) (h5 : ¬ v = 5) (h6 : ¬ v = 6) (h7 : ¬ v = 7) (h8 : ¬ v = 8) (h9 : ¬ v = 9) (h10 : ¬ v = 10) (h11 : ¬ v = 11) (h12 : ¬ v = 12) (h13 : ¬ v = 13) (h14 : ¬ v = 14) (h15 : ¬ v = 15) (h16 : ¬ v = 16) (h17 : ¬ v = 17) : ¬ ∃ d : Nat, d ≤ 17 ∧ v = nI d := by
  rintro ⟨d, hd, rfl⟩
  have key : ∀ d, d < 18 → nI d = 0 ∨ nI d = 1 ∨ nI d = 2 ∨ nI d = 3 ∨ nI d = 4 ∨ nI d = 5 ∨ nI d = 6 ∨ nI d = 7 ∨ nI d = 8 ∨ nI d = 9 ∨ nI d = 10 ∨ nI d = 11 ∨ nI d = 12 ∨ nI d = 13 ∨ nI d = 14 ∨ nI d = 15 ∨ nI d = 16 ∨ nI d = 17 := by decide +kernel
  rcases key d (by omega) with q | q | q | q | q | q | q | q | q | q | q | q | q | q | q | q | q | q
  · exact h0 q
  · exact h1 q
  · exact h2 q
  · exact h3 q
  · exact h4 q
  · exact h5 q
  · exact h6 q
  · exact h7 q
  · exact h8 q
  · exact h9 q
  · exact h10 q
  · exact h11 q
  · exact h12 q
  · exact h13 q
  · exact h14 q
  · exact h15 q
  · exact h16 q
  · exact h17 q
set_option maxHeartbeats 4000000 in
set_option maxRecDepth 100000 in
theorem c_X2_give1 (l : Launch) (D : va_G) (o : Nat) (ap : Nat → Nat) (cA cR cU : ClassId) (A : Nat → Prop) (ρ σ ra : Nat → Nat) (L : List Nat) (f0 : Nat → va_E) (S0 : tr_S) (z0 : tr_Z) (N n k : Nat) (G : c_GIVE l N n) (x : Int32) (hkn : k < n + 1) (hk : k < N) (hN : wf S0 N) (hst : ∃ st : Nat, st ≤ 64 ∧ 0 ≤ st ∧ S0.1 18 = nI st) (h0 : S0.1 16 = 0) (hz : z0.1 = 0) : c_Mi l yX2_give wsX2_give { frames := 3 * (n + 1), cells := 0, slots := 0, locals := 68 * (n + 1) } [.int (nI k), .int x] D o ap cA cR cU A ρ σ ra L f0 S0 z0 (g_post (ev (n + 1) (nI k) x S0) z0) := by
  refine Met.ofW (cc := cX2_give) (maxL := 4) (ret := (some .int)) (by decide) rfl ?_
  intro p e s m args below meth c s₁ B hml hv
  obtain ⟨rfl, hB⟩ := hv
  have hx := B.exec
  have hb := B.bytes
  have hr := B.returns
  have hts := atoms_spec (ws := wsX2_give) B.pre
  have hown : s.vm.findClass RX2 = some m.cls := findClass_of_methodNamed B.named
  have hlocks := B.notSynchronized
  have I := c_I.of hB
  have hin2 : ∀ w ∈ wsX20, w ∈ wsX2_give := fun _ h => List.mem_cons_of_mem _ (List.mem_append_left _ (List.mem_append_left _ (List.mem_append_right _ h)))
  have hin1 : ∀ w ∈ wsX10, w ∈ wsX2_give := fun _ h => List.mem_cons_of_mem _ (List.mem_append_left _ (List.mem_append_right _ h))
  have hin0 : ∀ w ∈ wsX00, w ∈ wsX2_give := fun _ h => List.mem_cons_of_mem _ (List.mem_append_right _ h)
  have L11 := hts (.fieldLink RX2 11 "TollRules" "places" "[I") (by decide +kernel)
  have L17 := hts (.fieldLink RX2 17 "TollRules" "rows" "[LTollRules$Row;") (by decide +kernel)
  have L23 := hts (.fieldLink RX2 23 "TollRules" "rules" "[LTollRules$Rule;") (by decide +kernel)
  have L49 := hts (.fieldLink RX2 49 "TollRules" "latestSteps" "I") (by decide +kernel)
  have L52 := hts (.fieldLink RX2 52 "TollRules" "stepsInAll" "I") (by decide +kernel)
  have L138 := hts (.fieldLink RX2 138 "TollRules$Rule" "kind" "I") (by decide +kernel)
  have L141 := hts (.fieldLink RX2 141 "TollRules$Rule" "a" "I") (by decide +kernel)
  have L144 := hts (.fieldLink RX2 144 "TollRules$Rule" "kept" "I") (by decide +kernel)
  have L147 := hts (.fieldLink RX2 147 "TollRules$Rule" "keptRow" "LTollRules$Row;") (by decide +kernel)
  have L155 := hts (.fieldLink RX2 155 "TollRules$Rule" "own" "I") (by decide +kernel)
  have hl := lv_entry ([.ref o, .int (nI k), .int x]) (n := 4) (Nat.le_of_ble_eq_true rfl)
  rw [lg_entry_eq]
  generalize (lg_sl ([.ref o, .int (nI k), .int x]) ++ List.replicate (4 - (lg_sl ([.ref o, .int (nI k), .int x])).length) Slot.unset).toArray = ls at hl ⊢
  have hl : lv_has ls 4 [(0, .ref o), (1, .int (nI k)), (2, .int x)] := hl
  refine lv_aload_n hx hb dX2_give_0 rfl (lv_at hl 0 rfl) ?_
  refine c_get10 hx hb hts hin2 hown I L49 dX2_give_1 (x := S0.1 18) rfl ?_
  refine lv_bipush (v := 64) hx hb dX2_give_4 (by decide) ?_
  refine lv_icmp_lt (tgt := 16) hx hb dX2_give_6 (by decide) (fun c6 => ?_) (fun c6 => ?_)
  · refine lv_aload_n hx hb dX2_give_16 rfl (lv_at hl 0 rfl) ?_
    refine lv_dup hx hb dX2_give_17 rfl ?_
    refine c_get10 hx hb hts hin2 hown I L49 dX2_give_18 (x := S0.1 18) rfl ?_
    refine lv_iconst (v := 1) hx hb dX2_give_21 (by decide) ?_
    refine lv_iadd hx hb dX2_give_22 ?_
    refine c_put10 hx hb hts hin2 hown I L49 dX2_give_23 (fun H locs I => ?_)
    refine lv_aload_n hx hb dX2_give_26 rfl (lv_at hl 0 rfl) ?_
    refine lv_dup hx hb dX2_give_27 rfl ?_
    refine c_get11 hx hb hts hin2 hown I L52 dX2_give_28 (x := S0.1 20) rfl ?_
    refine lv_iconst (v := 1) hx hb dX2_give_31 (by decide) ?_
    refine lv_iadd hx hb dX2_give_32 ?_
    refine c_put11 hx hb hts hin2 hown I L52 dX2_give_33 (fun H locs I => ?_)
    have hs : ¬ S0.1 18 = 64 := fun w => absurd c6 (by rw [w]; decide)
    have I : c_I D o ap cA cR cU A ρ σ ra L f0 (f_tick S0) z0 s s.heap _ _ := I
    have hNt : wf (f_tick S0) N := hN.sm ⟨rfl, rfl, rfl, rfl, rfl, rfl, rfl, rfl, rfl⟩
    have hrl := hN.2.2.1 k hk
    unfold rl_ok at hrl
    obtain ⟨r1, r2, r3, r4, r5, r6, r7⟩ := hrl
    have hk40 : k < 40 := by have := hN.1; omega
    refine lv_aload_n hx hb dX2_give_36 rfl (lv_at hl 0 rfl) ?_
    refine c_get2 hx hb hts hin2 hown I L23 dX2_give_37 ?_
    refine lv_iload_n hx hb dX2_give_40 rfl (lv_at hl 1 rfl) ?_
    refine c_rule_ld hx hb I (show k < (S0.1 4).toNatClampNeg by rw [hN.N]; exact hk) hk40 dX2_give_41 ?_
    refine lv_astore_n (lv' := [(3, .ref (ra k)), (0, .ref o), (1, .int (nI k)), (2, .int x)]) hx hb dX2_give_42 rfl hl (by decide) rfl (fun ls hl => ?_)
    refine lv_aload_n hx hb dX2_give_43 rfl (lv_at hl 0 rfl) ?_
    refine c_rget0 hx hb hts hin1 hown I (show k < (S0.1 4).toNatClampNeg by rw [hN.N]; exact hk) L138 dX2_give_44 (x := S0.2 5 k) rfl ?_
    by_cases k47_0 : (S0.2 5 k) = 0
    · refine lv_tableIn (tgt := 132) hx hb dX2_give_47 (by rw [k47_0]; decide) (by rw [k47_0]; decide) (off := 85) (by rw [k47_0]; rfl) (by decide) ?_
      refine lv_iload_n hx hb dX2_give_132 rfl (lv_at hl 3 rfl) ?_
      refine lv_aload_n hx hb dX2_give_133 rfl (lv_at hl 0 rfl) ?_
      refine c_rget1 hx hb hts hin1 hown I (show k < (S0.1 4).toNatClampNeg by rw [hN.N]; exact hk) L141 dX2_give_134 (x := S0.2 6 k) rfl ?_
      refine lv_iadd hx hb dX2_give_137 ?_
      have ea : ev (n + 1) (nI k) x S0 = f_given (nI k) x (f_tick S0) := by rw [ev_s]; unfold ev_step; rw [if_neg hs, nI_clamp (show k < 2 ^ 31 by omega), if_neg (by rw [k47_0]; decide)]
      have eg : f_given (nI k) x (f_tick S0) = (x + (S0.2 6 k), (f_tick S0)) := by simp (decide := true) [f_given, f_tick_A, nI_clamp (show k < 2 ^ 31 by omega), k47_0]
      exact c_iret hx hb hr hlocks I dX2_give_138 (by rw [ea, eg]; exact ⟨rfl, rfl, hz.trans h0.symm, fun w => absurd h0 w, fun _ => rfl⟩)
    by_cases k47_1 : (S0.2 5 k) = 1
    · refine lv_tableIn (tgt := 139) hx hb dX2_give_47 (by rw [k47_1]; decide) (by rw [k47_1]; decide) (off := 92) (by rw [k47_1]; rfl) (by decide) ?_
      refine lv_iload_n hx hb dX2_give_139 rfl (lv_at hl 3 rfl) ?_
      refine lv_aload_n hx hb dX2_give_140 rfl (lv_at hl 0 rfl) ?_
      refine c_rget1 hx hb hts hin1 hown I (show k < (S0.1 4).toNatClampNeg by rw [hN.N]; exact hk) L141 dX2_give_141 (x := S0.2 6 k) rfl ?_
      refine lv_imul hx hb dX2_give_144 ?_
      have ea : ev (n + 1) (nI k) x S0 = f_given (nI k) x (f_tick S0) := by rw [ev_s]; unfold ev_step; rw [if_neg hs, nI_clamp (show k < 2 ^ 31 by omega), if_neg (by rw [k47_1]; decide)]
      have eg : f_given (nI k) x (f_tick S0) = (x * (S0.2 6 k), (f_tick S0)) := by simp (decide := true) [f_given, f_tick_A, nI_clamp (show k < 2 ^ 31 by omega), k47_1]
      exact c_iret hx hb hr hlocks I dX2_give_145 (by rw [ea, eg]; exact ⟨rfl, rfl, hz.trans h0.symm, fun w => absurd h0 w, fun _ => rfl⟩)
    by_cases k47_2 : (S0.2 5 k) = 2
    · refine lv_tableIn (tgt := 146) hx hb dX2_give_47 (by rw [k47_2]; decide) (by rw [k47_2]; decide) (off := 99) (by rw [k47_2]; rfl) (by decide) ?_
      refine lv_aload_n hx hb dX2_give_146 rfl (lv_at hl 0 rfl) ?_
      refine c_rget1 hx hb hts hin1 hown I (show k < (S0.1 4).toNatClampNeg by rw [hN.N]; exact hk) L141 dX2_give_147 (x := S0.2 6 k) rfl ?_
      refine lv_if_ne (tgt := 162) hx hb dX2_give_150 (by decide) (fun c150 => ?_) (fun c150 => ?_)
      · refine lv_iload_n hx hb dX2_give_162 rfl (lv_at hl 3 rfl) ?_
        refine lv_aload_n hx hb dX2_give_163 rfl (lv_at hl 0 rfl) ?_
        refine c_rget1 hx hb hts hin1 hown I (show k < (S0.1 4).toNatClampNeg by rw [hN.N]; exact hk) L141 dX2_give_164 (x := S0.2 6 k) rfl ?_
        refine lv_idiv hx hb dX2_give_167 c150 ?_
        have ea : ev (n + 1) (nI k) x S0 = f_given (nI k) x (f_tick S0) := by rw [ev_s]; unfold ev_step; rw [if_neg hs, nI_clamp (show k < 2 ^ 31 by omega), if_neg (by rw [k47_2]; decide)]
        have eg : f_given (nI k) x (f_tick S0) = (x / (S0.2 6 k), (f_tick S0)) := by simp (decide := true) [f_given, f_tick_A, nI_clamp (show k < 2 ^ 31 by omega), k47_2, c150]
        exact c_iret hx hb hr hlocks I dX2_give_168 (by rw [ea, eg]; exact ⟨rfl, rfl, hz.trans h0.symm, fun w => absurd h0 w, fun _ => rfl⟩)
      · refine lv_aload_n hx hb dX2_give_153 rfl (lv_at hl 1 rfl) ?_
        refine lv_iconst (v := 1) hx hb dX2_give_154 (by decide) ?_
        refine lv_iload_n hx hb dX2_give_155 rfl (lv_at hl 2 rfl) ?_
        refine c_calli (rest := []) ⟨hx, hb, hml, hown, hts⟩ (c_X2_refuse l D o ap cA cR cU A ρ σ ra L _ (f_tick S0) z0 1 (nI k)) (cwV 2 hts gX2_give_X2_refuse rfl rfl rfl (by decide +kernel) ⟨show 0 + 1 ≤ 3 * (n + 1) by omega, show 8 + (3 + 11) + 0 ≤ 68 * (n + 1) by omega⟩) I rfl hl.1 rfl (Nat.le_of_ble_eq_true rfl) dX2_give_156 ⟨Nat.le_refl _, Nat.le_refl _⟩ (fun r156 S156 z156 f1 H locs p156 I => ?_)
        obtain ⟨rfl, e156⟩ := p156
        obtain ⟨ea156, eb156⟩ := Prod.mk.inj e156
        rw [ea156, eb156] at I
        refine lv_goto (tgt := 168) hx hb dX2_give_159 (by decide) ?_
        have ea : ev (n + 1) (nI k) x S0 = f_given (nI k) x (f_tick S0) := by rw [ev_s]; unfold ev_step; rw [if_neg hs, nI_clamp (show k < 2 ^ 31 by omega), if_neg (by rw [k47_2]; decide)]
        have eg : f_given (nI k) x (f_tick S0) = (0, f_fails 1 (nI k) (f_tick S0)) := by simp (decide := true) [f_given, f_tick_A, nI_clamp (show k < 2 ^ 31 by omega), k47_2, c150]
        exact c_iret (S := f_fails 1 (nI k) (f_tick S0)) hx hb hr hlocks I dX2_give_168 (by rw [ea, eg]; exact ⟨rfl, rfl, rfl, fun _ => rfl, fun w => absurd (show (1 : Int32) = 0 from w) (by decide)⟩)
    by_cases k47_3 : (S0.2 5 k) = 3
    · refine lv_tableIn (tgt := 169) hx hb dX2_give_47 (by rw [k47_3]; decide) (by rw [k47_3]; decide) (off := 122) (by rw [k47_3]; rfl) (by decide) ?_
      refine lv_aload_n hx hb dX2_give_169 rfl (lv_at hl 0 rfl) ?_
      refine c_rget1 hx hb hts hin1 hown I (show k < (S0.1 4).toNatClampNeg by rw [hN.N]; exact hk) L141 dX2_give_170 (x := S0.2 6 k) rfl ?_
      refine lv_if_ne (tgt := 185) hx hb dX2_give_173 (by decide) (fun c173 => ?_) (fun c173 => ?_)
      · refine lv_iload_n hx hb dX2_give_185 rfl (lv_at hl 3 rfl) ?_
        refine lv_aload_n hx hb dX2_give_186 rfl (lv_at hl 0 rfl) ?_
        refine c_rget1 hx hb hts hin1 hown I (show k < (S0.1 4).toNatClampNeg by rw [hN.N]; exact hk) L141 dX2_give_187 (x := S0.2 6 k) rfl ?_
        refine lv_irem hx hb dX2_give_190 c173 ?_
        have ea : ev (n + 1) (nI k) x S0 = f_given (nI k) x (f_tick S0) := by rw [ev_s]; unfold ev_step; rw [if_neg hs, nI_clamp (show k < 2 ^ 31 by omega), if_neg (by rw [k47_3]; decide)]
        have eg : f_given (nI k) x (f_tick S0) = (x - x / (S0.2 6 k) * (S0.2 6 k), (f_tick S0)) := by simp (decide := true) [f_given, f_tick_A, nI_clamp (show k < 2 ^ 31 by omega), k47_3, c173]
        exact c_iret hx hb hr hlocks I dX2_give_191 (by rw [ea, eg]; exact ⟨rfl, rfl, hz.trans h0.symm, fun w => absurd h0 w, fun _ => rfl⟩)
      · refine lv_aload_n hx hb dX2_give_176 rfl (lv_at hl 1 rfl) ?_
        refine lv_iconst (v := 1) hx hb dX2_give_177 (by decide) ?_
        refine lv_iload_n hx hb dX2_give_178 rfl (lv_at hl 2 rfl) ?_
        refine c_calli (rest := []) ⟨hx, hb, hml, hown, hts⟩ (c_X2_refuse l D o ap cA cR cU A ρ σ ra L _ (f_tick S0) z0 1 (nI k)) (cwV 2 hts gX2_give_X2_refuse rfl rfl rfl (by decide +kernel) ⟨show 0 + 1 ≤ 3 * (n + 1) by omega, show 8 + (3 + 11) + 0 ≤ 68 * (n + 1) by omega⟩) I rfl hl.1 rfl (Nat.le_of_ble_eq_true rfl) dX2_give_179 ⟨Nat.le_refl _, Nat.le_refl _⟩ (fun r179 S179 z179 f1 H locs p179 I => ?_)
        obtain ⟨rfl, e179⟩ := p179
        obtain ⟨ea179, eb179⟩ := Prod.mk.inj e179
        rw [ea179, eb179] at I
        refine lv_goto (tgt := 191) hx hb dX2_give_182 (by decide) ?_
        have ea : ev (n + 1) (nI k) x S0 = f_given (nI k) x (f_tick S0) := by rw [ev_s]; unfold ev_step; rw [if_neg hs, nI_clamp (show k < 2 ^ 31 by omega), if_neg (by rw [k47_3]; decide)]
        have eg : f_given (nI k) x (f_tick S0) = (0, f_fails 1 (nI k) (f_tick S0)) := by simp (decide := true) [f_given, f_tick_A, nI_clamp (show k < 2 ^ 31 by omega), k47_3, c173]
        exact c_iret (S := f_fails 1 (nI k) (f_tick S0)) hx hb hr hlocks I dX2_give_191 (by rw [ea, eg]; exact ⟨rfl, rfl, rfl, fun _ => rfl, fun w => absurd (show (1 : Int32) = 0 from w) (by decide)⟩)
    by_cases k47_4 : (S0.2 5 k) = 4
    · refine lv_tableIn (tgt := 192) hx hb dX2_give_47 (by rw [k47_4]; decide) (by rw [k47_4]; decide) (off := 145) (by rw [k47_4]; rfl) (by decide) ?_
      refine lv_iload_n hx hb dX2_give_192 rfl (lv_at hl 3 rfl) ?_
      refine lv_aload_n hx hb dX2_give_193 rfl (lv_at hl 0 rfl) ?_
      refine c_rget3 hx hb hts hin1 hown I (show k < (S0.1 4).toNatClampNeg by rw [hN.N]; exact hk) L144 dX2_give_194 (x := S0.2 8 k) rfl ?_
      refine lv_iadd hx hb dX2_give_197 ?_
      have ea : ev (n + 1) (nI k) x S0 = f_given (nI k) x (f_tick S0) := by rw [ev_s]; unfold ev_step; rw [if_neg hs, nI_clamp (show k < 2 ^ 31 by omega), if_neg (by rw [k47_4]; decide)]
      have eg : f_given (nI k) x (f_tick S0) = (x + (S0.2 8 k), (f_tick S0)) := by simp (decide := true) [f_given, f_tick_A, nI_clamp (show k < 2 ^ 31 by omega), k47_4]
      exact c_iret hx hb hr hlocks I dX2_give_198 (by rw [ea, eg]; exact ⟨rfl, rfl, hz.trans h0.symm, fun w => absurd h0 w, fun _ => rfl⟩)
    by_cases k47_5 : (S0.2 5 k) = 5
    · refine lv_tableIn (tgt := 199) hx hb dX2_give_47 (by rw [k47_5]; decide) (by rw [k47_5]; decide) (off := 152) (by rw [k47_5]; rfl) (by decide) ?_
      refine lv_iload_n hx hb dX2_give_199 rfl (lv_at hl 3 rfl) ?_
      refine lv_aload_n hx hb dX2_give_200 rfl (lv_at hl 1 rfl) ?_
      refine c_get0 hx hb hts hin2 hown I L11 dX2_give_201 ?_
      refine lv_aload_n hx hb dX2_give_204 rfl (lv_at hl 0 rfl) ?_
      refine c_rget1 hx hb hts hin1 hown I (show k < (S0.1 4).toNatClampNeg by rw [hN.N]; exact hk) L141 dX2_give_205 (x := S0.2 6 k) rfl ?_
      refine c_ald0 hx hb I (r2 (Or.inr (Or.inl k47_5))) dX2_give_208 (x := (f_tick S0).2 0 ((S0.2 6 k).toNatClampNeg)) rfl ?_
      refine lv_iadd hx hb dX2_give_209 ?_
      have ea : ev (n + 1) (nI k) x S0 = f_given (nI k) x (f_tick S0) := by rw [ev_s]; unfold ev_step; rw [if_neg hs, nI_clamp (show k < 2 ^ 31 by omega), if_neg (by rw [k47_5]; decide)]
      have eg : f_given (nI k) x (f_tick S0) = (x + ((f_tick S0).2 0 ((S0.2 6 k).toNatClampNeg)), (f_tick S0)) := by simp (decide := true) [f_given, f_tick_A, nI_clamp (show k < 2 ^ 31 by omega), k47_5]
      exact c_iret hx hb hr hlocks I dX2_give_210 (by rw [ea, eg]; exact ⟨rfl, rfl, hz.trans h0.symm, fun w => absurd h0 w, fun _ => rfl⟩)
    by_cases k47_6 : (S0.2 5 k) = 6
    · refine lv_tableIn (tgt := 211) hx hb dX2_give_47 (by rw [k47_6]; decide) (by rw [k47_6]; decide) (off := 164) (by rw [k47_6]; rfl) (by decide) ?_
      refine lv_aload_n hx hb dX2_give_211 rfl (lv_at hl 1 rfl) ?_
      refine lv_aload_n hx hb dX2_give_212 rfl (lv_at hl 0 rfl) ?_
      refine c_rget4 hx hb hts hin1 hown I (show k < (S0.1 4).toNatClampNeg by rw [hN.N]; exact hk) L147 dX2_give_213 (fun n213 => ?_) (fun n213 => ?_)
      · have e9 := (neg_row r6).1 n213
        refine lv_iload_n hx hb dX2_give_216 rfl (lv_at hl 3 rfl) ?_
        refine lv_iload_n hx hb dX2_give_217 rfl (lv_at hl 2 rfl) ?_
        refine c_calli (rest := []) ⟨hx, hb, hml, hown, hts⟩ (c_X2_giveItem_n l D o ap cA cR cU A ρ σ ra L _ (f_tick S0) z0 x (nI k)) (cwV 3 hts gX2_give_X2_giveItem rfl rfl rfl (by decide +kernel) ⟨show 1 + 1 ≤ 3 * (n + 1) by omega, show 8 + (4 + 11) + 22 ≤ 68 * (n + 1) by omega⟩) I rfl hl.1 rfl (Nat.le_of_ble_eq_true rfl) dX2_give_218 ⟨Nat.le_refl _, Nat.le_refl _⟩ (fun r218 S218 z218 f1 H locs p218 I => ?_)
        have ea : ev (n + 1) (nI k) x S0 = f_given (nI k) x (f_tick S0) := by rw [ev_s]; unfold ev_step; rw [if_neg hs, nI_clamp (show k < 2 ^ 31 by omega), if_neg (by rw [k47_6]; decide)]
        have eg : f_given (nI k) x (f_tick S0) = f_itemAt (S0.2 9 k) x (nI k) (f_tick S0) := by simp (decide := true) [f_given, f_tick_A, nI_clamp (show k < 2 ^ 31 by omega), k47_6]
        exact c_iret hx hb hr hlocks I dX2_give_221 (by rw [ea, eg, e9]; exact p218)
      · obtain ⟨q, hq48, e9⟩ := (neg_row r6).2 n213
        obtain ⟨nq, hnq10, hnq⟩ := hN.2.2.2.2 q hq48
        rw [show ((f_tick S0).2 9 k).toNatClampNeg = q by rw [f_tick_A, e9, nI_clamp (show q < 2 ^ 31 by omega)]]
        refine lv_iload_n hx hb dX2_give_216 rfl (lv_at hl 3 rfl) ?_
        refine lv_iload_n hx hb dX2_give_217 rfl (lv_at hl 2 rfl) ?_
        refine c_calli (rest := []) ⟨hx, hb, hml, hown, hts⟩ (c_X2_giveItem_r l D o ap cA cR cU A ρ σ ra L _ (f_tick S0) z0 q nq x (nI k) hq48 (c_held_of hNt hk hq48 e9) hnq hnq10 hz h0) (cwV 3 hts gX2_give_X2_giveItem rfl rfl rfl (by decide +kernel) ⟨show 1 + 1 ≤ 3 * (n + 1) by omega, show 8 + (4 + 11) + 22 ≤ 68 * (n + 1) by omega⟩) I rfl hl.1 rfl (Nat.le_of_ble_eq_true rfl) dX2_give_218 ⟨Nat.le_refl _, Nat.le_refl _⟩ (fun r218 S218 z218 f1 H locs p218 I => ?_)
        have ea : ev (n + 1) (nI k) x S0 = f_given (nI k) x (f_tick S0) := by rw [ev_s]; unfold ev_step; rw [if_neg hs, nI_clamp (show k < 2 ^ 31 by omega), if_neg (by rw [k47_6]; decide)]
        have eg : f_given (nI k) x (f_tick S0) = f_itemAt (S0.2 9 k) x (nI k) (f_tick S0) := by simp (decide := true) [f_given, f_tick_A, nI_clamp (show k < 2 ^ 31 by omega), k47_6]
        exact c_iret hx hb hr hlocks I dX2_give_221 (by rw [ea, eg, e9]; exact p218)
    by_cases k47_7 : (S0.2 5 k) = 7
    · refine lv_tableIn (tgt := 222) hx hb dX2_give_47 (by rw [k47_7]; decide) (by rw [k47_7]; decide) (off := 175) (by rw [k47_7]; rfl) (by decide) ?_
      refine lv_aload_n hx hb dX2_give_222 rfl (lv_at hl 1 rfl) ?_
      refine lv_aload_n hx hb dX2_give_223 rfl (lv_at hl 1 rfl) ?_
      refine c_get1 hx hb hts hin2 hown I L17 dX2_give_224 ?_
      refine lv_aload_n hx hb dX2_give_227 rfl (lv_at hl 0 rfl) ?_
      refine c_rget1 hx hb hts hin1 hown I (show k < (S0.1 4).toNatClampNeg by rw [hN.N]; exact hk) L141 dX2_give_228 (x := S0.2 6 k) rfl ?_
      refine c_row_ld hx hb I (r3 (Or.inr k47_7)) dX2_give_231 (fun n231 => ?_) (fun n231 => ?_)
      · have e9 := (neg_row (hN.2.2.2.1 _ (ix_nI (r3 (Or.inr k47_7)) (by decide)).2)).1 n231
        refine lv_iload_n hx hb dX2_give_232 rfl (lv_at hl 3 rfl) ?_
        refine lv_iload_n hx hb dX2_give_233 rfl (lv_at hl 2 rfl) ?_
        refine c_calli (rest := []) ⟨hx, hb, hml, hown, hts⟩ (c_X2_giveItem_n l D o ap cA cR cU A ρ σ ra L _ (f_tick S0) z0 x (nI k)) (cwV 3 hts gX2_give_X2_giveItem rfl rfl rfl (by decide +kernel) ⟨show 1 + 1 ≤ 3 * (n + 1) by omega, show 8 + (4 + 11) + 22 ≤ 68 * (n + 1) by omega⟩) I rfl hl.1 rfl (Nat.le_of_ble_eq_true rfl) dX2_give_234 ⟨Nat.le_refl _, Nat.le_refl _⟩ (fun r234 S234 z234 f1 H locs p234 I => ?_)
        have ea : ev (n + 1) (nI k) x S0 = f_given (nI k) x (f_tick S0) := by rw [ev_s]; unfold ev_step; rw [if_neg hs, nI_clamp (show k < 2 ^ 31 by omega), if_neg (by rw [k47_7]; decide)]
        have eg : f_given (nI k) x (f_tick S0) = f_itemAt (S0.2 1 (S0.2 6 k).toNatClampNeg) x (nI k) (f_tick S0) := by simp (decide := true) [f_given, f_tick_A, nI_clamp (show k < 2 ^ 31 by omega), k47_7]
        exact c_iret hx hb hr hlocks I dX2_give_237 (by rw [ea, eg, e9]; exact p234)
      · obtain ⟨q, hq48, e9⟩ := (neg_row (hN.2.2.2.1 _ (ix_nI (r3 (Or.inr k47_7)) (by decide)).2)).2 n231
        obtain ⟨nq, hnq10, hnq⟩ := hN.2.2.2.2 q hq48
        rw [show ((f_tick S0).2 1 (S0.2 6 k).toNatClampNeg).toNatClampNeg = q by rw [f_tick_A, e9, nI_clamp (show q < 2 ^ 31 by omega)]]
        refine lv_iload_n hx hb dX2_give_232 rfl (lv_at hl 3 rfl) ?_
        refine lv_iload_n hx hb dX2_give_233 rfl (lv_at hl 2 rfl) ?_
        refine c_calli (rest := []) ⟨hx, hb, hml, hown, hts⟩ (c_X2_giveItem_r l D o ap cA cR cU A ρ σ ra L _ (f_tick S0) z0 q nq x (nI k) hq48 (c_held_row (S := f_tick S0) (ix_nI (r3 (Or.inr k47_7)) (by decide)).2 hq48 e9) hnq hnq10 hz h0) (cwV 3 hts gX2_give_X2_giveItem rfl rfl rfl (by decide +kernel) ⟨show 1 + 1 ≤ 3 * (n + 1) by omega, show 8 + (4 + 11) + 22 ≤ 68 * (n + 1) by omega⟩) I rfl hl.1 rfl (Nat.le_of_ble_eq_true rfl) dX2_give_234 ⟨Nat.le_refl _, Nat.le_refl _⟩ (fun r234 S234 z234 f1 H locs p234 I => ?_)
        have ea : ev (n + 1) (nI k) x S0 = f_given (nI k) x (f_tick S0) := by rw [ev_s]; unfold ev_step; rw [if_neg hs, nI_clamp (show k < 2 ^ 31 by omega), if_neg (by rw [k47_7]; decide)]
        have eg : f_given (nI k) x (f_tick S0) = f_itemAt (S0.2 1 (S0.2 6 k).toNatClampNeg) x (nI k) (f_tick S0) := by simp (decide := true) [f_given, f_tick_A, nI_clamp (show k < 2 ^ 31 by omega), k47_7]
        exact c_iret hx hb hr hlocks I dX2_give_237 (by rw [ea, eg, e9]; exact p234)
    by_cases k47_8 : (S0.2 5 k) = 8
    · refine lv_tableIn (tgt := 304) hx hb dX2_give_47 (by rw [k47_8]; decide) (by rw [k47_8]; decide) (off := 257) (by rw [k47_8]; rfl) (by decide) ?_
      refine lv_aload_n hx hb dX2_give_304 rfl (lv_at hl 1 rfl) ?_
      refine lv_aload_n hx hb dX2_give_305 rfl (lv_at hl 0 rfl) ?_
      refine lv_iload_n hx hb dX2_give_306 rfl (lv_at hl 3 rfl) ?_
      refine c_calli (rest := []) ⟨hx, hb, hml, hown, hts⟩ (c_X2_giveByOthers l D o ap cA cR cU A ρ σ ra L _ (f_tick S0) z0 N n k G x hkn hk hNt (asks_of (by rw [f_tick_A, k47_8]; decide)) (f_tick_st hst hs) h0 hz) (cwV 2 hts gX2_give_X2_giveByOthers rfl rfl rfl (by decide +kernel) ⟨show (3 * n + 2) + 1 ≤ 3 * (n + 1) by omega, show 8 + (4 + 11) + (68 * n + 45) ≤ 68 * (n + 1) by omega⟩) I rfl hl.1 rfl (Nat.le_of_ble_eq_true rfl) dX2_give_307 ⟨Nat.le_refl _, Nat.le_refl _⟩ (fun r307 S307 z307 f1 H locs p307 I => ?_)
      have ea : ev (n + 1) (nI k) x S0 = ev_then (ev n) (S0.2 5 k) (S0.2 6 k) (S0.2 7 k) x (ev n (S0.2 6 k) x (f_tick S0)) := by rw [ev_s]; unfold ev_step; rw [if_neg hs, nI_clamp (show k < 2 ^ 31 by omega), if_pos (asks_of (by rw [k47_8]; decide))]
      exact c_iret hx hb hr hlocks I dX2_give_310 (by rw [ea]; exact p307)
    by_cases k47_9 : (S0.2 5 k) = 9
    · refine lv_tableIn (tgt := 304) hx hb dX2_give_47 (by rw [k47_9]; decide) (by rw [k47_9]; decide) (off := 257) (by rw [k47_9]; rfl) (by decide) ?_
      refine lv_aload_n hx hb dX2_give_304 rfl (lv_at hl 1 rfl) ?_
      refine lv_aload_n hx hb dX2_give_305 rfl (lv_at hl 0 rfl) ?_
      refine lv_iload_n hx hb dX2_give_306 rfl (lv_at hl 3 rfl) ?_
      refine c_calli (rest := []) ⟨hx, hb, hml, hown, hts⟩ (c_X2_giveByOthers l D o ap cA cR cU A ρ σ ra L _ (f_tick S0) z0 N n k G x hkn hk hNt (asks_of (by rw [f_tick_A, k47_9]; decide)) (f_tick_st hst hs) h0 hz) (cwV 2 hts gX2_give_X2_giveByOthers rfl rfl rfl (by decide +kernel) ⟨show (3 * n + 2) + 1 ≤ 3 * (n + 1) by omega, show 8 + (4 + 11) + (68 * n + 45) ≤ 68 * (n + 1) by omega⟩) I rfl hl.1 rfl (Nat.le_of_ble_eq_true rfl) dX2_give_307 ⟨Nat.le_refl _, Nat.le_refl _⟩ (fun r307 S307 z307 f1 H locs p307 I => ?_)
      have ea : ev (n + 1) (nI k) x S0 = ev_then (ev n) (S0.2 5 k) (S0.2 6 k) (S0.2 7 k) x (ev n (S0.2 6 k) x (f_tick S0)) := by rw [ev_s]; unfold ev_step; rw [if_neg hs, nI_clamp (show k < 2 ^ 31 by omega), if_pos (asks_of (by rw [k47_9]; decide))]
      exact c_iret hx hb hr hlocks I dX2_give_310 (by rw [ea]; exact p307)
    by_cases k47_10 : (S0.2 5 k) = 10
    · refine lv_tableIn (tgt := 304) hx hb dX2_give_47 (by rw [k47_10]; decide) (by rw [k47_10]; decide) (off := 257) (by rw [k47_10]; rfl) (by decide) ?_
      refine lv_aload_n hx hb dX2_give_304 rfl (lv_at hl 1 rfl) ?_
      refine lv_aload_n hx hb dX2_give_305 rfl (lv_at hl 0 rfl) ?_
      refine lv_iload_n hx hb dX2_give_306 rfl (lv_at hl 3 rfl) ?_
      refine c_calli (rest := []) ⟨hx, hb, hml, hown, hts⟩ (c_X2_giveByOthers l D o ap cA cR cU A ρ σ ra L _ (f_tick S0) z0 N n k G x hkn hk hNt (asks_of (by rw [f_tick_A, k47_10]; decide)) (f_tick_st hst hs) h0 hz) (cwV 2 hts gX2_give_X2_giveByOthers rfl rfl rfl (by decide +kernel) ⟨show (3 * n + 2) + 1 ≤ 3 * (n + 1) by omega, show 8 + (4 + 11) + (68 * n + 45) ≤ 68 * (n + 1) by omega⟩) I rfl hl.1 rfl (Nat.le_of_ble_eq_true rfl) dX2_give_307 ⟨Nat.le_refl _, Nat.le_refl _⟩ (fun r307 S307 z307 f1 H locs p307 I => ?_)
      have ea : ev (n + 1) (nI k) x S0 = ev_then (ev n) (S0.2 5 k) (S0.2 6 k) (S0.2 7 k) x (ev n (S0.2 6 k) x (f_tick S0)) := by rw [ev_s]; unfold ev_step; rw [if_neg hs, nI_clamp (show k < 2 ^ 31 by omega), if_pos (asks_of (by rw [k47_10]; decide))]
      exact c_iret hx hb hr hlocks I dX2_give_310 (by rw [ea]; exact p307)
    by_cases k47_11 : (S0.2 5 k) = 11
    · refine lv_tableIn (tgt := 304) hx hb dX2_give_47 (by rw [k47_11]; decide) (by rw [k47_11]; decide) (off := 257) (by rw [k47_11]; rfl) (by decide) ?_
      refine lv_aload_n hx hb dX2_give_304 rfl (lv_at hl 1 rfl) ?_
      refine lv_aload_n hx hb dX2_give_305 rfl (lv_at hl 0 rfl) ?_
      refine lv_iload_n hx hb dX2_give_306 rfl (lv_at hl 3 rfl) ?_
      refine c_calli (rest := []) ⟨hx, hb, hml, hown, hts⟩ (c_X2_giveByOthers l D o ap cA cR cU A ρ σ ra L _ (f_tick S0) z0 N n k G x hkn hk hNt (asks_of (by rw [f_tick_A, k47_11]; decide)) (f_tick_st hst hs) h0 hz) (cwV 2 hts gX2_give_X2_giveByOthers rfl rfl rfl (by decide +kernel) ⟨show (3 * n + 2) + 1 ≤ 3 * (n + 1) by omega, show 8 + (4 + 11) + (68 * n + 45) ≤ 68 * (n + 1) by omega⟩) I rfl hl.1 rfl (Nat.le_of_ble_eq_true rfl) dX2_give_307 ⟨Nat.le_refl _, Nat.le_refl _⟩ (fun r307 S307 z307 f1 H locs p307 I => ?_)
      have ea : ev (n + 1) (nI k) x S0 = ev_then (ev n) (S0.2 5 k) (S0.2 6 k) (S0.2 7 k) x (ev n (S0.2 6 k) x (f_tick S0)) := by rw [ev_s]; unfold ev_step; rw [if_neg hs, nI_clamp (show k < 2 ^ 31 by omega), if_pos (asks_of (by rw [k47_11]; decide))]
      exact c_iret hx hb hr hlocks I dX2_give_310 (by rw [ea]; exact p307)
    by_cases k47_12 : (S0.2 5 k) = 12
    · refine lv_tableIn (tgt := 238) hx hb dX2_give_47 (by rw [k47_12]; decide) (by rw [k47_12]; decide) (off := 191) (by rw [k47_12]; rfl) (by decide) ?_
      refine lv_aload_n hx hb dX2_give_238 rfl (lv_at hl 1 rfl) ?_
      refine c_get0 hx hb hts hin2 hown I L11 dX2_give_239 ?_
      refine lv_aload_n hx hb dX2_give_242 rfl (lv_at hl 0 rfl) ?_
      refine c_rget1 hx hb hts hin1 hown I (show k < (S0.1 4).toNatClampNeg by rw [hN.N]; exact hk) L141 dX2_give_243 (x := S0.2 6 k) rfl ?_
      refine lv_dup2_11 hx hb dX2_give_246 rfl rfl ?_
      refine c_ald0 hx hb I (r2 (Or.inr (Or.inr k47_12))) dX2_give_247 (x := (f_tick S0).2 0 ((S0.2 6 k).toNatClampNeg)) rfl ?_
      refine lv_iconst (v := 1) hx hb dX2_give_248 (by decide) ?_
      refine lv_iadd hx hb dX2_give_249 ?_
      refine c_ast0 hx hb I (r2 (Or.inr (Or.inr k47_12))) dX2_give_250 (fun H locs I => ?_)
      refine lv_iload_n hx hb dX2_give_251 rfl (lv_at hl 3 rfl) ?_
      refine lv_aload_n hx hb dX2_give_252 rfl (lv_at hl 1 rfl) ?_
      refine c_get0 hx hb hts hin2 hown I L11 dX2_give_253 ?_
      refine lv_aload_n hx hb dX2_give_256 rfl (lv_at hl 0 rfl) ?_
      refine c_rget1 hx hb hts hin1 hown I (show k < (S0.1 4).toNatClampNeg by rw [hN.N]; exact hk) L141 dX2_give_257 (x := S0.2 6 k) rfl ?_
      refine c_ald0 hx hb I (r2 (Or.inr (Or.inr k47_12))) dX2_give_260 (x := ((f_tick S0).2 0 ((S0.2 6 k).toNatClampNeg)) + 1) (by simp [sA, sF, va_up, upd]) ?_
      refine lv_iadd hx hb dX2_give_261 ?_
      have ea : ev (n + 1) (nI k) x S0 = f_given (nI k) x (f_tick S0) := by rw [ev_s]; unfold ev_step; rw [if_neg hs, nI_clamp (show k < 2 ^ 31 by omega), if_neg (by rw [k47_12]; decide)]
      have eg : f_given (nI k) x (f_tick S0) = (x + (((f_tick S0).2 0 ((S0.2 6 k).toNatClampNeg)) + 1), (sA (f_tick S0) 0 ((S0.2 6 k).toNatClampNeg) (((f_tick S0).2 0 ((S0.2 6 k).toNatClampNeg)) + 1))) := by simp (decide := true) [f_given, f_tick_A, nI_clamp (show k < 2 ^ 31 by omega), k47_12]
      exact c_iret hx hb hr hlocks I dX2_give_262 (by rw [ea, eg]; exact ⟨rfl, rfl, hz.trans h0.symm, fun w => absurd h0 w, fun _ => rfl⟩)
    by_cases k47_13 : (S0.2 5 k) = 13
    · refine lv_tableIn (tgt := 263) hx hb dX2_give_47 (by rw [k47_13]; decide) (by rw [k47_13]; decide) (off := 216) (by rw [k47_13]; rfl) (by decide) ?_
      refine lv_aload_n hx hb dX2_give_263 rfl (lv_at hl 0 rfl) ?_
      refine lv_dup hx hb dX2_give_264 rfl ?_
      refine c_rget5 hx hb hts hin1 hown I (show k < (S0.1 4).toNatClampNeg by rw [hN.N]; exact hk) L155 dX2_give_265 (x := S0.2 10 k) rfl ?_
      refine lv_iconst (v := 1) hx hb dX2_give_268 (by decide) ?_
      refine lv_iadd hx hb dX2_give_269 ?_
      refine c_rown hx hb hts hin1 hown I (show k < (S0.1 4).toNatClampNeg by rw [hN.N]; exact hk) L155 dX2_give_270 (fun f1 H locs I => ?_)
      refine lv_iload_n hx hb dX2_give_273 rfl (lv_at hl 3 rfl) ?_
      refine lv_aload_n hx hb dX2_give_274 rfl (lv_at hl 0 rfl) ?_
      refine c_rget1 hx hb hts hin1 hown I (show k < (S0.1 4).toNatClampNeg by rw [hN.N]; exact hk) L141 dX2_give_275 (x := S0.2 6 k) rfl ?_
      refine lv_aload_n hx hb dX2_give_278 rfl (lv_at hl 0 rfl) ?_
      refine c_rget5 hx hb hts hin1 hown I (show k < (S0.1 4).toNatClampNeg by rw [hN.N]; exact hk) L155 dX2_give_279 (x := (S0.2 10 k) + 1) (by simp [sA, sF, va_up, upd]) ?_
      refine lv_imul hx hb dX2_give_282 ?_
      refine lv_iadd hx hb dX2_give_283 ?_
      have ea : ev (n + 1) (nI k) x S0 = f_given (nI k) x (f_tick S0) := by rw [ev_s]; unfold ev_step; rw [if_neg hs, nI_clamp (show k < 2 ^ 31 by omega), if_neg (by rw [k47_13]; decide)]
      have eg : f_given (nI k) x (f_tick S0) = (x + ((S0.2 6 k) * ((S0.2 10 k) + 1)), (sA (f_tick S0) 10 k ((S0.2 10 k) + 1))) := by simp (decide := true) [f_given, f_tick_A, nI_clamp (show k < 2 ^ 31 by omega), k47_13]
      exact c_iret hx hb hr hlocks I dX2_give_284 (by rw [ea, eg]; exact ⟨rfl, rfl, hz.trans h0.symm, fun w => absurd h0 w, fun _ => rfl⟩)
    by_cases k47_14 : (S0.2 5 k) = 14
    · refine lv_tableIn (tgt := 285) hx hb dX2_give_47 (by rw [k47_14]; decide) (by rw [k47_14]; decide) (off := 238) (by rw [k47_14]; rfl) (by decide) ?_
      refine lv_aload_n hx hb dX2_give_285 rfl (lv_at hl 0 rfl) ?_
      refine c_rget3 hx hb hts hin1 hown I (show k < (S0.1 4).toNatClampNeg by rw [hN.N]; exact hk) L144 dX2_give_286 (x := S0.2 8 k) rfl ?_
      have ea : ev (n + 1) (nI k) x S0 = f_given (nI k) x (f_tick S0) := by rw [ev_s]; unfold ev_step; rw [if_neg hs, nI_clamp (show k < 2 ^ 31 by omega), if_neg (by rw [k47_14]; decide)]
      have eg : f_given (nI k) x (f_tick S0) = (S0.2 8 k, (f_tick S0)) := by simp (decide := true) [f_given, f_tick_A, nI_clamp (show k < 2 ^ 31 by omega), k47_14]
      exact c_iret hx hb hr hlocks I dX2_give_289 (by rw [ea, eg]; exact ⟨rfl, rfl, hz.trans h0.symm, fun w => absurd h0 w, fun _ => rfl⟩)
    by_cases k47_15 : (S0.2 5 k) = 15
    · refine lv_tableIn (tgt := 290) hx hb dX2_give_47 (by rw [k47_15]; decide) (by rw [k47_15]; decide) (off := 243) (by rw [k47_15]; rfl) (by decide) ?_
      refine lv_aload_n hx hb dX2_give_290 rfl (lv_at hl 1 rfl) ?_
      refine lv_iload_n hx hb dX2_give_291 rfl (lv_at hl 3 rfl) ?_
      refine lv_iload_n hx hb dX2_give_292 rfl (lv_at hl 2 rfl) ?_
      refine c_calli (rest := []) ⟨hx, hb, hml, hown, hts⟩ (c_X2_giveRoom l D o ap cA cR cU A ρ σ ra L _ (f_tick S0) z0 x (nI k) hz h0) (cwV 2 hts gX2_give_X2_giveRoom rfl rfl rfl (by decide +kernel) ⟨show 1 + 1 ≤ 3 * (n + 1) by omega, show 8 + (4 + 11) + 22 ≤ 68 * (n + 1) by omega⟩) I rfl hl.1 rfl (Nat.le_of_ble_eq_true rfl) dX2_give_293 ⟨Nat.le_refl _, Nat.le_refl _⟩ (fun r293 S293 z293 f1 H locs p293 I => ?_)
      have ea : ev (n + 1) (nI k) x S0 = f_given (nI k) x (f_tick S0) := by rw [ev_s]; unfold ev_step; rw [if_neg hs, nI_clamp (show k < 2 ^ 31 by omega), if_neg (by rw [k47_15]; decide)]
      have eg : f_given (nI k) x (f_tick S0) = if 0 ≤ x - x / 50 * 50 then (x - x / 50 * 50, f_tick S0) else (x - x / 50 * 50, f_fails 4 (nI k) (f_tick S0)) := by simp (decide := true) [f_given, f_tick_A, nI_clamp (show k < 2 ^ 31 by omega), k47_15]
      exact c_iret hx hb hr hlocks I dX2_give_296 (by rw [ea, eg]; exact p293)
    by_cases k47_16 : (S0.2 5 k) = 16
    · refine lv_tableIn (tgt := 304) hx hb dX2_give_47 (by rw [k47_16]; decide) (by rw [k47_16]; decide) (off := 257) (by rw [k47_16]; rfl) (by decide) ?_
      refine lv_aload_n hx hb dX2_give_304 rfl (lv_at hl 1 rfl) ?_
      refine lv_aload_n hx hb dX2_give_305 rfl (lv_at hl 0 rfl) ?_
      refine lv_iload_n hx hb dX2_give_306 rfl (lv_at hl 3 rfl) ?_
      refine c_calli (rest := []) ⟨hx, hb, hml, hown, hts⟩ (c_X2_giveByOthers l D o ap cA cR cU A ρ σ ra L _ (f_tick S0) z0 N n k G x hkn hk hNt (asks_of (by rw [f_tick_A, k47_16]; decide)) (f_tick_st hst hs) h0 hz) (cwV 2 hts gX2_give_X2_giveByOthers rfl rfl rfl (by decide +kernel) ⟨show (3 * n + 2) + 1 ≤ 3 * (n + 1) by omega, show 8 + (4 + 11) + (68 * n + 45) ≤ 68 * (n + 1) by omega⟩) I rfl hl.1 rfl (Nat.le_of_ble_eq_true rfl) dX2_give_307 ⟨Nat.le_refl _, Nat.le_refl _⟩ (fun r307 S307 z307 f1 H locs p307 I => ?_)
      have ea : ev (n + 1) (nI k) x S0 = ev_then (ev n) (S0.2 5 k) (S0.2 6 k) (S0.2 7 k) x (ev n (S0.2 6 k) x (f_tick S0)) := by rw [ev_s]; unfold ev_step; rw [if_neg hs, nI_clamp (show k < 2 ^ 31 by omega), if_pos (asks_of (by rw [k47_16]; decide))]
      exact c_iret hx hb hr hlocks I dX2_give_310 (by rw [ea]; exact p307)
    by_cases k47_17 : (S0.2 5 k) = 17
    · refine lv_tableIn (tgt := 297) hx hb dX2_give_47 (by rw [k47_17]; decide) (by rw [k47_17]; decide) (off := 250) (by rw [k47_17]; rfl) (by decide) ?_
      refine lv_aload_n hx hb dX2_give_297 rfl (lv_at hl 1 rfl) ?_
      refine lv_iconst (v := 3) hx hb dX2_give_298 (by decide) ?_
      refine lv_iload_n hx hb dX2_give_299 rfl (lv_at hl 2 rfl) ?_
      refine c_calli (rest := []) ⟨hx, hb, hml, hown, hts⟩ (c_X2_refuse l D o ap cA cR cU A ρ σ ra L _ (f_tick S0) z0 3 (nI k)) (cwV 2 hts gX2_give_X2_refuse rfl rfl rfl (by decide +kernel) ⟨show 0 + 1 ≤ 3 * (n + 1) by omega, show 8 + (3 + 11) + 0 ≤ 68 * (n + 1) by omega⟩) I rfl hl.1 rfl (Nat.le_of_ble_eq_true rfl) dX2_give_300 ⟨Nat.le_refl _, Nat.le_refl _⟩ (fun r300 S300 z300 f1 H locs p300 I => ?_)
      obtain ⟨rfl, e300⟩ := p300
      obtain ⟨ea300, eb300⟩ := Prod.mk.inj e300
      rw [ea300, eb300] at I
      have ea : ev (n + 1) (nI k) x S0 = f_given (nI k) x (f_tick S0) := by rw [ev_s]; unfold ev_step; rw [if_neg hs, nI_clamp (show k < 2 ^ 31 by omega), if_neg (by rw [k47_17]; decide)]
      have eg : f_given (nI k) x (f_tick S0) = (0, f_fails 3 (nI k) (f_tick S0)) := by simp (decide := true) [f_given, f_tick_A, nI_clamp (show k < 2 ^ 31 by omega), k47_17]
      exact c_iret (S := f_fails 3 (nI k) (f_tick S0)) hx hb hr hlocks I dX2_give_303 (by rw [ea, eg]; exact ⟨rfl, rfl, rfl, fun _ => rfl, fun w => absurd (show (3 : Int32) = 0 from w) (by decide)⟩)
    refine lv_tableOut (tgt := 304) hx hb dX2_give_47 (by have t0 := lv_neT k47_0 (a := 0) rfl; have t1 := lv_neT k47_1 (a := 1) rfl; have t2 := lv_neT k47_2 (a := 2) rfl; have t3 := lv_neT k47_3 (a := 3) rfl; have t4 := lv_neT k47_4 (a := 4) rfl; have t5 := lv_neT k47_5 (a := 5) rfl; have t6 := lv_neT k47_6 (a := 6) rfl; have t7 := lv_neT k47_7 (a := 7) rfl; have t8 := lv_neT k47_8 (a := 8) rfl; have t9 := lv_neT k47_9 (a := 9) rfl; have t10 := lv_neT k47_10 (a := 10) rfl; have t11 := lv_neT k47_11 (a := 11) rfl; have t12 := lv_neT k47_12 (a := 12) rfl; have t13 := lv_neT k47_13 (a := 13) rfl; have t14 := lv_neT k47_14 (a := 14) rfl; have t15 := lv_neT k47_15 (a := 15) rfl; have t16 := lv_neT k47_16 (a := 16) rfl; have t17 := lv_neT k47_17 (a := 17) rfl; omega) (by decide) ?_
    refine lv_aload_n hx hb dX2_give_304 rfl (lv_at hl 1 rfl) ?_
    refine lv_aload_n hx hb dX2_give_305 rfl (lv_at hl 0 rfl) ?_
    refine lv_iload_n hx hb dX2_give_306 rfl (lv_at hl 3 rfl) ?_
    refine c_calli (rest := []) ⟨hx, hb, hml, hown, hts⟩ (c_X2_giveByOthers l D o ap cA cR cU A ρ σ ra L _ (f_tick S0) z0 N n k G x hkn hk hNt (absurd r1 (kd_no k47_0 k47_1 k47_2 k47_3 k47_4 k47_5 k47_6 k47_7 k47_8 k47_9 k47_10 k47_11 k47_12 k47_13 k47_14 k47_15 k47_16 k47_17)) (f_tick_st hst hs) h0 hz) (cwV 2 hts gX2_give_X2_giveByOthers rfl rfl rfl (by decide +kernel) ⟨show (3 * n + 2) + 1 ≤ 3 * (n + 1) by omega, show 8 + (4 + 11) + (68 * n + 45) ≤ 68 * (n + 1) by omega⟩) I rfl hl.1 rfl (Nat.le_of_ble_eq_true rfl) dX2_give_307 ⟨Nat.le_refl _, Nat.le_refl _⟩ (fun r307 S307 z307 f1 H locs p307 I => ?_)
    exact absurd r1 (kd_no k47_0 k47_1 k47_2 k47_3 k47_4 k47_5 k47_6 k47_7 k47_8 k47_9 k47_10 k47_11 k47_12 k47_13 k47_14 k47_15 k47_16 k47_17)
  · refine lv_aload_n hx hb dX2_give_9 rfl (lv_at hl 0 rfl) ?_
    refine lv_iconst (v := 5) hx hb dX2_give_10 (by decide) ?_
    refine lv_iload_n hx hb dX2_give_11 rfl (lv_at hl 1 rfl) ?_
    refine c_calli (rest := []) ⟨hx, hb, hml, hown, hts⟩ (c_X2_refuse l D o ap cA cR cU A ρ σ ra L _ S0 z0 5 (nI k)) (cwV 2 hts gX2_give_X2_refuse rfl rfl rfl (by decide +kernel) ⟨show 0 + 1 ≤ 3 * (n + 1) by omega, show 8 + (3 + 11) + 0 ≤ 68 * (n + 1) by omega⟩) I rfl hl.1 rfl (Nat.le_of_ble_eq_true rfl) dX2_give_12 ⟨Nat.le_refl _, Nat.le_refl _⟩ (fun r12 S12 z12 f1 H locs p12 I => ?_)
    obtain ⟨rfl, e12⟩ := p12
    obtain ⟨ea12, eb12⟩ := Prod.mk.inj e12
    rw [ea12, eb12] at I
    have hs : S0.1 18 = 64 := by obtain ⟨st, w1, w2, w3⟩ := hst; rw [w3] at c6 ⊢; have := nI_lb (n := 64) (j := st) (by omega) (by decide) (Int32.not_lt.mp c6); rw [show st = 64 by omega]; rfl
    exact c_iret (S := f_fails 5 (nI k) S0) hx hb hr hlocks I dX2_give_15 (by rw [ev_s]; unfold ev_step; rw [if_pos hs]; exact ⟨rfl, rfl, rfl, fun _ => rfl, fun w => absurd (show (5 : Int32) = 0 from w) (by decide)⟩)

theorem c_X2_give (l : Launch) (N : Nat) : ∀ n, c_GIVE l N n
  | 0 => fun D o ap cA cR cU A ρ σ ra L f0 S0 z0 k x h => by omega
  | n + 1 => fun D o ap cA cR cU A ρ σ ra L f0 S0 z0 k x h1 h2 h3 h4 h5 h6 => c_X2_give1 l D o ap cA cR cU A ρ σ ra L f0 S0 z0 N n k (c_X2_give l N n) x h1 h2 h3 h4 h5 h6
