def l_each (r : Int32) (q : Nat) : Nat → Nat → tr_S → Int32 × tr_S
  | 0, i, S => (nI i, S)
  | n + 1, i, S => if (ev 40 r (S.2 3 (10 * q + i)) S).2.1 16 = 0 then l_each r q n (i + 1) (sA (ev 40 r (S.2 3 (10 * q + i)) S).2 3 (10 * q + i) (ev 40 r (S.2 3 (10 * q + i)) S).1) else (nI i, (ev 40 r (S.2 3 (10 * q + i)) S).2)
def a_each (r y : Int32) (S : tr_S) : Int32 × tr_S := if (0 ≤ r ∧ r ≤ S.1 4 - 1) ∧ (0 ≤ y ∧ y ≤ 3) then (if 0 ≤ S.2 1 y.toNatClampNeg then f_ends (l_each r (S.2 1 y.toNatClampNeg).toNatClampNeg (S.2 2 (S.2 1 y.toNatClampNeg).toNatClampNeg).toNatClampNeg 0 (e_start S)).1 (l_each r (S.2 1 y.toNatClampNeg).toNatClampNeg (S.2 2 (S.2 1 y.toNatClampNeg).toNatClampNeg).toNatClampNeg 0 (e_start S)).2 else (-13, S)) else (-1, S)
/-- what holds between two rules of one call -/
def e_go (S : tr_S) (N : Nat) : Prop := wf S N ∧ S.1 16 = 0 ∧ ∃ st : Nat, st ≤ 64 ∧ 0 ≤ st ∧ S.1 18 = nI st
theorem e_go.of {S : tr_S} {N : Nat} (h : wf S N) : e_go (e_start S) N := ⟨h.sm (e_start_sm S), rfl, e_start_st S⟩
theorem e_go.eq {S T : tr_S} {N : Nat} (h : e_go S N) (e : e_eq S T) : e_go T N := ⟨h.1.sm e.sm, (e.1 16 (by decide) (by decide)).trans h.2.1, by rw [e.1 18 (by decide) (by decide)]; exact h.2.2⟩
theorem e_go.ev {S : tr_S} {N : Nat} (h : e_go S N) (n : Nat) (r x : Int32) (h0 : (ev n r x S).2.1 16 = 0) : e_go (ev n r x S).2 N := by
  obtain ⟨st, h1, h2, h3⟩ := h.2.2
  obtain ⟨s2, a1, a2, a3⟩ := ev_st n r x S st h1 h3
  exact ⟨h.1.sm (ev_sm n r x S), h0, s2, a2, by omega, a3⟩
theorem wf.set3 {S : tr_S} {N : Nat} (h : wf S N) (i : Nat) (v : Int32) : wf (sA S 3 i v) N := by
  obtain ⟨h1, h2, h3, h4, h5⟩ := h
  exact ⟨h1, h2, h3, h4, h5⟩
theorem e_go.set3 {S : tr_S} {N : Nat} (h : e_go S N) (i : Nat) (v : Int32) : e_go (sA S 3 i v) N := ⟨h.1.set3 i v, h.2.1, h.2.2⟩
theorem ix_480 {q i : Nat} (hq : q < 48) (hi : i < 10) : vp_in (10 * nI q + nI i) 480 := by
  rw [show (10 : Int32) = nI 10 from rfl, pk_mul, nI_add]
  exact vp_in_nI (by omega) (by decide)
set_option maxHeartbeats 4000000 in
set_option maxRecDepth 100000 in
theorem c_X3_each (l : Launch) (D : va_G) (o : Nat) (ad : Nat → Nat) (cA : ClassId) (S0 : tr_S) (r y : Int32) (N : Nat) (hN : wf S0 N) : m_Mi l yX3_each wsX3_each { frames := 4, cells := 0, slots := 0, locals := 97 } [.int r, .int y] D o ad cA S0 (fun v S => e_R (a_each r y S0) (v, S)) := by
  refine Met.ofW (cc := cX3_each) (maxL := 5) (ret := (some .int)) (by decide) rfl ?_
  intro p e s m args below meth c s₁ B hml hv
  obtain ⟨rfl, hB⟩ := hv
  have hx := B.exec
  have hb := B.bytes
  have hr := B.returns
  have hts := atoms_spec (ws := wsX3_each) B.pre
  have hown : s.vm.findClass RX3 = some m.cls := findClass_of_methodNamed B.named
  have hlocks := B.notSynchronized
  have I := m_I.of hB
  have hin : ∀ w ∈ wsX30, w ∈ wsX3_each := fun _ h => List.mem_cons_of_mem _ (List.mem_append_right _ h)
  have L13 := hts (.fieldLink RX3 13 "TollRulesModel" "rowOf" "[I") (by decide +kernel)
  have L16 := hts (.fieldLink RX3 16 "TollRulesModel" "size" "[I") (by decide +kernel)
  have L19 := hts (.fieldLink RX3 19 "TollRulesModel" "item" "[I") (by decide +kernel)
  have L109 := hts (.fieldLink RX3 109 "TollRulesModel" "handed" "I") (by decide +kernel)
  have hl := lv_entry ([.ref o, .int r, .int y]) (n := 5) (Nat.le_of_ble_eq_true rfl)
  rw [lg_entry_eq]
  generalize (lg_sl ([.ref o, .int r, .int y]) ++ List.replicate (5 - (lg_sl ([.ref o, .int r, .int y])).length) Slot.unset).toArray = ls at hl ⊢
  have hl : lv_has ls 5 [(0, .ref o), (1, .int r), (2, .int y)] := hl
  have LE : ∀ (d q z i rem : Nat) (SA S : tr_S), rem < d → q < 48 → z ≤ 10 → i + rem = z → e_go SA N → e_eq SA S → SA.2 2 q = nI z → (∃ k, k < N ∧ r = nI k) → a_each r y S0 = f_ends (l_each r q rem i SA).1 (l_each r q rem i SA).2 → ∀ (H : Heap) (locs : List Loc) (ls : Array Slot), m_I D o ad cA S s s.heap H locs → lv_has ls 5 [(4, .int (nI i)), (3, .int (nI q)), (0, .ref o), (1, .int r), (2, .int y)] → W p l e (headSpec wsX3_each { frames := 4, cells := 0, slots := 0, locals := 97 }).room s m (([.ref o, .int r, .int y] : List Value).toArray) below meth c H locs 0 0 (MQ below (va_Qi (fun v S => e_R (a_each r y S0) (v, S)) (m_B D o ad cA) (m_A o ad)) (([.ref o, .int r, .int y] : List Value).toArray) s 0 0 (m_A o ad)) (F0 m 45 ls []) := by
    intro d
    induction d with
    | zero => intro q z i rem _ _ h; omega
    | succ d ih =>
      intro q z i rem SA S hd hq hz10 hiz g hS hz hr2 hT H locs ls I hl
      have g2 := g.eq hS
      have hz2 : S.2 2 q = nI z := by rw [hS.2 2 (by decide)]; exact hz
      refine lv_iload hx hb dX3_each_45 (lv_at hl 0 rfl) ?_
      refine lv_aload_n hx hb dX3_each_47 rfl (lv_at hl 2 rfl) ?_
      refine m_get2 hx hb hts hin hown I L16 dX3_each_48 ?_
      refine lv_iload_n hx hb dX3_each_51 rfl (lv_at hl 1 rfl) ?_
      refine m_ald2 hx hb I (vp_in_nI hq (by decide)) dX3_each_52 (x := S.2 2 q) (by rw [nI_clamp (show q < 2 ^ 31 by omega)] <;> rfl) ?_
      refine lv_icmp_ge (tgt := 98) hx hb dX3_each_53 (by decide) (fun c53 => ?_) (fun c53 => ?_)
      · refine lv_aload_n hx hb dX3_each_98 rfl (lv_at hl 2 rfl) ?_
        refine lv_iload hx hb dX3_each_99 (lv_at hl 0 rfl) ?_
        refine m_calli (rest := []) ⟨hx, hb, hml, hown, hts⟩ (c_X3_ends l D o ad cA S (nI i)) (cwV 1 hts gX3_each_X3_ends rfl rfl rfl (by decide +kernel) ⟨Nat.le_of_ble_eq_true rfl, Nat.le_of_ble_eq_true rfl⟩) I rfl hl.1 rfl (Nat.le_of_ble_eq_true rfl) dX3_each_101 ⟨Nat.le_refl _, Nat.le_refl _⟩ (fun r101 S101 H locs p101 I => ?_)
        have hi : z ≤ i := nI_lb (by omega) (by omega) (by rw [← hz2]; exact c53)
        obtain rfl : rem = 0 := by omega
        refine m_iret hx hb hr hlocks I dX3_each_104 ?_
        rw [hT]
        unfold l_each
        rw [p101]
        exact f_ends_eq hS _
      · have hi : i < z := nI_ub (by omega) (by omega) (by rw [← hz2]; exact c53)
        obtain ⟨rm, rfl⟩ : ∃ k, rem = k + 1 := ⟨rem - 1, by omega⟩
        have e3 : S.2 3 = SA.2 3 := hS.2 3 (by decide)
        have hv := ev_eq 40 r (SA.2 3 (10 * q + i)) hS
        refine lv_aload_n hx hb dX3_each_56 rfl (lv_at hl 2 rfl) ?_
        refine lv_iload_n hx hb dX3_each_57 rfl (lv_at hl 3 rfl) ?_
        refine lv_aload_n hx hb dX3_each_58 rfl (lv_at hl 2 rfl) ?_
        refine m_get3 hx hb hts hin hown I L19 dX3_each_59 ?_
        refine lv_bipush (v := 10) hx hb dX3_each_62 (by decide) ?_
        refine lv_iload_n hx hb dX3_each_64 rfl (lv_at hl 1 rfl) ?_
        refine lv_imul hx hb dX3_each_65 ?_
        refine lv_iload hx hb dX3_each_66 (lv_at hl 0 rfl) ?_
        refine lv_iadd hx hb dX3_each_68 ?_
        refine m_ald3 hx hb I (ix_480 hq (by omega)) dX3_each_69 (x := S.2 3 (10 * q + i)) (by rw [nI_10 (q := q) (k := i) (by omega)] <;> rfl) ?_
        refine m_gives (g2.1) hr2 g2.2.2 g2.2.1 ⟨hx, hb, hml, hown, hts⟩ gX3_each_X3_gives ⟨Nat.le_of_ble_eq_true rfl, Nat.le_of_ble_eq_true rfl⟩ ⟨Nat.le_refl _, Nat.le_refl _⟩ I hl.1 (Nat.le_of_ble_eq_true rfl) dX3_each_70 (fun h70 S70 H locs v70 e70 i70 I => ?_) (fun h70 S70 H locs e70 i70 I => ?_)
        · refine lv_if_eq (tgt := 98) hx hb dX3_each_73 (by decide) (fun h => absurd h (by decide)) (fun _ => ?_)
          refine lv_aload_n hx hb dX3_each_76 rfl (lv_at hl 2 rfl) ?_
          refine m_get3 hx hb hts hin hown I L19 dX3_each_77 ?_
          refine lv_bipush (v := 10) hx hb dX3_each_80 (by decide) ?_
          refine lv_iload_n hx hb dX3_each_82 rfl (lv_at hl 1 rfl) ?_
          refine lv_imul hx hb dX3_each_83 ?_
          refine lv_iload hx hb dX3_each_84 (lv_at hl 0 rfl) ?_
          refine lv_iadd hx hb dX3_each_86 ?_
          refine lv_aload_n hx hb dX3_each_87 rfl (lv_at hl 2 rfl) ?_
          refine m_get26 hx hb hts hin hown I L109 dX3_each_88 (x := S70.1 26) rfl ?_
          refine m_ast3 hx hb I (ix_480 hq (by omega)) dX3_each_91 (fun H locs I => ?_)
          rw [nI_10 (q := q) (k := i) (by omega)] at I
          refine lv_iinc (v := (nI i) + 1) (lv' := [(4, .int ((nI i) + 1)), (3, .int (nI q)), (0, .ref o), (1, .int r), (2, .int y)]) hx hb dX3_each_92 hl (k := 0) rfl rfl (by decide) rfl (fun ls hl => ?_)
          refine lv_goto (tgt := 45) hx hb dX3_each_95 (by decide) ?_
          rw [e3] at h70 v70 e70
          have h70 : (ev 40 r (SA.2 3 (10 * q + i)) SA).2.1 16 = 0 := (hv.2.1 16 (by decide) (by decide)).symm.trans h70
          have hl := lv_sub hl [0, 1, 2, 3, 4] rfl
          rw [nI_1] at hl
          refine ih q z (i + 1) rm (sA (ev 40 r (SA.2 3 (10 * q + i)) SA).2 3 (10 * q + i) (ev 40 r (SA.2 3 (10 * q + i)) SA).1) _ (by omega) hq hz10 (by omega) ((g.ev 40 r _ h70).set3 _ _) (e_eq_A (hv.2.tr e70) 3 _ (by decide) (v70.trans hv.1)) ?_ hr2 ?_ H locs ls I hl
          · show (ev 40 r (SA.2 3 (10 * q + i)) SA).2.2 2 q = nI z
            rw [(ev_sm 40 r _ SA).2.2.1]; exact hz
          · rw [hT]
            conv => lhs; unfold l_each
            rw [if_pos h70]
        · refine lv_if_eq (tgt := 98) hx hb dX3_each_73 (by decide) (fun _ => ?_) (fun h => absurd h (by decide))
          refine lv_aload_n hx hb dX3_each_98 rfl (lv_at hl 2 rfl) ?_
          refine lv_iload hx hb dX3_each_99 (lv_at hl 0 rfl) ?_
          refine m_calli (rest := []) ⟨hx, hb, hml, hown, hts⟩ (c_X3_ends l D o ad cA S70 (nI i)) (cwV 1 hts gX3_each_X3_ends rfl rfl rfl (by decide +kernel) ⟨Nat.le_of_ble_eq_true rfl, Nat.le_of_ble_eq_true rfl⟩) I rfl hl.1 rfl (Nat.le_of_ble_eq_true rfl) dX3_each_101 ⟨Nat.le_refl _, Nat.le_refl _⟩ (fun r101 S101 H locs p101 I => ?_)
          rw [e3] at h70 e70
          have h70 : ¬ (ev 40 r (SA.2 3 (10 * q + i)) SA).2.1 16 = 0 := fun q => h70 ((hv.2.1 16 (by decide) (by decide)).trans q)
          refine m_iret hx hb hr hlocks I dX3_each_104 ?_
          rw [hT]
          unfold l_each
          rw [if_neg h70, p101]
          exact f_ends_eq (hv.2.tr e70) _
  refine lv_aload_n hx hb dX3_each_0 rfl (lv_at hl 0 rfl) ?_
  refine lv_iload_n hx hb dX3_each_1 rfl (lv_at hl 1 rfl) ?_
  refine m_isRule ⟨hx, hb, hml, hown, hts⟩ gX3_each_X3_isRule ⟨Nat.le_of_ble_eq_true rfl, Nat.le_of_ble_eq_true rfl⟩ ⟨Nat.le_refl _, Nat.le_refl _⟩ I hl.1 (Nat.le_of_ble_eq_true rfl) dX3_each_2 (fun h2 H locs I => ?_) (fun h2 H locs I => ?_)
  · refine lv_if_eq (tgt := 17) hx hb dX3_each_5 (by decide) (fun h => absurd h (by decide)) (fun _ => ?_)
    refine lv_iload_n hx hb dX3_each_8 rfl (lv_at hl 2 rfl) ?_
    refine lv_iconst (v := 0) hx hb dX3_each_9 (by decide) ?_
    refine lv_iconst (v := 3) hx hb dX3_each_10 (by decide) ?_
    refine m_in ⟨hx, hb, hml, hown, hts⟩ gX3_each_X3_in ⟨Nat.le_of_ble_eq_true rfl, Nat.le_of_ble_eq_true rfl⟩ ⟨Nat.le_refl _, Nat.le_refl _⟩ hl.1 (Nat.le_of_ble_eq_true rfl) dX3_each_11 (fun h11 => ?_) (fun h11 => ?_)
    · refine lv_if_ne (tgt := 19) hx hb dX3_each_14 (by decide) (fun _ => ?_) (fun h => absurd h (by decide))
      refine lv_aload_n hx hb dX3_each_19 rfl (lv_at hl 0 rfl) ?_
      refine m_get1 hx hb hts hin hown I L13 dX3_each_20 ?_
      refine lv_iload_n hx hb dX3_each_23 rfl (lv_at hl 2 rfl) ?_
      refine m_ald1 hx hb I (ix_of h11 (by decide) (by decide)) dX3_each_24 (x := S0.2 1 y.toNatClampNeg) rfl ?_
      refine lv_if_ge (tgt := 31) hx hb dX3_each_25 (by decide) (fun c25 => ?_) (fun c25 => ?_)
      · refine lv_aload_n hx hb dX3_each_31 rfl (lv_at hl 0 rfl) ?_
        refine m_get1 hx hb hts hin hown I L13 dX3_each_32 ?_
        refine lv_iload_n hx hb dX3_each_35 rfl (lv_at hl 2 rfl) ?_
        refine m_ald1 hx hb I (ix_of h11 (by decide) (by decide)) dX3_each_36 (x := S0.2 1 y.toNatClampNeg) rfl ?_
        refine lv_istore_n (lv' := [(3, .int (S0.2 1 y.toNatClampNeg)), (0, .ref o), (1, .int r), (2, .int y)]) hx hb dX3_each_37 rfl hl (by decide) rfl (fun ls hl => ?_)
        refine lv_aload_n hx hb dX3_each_38 rfl (lv_at hl 1 rfl) ?_
        refine m_callv (rest := []) ⟨hx, hb, hml, hown, hts⟩ (c_X3_startsCall l D o ad cA S0) (cwV 0 hts gX3_each_X3_startsCall rfl rfl rfl (by decide +kernel) ⟨Nat.le_of_ble_eq_true rfl, Nat.le_of_ble_eq_true rfl⟩) I rfl hl.1 rfl (Nat.le_of_ble_eq_true rfl) dX3_each_39 ⟨Nat.le_refl _, Nat.le_refl _⟩ (fun S39 H locs p39 I => ?_)
        rw [show S39 = e_start S0 from p39] at I
        refine lv_iconst (v := 0) hx hb dX3_each_42 (by decide) ?_
        refine lv_istore (lv' := [(4, .int 0), (3, .int (S0.2 1 y.toNatClampNeg)), (0, .ref o), (1, .int r), (2, .int y)]) hx hb dX3_each_43 hl (by decide) rfl (fun ls hl => ?_)
        obtain ⟨q, hq, eq⟩ : ∃ q, q < 48 ∧ S0.2 1 y.toNatClampNeg = nI q := by rcases hN.2.2.2.1 _ (ix_nI (ix_of h11 (by decide) (by decide)) (by decide)).2 with h | h; exact absurd c25 (by rw [h]; decide); exact h
        obtain ⟨z, hz10, hz⟩ := hN.2.2.2.2 q hq
        have hl := lv_sub hl [0, 1, 2, 3, 4] rfl
        rw [eq] at hl
        refine LE (z + 1) q z 0 z (e_start S0) _ (by omega) hq hz10 (by omega) (e_go.of hN) (e_eq.rf _) hz (rule_of hN h2) ?_ _ _ ls I hl
        unfold a_each
        rw [if_pos ⟨h2, h11⟩, if_pos c25, eq, nI_clamp (show q < 2 ^ 31 by omega), hz, nI_clamp (show z < 2 ^ 31 by omega)]
      · refine lv_bipush (v := (-13)) hx hb dX3_each_28 (by decide) ?_
        exact m_iret hx hb hr hlocks I dX3_each_30 (by unfold a_each; rw [if_pos ⟨h2, h11⟩, if_neg c25]; exact ⟨rfl, e_eq.rf _⟩)
    · refine lv_if_ne (tgt := 19) hx hb dX3_each_14 (by decide) (fun h => absurd h (by decide)) (fun _ => ?_)
      refine lv_iconst (v := (-1)) hx hb dX3_each_17 (by decide) ?_
      exact m_iret hx hb hr hlocks I dX3_each_18 (by unfold a_each; rw [if_neg (fun q => h11 q.2)]; exact ⟨rfl, e_eq.rf _⟩)
  · refine lv_if_eq (tgt := 17) hx hb dX3_each_5 (by decide) (fun _ => ?_) (fun h => absurd h (by decide))
    refine lv_iconst (v := (-1)) hx hb dX3_each_17 (by decide) ?_
    exact m_iret hx hb hr hlocks I dX3_each_18 (by unfold a_each; rw [if_neg (fun q => h2 q.1)]; exact ⟨rfl, e_eq.rf _⟩)

def l_keys (r : Int32) (q : Nat) : Nat → Nat → (Nat → Int32) → tr_S → (Nat → Int32) × tr_S
  | 0, _, K, S => (K, S)
  | n + 1, i, K, S => if (ev 40 r (S.2 3 (10 * q + i)) S).2.1 16 = 0 then l_keys r q n (i + 1) (upd K i (ev 40 r (S.2 3 (10 * q + i)) S).1) (ev 40 r (S.2 3 (10 * q + i)) S).2 else (K, (ev 40 r (S.2 3 (10 * q + i)) S).2)
set_option maxHeartbeats 4000000 in
set_option maxRecDepth 100000 in
theorem c_X3_asksEach (l : Launch) (D : va_G) (o : Nat) (ad : Nat → Nat) (cA : ClassId) (S0 : tr_S) (r : Int32) (q z N : Nat) (hN : wf S0 N) (hq : q < 48) (hz10 : z ≤ 10) (hz : S0.2 2 q = nI z) (hr2 : ∃ k, k < N ∧ r = nI k) : m_Mi l yX3_asksEach wsX3_asksEach { frames := 4, cells := 0, slots := 0, locals := 97 } [.int r, .int (nI q)] D o ad cA S0 (fun v S => ((v = 1 ∧ (l_keys r q z 0 (fun _ => 0) (e_start S0)).2.1 16 = 0 ∧ ∀ j, j < z → S.2 27 j = (l_keys r q z 0 (fun _ => 0) (e_start S0)).1 j) ∨ (v = 0 ∧ ¬ (l_keys r q z 0 (fun _ => 0) (e_start S0)).2.1 16 = 0)) ∧ e_eq (l_keys r q z 0 (fun _ => 0) (e_start S0)).2 S) := by
  refine Met.ofW (cc := cX3_asksEach) (maxL := 4) (ret := (some .boolean)) (by decide) rfl ?_
  intro p e s m args below meth c s₁ B hml hv
  obtain ⟨rfl, hB⟩ := hv
  have hx := B.exec
  have hb := B.bytes
  have hr := B.returns
  have hts := atoms_spec (ws := wsX3_asksEach) B.pre
  have hown : s.vm.findClass RX3 = some m.cls := findClass_of_methodNamed B.named
  have hlocks := B.notSynchronized
  have I := m_I.of hB
  have hin : ∀ w ∈ wsX30, w ∈ wsX3_asksEach := fun _ h => List.mem_cons_of_mem _ (List.mem_append_right _ h)
  have L16 := hts (.fieldLink RX3 16 "TollRulesModel" "size" "[I") (by decide +kernel)
  have L19 := hts (.fieldLink RX3 19 "TollRulesModel" "item" "[I") (by decide +kernel)
  have L56 := hts (.fieldLink RX3 56 "TollRulesModel" "keys" "[I") (by decide +kernel)
  have L109 := hts (.fieldLink RX3 109 "TollRulesModel" "handed" "I") (by decide +kernel)
  have hl := lv_entry ([.ref o, .int r, .int (nI q)]) (n := 4) (Nat.le_of_ble_eq_true rfl)
  rw [lg_entry_eq]
  generalize (lg_sl ([.ref o, .int r, .int (nI q)]) ++ List.replicate (4 - (lg_sl ([.ref o, .int r, .int (nI q)])).length) Slot.unset).toArray = ls at hl ⊢
  have hl : lv_has ls 4 [(0, .ref o), (1, .int r), (2, .int (nI q))] := hl
  have LK : ∀ (d i rem : Nat) (K : Nat → Int32) (SA S : tr_S), rem < d → i + rem = z → e_go SA N → e_eq SA S → SA.2 2 q = nI z → (∀ j, j < i → S.2 27 j = K j) → l_keys r q z 0 (fun _ => 0) (e_start S0) = l_keys r q rem i K SA → ∀ (H : Heap) (locs : List Loc) (ls : Array Slot), m_I D o ad cA S s s.heap H locs → lv_has ls 4 [(3, .int (nI i)), (0, .ref o), (1, .int r), (2, .int (nI q))] → W p l e (headSpec wsX3_asksEach { frames := 4, cells := 0, slots := 0, locals := 97 }).room s m (([.ref o, .int r, .int (nI q)] : List Value).toArray) below meth c H locs 0 0 (MQ below (va_Qi (fun v S => ((v = 1 ∧ (l_keys r q z 0 (fun _ => 0) (e_start S0)).2.1 16 = 0 ∧ ∀ j, j < z → S.2 27 j = (l_keys r q z 0 (fun _ => 0) (e_start S0)).1 j) ∨ (v = 0 ∧ ¬ (l_keys r q z 0 (fun _ => 0) (e_start S0)).2.1 16 = 0)) ∧ e_eq (l_keys r q z 0 (fun _ => 0) (e_start S0)).2 S) (m_B D o ad cA) (m_A o ad)) (([.ref o, .int r, .int (nI q)] : List Value).toArray) s 0 0 (m_A o ad)) (F0 m 6 ls []) := by
    intro d
    induction d with
    | zero => intro i rem _ _ _ h; omega
    | succ d ih =>
      intro i rem K SA S hd hiz g hS hzz hK hT H locs ls I hl
      have g2 := g.eq hS
      have hz2 : S.2 2 q = nI z := by rw [hS.2 2 (by decide)]; exact hzz
      refine lv_iload_n hx hb dX3_asksEach_6 rfl (lv_at hl 0 rfl) ?_
      refine lv_aload_n hx hb dX3_asksEach_7 rfl (lv_at hl 1 rfl) ?_
      refine m_get2 hx hb hts hin hown I L16 dX3_asksEach_8 ?_
      refine lv_iload_n hx hb dX3_asksEach_11 rfl (lv_at hl 3 rfl) ?_
      refine m_ald2 hx hb I (vp_in_nI hq (by decide)) dX3_asksEach_12 (x := S.2 2 q) (by rw [nI_clamp (show q < 2 ^ 31 by omega)] <;> rfl) ?_
      refine lv_icmp_ge (tgt := 53) hx hb dX3_asksEach_13 (by decide) (fun c13 => ?_) (fun c13 => ?_)
      · refine lv_iconst (v := 1) hx hb dX3_asksEach_53 (by decide) ?_
        have hi : z ≤ i := nI_lb (by omega) (by omega) (by rw [← hz2]; exact c13)
        obtain rfl : rem = 0 := by omega
        have eT : l_keys r q z 0 (fun _ => 0) (e_start S0) = (K, SA) := by rw [hT]; rfl
        exact m_zret hx hb hr hlocks I rfl dX3_asksEach_54 (by rw [eT]; exact ⟨Or.inl ⟨rfl, g.2.1, fun j hj => hK j (by omega)⟩, hS⟩)
      · have hi : i < z := nI_ub (by omega) (by omega) (by rw [← hz2]; exact c13)
        obtain ⟨rm, rfl⟩ : ∃ k, rem = k + 1 := ⟨rem - 1, by omega⟩
        have e3 : S.2 3 = SA.2 3 := hS.2 3 (by decide)
        have hv := ev_eq 40 r (SA.2 3 (10 * q + i)) hS
        refine lv_aload_n hx hb dX3_asksEach_16 rfl (lv_at hl 1 rfl) ?_
        refine lv_iload_n hx hb dX3_asksEach_17 rfl (lv_at hl 2 rfl) ?_
        refine lv_aload_n hx hb dX3_asksEach_18 rfl (lv_at hl 1 rfl) ?_
        refine m_get3 hx hb hts hin hown I L19 dX3_asksEach_19 ?_
        refine lv_bipush (v := 10) hx hb dX3_asksEach_22 (by decide) ?_
        refine lv_iload_n hx hb dX3_asksEach_24 rfl (lv_at hl 3 rfl) ?_
        refine lv_imul hx hb dX3_asksEach_25 ?_
        refine lv_iload_n hx hb dX3_asksEach_26 rfl (lv_at hl 0 rfl) ?_
        refine lv_iadd hx hb dX3_asksEach_27 ?_
        refine m_ald3 hx hb I (ix_480 hq (by omega)) dX3_asksEach_28 (x := S.2 3 (10 * q + i)) (by rw [nI_10 (q := q) (k := i) (by omega)] <;> rfl) ?_
        refine m_gives (g2.1) hr2 g2.2.2 g2.2.1 ⟨hx, hb, hml, hown, hts⟩ gX3_asksEach_X3_gives ⟨Nat.le_of_ble_eq_true rfl, Nat.le_of_ble_eq_true rfl⟩ ⟨Nat.le_refl _, Nat.le_refl _⟩ I hl.1 (Nat.le_of_ble_eq_true rfl) dX3_asksEach_29 (fun h29 S29 H locs v29 e29 i29 I => ?_) (fun h29 S29 H locs e29 i29 I => ?_)
        · refine lv_if_ne (tgt := 37) hx hb dX3_asksEach_32 (by decide) (fun _ => ?_) (fun h => absurd h (by decide))
          refine lv_aload_n hx hb dX3_asksEach_37 rfl (lv_at hl 1 rfl) ?_
          refine m_get27 hx hb hts hin hown I L56 dX3_asksEach_38 ?_
          refine lv_iload_n hx hb dX3_asksEach_41 rfl (lv_at hl 0 rfl) ?_
          refine lv_aload_n hx hb dX3_asksEach_42 rfl (lv_at hl 1 rfl) ?_
          refine m_get26 hx hb hts hin hown I L109 dX3_asksEach_43 (x := S29.1 26) rfl ?_
          refine m_ast27 hx hb I (vp_in_nI (by omega) (by decide)) dX3_asksEach_46 (fun H locs I => ?_)
          rw [nI_clamp (show i < 2 ^ 31 by omega)] at I
          refine lv_iinc (v := (nI i) + 1) (lv' := [(3, .int ((nI i) + 1)), (0, .ref o), (1, .int r), (2, .int (nI q))]) hx hb dX3_asksEach_47 hl (k := 0) rfl rfl (by decide) rfl (fun ls hl => ?_)
          refine lv_goto (tgt := 6) hx hb dX3_asksEach_50 (by decide) ?_
          rw [e3] at h29 v29 e29
          have h29 : (ev 40 r (SA.2 3 (10 * q + i)) SA).2.1 16 = 0 := (hv.2.1 16 (by decide) (by decide)).symm.trans h29
          have hl := lv_sub hl [0, 1, 2, 3] rfl
          rw [nI_1] at hl
          refine ih (i + 1) rm (upd K i (ev 40 r (SA.2 3 (10 * q + i)) SA).1) (ev 40 r (SA.2 3 (10 * q + i)) SA).2 _ (by omega) (by omega) (g.ev 40 r _ h29) (e_eq_lA (hv.2.tr e29) (by decide) _ _) ?_ ?_ ?_ H locs ls I hl
          · rw [(ev_sm 40 r _ SA).2.2.1]; exact hzz
          · intro j hj
            rw [sA_A, if_pos rfl, v29, hv.1]
            unfold upd
            by_cases hji : j = i
            · rw [if_pos hji, if_pos hji]
            · rw [if_neg hji, if_neg hji, i29 27 (by decide)]; exact hK j (by omega)
          · rw [hT]
            conv => lhs; unfold l_keys
            rw [if_pos h29]
        · refine lv_if_ne (tgt := 37) hx hb dX3_asksEach_32 (by decide) (fun h => absurd h (by decide)) (fun _ => ?_)
          refine lv_iconst (v := 0) hx hb dX3_asksEach_35 (by decide) ?_
          rw [e3] at h29 e29
          have h29 : ¬ (ev 40 r (SA.2 3 (10 * q + i)) SA).2.1 16 = 0 := fun q => h29 ((hv.2.1 16 (by decide) (by decide)).trans q)
          have eT : l_keys r q z 0 (fun _ => 0) (e_start S0) = (K, (ev 40 r (SA.2 3 (10 * q + i)) SA).2) := by rw [hT]; unfold l_keys; rw [if_neg h29]
          exact m_zret hx hb hr hlocks I rfl dX3_asksEach_36 (by rw [eT]; exact ⟨Or.inr ⟨rfl, h29⟩, hv.2.tr e29⟩)
  refine lv_aload_n hx hb dX3_asksEach_0 rfl (lv_at hl 0 rfl) ?_
  refine m_callv (rest := []) ⟨hx, hb, hml, hown, hts⟩ (c_X3_startsCall l D o ad cA S0) (cwV 0 hts gX3_asksEach_X3_startsCall rfl rfl rfl (by decide +kernel) ⟨Nat.le_of_ble_eq_true rfl, Nat.le_of_ble_eq_true rfl⟩) I rfl hl.1 rfl (Nat.le_of_ble_eq_true rfl) dX3_asksEach_1 ⟨Nat.le_refl _, Nat.le_refl _⟩ (fun S1 H locs p1 I => ?_)
  rw [show S1 = e_start S0 from p1] at I
  refine lv_iconst (v := 0) hx hb dX3_asksEach_4 (by decide) ?_
  refine lv_istore_n (lv' := [(3, .int 0), (0, .ref o), (1, .int r), (2, .int (nI q))]) hx hb dX3_asksEach_5 rfl hl (by decide) rfl (fun ls hl => ?_)
  exact LK (z + 1) 0 z (fun _ => 0) (e_start S0) _ (by omega) (by omega) (e_go.of hN) (e_eq.rf _) hz (fun j hj => by omega) rfl _ _ ls I (lv_sub hl [0, 1, 2, 3] rfl)

