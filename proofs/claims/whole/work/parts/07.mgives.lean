theorem f_rec_j {N : Nat} : ∀ (n : Nat) (S : tr_S) (w : Nat), wf S N → j_st S w N → ∃ w2, j_st (f_rec n S) w2 N ∧ (¬ S.1 16 ≤ 0 → 2 * w + (if S.1 16 = 5 then 0 else 1) < n → (f_rec n S).1 16 ≤ 0 → ¬ (f_rec n S).1 11 ≤ 0 ∧ (f_rec n S).1 16 = 0)
  | 0, S, w, _, hj => ⟨w, hj, fun _ h => by omega⟩
  | n + 1, S, w, hN, hj => by
    by_cases c6 : S.1 11 ≤ 0
    · have e : f_rec (n + 1) S = S := by unfold f_rec; rw [if_pos c6]
      rw [e]
      exact ⟨w, hj, fun h _ q => absurd q h⟩
    · obtain ⟨u, rfl, et, eu, hu, hu1, hu64, k, hk, ek, hk40⟩ := j_top hj hN.1 c6
      have ef : f_top S = u := et
      have er : f_rul S = k := by unfold f_rul; rw [ef, ek, nI_clamp (by omega)]
      by_cases cc : ¬ S.1 16 = 5 ∧ S.2 5 k = 11 ∧ S.2 14 u = 1
      · rcases j_begins (S := (sA (sF (sF S 16 0) 24 (S.1 24 + 1)) 14 u 2)) (x := S.2 13 u) (j_like hj rfl rfl rfl) (rl_snd hN hk (Or.inr (Or.inr (Or.inl cc.2.1)))) with ⟨-, eb, jb⟩ | ⟨-, eb, jb⟩
        · have e5 : f_else u k S = f_fails 5 (S.2 7 k) (sA (sF (sF S 16 0) 24 (S.1 24 + 1)) 14 u 2) := by unfold f_else; rw [eb]
          have h5 : (f_else u k S).1 16 = 5 := by rw [e5]; rfl
          have e : f_rec (n + 1) S = f_rec n (f_else u k S) := by
            conv => lhs; unfold f_rec
            rw [ef, er, if_neg c6, if_pos cc, if_neg (by rw [h5]; decide)]
          obtain ⟨w2, hj2, g⟩ := f_rec_j n (f_else u k S) (u + 1) (hN.sm (f_else_sm u k S)) jb
          rw [e]
          refine ⟨w2, hj2, fun _ hm => g (by rw [h5]; decide) ?_⟩
          rw [if_neg cc.1] at hm
          rw [if_pos h5]
          omega
        · have e1 : f_else u k S = f_push (S.2 7 k) (S.2 13 u) (f_tick (sA (sF (sF S 16 0) 24 (S.1 24 + 1)) 14 u 2)) := by unfold f_else; rw [eb]
          have h0 : (f_else u k S).1 16 = 0 := by rw [e1]; rfl
          have e : f_rec (n + 1) S = f_else u k S := by
            unfold f_rec
            rw [ef, er, if_neg c6, if_pos cc, if_pos h0]
          rw [e]
          refine ⟨u + 1 + 1, jb, fun _ _ _ => ⟨?_, h0⟩⟩
          have : (f_else u k S).1 11 = nI (u + 1 + 1) := jb.1
          rw [this]
          exact nI_nle (by omega) (by omega)
      · have e : f_rec (n + 1) S = f_rec n (f_pop S) := by
          conv => lhs; unfold f_rec
          rw [ef, er, if_neg c6, if_neg cc]
        obtain ⟨w2, hj2, g⟩ := f_rec_j n (f_pop S) u (hN.sm (f_pop_sm S)) (j_pop hj)
        rw [e]
        refine ⟨w2, hj2, fun h hm => g h ?_⟩
        show 2 * u + (if S.1 16 = 5 then 0 else 1) < n
        omega
theorem ite_P {α : Type} {c : Prop} [Decidable c] {P : α → Prop} {a b : α} (ha : P a) (hb : P b) : P (if c then a else b) := by
  by_cases h : c
  · rw [if_pos h]; exact ha
  · rw [if_neg h]; exact hb
theorem f_given_P {P : Int32 × tr_S → Prop} {S : tr_S} {r x : Int32} (h0 : ∀ v, P (v, S)) (hF : ∀ v a, 0 < a → a ≤ 5 → P (v, f_fails a r S)) (hA : ∀ v i u, P (v, sA S 0 i u)) (hB : ∀ v i u, P (v, sA S 10 i u)) : P (f_given r x S) := by
  have hI : ∀ a, P (f_itemAt a x r S) := by
    intro a
    unfold f_itemAt
    exact ite_P (P := P) (ite_P (P := P) (h0 _) (hF _ _ (by decide) (by decide))) (hF _ _ (by decide) (by decide))
  unfold f_given
  exact ite_P (P := P) (h0 _) (ite_P (P := P) (h0 _) (ite_P (P := P) (ite_P (P := P) (hF _ _ (by decide) (by decide)) (h0 _)) (ite_P (P := P) (ite_P (P := P) (hF _ _ (by decide) (by decide)) (h0 _)) (ite_P (P := P) (h0 _) (ite_P (P := P) (h0 _) (ite_P (P := P) (hI _) (ite_P (P := P) (hI _) (ite_P (P := P) (hA _ _ _) (ite_P (P := P) (hB _ _ _) (ite_P (P := P) (h0 _) (ite_P (P := P) (ite_P (P := P) (h0 _) (hF _ _ (by decide) (by decide))) (hF _ _ (by decide) (by decide)))))))))))))
theorem f_given_sm (r x : Int32) (S : tr_S) : e_sm S (f_given r x S).2 ∧ (f_given r x S).2.1 11 = S.1 11 ∧ (f_given r x S).2.1 18 = S.1 18 ∧ (f_given r x S).2.2 12 = S.2 12 :=
  f_given_P (P := fun q => e_sm S q.2 ∧ q.2.1 11 = S.1 11 ∧ q.2.1 18 = S.1 18 ∧ q.2.2 12 = S.2 12) (fun _ => ⟨e_sm.rf S, rfl, rfl, rfl⟩) (fun _ _ _ _ => ⟨⟨rfl, rfl, rfl, rfl, rfl, rfl, rfl, rfl, rfl⟩, rfl, rfl, rfl⟩) (fun _ _ _ => ⟨⟨rfl, rfl, rfl, rfl, rfl, rfl, rfl, rfl, rfl⟩, rfl, rfl, rfl⟩) (fun _ _ _ => ⟨⟨rfl, rfl, rfl, rfl, rfl, rfl, rfl, rfl, rfl⟩, rfl, rfl, rfl⟩)
theorem f_turn_j {N : Nat} {S : tr_S} {w : Nat} (hN : wf S N) (hj : j_st S w N) (hw : ¬ S.1 11 ≤ 0) : e_sm S (f_turn S) ∧ ∃ w2, j_st (f_turn S) w2 N := by
  obtain ⟨u, rfl, et, eu, hu, hu1, hu64, k, hk, ek, hk40⟩ := j_top hj hN.1 hw
  have ef : f_top S = u := et
  have er : f_rul S = k := by unfold f_rul; rw [ef, ek, nI_clamp (by omega)]
  have popj : ∀ {T : tr_S} {v : Nat}, j_st T (v + 1) N → j_st (f_pop T) v N := fun h => j_pop h
  unfold f_turn
  rw [er]
  by_cases ha : (8 ≤ S.2 5 k ∧ S.2 5 k ≤ 11) ∨ S.2 5 k = 16
  · rw [if_pos ha]
    unfold f_turn1
    have hg : e_sm S (f_goesOn (S.1 26) S).2 ∧ ((∃ w2, j_st (f_goesOn (S.1 26) S).2 w2 N ∧ (f_goesOn (S.1 26) S).1 = 0) ∨ (j_st (f_goesOn (S.1 26) S).2 (u + 1) N ∧ (f_goesOn (S.1 26) S).1 = 1)) := by
      unfold f_goesOn
      rw [et, ek, nI_clamp (show k < 2 ^ 31 by omega)]
      split
      · refine ⟨e_sm.tr ⟨rfl, rfl, rfl, rfl, rfl, rfl, rfl, rfl, rfl⟩ (f_begins_sm _ _ _), Or.inl ?_⟩
        rcases j_begins (S := sA S 14 u (S.2 14 u + 1)) (x := S.2 13 u) (j_like hj rfl rfl rfl) (rl_fst hN hk ha) with ⟨-, -, jb⟩ | ⟨-, -, jb⟩
        · exact ⟨_, jb, rfl⟩
        · exact ⟨_, jb, rfl⟩
      · split
        · rename_i hph hq
          refine ⟨e_sm.tr ⟨rfl, rfl, rfl, rfl, rfl, rfl, rfl, rfl, rfl⟩ (f_begins_sm _ _ _), Or.inl ?_⟩
          have hrr : ∃ b, b < N ∧ (if S.2 5 k = 9 then S.2 6 k else S.2 7 k) = nI b := by
            by_cases h9 : S.2 5 k = 9
            · rw [if_pos h9]; exact rl_fst hN hk ha
            · rw [if_neg h9]
              refine rl_snd hN hk ?_
              rcases hq.2 with h | h | h | h
              · exact Or.inl h
              · exact absurd h h9
              · exact Or.inr (Or.inr (Or.inr h))
              · exact Or.inr (Or.inl h.1)
          rcases j_begins (S := sA (sA S 14 u (S.2 14 u + 1)) 15 u (S.1 26)) (x := if S.2 5 k = 8 ∨ S.2 5 k = 9 then S.1 26 else S.2 13 u) (j_like hj rfl rfl rfl) hrr with ⟨-, -, jb⟩ | ⟨-, -, jb⟩
          · exact ⟨_, jb, rfl⟩
          · exact ⟨_, jb, rfl⟩
        · exact ⟨⟨rfl, rfl, rfl, rfl, rfl, rfl, rfl, rfl, rfl⟩, Or.inr ⟨j_like hj rfl rfl rfl, rfl⟩⟩
    obtain ⟨g1, g2⟩ := hg
    split
    · rename_i hh
      rcases g2 with ⟨w2, -, h0⟩ | ⟨h1, -⟩
      · exact absurd h0 hh.2
      · exact ⟨g1.tr (f_pop_sm _), u, popj h1⟩
    · rcases g2 with ⟨w2, h1, -⟩ | ⟨h1, -⟩
      · exact ⟨g1, w2, h1⟩
      · exact ⟨g1, _, h1⟩
  · rw [if_neg ha]
    unfold f_turn2 f_leaf
    obtain ⟨g1, g2, g3, g4⟩ := f_given_sm (S.2 12 (f_top S)) (S.2 13 (f_top S)) S
    have hjl : j_st (sF (f_given (S.2 12 (f_top S)) (S.2 13 (f_top S)) S).2 26 (f_given (S.2 12 (f_top S)) (S.2 13 (f_top S)) S).1) (u + 1) N := j_like hj g2 g3 g4
    have hsm : e_sm S (sF (f_given (S.2 12 (f_top S)) (S.2 13 (f_top S)) S).2 26 (f_given (S.2 12 (f_top S)) (S.2 13 (f_top S)) S).1) := g1.tr ⟨rfl, rfl, rfl, rfl, rfl, rfl, rfl, rfl, rfl⟩
    split
    · exact ⟨hsm.tr (f_pop_sm _), u, popj hjl⟩
    · exact ⟨hsm, _, hjl⟩
/-- the failure's number is 0, or above it -/
theorem f_given_f (r x : Int32) (S : tr_S) (h : S.1 16 = 0) : (f_given r x S).2.1 16 = 0 ∨ 0 < (f_given r x S).2.1 16 :=
  f_given_P (P := fun q => q.2.1 16 = 0 ∨ 0 < q.2.1 16) (fun _ => Or.inl h) (fun _ _ ha _ => Or.inr ha) (fun _ _ _ => Or.inl h) (fun _ _ _ => Or.inl h)
theorem f_begins_f (r x : Int32) (S : tr_S) (h : S.1 16 = 0) : (f_begins r x S).2.1 16 = 0 ∨ 0 < (f_begins r x S).2.1 16 := by
  unfold f_begins
  split
  · exact Or.inr (by show (0 : Int32) < 5; decide)
  · exact Or.inl h
theorem f_turn_f {S : tr_S} {N w : Nat} (h : S.1 16 = 0) (hf0 : wf S N) (hj : j_st S w N) (hw : ¬ S.1 11 ≤ 0) : (f_turn S).1 16 = 0 ∨ 0 < (f_turn S).1 16 := by
  have hg : (f_goesOn (S.1 26) S).2.1 16 = 0 ∨ 0 < (f_goesOn (S.1 26) S).2.1 16 := by
    unfold f_goesOn
    split
    · exact f_begins_f _ _ _ h
    · split
      · exact f_begins_f _ _ _ h
      · exact Or.inl h
  have hl : (f_leaf S).1 16 = 0 ∨ 0 < (f_leaf S).1 16 := f_given_f _ _ S h
  unfold f_turn f_turn1 f_turn2
  split
  · split
    · exact hg
    · exact hg
  · split
    · exact hl
    · exact hl
set_option maxHeartbeats 4000000 in
set_option maxRecDepth 100000 in
theorem c_X3_gives (l : Launch) (D : va_G) (o : Nat) (ad : Nat → Nat) (cA : ClassId) (S0 : tr_S) (r x : Int32) (N n : Nat) (b : Int32) (T : tr_S) (hN0 : wf S0 N) (hr0 : ∃ k, k < N ∧ r = nI k) (hst : ∃ st : Nat, st ≤ 64 ∧ 0 ≤ st ∧ S0.1 18 = nI st) (hT : f_loop n (f_begins r x (sF (sF S0 11 0) 16 0)).2 = some (b, T)) : m_Mi l yX3_gives wsX3_gives { frames := 3, cells := 0, slots := 0, locals := 72 } [.int r, .int x] D o ad cA S0 (fun v S => v = b ∧ S = T) := by
  refine Met.ofW (cc := cX3_gives) (maxL := 6) (ret := (some .boolean)) (by decide) rfl ?_
  intro p e s m args below meth c s₁ B hml hv
  obtain ⟨rfl, hB⟩ := hv
  have hx := B.exec
  have hb := B.bytes
  have hr := B.returns
  have hts := atoms_spec (ws := wsX3_gives) B.pre
  have hown : s.vm.findClass RX3 = some m.cls := findClass_of_methodNamed B.named
  have hlocks := B.notSynchronized
  have I := m_I.of hB
  have hin : ∀ w ∈ wsX30, w ∈ wsX3_gives := fun _ h => List.mem_cons_of_mem _ (List.mem_append_right _ h)
  have L22 := hts (.fieldLink RX3 22 "TollRulesModel" "kind" "[I") (by decide +kernel)
  have L40 := hts (.fieldLink RX3 40 "TollRulesModel" "waitRule" "[I") (by decide +kernel)
  have L43 := hts (.fieldLink RX3 43 "TollRulesModel" "waitValue" "[I") (by decide +kernel)
  have L92 := hts (.fieldLink RX3 92 "TollRulesModel" "waiting" "I") (by decide +kernel)
  have L95 := hts (.fieldLink RX3 95 "TollRulesModel" "failure" "I") (by decide +kernel)
  have L109 := hts (.fieldLink RX3 109 "TollRulesModel" "handed" "I") (by decide +kernel)
  have hl := lv_entry ([.ref o, .int r, .int x]) (n := 6) (Nat.le_of_ble_eq_true rfl)
  rw [lg_entry_eq]
  generalize (lg_sl ([.ref o, .int r, .int x]) ++ List.replicate (6 - (lg_sl ([.ref o, .int r, .int x])).length) Slot.unset).toArray = ls at hl ⊢
  have hl : lv_has ls 6 [(0, .ref o), (1, .int r), (2, .int x)] := hl
  have LG : ∀ (d : Nat) (S : tr_S) (w : Nat) (y : Int32), wf S N → j_st S w N → (S.1 16 = 0 ∨ 0 < S.1 16) → f_loop d S = some (b, T) → ∀ (H : Heap) (locs : List Loc) (ls : Array Slot), m_I D o ad cA S s s.heap H locs → lv_has ls 6 [(3, .int y), (0, .ref o), (1, .int r), (2, .int x)] → W p l e (headSpec wsX3_gives { frames := 3, cells := 0, slots := 0, locals := 72 }).room s m (([.ref o, .int r, .int x] : List Value).toArray) below meth c H locs 0 0 (MQ below (va_Qi (fun v S => v = b ∧ S = T) (m_B D o ad cA) (m_A o ad)) (([.ref o, .int r, .int x] : List Value).toArray) s 0 0 (m_A o ad)) (F0 m 17 ls []) := by
    intro d
    induction d with
    | zero => intro S w y _ _ _ hT; exact absurd hT (by unfold f_loop; exact fun h => by cases h)
    | succ d ih =>
      intro S w y hN hj hf hT H locs ls I hl
      refine lv_aload_n hx hb dX3_gives_17 rfl (lv_at hl 1 rfl) ?_
      refine m_get11 hx hb hts hin hown I L92 dX3_gives_18 (x := S.1 11) rfl ?_
      refine lv_if_gt (tgt := 31) hx hb dX3_gives_21 (by decide) (fun c21 => ?_) (fun c21 => ?_)
      · refine lv_aload_n hx hb dX3_gives_31 rfl (lv_at hl 1 rfl) ?_
        refine m_get16 hx hb hts hin hown I L95 dX3_gives_32 (x := S.1 16) rfl ?_
        refine lv_if_le (tgt := 51) hx hb dX3_gives_35 (by decide) (fun c35 => ?_) (fun c35 => ?_)
        · have hNB := hN
          have hjB := hj
          have hnn : ¬ S.1 11 ≤ 0 := Int32.not_le.mpr c21
          have f0 : S.1 16 = 0 := hf.elim id (fun q => absurd c35 (Int32.not_le.mpr q))
          obtain ⟨u, rfl, et, eu, hu, hu1, hu64, k, hk, ek, hk40⟩ := j_top hjB hNB.1 hnn
          have ef : f_top S = u := et
          have er : f_rul S = k := by unfold f_rul; rw [ef, ek, nI_clamp (by omega)]
          refine lv_aload_n hx hb dX3_gives_51 rfl (lv_at hl 1 rfl) ?_
          refine m_get12 hx hb hts hin hown I L40 dX3_gives_52 ?_
          refine lv_aload_n hx hb dX3_gives_55 rfl (lv_at hl 1 rfl) ?_
          refine m_get11 hx hb hts hin hown I L92 dX3_gives_56 (x := S.1 11) rfl ?_
          refine lv_iconst (v := 1) hx hb dX3_gives_59 (by decide) ?_
          refine lv_isub hx hb dX3_gives_60 ?_
          refine m_ald12 hx hb I hu dX3_gives_61 (x := S.2 12 u) (by rw [et] <;> rfl) ?_
          refine lv_istore (lv' := [(4, .int (S.2 12 u)), (3, .int y), (0, .ref o), (1, .int r), (2, .int x)]) hx hb dX3_gives_62 hl (by decide) rfl (fun ls hl => ?_)
          refine lv_iconst (v := 1) hx hb dX3_gives_64 (by decide) ?_
          refine lv_istore (lv' := [(5, .int 1), (4, .int (S.2 12 u)), (3, .int y), (0, .ref o), (1, .int r), (2, .int x)]) hx hb dX3_gives_65 hl (by decide) rfl (fun ls hl => ?_)
          refine lv_aload_n hx hb dX3_gives_67 rfl (lv_at hl 3 rfl) ?_
          refine m_get5 hx hb hts hin hown I L22 dX3_gives_68 ?_
          refine lv_iload hx hb dX3_gives_71 (lv_at hl 1 rfl) ?_
          refine m_ald5 hx hb I (by rw [ek]; exact vp_in_nI hk40 (by decide)) dX3_gives_73 (x := S.2 5 k) (by rw [ek, nI_clamp (show k < 2 ^ 31 by omega)] <;> rfl) ?_
          refine m_asks ⟨hx, hb, hml, hown, hts⟩ gX3_gives_X3_asks ⟨Nat.le_of_ble_eq_true rfl, Nat.le_of_ble_eq_true rfl⟩ ⟨Nat.le_refl _, Nat.le_refl _⟩ hl.1 (Nat.le_of_ble_eq_true rfl) dX3_gives_74 (fun h74 => ?_) (fun h74 => ?_)
          · refine lv_if_eq (tgt := 93) hx hb dX3_gives_77 (by decide) (fun h => absurd h (by decide)) (fun _ => ?_)
            refine lv_aload_n hx hb dX3_gives_80 rfl (lv_at hl 3 rfl) ?_
            refine lv_aload_n hx hb dX3_gives_81 rfl (lv_at hl 3 rfl) ?_
            refine m_get26 hx hb hts hin hown I L109 dX3_gives_82 (x := S.1 26) rfl ?_
            refine m_calli (rest := []) ⟨hx, hb, hml, hown, hts⟩ (c_X3_goesOn l D o ad cA S (S.1 26) hu hu1 (by rw [et, ek]; exact vp_in_nI hk40 (by decide))) (cwV 1 hts gX3_gives_X3_goesOn rfl rfl rfl (by decide +kernel) ⟨Nat.le_of_ble_eq_true rfl, Nat.le_of_ble_eq_true rfl⟩) I rfl hl.1 rfl (Nat.le_of_ble_eq_true rfl) dX3_gives_85 ⟨Nat.le_refl _, Nat.le_refl _⟩ (fun r85 S85 H locs p85 I => ?_)
            refine lv_istore (lv' := [(5, .int r85), (4, .int (S.2 12 u)), (3, .int y), (0, .ref o), (1, .int r), (2, .int x)]) hx hb dX3_gives_88 hl (by decide) rfl (fun ls hl => ?_)
            refine lv_goto (tgt := 114) hx hb dX3_gives_90 (by decide) ?_
            refine lv_aload_n hx hb dX3_gives_114 rfl (lv_at hl 3 rfl) ?_
            refine m_get16 hx hb hts hin hown I L95 dX3_gives_115 (x := S85.1 16) rfl ?_
            refine lv_if_ne (tgt := 136) hx hb dX3_gives_118 (by decide) (fun c118 => ?_) (fun c118 => ?_)
            · refine lv_goto (tgt := 17) hx hb dX3_gives_136 (by decide) ?_
              have eT : S85 = f_turn S := by unfold f_turn; rw [er, if_pos h74]; unfold f_turn1; rw [← p85]; exact (if_neg (fun q => c118 q.1)).symm
              obtain ⟨hsm, w2, hj2⟩ := f_turn_j hNB hjB hnn
              have hf2 := f_turn_f f0 (hf0 := hNB) hjB hnn
              rw [eT] at I
              unfold f_loop at hT
              rw [if_neg (fun q => q.1 c21), if_pos c35] at hT
              exact ih (f_turn S) w2 y (hNB.sm hsm) hj2 hf2 hT H locs ls I (lv_sub hl [2, 3, 4, 5] rfl)
            · refine lv_iload hx hb dX3_gives_121 (lv_at hl 0 rfl) ?_
              refine lv_if_eq (tgt := 136) hx hb dX3_gives_123 (by decide) (fun c123 => ?_) (fun c123 => ?_)
              · refine lv_goto (tgt := 17) hx hb dX3_gives_136 (by decide) ?_
                have eT : S85 = f_turn S := by unfold f_turn; rw [er, if_pos h74]; unfold f_turn1; rw [← p85]; exact (if_neg (fun q => q.2 c123)).symm
                obtain ⟨hsm, w2, hj2⟩ := f_turn_j hNB hjB hnn
                have hf2 := f_turn_f f0 (hf0 := hNB) hjB hnn
                rw [eT] at I
                unfold f_loop at hT
                rw [if_neg (fun q => q.1 c21), if_pos c35] at hT
                exact ih (f_turn S) w2 y (hNB.sm hsm) hj2 hf2 hT H locs ls I (lv_sub hl [2, 3, 4, 5] rfl)
              · refine lv_aload_n hx hb dX3_gives_126 rfl (lv_at hl 3 rfl) ?_
                refine lv_dup hx hb dX3_gives_127 rfl ?_
                refine m_get11 hx hb hts hin hown I L92 dX3_gives_128 (x := S85.1 11) rfl ?_
                refine lv_iconst (v := 1) hx hb dX3_gives_131 (by decide) ?_
                refine lv_isub hx hb dX3_gives_132 ?_
                refine m_put11 hx hb hts hin hown I L92 dX3_gives_133 (fun H locs I => ?_)
                refine lv_goto (tgt := 17) hx hb dX3_gives_136 (by decide) ?_
                have eT : (sF S85 11 ((S85.1 11) - 1)) = f_turn S := by unfold f_turn; rw [er, if_pos h74]; unfold f_turn1; rw [← p85]; exact (if_pos ⟨c118, c123⟩).symm
                obtain ⟨hsm, w2, hj2⟩ := f_turn_j hNB hjB hnn
                have hf2 := f_turn_f f0 (hf0 := hNB) hjB hnn
                rw [eT] at I
                unfold f_loop at hT
                rw [if_neg (fun q => q.1 c21), if_pos c35] at hT
                exact ih (f_turn S) w2 y (hNB.sm hsm) hj2 hf2 hT H locs ls I (lv_sub hl [2, 3, 4, 5] rfl)
          · refine lv_if_eq (tgt := 93) hx hb dX3_gives_77 (by decide) (fun _ => ?_) (fun h => absurd h (by decide))
            refine lv_aload_n hx hb dX3_gives_93 rfl (lv_at hl 3 rfl) ?_
            refine lv_aload_n hx hb dX3_gives_94 rfl (lv_at hl 3 rfl) ?_
            refine lv_iload hx hb dX3_gives_95 (lv_at hl 1 rfl) ?_
            refine lv_aload_n hx hb dX3_gives_97 rfl (lv_at hl 3 rfl) ?_
            refine m_get13 hx hb hts hin hown I L43 dX3_gives_98 ?_
            refine lv_aload_n hx hb dX3_gives_101 rfl (lv_at hl 3 rfl) ?_
            refine m_get11 hx hb hts hin hown I L92 dX3_gives_102 (x := S.1 11) rfl ?_
            refine lv_iconst (v := 1) hx hb dX3_gives_105 (by decide) ?_
            refine lv_isub hx hb dX3_gives_106 ?_
            refine m_ald13 hx hb I hu dX3_gives_107 (x := S.2 13 u) (by rw [et] <;> rfl) ?_
            refine m_calli (rest := [.ref o]) ⟨hx, hb, hml, hown, hts⟩ (c_X3_given l D o ad cA S (S.2 12 u) (S.2 13 u) (by rw [ek]; exact hNB.g hk)) (cwV 2 hts gX3_gives_X3_given rfl rfl rfl (by decide +kernel) ⟨Nat.le_of_ble_eq_true rfl, Nat.le_of_ble_eq_true rfl⟩) I rfl hl.1 rfl (Nat.le_of_ble_eq_true rfl) dX3_gives_108 ⟨Nat.le_refl _, Nat.le_refl _⟩ (fun r108 S108 H locs p108 I => ?_)
            refine m_put26 hx hb hts hin hown I L109 dX3_gives_111 (fun H locs I => ?_)
            refine lv_aload_n hx hb dX3_gives_114 rfl (lv_at hl 3 rfl) ?_
            refine m_get16 hx hb hts hin hown I L95 dX3_gives_115 (x := S108.1 16) rfl ?_
            refine lv_if_ne (tgt := 136) hx hb dX3_gives_118 (by decide) (fun c118 => ?_) (fun c118 => ?_)
            · refine lv_goto (tgt := 17) hx hb dX3_gives_136 (by decide) ?_
              have eL : f_leaf S = sF S108 26 r108 := by unfold f_leaf; rw [ef, ← p108]
              have eT : (sF S108 26 r108) = f_turn S := by unfold f_turn; rw [er, if_neg h74]; unfold f_turn2; rw [eL]; exact (if_neg c118).symm
              obtain ⟨hsm, w2, hj2⟩ := f_turn_j hNB hjB hnn
              have hf2 := f_turn_f f0 (hf0 := hNB) hjB hnn
              rw [eT] at I
              unfold f_loop at hT
              rw [if_neg (fun q => q.1 c21), if_pos c35] at hT
              exact ih (f_turn S) w2 y (hNB.sm hsm) hj2 hf2 hT H locs ls I (lv_sub hl [2, 3, 4, 5] rfl)
            · refine lv_iload hx hb dX3_gives_121 (lv_at hl 0 rfl) ?_
              refine lv_if_eq (tgt := 136) hx hb dX3_gives_123 (by decide) (fun h => absurd h (by decide)) (fun _ => ?_)
              refine lv_aload_n hx hb dX3_gives_126 rfl (lv_at hl 3 rfl) ?_
              refine lv_dup hx hb dX3_gives_127 rfl ?_
              refine m_get11 hx hb hts hin hown I L92 dX3_gives_128 (x := S108.1 11) rfl ?_
              refine lv_iconst (v := 1) hx hb dX3_gives_131 (by decide) ?_
              refine lv_isub hx hb dX3_gives_132 ?_
              refine m_put11 hx hb hts hin hown I L92 dX3_gives_133 (fun H locs I => ?_)
              refine lv_goto (tgt := 17) hx hb dX3_gives_136 (by decide) ?_
              have eL : f_leaf S = sF S108 26 r108 := by unfold f_leaf; rw [ef, ← p108]
              have eT : (sF (sF S108 26 r108) 11 ((S108.1 11) - 1)) = f_turn S := by unfold f_turn; rw [er, if_neg h74]; unfold f_turn2; rw [eL]; exact (if_pos c118).symm
              obtain ⟨hsm, w2, hj2⟩ := f_turn_j hNB hjB hnn
              have hf2 := f_turn_f f0 (hf0 := hNB) hjB hnn
              rw [eT] at I
              unfold f_loop at hT
              rw [if_neg (fun q => q.1 c21), if_pos c35] at hT
              exact ih (f_turn S) w2 y (hNB.sm hsm) hj2 hf2 hT H locs ls I (lv_sub hl [2, 3, 4, 5] rfl)
        · refine lv_aload_n hx hb dX3_gives_38 rfl (lv_at hl 1 rfl) ?_
          refine m_callv (rest := []) ⟨hx, hb, hml, hown, hts⟩ (c_X3_recovers l D o ad cA S N w 140 hN hj (by have := hj.2.1.choose_spec; split <;> omega)) (cwV 0 hts gX3_gives_X3_recovers rfl rfl rfl (by decide +kernel) ⟨Nat.le_of_ble_eq_true rfl, Nat.le_of_ble_eq_true rfl⟩) I rfl hl.1 rfl (Nat.le_of_ble_eq_true rfl) dX3_gives_39 ⟨Nat.le_refl _, Nat.le_refl _⟩ (fun S39 H locs p39 I => ?_)
          refine lv_aload_n hx hb dX3_gives_42 rfl (lv_at hl 1 rfl) ?_
          refine m_get16 hx hb hts hin hown I L95 dX3_gives_43 (x := S39.1 16) rfl ?_
          refine lv_if_le (tgt := 51) hx hb dX3_gives_46 (by decide) (fun c46 => ?_) (fun c46 => ?_)
          · obtain ⟨w9, hjB, gB⟩ := f_rec_j 140 S w hN hj
            have gB := gB c35 (by have := hj.2.1.choose_spec; split <;> omega)
            rw [← p39] at hjB gB
            have hNB : wf S39 N := by rw [p39]; exact hN.sm (f_rec_sm 140 S)
            have gB := gB c46
            have hnn := gB.1
            have f0 := gB.2
            obtain ⟨u, rfl, et, eu, hu, hu1, hu64, k, hk, ek, hk40⟩ := j_top hjB hNB.1 hnn
            have ef : f_top S39 = u := et
            have er : f_rul S39 = k := by unfold f_rul; rw [ef, ek, nI_clamp (by omega)]
            refine lv_aload_n hx hb dX3_gives_51 rfl (lv_at hl 1 rfl) ?_
            refine m_get12 hx hb hts hin hown I L40 dX3_gives_52 ?_
            refine lv_aload_n hx hb dX3_gives_55 rfl (lv_at hl 1 rfl) ?_
            refine m_get11 hx hb hts hin hown I L92 dX3_gives_56 (x := S39.1 11) rfl ?_
            refine lv_iconst (v := 1) hx hb dX3_gives_59 (by decide) ?_
            refine lv_isub hx hb dX3_gives_60 ?_
            refine m_ald12 hx hb I hu dX3_gives_61 (x := S39.2 12 u) (by rw [et] <;> rfl) ?_
            refine lv_istore (lv' := [(4, .int (S39.2 12 u)), (3, .int y), (0, .ref o), (1, .int r), (2, .int x)]) hx hb dX3_gives_62 hl (by decide) rfl (fun ls hl => ?_)
            refine lv_iconst (v := 1) hx hb dX3_gives_64 (by decide) ?_
            refine lv_istore (lv' := [(5, .int 1), (4, .int (S39.2 12 u)), (3, .int y), (0, .ref o), (1, .int r), (2, .int x)]) hx hb dX3_gives_65 hl (by decide) rfl (fun ls hl => ?_)
            refine lv_aload_n hx hb dX3_gives_67 rfl (lv_at hl 3 rfl) ?_
            refine m_get5 hx hb hts hin hown I L22 dX3_gives_68 ?_
            refine lv_iload hx hb dX3_gives_71 (lv_at hl 1 rfl) ?_
            refine m_ald5 hx hb I (by rw [ek]; exact vp_in_nI hk40 (by decide)) dX3_gives_73 (x := S39.2 5 k) (by rw [ek, nI_clamp (show k < 2 ^ 31 by omega)] <;> rfl) ?_
            refine m_asks ⟨hx, hb, hml, hown, hts⟩ gX3_gives_X3_asks ⟨Nat.le_of_ble_eq_true rfl, Nat.le_of_ble_eq_true rfl⟩ ⟨Nat.le_refl _, Nat.le_refl _⟩ hl.1 (Nat.le_of_ble_eq_true rfl) dX3_gives_74 (fun h74 => ?_) (fun h74 => ?_)
            · refine lv_if_eq (tgt := 93) hx hb dX3_gives_77 (by decide) (fun h => absurd h (by decide)) (fun _ => ?_)
              refine lv_aload_n hx hb dX3_gives_80 rfl (lv_at hl 3 rfl) ?_
              refine lv_aload_n hx hb dX3_gives_81 rfl (lv_at hl 3 rfl) ?_
              refine m_get26 hx hb hts hin hown I L109 dX3_gives_82 (x := S39.1 26) rfl ?_
              refine m_calli (rest := []) ⟨hx, hb, hml, hown, hts⟩ (c_X3_goesOn l D o ad cA S39 (S39.1 26) hu hu1 (by rw [et, ek]; exact vp_in_nI hk40 (by decide))) (cwV 1 hts gX3_gives_X3_goesOn rfl rfl rfl (by decide +kernel) ⟨Nat.le_of_ble_eq_true rfl, Nat.le_of_ble_eq_true rfl⟩) I rfl hl.1 rfl (Nat.le_of_ble_eq_true rfl) dX3_gives_85 ⟨Nat.le_refl _, Nat.le_refl _⟩ (fun r85 S85 H locs p85 I => ?_)
              refine lv_istore (lv' := [(5, .int r85), (4, .int (S39.2 12 u)), (3, .int y), (0, .ref o), (1, .int r), (2, .int x)]) hx hb dX3_gives_88 hl (by decide) rfl (fun ls hl => ?_)
              refine lv_goto (tgt := 114) hx hb dX3_gives_90 (by decide) ?_
              refine lv_aload_n hx hb dX3_gives_114 rfl (lv_at hl 3 rfl) ?_
              refine m_get16 hx hb hts hin hown I L95 dX3_gives_115 (x := S85.1 16) rfl ?_
              refine lv_if_ne (tgt := 136) hx hb dX3_gives_118 (by decide) (fun c118 => ?_) (fun c118 => ?_)
              · refine lv_goto (tgt := 17) hx hb dX3_gives_136 (by decide) ?_
                have eT : S85 = f_turn S39 := by unfold f_turn; rw [er, if_pos h74]; unfold f_turn1; rw [← p85]; exact (if_neg (fun q => c118 q.1)).symm
                obtain ⟨hsm, w2, hj2⟩ := f_turn_j hNB hjB hnn
                have hf2 := f_turn_f f0 (hf0 := hNB) hjB hnn
                rw [eT] at I
                unfold f_loop at hT
                rw [if_neg (fun q => c35 q.2), if_neg c35, ← p39, if_pos c46] at hT
                exact ih (f_turn S39) w2 y (hNB.sm hsm) hj2 hf2 hT H locs ls I (lv_sub hl [2, 3, 4, 5] rfl)
              · refine lv_iload hx hb dX3_gives_121 (lv_at hl 0 rfl) ?_
                refine lv_if_eq (tgt := 136) hx hb dX3_gives_123 (by decide) (fun c123 => ?_) (fun c123 => ?_)
                · refine lv_goto (tgt := 17) hx hb dX3_gives_136 (by decide) ?_
                  have eT : S85 = f_turn S39 := by unfold f_turn; rw [er, if_pos h74]; unfold f_turn1; rw [← p85]; exact (if_neg (fun q => q.2 c123)).symm
                  obtain ⟨hsm, w2, hj2⟩ := f_turn_j hNB hjB hnn
                  have hf2 := f_turn_f f0 (hf0 := hNB) hjB hnn
                  rw [eT] at I
                  unfold f_loop at hT
                  rw [if_neg (fun q => c35 q.2), if_neg c35, ← p39, if_pos c46] at hT
                  exact ih (f_turn S39) w2 y (hNB.sm hsm) hj2 hf2 hT H locs ls I (lv_sub hl [2, 3, 4, 5] rfl)
                · refine lv_aload_n hx hb dX3_gives_126 rfl (lv_at hl 3 rfl) ?_
                  refine lv_dup hx hb dX3_gives_127 rfl ?_
                  refine m_get11 hx hb hts hin hown I L92 dX3_gives_128 (x := S85.1 11) rfl ?_
                  refine lv_iconst (v := 1) hx hb dX3_gives_131 (by decide) ?_
                  refine lv_isub hx hb dX3_gives_132 ?_
                  refine m_put11 hx hb hts hin hown I L92 dX3_gives_133 (fun H locs I => ?_)
                  refine lv_goto (tgt := 17) hx hb dX3_gives_136 (by decide) ?_
                  have eT : (sF S85 11 ((S85.1 11) - 1)) = f_turn S39 := by unfold f_turn; rw [er, if_pos h74]; unfold f_turn1; rw [← p85]; exact (if_pos ⟨c118, c123⟩).symm
                  obtain ⟨hsm, w2, hj2⟩ := f_turn_j hNB hjB hnn
                  have hf2 := f_turn_f f0 (hf0 := hNB) hjB hnn
                  rw [eT] at I
                  unfold f_loop at hT
                  rw [if_neg (fun q => c35 q.2), if_neg c35, ← p39, if_pos c46] at hT
                  exact ih (f_turn S39) w2 y (hNB.sm hsm) hj2 hf2 hT H locs ls I (lv_sub hl [2, 3, 4, 5] rfl)
            · refine lv_if_eq (tgt := 93) hx hb dX3_gives_77 (by decide) (fun _ => ?_) (fun h => absurd h (by decide))
              refine lv_aload_n hx hb dX3_gives_93 rfl (lv_at hl 3 rfl) ?_
              refine lv_aload_n hx hb dX3_gives_94 rfl (lv_at hl 3 rfl) ?_
              refine lv_iload hx hb dX3_gives_95 (lv_at hl 1 rfl) ?_
              refine lv_aload_n hx hb dX3_gives_97 rfl (lv_at hl 3 rfl) ?_
              refine m_get13 hx hb hts hin hown I L43 dX3_gives_98 ?_
              refine lv_aload_n hx hb dX3_gives_101 rfl (lv_at hl 3 rfl) ?_
              refine m_get11 hx hb hts hin hown I L92 dX3_gives_102 (x := S39.1 11) rfl ?_
              refine lv_iconst (v := 1) hx hb dX3_gives_105 (by decide) ?_
              refine lv_isub hx hb dX3_gives_106 ?_
              refine m_ald13 hx hb I hu dX3_gives_107 (x := S39.2 13 u) (by rw [et] <;> rfl) ?_
              refine m_calli (rest := [.ref o]) ⟨hx, hb, hml, hown, hts⟩ (c_X3_given l D o ad cA S39 (S39.2 12 u) (S39.2 13 u) (by rw [ek]; exact hNB.g hk)) (cwV 2 hts gX3_gives_X3_given rfl rfl rfl (by decide +kernel) ⟨Nat.le_of_ble_eq_true rfl, Nat.le_of_ble_eq_true rfl⟩) I rfl hl.1 rfl (Nat.le_of_ble_eq_true rfl) dX3_gives_108 ⟨Nat.le_refl _, Nat.le_refl _⟩ (fun r108 S108 H locs p108 I => ?_)
              refine m_put26 hx hb hts hin hown I L109 dX3_gives_111 (fun H locs I => ?_)
              refine lv_aload_n hx hb dX3_gives_114 rfl (lv_at hl 3 rfl) ?_
              refine m_get16 hx hb hts hin hown I L95 dX3_gives_115 (x := S108.1 16) rfl ?_
              refine lv_if_ne (tgt := 136) hx hb dX3_gives_118 (by decide) (fun c118 => ?_) (fun c118 => ?_)
              · refine lv_goto (tgt := 17) hx hb dX3_gives_136 (by decide) ?_
                have eL : f_leaf S39 = sF S108 26 r108 := by unfold f_leaf; rw [ef, ← p108]
                have eT : (sF S108 26 r108) = f_turn S39 := by unfold f_turn; rw [er, if_neg h74]; unfold f_turn2; rw [eL]; exact (if_neg c118).symm
                obtain ⟨hsm, w2, hj2⟩ := f_turn_j hNB hjB hnn
                have hf2 := f_turn_f f0 (hf0 := hNB) hjB hnn
                rw [eT] at I
                unfold f_loop at hT
                rw [if_neg (fun q => c35 q.2), if_neg c35, ← p39, if_pos c46] at hT
                exact ih (f_turn S39) w2 y (hNB.sm hsm) hj2 hf2 hT H locs ls I (lv_sub hl [2, 3, 4, 5] rfl)
              · refine lv_iload hx hb dX3_gives_121 (lv_at hl 0 rfl) ?_
                refine lv_if_eq (tgt := 136) hx hb dX3_gives_123 (by decide) (fun h => absurd h (by decide)) (fun _ => ?_)
                refine lv_aload_n hx hb dX3_gives_126 rfl (lv_at hl 3 rfl) ?_
                refine lv_dup hx hb dX3_gives_127 rfl ?_
                refine m_get11 hx hb hts hin hown I L92 dX3_gives_128 (x := S108.1 11) rfl ?_
                refine lv_iconst (v := 1) hx hb dX3_gives_131 (by decide) ?_
                refine lv_isub hx hb dX3_gives_132 ?_
                refine m_put11 hx hb hts hin hown I L92 dX3_gives_133 (fun H locs I => ?_)
                refine lv_goto (tgt := 17) hx hb dX3_gives_136 (by decide) ?_
                have eL : f_leaf S39 = sF S108 26 r108 := by unfold f_leaf; rw [ef, ← p108]
                have eT : (sF (sF S108 26 r108) 11 ((S108.1 11) - 1)) = f_turn S39 := by unfold f_turn; rw [er, if_neg h74]; unfold f_turn2; rw [eL]; exact (if_pos c118).symm
                obtain ⟨hsm, w2, hj2⟩ := f_turn_j hNB hjB hnn
                have hf2 := f_turn_f f0 (hf0 := hNB) hjB hnn
                rw [eT] at I
                unfold f_loop at hT
                rw [if_neg (fun q => c35 q.2), if_neg c35, ← p39, if_pos c46] at hT
                exact ih (f_turn S39) w2 y (hNB.sm hsm) hj2 hf2 hT H locs ls I (lv_sub hl [2, 3, 4, 5] rfl)
          · refine lv_iconst (v := 0) hx hb dX3_gives_49 (by decide) ?_
            unfold f_loop at hT
            rw [if_neg (fun q => c35 q.2), if_neg c35, ← p39, if_neg c46] at hT
            exact m_zret hx hb hr hlocks I rfl dX3_gives_50 ⟨congrArg Prod.fst (Option.some.inj hT), congrArg Prod.snd (Option.some.inj hT)⟩
      · refine lv_aload_n hx hb dX3_gives_24 rfl (lv_at hl 1 rfl) ?_
        refine m_get16 hx hb hts hin hown I L95 dX3_gives_25 (x := S.1 16) rfl ?_
        refine lv_if_le (tgt := 139) hx hb dX3_gives_28 (by decide) (fun c28 => ?_) (fun c28 => ?_)
        · refine lv_iconst (v := 1) hx hb dX3_gives_139 (by decide) ?_
          unfold f_loop at hT
          rw [if_pos ⟨c21, c28⟩] at hT
          exact m_zret hx hb hr hlocks I rfl dX3_gives_140 ⟨congrArg Prod.fst (Option.some.inj hT), congrArg Prod.snd (Option.some.inj hT)⟩
        · refine lv_aload_n hx hb dX3_gives_31 rfl (lv_at hl 1 rfl) ?_
          refine m_get16 hx hb hts hin hown I L95 dX3_gives_32 (x := S.1 16) rfl ?_
          refine lv_if_le (tgt := 51) hx hb dX3_gives_35 (by decide) (fun h => absurd h c28) (fun _ => ?_)
          refine lv_aload_n hx hb dX3_gives_38 rfl (lv_at hl 1 rfl) ?_
          refine m_callv (rest := []) ⟨hx, hb, hml, hown, hts⟩ (c_X3_recovers l D o ad cA S N w 140 hN hj (by have := hj.2.1.choose_spec; split <;> omega)) (cwV 0 hts gX3_gives_X3_recovers rfl rfl rfl (by decide +kernel) ⟨Nat.le_of_ble_eq_true rfl, Nat.le_of_ble_eq_true rfl⟩) I rfl hl.1 rfl (Nat.le_of_ble_eq_true rfl) dX3_gives_39 ⟨Nat.le_refl _, Nat.le_refl _⟩ (fun S39 H locs p39 I => ?_)
          refine lv_aload_n hx hb dX3_gives_42 rfl (lv_at hl 1 rfl) ?_
          refine m_get16 hx hb hts hin hown I L95 dX3_gives_43 (x := S39.1 16) rfl ?_
          refine lv_if_le (tgt := 51) hx hb dX3_gives_46 (by decide) (fun c46 => ?_) (fun c46 => ?_)
          · obtain ⟨w9, hjB, gB⟩ := f_rec_j 140 S w hN hj
            have gB := gB c28 (by have := hj.2.1.choose_spec; split <;> omega)
            rw [← p39] at hjB gB
            have hNB : wf S39 N := by rw [p39]; exact hN.sm (f_rec_sm 140 S)
            have gB := gB c46
            have hnn := gB.1
            have f0 := gB.2
            obtain ⟨u, rfl, et, eu, hu, hu1, hu64, k, hk, ek, hk40⟩ := j_top hjB hNB.1 hnn
            have ef : f_top S39 = u := et
            have er : f_rul S39 = k := by unfold f_rul; rw [ef, ek, nI_clamp (by omega)]
            refine lv_aload_n hx hb dX3_gives_51 rfl (lv_at hl 1 rfl) ?_
            refine m_get12 hx hb hts hin hown I L40 dX3_gives_52 ?_
            refine lv_aload_n hx hb dX3_gives_55 rfl (lv_at hl 1 rfl) ?_
            refine m_get11 hx hb hts hin hown I L92 dX3_gives_56 (x := S39.1 11) rfl ?_
            refine lv_iconst (v := 1) hx hb dX3_gives_59 (by decide) ?_
            refine lv_isub hx hb dX3_gives_60 ?_
            refine m_ald12 hx hb I hu dX3_gives_61 (x := S39.2 12 u) (by rw [et] <;> rfl) ?_
            refine lv_istore (lv' := [(4, .int (S39.2 12 u)), (3, .int y), (0, .ref o), (1, .int r), (2, .int x)]) hx hb dX3_gives_62 hl (by decide) rfl (fun ls hl => ?_)
            refine lv_iconst (v := 1) hx hb dX3_gives_64 (by decide) ?_
            refine lv_istore (lv' := [(5, .int 1), (4, .int (S39.2 12 u)), (3, .int y), (0, .ref o), (1, .int r), (2, .int x)]) hx hb dX3_gives_65 hl (by decide) rfl (fun ls hl => ?_)
            refine lv_aload_n hx hb dX3_gives_67 rfl (lv_at hl 3 rfl) ?_
            refine m_get5 hx hb hts hin hown I L22 dX3_gives_68 ?_
            refine lv_iload hx hb dX3_gives_71 (lv_at hl 1 rfl) ?_
            refine m_ald5 hx hb I (by rw [ek]; exact vp_in_nI hk40 (by decide)) dX3_gives_73 (x := S39.2 5 k) (by rw [ek, nI_clamp (show k < 2 ^ 31 by omega)] <;> rfl) ?_
            refine m_asks ⟨hx, hb, hml, hown, hts⟩ gX3_gives_X3_asks ⟨Nat.le_of_ble_eq_true rfl, Nat.le_of_ble_eq_true rfl⟩ ⟨Nat.le_refl _, Nat.le_refl _⟩ hl.1 (Nat.le_of_ble_eq_true rfl) dX3_gives_74 (fun h74 => ?_) (fun h74 => ?_)
            · refine lv_if_eq (tgt := 93) hx hb dX3_gives_77 (by decide) (fun h => absurd h (by decide)) (fun _ => ?_)
              refine lv_aload_n hx hb dX3_gives_80 rfl (lv_at hl 3 rfl) ?_
              refine lv_aload_n hx hb dX3_gives_81 rfl (lv_at hl 3 rfl) ?_
              refine m_get26 hx hb hts hin hown I L109 dX3_gives_82 (x := S39.1 26) rfl ?_
              refine m_calli (rest := []) ⟨hx, hb, hml, hown, hts⟩ (c_X3_goesOn l D o ad cA S39 (S39.1 26) hu hu1 (by rw [et, ek]; exact vp_in_nI hk40 (by decide))) (cwV 1 hts gX3_gives_X3_goesOn rfl rfl rfl (by decide +kernel) ⟨Nat.le_of_ble_eq_true rfl, Nat.le_of_ble_eq_true rfl⟩) I rfl hl.1 rfl (Nat.le_of_ble_eq_true rfl) dX3_gives_85 ⟨Nat.le_refl _, Nat.le_refl _⟩ (fun r85 S85 H locs p85 I => ?_)
              refine lv_istore (lv' := [(5, .int r85), (4, .int (S39.2 12 u)), (3, .int y), (0, .ref o), (1, .int r), (2, .int x)]) hx hb dX3_gives_88 hl (by decide) rfl (fun ls hl => ?_)
              refine lv_goto (tgt := 114) hx hb dX3_gives_90 (by decide) ?_
              refine lv_aload_n hx hb dX3_gives_114 rfl (lv_at hl 3 rfl) ?_
              refine m_get16 hx hb hts hin hown I L95 dX3_gives_115 (x := S85.1 16) rfl ?_
              refine lv_if_ne (tgt := 136) hx hb dX3_gives_118 (by decide) (fun c118 => ?_) (fun c118 => ?_)
              · refine lv_goto (tgt := 17) hx hb dX3_gives_136 (by decide) ?_
                have eT : S85 = f_turn S39 := by unfold f_turn; rw [er, if_pos h74]; unfold f_turn1; rw [← p85]; exact (if_neg (fun q => c118 q.1)).symm
                obtain ⟨hsm, w2, hj2⟩ := f_turn_j hNB hjB hnn
                have hf2 := f_turn_f f0 (hf0 := hNB) hjB hnn
                rw [eT] at I
                unfold f_loop at hT
                rw [if_neg (fun q => c28 q.2), if_neg c28, ← p39, if_pos c46] at hT
                exact ih (f_turn S39) w2 y (hNB.sm hsm) hj2 hf2 hT H locs ls I (lv_sub hl [2, 3, 4, 5] rfl)
              · refine lv_iload hx hb dX3_gives_121 (lv_at hl 0 rfl) ?_
                refine lv_if_eq (tgt := 136) hx hb dX3_gives_123 (by decide) (fun c123 => ?_) (fun c123 => ?_)
                · refine lv_goto (tgt := 17) hx hb dX3_gives_136 (by decide) ?_
                  have eT : S85 = f_turn S39 := by unfold f_turn; rw [er, if_pos h74]; unfold f_turn1; rw [← p85]; exact (if_neg (fun q => q.2 c123)).symm
                  obtain ⟨hsm, w2, hj2⟩ := f_turn_j hNB hjB hnn
                  have hf2 := f_turn_f f0 (hf0 := hNB) hjB hnn
                  rw [eT] at I
                  unfold f_loop at hT
                  rw [if_neg (fun q => c28 q.2), if_neg c28, ← p39, if_pos c46] at hT
                  exact ih (f_turn S39) w2 y (hNB.sm hsm) hj2 hf2 hT H locs ls I (lv_sub hl [2, 3, 4, 5] rfl)
                · refine lv_aload_n hx hb dX3_gives_126 rfl (lv_at hl 3 rfl) ?_
                  refine lv_dup hx hb dX3_gives_127 rfl ?_
                  refine m_get11 hx hb hts hin hown I L92 dX3_gives_128 (x := S85.1 11) rfl ?_
                  refine lv_iconst (v := 1) hx hb dX3_gives_131 (by decide) ?_
                  refine lv_isub hx hb dX3_gives_132 ?_
                  refine m_put11 hx hb hts hin hown I L92 dX3_gives_133 (fun H locs I => ?_)
                  refine lv_goto (tgt := 17) hx hb dX3_gives_136 (by decide) ?_
                  have eT : (sF S85 11 ((S85.1 11) - 1)) = f_turn S39 := by unfold f_turn; rw [er, if_pos h74]; unfold f_turn1; rw [← p85]; exact (if_pos ⟨c118, c123⟩).symm
                  obtain ⟨hsm, w2, hj2⟩ := f_turn_j hNB hjB hnn
                  have hf2 := f_turn_f f0 (hf0 := hNB) hjB hnn
                  rw [eT] at I
                  unfold f_loop at hT
                  rw [if_neg (fun q => c28 q.2), if_neg c28, ← p39, if_pos c46] at hT
                  exact ih (f_turn S39) w2 y (hNB.sm hsm) hj2 hf2 hT H locs ls I (lv_sub hl [2, 3, 4, 5] rfl)
            · refine lv_if_eq (tgt := 93) hx hb dX3_gives_77 (by decide) (fun _ => ?_) (fun h => absurd h (by decide))
              refine lv_aload_n hx hb dX3_gives_93 rfl (lv_at hl 3 rfl) ?_
              refine lv_aload_n hx hb dX3_gives_94 rfl (lv_at hl 3 rfl) ?_
              refine lv_iload hx hb dX3_gives_95 (lv_at hl 1 rfl) ?_
              refine lv_aload_n hx hb dX3_gives_97 rfl (lv_at hl 3 rfl) ?_
              refine m_get13 hx hb hts hin hown I L43 dX3_gives_98 ?_
              refine lv_aload_n hx hb dX3_gives_101 rfl (lv_at hl 3 rfl) ?_
              refine m_get11 hx hb hts hin hown I L92 dX3_gives_102 (x := S39.1 11) rfl ?_
              refine lv_iconst (v := 1) hx hb dX3_gives_105 (by decide) ?_
              refine lv_isub hx hb dX3_gives_106 ?_
              refine m_ald13 hx hb I hu dX3_gives_107 (x := S39.2 13 u) (by rw [et] <;> rfl) ?_
              refine m_calli (rest := [.ref o]) ⟨hx, hb, hml, hown, hts⟩ (c_X3_given l D o ad cA S39 (S39.2 12 u) (S39.2 13 u) (by rw [ek]; exact hNB.g hk)) (cwV 2 hts gX3_gives_X3_given rfl rfl rfl (by decide +kernel) ⟨Nat.le_of_ble_eq_true rfl, Nat.le_of_ble_eq_true rfl⟩) I rfl hl.1 rfl (Nat.le_of_ble_eq_true rfl) dX3_gives_108 ⟨Nat.le_refl _, Nat.le_refl _⟩ (fun r108 S108 H locs p108 I => ?_)
              refine m_put26 hx hb hts hin hown I L109 dX3_gives_111 (fun H locs I => ?_)
              refine lv_aload_n hx hb dX3_gives_114 rfl (lv_at hl 3 rfl) ?_
              refine m_get16 hx hb hts hin hown I L95 dX3_gives_115 (x := S108.1 16) rfl ?_
              refine lv_if_ne (tgt := 136) hx hb dX3_gives_118 (by decide) (fun c118 => ?_) (fun c118 => ?_)
              · refine lv_goto (tgt := 17) hx hb dX3_gives_136 (by decide) ?_
                have eL : f_leaf S39 = sF S108 26 r108 := by unfold f_leaf; rw [ef, ← p108]
                have eT : (sF S108 26 r108) = f_turn S39 := by unfold f_turn; rw [er, if_neg h74]; unfold f_turn2; rw [eL]; exact (if_neg c118).symm
                obtain ⟨hsm, w2, hj2⟩ := f_turn_j hNB hjB hnn
                have hf2 := f_turn_f f0 (hf0 := hNB) hjB hnn
                rw [eT] at I
                unfold f_loop at hT
                rw [if_neg (fun q => c28 q.2), if_neg c28, ← p39, if_pos c46] at hT
                exact ih (f_turn S39) w2 y (hNB.sm hsm) hj2 hf2 hT H locs ls I (lv_sub hl [2, 3, 4, 5] rfl)
              · refine lv_iload hx hb dX3_gives_121 (lv_at hl 0 rfl) ?_
                refine lv_if_eq (tgt := 136) hx hb dX3_gives_123 (by decide) (fun h => absurd h (by decide)) (fun _ => ?_)
                refine lv_aload_n hx hb dX3_gives_126 rfl (lv_at hl 3 rfl) ?_
                refine lv_dup hx hb dX3_gives_127 rfl ?_
                refine m_get11 hx hb hts hin hown I L92 dX3_gives_128 (x := S108.1 11) rfl ?_
                refine lv_iconst (v := 1) hx hb dX3_gives_131 (by decide) ?_
                refine lv_isub hx hb dX3_gives_132 ?_
                refine m_put11 hx hb hts hin hown I L92 dX3_gives_133 (fun H locs I => ?_)
                refine lv_goto (tgt := 17) hx hb dX3_gives_136 (by decide) ?_
                have eL : f_leaf S39 = sF S108 26 r108 := by unfold f_leaf; rw [ef, ← p108]
                have eT : (sF (sF S108 26 r108) 11 ((S108.1 11) - 1)) = f_turn S39 := by unfold f_turn; rw [er, if_neg h74]; unfold f_turn2; rw [eL]; exact (if_pos c118).symm
                obtain ⟨hsm, w2, hj2⟩ := f_turn_j hNB hjB hnn
                have hf2 := f_turn_f f0 (hf0 := hNB) hjB hnn
                rw [eT] at I
                unfold f_loop at hT
                rw [if_neg (fun q => c28 q.2), if_neg c28, ← p39, if_pos c46] at hT
                exact ih (f_turn S39) w2 y (hNB.sm hsm) hj2 hf2 hT H locs ls I (lv_sub hl [2, 3, 4, 5] rfl)
          · refine lv_iconst (v := 0) hx hb dX3_gives_49 (by decide) ?_
            unfold f_loop at hT
            rw [if_neg (fun q => c28 q.2), if_neg c28, ← p39, if_neg c46] at hT
            exact m_zret hx hb hr hlocks I rfl dX3_gives_50 ⟨congrArg Prod.fst (Option.some.inj hT), congrArg Prod.snd (Option.some.inj hT)⟩
  refine lv_aload_n hx hb dX3_gives_0 rfl (lv_at hl 0 rfl) ?_
  refine lv_iconst (v := 0) hx hb dX3_gives_1 (by decide) ?_
  refine m_put11 hx hb hts hin hown I L92 dX3_gives_2 (fun H locs I => ?_)
  refine lv_aload_n hx hb dX3_gives_5 rfl (lv_at hl 0 rfl) ?_
  refine lv_iconst (v := 0) hx hb dX3_gives_6 (by decide) ?_
  refine m_put16 hx hb hts hin hown I L95 dX3_gives_7 (fun H locs I => ?_)
  refine lv_aload_n hx hb dX3_gives_10 rfl (lv_at hl 0 rfl) ?_
  refine lv_iload_n hx hb dX3_gives_11 rfl (lv_at hl 1 rfl) ?_
  refine lv_iload_n hx hb dX3_gives_12 rfl (lv_at hl 2 rfl) ?_
  refine m_calli (rest := []) ⟨hx, hb, hml, hown, hts⟩ (c_X3_begins l D o ad cA (sF (sF S0 11 0) 16 0) r x ((vp_in_nI (n := 0) (by decide) (by decide)))) (cwV 2 hts gX3_gives_X3_begins rfl rfl rfl (by decide +kernel) ⟨Nat.le_of_ble_eq_true rfl, Nat.le_of_ble_eq_true rfl⟩) I rfl hl.1 rfl (Nat.le_of_ble_eq_true rfl) dX3_gives_13 ⟨Nat.le_refl _, Nat.le_refl _⟩ (fun r13 S13 H locs p13 I => ?_)
  refine lv_istore_n (lv' := [(3, .int r13), (0, .ref o), (1, .int r), (2, .int x)]) hx hb dX3_gives_16 rfl hl (by decide) rfl (fun ls hl => ?_)
  have e13 : S13 = (f_begins r x (sF (sF S0 11 0) 16 0)).2 := congrArg Prod.snd p13
  rw [← e13] at hT
  obtain ⟨w2, hj2⟩ : ∃ w2, j_st S13 w2 N := by rcases j_begins (S := sF (sF S0 11 0) 16 0) (x := x) (w := 0) (n := N) ⟨rfl, hst, fun t ht => by omega⟩ hr0 with ⟨-, -, jb⟩ | ⟨-, -, jb⟩ <;> exact ⟨_, by rw [e13]; exact jb⟩
  exact LG n S13 w2 r13 (by rw [e13]; exact hN0.sm (e_sm.tr ⟨rfl, rfl, rfl, rfl, rfl, rfl, rfl, rfl, rfl⟩ (f_begins_sm _ _ _))) hj2 (by rw [e13]; exact f_begins_f _ _ _ rfl) hT _ _ ls I (lv_sub hl [0, 1, 2, 3] rfl)

