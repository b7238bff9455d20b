theorem nI_ub {j n : Nat} (hj : j < 2 ^ 31) (hn : n < 2 ^ 31) (h : ¬ nI n ≤ nI j) : j < n := Nat.not_le.mp (fun q => h (nI_le q hj))
theorem nI_lb {j n : Nat} (hj : j < 2 ^ 31) (hn : n < 2 ^ 31) (h : nI n ≤ nI j) : n ≤ j := (nI_leI hn hj).mp h
/-- which of the 48 rows of the reference are held -/
def f_held1 (S : tr_S) (a : Int32) (j : Nat) : Prop := ∃ k, k < j ∧ S.2 1 k = a
def f_held2 (S : tr_S) (a : Int32) (j : Nat) : Prop := ∃ k, k < j ∧ S.2 5 k = 6 ∧ S.2 9 k = a
def f_held (S : tr_S) (a : Int32) : Prop := f_held1 S a 4 ∨ f_held2 S a (S.1 4).toNatClampNeg
set_option maxHeartbeats 4000000 in
set_option maxRecDepth 100000 in
theorem c_X3_isHeld (l : Launch) (D : va_G) (o : Nat) (ad : Nat → Nat) (cA : ClassId) (S0 : tr_S) (a : Int32) (n : Nat) (hn : S0.1 4 = nI n) (hn40 : n ≤ 40) : m_Mi l yX3_isHeld wsX3_isHeld { frames := 0, cells := 0, slots := 0, locals := 0 } [.int a] D o ad cA S0 (fun x S => S = S0 ∧ ((f_held S0 a ∧ x = 1) ∨ (¬ f_held S0 a ∧ x = 0))) := by
  refine Met.ofW (cc := cX3_isHeld) (maxL := 4) (ret := (some .boolean)) (by decide) rfl ?_
  intro p e s m args below meth c s₁ B hml hv
  obtain ⟨rfl, hB⟩ := hv
  have hx := B.exec
  have hb := B.bytes
  have hr := B.returns
  have hts := atoms_spec (ws := wsX3_isHeld) B.pre
  have hown : s.vm.findClass RX3 = some m.cls := findClass_of_methodNamed B.named
  have hlocks := B.notSynchronized
  have I := m_I.of hB
  have hin : ∀ w ∈ wsX30, w ∈ wsX3_isHeld := fun _ h => List.mem_cons_of_mem _ (List.mem_append_right _ h)
  have L13 := hts (.fieldLink RX3 13 "TollRulesModel" "rowOf" "[I") (by decide +kernel)
  have L22 := hts (.fieldLink RX3 22 "TollRulesModel" "kind" "[I") (by decide +kernel)
  have L34 := hts (.fieldLink RX3 34 "TollRulesModel" "keptRow" "[I") (by decide +kernel)
  have L65 := hts (.fieldLink RX3 65 "TollRulesModel" "rules" "I") (by decide +kernel)
  have hl := lv_entry ([.ref o, .int a]) (n := 4) (Nat.le_of_ble_eq_true rfl)
  rw [lg_entry_eq]
  generalize (lg_sl ([.ref o, .int a]) ++ List.replicate (4 - (lg_sl ([.ref o, .int a])).length) Slot.unset).toArray = ls at hl ⊢
  have hl : lv_has ls 4 [(0, .ref o), (1, .int a)] := hl
  have L2 : ∀ (d j : Nat) (b : Int32), n - j < d → j ≤ n → (((f_held1 S0 a 4 ∨ f_held2 S0 a j) ∧ b = 1) ∨ (¬ (f_held1 S0 a 4 ∨ f_held2 S0 a j) ∧ b = 0)) → ∀ (H : Heap) (locs : List Loc) (ls : Array Slot), m_I D o ad cA S0 s s.heap H locs → lv_has ls 4 [(3, .int (nI j)), (2, .int b), (0, .ref o), (1, .int a)] → W p l e (headSpec wsX3_isHeld { frames := 0, cells := 0, slots := 0, locals := 0 }).room s m (([.ref o, .int a] : List Value).toArray) below meth c H locs 0 0 (MQ below (va_Qi (fun x S => S = S0 ∧ ((f_held S0 a ∧ x = 1) ∨ (¬ f_held S0 a ∧ x = 0))) (m_B D o ad cA) (m_A o ad)) (([.ref o, .int a] : List Value).toArray) s 0 0 (m_A o ad)) (F0 m 37 ls []) := by
    intro d
    induction d with
    | zero => intro j b hj; omega
    | succ d ih =>
      intro j b hj hjn hb2 H locs ls I hl
      refine lv_iload_n hx hb dX3_isHeld_37 rfl (lv_at hl 0 rfl) ?_
      refine lv_aload_n hx hb dX3_isHeld_38 rfl (lv_at hl 2 rfl) ?_
      refine m_get4 hx hb hts hin hown I L65 dX3_isHeld_39 (x := S0.1 4) rfl ?_
      refine lv_icmp_ge (tgt := 82) hx hb dX3_isHeld_42 (by decide) (fun c42 => ?_) (fun c42 => ?_)
      · refine lv_iload_n hx hb dX3_isHeld_82 rfl (lv_at hl 1 rfl) ?_
        have hj := nI_lb (n := n) (by omega) (by omega) (hn ▸ c42)
        obtain rfl : j = n := by omega
        rcases hb2 with ⟨q, rfl⟩ | ⟨q, rfl⟩
        · exact m_zret hx hb hr hlocks I rfl dX3_isHeld_83 ⟨rfl, Or.inl ⟨by unfold f_held; rw [hn, nI_clamp (by omega)]; exact q, rfl⟩⟩
        · exact m_zret hx hb hr hlocks I rfl dX3_isHeld_83 ⟨rfl, Or.inr ⟨by unfold f_held; rw [hn, nI_clamp (by omega)]; exact q, rfl⟩⟩
      · refine lv_iload_n hx hb dX3_isHeld_45 rfl (lv_at hl 1 rfl) ?_
        refine lv_if_ne (tgt := 70) hx hb dX3_isHeld_46 (by decide) (fun c46 => ?_) (fun c46 => ?_)
        · refine lv_iconst (v := 1) hx hb dX3_isHeld_70 (by decide) ?_
          refine lv_goto (tgt := 75) hx hb dX3_isHeld_71 (by decide) ?_
          refine lv_istore_n (lv' := [(2, .int 1), (3, .int (nI j)), (0, .ref o), (1, .int a)]) hx hb dX3_isHeld_75 rfl hl (by decide) rfl (fun ls hl => ?_)
          refine lv_iinc (v := (nI j) + 1) (lv' := [(3, .int ((nI j) + 1)), (2, .int 1), (0, .ref o), (1, .int a)]) hx hb dX3_isHeld_76 hl (k := 1) rfl rfl (by decide) rfl (fun ls hl => ?_)
          refine lv_goto (tgt := 37) hx hb dX3_isHeld_79 (by decide) ?_
          have hj := nI_ub (n := n) (by omega) (by omega) (hn ▸ c42)
          have hl := lv_sub hl [0, 1, 2, 3] rfl
          rw [nI_1] at hl
          exact ih (j + 1) 1 (by omega) (by omega) (Or.inl ⟨by rcases hb2 with ⟨q, -⟩ | ⟨-, q⟩; exact Or.elim q Or.inl (fun ⟨i, h1, h2⟩ => Or.inr ⟨i, by omega, h2⟩); exact absurd q c46, rfl⟩) H locs ls I hl
        · refine lv_aload_n hx hb dX3_isHeld_49 rfl (lv_at hl 2 rfl) ?_
          refine m_get5 hx hb hts hin hown I L22 dX3_isHeld_50 ?_
          refine lv_iload_n hx hb dX3_isHeld_53 rfl (lv_at hl 0 rfl) ?_
          refine m_ald5 hx hb I (vp_in_nI (Nat.lt_of_lt_of_le (nI_ub (n := n) (by omega) (by omega) (hn ▸ c42)) hn40) (by decide)) dX3_isHeld_54 (x := S0.2 5 j) (by rw [nI_clamp (show j < 2 ^ 31 by omega)] <;> rfl) ?_
          refine lv_bipush (v := 6) hx hb dX3_isHeld_55 (by decide) ?_
          refine lv_icmp_ne (tgt := 74) hx hb dX3_isHeld_57 (by decide) (fun c57 => ?_) (fun c57 => ?_)
          · refine lv_iconst (v := 0) hx hb dX3_isHeld_74 (by decide) ?_
            refine lv_istore_n (lv' := [(2, .int 0), (3, .int (nI j)), (0, .ref o), (1, .int a)]) hx hb dX3_isHeld_75 rfl hl (by decide) rfl (fun ls hl => ?_)
            refine lv_iinc (v := (nI j) + 1) (lv' := [(3, .int ((nI j) + 1)), (2, .int 0), (0, .ref o), (1, .int a)]) hx hb dX3_isHeld_76 hl (k := 1) rfl rfl (by decide) rfl (fun ls hl => ?_)
            refine lv_goto (tgt := 37) hx hb dX3_isHeld_79 (by decide) ?_
            have hj := nI_ub (n := n) (by omega) (by omega) (hn ▸ c42)
            have hl := lv_sub hl [0, 1, 2, 3] rfl
            rw [nI_1] at hl
            exact ih (j + 1) 0 (by omega) (by omega) (Or.inr ⟨fun q => by rcases hb2 with ⟨-, h⟩ | ⟨h, -⟩; exact absurd (h.symm.trans c46) (by decide); exact q.elim (fun q => h (Or.inl q)) (fun ⟨i, h1, h2, h3⟩ => by by_cases hi : i = j; subst hi; exact absurd h2 c57; exact h (Or.inr ⟨i, by omega, h2, h3⟩)), rfl⟩) H locs ls I hl
          · refine lv_aload_n hx hb dX3_isHeld_60 rfl (lv_at hl 2 rfl) ?_
            refine m_get9 hx hb hts hin hown I L34 dX3_isHeld_61 ?_
            refine lv_iload_n hx hb dX3_isHeld_64 rfl (lv_at hl 0 rfl) ?_
            refine m_ald9 hx hb I (vp_in_nI (Nat.lt_of_lt_of_le (nI_ub (n := n) (by omega) (by omega) (hn ▸ c42)) hn40) (by decide)) dX3_isHeld_65 (x := S0.2 9 j) (by rw [nI_clamp (show j < 2 ^ 31 by omega)] <;> rfl) ?_
            refine lv_iload_n hx hb dX3_isHeld_66 rfl (lv_at hl 3 rfl) ?_
            refine lv_icmp_ne (tgt := 74) hx hb dX3_isHeld_67 (by decide) (fun c67 => ?_) (fun c67 => ?_)
            · refine lv_iconst (v := 0) hx hb dX3_isHeld_74 (by decide) ?_
              refine lv_istore_n (lv' := [(2, .int 0), (3, .int (nI j)), (0, .ref o), (1, .int a)]) hx hb dX3_isHeld_75 rfl hl (by decide) rfl (fun ls hl => ?_)
              refine lv_iinc (v := (nI j) + 1) (lv' := [(3, .int ((nI j) + 1)), (2, .int 0), (0, .ref o), (1, .int a)]) hx hb dX3_isHeld_76 hl (k := 1) rfl rfl (by decide) rfl (fun ls hl => ?_)
              refine lv_goto (tgt := 37) hx hb dX3_isHeld_79 (by decide) ?_
              have hj := nI_ub (n := n) (by omega) (by omega) (hn ▸ c42)
              have hl := lv_sub hl [0, 1, 2, 3] rfl
              rw [nI_1] at hl
              exact ih (j + 1) 0 (by omega) (by omega) (Or.inr ⟨fun q => by rcases hb2 with ⟨-, h⟩ | ⟨h, -⟩; exact absurd (h.symm.trans c46) (by decide); exact q.elim (fun q => h (Or.inl q)) (fun ⟨i, h1, h2, h3⟩ => by by_cases hi : i = j; subst hi; exact absurd h3 c67; exact h (Or.inr ⟨i, by omega, h2, h3⟩)), rfl⟩) H locs ls I hl
            · refine lv_iconst (v := 1) hx hb dX3_isHeld_70 (by decide) ?_
              refine lv_goto (tgt := 75) hx hb dX3_isHeld_71 (by decide) ?_
              refine lv_istore_n (lv' := [(2, .int 1), (3, .int (nI j)), (0, .ref o), (1, .int a)]) hx hb dX3_isHeld_75 rfl hl (by decide) rfl (fun ls hl => ?_)
              refine lv_iinc (v := (nI j) + 1) (lv' := [(3, .int ((nI j) + 1)), (2, .int 1), (0, .ref o), (1, .int a)]) hx hb dX3_isHeld_76 hl (k := 1) rfl rfl (by decide) rfl (fun ls hl => ?_)
              refine lv_goto (tgt := 37) hx hb dX3_isHeld_79 (by decide) ?_
              have hj := nI_ub (n := n) (by omega) (by omega) (hn ▸ c42)
              have hl := lv_sub hl [0, 1, 2, 3] rfl
              rw [nI_1] at hl
              exact ih (j + 1) 1 (by omega) (by omega) (Or.inl ⟨Or.inr ⟨j, by omega, c57, c67⟩, rfl⟩) H locs ls I hl
  have L1 : ∀ (d j : Nat) (b : Int32), 4 - j < d → j ≤ 4 → ((f_held1 S0 a j ∧ b = 1) ∨ (¬ f_held1 S0 a j ∧ b = 0)) → ∀ (H : Heap) (locs : List Loc) (ls : Array Slot), m_I D o ad cA S0 s s.heap H locs → lv_has ls 4 [(3, .int (nI j)), (2, .int b), (0, .ref o), (1, .int a)] → W p l e (headSpec wsX3_isHeld { frames := 0, cells := 0, slots := 0, locals := 0 }).room s m (([.ref o, .int a] : List Value).toArray) below meth c H locs 0 0 (MQ below (va_Qi (fun x S => S = S0 ∧ ((f_held S0 a ∧ x = 1) ∨ (¬ f_held S0 a ∧ x = 0))) (m_B D o ad cA) (m_A o ad)) (([.ref o, .int a] : List Value).toArray) s 0 0 (m_A o ad)) (F0 m 4 ls []) := by
    intro d
    induction d with
    | zero => intro j b hj; omega
    | succ d ih =>
      intro j b hj hjn hb1 H locs ls I hl
      refine lv_iload_n hx hb dX3_isHeld_4 rfl (lv_at hl 0 rfl) ?_
      refine lv_iconst (v := 4) hx hb dX3_isHeld_5 (by decide) ?_
      refine lv_icmp_ge (tgt := 35) hx hb dX3_isHeld_6 (by decide) (fun c6 => ?_) (fun c6 => ?_)
      · refine lv_iconst (v := 0) hx hb dX3_isHeld_35 (by decide) ?_
        refine lv_istore_n (lv' := [(3, .int 0), (2, .int b), (0, .ref o), (1, .int a)]) hx hb dX3_isHeld_36 rfl hl (by decide) rfl (fun ls hl => ?_)
        have hj := nI_lb (n := 4) (by omega) (by omega) c6
        rw [show j = 4 by omega] at hb1
        have hl := lv_sub hl [0, 1, 2, 3] rfl
        exact L2 (n + 1) 0 b (by omega) (by omega) (by rcases hb1 with ⟨q, rfl⟩ | ⟨q, rfl⟩; exact Or.inl ⟨Or.inl q, rfl⟩; exact Or.inr ⟨fun h => h.elim q (fun ⟨i, h1, _⟩ => by omega), rfl⟩) H locs ls I hl
      · refine lv_iload_n hx hb dX3_isHeld_9 rfl (lv_at hl 1 rfl) ?_
        refine lv_if_ne (tgt := 23) hx hb dX3_isHeld_10 (by decide) (fun c10 => ?_) (fun c10 => ?_)
        · refine lv_iconst (v := 1) hx hb dX3_isHeld_23 (by decide) ?_
          refine lv_goto (tgt := 28) hx hb dX3_isHeld_24 (by decide) ?_
          refine lv_istore_n (lv' := [(2, .int 1), (3, .int (nI j)), (0, .ref o), (1, .int a)]) hx hb dX3_isHeld_28 rfl hl (by decide) rfl (fun ls hl => ?_)
          refine lv_iinc (v := (nI j) + 1) (lv' := [(3, .int ((nI j) + 1)), (2, .int 1), (0, .ref o), (1, .int a)]) hx hb dX3_isHeld_29 hl (k := 1) rfl rfl (by decide) rfl (fun ls hl => ?_)
          refine lv_goto (tgt := 4) hx hb dX3_isHeld_32 (by decide) ?_
          have hj := nI_ub (n := 4) (by omega) (by omega) c6
          have hl := lv_sub hl [0, 1, 2, 3] rfl
          rw [nI_1] at hl
          exact ih (j + 1) 1 (by omega) (by omega) (Or.inl ⟨by rcases hb1 with ⟨⟨i, h1, h2⟩, -⟩ | ⟨-, q⟩; exact ⟨i, by omega, h2⟩; exact absurd q c10, rfl⟩) H locs ls I hl
        · refine lv_aload_n hx hb dX3_isHeld_13 rfl (lv_at hl 2 rfl) ?_
          refine m_get1 hx hb hts hin hown I L13 dX3_isHeld_14 ?_
          refine lv_iload_n hx hb dX3_isHeld_17 rfl (lv_at hl 0 rfl) ?_
          refine m_ald1 hx hb I (vp_in_nI (nI_ub (n := 4) (by omega) (by decide) c6) (by decide)) dX3_isHeld_18 (x := S0.2 1 j) (by rw [nI_clamp (show j < 2 ^ 31 by omega)] <;> rfl) ?_
          refine lv_iload_n hx hb dX3_isHeld_19 rfl (lv_at hl 3 rfl) ?_
          refine lv_icmp_ne (tgt := 27) hx hb dX3_isHeld_20 (by decide) (fun c20 => ?_) (fun c20 => ?_)
          · refine lv_iconst (v := 0) hx hb dX3_isHeld_27 (by decide) ?_
            refine lv_istore_n (lv' := [(2, .int 0), (3, .int (nI j)), (0, .ref o), (1, .int a)]) hx hb dX3_isHeld_28 rfl hl (by decide) rfl (fun ls hl => ?_)
            refine lv_iinc (v := (nI j) + 1) (lv' := [(3, .int ((nI j) + 1)), (2, .int 0), (0, .ref o), (1, .int a)]) hx hb dX3_isHeld_29 hl (k := 1) rfl rfl (by decide) rfl (fun ls hl => ?_)
            refine lv_goto (tgt := 4) hx hb dX3_isHeld_32 (by decide) ?_
            have hj := nI_ub (n := 4) (by omega) (by omega) c6
            have hl := lv_sub hl [0, 1, 2, 3] rfl
            rw [nI_1] at hl
            exact ih (j + 1) 0 (by omega) (by omega) (Or.inr ⟨fun ⟨i, h1, h2⟩ => by rcases hb1 with ⟨-, h⟩ | ⟨h, -⟩; exact absurd (h.symm.trans c10) (by decide); by_cases hi : i = j; subst hi; exact absurd h2 c20; exact h ⟨i, by omega, h2⟩, rfl⟩) H locs ls I hl
          · refine lv_iconst (v := 1) hx hb dX3_isHeld_23 (by decide) ?_
            refine lv_goto (tgt := 28) hx hb dX3_isHeld_24 (by decide) ?_
            refine lv_istore_n (lv' := [(2, .int 1), (3, .int (nI j)), (0, .ref o), (1, .int a)]) hx hb dX3_isHeld_28 rfl hl (by decide) rfl (fun ls hl => ?_)
            refine lv_iinc (v := (nI j) + 1) (lv' := [(3, .int ((nI j) + 1)), (2, .int 1), (0, .ref o), (1, .int a)]) hx hb dX3_isHeld_29 hl (k := 1) rfl rfl (by decide) rfl (fun ls hl => ?_)
            refine lv_goto (tgt := 4) hx hb dX3_isHeld_32 (by decide) ?_
            have hj := nI_ub (n := 4) (by omega) (by omega) c6
            have hl := lv_sub hl [0, 1, 2, 3] rfl
            rw [nI_1] at hl
            exact ih (j + 1) 1 (by omega) (by omega) (Or.inl ⟨⟨j, by omega, c20⟩, rfl⟩) H locs ls I hl
  refine lv_iconst (v := 0) hx hb dX3_isHeld_0 (by decide) ?_
  refine lv_istore_n (lv' := [(2, .int 0), (0, .ref o), (1, .int a)]) hx hb dX3_isHeld_1 rfl hl (by decide) rfl (fun ls hl => ?_)
  refine lv_iconst (v := 0) hx hb dX3_isHeld_2 (by decide) ?_
  refine lv_istore_n (lv' := [(3, .int 0), (2, .int 0), (0, .ref o), (1, .int a)]) hx hb dX3_isHeld_3 rfl hl (by decide) rfl (fun ls hl => ?_)
  exact L1 5 0 0 (by omega) (by omega) (Or.inr ⟨fun ⟨i, h1, _⟩ => by omega, rfl⟩) _ _ ls I (lv_sub hl [0, 1, 2, 3] rfl)

section MI5
variable {p : Program} {l : Launch} {e : Env} {R : Room} {s : State} {m : MethodId} {args : Array Value} {below : List Frame} {meth : Method} {c : Code} {H H0 : Heap} {locs : List Loc} {cells slots : Nat} {Q : State → Prop}
variable {cc : ByteArray} {pc : Nat} {ls : Array Slot} {rest st0 : List Value} {Ts : List Cond} {index nL : Nat} {own : String} {D : va_G} {o : Nat} {ad : Nat → Nat} {cA : ClassId} {S : tr_S}
theorem m_isHeld {n : Nat} (hn : S.1 4 = nI n) (hn40 : n ≤ 40) (X : CallFix p m c cc nL s args Ts own) (hG : GoodIn Ts (wsV own index RX3 yX3_isHeld wsX3_isHeld)) (hR : 0 + 1 ≤ R.frames ∧ 8 + (4 + 11) + 0 ≤ R.locals) (hf : cells ≤ R.cells ∧ slots ≤ R.slots) (I : m_I D o ad cA S s H0 H locs) (hsize : ls.size = nL) (hroom : (rest.map fun v => v.category).sum ≤ 8) {a : Int32} (hdg : decode cc pc = .ok (.invokevirtual index, 3))
    (kt : f_held S a → ∀ (H1 : Heap) (locs1 : List Loc), m_I D o ad cA S s H0 H1 locs1 → W p l e R s m args below meth c H1 locs1 cells slots Q (F0 m (pc + 3) ls (.int 1 :: rest))) (kf : ¬ f_held S a → ∀ (H1 : Heap) (locs1 : List Loc), m_I D o ad cA S s H0 H1 locs1 → W p l e R s m args below meth c H1 locs1 cells slots Q (F0 m (pc + 3) ls (.int 0 :: rest))) : W p l e R s m args below meth c H locs cells slots Q (F0 m pc ls (.int a :: .ref o :: rest)) := by
  refine m_calli (rest := rest) X (c_X3_isHeld l D o ad cA S a n hn hn40) (cwV 1 X.2.2.2.2 hG rfl rfl rfl (by decide +kernel) hR) I rfl hsize rfl hroom hdg hf (fun x S1 H1 locs1 hp I1 => ?_)
  obtain ⟨rfl, ⟨h, rfl⟩ | ⟨h, rfl⟩⟩ := hp
  · exact kt h H1 locs1 I1
  · exact kf h H1 locs1 I1
end MI5
theorem nI_10 {q k : Nat} (h : 10 * q + k < 2 ^ 31) : (10 * nI q + nI k).toNatClampNeg = 10 * q + k := by
  rw [show (10 : Int32) = nI 10 from rfl, pk_mul, nI_add, nI_clamp h]
def f_zero (q : Nat) : Nat → tr_S → tr_S
  | 0, S => S
  | n + 1, S => sA (f_zero q n S) 3 (10 * q + n) 0
def f_row (r z : Int32) (q : Nat) (S : tr_S) : Int32 × tr_S := if (0 ≤ r ∧ r ≤ 3) ∧ (-1 ≤ z ∧ z ≤ 10) then (if 0 ≤ z then (1, sA (f_zero q 10 (sA S 2 q z)) 1 r.toNatClampNeg (nI q)) else (1, sA S 1 r.toNatClampNeg (-1))) else (-1, S)
def f_share (r q : Int32) (S : tr_S) : Int32 × tr_S := if (0 ≤ r ∧ r ≤ 3) ∧ (0 ≤ q ∧ q ≤ 3) then (if 0 ≤ S.2 1 q.toNatClampNeg then 1 else 0, sA S 1 r.toNatClampNeg (S.2 1 q.toNatClampNeg)) else (-1, S)
def f_put (r i v : Int32) (S : tr_S) : Int32 × tr_S := if 0 ≤ r ∧ r ≤ 3 then (if 0 ≤ S.2 1 r.toNatClampNeg then (if 0 ≤ i ∧ i ≤ S.2 2 (S.2 1 r.toNatClampNeg).toNatClampNeg - 1 then (1, sA S 3 (10 * S.2 1 r.toNatClampNeg + i).toNatClampNeg v) else (-12, S)) else (-13, S)) else (-1, S)
def f_item (r i : Int32) (S : tr_S) : Int64 := if (0 ≤ r ∧ r ≤ 3) ∧ 0 ≤ S.2 1 r.toNatClampNeg ∧ (0 ≤ i ∧ i ≤ S.2 2 (S.2 1 r.toNatClampNeg).toNatClampNeg - 1) then (S.2 3 (10 * S.2 1 r.toNatClampNeg + i).toNatClampNeg).toInt64 else -9223372036854775808
/-- what is asked of the rows -/
def w_rows (S : tr_S) : Prop := ∀ k, k < 4 → 0 ≤ S.2 1 k → s_ok S (S.2 1 k)
/-- a row that none holds, the least -/
def w_new (S : tr_S) (q : Nat) : Prop := q < 48 ∧ ¬ f_held S (nI q) ∧ ∀ j, j < q → f_held S (nI j)
set_option maxHeartbeats 4000000 in
set_option maxRecDepth 100000 in
theorem c_X3_newRow (l : Launch) (D : va_G) (o : Nat) (ad : Nat → Nat) (cA : ClassId) (S0 : tr_S) (z : Int32) (q n : Nat) (hq : w_new S0 q) (hn : S0.1 4 = nI n) (hn40 : n ≤ 40) : m_Mi l yX3_newRow wsX3_newRow { frames := 1, cells := 0, slots := 0, locals := 23 } [.int z] D o ad cA S0 (fun x S => x = nI q ∧ S = f_zero q 10 (sA S0 2 q z)) := by
  refine Met.ofW (cc := cX3_newRow) (maxL := 4) (ret := (some .int)) (by decide) rfl ?_
  intro p e s m args below meth c s₁ B hml hv
  obtain ⟨rfl, hB⟩ := hv
  have hx := B.exec
  have hb := B.bytes
  have hr := B.returns
  have hts := atoms_spec (ws := wsX3_newRow) B.pre
  have hown : s.vm.findClass RX3 = some m.cls := findClass_of_methodNamed B.named
  have hlocks := B.notSynchronized
  have I := m_I.of hB
  have hin : ∀ w ∈ wsX30, w ∈ wsX3_newRow := fun _ h => List.mem_cons_of_mem _ (List.mem_append_right _ h)
  have L16 := hts (.fieldLink RX3 16 "TollRulesModel" "size" "[I") (by decide +kernel)
  have L19 := hts (.fieldLink RX3 19 "TollRulesModel" "item" "[I") (by decide +kernel)
  have hl := lv_entry ([.ref o, .int z]) (n := 4) (Nat.le_of_ble_eq_true rfl)
  rw [lg_entry_eq]
  generalize (lg_sl ([.ref o, .int z]) ++ List.replicate (4 - (lg_sl ([.ref o, .int z])).length) Slot.unset).toArray = ls at hl ⊢
  have hl : lv_has ls 4 [(0, .ref o), (1, .int z)] := hl
  have hq1 := hq.1
  have LB : ∀ (d k : Nat), 10 - k < d → k ≤ 10 → ∀ (H : Heap) (locs : List Loc) (ls : Array Slot), m_I D o ad cA (f_zero q k (sA S0 2 q z)) s s.heap H locs → lv_has ls 4 [(3, .int (nI k)), (2, .int (nI q)), (0, .ref o), (1, .int z)] → W p l e (headSpec wsX3_newRow { frames := 1, cells := 0, slots := 0, locals := 23 }).room s m (([.ref o, .int z] : List Value).toArray) below meth c H locs 0 0 (MQ below (va_Qi (fun x S => x = nI q ∧ S = f_zero q 10 (sA S0 2 q z)) (m_B D o ad cA) (m_A o ad)) (([.ref o, .int z] : List Value).toArray) s 0 0 (m_A o ad)) (F0 m 25 ls []) := by
    intro d
    induction d with
    | zero => intro k hk; omega
    | succ d ih =>
      intro k hk hk10 H locs ls I hl
      refine lv_iload_n hx hb dX3_newRow_25 rfl (lv_at hl 0 rfl) ?_
      refine lv_bipush (v := 10) hx hb dX3_newRow_26 (by decide) ?_
      refine lv_icmp_ge (tgt := 49) hx hb dX3_newRow_28 (by decide) (fun c28 => ?_) (fun c28 => ?_)
      · refine lv_iload_n hx hb dX3_newRow_49 rfl (lv_at hl 1 rfl) ?_
        have hk9 := nI_lb (n := 10) (by omega) (by decide) c28
        obtain rfl : k = 10 := by omega
        exact m_iret hx hb hr hlocks I dX3_newRow_50 ⟨rfl, rfl⟩
      · refine lv_aload_n hx hb dX3_newRow_31 rfl (lv_at hl 2 rfl) ?_
        refine m_get3 hx hb hts hin hown I L19 dX3_newRow_32 ?_
        refine lv_bipush (v := 10) hx hb dX3_newRow_35 (by decide) ?_
        refine lv_iload_n hx hb dX3_newRow_37 rfl (lv_at hl 1 rfl) ?_
        refine lv_imul hx hb dX3_newRow_38 ?_
        refine lv_iload_n hx hb dX3_newRow_39 rfl (lv_at hl 0 rfl) ?_
        refine lv_iadd hx hb dX3_newRow_40 ?_
        refine lv_iconst (v := 0) hx hb dX3_newRow_41 (by decide) ?_
        refine m_ast3 hx hb I (by rw [show (10 : Int32) = nI 10 from rfl, pk_mul, nI_add]; exact vp_in_nI (by have := nI_ub (n := 10) (by omega) (by decide) c28; have := hq.1; omega) (by decide)) dX3_newRow_42 (fun H locs I => ?_)
        rw [nI_10 (q := q) (k := k) (by omega)] at I
        refine lv_iinc (v := (nI k) + 1) (lv' := [(3, .int ((nI k) + 1)), (2, .int (nI q)), (0, .ref o), (1, .int z)]) hx hb dX3_newRow_43 hl (k := 0) rfl rfl (by decide) rfl (fun ls hl => ?_)
        refine lv_goto (tgt := 25) hx hb dX3_newRow_46 (by decide) ?_
        have hk9 := nI_ub (n := 10) (by omega) (by decide) c28
        have hl := lv_sub hl [0, 1, 2, 3] rfl
        rw [nI_1] at hl
        exact ih (k + 1) (by omega) (by omega) H locs ls I hl
  have LA : ∀ (d j : Nat), q - j < d → j ≤ q → ∀ (H : Heap) (locs : List Loc) (ls : Array Slot), m_I D o ad cA S0 s s.heap H locs → lv_has ls 4 [(2, .int (nI j)), (0, .ref o), (1, .int z)] → W p l e (headSpec wsX3_newRow { frames := 1, cells := 0, slots := 0, locals := 23 }).room s m (([.ref o, .int z] : List Value).toArray) below meth c H locs 0 0 (MQ below (va_Qi (fun x S => x = nI q ∧ S = f_zero q 10 (sA S0 2 q z)) (m_B D o ad cA) (m_A o ad)) (([.ref o, .int z] : List Value).toArray) s 0 0 (m_A o ad)) (F0 m 2 ls []) := by
    intro d
    induction d with
    | zero => intro j hj; omega
    | succ d ih =>
      intro j hj hjq H locs ls I hl
      refine lv_aload_n hx hb dX3_newRow_2 rfl (lv_at hl 1 rfl) ?_
      refine lv_iload_n hx hb dX3_newRow_3 rfl (lv_at hl 0 rfl) ?_
      refine m_isHeld hn hn40 ⟨hx, hb, hml, hown, hts⟩ gX3_newRow_X3_isHeld ⟨Nat.le_of_ble_eq_true rfl, Nat.le_of_ble_eq_true rfl⟩ ⟨Nat.le_refl _, Nat.le_refl _⟩ I hl.1 (Nat.le_of_ble_eq_true rfl) dX3_newRow_4 (fun h4 H locs I => ?_) (fun h4 H locs I => ?_)
      · refine lv_if_eq (tgt := 16) hx hb dX3_newRow_7 (by decide) (fun h => absurd h (by decide)) (fun _ => ?_)
        refine lv_iinc (v := (nI j) + 1) (lv' := [(2, .int ((nI j) + 1)), (0, .ref o), (1, .int z)]) hx hb dX3_newRow_10 hl (k := 0) rfl rfl (by decide) rfl (fun ls hl => ?_)
        refine lv_goto (tgt := 2) hx hb dX3_newRow_13 (by decide) ?_
        have hne : j ≠ q := fun h => hq.2.1 (h ▸ h4)
        have hl := lv_sub hl [0, 1, 2] rfl
        rw [nI_1] at hl
        exact ih (j + 1) (by omega) (by omega) H locs ls I hl
      · refine lv_if_eq (tgt := 16) hx hb dX3_newRow_7 (by decide) (fun _ => ?_) (fun h => absurd h (by decide))
        rw [show j = q from Nat.le_antisymm hjq (Nat.not_lt.mp (fun h => h4 (hq.2.2 j h)))] at hl
        refine lv_aload_n hx hb dX3_newRow_16 rfl (lv_at hl 1 rfl) ?_
        refine m_get2 hx hb hts hin hown I L16 dX3_newRow_17 ?_
        refine lv_iload_n hx hb dX3_newRow_20 rfl (lv_at hl 0 rfl) ?_
        refine lv_iload_n hx hb dX3_newRow_21 rfl (lv_at hl 2 rfl) ?_
        refine m_ast2 hx hb I (vp_in_nI hq.1 (by decide)) dX3_newRow_22 (fun H locs I => ?_)
        rw [nI_clamp (show q < 2 ^ 31 by omega)] at I
        refine lv_iconst (v := 0) hx hb dX3_newRow_23 (by decide) ?_
        refine lv_istore_n (lv' := [(3, .int 0), (2, .int (nI q)), (0, .ref o), (1, .int z)]) hx hb dX3_newRow_24 rfl hl (by decide) rfl (fun ls hl => ?_)
        exact LB 11 0 (by omega) (by omega) H locs ls I (lv_sub hl [0, 1, 2, 3] rfl)
  refine lv_iconst (v := 0) hx hb dX3_newRow_0 (by decide) ?_
  refine lv_istore_n (lv' := [(2, .int 0), (0, .ref o), (1, .int z)]) hx hb dX3_newRow_1 rfl hl (by decide) rfl (fun ls hl => ?_)
  exact LA (q + 1) 0 (by omega) (by omega) _ _ ls I (lv_sub hl [0, 1, 2] rfl)

set_option maxHeartbeats 4000000 in
set_option maxRecDepth 100000 in
theorem c_X3_row (l : Launch) (D : va_G) (o : Nat) (ad : Nat → Nat) (cA : ClassId) (S0 : tr_S) (r z : Int32) (q n : Nat) (hq : w_new S0 q) (hn : S0.1 4 = nI n) (hn40 : n ≤ 40) : m_Mi l yX3_row wsX3_row { frames := 2, cells := 0, slots := 0, locals := 46 } [.int r, .int z] D o ad cA S0 (fun x S => (x, S) = f_row r z q S0) := by
  refine Met.ofW (cc := cX3_row) (maxL := 4) (ret := (some .int)) (by decide) rfl ?_
  intro p e s m args below meth c s₁ B hml hv
  obtain ⟨rfl, hB⟩ := hv
  have hx := B.exec
  have hb := B.bytes
  have hr := B.returns
  have hts := atoms_spec (ws := wsX3_row) B.pre
  have hown : s.vm.findClass RX3 = some m.cls := findClass_of_methodNamed B.named
  have hlocks := B.notSynchronized
  have I := m_I.of hB
  have hin : ∀ w ∈ wsX30, w ∈ wsX3_row := fun _ h => List.mem_cons_of_mem _ (List.mem_append_right _ h)
  have L13 := hts (.fieldLink RX3 13 "TollRulesModel" "rowOf" "[I") (by decide +kernel)
  have hl := lv_entry ([.ref o, .int r, .int z]) (n := 4) (Nat.le_of_ble_eq_true rfl)
  rw [lg_entry_eq]
  generalize (lg_sl ([.ref o, .int r, .int z]) ++ List.replicate (4 - (lg_sl ([.ref o, .int r, .int z])).length) Slot.unset).toArray = ls at hl ⊢
  have hl : lv_has ls 4 [(0, .ref o), (1, .int r), (2, .int z)] := hl
  refine lv_iload_n hx hb dX3_row_0 rfl (lv_at hl 1 rfl) ?_
  refine lv_iconst (v := 0) hx hb dX3_row_1 (by decide) ?_
  refine lv_iconst (v := 3) hx hb dX3_row_2 (by decide) ?_
  refine m_in ⟨hx, hb, hml, hown, hts⟩ gX3_row_X3_in ⟨Nat.le_of_ble_eq_true rfl, Nat.le_of_ble_eq_true rfl⟩ ⟨Nat.le_refl _, Nat.le_refl _⟩ hl.1 (Nat.le_of_ble_eq_true rfl) dX3_row_3 (fun h3 => ?_) (fun h3 => ?_)
  · refine lv_if_eq (tgt := 19) hx hb dX3_row_6 (by decide) (fun h => absurd h (by decide)) (fun _ => ?_)
    refine lv_iload_n hx hb dX3_row_9 rfl (lv_at hl 2 rfl) ?_
    refine lv_iconst (v := (-1)) hx hb dX3_row_10 (by decide) ?_
    refine lv_bipush (v := 10) hx hb dX3_row_11 (by decide) ?_
    refine m_in ⟨hx, hb, hml, hown, hts⟩ gX3_row_X3_in ⟨Nat.le_of_ble_eq_true rfl, Nat.le_of_ble_eq_true rfl⟩ ⟨Nat.le_refl _, Nat.le_refl _⟩ hl.1 (Nat.le_of_ble_eq_true rfl) dX3_row_13 (fun h13 => ?_) (fun h13 => ?_)
    · refine lv_if_ne (tgt := 21) hx hb dX3_row_16 (by decide) (fun _ => ?_) (fun h => absurd h (by decide))
      refine lv_iload_n hx hb dX3_row_21 rfl (lv_at hl 2 rfl) ?_
      refine lv_if_ge (tgt := 35) hx hb dX3_row_22 (by decide) (fun c22 => ?_) (fun c22 => ?_)
      · refine lv_aload_n hx hb dX3_row_35 rfl (lv_at hl 0 rfl) ?_
        refine lv_iload_n hx hb dX3_row_36 rfl (lv_at hl 2 rfl) ?_
        refine m_calli (rest := []) ⟨hx, hb, hml, hown, hts⟩ (c_X3_newRow l D o ad cA S0 z q n hq hn hn40) (cwV 1 hts gX3_row_X3_newRow rfl rfl rfl (by decide +kernel) ⟨Nat.le_of_ble_eq_true rfl, Nat.le_of_ble_eq_true rfl⟩) I rfl hl.1 rfl (Nat.le_of_ble_eq_true rfl) dX3_row_37 ⟨Nat.le_refl _, Nat.le_refl _⟩ (fun r37 S37 H locs p37 I => ?_)
        refine lv_istore_n (lv' := [(3, .int r37), (0, .ref o), (1, .int r), (2, .int z)]) hx hb dX3_row_40 rfl hl (by decide) rfl (fun ls hl => ?_)
        refine lv_aload_n hx hb dX3_row_41 rfl (lv_at hl 1 rfl) ?_
        refine m_get1 hx hb hts hin hown I L13 dX3_row_42 ?_
        refine lv_iload_n hx hb dX3_row_45 rfl (lv_at hl 2 rfl) ?_
        refine lv_iload_n hx hb dX3_row_46 rfl (lv_at hl 0 rfl) ?_
        refine m_ast1 hx hb I (ix_of h3 (by decide) (by decide)) dX3_row_47 (fun H locs I => ?_)
        refine lv_iconst (v := 1) hx hb dX3_row_48 (by decide) ?_
        obtain ⟨rfl, rfl⟩ := p37
        exact m_iret hx hb hr hlocks I dX3_row_49 (by simp [f_row, h3, h13, c22])
      · refine lv_aload_n hx hb dX3_row_25 rfl (lv_at hl 0 rfl) ?_
        refine m_get1 hx hb hts hin hown I L13 dX3_row_26 ?_
        refine lv_iload_n hx hb dX3_row_29 rfl (lv_at hl 1 rfl) ?_
        refine lv_iconst (v := (-1)) hx hb dX3_row_30 (by decide) ?_
        refine m_ast1 hx hb I (ix_of h3 (by decide) (by decide)) dX3_row_31 (fun H locs I => ?_)
        refine lv_goto (tgt := 48) hx hb dX3_row_32 (by decide) ?_
        refine lv_iconst (v := 1) hx hb dX3_row_48 (by decide) ?_
        exact m_iret hx hb hr hlocks I dX3_row_49 (by simp [f_row, h3, h13, c22])
    · refine lv_if_ne (tgt := 21) hx hb dX3_row_16 (by decide) (fun h => absurd h (by decide)) (fun _ => ?_)
      refine lv_iconst (v := (-1)) hx hb dX3_row_19 (by decide) ?_
      exact m_iret hx hb hr hlocks I dX3_row_20 (by simp [f_row, h3, h13])
  · refine lv_if_eq (tgt := 19) hx hb dX3_row_6 (by decide) (fun _ => ?_) (fun h => absurd h (by decide))
    refine lv_iconst (v := (-1)) hx hb dX3_row_19 (by decide) ?_
    exact m_iret hx hb hr hlocks I dX3_row_20 (by simp [f_row, h3])

set_option maxHeartbeats 4000000 in
set_option maxRecDepth 100000 in
theorem c_X3_share (l : Launch) (D : va_G) (o : Nat) (ad : Nat → Nat) (cA : ClassId) (S0 : tr_S) (r q : Int32) : m_Mi l yX3_share wsX3_share { frames := 1, cells := 0, slots := 0, locals := 22 } [.int r, .int q] D o ad cA S0 (fun x S => (x, S) = f_share r q S0) := by
  refine Met.ofW (cc := cX3_share) (maxL := 3) (ret := (some .int)) (by decide) rfl ?_
  intro p e s m args below meth c s₁ B hml hv
  obtain ⟨rfl, hB⟩ := hv
  have hx := B.exec
  have hb := B.bytes
  have hr := B.returns
  have hts := atoms_spec (ws := wsX3_share) B.pre
  have hown : s.vm.findClass RX3 = some m.cls := findClass_of_methodNamed B.named
  have hlocks := B.notSynchronized
  have I := m_I.of hB
  have hin : ∀ w ∈ wsX30, w ∈ wsX3_share := fun _ h => List.mem_cons_of_mem _ (List.mem_append_right _ h)
  have L13 := hts (.fieldLink RX3 13 "TollRulesModel" "rowOf" "[I") (by decide +kernel)
  have hl := lv_entry ([.ref o, .int r, .int q]) (n := 3) (Nat.le_of_ble_eq_true rfl)
  rw [lg_entry_eq]
  generalize (lg_sl ([.ref o, .int r, .int q]) ++ List.replicate (3 - (lg_sl ([.ref o, .int r, .int q])).length) Slot.unset).toArray = ls at hl ⊢
  have hl : lv_has ls 3 [(0, .ref o), (1, .int r), (2, .int q)] := hl
  refine lv_iload_n hx hb dX3_share_0 rfl (lv_at hl 1 rfl) ?_
  refine lv_iconst (v := 0) hx hb dX3_share_1 (by decide) ?_
  refine lv_iconst (v := 3) hx hb dX3_share_2 (by decide) ?_
  refine m_in ⟨hx, hb, hml, hown, hts⟩ gX3_share_X3_in ⟨Nat.le_of_ble_eq_true rfl, Nat.le_of_ble_eq_true rfl⟩ ⟨Nat.le_refl _, Nat.le_refl _⟩ hl.1 (Nat.le_of_ble_eq_true rfl) dX3_share_3 (fun h3 => ?_) (fun h3 => ?_)
  · refine lv_if_eq (tgt := 18) hx hb dX3_share_6 (by decide) (fun h => absurd h (by decide)) (fun _ => ?_)
    refine lv_iload_n hx hb dX3_share_9 rfl (lv_at hl 2 rfl) ?_
    refine lv_iconst (v := 0) hx hb dX3_share_10 (by decide) ?_
    refine lv_iconst (v := 3) hx hb dX3_share_11 (by decide) ?_
    refine m_in ⟨hx, hb, hml, hown, hts⟩ gX3_share_X3_in ⟨Nat.le_of_ble_eq_true rfl, Nat.le_of_ble_eq_true rfl⟩ ⟨Nat.le_refl _, Nat.le_refl _⟩ hl.1 (Nat.le_of_ble_eq_true rfl) dX3_share_12 (fun h12 => ?_) (fun h12 => ?_)
    · refine lv_if_ne (tgt := 20) hx hb dX3_share_15 (by decide) (fun _ => ?_) (fun h => absurd h (by decide))
      refine lv_aload_n hx hb dX3_share_20 rfl (lv_at hl 0 rfl) ?_
      refine m_get1 hx hb hts hin hown I L13 dX3_share_21 ?_
      refine lv_iload_n hx hb dX3_share_24 rfl (lv_at hl 1 rfl) ?_
      refine lv_aload_n hx hb dX3_share_25 rfl (lv_at hl 0 rfl) ?_
      refine m_get1 hx hb hts hin hown I L13 dX3_share_26 ?_
      refine lv_iload_n hx hb dX3_share_29 rfl (lv_at hl 2 rfl) ?_
      refine m_ald1 hx hb I (ix_of h12 (by decide) (by decide)) dX3_share_30 (x := S0.2 1 q.toNatClampNeg) rfl ?_
      refine m_ast1 hx hb I (ix_of h3 (by decide) (by decide)) dX3_share_31 (fun H locs I => ?_)
      refine lv_aload_n hx hb dX3_share_32 rfl (lv_at hl 0 rfl) ?_
      refine m_get1 hx hb hts hin hown I L13 dX3_share_33 ?_
      refine lv_iload_n hx hb dX3_share_36 rfl (lv_at hl 2 rfl) ?_
      refine m_ald1 hx hb I (ix_of h12 (by decide) (by decide)) dX3_share_37 (x := (sA S0 1 r.toNatClampNeg (S0.2 1 q.toNatClampNeg)).2 1 q.toNatClampNeg) rfl ?_
      refine lv_if_ge (tgt := 45) hx hb dX3_share_38 (by decide) (fun c38 => ?_) (fun c38 => ?_)
      · refine lv_iconst (v := 1) hx hb dX3_share_45 (by decide) ?_
        simp only [sA_A, ite_self, if_true] at c38
        exact m_iret hx hb hr hlocks I dX3_share_46 (by simp [f_share, h3, h12, c38])
      · refine lv_iconst (v := 0) hx hb dX3_share_41 (by decide) ?_
        refine lv_goto (tgt := 46) hx hb dX3_share_42 (by decide) ?_
        simp only [sA_A, ite_self, if_true] at c38
        exact m_iret hx hb hr hlocks I dX3_share_46 (by simp [f_share, h3, h12, c38])
    · refine lv_if_ne (tgt := 20) hx hb dX3_share_15 (by decide) (fun h => absurd h (by decide)) (fun _ => ?_)
      refine lv_iconst (v := (-1)) hx hb dX3_share_18 (by decide) ?_
      exact m_iret hx hb hr hlocks I dX3_share_19 (by simp [f_share, h3, h12])
  · refine lv_if_eq (tgt := 18) hx hb dX3_share_6 (by decide) (fun _ => ?_) (fun h => absurd h (by decide))
    refine lv_iconst (v := (-1)) hx hb dX3_share_18 (by decide) ?_
    exact m_iret hx hb hr hlocks I dX3_share_19 (by simp [f_share, h3])

set_option maxHeartbeats 4000000 in
set_option maxRecDepth 100000 in
theorem c_X3_put (l : Launch) (D : va_G) (o : Nat) (ad : Nat → Nat) (cA : ClassId) (S0 : tr_S) (r i v : Int32) (K : w_rows S0) : m_Mi l yX3_put wsX3_put { frames := 1, cells := 0, slots := 0, locals := 22 } [.int r, .int i, .int v] D o ad cA S0 (fun x S => (x, S) = f_put r i v S0) := by
  refine Met.ofW (cc := cX3_put) (maxL := 4) (ret := (some .int)) (by decide) rfl ?_
  intro p e s m args below meth c s₁ B hml hv
  obtain ⟨rfl, hB⟩ := hv
  have hx := B.exec
  have hb := B.bytes
  have hr := B.returns
  have hts := atoms_spec (ws := wsX3_put) B.pre
  have hown : s.vm.findClass RX3 = some m.cls := findClass_of_methodNamed B.named
  have hlocks := B.notSynchronized
  have I := m_I.of hB
  have hin : ∀ w ∈ wsX30, w ∈ wsX3_put := fun _ h => List.mem_cons_of_mem _ (List.mem_append_right _ h)
  have L13 := hts (.fieldLink RX3 13 "TollRulesModel" "rowOf" "[I") (by decide +kernel)
  have L16 := hts (.fieldLink RX3 16 "TollRulesModel" "size" "[I") (by decide +kernel)
  have L19 := hts (.fieldLink RX3 19 "TollRulesModel" "item" "[I") (by decide +kernel)
  have hl := lv_entry ([.ref o, .int r, .int i, .int v]) (n := 4) (Nat.le_of_ble_eq_true rfl)
  rw [lg_entry_eq]
  generalize (lg_sl ([.ref o, .int r, .int i, .int v]) ++ List.replicate (4 - (lg_sl ([.ref o, .int r, .int i, .int v])).length) Slot.unset).toArray = ls at hl ⊢
  have hl : lv_has ls 4 [(0, .ref o), (1, .int r), (2, .int i), (3, .int v)] := hl
  refine lv_iload_n hx hb dX3_put_0 rfl (lv_at hl 1 rfl) ?_
  refine lv_iconst (v := 0) hx hb dX3_put_1 (by decide) ?_
  refine lv_iconst (v := 3) hx hb dX3_put_2 (by decide) ?_
  refine m_in ⟨hx, hb, hml, hown, hts⟩ gX3_put_X3_in ⟨Nat.le_of_ble_eq_true rfl, Nat.le_of_ble_eq_true rfl⟩ ⟨Nat.le_refl _, Nat.le_refl _⟩ hl.1 (Nat.le_of_ble_eq_true rfl) dX3_put_3 (fun h3 => ?_) (fun h3 => ?_)
  · refine lv_if_ne (tgt := 11) hx hb dX3_put_6 (by decide) (fun _ => ?_) (fun h => absurd h (by decide))
    refine lv_aload_n hx hb dX3_put_11 rfl (lv_at hl 0 rfl) ?_
    refine m_get1 hx hb hts hin hown I L13 dX3_put_12 ?_
    refine lv_iload_n hx hb dX3_put_15 rfl (lv_at hl 1 rfl) ?_
    refine m_ald1 hx hb I (ix_of h3 (by decide) (by decide)) dX3_put_16 (x := S0.2 1 r.toNatClampNeg) rfl ?_
    refine lv_if_ge (tgt := 23) hx hb dX3_put_17 (by decide) (fun c17 => ?_) (fun c17 => ?_)
    · refine lv_iload_n hx hb dX3_put_23 rfl (lv_at hl 2 rfl) ?_
      refine lv_iconst (v := 0) hx hb dX3_put_24 (by decide) ?_
      refine lv_aload_n hx hb dX3_put_25 rfl (lv_at hl 0 rfl) ?_
      refine m_get2 hx hb hts hin hown I L16 dX3_put_26 ?_
      refine lv_aload_n hx hb dX3_put_29 rfl (lv_at hl 0 rfl) ?_
      refine m_get1 hx hb hts hin hown I L13 dX3_put_30 ?_
      refine lv_iload_n hx hb dX3_put_33 rfl (lv_at hl 1 rfl) ?_
      refine m_ald1 hx hb I (ix_of h3 (by decide) (by decide)) dX3_put_34 (x := S0.2 1 r.toNatClampNeg) rfl ?_
      refine m_ald2 hx hb I (K _ (ix_nI (ix_of h3 (by decide) (by decide)) (by decide)).2 c17).1 dX3_put_35 (x := S0.2 2 ((S0.2 1 r.toNatClampNeg).toNatClampNeg)) rfl ?_
      refine lv_iconst (v := 1) hx hb dX3_put_36 (by decide) ?_
      refine lv_isub hx hb dX3_put_37 ?_
      refine m_in ⟨hx, hb, hml, hown, hts⟩ gX3_put_X3_in ⟨Nat.le_of_ble_eq_true rfl, Nat.le_of_ble_eq_true rfl⟩ ⟨Nat.le_refl _, Nat.le_refl _⟩ hl.1 (Nat.le_of_ble_eq_true rfl) dX3_put_38 (fun h38 => ?_) (fun h38 => ?_)
      · refine lv_if_ne (tgt := 47) hx hb dX3_put_41 (by decide) (fun _ => ?_) (fun h => absurd h (by decide))
        refine lv_aload_n hx hb dX3_put_47 rfl (lv_at hl 0 rfl) ?_
        refine m_get3 hx hb hts hin hown I L19 dX3_put_48 ?_
        refine lv_bipush (v := 10) hx hb dX3_put_51 (by decide) ?_
        refine lv_aload_n hx hb dX3_put_53 rfl (lv_at hl 0 rfl) ?_
        refine m_get1 hx hb hts hin hown I L13 dX3_put_54 ?_
        refine lv_iload_n hx hb dX3_put_57 rfl (lv_at hl 1 rfl) ?_
        refine m_ald1 hx hb I (ix_of h3 (by decide) (by decide)) dX3_put_58 (x := S0.2 1 r.toNatClampNeg) rfl ?_
        refine lv_imul hx hb dX3_put_59 ?_
        refine lv_iload_n hx hb dX3_put_60 rfl (lv_at hl 2 rfl) ?_
        refine lv_iadd hx hb dX3_put_61 ?_
        refine lv_iload_n hx hb dX3_put_62 rfl (lv_at hl 3 rfl) ?_
        refine m_ast3 hx hb I (ix_item (K _ (ix_nI (ix_of h3 (by decide) (by decide)) (by decide)).2 c17).1 (ix_size h38 (K _ (ix_nI (ix_of h3 (by decide) (by decide)) (by decide)).2 c17).2)) dX3_put_63 (fun H locs I => ?_)
        refine lv_iconst (v := 1) hx hb dX3_put_64 (by decide) ?_
        exact m_iret hx hb hr hlocks I dX3_put_65 (by simp [f_put, h3, c17, h38])
      · refine lv_if_ne (tgt := 47) hx hb dX3_put_41 (by decide) (fun h => absurd h (by decide)) (fun _ => ?_)
        refine lv_bipush (v := (-12)) hx hb dX3_put_44 (by decide) ?_
        exact m_iret hx hb hr hlocks I dX3_put_46 (by simp [f_put, h3, c17, h38])
    · refine lv_bipush (v := (-13)) hx hb dX3_put_20 (by decide) ?_
      exact m_iret hx hb hr hlocks I dX3_put_22 (by simp [f_put, h3, c17])
  · refine lv_if_ne (tgt := 11) hx hb dX3_put_6 (by decide) (fun h => absurd h (by decide)) (fun _ => ?_)
    refine lv_iconst (v := (-1)) hx hb dX3_put_9 (by decide) ?_
    exact m_iret hx hb hr hlocks I dX3_put_10 (by simp [f_put, h3])

set_option maxHeartbeats 4000000 in
set_option maxRecDepth 100000 in
theorem c_X3_item (l : Launch) (D : va_G) (o : Nat) (ad : Nat → Nat) (cA : ClassId) (S0 : tr_S) (r i : Int32) (K : w_rows S0) : m_Ml l yX3_item wsX3_item { frames := 1, cells := 0, slots := 0, locals := 22 } [.int r, .int i] D o ad cA S0 (fun x S => x = f_item r i S0 ∧ S = S0) := by
  refine Met.ofW (cc := cX3_item) (maxL := 3) (ret := (some .long)) (by decide) rfl ?_
  intro p e s m args below meth c s₁ B hml hv
  obtain ⟨rfl, hB⟩ := hv
  have hx := B.exec
  have hb := B.bytes
  have hr := B.returns
  have hts := atoms_spec (ws := wsX3_item) B.pre
  have hown : s.vm.findClass RX3 = some m.cls := findClass_of_methodNamed B.named
  have hlocks := B.notSynchronized
  have I := m_I.of hB
  have hin : ∀ w ∈ wsX30, w ∈ wsX3_item := fun _ h => List.mem_cons_of_mem _ (List.mem_append_right _ h)
  have L13 := hts (.fieldLink RX3 13 "TollRulesModel" "rowOf" "[I") (by decide +kernel)
  have L16 := hts (.fieldLink RX3 16 "TollRulesModel" "size" "[I") (by decide +kernel)
  have L19 := hts (.fieldLink RX3 19 "TollRulesModel" "item" "[I") (by decide +kernel)
  have hl := lv_entry ([.ref o, .int r, .int i]) (n := 3) (Nat.le_of_ble_eq_true rfl)
  rw [lg_entry_eq]
  generalize (lg_sl ([.ref o, .int r, .int i]) ++ List.replicate (3 - (lg_sl ([.ref o, .int r, .int i])).length) Slot.unset).toArray = ls at hl ⊢
  have hl : lv_has ls 3 [(0, .ref o), (1, .int r), (2, .int i)] := hl
  refine lv_iload_n hx hb dX3_item_0 rfl (lv_at hl 1 rfl) ?_
  refine lv_iconst (v := 0) hx hb dX3_item_1 (by decide) ?_
  refine lv_iconst (v := 3) hx hb dX3_item_2 (by decide) ?_
  refine m_in ⟨hx, hb, hml, hown, hts⟩ gX3_item_X3_in ⟨Nat.le_of_ble_eq_true rfl, Nat.le_of_ble_eq_true rfl⟩ ⟨Nat.le_refl _, Nat.le_refl _⟩ hl.1 (Nat.le_of_ble_eq_true rfl) dX3_item_3 (fun h3 => ?_) (fun h3 => ?_)
  · refine lv_if_eq (tgt := 59) hx hb dX3_item_6 (by decide) (fun h => absurd h (by decide)) (fun _ => ?_)
    refine lv_aload_n hx hb dX3_item_9 rfl (lv_at hl 0 rfl) ?_
    refine m_get1 hx hb hts hin hown I L13 dX3_item_10 ?_
    refine lv_iload_n hx hb dX3_item_13 rfl (lv_at hl 1 rfl) ?_
    refine m_ald1 hx hb I (ix_of h3 (by decide) (by decide)) dX3_item_14 (x := S0.2 1 r.toNatClampNeg) rfl ?_
    refine lv_if_lt (tgt := 59) hx hb dX3_item_15 (by decide) (fun c15 => ?_) (fun c15 => ?_)
    · refine lv_ldc2 hx hb hown (hts (.constantLong RX3 72 (-9223372036854775808)) (by decide +kernel)) dX3_item_59 ?_
      rw [← Int32.not_le] at c15
      exact m_lret hx hb hr hlocks I dX3_item_62 (⟨by simp [f_item, h3, c15], rfl⟩)
    · refine lv_iload_n hx hb dX3_item_18 rfl (lv_at hl 2 rfl) ?_
      refine lv_iconst (v := 0) hx hb dX3_item_19 (by decide) ?_
      refine lv_aload_n hx hb dX3_item_20 rfl (lv_at hl 0 rfl) ?_
      refine m_get2 hx hb hts hin hown I L16 dX3_item_21 ?_
      refine lv_aload_n hx hb dX3_item_24 rfl (lv_at hl 0 rfl) ?_
      refine m_get1 hx hb hts hin hown I L13 dX3_item_25 ?_
      refine lv_iload_n hx hb dX3_item_28 rfl (lv_at hl 1 rfl) ?_
      refine m_ald1 hx hb I (ix_of h3 (by decide) (by decide)) dX3_item_29 (x := S0.2 1 r.toNatClampNeg) rfl ?_
      refine m_ald2 hx hb I (K _ (ix_nI (ix_of h3 (by decide) (by decide)) (by decide)).2 (Int32.not_lt.mp c15)).1 dX3_item_30 (x := S0.2 2 ((S0.2 1 r.toNatClampNeg).toNatClampNeg)) rfl ?_
      refine lv_iconst (v := 1) hx hb dX3_item_31 (by decide) ?_
      refine lv_isub hx hb dX3_item_32 ?_
      refine m_in ⟨hx, hb, hml, hown, hts⟩ gX3_item_X3_in ⟨Nat.le_of_ble_eq_true rfl, Nat.le_of_ble_eq_true rfl⟩ ⟨Nat.le_refl _, Nat.le_refl _⟩ hl.1 (Nat.le_of_ble_eq_true rfl) dX3_item_33 (fun h33 => ?_) (fun h33 => ?_)
      · refine lv_if_eq (tgt := 59) hx hb dX3_item_36 (by decide) (fun h => absurd h (by decide)) (fun _ => ?_)
        refine lv_aload_n hx hb dX3_item_39 rfl (lv_at hl 0 rfl) ?_
        refine m_get3 hx hb hts hin hown I L19 dX3_item_40 ?_
        refine lv_bipush (v := 10) hx hb dX3_item_43 (by decide) ?_
        refine lv_aload_n hx hb dX3_item_45 rfl (lv_at hl 0 rfl) ?_
        refine m_get1 hx hb hts hin hown I L13 dX3_item_46 ?_
        refine lv_iload_n hx hb dX3_item_49 rfl (lv_at hl 1 rfl) ?_
        refine m_ald1 hx hb I (ix_of h3 (by decide) (by decide)) dX3_item_50 (x := S0.2 1 r.toNatClampNeg) rfl ?_
        refine lv_imul hx hb dX3_item_51 ?_
        refine lv_iload_n hx hb dX3_item_52 rfl (lv_at hl 2 rfl) ?_
        refine lv_iadd hx hb dX3_item_53 ?_
        refine m_ald3 hx hb I (ix_item (K _ (ix_nI (ix_of h3 (by decide) (by decide)) (by decide)).2 (Int32.not_lt.mp c15)).1 (ix_size h33 (K _ (ix_nI (ix_of h3 (by decide) (by decide)) (by decide)).2 (Int32.not_lt.mp c15)).2)) dX3_item_54 (x := S0.2 3 (((10 * (S0.2 1 r.toNatClampNeg)) + i).toNatClampNeg)) rfl ?_
        refine lv_i2l hx hb dX3_item_55 rfl ?_
        refine lv_goto (tgt := 62) hx hb dX3_item_56 (by decide) ?_
        rw [Int32.not_lt] at c15
        exact m_lret hx hb hr hlocks I dX3_item_62 (⟨by simp [f_item, h3, c15, h33], rfl⟩)
      · refine lv_if_eq (tgt := 59) hx hb dX3_item_36 (by decide) (fun _ => ?_) (fun h => absurd h (by decide))
        refine lv_ldc2 hx hb hown (hts (.constantLong RX3 72 (-9223372036854775808)) (by decide +kernel)) dX3_item_59 ?_
        rw [Int32.not_lt] at c15
        exact m_lret hx hb hr hlocks I dX3_item_62 (⟨by simp [f_item, h3, c15, h33], rfl⟩)
  · refine lv_if_eq (tgt := 59) hx hb dX3_item_6 (by decide) (fun _ => ?_) (fun h => absurd h (by decide))
    refine lv_ldc2 hx hb hown (hts (.constantLong RX3 72 (-9223372036854775808)) (by decide +kernel)) dX3_item_59 ?_
    exact m_lret hx hb hr hlocks I dX3_item_62 (⟨by simp [f_item, h3], rfl⟩)

def f_none (S : tr_S) : Nat → Int32
  | 0 => 0
  | k + 1 => f_none S k + (if 0 ≤ S.2 1 k then 0 else 1)
def f_count (a : Int32) (S : tr_S) : Int32 := if a = 0 then S.1 4 else if a = 1 then S.1 20 else if a = 2 then S.1 23 else if a = 3 then S.1 24 else if a = 4 then f_none S 4 else -1
set_option maxHeartbeats 4000000 in
set_option maxRecDepth 100000 in
theorem c_X3_count (l : Launch) (D : va_G) (o : Nat) (ad : Nat → Nat) (cA : ClassId) (S0 : tr_S) (a : Int32) : m_Mi l yX3_count wsX3_count { frames := 0, cells := 0, slots := 0, locals := 0 } [.int a] D o ad cA S0 (fun x S => x = f_count a S0 ∧ S = S0) := by
  refine Met.ofW (cc := cX3_count) (maxL := 4) (ret := (some .int)) (by decide) rfl ?_
  intro p e s m args below meth c s₁ B hml hv
  obtain ⟨rfl, hB⟩ := hv
  have hx := B.exec
  have hb := B.bytes
  have hr := B.returns
  have hts := atoms_spec (ws := wsX3_count) B.pre
  have hown : s.vm.findClass RX3 = some m.cls := findClass_of_methodNamed B.named
  have hlocks := B.notSynchronized
  have I := m_I.of hB
  have hin : ∀ w ∈ wsX30, w ∈ wsX3_count := fun _ h => List.mem_cons_of_mem _ (List.mem_append_right _ h)
  have L13 := hts (.fieldLink RX3 13 "TollRulesModel" "rowOf" "[I") (by decide +kernel)
  have L65 := hts (.fieldLink RX3 65 "TollRulesModel" "rules" "I") (by decide +kernel)
  have L89 := hts (.fieldLink RX3 89 "TollRulesModel" "stepsEver" "I") (by decide +kernel)
  have L112 := hts (.fieldLink RX3 112 "TollRulesModel" "elses" "I") (by decide +kernel)
  have L137 := hts (.fieldLink RX3 137 "TollRulesModel" "failedMany" "I") (by decide +kernel)
  have hl := lv_entry ([.ref o, .int a]) (n := 4) (Nat.le_of_ble_eq_true rfl)
  rw [lg_entry_eq]
  generalize (lg_sl ([.ref o, .int a]) ++ List.replicate (4 - (lg_sl ([.ref o, .int a])).length) Slot.unset).toArray = ls at hl ⊢
  have hl : lv_has ls 4 [(0, .ref o), (1, .int a)] := hl
  have LC : ∀ (d j : Nat), 4 - j < d → j ≤ 4 → ∀ (H : Heap) (locs : List Loc) (ls : Array Slot), m_I D o ad cA S0 s s.heap H locs → lv_has ls 4 [(3, .int (nI j)), (2, .int (f_none S0 j)), (0, .ref o), (1, .int a)] → W p l e (headSpec wsX3_count { frames := 0, cells := 0, slots := 0, locals := 0 }).room s m (([.ref o, .int a] : List Value).toArray) below meth c H locs 0 0 (MQ below (va_Qi (fun x S => x = f_count a S0 ∧ S = S0) (m_B D o ad cA) (m_A o ad)) (([.ref o, .int a] : List Value).toArray) s 0 0 (m_A o ad)) (F0 m 4 ls []) := by
    intro d
    induction d with
    | zero => intro j hj; omega
    | succ d ih =>
      intro j hj hj4 H locs ls I hl
      refine lv_iload_n hx hb dX3_count_4 rfl (lv_at hl 0 rfl) ?_
      refine lv_iconst (v := 4) hx hb dX3_count_5 (by decide) ?_
      refine lv_icmp_ge (tgt := 32) hx hb dX3_count_6 (by decide) (fun c6 => ?_) (fun c6 => ?_)
      · refine lv_iload_n hx hb dX3_count_32 rfl (lv_at hl 3 rfl) ?_
        by_cases k33_0 : a = 0
        · refine lv_tableIn (tgt := 68) hx hb dX3_count_33 (by rw [k33_0]; decide) (by rw [k33_0]; decide) (off := 35) (by rw [k33_0]; rfl) (by decide) ?_
          refine lv_aload_n hx hb dX3_count_68 rfl (lv_at hl 2 rfl) ?_
          refine m_get4 hx hb hts hin hown I L65 dX3_count_69 (x := S0.1 4) rfl ?_
          have hj4 := nI_lb (n := 4) (by omega) (by decide) c6
          obtain rfl : j = 4 := by omega
          exact m_iret hx hb hr hlocks I dX3_count_72 ⟨by simp (decide := true) [f_count, k33_0], rfl⟩
        by_cases k33_1 : a = 1
        · refine lv_tableIn (tgt := 73) hx hb dX3_count_33 (by rw [k33_1]; decide) (by rw [k33_1]; decide) (off := 40) (by rw [k33_1]; rfl) (by decide) ?_
          refine lv_aload_n hx hb dX3_count_73 rfl (lv_at hl 2 rfl) ?_
          refine m_get20 hx hb hts hin hown I L89 dX3_count_74 (x := S0.1 20) rfl ?_
          have hj4 := nI_lb (n := 4) (by omega) (by decide) c6
          obtain rfl : j = 4 := by omega
          exact m_iret hx hb hr hlocks I dX3_count_77 ⟨by simp (decide := true) [f_count, k33_1], rfl⟩
        by_cases k33_2 : a = 2
        · refine lv_tableIn (tgt := 78) hx hb dX3_count_33 (by rw [k33_2]; decide) (by rw [k33_2]; decide) (off := 45) (by rw [k33_2]; rfl) (by decide) ?_
          refine lv_aload_n hx hb dX3_count_78 rfl (lv_at hl 2 rfl) ?_
          refine m_get23 hx hb hts hin hown I L137 dX3_count_79 (x := S0.1 23) rfl ?_
          have hj4 := nI_lb (n := 4) (by omega) (by decide) c6
          obtain rfl : j = 4 := by omega
          exact m_iret hx hb hr hlocks I dX3_count_82 ⟨by simp (decide := true) [f_count, k33_2], rfl⟩
        by_cases k33_3 : a = 3
        · refine lv_tableIn (tgt := 83) hx hb dX3_count_33 (by rw [k33_3]; decide) (by rw [k33_3]; decide) (off := 50) (by rw [k33_3]; rfl) (by decide) ?_
          refine lv_aload_n hx hb dX3_count_83 rfl (lv_at hl 2 rfl) ?_
          refine m_get24 hx hb hts hin hown I L112 dX3_count_84 (x := S0.1 24) rfl ?_
          have hj4 := nI_lb (n := 4) (by omega) (by decide) c6
          obtain rfl : j = 4 := by omega
          exact m_iret hx hb hr hlocks I dX3_count_87 ⟨by simp (decide := true) [f_count, k33_3], rfl⟩
        by_cases k33_4 : a = 4
        · refine lv_tableIn (tgt := 88) hx hb dX3_count_33 (by rw [k33_4]; decide) (by rw [k33_4]; decide) (off := 55) (by rw [k33_4]; rfl) (by decide) ?_
          refine lv_iload_n hx hb dX3_count_88 rfl (lv_at hl 1 rfl) ?_
          have hj4 := nI_lb (n := 4) (by omega) (by decide) c6
          obtain rfl : j = 4 := by omega
          exact m_iret hx hb hr hlocks I dX3_count_89 ⟨by simp (decide := true) [f_count, k33_4], rfl⟩
        refine lv_tableOut (tgt := 90) hx hb dX3_count_33 (by have t0 := lv_neT k33_0 (a := 0) rfl; have t1 := lv_neT k33_1 (a := 1) rfl; have t2 := lv_neT k33_2 (a := 2) rfl; have t3 := lv_neT k33_3 (a := 3) rfl; have t4 := lv_neT k33_4 (a := 4) rfl; omega) (by decide) ?_
        refine lv_iconst (v := (-1)) hx hb dX3_count_90 (by decide) ?_
        have hj4 := nI_lb (n := 4) (by omega) (by decide) c6
        obtain rfl : j = 4 := by omega
        exact m_iret hx hb hr hlocks I dX3_count_91 ⟨by simp (decide := true) [f_count, k33_0, k33_1, k33_2, k33_3, k33_4], rfl⟩
      · refine lv_iload_n hx hb dX3_count_9 rfl (lv_at hl 1 rfl) ?_
        refine lv_aload_n hx hb dX3_count_10 rfl (lv_at hl 2 rfl) ?_
        refine m_get1 hx hb hts hin hown I L13 dX3_count_11 ?_
        refine lv_iload_n hx hb dX3_count_14 rfl (lv_at hl 0 rfl) ?_
        refine m_ald1 hx hb I (vp_in_nI (nI_ub (n := 4) (by omega) (by decide) c6) (by decide)) dX3_count_15 (x := S0.2 1 j) (by rw [nI_clamp (show j < 2 ^ 31 by omega)] <;> rfl) ?_
        refine lv_if_ge (tgt := 23) hx hb dX3_count_16 (by decide) (fun c16 => ?_) (fun c16 => ?_)
        · refine lv_iconst (v := 0) hx hb dX3_count_23 (by decide) ?_
          refine lv_iadd hx hb dX3_count_24 ?_
          refine lv_istore_n (lv' := [(2, .int ((f_none S0 j) + 0)), (3, .int (nI j)), (0, .ref o), (1, .int a)]) hx hb dX3_count_25 rfl hl (by decide) rfl (fun ls hl => ?_)
          refine lv_iinc (v := (nI j) + 1) (lv' := [(3, .int ((nI j) + 1)), (2, .int ((f_none S0 j) + 0)), (0, .ref o), (1, .int a)]) hx hb dX3_count_26 hl (k := 1) rfl rfl (by decide) rfl (fun ls hl => ?_)
          refine lv_goto (tgt := 4) hx hb dX3_count_29 (by decide) ?_
          have hj4 := nI_ub (n := 4) (by omega) (by decide) c6
          have hl := lv_sub hl [0, 1, 2, 3] rfl
          rw [nI_1, show f_none S0 j + 0 = f_none S0 (j + 1) by simp [f_none, c16]] at hl
          exact ih (j + 1) (by omega) (by omega) H locs ls I hl
        · refine lv_iconst (v := 1) hx hb dX3_count_19 (by decide) ?_
          refine lv_goto (tgt := 24) hx hb dX3_count_20 (by decide) ?_
          refine lv_iadd hx hb dX3_count_24 ?_
          refine lv_istore_n (lv' := [(2, .int ((f_none S0 j) + 1)), (3, .int (nI j)), (0, .ref o), (1, .int a)]) hx hb dX3_count_25 rfl hl (by decide) rfl (fun ls hl => ?_)
          refine lv_iinc (v := (nI j) + 1) (lv' := [(3, .int ((nI j) + 1)), (2, .int ((f_none S0 j) + 1)), (0, .ref o), (1, .int a)]) hx hb dX3_count_26 hl (k := 1) rfl rfl (by decide) rfl (fun ls hl => ?_)
          refine lv_goto (tgt := 4) hx hb dX3_count_29 (by decide) ?_
          have hj4 := nI_ub (n := 4) (by omega) (by decide) c6
          have hl := lv_sub hl [0, 1, 2, 3] rfl
          rw [nI_1, show f_none S0 j + 1 = f_none S0 (j + 1) by simp [f_none, c16]] at hl
          exact ih (j + 1) (by omega) (by omega) H locs ls I hl
  refine lv_iconst (v := 0) hx hb dX3_count_0 (by decide) ?_
  refine lv_istore_n (lv' := [(2, .int 0), (0, .ref o), (1, .int a)]) hx hb dX3_count_1 rfl hl (by decide) rfl (fun ls hl => ?_)
  refine lv_iconst (v := 0) hx hb dX3_count_2 (by decide) ?_
  refine lv_istore_n (lv' := [(3, .int 0), (2, .int 0), (0, .ref o), (1, .int a)]) hx hb dX3_count_3 rfl hl (by decide) rfl (fun ls hl => ?_)
  exact LC 5 0 (by omega) (by omega) _ _ ls I (lv_sub hl [0, 1, 2, 3] rfl)

