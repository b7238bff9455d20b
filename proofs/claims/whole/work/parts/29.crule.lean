theorem c_X1_init (l : Launch) (D : va_G) (q : Nat) (k a b v : Int32) (kr : Option Nat) : Met l yX1_init wsX1_init { frames := 1, cells := 0, slots := 0, locals := 20 } (va_Pc [.ref q, .int k, .int a, .int b, .int v, va_rf kr] (fun U => va_P D vwCl [(q, .inr (1, [.int 0, .int 0, .int 0, .int 0, .null, .int 0]))] U.heap ∧ va_K D vwCl [] U)) (va_Qv (fun _ : Unit => True) (fun _ U => va_P D vwCl [(q, .inr (1, [.int k, .int a, .int b, .int v, va_rf kr, .int 0]))] U.heap) (fun x => x = q)) 0 0 (fun x => x = q) := by
  cases kr with
  | none => exact c_X1_init_n l D q k a b v
  | some b5 => exact c_X1_init_r l D q k a b v b5
section CS29
variable {p : Program} {l : Launch} {e : Env} {R : Room} {s : State} {m : MethodId} {args : Array Value} {below : List Frame} {meth : Method} {c : Code} {H H0 : Heap} {locs : List Loc} {cells slots : Nat} {Q : State → Prop}
variable {cc : ByteArray} {pc : Nat} {ls : Array Slot} {rest st0 : List Value} {Ts : List Cond} {index nL : Nat} {own : String}
variable {D : va_G} {o : Nat} {ap : Nat → Nat} {cA cR cU : ClassId} {A : Nat → Prop} {ρ σ ra : Nat → Nat} {L : List Nat} {f : Nat → va_E} {S : tr_S} {z : tr_Z}
theorem f_add_4 {T : tr_S} (k a b v : Int32) : (f_add k a b v T).2.1 4 = T.1 4 + 1 := rfl
theorem f_add_F {T : tr_S} (k a b v : Int32) {j : Nat} (hj : j ≠ 4) : (f_add k a b v T).2.1 j = T.1 j := by
  show upd T.1 4 (T.1 4 + 1) j = T.1 j
  unfold upd
  rw [if_neg hj]
theorem f_add_A {T : tr_S} (k a b v : Int32) {j : Nat} (h5 : j ≠ 5) (h6 : j ≠ 6) (h7 : j ≠ 7) (h8 : j ≠ 8) (h9 : j ≠ 9) (h10 : j ≠ 10) : (f_add k a b v T).2.2 j = T.2 j := by
  funext i
  unfold f_add
  simp [sF, sA_A, h5, h6, h7, h8, h9, h10]
theorem f_add_r {T : tr_S} {N : Nat} (k a b v : Int32) (e : (T.1 4).toNatClampNeg = N) (i : Nat) : (f_add k a b v T).2.2 5 i = (if i = N then k else T.2 5 i) ∧ (f_add k a b v T).2.2 6 i = (if i = N then a else T.2 6 i) ∧ (f_add k a b v T).2.2 7 i = (if i = N then b else T.2 7 i) ∧ (f_add k a b v T).2.2 8 i = (if i = N then v else T.2 8 i) ∧ (f_add k a b v T).2.2 9 i = (if i = N then (if k = 6 then T.2 1 a.toNatClampNeg else -1) else T.2 9 i) ∧ (f_add k a b v T).2.2 10 i = (if i = N then 0 else T.2 10 i) := by
  unfold f_add
  rw [e]
  refine ⟨?_, ?_, ?_, ?_, ?_, ?_⟩ <;> simp [sF, sA_A]
theorem c_rule_done {T : tr_S} {N q1 : Nat} {k a b v : Int32} (hN : T.1 4 = nI N) (h40 : N < 40) (ha : k = 6 → a.toNatClampNeg < 4) (hG : c_G cA ρ σ ra L f T) (h1 : q1 ∉ L) {f3 : Nat → va_E} (ef : ∀ x, x ≠ q1 → f3 x = f x) (e1 : f3 q1 = .inr (1, [.int k, .int a, .int b, .int v, va_rf (c_ref ρ (if k = 6 then T.2 1 a.toNatClampNeg else -1)), .int 0])) :
    c_rules (va_up ra N q1) (f_add k a b v T).2 = va_up (c_rules ra T) N (some q1) ∧ c_G cA ρ σ (va_up ra N q1) (L ++ [q1]) f3 (f_add k a b v T).2 := by
  have e : (T.1 4).toNatClampNeg = N := by rw [hN, nI_clamp (by omega)]
  have e4 : ((f_add k a b v T).2.1 4).toNatClampNeg = N + 1 := by rw [f_add_4, hN, nI_1, nI_clamp (by omega)]
  have hne : ∀ x, x ∈ L → f3 x = f x := fun x hx => ef x (fun w => h1 (w ▸ hx))
  have inL : ∀ x, x ∈ L → x ∈ L ++ [q1] := fun x hx => List.mem_append_left _ hx
  have hu : ∀ j, j ≠ N → c_rule ρ (f_add k a b v T).2 j = c_rule ρ T j := by
    intro j hj
    obtain ⟨t5, t6, t7, t8, t9, t10⟩ := f_add_r k a b v e j
    unfold c_rule
    rw [t5, t6, t7, t8, t9, t10, if_neg hj, if_neg hj, if_neg hj, if_neg hj, if_neg hj, if_neg hj]
  have hrow : ∀ q, c_row cA (f_add k a b v T).2 q = c_row cA T q := by
    intro q
    unfold c_row c_items
    rw [f_add_A k a b v (by decide) (by decide) (by decide) (by decide) (by decide) (by decide), f_add_A k a b v (by decide) (by decide) (by decide) (by decide) (by decide) (by decide)]
  have held : ∀ q, c_held (f_add k a b v T).2 q → c_held T q := by
    rintro q ⟨h48, ⟨r, hr, w⟩ | ⟨j, hj, w⟩⟩
    · rw [f_add_A k a b v (by decide) (by decide) (by decide) (by decide) (by decide) (by decide)] at w
      exact ⟨h48, Or.inl ⟨r, hr, w⟩⟩
    · rw [e4] at hj
      rw [(f_add_r k a b v e j).2.2.2.2.1] at w
      by_cases c : j = N
      · rw [if_pos c] at w
        by_cases c6 : k = 6
        · rw [if_pos c6] at w
          exact ⟨h48, Or.inl ⟨_, ha c6, w⟩⟩
        · rw [if_neg c6] at w
          exact absurd w (c_m1 h48)
      · rw [if_neg c] at w
        exact ⟨h48, Or.inr ⟨j, by rw [e]; omega, w⟩⟩
  refine ⟨?_, fun j hj => ?_, fun q hq => ?_, fun i j hi hj w => ?_, fun i j hi hj w => hG.2.2.2 i j (held i hi) (held j hj) w⟩
  · funext j
    unfold c_rules
    rw [e4]
    by_cases c : j = N
    · rw [c, if_pos (by omega), va_up_self, va_up_self]
    · rw [va_up_ne _ _ c, va_up_ne _ _ c, e]
      by_cases c2 : j < N
      · rw [if_pos c2, if_pos (by omega)]
      · rw [if_neg c2, if_neg (by omega)]
  · rw [e4] at hj
    by_cases c : j = N
    · rw [c, va_up_self]
      refine ⟨by simp, ?_⟩
      obtain ⟨t5, t6, t7, t8, t9, t10⟩ := f_add_r k a b v e N
      unfold c_rule
      rw [e1, t5, t6, t7, t8, t9, t10, if_pos rfl, if_pos rfl, if_pos rfl, if_pos rfl, if_pos rfl, if_pos rfl]
    · rw [va_up_ne _ _ c, hu j c]
      have hj2 : j < (T.1 4).toNatClampNeg := by rw [e]; omega
      exact ⟨inL _ (hG.1 j hj2).1, (hne _ (hG.1 j hj2).1).trans (hG.1 j hj2).2⟩
  · rw [hrow q]
    obtain ⟨a1, a2, a3, a4⟩ := hG.2.1 q (held q hq)
    exact ⟨inL _ a1, (hne _ a1).trans a2, inL _ a3, (hne _ a3).trans a4⟩
  · rw [e4] at hi hj
    by_cases ci : i = N
    · by_cases cj : j = N
      · rw [ci, cj]
      · rw [ci, va_up_self, va_up_ne _ _ cj] at w
        exact absurd (hG.1 j (by rw [e]; omega)).1 (by rw [← w]; exact h1)
    · by_cases cj : j = N
      · rw [cj, va_up_self, va_up_ne _ _ ci] at w
        exact absurd (hG.1 i (by rw [e]; omega)).1 (by rw [w]; exact h1)
      · rw [va_up_ne _ _ ci, va_up_ne _ _ cj] at w
        exact hG.2.2.1 i j (by rw [e]; omega) (by rw [e]; omega) w
theorem c_W_add {T : tr_S} {N q1 : Nat} {k a b v : Int32} {g : Nat → va_E} {L2 : List Nat} (hr : c_rules (va_up ra N q1) (f_add k a b v T).2 = va_up (c_rules ra T) N (some q1)) : ((c_W o ap cA cR cU ρ ra L2 g T z).set 3 (ap 2, .inl (cU, 40, .inr (.inr (.inr (.inr (va_up (c_rules ra T) N (some q1)))))))).set 0 (o, .inr (2, (c_F ap T z).set 3 (.int (T.1 4 + 1)))) = c_W o ap cA cR cU ρ (va_up ra N q1) L2 g (f_add k a b v T).2 z := by
  have e1 : c_rows ρ (f_add k a b v T).2 = c_rows ρ T := by
    unfold c_rows
    rw [f_add_A k a b v (by decide) (by decide) (by decide) (by decide) (by decide) (by decide)]
  unfold c_W c_X
  rw [hr, e1, f_add_A k a b v (by decide) (by decide) (by decide) (by decide) (by decide) (by decide)]
  rfl
/-- invokespecial Rule(..), aastore -/
theorem c_rule_new {T : tr_S} {N q1 : Nat} {k a b v : Int32} {kr : Option Nat} {maxL : Nat} (X : CallFix p m c cc nL s args Ts own) (cw : CallB R s args own index yX1_init cX1_init maxL none wsX1_init { frames := 1, cells := 0, slots := 0, locals := 20 } 0 0 5 ∧ yX1_init.name = "<init>" ∧ (Cond.instanceMethod yX1_init).before args s = true) (h40 : N < 40) (hK : va_K D vwCl (c_T cA cR cU) s) (hP : va_P D vwCl (c_W o ap cA cR cU ρ ra L f T z ++ [(q1, .inr (1, [.int 0, .int 0, .int 0, .int 0, .null, .int 0]))]) H) (hD : va_D A (c_W o ap cA cR cU ρ ra L f T z ++ [(q1, .inr (1, [.int 0, .int 0, .int 0, .int 0, .null, .int 0]))])) (hS : va_S A H0 H locs) (hsize : ls.size = nL) (hroom : (rest.map fun v => v.category).sum ≤ 5) (hdg : decode cc pc = .ok (.invokespecial index, 3)) (hda : decode cc (pc + 3) = .ok (.aastore, 1)) (hf : cells ≤ R.cells ∧ slots ≤ R.slots)
    (kk : ∀ (f3 : Nat → va_E) (H1 : Heap) (locs1 : List Loc), q1 ∉ L → (∀ x, x ≠ q1 → f3 x = f x) → f3 q1 = .inr (1, [.int k, .int a, .int b, .int v, va_rf kr, .int 0]) → va_P D vwCl ((c_W o ap cA cR cU ρ ra (L ++ [q1]) f3 T z).set 3 (ap 2, .inl (cU, 40, .inr (.inr (.inr (.inr (va_up (c_rules ra T) N (some q1)))))))) H1 → va_D A ((c_W o ap cA cR cU ρ ra (L ++ [q1]) f3 T z).set 3 (ap 2, .inl (cU, 40, .inr (.inr (.inr (.inr (va_up (c_rules ra T) N (some q1)))))))) → va_S A H0 H1 locs1 → W p l e R s m args below meth c H1 locs1 cells slots Q (F0 m (pc + 4) ls rest)) : W p l e R s m args below meth c H locs cells slots Q (F0 m pc ls (va_rf kr :: .int v :: .int b :: .int a :: .int k :: .ref q1 :: .ref q1 :: .int (nI N) :: .ref (ap 2) :: rest)) := by
  have hx := X.1
  have hb := X.2.1
  obtain ⟨h1, p1⟩ := c_push hD
  rw [p1] at hP hD
  have m1 : q1 ∈ L ++ [q1] := by simp
  obtain ⟨j, hj0⟩ := va_pl_get (X := c_X o ap cA cR cU ρ ra T z) (f := va_up f q1 (.inr (1, [.int 0, .int 0, .int 0, .int 0, .null, .int 0]))) m1
  have hj := hj0
  rw [va_up_self] at hj
  refine c_initW (rest := .ref q1 :: .int (nI N) :: .ref (ap 2) :: rest) (av := [.int k, .int a, .int b, .int v, va_rf kr]) (e1 := .inr (1, [.int k, .int a, .int b, .int v, va_rf kr, .int 0])) X (c_X1_init l D q1 k a b v kr) cw hK hP hD hS hj rfl hsize rfl (by rw [List.map_cons, List.map_cons, List.map_cons, List.sum_cons, List.sum_cons, List.sum_cons]; show 1 + (1 + (1 + _)) ≤ 8; omega) hdg hf (fun H locs hP hD2 hS => ?_)
  have es := va_pl_set (e := .inr (1, [.int k, .int a, .int b, .int v, va_rf kr, .int 0])) (show va_D A (c_X o ap cA cR cU ρ ra T z ++ va_pl (L ++ [q1]) (va_up f q1 (.inr (1, [.int 0, .int 0, .int 0, .int 0, .null, .int 0])))) from hD) m1 hj0
  have hP : va_P D vwCl (List.set (c_X o ap cA cR cU ρ ra T z ++ va_pl (L ++ [q1]) (va_up f q1 (.inr (1, [.int 0, .int 0, .int 0, .int 0, .null, .int 0])))) j _) H := hP
  have hD2 : va_D A (List.set (c_X o ap cA cR cU ρ ra T z ++ va_pl (L ++ [q1]) (va_up f q1 (.inr (1, [.int 0, .int 0, .int 0, .int 0, .null, .int 0])))) j _) := hD2
  have hP : va_P D vwCl _ H := es ▸ hP
  have hD2 : va_D A _ := es ▸ hD2
  obtain ⟨f3, hf3⟩ : ∃ f3, f3 = va_up (va_up f q1 (.inr (1, [.int 0, .int 0, .int 0, .int 0, .null, .int 0]))) q1 (.inr (1, [.int k, .int a, .int b, .int v, va_rf kr, .int 0])) := ⟨_, rfl⟩
  rw [← hf3] at hP hD2
  have e1 : f3 q1 = .inr (1, [.int k, .int a, .int b, .int v, va_rf kr, .int 0]) := by rw [hf3, va_up_self]
  have ef : ∀ x, x ≠ q1 → f3 x = f x := fun x w1 => by rw [hf3, va_up_ne _ _ w1, va_up_ne _ _ w1]
  obtain ⟨k2, hk2⟩ := va_pl_get (X := c_X o ap cA cR cU ρ ra T z) (f := f3) m1
  rw [e1] at hk2
  refine va_astq hx hb hK hP hD2 hS 3 2 k2 1 (r := (RX1, TX1, 6)) rfl rfl hk2 rfl (vp_in_nI h40 (by decide)) hda (fun H locs hP hD hS => ?_)
  rw [nI_clamp (by omega)] at hP hD
  exact kk f3 H locs h1 ef e1 hP hD hS
end CS29
set_option maxHeartbeats 4000000 in
set_option maxRecDepth 100000 in
theorem c_X2_rule (l : Launch) (D : va_G) (o : Nat) (ap : Nat → Nat) (cA cR cU : ClassId) (A : Nat → Prop) (ρ σ ra : Nat → Nat) (L : List Nat) (f0 : Nat → va_E) (S0 : tr_S) (z0 : tr_Z) (k a b : Int32) (N : Nat) (hN : wf S0 N) : c_Ma l yX2_rule wsX2_rule { frames := 121, cells := 1, slots := 6, locals := 2743 } [.int k, .int a, .int b] D o ap cA cR cU A ρ σ ra L f0 S0 z0 1 6 (fun v u => (v, u.1) = a_rule k a b S0) := by
  refine Met.ofW (cc := cX2_rule) (maxL := 6) (ret := (some .int)) (by decide) rfl ?_
  intro p e s m args below meth c s₁ B hml hv
  obtain ⟨rfl, hB, hA⟩ := hv
  have hx := B.exec
  have hb := B.bytes
  have hr := B.returns
  have hts := atoms_spec (ws := wsX2_rule) B.pre
  have hown : s.vm.findClass RX2 = some m.cls := findClass_of_methodNamed B.named
  have hlocks := B.notSynchronized
  have I := c_I.of hB
  have hin2 : ∀ w ∈ wsX20, w ∈ wsX2_rule := fun _ h => List.mem_cons_of_mem _ (List.mem_append_left _ (List.mem_append_left _ (List.mem_append_right _ h)))
  have hin1 : ∀ w ∈ wsX10, w ∈ wsX2_rule := fun _ h => List.mem_cons_of_mem _ (List.mem_append_left _ (List.mem_append_right _ h))
  have hin0 : ∀ w ∈ wsX00, w ∈ wsX2_rule := fun _ h => List.mem_cons_of_mem _ (List.mem_append_right _ h)
  have L11 := hts (.fieldLink RX2 11 "TollRules" "places" "[I") (by decide +kernel)
  have L17 := hts (.fieldLink RX2 17 "TollRules" "rows" "[LTollRules$Row;") (by decide +kernel)
  have L23 := hts (.fieldLink RX2 23 "TollRules" "rules" "[LTollRules$Rule;") (by decide +kernel)
  have L27 := hts (.fieldLink RX2 27 "TollRules" "rulesMade" "I") (by decide +kernel)
  have hl := lv_entry ([.ref o, .int k, .int a, .int b]) (n := 6) (Nat.le_of_ble_eq_true rfl)
  rw [lg_entry_eq]
  generalize (lg_sl ([.ref o, .int k, .int a, .int b]) ++ List.replicate (6 - (lg_sl ([.ref o, .int k, .int a, .int b])).length) Slot.unset).toArray = ls at hl ⊢
  have hl : lv_has ls 6 [(0, .ref o), (1, .int k), (2, .int a), (3, .int b)] := hl
  refine lv_aload_n hx hb dX2_rule_0 rfl (lv_at hl 0 rfl) ?_
  refine lv_iload_n hx hb dX2_rule_1 rfl (lv_at hl 1 rfl) ?_
  refine lv_iload_n hx hb dX2_rule_2 rfl (lv_at hl 2 rfl) ?_
  refine lv_iload_n hx hb dX2_rule_3 rfl (lv_at hl 3 rfl) ?_
  refine c_calli (rest := []) ⟨hx, hb, hml, hown, hts⟩ (c_X2_isAsTold l D o ap cA cR cU A ρ σ ra L _ S0 z0 k a b N hN) (cwV 3 hts gX2_rule_X2_isAsTold rfl rfl rfl (by decide +kernel) ⟨Nat.le_of_ble_eq_true rfl, Nat.le_of_ble_eq_true rfl⟩) I rfl hl.1 rfl (Nat.le_of_ble_eq_true rfl) dX2_rule_4 ⟨Nat.zero_le _, Nat.zero_le _⟩ (fun r4 S4 z4 f1 H locs p4 I => ?_)
  obtain ⟨e4, ⟨hg, ev4⟩ | ⟨hg, ev4⟩⟩ := p4
  · obtain ⟨ea4, eb4⟩ := Prod.mk.inj e4
    rw [ea4, eb4] at I
    rw [ev4]
    refine lv_if_ne (tgt := 12) hx hb dX2_rule_7 (by decide) (fun _ => ?_) (fun h => absurd h (by decide))
    refine lv_aload_n hx hb dX2_rule_12 rfl (lv_at hl 0 rfl) ?_
    refine c_get3 hx hb hts hin2 hown I L27 dX2_rule_13 (x := S0.1 4) rfl ?_
    refine lv_bipush (v := 40) hx hb dX2_rule_16 (by decide) ?_
    refine lv_icmp_lt (tgt := 24) hx hb dX2_rule_18 (by decide) (fun c18 => ?_) (fun c18 => ?_)
    · have h40 : N < 40 := by
        have w1 := hN.1
        have w2 : ¬ nI 40 ≤ nI N := by rw [← hN.2.1]; exact Int32.not_le.mpr c18
        exact nI_ub (by omega) (by decide) w2
      have hn40 : ¬ S0.1 4 = 40 := fun w => absurd c18 (by rw [w]; decide)
      refine lv_iload_n hx hb dX2_rule_24 rfl (lv_at hl 1 rfl) ?_
      refine lv_iconst (v := 4) hx hb dX2_rule_25 (by decide) ?_
      refine lv_icmp_ne (tgt := 38) hx hb dX2_rule_26 (by decide) (fun c26 => ?_) (fun c26 => ?_)
      · refine lv_iconst (v := 0) hx hb dX2_rule_38 (by decide) ?_
        refine lv_istore (lv' := [(4, .int 0), (0, .ref o), (1, .int k), (2, .int a), (3, .int b)]) hx hb dX2_rule_39 hl (by decide) rfl (fun ls hl => ?_)
        refine lv_iload_n hx hb dX2_rule_41 rfl (lv_at hl 2 rfl) ?_
        refine lv_bipush (v := 14) hx hb dX2_rule_42 (by decide) ?_
        refine lv_icmp_ne (tgt := 71) hx hb dX2_rule_44 (by decide) (fun c44 => ?_) (fun c44 => ?_)
        · obtain ⟨TT, hTT⟩ : ∃ TT, TT = S0 := ⟨_, rfl⟩
          rw [← hTT] at I
          have hTr : a_rule k a b S0 = f_add k a b 0 TT := by rw [a_rule_pos hg, if_neg hn40, if_neg c44, if_neg c26, hTT]
          have hTN : wf TT N := by rw [hTT]; exact hN
          have hT4 : TT.1 4 = nI N := hTN.2.1
          refine lv_iload_n hx hb dX2_rule_71 rfl (lv_at hl 2 rfl) ?_
          refine lv_bipush (v := 6) hx hb dX2_rule_72 (by decide) ?_
          refine lv_icmp_ne (tgt := 86) hx hb dX2_rule_74 (by decide) (fun c74 => ?_) (fun c74 => ?_)
          · refine lv_null hx hb dX2_rule_86 ?_
            refine lv_astoreN (lv' := [(5, .null), (4, .int 0), (0, .ref o), (1, .int k), (2, .int a), (3, .int b)]) hx hb dX2_rule_87 hl (by decide) rfl (fun ls hl => ?_)
            refine lv_aload_n hx hb dX2_rule_89 rfl (lv_at hl 2 rfl) ?_
            refine c_get2 hx hb hts hin2 hown I L23 dX2_rule_90 ?_
            refine lv_aload_n hx hb dX2_rule_93 rfl (lv_at hl 2 rfl) ?_
            refine c_get3 hx hb hts hin2 hown I L27 dX2_rule_94 (x := TT.1 4) rfl ?_
            have eK : c_ref ρ (if k = 6 then TT.2 1 a.toNatClampNeg else -1) = none := by rw [if_neg (c74)]; rfl
            rw [hT4]
            refine va_new (ci := 1) (fs := [.int 0, .int 0, .int 0, .int 0, .null, .int 0]) (C := RX1) (T := TX1) (N := 6) hx hb hts hin1 tyX1 tyX1_ok hown (hts (.classLink RX2 21 RX1) (by decide +kernel)) (hts (.instantiable RX1 6) (by decide +kernel)) (hts (.initialized RX1) (by decide +kernel)) I.2.1 I.1 I.2.2.1 I.2.2.2.1 hA rfl (fun j hj => by rcases (show j = 0 ∨ j = 1 ∨ j = 2 ∨ j = 3 ∨ j = 4 ∨ j = 5 by omega) with rfl | rfl | rfl | rfl | rfl | rfl <;> rfl) (Nat.le_of_ble_eq_true rfl) (Nat.le_of_ble_eq_true rfl) dX2_rule_97 (fun q1 H hP hD hS => ?_)
            refine lv_dup hx hb dX2_rule_100 rfl ?_
            refine lv_iload_n hx hb dX2_rule_101 rfl (lv_at hl 3 rfl) ?_
            refine lv_iload_n hx hb dX2_rule_102 rfl (lv_at hl 4 rfl) ?_
            refine lv_iload_n hx hb dX2_rule_103 rfl (lv_at hl 5 rfl) ?_
            refine lv_iload hx hb dX2_rule_104 (lv_at hl 1 rfl) ?_
            refine lv_aloadN hx hb dX2_rule_106 (lv_at hl 0 rfl) ?_
            refine c_rule_new (kr := none) (rest := []) ⟨hx, hb, hml, hown, hts⟩ (cwI 5 hts gX2_rule_X1_init rfl rfl rfl (hts (.initialized RX1) (by decide +kernel)) (hts (.methodLink RX2 108 yX1_init) (by decide +kernel)) (hts (.instanceMethod yX1_init) (by decide +kernel)) rfl (by decide +kernel) ⟨Nat.le_of_ble_eq_true rfl, Nat.le_of_ble_eq_true rfl⟩) h40 I.2.1 hP hD hS hl.1 (Nat.le_of_ble_eq_true rfl) dX2_rule_108 dX2_rule_111 ⟨Nat.le_of_ble_eq_true rfl, Nat.le_of_ble_eq_true rfl⟩ (fun f3 H locs hq1 ef e1 hP hD hS => ?_)
            rw [← eK] at e1
            obtain ⟨hrl, hG2⟩ := c_rule_done (k := k) (a := a) (b := b) (v := 0) hT4 h40 (fun c74 => (ix_nI (ix_of (hg.2.2.2.1.resolve_left (fun q => q.1 c74)) (by decide) (by decide)) (by decide)).2) I.2.2.2.2 hq1 ef e1
            refine lv_aload_n hx hb dX2_rule_112 rfl (lv_at hl 2 rfl) ?_
            refine lv_dup hx hb dX2_rule_113 rfl ?_
            refine va_get (D := D) (cl := vwCl) (C := RX2) (T := TX2) (N := 16) (ci := 2) (v := .int (TT.1 4)) hx hb hts hin2 hown I.2.1 hP 0 rfl rfl 3 (by decide) L27 (fun _ h => h) rfl dX2_rule_114 ?_
            refine lv_iconst (v := 1) hx hb dX2_rule_117 (by decide) ?_
            refine lv_iadd hx hb dX2_rule_118 ?_
            refine va_put (D := D) (cl := vwCl) (C := RX2) (T := TX2) (N := 16) (ci := 2) (v := .int (TT.1 4 + 1)) hx hb hts hin2 tyX2 tyX2_ok nmX2 hown I.2.1 hP hD hS 0 rfl rfl 3 (by decide) L27 (fun _ h => h) rfl (ty := .int) (by decide +kernel) rfl rfl (Nat.le_of_ble_eq_true rfl) dX2_rule_119 (fun H locs hP hD hS => ?_)
            have ew := c_W_add (o := o) (ap := ap) (cA := cA) (cR := cR) (cU := cU) (ρ := ρ) (ra := ra) (z := z0) (g := f3) (L2 := L ++ [q1]) hrl
            rw [ew] at hP hD
            have I : c_I D o ap cA cR cU A ρ σ (va_up ra N q1) (L ++ [q1]) f3 (f_add k a b 0 TT).2 z0 s s.heap H locs := ⟨hP, I.2.1, hD, hS, hG2⟩
            refine lv_aload_n hx hb dX2_rule_122 rfl (lv_at hl 2 rfl) ?_
            refine c_get3 hx hb hts hin2 hown I L27 dX2_rule_123 (x := TT.1 4 + 1) rfl ?_
            refine lv_iconst (v := 1) hx hb dX2_rule_126 (by decide) ?_
            refine lv_isub hx hb dX2_rule_127 ?_
            exact W.widen (k := 1) (n := 6) (Nat.le_of_ble_eq_true rfl) (Nat.le_of_ble_eq_true rfl) (c_iret2 hx hb hr hlocks I dX2_rule_128 (by rw [hTr]; rfl))
          · refine lv_aload_n hx hb dX2_rule_77 rfl (lv_at hl 1 rfl) ?_
            refine c_get1 hx hb hts hin2 hown I L17 dX2_rule_78 ?_
            refine lv_iload_n hx hb dX2_rule_81 rfl (lv_at hl 3 rfl) ?_
            refine c_row_ld hx hb I (ix_of (hg.2.2.2.1.resolve_left (fun q => q.1 c74)) (by decide) (by decide)) dX2_rule_82 (fun n82 => ?_) (fun n82 => ?_)
            · have e9 := (neg_row (hTN.2.2.2.1 _ (ix_nI (ix_of (hg.2.2.2.1.resolve_left (fun q => q.1 c74)) (by decide) (by decide)) (by decide)).2)).1 n82
              refine lv_goto (tgt := 87) hx hb dX2_rule_83 (by decide) ?_
              refine lv_astoreN (lv' := [(5, .null), (4, .int 0), (0, .ref o), (1, .int k), (2, .int a), (3, .int b)]) hx hb dX2_rule_87 hl (by decide) rfl (fun ls hl => ?_)
              refine lv_aload_n hx hb dX2_rule_89 rfl (lv_at hl 2 rfl) ?_
              refine c_get2 hx hb hts hin2 hown I L23 dX2_rule_90 ?_
              refine lv_aload_n hx hb dX2_rule_93 rfl (lv_at hl 2 rfl) ?_
              refine c_get3 hx hb hts hin2 hown I L27 dX2_rule_94 (x := TT.1 4) rfl ?_
              have eK : c_ref ρ (if k = 6 then TT.2 1 a.toNatClampNeg else -1) = none := by rw [if_pos c74, e9]; rfl
              rw [hT4]
              refine va_new (ci := 1) (fs := [.int 0, .int 0, .int 0, .int 0, .null, .int 0]) (C := RX1) (T := TX1) (N := 6) hx hb hts hin1 tyX1 tyX1_ok hown (hts (.classLink RX2 21 RX1) (by decide +kernel)) (hts (.instantiable RX1 6) (by decide +kernel)) (hts (.initialized RX1) (by decide +kernel)) I.2.1 I.1 I.2.2.1 I.2.2.2.1 hA rfl (fun j hj => by rcases (show j = 0 ∨ j = 1 ∨ j = 2 ∨ j = 3 ∨ j = 4 ∨ j = 5 by omega) with rfl | rfl | rfl | rfl | rfl | rfl <;> rfl) (Nat.le_of_ble_eq_true rfl) (Nat.le_of_ble_eq_true rfl) dX2_rule_97 (fun q1 H hP hD hS => ?_)
              refine lv_dup hx hb dX2_rule_100 rfl ?_
              refine lv_iload_n hx hb dX2_rule_101 rfl (lv_at hl 3 rfl) ?_
              refine lv_iload_n hx hb dX2_rule_102 rfl (lv_at hl 4 rfl) ?_
              refine lv_iload_n hx hb dX2_rule_103 rfl (lv_at hl 5 rfl) ?_
              refine lv_iload hx hb dX2_rule_104 (lv_at hl 1 rfl) ?_
              refine lv_aloadN hx hb dX2_rule_106 (lv_at hl 0 rfl) ?_
              refine c_rule_new (kr := none) (rest := []) ⟨hx, hb, hml, hown, hts⟩ (cwI 5 hts gX2_rule_X1_init rfl rfl rfl (hts (.initialized RX1) (by decide +kernel)) (hts (.methodLink RX2 108 yX1_init) (by decide +kernel)) (hts (.instanceMethod yX1_init) (by decide +kernel)) rfl (by decide +kernel) ⟨Nat.le_of_ble_eq_true rfl, Nat.le_of_ble_eq_true rfl⟩) h40 I.2.1 hP hD hS hl.1 (Nat.le_of_ble_eq_true rfl) dX2_rule_108 dX2_rule_111 ⟨Nat.le_of_ble_eq_true rfl, Nat.le_of_ble_eq_true rfl⟩ (fun f3 H locs hq1 ef e1 hP hD hS => ?_)
              rw [← eK] at e1
              obtain ⟨hrl, hG2⟩ := c_rule_done (k := k) (a := a) (b := b) (v := 0) hT4 h40 (fun c74 => (ix_nI (ix_of (hg.2.2.2.1.resolve_left (fun q => q.1 c74)) (by decide) (by decide)) (by decide)).2) I.2.2.2.2 hq1 ef e1
              refine lv_aload_n hx hb dX2_rule_112 rfl (lv_at hl 2 rfl) ?_
              refine lv_dup hx hb dX2_rule_113 rfl ?_
              refine va_get (D := D) (cl := vwCl) (C := RX2) (T := TX2) (N := 16) (ci := 2) (v := .int (TT.1 4)) hx hb hts hin2 hown I.2.1 hP 0 rfl rfl 3 (by decide) L27 (fun _ h => h) rfl dX2_rule_114 ?_
              refine lv_iconst (v := 1) hx hb dX2_rule_117 (by decide) ?_
              refine lv_iadd hx hb dX2_rule_118 ?_
              refine va_put (D := D) (cl := vwCl) (C := RX2) (T := TX2) (N := 16) (ci := 2) (v := .int (TT.1 4 + 1)) hx hb hts hin2 tyX2 tyX2_ok nmX2 hown I.2.1 hP hD hS 0 rfl rfl 3 (by decide) L27 (fun _ h => h) rfl (ty := .int) (by decide +kernel) rfl rfl (Nat.le_of_ble_eq_true rfl) dX2_rule_119 (fun H locs hP hD hS => ?_)
              have ew := c_W_add (o := o) (ap := ap) (cA := cA) (cR := cR) (cU := cU) (ρ := ρ) (ra := ra) (z := z0) (g := f3) (L2 := L ++ [q1]) hrl
              rw [ew] at hP hD
              have I : c_I D o ap cA cR cU A ρ σ (va_up ra N q1) (L ++ [q1]) f3 (f_add k a b 0 TT).2 z0 s s.heap H locs := ⟨hP, I.2.1, hD, hS, hG2⟩
              refine lv_aload_n hx hb dX2_rule_122 rfl (lv_at hl 2 rfl) ?_
              refine c_get3 hx hb hts hin2 hown I L27 dX2_rule_123 (x := TT.1 4 + 1) rfl ?_
              refine lv_iconst (v := 1) hx hb dX2_rule_126 (by decide) ?_
              refine lv_isub hx hb dX2_rule_127 ?_
              exact W.widen (k := 1) (n := 6) (Nat.le_of_ble_eq_true rfl) (Nat.le_of_ble_eq_true rfl) (c_iret2 hx hb hr hlocks I dX2_rule_128 (by rw [hTr]; rfl))
            · obtain ⟨q, hq48, e9⟩ := (neg_row (hTN.2.2.2.1 _ (ix_nI (ix_of (hg.2.2.2.1.resolve_left (fun q => q.1 c74)) (by decide) (by decide)) (by decide)).2)).2 n82
              rw [show (TT.2 1 a.toNatClampNeg).toNatClampNeg = q by rw [e9, nI_clamp (show q < 2 ^ 31 by omega)]]
              refine lv_goto (tgt := 87) hx hb dX2_rule_83 (by decide) ?_
              refine lv_astore (lv' := [(5, .ref (ρ q)), (4, .int 0), (0, .ref o), (1, .int k), (2, .int a), (3, .int b)]) hx hb dX2_rule_87 hl (by decide) rfl (fun ls hl => ?_)
              refine lv_aload_n hx hb dX2_rule_89 rfl (lv_at hl 2 rfl) ?_
              refine c_get2 hx hb hts hin2 hown I L23 dX2_rule_90 ?_
              refine lv_aload_n hx hb dX2_rule_93 rfl (lv_at hl 2 rfl) ?_
              refine c_get3 hx hb hts hin2 hown I L27 dX2_rule_94 (x := TT.1 4) rfl ?_
              have eK : c_ref ρ (if k = 6 then TT.2 1 a.toNatClampNeg else -1) = (some (ρ q)) := by rw [if_pos c74, e9]; unfold c_ref; rw [if_neg (nI_pos (by omega)), nI_clamp (by omega)]
              rw [hT4]
              refine va_new (ci := 1) (fs := [.int 0, .int 0, .int 0, .int 0, .null, .int 0]) (C := RX1) (T := TX1) (N := 6) hx hb hts hin1 tyX1 tyX1_ok hown (hts (.classLink RX2 21 RX1) (by decide +kernel)) (hts (.instantiable RX1 6) (by decide +kernel)) (hts (.initialized RX1) (by decide +kernel)) I.2.1 I.1 I.2.2.1 I.2.2.2.1 hA rfl (fun j hj => by rcases (show j = 0 ∨ j = 1 ∨ j = 2 ∨ j = 3 ∨ j = 4 ∨ j = 5 by omega) with rfl | rfl | rfl | rfl | rfl | rfl <;> rfl) (Nat.le_of_ble_eq_true rfl) (Nat.le_of_ble_eq_true rfl) dX2_rule_97 (fun q1 H hP hD hS => ?_)
              refine lv_dup hx hb dX2_rule_100 rfl ?_
              refine lv_iload_n hx hb dX2_rule_101 rfl (lv_at hl 3 rfl) ?_
              refine lv_iload_n hx hb dX2_rule_102 rfl (lv_at hl 4 rfl) ?_
              refine lv_iload_n hx hb dX2_rule_103 rfl (lv_at hl 5 rfl) ?_
              refine lv_iload hx hb dX2_rule_104 (lv_at hl 1 rfl) ?_
              refine lv_aload hx hb dX2_rule_106 (lv_at hl 0 rfl) ?_
              refine c_rule_new (kr := (some (ρ q))) (rest := []) ⟨hx, hb, hml, hown, hts⟩ (cwI 5 hts gX2_rule_X1_init rfl rfl rfl (hts (.initialized RX1) (by decide +kernel)) (hts (.methodLink RX2 108 yX1_init) (by decide +kernel)) (hts (.instanceMethod yX1_init) (by decide +kernel)) rfl (by decide +kernel) ⟨Nat.le_of_ble_eq_true rfl, Nat.le_of_ble_eq_true rfl⟩) h40 I.2.1 hP hD hS hl.1 (Nat.le_of_ble_eq_true rfl) dX2_rule_108 dX2_rule_111 ⟨Nat.le_of_ble_eq_true rfl, Nat.le_of_ble_eq_true rfl⟩ (fun f3 H locs hq1 ef e1 hP hD hS => ?_)
              rw [← eK] at e1
              obtain ⟨hrl, hG2⟩ := c_rule_done (k := k) (a := a) (b := b) (v := 0) hT4 h40 (fun c74 => (ix_nI (ix_of (hg.2.2.2.1.resolve_left (fun q => q.1 c74)) (by decide) (by decide)) (by decide)).2) I.2.2.2.2 hq1 ef e1
              refine lv_aload_n hx hb dX2_rule_112 rfl (lv_at hl 2 rfl) ?_
              refine lv_dup hx hb dX2_rule_113 rfl ?_
              refine va_get (D := D) (cl := vwCl) (C := RX2) (T := TX2) (N := 16) (ci := 2) (v := .int (TT.1 4)) hx hb hts hin2 hown I.2.1 hP 0 rfl rfl 3 (by decide) L27 (fun _ h => h) rfl dX2_rule_114 ?_
              refine lv_iconst (v := 1) hx hb dX2_rule_117 (by decide) ?_
              refine lv_iadd hx hb dX2_rule_118 ?_
              refine va_put (D := D) (cl := vwCl) (C := RX2) (T := TX2) (N := 16) (ci := 2) (v := .int (TT.1 4 + 1)) hx hb hts hin2 tyX2 tyX2_ok nmX2 hown I.2.1 hP hD hS 0 rfl rfl 3 (by decide) L27 (fun _ h => h) rfl (ty := .int) (by decide +kernel) rfl rfl (Nat.le_of_ble_eq_true rfl) dX2_rule_119 (fun H locs hP hD hS => ?_)
              have ew := c_W_add (o := o) (ap := ap) (cA := cA) (cR := cR) (cU := cU) (ρ := ρ) (ra := ra) (z := z0) (g := f3) (L2 := L ++ [q1]) hrl
              rw [ew] at hP hD
              have I : c_I D o ap cA cR cU A ρ σ (va_up ra N q1) (L ++ [q1]) f3 (f_add k a b 0 TT).2 z0 s s.heap H locs := ⟨hP, I.2.1, hD, hS, hG2⟩
              refine lv_aload_n hx hb dX2_rule_122 rfl (lv_at hl 2 rfl) ?_
              refine c_get3 hx hb hts hin2 hown I L27 dX2_rule_123 (x := TT.1 4 + 1) rfl ?_
              refine lv_iconst (v := 1) hx hb dX2_rule_126 (by decide) ?_
              refine lv_isub hx hb dX2_rule_127 ?_
              exact W.widen (k := 1) (n := 6) (Nat.le_of_ble_eq_true rfl) (Nat.le_of_ble_eq_true rfl) (c_iret2 hx hb hr hlocks I dX2_rule_128 (by rw [hTr]; rfl))
        · obtain ⟨ka, hka, eka⟩ := rule_of hN (hg.2.1.resolve_left (fun q => q.2 c44))
          rw [eka] at hl
          refine lv_aload_n hx hb dX2_rule_47 rfl (lv_at hl 1 rfl) ?_
          refine c_callv (rest := []) ⟨hx, hb, hml, hown, hts⟩ (c_X2_begin l D o ap cA cR cU A ρ σ ra L _ S0 z0) (cwV 0 hts gX2_rule_X2_begin rfl rfl rfl (by decide +kernel) ⟨Nat.le_of_ble_eq_true rfl, Nat.le_of_ble_eq_true rfl⟩) I rfl hl.1 rfl (Nat.le_of_ble_eq_true rfl) dX2_rule_48 ⟨Nat.zero_le _, Nat.zero_le _⟩ (fun S48 z48 f1 H locs p48 I => ?_)
          obtain ⟨ea48, eb48⟩ := Prod.mk.inj p48
          rw [ea48, eb48] at I
          have I : c_I D o ap cA cR cU A ρ σ ra L f1 (e_start S0) (0, z0.2.1, z0.2.2) s s.heap H locs := I
          refine lv_aload_n hx hb dX2_rule_51 rfl (lv_at hl 1 rfl) ?_
          refine lv_iload_n hx hb dX2_rule_52 rfl (lv_at hl 3 rfl) ?_
          refine lv_iload_n hx hb dX2_rule_53 rfl (lv_at hl 4 rfl) ?_
          refine c_calli (rest := []) ⟨hx, hb, hml, hown, hts⟩ (c_X2_give l N 40 D o ap cA cR cU A ρ σ ra L _ (e_start S0) (0, z0.2.1, z0.2.2) ka b (by have := hN.1; omega) (by omega) (e_go.of hN).1 (e_go.of hN).2.2 (e_go.of hN).2.1 rfl) (cwV 2 hts gX2_rule_X2_give rfl rfl rfl (by decide +kernel) ⟨Nat.le_of_ble_eq_true rfl, Nat.le_of_ble_eq_true rfl⟩) I rfl hl.1 rfl (Nat.le_of_ble_eq_true rfl) dX2_rule_54 ⟨Nat.zero_le _, Nat.zero_le _⟩ (fun r54 S54 z54 f1 H locs p54 I => ?_)
          obtain ⟨q54, hq54⟩ : ∃ qx, qx = ev 40 (nI ka) b (e_start S0) := ⟨_, rfl⟩
          rw [← hq54] at p54
          obtain ⟨ea54, eb54, ec54, ed54, ee54⟩ := p54
          have ea54 : S54 = q54.2 := ea54
          have eb54 : z54.2.2 = (0, z0.2.1, z0.2.2).2.2 := eb54
          have ec54 : z54.1 = q54.2.1 16 := ec54
          have ed54 : ¬ q54.2.1 16 = 0 → z54.2.1 = q54.2.1 17 := ed54
          rw [ea54] at I
          have sm54 : e_sm (e_start S0) q54.2 := by rw [hq54]; exact ev_sm 40 _ _ _
          have ps54 : e_pos q54.2 := by rw [hq54]; exact ev_pos 40 _ _ _ (Or.inl (e_go.of hN).2.1)
          have go54 : q54.2.1 16 = 0 → e_go q54.2 N := fun h => by rw [hq54] at h ⊢; exact (e_go.of hN).ev 40 _ _ h
          rw [← eka] at hl
          refine lv_istore (lv' := [(4, .int r54), (0, .ref o), (1, .int k), (2, .int a), (3, .int b)]) hx hb dX2_rule_57 hl (by decide) rfl (fun ls hl => ?_)
          refine lv_aload_n hx hb dX2_rule_59 rfl (lv_at hl 1 rfl) ?_
          refine c_isRefused ⟨hx, hb, hml, hown, hts⟩ gX2_rule_X2_isRefused ⟨Nat.le_of_ble_eq_true rfl, Nat.le_of_ble_eq_true rfl⟩ ⟨Nat.zero_le _, Nat.zero_le _⟩ I hl.1 (Nat.le_of_ble_eq_true rfl) dX2_rule_60 (fun h60 f1 H locs I => ?_) (fun h60 f1 H locs I => ?_)
          · refine lv_if_eq (tgt := 71) hx hb dX2_rule_63 (by decide) (fun h => absurd h (by decide)) (fun _ => ?_)
            refine lv_aload_n hx hb dX2_rule_66 rfl (lv_at hl 1 rfl) ?_
            refine c_calli (rest := []) ⟨hx, hb, hml, hown, hts⟩ (c_X2_fail l D o ap cA cR cU A ρ σ ra L _ q54.2 z54) (cwV 0 hts gX2_rule_X2_fail rfl rfl rfl (by decide +kernel) ⟨Nat.le_of_ble_eq_true rfl, Nat.le_of_ble_eq_true rfl⟩) I rfl hl.1 rfl (Nat.le_of_ble_eq_true rfl) dX2_rule_67 ⟨Nat.zero_le _, Nat.zero_le _⟩ (fun r67 S67 z67 f1 H locs p67 I => ?_)
            have fa : r67 = -10 - z54.1 := congrArg Prod.fst p67
            have fb : S67 = sF (sF (sF q54.2 21 z54.1) 22 z54.2.1) 23 (q54.2.1 23 + 1) := congrArg (fun t => t.2.1) p67
            have hne : ¬ q54.2.1 16 = 0 := fun h => h60 (ec54.trans h)
            rw [fb, ec54, ed54 hne] at I
            rw [ec54] at fa
            refine W.widen (k := 1) (n := 6) (by decide) (by decide) (c_iret2 (S := (f_ends 1 q54.2).2) hx hb hr hlocks (c_I_no hne ps54 I) dX2_rule_70 ?_)
            rw [a_rule_pos hg, if_neg hn40, if_pos c44]
            unfold f_now
            rw [eka, ← hq54, if_neg hne, f_ends_no 1 hne ps54, fa]
          · refine lv_if_eq (tgt := 71) hx hb dX2_rule_63 (by decide) (fun _ => ?_) (fun h => absurd h (by decide))
            have h0 : q54.2.1 16 = 0 := ec54.symm.trans h60
            rw [ee54 h0] at hl
            have I := c_I_ok (w := 1) h0 I
            obtain ⟨TT, hTT⟩ : ∃ TT, TT = (f_ends 1 q54.2).2 := ⟨_, rfl⟩
            rw [← hTT] at I
            have hTr : a_rule k a b S0 = f_add k a b q54.1 TT := by
              rw [a_rule_pos hg, if_neg hn40, if_pos c44]
              unfold f_now
              rw [eka, ← hq54, if_pos h0, hTT]
            have hTN : wf TT N := by
              rw [hTT, f_ends_ok 1 h0]
              exact (go54 h0).1.sm ⟨rfl, rfl, rfl, rfl, rfl, rfl, rfl, rfl, rfl⟩
            have hT4 : TT.1 4 = nI N := hTN.2.1
            refine lv_iload_n hx hb dX2_rule_71 rfl (lv_at hl 2 rfl) ?_
            refine lv_bipush (v := 6) hx hb dX2_rule_72 (by decide) ?_
            refine lv_icmp_ne (tgt := 86) hx hb dX2_rule_74 (by decide) (fun _ => ?_) (fun h => absurd (c44.symm.trans h) (by decide))
            refine lv_null hx hb dX2_rule_86 ?_
            refine lv_astoreN (lv' := [(5, .null), (4, .int q54.1), (0, .ref o), (1, .int k), (2, .int a), (3, .int b)]) hx hb dX2_rule_87 hl (by decide) rfl (fun ls hl => ?_)
            refine lv_aload_n hx hb dX2_rule_89 rfl (lv_at hl 2 rfl) ?_
            refine c_get2 hx hb hts hin2 hown I L23 dX2_rule_90 ?_
            refine lv_aload_n hx hb dX2_rule_93 rfl (lv_at hl 2 rfl) ?_
            refine c_get3 hx hb hts hin2 hown I L27 dX2_rule_94 (x := TT.1 4) rfl ?_
            have eK : c_ref ρ (if k = 6 then TT.2 1 a.toNatClampNeg else -1) = none := by rw [if_neg (fun q => absurd (c44.symm.trans q) (by decide))]; rfl
            rw [hT4]
            refine va_new (ci := 1) (fs := [.int 0, .int 0, .int 0, .int 0, .null, .int 0]) (C := RX1) (T := TX1) (N := 6) hx hb hts hin1 tyX1 tyX1_ok hown (hts (.classLink RX2 21 RX1) (by decide +kernel)) (hts (.instantiable RX1 6) (by decide +kernel)) (hts (.initialized RX1) (by decide +kernel)) I.2.1 I.1 I.2.2.1 I.2.2.2.1 hA rfl (fun j hj => by rcases (show j = 0 ∨ j = 1 ∨ j = 2 ∨ j = 3 ∨ j = 4 ∨ j = 5 by omega) with rfl | rfl | rfl | rfl | rfl | rfl <;> rfl) (Nat.le_of_ble_eq_true rfl) (Nat.le_of_ble_eq_true rfl) dX2_rule_97 (fun q1 H hP hD hS => ?_)
            refine lv_dup hx hb dX2_rule_100 rfl ?_
            refine lv_iload_n hx hb dX2_rule_101 rfl (lv_at hl 3 rfl) ?_
            refine lv_iload_n hx hb dX2_rule_102 rfl (lv_at hl 4 rfl) ?_
            refine lv_iload_n hx hb dX2_rule_103 rfl (lv_at hl 5 rfl) ?_
            refine lv_iload hx hb dX2_rule_104 (lv_at hl 1 rfl) ?_
            refine lv_aloadN hx hb dX2_rule_106 (lv_at hl 0 rfl) ?_
            refine c_rule_new (kr := none) (rest := []) ⟨hx, hb, hml, hown, hts⟩ (cwI 5 hts gX2_rule_X1_init rfl rfl rfl (hts (.initialized RX1) (by decide +kernel)) (hts (.methodLink RX2 108 yX1_init) (by decide +kernel)) (hts (.instanceMethod yX1_init) (by decide +kernel)) rfl (by decide +kernel) ⟨Nat.le_of_ble_eq_true rfl, Nat.le_of_ble_eq_true rfl⟩) h40 I.2.1 hP hD hS hl.1 (Nat.le_of_ble_eq_true rfl) dX2_rule_108 dX2_rule_111 ⟨Nat.le_of_ble_eq_true rfl, Nat.le_of_ble_eq_true rfl⟩ (fun f3 H locs hq1 ef e1 hP hD hS => ?_)
            rw [← eK] at e1
            obtain ⟨hrl, hG2⟩ := c_rule_done (k := k) (a := a) (b := b) (v := q54.1) hT4 h40 (fun c74 => (ix_nI (ix_of (hg.2.2.2.1.resolve_left (fun q => q.1 c74)) (by decide) (by decide)) (by decide)).2) I.2.2.2.2 hq1 ef e1
            refine lv_aload_n hx hb dX2_rule_112 rfl (lv_at hl 2 rfl) ?_
            refine lv_dup hx hb dX2_rule_113 rfl ?_
            refine va_get (D := D) (cl := vwCl) (C := RX2) (T := TX2) (N := 16) (ci := 2) (v := .int (TT.1 4)) hx hb hts hin2 hown I.2.1 hP 0 rfl rfl 3 (by decide) L27 (fun _ h => h) rfl dX2_rule_114 ?_
            refine lv_iconst (v := 1) hx hb dX2_rule_117 (by decide) ?_
            refine lv_iadd hx hb dX2_rule_118 ?_
            refine va_put (D := D) (cl := vwCl) (C := RX2) (T := TX2) (N := 16) (ci := 2) (v := .int (TT.1 4 + 1)) hx hb hts hin2 tyX2 tyX2_ok nmX2 hown I.2.1 hP hD hS 0 rfl rfl 3 (by decide) L27 (fun _ h => h) rfl (ty := .int) (by decide +kernel) rfl rfl (Nat.le_of_ble_eq_true rfl) dX2_rule_119 (fun H locs hP hD hS => ?_)
            have ew := c_W_add (o := o) (ap := ap) (cA := cA) (cR := cR) (cU := cU) (ρ := ρ) (ra := ra) (z := z54) (g := f3) (L2 := L ++ [q1]) hrl
            rw [ew] at hP hD
            have I : c_I D o ap cA cR cU A ρ σ (va_up ra N q1) (L ++ [q1]) f3 (f_add k a b q54.1 TT).2 z54 s s.heap H locs := ⟨hP, I.2.1, hD, hS, hG2⟩
            refine lv_aload_n hx hb dX2_rule_122 rfl (lv_at hl 2 rfl) ?_
            refine c_get3 hx hb hts hin2 hown I L27 dX2_rule_123 (x := TT.1 4 + 1) rfl ?_
            refine lv_iconst (v := 1) hx hb dX2_rule_126 (by decide) ?_
            refine lv_isub hx hb dX2_rule_127 ?_
            exact W.widen (k := 1) (n := 6) (Nat.le_of_ble_eq_true rfl) (Nat.le_of_ble_eq_true rfl) (c_iret2 hx hb hr hlocks I dX2_rule_128 (by rw [hTr]; rfl))
      · refine lv_aload_n hx hb dX2_rule_29 rfl (lv_at hl 0 rfl) ?_
        refine c_get0 hx hb hts hin2 hown I L11 dX2_rule_30 ?_
        refine lv_iload_n hx hb dX2_rule_33 rfl (lv_at hl 2 rfl) ?_
        refine c_ald0 hx hb I (ix_of (hg.2.2.1.resolve_left (fun q => q.1 c26)) (by decide) (by decide)) dX2_rule_34 (x := S0.2 0 a.toNatClampNeg) rfl ?_
        refine lv_goto (tgt := 39) hx hb dX2_rule_35 (by decide) ?_
        refine lv_istore (lv' := [(4, .int (S0.2 0 a.toNatClampNeg)), (0, .ref o), (1, .int k), (2, .int a), (3, .int b)]) hx hb dX2_rule_39 hl (by decide) rfl (fun ls hl => ?_)
        refine lv_iload_n hx hb dX2_rule_41 rfl (lv_at hl 2 rfl) ?_
        refine lv_bipush (v := 14) hx hb dX2_rule_42 (by decide) ?_
        refine lv_icmp_ne (tgt := 71) hx hb dX2_rule_44 (by decide) (fun _ => ?_) (fun h => absurd (c26.symm.trans h) (by decide))
        obtain ⟨TT, hTT⟩ : ∃ TT, TT = S0 := ⟨_, rfl⟩
        rw [← hTT] at I
        have hTr : a_rule k a b S0 = f_add k a b (S0.2 0 a.toNatClampNeg) TT := by rw [a_rule_pos hg, if_neg hn40, if_neg (show ¬ k = 14 from fun q => absurd (c26.symm.trans q) (by decide)), if_pos c26, hTT]
        have hTN : wf TT N := by rw [hTT]; exact hN
        have hT4 : TT.1 4 = nI N := hTN.2.1
        refine lv_iload_n hx hb dX2_rule_71 rfl (lv_at hl 2 rfl) ?_
        refine lv_bipush (v := 6) hx hb dX2_rule_72 (by decide) ?_
        refine lv_icmp_ne (tgt := 86) hx hb dX2_rule_74 (by decide) (fun _ => ?_) (fun h => absurd (c26.symm.trans h) (by decide))
        refine lv_null hx hb dX2_rule_86 ?_
        refine lv_astoreN (lv' := [(5, .null), (4, .int (S0.2 0 a.toNatClampNeg)), (0, .ref o), (1, .int k), (2, .int a), (3, .int b)]) hx hb dX2_rule_87 hl (by decide) rfl (fun ls hl => ?_)
        refine lv_aload_n hx hb dX2_rule_89 rfl (lv_at hl 2 rfl) ?_
        refine c_get2 hx hb hts hin2 hown I L23 dX2_rule_90 ?_
        refine lv_aload_n hx hb dX2_rule_93 rfl (lv_at hl 2 rfl) ?_
        refine c_get3 hx hb hts hin2 hown I L27 dX2_rule_94 (x := TT.1 4) rfl ?_
        have eK : c_ref ρ (if k = 6 then TT.2 1 a.toNatClampNeg else -1) = none := by rw [if_neg (fun q => absurd (c26.symm.trans q) (by decide))]; rfl
        rw [hT4]
        refine va_new (ci := 1) (fs := [.int 0, .int 0, .int 0, .int 0, .null, .int 0]) (C := RX1) (T := TX1) (N := 6) hx hb hts hin1 tyX1 tyX1_ok hown (hts (.classLink RX2 21 RX1) (by decide +kernel)) (hts (.instantiable RX1 6) (by decide +kernel)) (hts (.initialized RX1) (by decide +kernel)) I.2.1 I.1 I.2.2.1 I.2.2.2.1 hA rfl (fun j hj => by rcases (show j = 0 ∨ j = 1 ∨ j = 2 ∨ j = 3 ∨ j = 4 ∨ j = 5 by omega) with rfl | rfl | rfl | rfl | rfl | rfl <;> rfl) (Nat.le_of_ble_eq_true rfl) (Nat.le_of_ble_eq_true rfl) dX2_rule_97 (fun q1 H hP hD hS => ?_)
        refine lv_dup hx hb dX2_rule_100 rfl ?_
        refine lv_iload_n hx hb dX2_rule_101 rfl (lv_at hl 3 rfl) ?_
        refine lv_iload_n hx hb dX2_rule_102 rfl (lv_at hl 4 rfl) ?_
        refine lv_iload_n hx hb dX2_rule_103 rfl (lv_at hl 5 rfl) ?_
        refine lv_iload hx hb dX2_rule_104 (lv_at hl 1 rfl) ?_
        refine lv_aloadN hx hb dX2_rule_106 (lv_at hl 0 rfl) ?_
        refine c_rule_new (kr := none) (rest := []) ⟨hx, hb, hml, hown, hts⟩ (cwI 5 hts gX2_rule_X1_init rfl rfl rfl (hts (.initialized RX1) (by decide +kernel)) (hts (.methodLink RX2 108 yX1_init) (by decide +kernel)) (hts (.instanceMethod yX1_init) (by decide +kernel)) rfl (by decide +kernel) ⟨Nat.le_of_ble_eq_true rfl, Nat.le_of_ble_eq_true rfl⟩) h40 I.2.1 hP hD hS hl.1 (Nat.le_of_ble_eq_true rfl) dX2_rule_108 dX2_rule_111 ⟨Nat.le_of_ble_eq_true rfl, Nat.le_of_ble_eq_true rfl⟩ (fun f3 H locs hq1 ef e1 hP hD hS => ?_)
        rw [← eK] at e1
        obtain ⟨hrl, hG2⟩ := c_rule_done (k := k) (a := a) (b := b) (v := S0.2 0 a.toNatClampNeg) hT4 h40 (fun c74 => (ix_nI (ix_of (hg.2.2.2.1.resolve_left (fun q => q.1 c74)) (by decide) (by decide)) (by decide)).2) I.2.2.2.2 hq1 ef e1
        refine lv_aload_n hx hb dX2_rule_112 rfl (lv_at hl 2 rfl) ?_
        refine lv_dup hx hb dX2_rule_113 rfl ?_
        refine va_get (D := D) (cl := vwCl) (C := RX2) (T := TX2) (N := 16) (ci := 2) (v := .int (TT.1 4)) hx hb hts hin2 hown I.2.1 hP 0 rfl rfl 3 (by decide) L27 (fun _ h => h) rfl dX2_rule_114 ?_
        refine lv_iconst (v := 1) hx hb dX2_rule_117 (by decide) ?_
        refine lv_iadd hx hb dX2_rule_118 ?_
        refine va_put (D := D) (cl := vwCl) (C := RX2) (T := TX2) (N := 16) (ci := 2) (v := .int (TT.1 4 + 1)) hx hb hts hin2 tyX2 tyX2_ok nmX2 hown I.2.1 hP hD hS 0 rfl rfl 3 (by decide) L27 (fun _ h => h) rfl (ty := .int) (by decide +kernel) rfl rfl (Nat.le_of_ble_eq_true rfl) dX2_rule_119 (fun H locs hP hD hS => ?_)
        have ew := c_W_add (o := o) (ap := ap) (cA := cA) (cR := cR) (cU := cU) (ρ := ρ) (ra := ra) (z := z0) (g := f3) (L2 := L ++ [q1]) hrl
        rw [ew] at hP hD
        have I : c_I D o ap cA cR cU A ρ σ (va_up ra N q1) (L ++ [q1]) f3 (f_add k a b (S0.2 0 a.toNatClampNeg) TT).2 z0 s s.heap H locs := ⟨hP, I.2.1, hD, hS, hG2⟩
        refine lv_aload_n hx hb dX2_rule_122 rfl (lv_at hl 2 rfl) ?_
        refine c_get3 hx hb hts hin2 hown I L27 dX2_rule_123 (x := TT.1 4 + 1) rfl ?_
        refine lv_iconst (v := 1) hx hb dX2_rule_126 (by decide) ?_
        refine lv_isub hx hb dX2_rule_127 ?_
        exact W.widen (k := 1) (n := 6) (Nat.le_of_ble_eq_true rfl) (Nat.le_of_ble_eq_true rfl) (c_iret2 hx hb hr hlocks I dX2_rule_128 (by rw [hTr]; rfl))
    · refine lv_bipush (v := (-2)) hx hb dX2_rule_21 (by decide) ?_
      have e40 : S0.1 4 = 40 := by
        have w1 := hN.1
        have w2 := nI_lb (n := 40) (j := N) (by omega) (by decide) (by rw [← hN.2.1]; exact Int32.not_lt.mp c18)
        rw [hN.2.1, show N = 40 by omega]
        rfl
      exact W.widen (k := 1) (n := 6) (by decide) (by decide) (c_iret2 hx hb hr hlocks I dX2_rule_23 (by rw [a_rule_pos hg, if_pos e40]))
  · obtain ⟨ea4, eb4⟩ := Prod.mk.inj e4
    rw [ea4, eb4] at I
    rw [ev4]
    refine lv_if_ne (tgt := 12) hx hb dX2_rule_7 (by decide) (fun h => absurd h (by decide)) (fun _ => ?_)
    refine lv_iconst (v := (-1)) hx hb dX2_rule_10 (by decide) ?_
    exact W.widen (k := 1) (n := 6) (by decide) (by decide) (c_iret2 hx hb hr hlocks I dX2_rule_11 (by rw [a_rule_neg hg]))

