/-- what the reference's gives() does, by ev -/
theorem gives_ev {S0 : tr_S} {N k : Nat} {x : Int32} (hN : wf S0 N) (hk : k < N) (hst : ∃ st : Nat, st ≤ 64 ∧ 0 ≤ st ∧ S0.1 18 = nI st) (h0 : S0.1 16 = 0) : ∃ (n : Nat) (b : Int32) (T : tr_S), f_loop n (f_begins (nI k) x (sF (sF S0 11 0) 16 0)).2 = some (b, T) ∧ ((b = 1 ∧ (ev 40 (nI k) x S0).2.1 16 = 0 ∧ T.1 26 = (ev 40 (nI k) x S0).1) ∨ (b = 0 ∧ ¬ (ev 40 (nI k) x S0).2.1 16 = 0)) ∧ e_eq (ev 40 (nI k) x S0).2 T := by
  have hC : e_eq S0 (sF (sF S0 11 0) 16 0) := by
    refine ⟨fun j a b => ?_, fun _ _ => rfl⟩
    rw [sF_F, sF_F, if_neg a]
    by_cases q : j = 16
    · rw [if_pos q, q, h0]
    · rw [if_neg q]
  have hN40 := hN.1
  obtain ⟨hv, hE⟩ := ev_eq 40 (nI k) x hC
  have pos := ev_pos 40 (nI k) x (sF (sF S0 11 0) 16 0) (Or.inl rfl)
  have o := sub_run (ev_run N 40) (kb := k) (y := x) (w := 0) (C := sF (sF S0 11 0) 16 0) (by omega) hk (hN.sm hC.sm) ⟨rfl, hst, fun t ht => by omega⟩ rfl
  have e16 : (ev 40 (nI k) x (sF (sF S0 11 0) 16 0)).2.1 16 = (ev 40 (nI k) x S0).2.1 16 := hE.1 16 (by decide) (by decide)
  generalize ev 40 (nI k) x (sF (sF S0 11 0) 16 0) = q at hv hE o e16 pos
  obtain ⟨d, T, he, o⟩ := o
  have hT : e_eq (ev 40 (nI k) x S0).2 T := hE.tr he
  rcases o with ⟨z0, lp, t11, t26, -⟩ | ⟨z5, lp⟩ | ⟨z0, z5, lp, -, w2, -, w22, w23, dd⟩
  · refine ⟨1 + (d + 1), 1, T, ?_, Or.inl ⟨rfl, e16.symm.trans z0, t26.trans hv⟩, hT⟩
    rw [lp]
    unfold f_loop
    rw [if_pos ⟨by rw [t11, nI_0]; decide, by rw [he.1 16 (by decide) (by decide), z0]; decide⟩]
  · refine ⟨0 + (d + 1), 0, T, lp 0, Or.inr ⟨rfl, fun h => ?_⟩, hT⟩
    rw [← e16, z5] at h
    exact absurd h (by decide)
  · have t16 : T.1 16 = q.2.1 16 := he.1 16 (by decide) (by decide)
    have hp : 0 < T.1 16 := by rw [t16]; exact pos.elim (fun h => absurd h z0) id
    have er : f_rec 140 T = sF T 11 (nI 0) := by
      have h := rec_pop w2 (140 - w2) T 0 (by rw [w23, Nat.zero_add]) (by omega) (by rw [Nat.zero_add]; exact dd)
      rw [show 140 - w2 + w2 = 140 by omega] at h
      rw [h, rec_nil]
      show (nI 0 : Int32) ≤ 0
      exact nI_0 ▸ Int32.le_refl _
    refine ⟨1 + (d + 1), 0, sF T 11 (nI 0), ?_, Or.inr ⟨rfl, fun h => z0 (e16.trans h)⟩, e_eq_lF hT (Or.inl rfl) _⟩
    rw [lp, loop_fail 0 hp, er]
    exact if_neg (Int32.not_le.mpr hp)
/-- the arrays that only keep() and order() use -/
def e_hi (S T : tr_S) : Prop := ∀ k, 27 ≤ k → T.2 k = S.2 k
theorem e_hi.rf (S : tr_S) : e_hi S S := fun _ _ => rfl
theorem e_hi.tr {S T U : tr_S} (h : e_hi S T) (g : e_hi T U) : e_hi S U := fun k hk => (g k hk).trans (h k hk)
theorem e_hi_A {S T : tr_S} (h : e_hi S T) {k : Nat} (hk : k < 27) (i : Nat) (v : Int32) : e_hi S (sA T k i v) := fun q hq => by
  show va_up T.2 k (upd (T.2 k) i v) q = S.2 q
  unfold va_up
  rw [if_neg (by omega), h q hq]
theorem e_hi_F {S T : tr_S} (h : e_hi S T) (k : Nat) (v : Int32) : e_hi S (sF T k v) := h
theorem f_begins_hi (r x : Int32) (S : tr_S) : e_hi S (f_begins r x S).2 := by
  unfold f_begins
  split
  · exact e_hi.rf S
  · exact e_hi_A (e_hi_A (e_hi_A (e_hi.rf S) (by decide) _ _) (by decide) _ _) (by decide) _ _
theorem f_else_hi (u k : Nat) (S : tr_S) : e_hi S (f_else u k S) := (e_hi_A (T := sF (sF S 16 0) 24 (S.1 24 + 1)) (e_hi.rf S) (by decide) u 2).tr (f_begins_hi _ _ _)
theorem f_rec_hi : ∀ (n : Nat) (S : tr_S), e_hi S (f_rec n S)
  | 0, S => e_hi.rf S
  | n + 1, S => by
    unfold f_rec
    split
    · exact e_hi.rf S
    · split
      · split
        · exact f_else_hi _ _ S
        · exact (f_else_hi _ _ S).tr (f_rec_hi n _)
      · exact e_hi.tr (T := f_pop S) (e_hi.rf S) (f_rec_hi n _)
theorem f_given_hi (r x : Int32) (S : tr_S) : e_hi S (f_given r x S).2 :=
  f_given_P (P := fun q => e_hi S q.2) (fun _ => e_hi.rf S) (fun _ _ _ _ => e_hi.rf S) (fun _ _ _ => e_hi_A (e_hi.rf S) (by decide) _ _) (fun _ _ _ => e_hi_A (e_hi.rf S) (by decide) _ _)
theorem f_goesOn_hi (v : Int32) (S : tr_S) : e_hi S (f_goesOn v S).2 := by
  unfold f_goesOn
  split
  · exact (e_hi_A (e_hi.rf S) (by decide) _ _).tr (f_begins_hi _ _ _)
  · split
    · exact (e_hi_A (e_hi_A (e_hi.rf S) (by decide) _ _) (by decide) _ _).tr (f_begins_hi _ _ _)
    · exact e_hi_A (e_hi.rf S) (by decide) _ _
theorem f_turn_hi (S : tr_S) : e_hi S (f_turn S) := by
  unfold f_turn f_turn1 f_turn2
  split
  · split
    · exact f_goesOn_hi _ S
    · exact f_goesOn_hi _ S
  · split
    · exact f_given_hi _ _ S
    · exact f_given_hi _ _ S
theorem f_loop_hi {b : Int32} {T : tr_S} : ∀ (n : Nat) (S : tr_S), f_loop n S = some (b, T) → e_hi S T
  | 0, S, h => by unfold f_loop at h; cases h
  | n + 1, S, h => by
    unfold f_loop at h
    split at h
    · cases h; exact e_hi.rf _
    · split at h
      · exact (f_turn_hi S).tr (f_loop_hi n _ h)
      · split at h
        · exact ((f_rec_hi 140 S).tr (f_turn_hi _)).tr (f_loop_hi n _ h)
        · cases h; exact f_rec_hi 140 _

theorem Met_weak {l : Launch} {y : MethodName} {ws : List Cond} {rm : Room} {Pc : Array Value → State → Prop} {Qc Qd : Array Value → State → Outcome → State → Prop} {mc ms : Nat} {free : Addr → Prop} (h : Met l y ws rm Pc Qc mc ms free) (hQ : ∀ a st o t, Qc a st o t → Qd a st o t) : Met l y ws rm Pc Qd mc ms free := fun p e h1 h2 h3 s m args below hf ha hP hK => by
  obtain ⟨n, o, a1, a2, a3, a4, a5⟩ := h p e h1 h2 h3 s m args below hf ha hP hK
  exact ⟨n, o, a1, a2, a3, hQ _ _ _ _ a4, a5⟩
theorem m_weak {l : Launch} {y : MethodName} {ws : List Cond} {rm : Room} {av : List Value} {D : va_G} {o : Nat} {ad : Nat → Nat} {cA : ClassId} {S0 : tr_S} {post post2 : Int32 → tr_S → Prop} (h : m_Mi l y ws rm av D o ad cA S0 post) (hp : ∀ v S, post v S → post2 v S) : m_Mi l y ws rm av D o ad cA S0 post2 :=
  Met_weak h (fun a st oc t q => ⟨by obtain ⟨⟨r, u, e1, e2, e3⟩, -⟩ := q; exact ⟨r, u, e1, hp r u e2, e3⟩, q.2⟩)
theorem c_X3_gives2 (l : Launch) (D : va_G) (o : Nat) (ad : Nat → Nat) (cA : ClassId) (S0 : tr_S) (r x : Int32) (N : Nat) (hN : wf S0 N) (hr : ∃ k, k < N ∧ r = nI k) (hst : ∃ st : Nat, st ≤ 64 ∧ 0 ≤ st ∧ S0.1 18 = nI st) (h0 : S0.1 16 = 0) : m_Mi l yX3_gives wsX3_gives { frames := 3, cells := 0, slots := 0, locals := 72 } [.int r, .int x] D o ad cA S0 (fun v S => ((v = 1 ∧ (ev 40 r x S0).2.1 16 = 0 ∧ S.1 26 = (ev 40 r x S0).1) ∨ (v = 0 ∧ ¬ (ev 40 r x S0).2.1 16 = 0)) ∧ e_eq (ev 40 r x S0).2 S ∧ e_hi S0 S) := by
  obtain ⟨k, hk, rfl⟩ := hr
  obtain ⟨n, b, T, h1, h2, h3⟩ := gives_ev hN hk hst h0 (x := x)
  have h := c_X3_gives l D o ad cA S0 (nI k) x N n b T hN ⟨k, hk, rfl⟩ hst h1
  exact m_weak h (fun v S q => by obtain ⟨rfl, rfl⟩ := q; exact ⟨h2, h3, (f_begins_hi (nI k) x (sF (sF S0 11 0) 16 0)).tr (f_loop_hi n _ h1)⟩)

section MI11
variable {p : Program} {l : Launch} {e : Env} {R : Room} {s : State} {m : MethodId} {args : Array Value} {below : List Frame} {meth : Method} {c : Code} {H H0 : Heap} {locs : List Loc} {cells slots : Nat} {Q : State → Prop}
variable {cc : ByteArray} {pc : Nat} {ls : Array Slot} {rest st0 : List Value} {Ts : List Cond} {index nL : Nat} {own : String} {D : va_G} {o : Nat} {ad : Nat → Nat} {cA : ClassId} {S : tr_S}
theorem m_gives {N : Nat} (hN : wf S N) {r x : Int32} (hr : ∃ k, k < N ∧ r = nI k) (hst : ∃ st : Nat, st ≤ 64 ∧ 0 ≤ st ∧ S.1 18 = nI st) (h0 : S.1 16 = 0) (X : CallFix p m c cc nL s args Ts own) (hG : GoodIn Ts (wsV own index RX3 yX3_gives wsX3_gives)) (hR : 3 + 1 ≤ R.frames ∧ 8 + (6 + 11) + 72 ≤ R.locals) (hf : cells ≤ R.cells ∧ slots ≤ R.slots) (I : m_I D o ad cA S s H0 H locs) (hsize : ls.size = nL) (hroom : (rest.map fun v => v.category).sum ≤ 8) (hdg : decode cc pc = .ok (.invokevirtual index, 3))
    (kt : (ev 40 r x S).2.1 16 = 0 → ∀ (S1 : tr_S) (H1 : Heap) (locs1 : List Loc), S1.1 26 = (ev 40 r x S).1 → e_eq (ev 40 r x S).2 S1 → e_hi S S1 → m_I D o ad cA S1 s H0 H1 locs1 → W p l e R s m args below meth c H1 locs1 cells slots Q (F0 m (pc + 3) ls (.int 1 :: rest))) (kf : ¬ (ev 40 r x S).2.1 16 = 0 → ∀ (S1 : tr_S) (H1 : Heap) (locs1 : List Loc), e_eq (ev 40 r x S).2 S1 → e_hi S S1 → m_I D o ad cA S1 s H0 H1 locs1 → W p l e R s m args below meth c H1 locs1 cells slots Q (F0 m (pc + 3) ls (.int 0 :: rest))) : W p l e R s m args below meth c H locs cells slots Q (F0 m pc ls (.int x :: .int r :: .ref o :: rest)) := by
  refine m_calli (rest := rest) X (c_X3_gives2 l D o ad cA S r x N hN hr hst h0) (cwV 2 X.2.2.2.2 hG rfl rfl rfl (by decide +kernel) hR) I rfl hsize rfl hroom hdg hf (fun v S1 H1 locs1 hp I1 => ?_)
  obtain ⟨⟨rfl, h1, h2⟩ | ⟨rfl, h1⟩, h3, h4⟩ := hp
  · exact kt h1 S1 H1 locs1 h2 h3 h4 I1
  · exact kf h1 S1 H1 locs1 h3 h4 I1
end MI11
def e_start (S : tr_S) : tr_S := sF (sF S 18 0) 16 0
theorem e_start_sm (S : tr_S) : e_sm S (e_start S) := ⟨rfl, rfl, rfl, rfl, rfl, rfl, rfl, rfl, rfl⟩
theorem e_start_st (S : tr_S) : ∃ st : Nat, st ≤ 64 ∧ 0 ≤ st ∧ (e_start S).1 18 = nI st := ⟨0, by decide, by decide, rfl⟩
theorem f_fail_eq {S T : tr_S} (h : e_eq S T) (a r : Int32) : e_R (f_fail a r S) (f_fail a r T) := by
  refine ⟨rfl, ?_⟩
  unfold f_fail
  exact e_eq_F (e_eq_F (e_eq_F h 21 rfl) 22 rfl) 23 (by rw [h.1 23 (by decide) (by decide)])
theorem f_ends_eq {S T : tr_S} (h : e_eq S T) (v : Int32) : e_R (f_ends v S) (f_ends v T) := by
  unfold f_ends
  rw [h.1 16 (by decide) (by decide), h.1 17 (by decide) (by decide), h.1 18 (by decide) (by decide)]
  exact ite_R (R := e_R) ⟨rfl, e_eq_F h 19 rfl⟩ (f_fail_eq (e_eq_F h 19 rfl) _ _)
/-- a rule's number is one of a rule -/
theorem rule_of {S : tr_S} {N : Nat} (h : wf S N) {r : Int32} (hr : 0 ≤ r ∧ r ≤ S.1 4 - 1) : ∃ k, k < N ∧ r = nI k := by
  obtain ⟨h1, h2, -⟩ := h
  rw [h2] at hr
  cases N with
  | zero =>
    have a := Int32.le_iff_toInt_le.mp hr.1
    have b := Int32.le_iff_toInt_le.mp hr.2
    have e1 : (0 : Int32).toInt = 0 := rfl
    have e2 : (nI 0 - 1).toInt = -1 := by decide +kernel
    omega
  | succ n =>
    rw [nI_pred] at hr
    obtain ⟨j, hj, e⟩ := nI_of2 (n := n) (M := nI n) (nI_toInt (by omega)) (Int32.not_lt.mpr hr.1) hr.2
    exact ⟨j, by omega, e⟩
def a_apply (r x : Int32) (S : tr_S) : Int32 × tr_S := if 0 ≤ r ∧ r ≤ S.1 4 - 1 then f_ends 1 (if (ev 40 r x (e_start S)).2.1 16 = 0 then sF (ev 40 r x (e_start S)).2 25 (ev 40 r x (e_start S)).1 else (ev 40 r x (e_start S)).2) else (-1, S)
set_option maxHeartbeats 4000000 in
set_option maxRecDepth 100000 in
theorem c_X3_apply (l : Launch) (D : va_G) (o : Nat) (ad : Nat → Nat) (cA : ClassId) (S0 : tr_S) (r x : Int32) (N : Nat) (hN : wf S0 N) : m_Mi l yX3_apply wsX3_apply { frames := 4, cells := 0, slots := 0, locals := 97 } [.int r, .int x] D o ad cA S0 (fun v S => e_R (a_apply r x S0) (v, S)) := by
  refine Met.ofW (cc := cX3_apply) (maxL := 4) (ret := (some .int)) (by decide) rfl ?_
  intro p e s m args below meth c s₁ B hml hv
  obtain ⟨rfl, hB⟩ := hv
  have hx := B.exec
  have hb := B.bytes
  have hr := B.returns
  have hts := atoms_spec (ws := wsX3_apply) B.pre
  have hown : s.vm.findClass RX3 = some m.cls := findClass_of_methodNamed B.named
  have hlocks := B.notSynchronized
  have I := m_I.of hB
  have hin : ∀ w ∈ wsX30, w ∈ wsX3_apply := fun _ h => List.mem_cons_of_mem _ (List.mem_append_right _ h)
  have L109 := hts (.fieldLink RX3 109 "TollRulesModel" "handed" "I") (by decide +kernel)
  have L152 := hts (.fieldLink RX3 152 "TollRulesModel" "result" "I") (by decide +kernel)
  have hl := lv_entry ([.ref o, .int r, .int x]) (n := 4) (Nat.le_of_ble_eq_true rfl)
  rw [lg_entry_eq]
  generalize (lg_sl ([.ref o, .int r, .int x]) ++ List.replicate (4 - (lg_sl ([.ref o, .int r, .int x])).length) Slot.unset).toArray = ls at hl ⊢
  have hl : lv_has ls 4 [(0, .ref o), (1, .int r), (2, .int x)] := hl
  refine lv_aload_n hx hb dX3_apply_0 rfl (lv_at hl 0 rfl) ?_
  refine lv_iload_n hx hb dX3_apply_1 rfl (lv_at hl 1 rfl) ?_
  refine m_isRule ⟨hx, hb, hml, hown, hts⟩ gX3_apply_X3_isRule ⟨Nat.le_of_ble_eq_true rfl, Nat.le_of_ble_eq_true rfl⟩ ⟨Nat.le_refl _, Nat.le_refl _⟩ I hl.1 (Nat.le_of_ble_eq_true rfl) dX3_apply_2 (fun h2 H locs I => ?_) (fun h2 H locs I => ?_)
  · refine lv_if_ne (tgt := 10) hx hb dX3_apply_5 (by decide) (fun _ => ?_) (fun h => absurd h (by decide))
    refine lv_aload_n hx hb dX3_apply_10 rfl (lv_at hl 0 rfl) ?_
    refine m_callv (rest := []) ⟨hx, hb, hml, hown, hts⟩ (c_X3_startsCall l D o ad cA S0) (cwV 0 hts gX3_apply_X3_startsCall rfl rfl rfl (by decide +kernel) ⟨Nat.le_of_ble_eq_true rfl, Nat.le_of_ble_eq_true rfl⟩) I rfl hl.1 rfl (Nat.le_of_ble_eq_true rfl) dX3_apply_11 ⟨Nat.le_refl _, Nat.le_refl _⟩ (fun S11 H locs p11 I => ?_)
    rw [show S11 = e_start S0 from p11] at I
    refine lv_aload_n hx hb dX3_apply_14 rfl (lv_at hl 0 rfl) ?_
    refine lv_iload_n hx hb dX3_apply_15 rfl (lv_at hl 1 rfl) ?_
    refine lv_iload_n hx hb dX3_apply_16 rfl (lv_at hl 2 rfl) ?_
    refine m_gives (hN.sm (e_start_sm S0)) (rule_of hN h2) (e_start_st S0) rfl ⟨hx, hb, hml, hown, hts⟩ gX3_apply_X3_gives ⟨Nat.le_of_ble_eq_true rfl, Nat.le_of_ble_eq_true rfl⟩ ⟨Nat.le_refl _, Nat.le_refl _⟩ I hl.1 (Nat.le_of_ble_eq_true rfl) dX3_apply_17 (fun h17 S17 H locs v17 e17 i17 I => ?_) (fun h17 S17 H locs e17 i17 I => ?_)
    · refine lv_istore_n (lv' := [(3, .int 1), (0, .ref o), (1, .int r), (2, .int x)]) hx hb dX3_apply_20 rfl hl (by decide) rfl (fun ls hl => ?_)
      refine lv_aload_n hx hb dX3_apply_21 rfl (lv_at hl 1 rfl) ?_
      refine lv_iload_n hx hb dX3_apply_22 rfl (lv_at hl 0 rfl) ?_
      refine lv_if_eq (tgt := 33) hx hb dX3_apply_23 (by decide) (fun h => absurd h (by decide)) (fun _ => ?_)
      refine lv_aload_n hx hb dX3_apply_26 rfl (lv_at hl 1 rfl) ?_
      refine m_get26 hx hb hts hin hown I L109 dX3_apply_27 (x := S17.1 26) rfl ?_
      refine lv_goto (tgt := 37) hx hb dX3_apply_30 (by decide) ?_
      refine m_put25 hx hb hts hin hown I L152 dX3_apply_37 (fun H locs I => ?_)
      refine lv_aload_n hx hb dX3_apply_40 rfl (lv_at hl 1 rfl) ?_
      refine lv_iconst (v := 1) hx hb dX3_apply_41 (by decide) ?_
      refine m_calli (rest := []) ⟨hx, hb, hml, hown, hts⟩ (c_X3_ends l D o ad cA (sF S17 25 (S17.1 26)) 1) (cwV 1 hts gX3_apply_X3_ends rfl rfl rfl (by decide +kernel) ⟨Nat.le_of_ble_eq_true rfl, Nat.le_of_ble_eq_true rfl⟩) I rfl hl.1 rfl (Nat.le_of_ble_eq_true rfl) dX3_apply_42 ⟨Nat.le_refl _, Nat.le_refl _⟩ (fun r42 S42 H locs p42 I => ?_)
      refine m_iret hx hb hr hlocks I dX3_apply_45 ?_
      unfold a_apply
      rw [if_pos h2, if_pos h17, p42]
      exact f_ends_eq (e_eq_F e17 25 v17) 1
    · refine lv_istore_n (lv' := [(3, .int 0), (0, .ref o), (1, .int r), (2, .int x)]) hx hb dX3_apply_20 rfl hl (by decide) rfl (fun ls hl => ?_)
      refine lv_aload_n hx hb dX3_apply_21 rfl (lv_at hl 1 rfl) ?_
      refine lv_iload_n hx hb dX3_apply_22 rfl (lv_at hl 0 rfl) ?_
      refine lv_if_eq (tgt := 33) hx hb dX3_apply_23 (by decide) (fun _ => ?_) (fun h => absurd h (by decide))
      refine lv_aload_n hx hb dX3_apply_33 rfl (lv_at hl 1 rfl) ?_
      refine m_get25 hx hb hts hin hown I L152 dX3_apply_34 (x := S17.1 25) rfl ?_
      refine m_put25 hx hb hts hin hown I L152 dX3_apply_37 (fun H locs I => ?_)
      refine lv_aload_n hx hb dX3_apply_40 rfl (lv_at hl 1 rfl) ?_
      refine lv_iconst (v := 1) hx hb dX3_apply_41 (by decide) ?_
      refine m_calli (rest := []) ⟨hx, hb, hml, hown, hts⟩ (c_X3_ends l D o ad cA (sF S17 25 (S17.1 25)) 1) (cwV 1 hts gX3_apply_X3_ends rfl rfl rfl (by decide +kernel) ⟨Nat.le_of_ble_eq_true rfl, Nat.le_of_ble_eq_true rfl⟩) I rfl hl.1 rfl (Nat.le_of_ble_eq_true rfl) dX3_apply_42 ⟨Nat.le_refl _, Nat.le_refl _⟩ (fun r42 S42 H locs p42 I => ?_)
      refine m_iret hx hb hr hlocks I dX3_apply_45 ?_
      unfold a_apply
      rw [if_pos h2, if_neg h17, p42, sF_self rfl]
      exact f_ends_eq e17 1
  · refine lv_if_ne (tgt := 10) hx hb dX3_apply_5 (by decide) (fun h => absurd h (by decide)) (fun _ => ?_)
    refine lv_iconst (v := (-1)) hx hb dX3_apply_8 (by decide) ?_
    exact m_iret hx hb hr hlocks I dX3_apply_9 (by unfold a_apply; rw [if_neg h2]; exact ⟨rfl, e_eq.rf _⟩)

