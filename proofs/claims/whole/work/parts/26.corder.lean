section CS26
variable {p : Program} {l : Launch} {e : Env} {R : Room} {s : State} {m : MethodId} {args : Array Value} {below : List Frame} {meth : Method} {c : Code} {H H0 : Heap} {locs : List Loc} {cells slots : Nat} {Q : State → Prop}
variable {cc : ByteArray} {pc : Nat} {ls : Array Slot} {rest st0 : List Value} {Ts : List Cond} {index nL : Nat} {own : String}
variable {D : va_G} {o : Nat} {ap : Nat → Nat} {cA cR cU : ClassId} {A : Nat → Prop} {ρ σ ra : Nat → Nat} {L : List Nat} {f : Nat → va_E} {S : tr_S} {z : tr_Z}
theorem zA_A (z : tr_Z) (k i : Nat) (v : Int32) (q j : Nat) : (zA z k i v).2.2 q j = if q = k then (if j = i then v else z.2.2 k j) else z.2.2 q j := by
  show va_up z.2.2 k (upd (z.2.2 k) i v) q j = _
  unfold va_up upd
  by_cases h : q = k
  · rw [if_pos h, if_pos h]
  · rw [if_neg h, if_neg h]
theorem nI_dec (k : Nat) : nI (k + 1) + (-1) = nI k := by
  rw [← Int32.sub_eq_add_neg, nI_pred]
theorem c_rows_upd {i : Nat} (hi : i < 4) (v : Int32) : c_rows ρ (sA S 1 i v) = va_up (c_rows ρ S) i (c_ref ρ v) := by
  funext r
  unfold c_rows va_up
  rw [sA_A, if_pos rfl]
  by_cases e : r = i
  · rw [if_pos e, if_pos e, if_pos (by omega)]
  · rw [if_neg e, if_neg e]
theorem c_G_rows {i : Nat} {v : Int32} (h : c_G cA ρ σ ra L f S) (hv : ∀ q, q < 48 → v = nI q → c_held S q) : c_G cA ρ σ ra L f (sA S 1 i v) := by
  have k : ∀ q, c_held (sA S 1 i v) q → c_held S q := by
    rintro q ⟨h48, ⟨r, hr, e⟩ | hq⟩
    · rw [sA_A, if_pos rfl] at e
      by_cases c : r = i
      · rw [if_pos c] at e
        exact hv q h48 e
      · rw [if_neg c] at e
        exact ⟨h48, Or.inl ⟨r, hr, e⟩⟩
    · exact ⟨h48, Or.inr hq⟩
  exact ⟨h.1, fun q hq => h.2.1 q (k q hq), h.2.2.1, fun a b ha hb => h.2.2.2 a b (k a ha) (k b hb)⟩
theorem c_m1 {q : Nat} (h : q < 48) : ¬ (-1 : Int32) = nI q := fun e => absurd (show nI q < 0 by rw [← e]; decide) (nI_pos (by omega))
/-- rows[r] = null -/
theorem c_rows_stn (hx : p.tables.exec = Jvm.exec) (hb : c.code = cc) (I : c_I D o ap cA cR cU A ρ σ ra L f S z s H0 H locs) {i : Int32} (hi : vp_in i 4) (hdg : decode cc pc = .ok (.aastore, 1))
    (kk : ∀ (H1 : Heap) (locs1 : List Loc), c_I D o ap cA cR cU A ρ σ ra L f (sA S 1 i.toNatClampNeg (-1)) z s H0 H1 locs1 → W p l e R s m args below meth c H1 locs1 cells slots Q (F0 m (pc + 1) ls rest)) : W p l e R s m args below meth c H locs cells slots Q (F0 m pc ls (.null :: .int i :: .ref (ap 1) :: rest)) := by
  refine va_astqN hx hb I.2.1 I.1 I.2.2.1 I.2.2.2.1 2 1 rfl rfl hi hdg (fun H1 locs1 hP hD hS => ?_)
  have e : c_rows ρ (sA S 1 i.toNatClampNeg (-1)) = va_up (c_rows ρ S) i.toNatClampNeg none := by
    rw [c_rows_upd (ix_nI hi (by decide)).2]
    rfl
  rw [← e] at hP hD
  exact kk H1 locs1 ⟨hP, I.2.1, hD, hS, c_G_rows I.2.2.2.2 (fun q h48 w => absurd w (c_m1 h48))⟩
/-- rows[r] = a row that is held -/
theorem c_rows_st (hx : p.tables.exec = Jvm.exec) (hb : c.code = cc) (I : c_I D o ap cA cR cU A ρ σ ra L f S z s H0 H locs) {q : Nat} (hq : c_held S q) {i : Int32} (hi : vp_in i 4) (hdg : decode cc pc = .ok (.aastore, 1))
    (kk : ∀ (H1 : Heap) (locs1 : List Loc), c_I D o ap cA cR cU A ρ σ ra L f (sA S 1 i.toNatClampNeg (nI q)) z s H0 H1 locs1 → W p l e R s m args below meth c H1 locs1 cells slots Q (F0 m (pc + 1) ls rest)) : W p l e R s m args below meth c H locs cells slots Q (F0 m pc ls (.ref (ρ q) :: .int i :: .ref (ap 1) :: rest)) := by
  obtain ⟨a1, a2, a3, a4⟩ := I.2.2.2.2.2.1 q hq
  obtain ⟨n, hn⟩ := va_pl_get (X := c_X o ap cA cR cU ρ ra S z) (f := f) a1
  rw [a2] at hn
  have h48 := hq.1
  refine va_astq hx hb I.2.1 I.1 I.2.2.1 I.2.2.2.1 2 1 n 0 (r := (RX0, TX0, 1)) rfl rfl hn rfl hi hdg (fun H1 locs1 hP hD hS => ?_)
  have e : c_rows ρ (sA S 1 i.toNatClampNeg (nI q)) = va_up (c_rows ρ S) i.toNatClampNeg (some (ρ q)) := by
    rw [c_rows_upd (ix_nI hi (by decide)).2]
    unfold c_ref
    rw [if_neg (nI_pos (by omega)), nI_clamp (by omega)]
  rw [← e] at hP hD
  refine kk H1 locs1 ⟨hP, I.2.1, hD, hS, c_G_rows I.2.2.2.2 (fun j hj w => ?_)⟩
  rw [← (nI_eq (by omega) (by omega)).mp w]
  exact hq
theorem l_put_F (q : Nat) (J : Nat → Int32) (S : tr_S) : ∀ n, (l_put q J n S).1 = S.1
  | 0 => rfl
  | n + 1 => l_put_F q J S n
theorem l_put_A (q : Nat) (J : Nat → Int32) (S : tr_S) {k : Nat} (hk : k ≠ 3) : ∀ n, (l_put q J n S).2 k = S.2 k
  | 0 => rfl
  | n + 1 => by
    rw [← l_put_A q J S hk n]
    show va_up (l_put q J n S).2 3 _ k = _
    unfold va_up
    rw [if_neg hk]
theorem l_put_3 (q : Nat) (J : Nat → Int32) (S : tr_S) (r i : Nat) (hi : i < 10) : ∀ n, n ≤ 10 → (l_put q J n S).2 3 (10 * r + i) = if r = q ∧ i < n then J i else S.2 3 (10 * r + i)
  | 0, _ => by rw [if_neg (by omega)]; rfl
  | n + 1, h => by
    show (sA (l_put q J n S) 3 (10 * q + n) (J n)).2 3 (10 * r + i) = _
    rw [sA_A, if_pos rfl]
    by_cases e : 10 * r + i = 10 * q + n
    · rw [if_pos e, if_pos (by omega), show i = n by omega]
    · rw [if_neg e, l_put_3 q J S r i hi n (by omega)]
      by_cases e2 : r = q ∧ i < n
      · rw [if_pos e2, if_pos (by omega)]
      · rw [if_neg e2, if_neg (by omega)]
theorem l_put_congr (q : Nat) {J J2 : Nat → Int32} (S : tr_S) : ∀ n, (∀ j, j < n → J j = J2 j) → l_put q J n S = l_put q J2 n S
  | 0, _ => rfl
  | n + 1, h => by
    show sA (l_put q J n S) 3 (10 * q + n) (J n) = sA (l_put q J2 n S) 3 (10 * q + n) (J2 n)
    rw [l_put_congr q S n (fun j hj => h j (by omega)), h n (by omega)]
theorem c_W_put (q : Nat) (J : Nat → Int32) (n : Nat) (g : Nat → va_E) : c_W o ap cA cR cU ρ ra L g (l_put q J n S) z = c_W o ap cA cR cU ρ ra L g S z := by
  unfold c_W c_X c_F c_rows c_rules
  rw [l_put_F, l_put_A q J S (by decide), l_put_A q J S (by decide)]
theorem c_held_put (q : Nat) (J : Nat → Int32) (n r : Nat) : c_held (l_put q J n S) r = c_held S r := by
  unfold c_held
  rw [l_put_F, l_put_A q J S (by decide), l_put_A q J S (by decide)]
theorem c_G_put {q n : Nat} {J : Nat → Int32} (h : c_G cA ρ σ ra L f S) (hq : c_held S q) (hn : n ≤ 10) : c_G cA ρ σ ra L (va_up f (σ q) (.inl (cA, (S.2 2 q).toNatClampNeg, .inl (va_cpy J (c_items S q) 0 0 n)))) (l_put q J n S) := by
  have hr : ∀ r, c_row cA (l_put q J n S) r = if r = q then .inl (cA, (S.2 2 q).toNatClampNeg, .inl (va_cpy J (c_items S q) 0 0 n)) else c_row cA S r := by
    intro r
    unfold c_row
    rw [l_put_A q J S (by decide)]
    by_cases e : r = q
    · rw [if_pos e, e]
      congr 4
      funext i
      unfold c_items va_cpy
      by_cases c : i < 10
      · rw [if_pos c, l_put_3 q J S q i c n hn]
        by_cases c2 : i < n
        · rw [if_pos ⟨rfl, c2⟩, if_pos (by omega)]
          congr 1
          omega
        · rw [if_neg (fun w => c2 w.2), if_neg (by omega)]; exact (if_pos c).symm
      · rw [if_neg c, if_neg (by omega)]; exact (if_neg c).symm
    · rw [if_neg e]
      congr 4
      funext i
      unfold c_items
      by_cases c : i < 10
      · rw [if_pos c, if_pos c, l_put_3 q J S r i c n hn, if_neg (fun w => e w.1)]
      · rw [if_neg c, if_neg c]
  have hu : ∀ k, c_rule ρ (l_put q J n S) k = c_rule ρ S k := by
    intro k
    unfold c_rule
    rw [l_put_A q J S (by decide), l_put_A q J S (by decide), l_put_A q J S (by decide), l_put_A q J S (by decide), l_put_A q J S (by decide), l_put_A q J S (by decide)]
  obtain ⟨b1, b2, b3, b4⟩ := h.2.1 q hq
  unfold c_G
  simp only [c_held_put, hu, hr, l_put_F]
  refine ⟨fun j hj => ⟨(h.1 j hj).1, ?_⟩, fun r hrh => ?_, h.2.2.1, h.2.2.2⟩
  · rw [va_up_ne _ _ (fun e => (c_G_ne h hj hq).2.1 e.symm)]
    exact (h.1 j hj).2
  · obtain ⟨a1, a2, a3, a4⟩ := h.2.1 r hrh
    have hne : ρ r ≠ σ q := fun e => by
      rw [e, b4] at a2
      unfold c_row at a2
      cases a2
    refine ⟨a1, by rw [va_up_ne _ _ hne]; exact a2, a3, ?_⟩
    by_cases e : r = q
    · rw [if_pos e, e, va_up_self]
    · rw [if_neg e, va_up_ne _ _ (fun w => e (h.2.2.2 r q hrh hq w))]
      exact a4
/-- System.arraycopy(moved, 0, items, 0, items.length) -/
theorem c_copy (hx : p.tables.exec = Jvm.exec) (hb : c.code = cc) (hml : c.maxLocals = ls.size) (hown : s.vm.findClass own = some m.cls) (hlink : (Cond.methodLink own index arraycopyName).before args s = true) (hnat : (Cond.native arraycopyName).before args s = true) (hstat : (Cond.static arraycopyName).before args s = true) (hini : (Cond.initialized "java/lang/System").before args s = true) (I : c_I D o ap cA cR cU A ρ σ ra L f S z s H0 H locs) {q n : Nat} (hq : c_held S q) (hn : S.2 2 q = nI n) (h10 : n ≤ 10) (hframes : 1 ≤ R.frames) (hlocals : (rest.map fun v => v.category).sum + (nativeFrameWords "java/lang/System" "arraycopy" 5 + 11) ≤ R.locals) (hdg : decode cc pc = .ok (.invokestatic index, 3))
    (kk : ∀ (f1 : Nat → va_E) (H1 : Heap) (locs1 : List Loc), c_I D o ap cA cR cU A ρ σ ra L f1 (l_put q (z.2.2 4) n S) z s H0 H1 locs1 → W p l e R s m args below meth c H1 locs1 cells slots Q (F0 m (pc + 3) ls rest)) : W p l e R s m args below meth c H locs cells slots Q (F0 m pc ls (.int (nI n) :: .int 0 :: .ref (σ q) :: .int 0 :: .ref (ap 4) :: rest)) := by
  obtain ⟨a1, a2, a3, a4⟩ := I.2.2.2.2.2.1 q hq
  obtain ⟨j, hj0⟩ := va_pl_get (X := c_X o ap cA cR cU ρ ra S z) (f := f) a3
  have hj := hj0
  rw [a4] at hj
  have en : (nI n).toNatClampNeg = n := nI_clamp (by omega)
  have e0 : (0 : Int32).toNatClampNeg = 0 := rfl
  refine va_copyi hx hb hml hown hlink hnat hstat hini I.2.1 I.1 I.2.2.1 I.2.2.2.1 4 j 0 0 (n0 := 10) (f := z.2.2 4) rfl hj rfl rfl rfl (by decide) (by decide) (nI_pos (by omega)) (by rw [en, e0]; omega) (by rw [en, e0, hn, en]; omega) (fun i _ => rfl) hframes hlocals hdg (fun H1 locs1 hP hD hS => ?_)
  rw [en, e0] at hP hD
  have e := va_pl_set (e := .inl (cA, (S.2 2 q).toNatClampNeg, .inl (va_cpy (z.2.2 4) (c_items S q) 0 0 n))) I.2.2.1 a3 hj0
  have hP : va_P D vwCl (List.set (c_X o ap cA cR cU ρ ra S z ++ va_pl L f) j _) H1 := hP
  have hD : va_D A (List.set (c_X o ap cA cR cU ρ ra S z ++ va_pl L f) j _) := hD
  have hP : va_P D vwCl _ H1 := e ▸ hP
  have hD : va_D A _ := e ▸ hD
  refine kk _ H1 locs1 ⟨?_, I.2.1, ?_, hS, c_G_put (J := z.2.2 4) I.2.2.2.2 hq h10⟩
  · rw [c_W_put]; exact hP
  · rw [c_W_put]; exact hD
end CS26
set_option maxHeartbeats 4000000 in
set_option maxRecDepth 100000 in
theorem c_X2_share (l : Launch) (D : va_G) (o : Nat) (ap : Nat → Nat) (cA cR cU : ClassId) (A : Nat → Prop) (ρ σ ra : Nat → Nat) (L : List Nat) (f0 : Nat → va_E) (S0 : tr_S) (z0 : tr_Z) (r y : Int32) (N : Nat) (hN : wf S0 N) : c_Mi l yX2_share wsX2_share { frames := 1, cells := 0, slots := 0, locals := 20 } [.int r, .int y] D o ap cA cR cU A ρ σ ra L f0 S0 z0 (fun v u => (v, u.1) = f_share r y S0) := by
  refine Met.ofW (cc := cX2_share) (maxL := 3) (ret := (some .int)) (by decide) rfl ?_
  intro p e s m args below meth c s₁ B hml hv
  obtain ⟨rfl, hB⟩ := hv
  have hx := B.exec
  have hb := B.bytes
  have hr := B.returns
  have hts := atoms_spec (ws := wsX2_share) B.pre
  have hown : s.vm.findClass RX2 = some m.cls := findClass_of_methodNamed B.named
  have hlocks := B.notSynchronized
  have I := c_I.of hB
  have hin2 : ∀ w ∈ wsX20, w ∈ wsX2_share := fun _ h => List.mem_cons_of_mem _ (List.mem_append_right _ h)
  have L17 := hts (.fieldLink RX2 17 "TollRules" "rows" "[LTollRules$Row;") (by decide +kernel)
  have hl := lv_entry ([.ref o, .int r, .int y]) (n := 3) (Nat.le_of_ble_eq_true rfl)
  rw [lg_entry_eq]
  generalize (lg_sl ([.ref o, .int r, .int y]) ++ List.replicate (3 - (lg_sl ([.ref o, .int r, .int y])).length) Slot.unset).toArray = ls at hl ⊢
  have hl : lv_has ls 3 [(0, .ref o), (1, .int r), (2, .int y)] := hl
  refine lv_iload_n hx hb dX2_share_0 rfl (lv_at hl 1 rfl) ?_
  refine c_isRow ⟨hx, hb, hml, hown, hts⟩ gX2_share_X2_isRow ⟨Nat.le_of_ble_eq_true rfl, Nat.le_of_ble_eq_true rfl⟩ ⟨Nat.le_refl _, Nat.le_refl _⟩ hl.1 (Nat.le_of_ble_eq_true rfl) dX2_share_1 (fun h1 => ?_) (fun h1 => ?_)
  · refine lv_if_eq (tgt := 14) hx hb dX2_share_4 (by decide) (fun h => absurd h (by decide)) (fun _ => ?_)
    refine lv_iload_n hx hb dX2_share_7 rfl (lv_at hl 2 rfl) ?_
    refine c_isRow ⟨hx, hb, hml, hown, hts⟩ gX2_share_X2_isRow ⟨Nat.le_of_ble_eq_true rfl, Nat.le_of_ble_eq_true rfl⟩ ⟨Nat.le_refl _, Nat.le_refl _⟩ hl.1 (Nat.le_of_ble_eq_true rfl) dX2_share_8 (fun h8 => ?_) (fun h8 => ?_)
    · refine lv_if_ne (tgt := 16) hx hb dX2_share_11 (by decide) (fun _ => ?_) (fun h => absurd h (by decide))
      refine lv_aload_n hx hb dX2_share_16 rfl (lv_at hl 0 rfl) ?_
      refine c_get1 hx hb hts hin2 hown I L17 dX2_share_17 ?_
      refine lv_iload_n hx hb dX2_share_20 rfl (lv_at hl 1 rfl) ?_
      refine lv_aload_n hx hb dX2_share_21 rfl (lv_at hl 0 rfl) ?_
      refine c_get1 hx hb hts hin2 hown I L17 dX2_share_22 ?_
      refine lv_iload_n hx hb dX2_share_25 rfl (lv_at hl 2 rfl) ?_
      refine c_row_ld hx hb I (ix_of h8 (by decide) (by decide)) dX2_share_26 (fun n26 => ?_) (fun n26 => ?_)
      · have e9 := (neg_row (hN.2.2.2.1 _ (ix_nI (ix_of h8 (by decide) (by decide)) (by decide)).2)).1 n26
        refine c_rows_stn hx hb I (ix_of h1 (by decide) (by decide)) dX2_share_27 (fun H locs I => ?_)
        refine lv_aload_n hx hb dX2_share_28 rfl (lv_at hl 0 rfl) ?_
        refine c_get1 hx hb hts hin2 hown I L17 dX2_share_29 ?_
        refine lv_iload_n hx hb dX2_share_32 rfl (lv_at hl 1 rfl) ?_
        refine c_row_ld hx hb I (ix_of h1 (by decide) (by decide)) dX2_share_33 (fun n33 => ?_) (fun n33 => ?_)
        · refine lv_ifnonnullN hx hb dX2_share_34 ?_
          refine lv_iconst (v := 0) hx hb dX2_share_37 (by decide) ?_
          refine lv_goto (tgt := 42) hx hb dX2_share_38 (by decide) ?_
          exact c_iret hx hb hr hlocks I dX2_share_42 (by unfold f_share; rw [if_pos ⟨h1, h8⟩, e9, if_neg (by decide)])
        · rw [sA_A, if_pos rfl, if_pos rfl] at n33
          exact absurd (show (-1 : Int32) < 0 by decide) n33
      · obtain ⟨q, hq48, e9⟩ := (neg_row (hN.2.2.2.1 _ (ix_nI (ix_of h8 (by decide) (by decide)) (by decide)).2)).2 n26
        have hh : c_held S0 q := c_held_row (ix_nI (ix_of h8 (by decide) (by decide)) (by decide)).2 hq48 e9
        rw [show (S0.2 1 y.toNatClampNeg).toNatClampNeg = q by rw [e9, nI_clamp (show q < 2 ^ 31 by omega)]]
        refine c_rows_st hx hb I hh (ix_of h1 (by decide) (by decide)) dX2_share_27 (fun H locs I => ?_)
        refine lv_aload_n hx hb dX2_share_28 rfl (lv_at hl 0 rfl) ?_
        refine c_get1 hx hb hts hin2 hown I L17 dX2_share_29 ?_
        refine lv_iload_n hx hb dX2_share_32 rfl (lv_at hl 1 rfl) ?_
        refine c_row_ld hx hb I (ix_of h1 (by decide) (by decide)) dX2_share_33 (fun n33 => ?_) (fun n33 => ?_)
        · rw [sA_A, if_pos rfl, if_pos rfl] at n33
          exact absurd n33 (nI_pos (by omega))
        · refine lv_ifnonnull (tgt := 41) hx hb dX2_share_34 (by decide) ?_
          refine lv_iconst (v := 1) hx hb dX2_share_41 (by decide) ?_
          exact c_iret hx hb hr hlocks I dX2_share_42 (by unfold f_share; rw [if_pos ⟨h1, h8⟩, e9, if_pos (nI_pos' (by omega))])
    · refine lv_if_ne (tgt := 16) hx hb dX2_share_11 (by decide) (fun h => absurd h (by decide)) (fun _ => ?_)
      refine lv_iconst (v := (-1)) hx hb dX2_share_14 (by decide) ?_
      exact c_iret hx hb hr hlocks I dX2_share_15 (by unfold f_share; rw [if_neg (fun w => h8 w.2)])
  · refine lv_if_eq (tgt := 14) hx hb dX2_share_4 (by decide) (fun _ => ?_) (fun h => absurd h (by decide))
    refine lv_iconst (v := (-1)) hx hb dX2_share_14 (by decide) ?_
    exact c_iret hx hb hr hlocks I dX2_share_15 (by unfold f_share; rw [if_neg (fun w => h1 w.1)])

set_option maxHeartbeats 4000000 in
set_option maxRecDepth 100000 in
theorem c_X2_sortOrigins (l : Launch) (D : va_G) (o : Nat) (ap : Nat → Nat) (cA cR cU : ClassId) (A : Nat → Prop) (ρ σ ra : Nat → Nat) (L : List Nat) (f0 : Nat → va_E) (S0 : tr_S) (z0 : tr_Z) (n : Nat) (K : Nat → Int32) (hn : n ≤ 10) (hK : ∀ j, j < n → z0.2.2 5 j = K j) : c_Mv l yX2_sortOrigins wsX2_sortOrigins { frames := 0, cells := 0, slots := 0, locals := 0 } [.int (nI n)] D o ap cA cR cU A ρ σ ra L f0 S0 z0 (fun u => u.1 = S0 ∧ ∃ Q : Nat → Nat, k_srt K Q n ∧ ∀ j, j < n → u.2.2.2 6 j = nI (Q j)) := by
  refine Met.ofW (cc := cX2_sortOrigins) (maxL := 4) (ret := none) (by decide) rfl ?_
  intro p e s m args below meth c s₁ B hml hv
  obtain ⟨rfl, hB⟩ := hv
  have hx := B.exec
  have hb := B.bytes
  have hr := B.returns
  have hts := atoms_spec (ws := wsX2_sortOrigins) B.pre
  have hown : s.vm.findClass RX2 = some m.cls := findClass_of_methodNamed B.named
  have hlocks := B.notSynchronized
  have I := c_I.of hB
  have hin2 : ∀ w ∈ wsX20, w ∈ wsX2_sortOrigins := fun _ h => List.mem_cons_of_mem _ (List.mem_append_right _ h)
  have L34 := hts (.fieldLink RX2 34 "TollRules" "keys" "[I") (by decide +kernel)
  have L37 := hts (.fieldLink RX2 37 "TollRules" "origins" "[I") (by decide +kernel)
  have hl := lv_entry ([.ref o, .int (nI n)]) (n := 4) (Nat.le_of_ble_eq_true rfl)
  rw [lg_entry_eq]
  generalize (lg_sl ([.ref o, .int (nI n)]) ++ List.replicate (4 - (lg_sl ([.ref o, .int (nI n)])).length) Slot.unset).toArray = ls at hl ⊢
  have hl : lv_has ls 4 [(0, .ref o), (1, .int (nI n))] := hl
  have LO : ∀ (d i : Nat) (zz : tr_Z) (fg : Nat → va_E) (Q : Nat → Nat), n - i < d → i ≤ n → (∀ j, j < n → zz.2.2 5 j = K j) → k_srt K Q i → (∀ j, j < i → zz.2.2 6 j = nI (Q j)) → ∀ (H : Heap) (locs : List Loc) (ls : Array Slot), c_I D o ap cA cR cU A ρ σ ra L fg S0 zz s s.heap H locs → lv_has ls 4 [(2, .int (nI i)), (0, .ref o), (1, .int (nI n))] → W p l e (headSpec wsX2_sortOrigins { frames := 0, cells := 0, slots := 0, locals := 0 }).room s m (([.ref o, .int (nI n)] : List Value).toArray) below meth c H locs 0 0 (MQ below (va_Qv (fun u => u.1 = S0 ∧ ∃ Q : Nat → Nat, k_srt K Q n ∧ ∀ j, j < n → u.2.2.2 6 j = nI (Q j)) (c_E D o ap cA cR cU A ρ σ ra L) A) (([.ref o, .int (nI n)] : List Value).toArray) s 0 0 A) (F0 m 2 ls []) := by
    intro d
    induction d with
    | zero => intro i zz fg Q hd; omega
    | succ d ih =>
      intro i zz fg Q hd hin hK hQ hO H locs ls I hl
      have J55 : ∀ (a : Nat) (zz : tr_Z) (fg : Nat → va_E), i < n → a ≤ i → (∀ j, j < n → zz.2.2 5 j = K j) → (∀ j, a ≤ j → j < i → K i < K (Q j)) → (∀ j, j < a → zz.2.2 6 j = nI (Q j)) → (∀ j, a < j → j ≤ i → zz.2.2 6 j = nI (Q (j - 1))) → (∀ j, j < a → ¬ K i < K (Q j)) → ∀ (H : Heap) (locs : List Loc) (ls : Array Slot), c_I D o ap cA cR cU A ρ σ ra L fg S0 zz s s.heap H locs → lv_has ls 4 [(3, .int (nI a)), (2, .int (nI i)), (0, .ref o), (1, .int (nI n))] → W p l e (headSpec wsX2_sortOrigins { frames := 0, cells := 0, slots := 0, locals := 0 }).room s m (([.ref o, .int (nI n)] : List Value).toArray) below meth c H locs 0 0 (MQ below (va_Qv (fun u => u.1 = S0 ∧ ∃ Q : Nat → Nat, k_srt K Q n ∧ ∀ j, j < n → u.2.2.2 6 j = nI (Q j)) (c_E D o ap cA cR cU A ρ σ ra L) A) (([.ref o, .int (nI n)] : List Value).toArray) s 0 0 A) (F0 m 55 ls []) := by
        intro a zz fg hi ha hK hhi h1 h2 hlo H locs ls I hl
        refine lv_aload_n hx hb dX2_sortOrigins_55 rfl (lv_at hl 2 rfl) ?_
        refine c_get6 hx hb hts hin2 hown I L37 dX2_sortOrigins_56 ?_
        refine lv_iload_n hx hb dX2_sortOrigins_59 rfl (lv_at hl 0 rfl) ?_
        refine lv_iload_n hx hb dX2_sortOrigins_60 rfl (lv_at hl 1 rfl) ?_
        refine c_ast6 hx hb I (vp_in_nI (by omega) (by decide)) dX2_sortOrigins_61 (fun H locs I => ?_)
        rw [nI_clamp (show a < 2 ^ 31 by omega)] at I
        refine lv_iinc (v := (nI i) + 1) (lv' := [(2, .int ((nI i) + 1)), (3, .int (nI a)), (0, .ref o), (1, .int (nI n))]) hx hb dX2_sortOrigins_62 hl (k := 1) rfl rfl (by decide) rfl (fun ls hl => ?_)
        refine lv_goto (tgt := 2) hx hb dX2_sortOrigins_65 (by decide) ?_
        have hl := lv_sub hl [0, 2, 3] rfl
        rw [nI_1] at hl
        refine ih (i + 1) (zA zz 6 a (nI i)) _ (fun j => if j < a then Q j else if j = a then i else Q (j - 1)) (by omega) (by omega) hK (k_srt_ins hQ ha hlo hhi (fun j hj => if_pos hj) ?_ (fun j hj _ => ?_)) (fun j hj => ?_) H locs ls I hl
        · show (if a < a then Q a else if a = a then i else Q (a - 1)) = i
          rw [if_neg (Nat.lt_irrefl a), if_pos rfl]
        · show (if j < a then Q j else if j = a then i else Q (j - 1)) = Q (j - 1)
          rw [if_neg (by omega), if_neg (by omega)]
        · show _ = nI (if j < a then Q j else if j = a then i else Q (j - 1))
          rw [zA_A, if_pos rfl]
          by_cases e : j = a
          · rw [if_pos e, if_neg (by omega), if_pos e]
          · rw [if_neg e]
            by_cases e2 : j < a
            · rw [if_pos e2]; exact h1 j e2
            · rw [if_neg e2, if_neg e]; exact h2 j (by omega) (by omega)
      have JI : ∀ (a : Nat) (zz : tr_Z) (fg : Nat → va_E), i < n → a ≤ i → (∀ j, j < n → zz.2.2 5 j = K j) → (∀ j, a ≤ j → j < i → K i < K (Q j)) → (∀ j, j < a → zz.2.2 6 j = nI (Q j)) → (∀ j, a < j → j ≤ i → zz.2.2 6 j = nI (Q (j - 1))) → ∀ (H : Heap) (locs : List Loc) (ls : Array Slot), c_I D o ap cA cR cU A ρ σ ra L fg S0 zz s s.heap H locs → lv_has ls 4 [(3, .int (nI a)), (2, .int (nI i)), (0, .ref o), (1, .int (nI n))] → W p l e (headSpec wsX2_sortOrigins { frames := 0, cells := 0, slots := 0, locals := 0 }).room s m (([.ref o, .int (nI n)] : List Value).toArray) below meth c H locs 0 0 (MQ below (va_Qv (fun u => u.1 = S0 ∧ ∃ Q : Nat → Nat, k_srt K Q n ∧ ∀ j, j < n → u.2.2.2 6 j = nI (Q j)) (c_E D o ap cA cR cU A ρ σ ra L) A) (([.ref o, .int (nI n)] : List Value).toArray) s 0 0 A) (F0 m 9 ls []) := by
        intro a
        induction a with
        | zero =>
          intro zz fg hi ha hK hhi h1 h2 H locs ls I hl
          refine lv_iload_n hx hb dX2_sortOrigins_9 rfl (lv_at hl 0 rfl) ?_
          refine lv_if_le (tgt := 55) hx hb dX2_sortOrigins_10 (by decide) (fun c10 => ?_) (fun c10 => ?_)
          · exact J55 0 zz _ hi ha hK hhi h1 h2 (fun j hj => absurd hj (Nat.not_lt_zero j)) H locs ls I (lv_sub hl [0, 1, 2, 3] rfl)
          · exact absurd (show nI 0 ≤ 0 by decide) c10
        | succ b ihb =>
          intro zz fg hi ha hK hhi h1 h2 H locs ls I hl
          have hQb := (hQ b (by omega)).1
          refine lv_iload_n hx hb dX2_sortOrigins_9 rfl (lv_at hl 0 rfl) ?_
          refine lv_if_le (tgt := 55) hx hb dX2_sortOrigins_10 (by decide) (fun c10 => ?_) (fun c10 => ?_)
          · have hb0 := nI_lb (n := b + 1) (j := 0) (by omega) (by omega) c10
            omega
          · refine lv_aload_n hx hb dX2_sortOrigins_13 rfl (lv_at hl 2 rfl) ?_
            refine c_get5 hx hb hts hin2 hown I L34 dX2_sortOrigins_14 ?_
            refine lv_aload_n hx hb dX2_sortOrigins_17 rfl (lv_at hl 2 rfl) ?_
            refine c_get6 hx hb hts hin2 hown I L37 dX2_sortOrigins_18 ?_
            refine lv_iload_n hx hb dX2_sortOrigins_21 rfl (lv_at hl 0 rfl) ?_
            refine lv_iconst (v := 1) hx hb dX2_sortOrigins_22 (by decide) ?_
            refine lv_isub hx hb dX2_sortOrigins_23 ?_
            refine c_ald6 hx hb I (by rw [nI_pred]; exact vp_in_nI (by omega) (by decide)) dX2_sortOrigins_24 (x := nI (Q b)) (by rw [show (nI (b + 1) - 1).toNatClampNeg = b from by rw [nI_pred, nI_clamp (by omega)]]; exact (h1 b (by omega))) ?_
            refine c_ald5 hx hb I (vp_in_nI (by omega) (by decide)) dX2_sortOrigins_25 (x := K (Q b)) (by rw [nI_clamp (show Q b < 2 ^ 31 by omega)]; exact (hK (Q b) (by omega))) ?_
            refine lv_aload_n hx hb dX2_sortOrigins_26 rfl (lv_at hl 2 rfl) ?_
            refine c_get5 hx hb hts hin2 hown I L34 dX2_sortOrigins_27 ?_
            refine lv_iload_n hx hb dX2_sortOrigins_30 rfl (lv_at hl 1 rfl) ?_
            refine c_ald5 hx hb I (vp_in_nI (by omega) (by decide)) dX2_sortOrigins_31 (x := K i) (by rw [nI_clamp (show i < 2 ^ 31 by omega)]; exact (hK i (by omega))) ?_
            refine lv_icmp_le (tgt := 55) hx hb dX2_sortOrigins_32 (by decide) (fun c32 => ?_) (fun c32 => ?_)
            · refine J55 (b + 1) zz _ hi ha hK hhi h1 h2 (fun j hj => ?_) H locs ls I (lv_sub hl [0, 1, 2, 3] rfl)
              by_cases e : j = b
              · rw [e]; exact Int32.not_lt.mpr c32
              · rcases k_srt_lt hQ (show j < b by omega) (show b < i by omega) with w | w
                · exact fun q => Int32.lt_irrefl (Int32.lt_of_lt_of_le q (Int32.le_trans (Int32.le_of_lt w) c32))
                · rw [w.1]; exact Int32.not_lt.mpr c32
            · refine lv_aload_n hx hb dX2_sortOrigins_35 rfl (lv_at hl 2 rfl) ?_
              refine c_get6 hx hb hts hin2 hown I L37 dX2_sortOrigins_36 ?_
              refine lv_iload_n hx hb dX2_sortOrigins_39 rfl (lv_at hl 0 rfl) ?_
              refine lv_aload_n hx hb dX2_sortOrigins_40 rfl (lv_at hl 2 rfl) ?_
              refine c_get6 hx hb hts hin2 hown I L37 dX2_sortOrigins_41 ?_
              refine lv_iload_n hx hb dX2_sortOrigins_44 rfl (lv_at hl 0 rfl) ?_
              refine lv_iconst (v := 1) hx hb dX2_sortOrigins_45 (by decide) ?_
              refine lv_isub hx hb dX2_sortOrigins_46 ?_
              refine c_ald6 hx hb I (by rw [nI_pred]; exact vp_in_nI (by omega) (by decide)) dX2_sortOrigins_47 (x := nI (Q b)) (by rw [show (nI (b + 1) - 1).toNatClampNeg = b from by rw [nI_pred, nI_clamp (by omega)]]; exact (h1 b (by omega))) ?_
              refine c_ast6 hx hb I (vp_in_nI (by omega) (by decide)) dX2_sortOrigins_48 (fun H locs I => ?_)
              rw [nI_clamp (show b + 1 < 2 ^ 31 by omega)] at I
              refine lv_iinc (v := (nI (b + 1)) + (-1)) (lv' := [(3, .int ((nI (b + 1)) + (-1))), (2, .int (nI i)), (0, .ref o), (1, .int (nI n))]) hx hb dX2_sortOrigins_49 hl (k := 0) rfl rfl (by decide) rfl (fun ls hl => ?_)
              refine lv_goto (tgt := 9) hx hb dX2_sortOrigins_52 (by decide) ?_
              have hl := lv_sub hl [0, 1, 2, 3] rfl
              rw [nI_dec] at hl
              refine ihb (zA zz 6 (b + 1) (nI (Q b))) _ hi (by omega) hK (fun j hj hji => ?_) (fun j hj => ?_) (fun j hj hji => ?_) H locs ls I hl
              · by_cases e : j = b
                · rw [e]; exact Int32.not_le.mp c32
                · exact hhi j (by omega) hji
              · rw [zA_A, if_pos rfl, if_neg (by omega)]; exact h1 j (by omega)
              · rw [zA_A, if_pos rfl]
                by_cases e : j = b + 1
                · rw [if_pos e, e]; rfl
                · rw [if_neg e]; exact h2 j (by omega) hji
      refine lv_iload_n hx hb dX2_sortOrigins_2 rfl (lv_at hl 0 rfl) ?_
      refine lv_iload_n hx hb dX2_sortOrigins_3 rfl (lv_at hl 2 rfl) ?_
      refine lv_icmp_ge (tgt := 68) hx hb dX2_sortOrigins_4 (by decide) (fun c4 => ?_) (fun c4 => ?_)
      · have hni : n ≤ i := nI_lb (by omega) (by omega) c4
        rw [show i = n by omega] at hQ hO
        exact c_vret hx hb hr hlocks I dX2_sortOrigins_68 ⟨rfl, Q, hQ, hO⟩
      · refine lv_iload_n hx hb dX2_sortOrigins_7 rfl (lv_at hl 0 rfl) ?_
        refine lv_istore_n (lv' := [(3, .int (nI i)), (2, .int (nI i)), (0, .ref o), (1, .int (nI n))]) hx hb dX2_sortOrigins_8 rfl hl (by decide) rfl (fun ls hl => ?_)
        have hi : i < n := nI_ub (by omega) (by omega) c4
        exact JI i zz _ hi (Nat.le_refl i) hK (fun j h1 h2 => by omega) hO (fun j h1 h2 => by omega) H locs ls I (lv_sub hl [0, 1, 2, 3] rfl)
  refine lv_iconst (v := 0) hx hb dX2_sortOrigins_0 (by decide) ?_
  refine lv_istore_n (lv' := [(2, .int 0), (0, .ref o), (1, .int (nI n))]) hx hb dX2_sortOrigins_1 rfl hl (by decide) rfl (fun ls hl => ?_)
  exact LO (n + 1) 0 z0 f0 (fun _ => 0) (by omega) (by omega) hK (fun j hj => absurd hj (Nat.not_lt_zero j)) (fun j hj => absurd hj (Nat.not_lt_zero j)) _ _ ls I (lv_sub hl [0, 1, 2] rfl)

set_option maxHeartbeats 4000000 in
set_option maxRecDepth 100000 in
theorem c_X2_moveByOrigins (l : Launch) (D : va_G) (o : Nat) (ap : Nat → Nat) (cA cR cU : ClassId) (A : Nat → Prop) (ρ σ ra : Nat → Nat) (L : List Nat) (f0 : Nat → va_E) (S0 : tr_S) (z0 : tr_Z) (q n : Nat) (K : Nat → Int32) (Q : Nat → Nat) (hh : c_held S0 q) (hz : S0.2 2 q = nI n) (hn : n ≤ 10) (hQ : k_srt K Q n) (hO : ∀ j, j < n → z0.2.2 6 j = nI (Q j)) : c_Mi l yX2_moveByOrigins wsX2_moveByOrigins { frames := 1, cells := 0, slots := 0, locals := 60 } [.ref (σ q)] D o ap cA cR cU A ρ σ ra L f0 S0 z0 (fun v u => (v, u.1) = (l_mv K n n, l_put q (fun j => S0.2 3 (10 * q + l_find K n j n)) n S0)) := by
  refine Met.ofW (cc := cX2_moveByOrigins) (maxL := 4) (ret := (some .int)) (by decide) rfl ?_
  intro p e s m args below meth c s₁ B hml hv
  obtain ⟨rfl, hB⟩ := hv
  have hx := B.exec
  have hb := B.bytes
  have hr := B.returns
  have hts := atoms_spec (ws := wsX2_moveByOrigins) B.pre
  have hown : s.vm.findClass RX2 = some m.cls := findClass_of_methodNamed B.named
  have hlocks := B.notSynchronized
  have I := c_I.of hB
  have hin2 : ∀ w ∈ wsX20, w ∈ wsX2_moveByOrigins := fun _ h => List.mem_cons_of_mem _ (List.mem_append_right _ h)
  have L31 := hts (.fieldLink RX2 31 "TollRules" "moved" "[I") (by decide +kernel)
  have L37 := hts (.fieldLink RX2 37 "TollRules" "origins" "[I") (by decide +kernel)
  have hl := lv_entry ([.ref o, .ref (σ q)]) (n := 4) (Nat.le_of_ble_eq_true rfl)
  rw [lg_entry_eq]
  generalize (lg_sl ([.ref o, .ref (σ q)]) ++ List.replicate (4 - (lg_sl ([.ref o, .ref (σ q)])).length) Slot.unset).toArray = ls at hl ⊢
  have hl : lv_has ls 4 [(0, .ref o), (1, .ref (σ q))] := hl
  have LM : ∀ (d i : Nat) (zz : tr_Z) (fg : Nat → va_E), n - i < d → i ≤ n → (∀ j, j < n → zz.2.2 6 j = nI (Q j)) → (∀ j, j < i → zz.2.2 4 j = S0.2 3 (10 * q + Q j)) → ∀ (H : Heap) (locs : List Loc) (ls : Array Slot), c_I D o ap cA cR cU A ρ σ ra L fg S0 zz s s.heap H locs → lv_has ls 4 [(3, .int (nI i)), (2, .int (l_mv K n i)), (0, .ref o), (1, .ref (σ q))] → W p l e (headSpec wsX2_moveByOrigins { frames := 1, cells := 0, slots := 0, locals := 60 }).room s m (([.ref o, .ref (σ q)] : List Value).toArray) below meth c H locs 0 0 (MQ below (va_Qi (fun v u => (v, u.1) = (l_mv K n n, l_put q (fun j => S0.2 3 (10 * q + l_find K n j n)) n S0)) (c_E D o ap cA cR cU A ρ σ ra L) A) (([.ref o, .ref (σ q)] : List Value).toArray) s 0 0 A) (F0 m 4 ls []) := by
    intro d
    induction d with
    | zero => intro i zz fg hd; omega
    | succ d ih =>
      intro i zz fg hd hin hO hM H locs ls I hl
      refine lv_iload_n hx hb dX2_moveByOrigins_4 rfl (lv_at hl 0 rfl) ?_
      refine lv_aload_n hx hb dX2_moveByOrigins_5 rfl (lv_at hl 3 rfl) ?_
      refine c_arr_len hx hb I hh hz (by omega) dX2_moveByOrigins_6 ?_
      refine lv_icmp_ge (tgt := 43) hx hb dX2_moveByOrigins_7 (by decide) (fun c7 => ?_) (fun c7 => ?_)
      · refine lv_aload_n hx hb dX2_moveByOrigins_43 rfl (lv_at hl 2 rfl) ?_
        refine c_get4 hx hb hts hin2 hown I L31 dX2_moveByOrigins_44 ?_
        refine lv_iconst (v := 0) hx hb dX2_moveByOrigins_47 (by decide) ?_
        refine lv_aload_n hx hb dX2_moveByOrigins_48 rfl (lv_at hl 3 rfl) ?_
        refine lv_iconst (v := 0) hx hb dX2_moveByOrigins_49 (by decide) ?_
        refine lv_aload_n hx hb dX2_moveByOrigins_50 rfl (lv_at hl 3 rfl) ?_
        refine c_arr_len hx hb I hh hz (by omega) dX2_moveByOrigins_51 ?_
        refine c_copy (rest := []) (R := (headSpec wsX2_moveByOrigins { frames := 1, cells := 0, slots := 0, locals := 60 }).room) hx hb (hml.trans hl.1.symm) hown (hts (.methodLink RX2 179 arraycopyName) (by decide +kernel)) (hts (.native arraycopyName) (by decide +kernel)) (hts (.static arraycopyName) (by decide +kernel)) (hts (.initialized "java/lang/System") (by decide +kernel)) I hh hz hn (Nat.le_of_ble_eq_true rfl) (Nat.le_of_ble_eq_true rfl) dX2_moveByOrigins_52 (fun f1 H locs I => ?_)
        refine lv_iload_n hx hb dX2_moveByOrigins_55 rfl (lv_at hl 1 rfl) ?_
        have hni : n ≤ i := nI_lb (by omega) (by omega) c7
        have eP : l_put q (zz.2.2 4) n S0 = l_put q (fun j => S0.2 3 (10 * q + l_find K n j n)) n S0 := by
          refine l_put_congr q S0 n (fun j hj => ?_)
          rw [hM j (by omega)]
          obtain ⟨w1, w2⟩ := hQ j hj
          have w3 := l_find_eq (K := K) w1 n w1 (Nat.le_refl n)
          rw [w2] at w3
          show S0.2 3 (10 * q + Q j) = S0.2 3 (10 * q + l_find K n j n)
          rw [w3]
        refine c_iret hx hb hr hlocks I dX2_moveByOrigins_56 ?_
        rw [← eP, show i = n by omega]
      · have hi : i < n := nI_ub (by omega) (by omega) c7
        obtain ⟨hQi, hQe⟩ := hQ i hi
        refine lv_aload_n hx hb dX2_moveByOrigins_10 rfl (lv_at hl 2 rfl) ?_
        refine c_get4 hx hb hts hin2 hown I L31 dX2_moveByOrigins_11 ?_
        refine lv_iload_n hx hb dX2_moveByOrigins_14 rfl (lv_at hl 0 rfl) ?_
        refine lv_aload_n hx hb dX2_moveByOrigins_15 rfl (lv_at hl 3 rfl) ?_
        refine lv_aload_n hx hb dX2_moveByOrigins_16 rfl (lv_at hl 2 rfl) ?_
        refine c_get6 hx hb hts hin2 hown I L37 dX2_moveByOrigins_17 ?_
        refine lv_iload_n hx hb dX2_moveByOrigins_20 rfl (lv_at hl 0 rfl) ?_
        refine c_ald6 hx hb I (vp_in_nI (show i < 10 by omega) (by decide)) dX2_moveByOrigins_21 (x := nI (Q i)) (by rw [nI_clamp (show i < 2 ^ 31 by omega)]; exact (hO i hi)) ?_
        refine c_arr_ld hx hb I hh hz hn hQi dX2_moveByOrigins_22 (x := S0.2 3 (10 * q + Q i)) rfl ?_
        refine c_ast4 hx hb I (vp_in_nI (show i < 10 by omega) (by decide)) dX2_moveByOrigins_23 (fun H locs I => ?_)
        rw [nI_clamp (show i < 2 ^ 31 by omega)] at I
        refine lv_aload_n hx hb dX2_moveByOrigins_24 rfl (lv_at hl 2 rfl) ?_
        refine c_get6 hx hb hts hin2 hown I L37 dX2_moveByOrigins_25 ?_
        refine lv_iload_n hx hb dX2_moveByOrigins_28 rfl (lv_at hl 0 rfl) ?_
        refine c_ald6 hx hb I (vp_in_nI (show i < 10 by omega) (by decide)) dX2_moveByOrigins_29 (x := nI (Q i)) (by rw [nI_clamp (show i < 2 ^ 31 by omega)]; exact (hO i hi)) ?_
        refine lv_iload_n hx hb dX2_moveByOrigins_30 rfl (lv_at hl 0 rfl) ?_
        refine lv_icmp_eq (tgt := 37) hx hb dX2_moveByOrigins_31 (by decide) (fun c31 => ?_) (fun c31 => ?_)
        · refine lv_iinc (v := (nI i) + 1) (lv' := [(3, .int ((nI i) + 1)), (2, .int (l_mv K n i)), (0, .ref o), (1, .ref (σ q))]) hx hb dX2_moveByOrigins_37 hl (k := 0) rfl rfl (by decide) rfl (fun ls hl => ?_)
          refine lv_goto (tgt := 4) hx hb dX2_moveByOrigins_40 (by decide) ?_
          have hl := lv_sub hl [0, 1, 2, 3] rfl
          have eM : l_mv K n (i + 1) = l_mv K n i := by
            conv => lhs; unfold l_mv
            rw [if_pos (by have w := (nI_eq (by omega) (by omega)).mp c31; rw [w] at hQe; exact hQe)]
            exact Int32.add_zero _
          rw [nI_1, ← eM] at hl
          refine ih (i + 1) (zA zz 4 i (S0.2 3 (10 * q + Q i))) _ (by omega) (by omega) hO (fun j hj => ?_) H locs ls I hl
          rw [zA_A, if_pos rfl]
          by_cases e : j = i
          · rw [if_pos e, e]
          · rw [if_neg e]; exact hM j (by omega)
        · refine lv_iinc (v := (l_mv K n i) + 1) (lv' := [(2, .int ((l_mv K n i) + 1)), (3, .int (nI i)), (0, .ref o), (1, .ref (σ q))]) hx hb dX2_moveByOrigins_34 hl (k := 1) rfl rfl (by decide) rfl (fun ls hl => ?_)
          refine lv_iinc (v := (nI i) + 1) (lv' := [(3, .int ((nI i) + 1)), (2, .int ((l_mv K n i) + 1)), (0, .ref o), (1, .ref (σ q))]) hx hb dX2_moveByOrigins_37 hl (k := 1) rfl rfl (by decide) rfl (fun ls hl => ?_)
          refine lv_goto (tgt := 4) hx hb dX2_moveByOrigins_40 (by decide) ?_
          have hl := lv_sub hl [0, 1, 2, 3] rfl
          have eM : l_mv K n (i + 1) = l_mv K n i + 1 := by
            conv => lhs; unfold l_mv
            rw [if_neg (fun w => c31 (by rw [l_cnt_inj K hQi hi (hQe.trans w.symm)]))]
          rw [nI_1, ← eM] at hl
          refine ih (i + 1) (zA zz 4 i (S0.2 3 (10 * q + Q i))) _ (by omega) (by omega) hO (fun j hj => ?_) H locs ls I hl
          rw [zA_A, if_pos rfl]
          by_cases e : j = i
          · rw [if_pos e, e]
          · rw [if_neg e]; exact hM j (by omega)
  refine lv_iconst (v := 0) hx hb dX2_moveByOrigins_0 (by decide) ?_
  refine lv_istore_n (lv' := [(2, .int 0), (0, .ref o), (1, .ref (σ q))]) hx hb dX2_moveByOrigins_1 rfl hl (by decide) rfl (fun ls hl => ?_)
  refine lv_iconst (v := 0) hx hb dX2_moveByOrigins_2 (by decide) ?_
  refine lv_istore_n (lv' := [(3, .int 0), (2, .int 0), (0, .ref o), (1, .ref (σ q))]) hx hb dX2_moveByOrigins_3 rfl hl (by decide) rfl (fun ls hl => ?_)
  exact LM (n + 1) 0 z0 f0 (by omega) (by omega) hO (fun j hj => absurd hj (Nat.not_lt_zero j)) _ _ ls I (lv_sub hl [0, 1, 2, 3] rfl)

set_option maxHeartbeats 4000000 in
set_option maxRecDepth 100000 in
theorem c_X2_order (l : Launch) (D : va_G) (o : Nat) (ap : Nat → Nat) (cA cR cU : ClassId) (A : Nat → Prop) (ρ σ ra : Nat → Nat) (L : List Nat) (f0 : Nat → va_E) (S0 : tr_S) (z0 : tr_Z) (r y : Int32) (N : Nat) (hN : wf S0 N) : c_Mi l yX2_order wsX2_order { frames := 121, cells := 0, slots := 0, locals := 2743 } [.int r, .int y] D o ap cA cR cU A ρ σ ra L f0 S0 z0 (fun v u => (v, u.1) = a_order r y S0) := by
  refine Met.ofW (cc := cX2_order) (maxL := 6) (ret := (some .int)) (by decide) rfl ?_
  intro p e s m args below meth c s₁ B hml hv
  obtain ⟨rfl, hB⟩ := hv
  have hx := B.exec
  have hb := B.bytes
  have hr := B.returns
  have hts := atoms_spec (ws := wsX2_order) B.pre
  have hown : s.vm.findClass RX2 = some m.cls := findClass_of_methodNamed B.named
  have hlocks := B.notSynchronized
  have I := c_I.of hB
  have hin2 : ∀ w ∈ wsX20, w ∈ wsX2_order := fun _ h => List.mem_cons_of_mem _ (List.mem_append_left _ (List.mem_append_left _ (List.mem_append_right _ h)))
  have hin0 : ∀ w ∈ wsX00, w ∈ wsX2_order := fun _ h => List.mem_cons_of_mem _ (List.mem_append_left _ (List.mem_append_right _ h))
  have hin1 : ∀ w ∈ wsX10, w ∈ wsX2_order := fun _ h => List.mem_cons_of_mem _ (List.mem_append_right _ h)
  have L17 := hts (.fieldLink RX2 17 "TollRules" "rows" "[LTollRules$Row;") (by decide +kernel)
  have L34 := hts (.fieldLink RX2 34 "TollRules" "keys" "[I") (by decide +kernel)
  have L86 := hts (.fieldLink RX2 86 "TollRules$Row" "items" "[I") (by decide +kernel)
  have hl := lv_entry ([.ref o, .int r, .int y]) (n := 6) (Nat.le_of_ble_eq_true rfl)
  rw [lg_entry_eq]
  generalize (lg_sl ([.ref o, .int r, .int y]) ++ List.replicate (6 - (lg_sl ([.ref o, .int r, .int y])).length) Slot.unset).toArray = ls at hl ⊢
  have hl : lv_has ls 6 [(0, .ref o), (1, .int r), (2, .int y)] := hl
  by_cases hg : 0 ≤ r ∧ r ≤ S0.1 4 - 1
  · obtain ⟨k, hk, ek⟩ := rule_of hN hg
    have LE : ∀ (d q zn i rem : Nat) (K : Nat → Int32) (SA : tr_S) (zz : tr_Z) (fg : Nat → va_E), rem < d → q < 48 → zn ≤ 10 → i + rem = zn → e_go SA N → SA.2 2 q = nI zn → c_held SA q → zz.1 = 0 → (∀ j, j < i → zz.2.2 5 j = K j) → a_order r y S0 = f_order q zn (l_keys (nI k) q rem i K SA) → ∀ (H : Heap) (locs : List Loc) (ls : Array Slot), c_I D o ap cA cR cU A ρ σ ra L fg SA zz s s.heap H locs → lv_has ls 6 [(5, .int (nI i)), (4, .ref (σ q)), (3, .ref (ρ q)), (0, .ref o), (1, .int (nI k)), (2, .int y)] → W p l e (headSpec wsX2_order { frames := 121, cells := 0, slots := 0, locals := 2743 }).room s m (([.ref o, .int r, .int y] : List Value).toArray) below meth c H locs 0 0 (MQ below (va_Qi (fun v u => (v, u.1) = a_order r y S0) (c_E D o ap cA cR cU A ρ σ ra L) A) (([.ref o, .int r, .int y] : List Value).toArray) s 0 0 A) (F0 m 46 ls []) := by
      intro d
      induction d with
      | zero => intro q zn i rem _ _ _ _ hd; omega
      | succ d ih =>
        intro q zn i rem K SA zz fg hd hq hz10 hiz g hz hh hzz hKK hT H locs ls I hl
        refine lv_iload hx hb dX2_order_46 (lv_at hl 0 rfl) ?_
        refine lv_aload hx hb dX2_order_48 (lv_at hl 1 rfl) ?_
        refine c_arr_len hx hb I hh hz (by omega) dX2_order_50 ?_
        refine lv_icmp_ge (tgt := 89) hx hb dX2_order_51 (by decide) (fun c51 => ?_) (fun c51 => ?_)
        · refine lv_aload_n hx hb dX2_order_89 rfl (lv_at hl 3 rfl) ?_
          refine lv_aload hx hb dX2_order_90 (lv_at hl 1 rfl) ?_
          refine c_arr_len hx hb I hh hz (by omega) dX2_order_92 ?_
          have hi : zn ≤ i := nI_lb (by omega) (by omega) c51
          obtain rfl : rem = 0 := by omega
          have ein : i = zn := by omega
          refine c_callv (rest := []) ⟨hx, hb, hml, hown, hts⟩ (c_X2_sortOrigins l D o ap cA cR cU A ρ σ ra L _ SA zz zn K hz10 (fun j hj => hKK j (by omega))) (cwV 1 hts gX2_order_X2_sortOrigins rfl rfl rfl (by decide +kernel) ⟨Nat.le_of_ble_eq_true rfl, Nat.le_of_ble_eq_true rfl⟩) I rfl hl.1 rfl (Nat.le_of_ble_eq_true rfl) dX2_order_93 ⟨Nat.le_refl _, Nat.le_refl _⟩ (fun S93 z93 f1 H locs p93 I => ?_)
          obtain ⟨e93, Qo, hQo, hOo⟩ := p93
          have e93 : S93 = SA := e93
          rw [e93] at I
          refine lv_aload_n hx hb dX2_order_96 rfl (lv_at hl 3 rfl) ?_
          refine lv_aload hx hb dX2_order_97 (lv_at hl 1 rfl) ?_
          refine c_calli (rest := []) ⟨hx, hb, hml, hown, hts⟩ (c_X2_moveByOrigins l D o ap cA cR cU A ρ σ ra L _ SA z93 q zn K Qo hh hz hz10 hQo hOo) (cwV 1 hts gX2_order_X2_moveByOrigins rfl rfl rfl (by decide +kernel) ⟨Nat.le_of_ble_eq_true rfl, Nat.le_of_ble_eq_true rfl⟩) I rfl hl.1 rfl (Nat.le_of_ble_eq_true rfl) dX2_order_99 ⟨Nat.le_refl _, Nat.le_refl _⟩ (fun r99 S99 z99 f1 H locs p99 I => ?_)
          have ea99 : r99 = l_mv K zn zn := congrArg Prod.fst p99
          have eb99 : S99 = l_put q (fun j => SA.2 3 (10 * q + l_find K zn j zn)) zn SA := congrArg Prod.snd p99
          rw [eb99] at I
          have hg0 : (l_put q (fun j => SA.2 3 (10 * q + l_find K zn j zn)) zn SA).1 16 = 0 := by rw [l_put_F]; exact g.2.1
          refine c_iret (S := (f_ends (l_mv K zn zn) (l_put q (fun j => SA.2 3 (10 * q + l_find K zn j zn)) zn SA)).2) hx hb hr hlocks (c_I_ok hg0 I) dX2_order_102 ?_
          rw [hT]
          unfold l_keys f_order
          rw [if_pos g.2.1, f_ends_ok (l_mv K zn zn) hg0, ea99]
        · have hi : i < zn := nI_ub (by omega) (by omega) c51
          obtain ⟨rm, rfl⟩ : ∃ k, rem = k + 1 := ⟨rem - 1, by omega⟩
          refine lv_aload_n hx hb dX2_order_54 rfl (lv_at hl 3 rfl) ?_
          refine c_get5 hx hb hts hin2 hown I L34 dX2_order_55 ?_
          refine lv_iload hx hb dX2_order_58 (lv_at hl 0 rfl) ?_
          refine lv_aload_n hx hb dX2_order_60 rfl (lv_at hl 3 rfl) ?_
          refine lv_iload_n hx hb dX2_order_61 rfl (lv_at hl 4 rfl) ?_
          refine lv_aload hx hb dX2_order_62 (lv_at hl 1 rfl) ?_
          refine lv_iload hx hb dX2_order_64 (lv_at hl 0 rfl) ?_
          refine c_arr_ld hx hb I hh hz hz10 hi dX2_order_66 (x := SA.2 3 (10 * q + i)) rfl ?_
          refine c_calli (rest := [.int (nI i), .ref (ap 5)]) ⟨hx, hb, hml, hown, hts⟩ (c_X2_give l N 40 D o ap cA cR cU A ρ σ ra L _ SA zz k (SA.2 3 (10 * q + i)) (by have := hN.1; omega) (by omega) g.1 g.2.2 g.2.1 hzz) (cwV 2 hts gX2_order_X2_give rfl rfl rfl (by decide +kernel) ⟨Nat.le_of_ble_eq_true rfl, Nat.le_of_ble_eq_true rfl⟩) I rfl hl.1 rfl (Nat.le_of_ble_eq_true rfl) dX2_order_67 ⟨Nat.le_refl _, Nat.le_refl _⟩ (fun r67 S67 z67 f1 H locs p67 I => ?_)
          obtain ⟨q67, hq67⟩ : ∃ qx, qx = ev 40 (nI k) (SA.2 3 (10 * q + i)) SA := ⟨_, rfl⟩
          rw [← hq67] at p67
          obtain ⟨ea67, eb67, ec67, ed67, ee67⟩ := p67
          have ea67 : S67 = q67.2 := ea67
          have eb67 : z67.2.2 = zz.2.2 := eb67
          have ec67 : z67.1 = q67.2.1 16 := ec67
          have ed67 : ¬ q67.2.1 16 = 0 → z67.2.1 = q67.2.1 17 := ed67
          rw [ea67] at I
          have sm67 : e_sm SA q67.2 := by rw [hq67]; exact ev_sm 40 _ _ _
          have ps67 : e_pos q67.2 := by rw [hq67]; exact ev_pos 40 _ _ _ (Or.inl g.2.1)
          have go67 : q67.2.1 16 = 0 → e_go q67.2 N := fun h => by rw [hq67] at h ⊢; exact g.ev 40 _ _ h
          refine c_ast5 hx hb I (vp_in_nI (show i < 10 by omega) (by decide)) dX2_order_70 (fun H locs I => ?_)
          rw [nI_clamp (show i < 2 ^ 31 by omega)] at I
          refine lv_aload_n hx hb dX2_order_71 rfl (lv_at hl 3 rfl) ?_
          refine c_isRefused ⟨hx, hb, hml, hown, hts⟩ gX2_order_X2_isRefused ⟨Nat.le_of_ble_eq_true rfl, Nat.le_of_ble_eq_true rfl⟩ ⟨Nat.le_refl _, Nat.le_refl _⟩ I hl.1 (Nat.le_of_ble_eq_true rfl) dX2_order_72 (fun h72 f1 H locs I => ?_) (fun h72 f1 H locs I => ?_)
          · refine lv_if_eq (tgt := 83) hx hb dX2_order_75 (by decide) (fun h => absurd h (by decide)) (fun _ => ?_)
            refine lv_aload_n hx hb dX2_order_78 rfl (lv_at hl 3 rfl) ?_
            refine c_calli (rest := []) ⟨hx, hb, hml, hown, hts⟩ (c_X2_fail l D o ap cA cR cU A ρ σ ra L _ q67.2 (zA z67 5 i r67)) (cwV 0 hts gX2_order_X2_fail rfl rfl rfl (by decide +kernel) ⟨Nat.le_of_ble_eq_true rfl, Nat.le_of_ble_eq_true rfl⟩) I rfl hl.1 rfl (Nat.le_of_ble_eq_true rfl) dX2_order_79 ⟨Nat.le_refl _, Nat.le_refl _⟩ (fun r79 S79 z79 f1 H locs p79 I => ?_)
            have fa : r79 = -10 - z67.1 := congrArg Prod.fst p79
            have fb : S79 = sF (sF (sF q67.2 21 z67.1) 22 z67.2.1) 23 (q67.2.1 23 + 1) := congrArg (fun t => t.2.1) p79
            have hne : ¬ q67.2.1 16 = 0 := fun h => h72 (ec67.trans h)
            rw [fb, ec67, ed67 hne] at I
            rw [ec67] at fa
            refine c_iret (S := (f_ends 0 q67.2).2) hx hb hr hlocks (c_I_no hne ps67 I) dX2_order_82 ?_
            rw [hT]
            unfold l_keys
            rw [← hq67, if_neg hne]
            unfold f_order
            rw [if_neg hne, f_ends_no 0 hne ps67, fa]
          · refine lv_if_eq (tgt := 83) hx hb dX2_order_75 (by decide) (fun _ => ?_) (fun h => absurd h (by decide))
            refine lv_iinc (v := (nI i) + 1) (lv' := [(5, .int ((nI i) + 1)), (4, .ref (σ q)), (3, .ref (ρ q)), (0, .ref o), (1, .int (nI k)), (2, .int y)]) hx hb dX2_order_83 hl (k := 0) rfl rfl (by decide) rfl (fun ls hl => ?_)
            refine lv_goto (tgt := 46) hx hb dX2_order_86 (by decide) ?_
            have h0 : q67.2.1 16 = 0 := ec67.symm.trans h72
            rw [ee67 h0] at I
            have hl := lv_sub hl [0, 1, 2, 3, 4, 5] rfl
            rw [nI_1] at hl
            refine ih q zn (i + 1) rm (upd K i q67.1) q67.2 (zA z67 5 i q67.1) f1 (by omega) hq hz10 (by omega) (go67 h0) (by rw [sm67.2.2.1]; exact hz) (c_held_sm sm67 hh) (ec67.trans h0) (fun j hj => ?_) ?_ H locs ls I hl
            · rw [zA_A, if_pos rfl]
              unfold upd
              by_cases e : j = i
              · rw [if_pos e, if_pos e]
              · rw [if_neg e, if_neg e, eb67]; exact hKK j (by omega)
            · rw [hT]
              conv => lhs; unfold l_keys
              rw [← hq67, if_pos h0]
    refine lv_aload_n hx hb dX2_order_0 rfl (lv_at hl 0 rfl) ?_
    refine lv_iload_n hx hb dX2_order_1 rfl (lv_at hl 1 rfl) ?_
    refine c_isRule hN ⟨hx, hb, hml, hown, hts⟩ gX2_order_X2_isRule ⟨Nat.le_of_ble_eq_true rfl, Nat.le_of_ble_eq_true rfl⟩ ⟨Nat.le_refl _, Nat.le_refl _⟩ I hl.1 (Nat.le_of_ble_eq_true rfl) dX2_order_2 (fun h2 f1 H locs I => ?_) (fun h2 f1 H locs I => ?_)
    · refine lv_if_eq (tgt := 15) hx hb dX2_order_5 (by decide) (fun h => absurd h (by decide)) (fun _ => ?_)
      refine lv_iload_n hx hb dX2_order_8 rfl (lv_at hl 2 rfl) ?_
      refine c_isRow ⟨hx, hb, hml, hown, hts⟩ gX2_order_X2_isRow ⟨Nat.le_of_ble_eq_true rfl, Nat.le_of_ble_eq_true rfl⟩ ⟨Nat.le_refl _, Nat.le_refl _⟩ hl.1 (Nat.le_of_ble_eq_true rfl) dX2_order_9 (fun h9 => ?_) (fun h9 => ?_)
      · refine lv_if_ne (tgt := 17) hx hb dX2_order_12 (by decide) (fun _ => ?_) (fun h => absurd h (by decide))
        refine lv_aload_n hx hb dX2_order_17 rfl (lv_at hl 0 rfl) ?_
        refine c_get1 hx hb hts hin2 hown I L17 dX2_order_18 ?_
        refine lv_iload_n hx hb dX2_order_21 rfl (lv_at hl 2 rfl) ?_
        refine c_row_ld hx hb I (ix_of h9 (by decide) (by decide)) dX2_order_22 (fun n22 => ?_) (fun n22 => ?_)
        · refine lv_astore_nN (lv' := [(3, .null), (0, .ref o), (1, .int r), (2, .int y)]) hx hb dX2_order_23 rfl hl (by decide) rfl (fun ls hl => ?_)
          refine lv_aload_nN hx hb dX2_order_24 rfl (lv_at hl 0 rfl) ?_
          refine lv_ifnonnullN hx hb dX2_order_25 ?_
          refine lv_iconst (v := 3) hx hb dX2_order_28 (by decide) ?_
          refine c_failAns ⟨hx, hb, hml, hown, hts⟩ gX2_order_X2_failureAnswer ⟨Nat.le_of_ble_eq_true rfl, Nat.le_of_ble_eq_true rfl⟩ ⟨Nat.le_refl _, Nat.le_refl _⟩ hl.1 (Nat.le_of_ble_eq_true rfl) dX2_order_29 ?_
          refine c_iret hx hb hr hlocks I dX2_order_32 ?_
          unfold a_order
          rw [if_pos ⟨hg, h9⟩, if_neg (fun w => absurd n22 (Int32.not_lt.mpr w))]
          rfl
        · refine lv_astore_n (lv' := [(3, .ref (ρ (S0.2 1 y.toNatClampNeg).toNatClampNeg)), (0, .ref o), (1, .int r), (2, .int y)]) hx hb dX2_order_23 rfl hl (by decide) rfl (fun ls hl => ?_)
          refine lv_aload_n hx hb dX2_order_24 rfl (lv_at hl 0 rfl) ?_
          refine lv_ifnonnull (tgt := 33) hx hb dX2_order_25 (by decide) ?_
          obtain ⟨q, hq, eq⟩ := (neg_row (hN.2.2.2.1 _ (ix_nI (ix_of h9 (by decide) (by decide)) (by decide)).2)).2 n22
          obtain ⟨zn, hz10, hz⟩ := hN.2.2.2.2 q hq
          have hh : c_held S0 q := c_held_row (ix_nI (ix_of h9 (by decide) (by decide)) (by decide)).2 hq eq
          rw [eq, nI_clamp (show q < 2 ^ 31 by omega), ek] at hl
          refine lv_aload_n hx hb dX2_order_33 rfl (lv_at hl 1 rfl) ?_
          refine c_callv (rest := []) ⟨hx, hb, hml, hown, hts⟩ (c_X2_begin l D o ap cA cR cU A ρ σ ra L _ S0 z0) (cwV 0 hts gX2_order_X2_begin rfl rfl rfl (by decide +kernel) ⟨Nat.le_of_ble_eq_true rfl, Nat.le_of_ble_eq_true rfl⟩) I rfl hl.1 rfl (Nat.le_of_ble_eq_true rfl) dX2_order_34 ⟨Nat.le_refl _, Nat.le_refl _⟩ (fun S34 z34 f1 H locs p34 I => ?_)
          obtain ⟨ea34, eb34⟩ := Prod.mk.inj p34
          rw [ea34, eb34] at I
          have I : c_I D o ap cA cR cU A ρ σ ra L f1 (e_start S0) (0, z0.2.1, z0.2.2) s s.heap H locs := I
          refine lv_aload_n hx hb dX2_order_37 rfl (lv_at hl 0 rfl) ?_
          refine c_items_get hx hb hts hin0 hown I (show c_held (e_start S0) q from hh) L86 dX2_order_38 ?_
          refine lv_astore (lv' := [(4, .ref (σ q)), (3, .ref (ρ q)), (0, .ref o), (1, .int (nI k)), (2, .int y)]) hx hb dX2_order_41 hl (by decide) rfl (fun ls hl => ?_)
          refine lv_iconst (v := 0) hx hb dX2_order_43 (by decide) ?_
          refine lv_istore (lv' := [(5, .int 0), (4, .ref (σ q)), (3, .ref (ρ q)), (0, .ref o), (1, .int (nI k)), (2, .int y)]) hx hb dX2_order_44 hl (by decide) rfl (fun ls hl => ?_)
          refine LE (zn + 1) q zn 0 zn (fun _ => 0) (e_start S0) _ f1 (by omega) hq hz10 (by omega) (e_go.of hN) hz hh rfl (fun j hj => absurd hj (Nat.not_lt_zero j)) ?_ H locs ls I (lv_sub hl [0, 1, 2, 3, 4, 5] rfl)
          unfold a_order
          rw [if_pos ⟨hg, h9⟩, if_pos (by rw [eq]; exact nI_pos' (by omega)), eq, nI_clamp (show q < 2 ^ 31 by omega), hz, nI_clamp (show zn < 2 ^ 31 by omega), ek]
      · refine lv_if_ne (tgt := 17) hx hb dX2_order_12 (by decide) (fun h => absurd h (by decide)) (fun _ => ?_)
        refine lv_iconst (v := (-1)) hx hb dX2_order_15 (by decide) ?_
        exact c_iret hx hb hr hlocks I dX2_order_16 (by unfold a_order; rw [if_neg (fun w => h9 w.2)])
    · refine lv_if_eq (tgt := 15) hx hb dX2_order_5 (by decide) (fun _ => ?_) (fun h => absurd h (by decide))
      refine lv_iconst (v := (-1)) hx hb dX2_order_15 (by decide) ?_
      exact absurd hg h2
  · refine lv_aload_n hx hb dX2_order_0 rfl (lv_at hl 0 rfl) ?_
    refine lv_iload_n hx hb dX2_order_1 rfl (lv_at hl 1 rfl) ?_
    refine c_isRule hN ⟨hx, hb, hml, hown, hts⟩ gX2_order_X2_isRule ⟨Nat.le_of_ble_eq_true rfl, Nat.le_of_ble_eq_true rfl⟩ ⟨Nat.le_refl _, Nat.le_refl _⟩ I hl.1 (Nat.le_of_ble_eq_true rfl) dX2_order_2 (fun h2 f1 H locs I => ?_) (fun h2 f1 H locs I => ?_)
    · refine lv_if_eq (tgt := 15) hx hb dX2_order_5 (by decide) (fun h => absurd h (by decide)) (fun _ => ?_)
      refine lv_iload_n hx hb dX2_order_8 rfl (lv_at hl 2 rfl) ?_
      refine c_isRow ⟨hx, hb, hml, hown, hts⟩ gX2_order_X2_isRow ⟨Nat.le_of_ble_eq_true rfl, Nat.le_of_ble_eq_true rfl⟩ ⟨Nat.le_refl _, Nat.le_refl _⟩ hl.1 (Nat.le_of_ble_eq_true rfl) dX2_order_9 (fun h9 => ?_) (fun h9 => ?_)
      · refine lv_if_ne (tgt := 17) hx hb dX2_order_12 (by decide) (fun _ => ?_) (fun h => absurd h (by decide))
        exact absurd h2 hg
      · refine lv_if_ne (tgt := 17) hx hb dX2_order_12 (by decide) (fun h => absurd h (by decide)) (fun _ => ?_)
        refine lv_iconst (v := (-1)) hx hb dX2_order_15 (by decide) ?_
        exact absurd h2 hg
    · refine lv_if_eq (tgt := 15) hx hb dX2_order_5 (by decide) (fun _ => ?_) (fun h => absurd h (by decide))
      refine lv_iconst (v := (-1)) hx hb dX2_order_15 (by decide) ?_
      exact c_iret hx hb hr hlocks I dX2_order_16 (by unfold a_order; rw [if_neg (fun w => hg w.1)])

