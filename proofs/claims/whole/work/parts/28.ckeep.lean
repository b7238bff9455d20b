theorem va_cell_congr (cA : ClassId) (n : Nat) {f g : Nat → Int32} (h : ∀ i, i < n → f i = g i) : vp_cell cA (n, .inl f) = vp_cell cA (n, .inl g) := by
  show arrV cA n (fun j => .int (f j)) = arrV cA n (fun j => .int (g j))
  unfold arrV
  congr 2
  funext j
  exact congrArg Value.int (h j.1 j.2)
theorem va_at_congr {D : va_G} {cl : List vw_C} {H : Heap} {a : Nat} {cA : ClassId} {n : Nat} {f g : Nat → Int32} (h : ∀ i, i < n → f i = g i) (hP : va_at D cl (a, .inl (cA, n, .inl f)) H) : va_at D cl (a, .inl (cA, n, .inl g)) H := by
  have hP : H[a]? = some (vp_cell cA (n, .inl f)) := hP
  show H[a]? = some (vp_cell cA (n, .inl g))
  rw [← va_cell_congr cA n h]
  exact hP
set_option maxHeartbeats 4000000 in
set_option maxRecDepth 100000 in
/-- Arrays.copyOf(int[10], n) -/
theorem c_copyOf (l : Launch) (D : va_G) (b sz : Nat) (cA : ClassId) (g : Nat → Int32) (n : Nat) (hn : n ≤ 10) : Met l yJ7_copyOf_59c91 wsJ7_copyOf_59c91 { frames := 1, cells := 1, slots := 10, locals := 60 } (va_Pc [.ref b, .int (nI n)] (fun U => U.heap.size = sz ∧ va_P D vwCl [(b, .inl (cA, 10, .inl g))] U.heap ∧ va_K D vwCl [(cA, .int)] U ∧ va_Nw (.castable "[I" "java/lang/Cloneable") U)) (va_Qr (fun _ : Unit => True) (fun _ a U => va_P D vwCl [(b, .inl (cA, 10, .inl g)), (a, .inl (cA, n, .inl (fun i => if i < n then g i else 0)))] U.heap ∧ sz ≤ a) (va_A [(b, .inl (cA, 10, .inl g))] sz)) 1 10 (va_A [(b, .inl (cA, 10, .inl g))] sz) := by
  refine Met.ofW (cc := cJ7_copyOf_59c91) (maxL := 3) (ret := (some (.array .int))) (by decide) rfl ?_
  intro p e s m args below meth c s₁ B hml hv
  obtain ⟨rfl, hsz, hP, hK, hNw⟩ := hv
  have hx := B.exec
  have hb := B.bytes
  have hr := B.returns
  have hts := atoms_spec (ws := wsJ7_copyOf_59c91) B.pre
  have hown : s.vm.findClass RJ7 = some m.cls := findClass_of_methodNamed B.named
  have hlocks := B.notSynchronized
  have hD0 := va_D1 b (.inl (cA, 10, .inl g))
  have hD := hD0.self (sz := s.heap.size)
  have hbz : b < s.heap.size := (hP 0 _ rfl).lt
  rw [← hsz]
  generalize hAe : va_A [(b, .inl (cA, 10, .inl g))] s.heap.size = A at hD ⊢
  have hA : ∀ q : Nat, s.heap.size ≤ q → A q := fun q h => by rw [← hAe]; exact Or.inr h
  have hS : va_S A s.heap s.heap [] := va_S.rf
  have hI : s.vm.findClass "[I" = some cA := va_nm_int (hK.2 0 _ rfl).2
  have hnew : ∀ (q : Nat) (e1 : va_E), va_D A ([(b, .inl (cA, 10, .inl g))] ++ [(q, e1)]) → s.heap.size ≤ q := by
    intro q e1 h
    have h1 : A q := h.2 1 (q, e1) rfl
    rw [← hAe] at h1
    rcases h1 with ⟨k, e2, h2⟩ | h1
    · have h3 : k < 1 := (List.getElem?_eq_some_iff.mp h2).1
      rw [show k = 0 by omega] at h2
      cases h2
      have := h.1 0 1 _ _ rfl rfl rfl
      omega
    · exact h1
  have hl := lv_entry ([.ref b, .int (nI n)]) (n := 3) (Nat.le_of_ble_eq_true rfl)
  rw [lg_entry_eq]
  generalize (lg_sl ([.ref b, .int (nI n)]) ++ List.replicate (3 - (lg_sl ([.ref b, .int (nI n)])).length) Slot.unset).toArray = ls at hl ⊢
  have hl : lv_has ls 3 [(0, .ref b), (1, .int (nI n))] := hl
  refine lv_iload_n hx hb dJ7_copyOf_59c91_0 rfl (lv_at hl 1 rfl) ?_
  refine lv_aload_n hx hb dJ7_copyOf_59c91_1 rfl (lv_at hl 0 rfl) ?_
  refine va_alen hx hb hK hP 0 0 rfl rfl (v := nI 10) rfl dJ7_copyOf_59c91_2 ?_
  refine lv_icmp_ne (tgt := 14) hx hb dJ7_copyOf_59c91_3 (by decide) (fun c3 => ?_) (fun c3 => ?_)
  · have hn9 : n < 10 := by
      by_cases w : n = 10
      · rw [w] at c3; exact absurd rfl c3
      · omega
    refine lv_iload_n hx hb dJ7_copyOf_59c91_14 rfl (lv_at hl 1 rfl) ?_
    refine va_newa (atype := .int) (ty := .int) (N' := n) hx hb (hts (.arrayClass .int) (by decide +kernel)) rfl hK hP hD hS hA (a0 := (n, .inl (fun _ => 0))) (fun cA => rfl) (nI_pos (by omega)) (nI_clamp (by omega)) (show n * 4 ≤ 536870912 by omega) (Nat.le_of_ble_eq_true rfl) (show 0 + n ≤ 10 by omega) dJ7_copyOf_59c91_15 (fun q2 cB H hKn hP hD hS => ?_)
    have eC : cB = cA := Option.some.inj ((va_nm_int (hKn.2 1 _ rfl).2).symm.trans hI)
    rw [eC] at hP hD
    have hq2 := hnew q2 _ hD
    refine lv_astore_n (lv' := [(2, .ref q2), (0, .ref b), (1, .int (nI n))]) hx hb dJ7_copyOf_59c91_17 rfl hl (by decide) rfl (fun ls hl => ?_)
    refine lv_aload_n hx hb dJ7_copyOf_59c91_18 rfl (lv_at hl 1 rfl) ?_
    refine lv_iconst (v := 0) hx hb dJ7_copyOf_59c91_19 (by decide) ?_
    refine lv_aload_n hx hb dJ7_copyOf_59c91_20 rfl (lv_at hl 0 rfl) ?_
    refine lv_iconst (v := 0) hx hb dJ7_copyOf_59c91_21 (by decide) ?_
    refine lv_aload_n hx hb dJ7_copyOf_59c91_22 rfl (lv_at hl 1 rfl) ?_
    refine va_alen hx hb hK hP 0 0 rfl rfl (v := nI 10) rfl dJ7_copyOf_59c91_23 ?_
    refine lv_iload_n hx hb dJ7_copyOf_59c91_24 rfl (lv_at hl 2 rfl) ?_
    refine va_mmin (rest := [.int 0, .ref q2, .int 0, .ref b]) (R := (headSpec wsJ7_copyOf_59c91 { frames := 1, cells := 1, slots := 10, locals := 60 }).room) hx hb (hml.trans hl.1.symm) hown (hts (.methodLink RJ7 304 Lib.Math.min.name) (by decide +kernel)) (hts (.static Lib.Math.min.name) (by decide +kernel)) (hts (.initialized "java/lang/Math") (by decide +kernel)) (hts (.code Lib.Math.min.name Lib.Math.min.code 2 (some .int)) (by decide +kernel)) (Nat.le_of_ble_eq_true rfl) (Nat.le_of_ble_eq_true rfl) (Nat.le_of_ble_eq_true rfl) (show 0 + n ≤ 10 by omega) dJ7_copyOf_59c91_25 ?_
    rw [show (if nI n < nI 10 then nI n else nI 10) = nI n from if_pos (Int32.lt_iff_toInt_lt.mpr (by rw [nI_toInt (by omega), nI_toInt (by omega)]; omega))]
    have en : (nI n).toNatClampNeg = n := nI_clamp (by omega)
    have e0 : (0 : Int32).toNatClampNeg = 0 := rfl
    refine va_copyi (rest := []) (R := (headSpec wsJ7_copyOf_59c91 { frames := 1, cells := 1, slots := 10, locals := 60 }).room) hx hb (hml.trans hl.1.symm) hown (hts (.methodLink RJ7 150 arraycopyName) (by decide +kernel)) (hts (.native arraycopyName) (by decide +kernel)) (hts (.static arraycopyName) (by decide +kernel)) (hts (.initialized "java/lang/System") (by decide +kernel)) hK hP hD hS 0 1 0 0 (f := g) (g := fun _ => 0) (n0 := 10) (n1 := n) rfl rfl rfl rfl rfl (by decide) (by decide) (nI_pos (by omega)) (by rw [en, e0]; omega) (by rw [en, e0]; omega) (fun i _ => rfl) (Nat.le_of_ble_eq_true rfl) (Nat.le_of_ble_eq_true rfl) dJ7_copyOf_59c91_28 (fun H locs hP hD hS => ?_)
    rw [en, e0] at hP hD
    have hP : va_P D vwCl [(b, .inl (cA, 10, .inl g)), (q2, .inl (cA, n, .inl (va_cpy g (fun _ => 0) 0 0 n)))] H := hP
    refine lv_aload_n hx hb dJ7_copyOf_59c91_31 rfl (lv_at hl 0 rfl) ?_
    refine W.widen (k := 1) (n := 10) (Nat.le_of_ble_eq_true rfl) (show 0 + n ≤ 10 by omega) ?_
    refine W.aret hx hb hr (Or.inr ⟨_, rfl⟩) (Or.inr ⟨_, rfl⟩) (fun t ht hW => ⟨⟨(), q2, rfl, trivial, ?_, hq2⟩, hS.F ht⟩) hS.2.2 dJ7_copyOf_59c91_32 hlocks
    intro j x hj
    rw [ht]
    have hj2 : j < 2 := (List.getElem?_eq_some_iff.mp hj).1
    rcases (show j = 0 ∨ j = 1 by omega) with rfl | rfl
    · cases hj; exact hP 0 _ rfl
    · cases hj
      exact va_at_congr (fun i hi => by unfold va_cpy; rw [if_pos (by omega), if_pos hi]; congr 1; omega) (hP 1 _ rfl)
  · have hn10 : n = 10 := (nI_eq (by omega) (by omega)).mp c3
    refine lv_aload_n hx hb dJ7_copyOf_59c91_6 rfl (lv_at hl 0 rfl) ?_
    refine va_clone (rest := []) (R := (headSpec wsJ7_copyOf_59c91 { frames := 1, cells := 1, slots := 10, locals := 60 }).room) hx hb (hml.trans hl.1.symm) hown (hts (.methodLink RJ7 316 ⟨"[I", "clone", "()Ljava/lang/Object;"⟩) (by decide +kernel)) (hts (.sameMethod "[I" "java/lang/Object" "clone" "()Ljava/lang/Object;") (by decide +kernel)) (hts (.native ⟨"java/lang/Object", "clone", "()Ljava/lang/Object;"⟩) (by decide +kernel)) (hts (.instanceMethod ⟨"java/lang/Object", "clone", "()Ljava/lang/Object;"⟩) (by decide +kernel)) (hts (.selects "[I" ⟨"[I", "clone", "()Ljava/lang/Object;"⟩ ⟨"java/lang/Object", "clone", "()Ljava/lang/Object;"⟩) (by decide +kernel)) hNw hK hP hD hS hA 0 0 (x := (10, .inl g)) (ty := .int) rfl rfl hI (va_fit (fun i _ => rfl)) (Nat.le_of_ble_eq_true rfl) (Nat.le_of_ble_eq_true rfl) (Nat.le_of_ble_eq_true rfl) (Nat.le_of_ble_eq_true rfl) dJ7_copyOf_59c91_7 (fun q2 H hKn hP hD hS => ?_)
    have hq2 := hnew q2 _ hD
    have hP : va_P D vwCl [(b, .inl (cA, 10, .inl g)), (q2, .inl (cA, 10, .inl g))] H := hP
    refine va_castA hx hb hown (hts (.classLink RJ7 317 "[I") (by decide +kernel)) hP 1 rfl hI dJ7_copyOf_59c91_10 ?_
    refine W.widen (k := 1) (n := 10) (Nat.le_of_ble_eq_true rfl) (Nat.le_of_ble_eq_true rfl) ?_
    refine W.aret hx hb hr (Or.inr ⟨_, rfl⟩) (Or.inr ⟨_, rfl⟩) (fun t ht hW => ⟨⟨(), q2, rfl, trivial, ?_, hq2⟩, hS.F ht⟩) hS.2.2 dJ7_copyOf_59c91_13 hlocks
    intro j x hj
    rw [ht]
    have hj2 : j < 2 := (List.getElem?_eq_some_iff.mp hj).1
    rcases (show j = 0 ∨ j = 1 by omega) with rfl | rfl
    · cases hj; exact hP 0 _ rfl
    · cases hj
      rw [hn10]
      exact va_at_congr (fun i hi => (if_pos hi).symm) (hP 1 _ rfl)
section CS28
variable {p : Program} {l : Launch} {e : Env} {R : Room} {s : State} {m : MethodId} {args : Array Value} {below : List Frame} {meth : Method} {c : Code} {H H0 : Heap} {locs : List Loc} {cells slots : Nat} {Q : State → Prop}
variable {cc : ByteArray} {pc : Nat} {ls : Array Slot} {rest st0 : List Value} {Ts : List Cond} {index nL : Nat} {own : String}
variable {D : va_G} {o : Nat} {ap : Nat → Nat} {cA cR cU : ClassId} {A : Nat → Prop} {ρ σ ra : Nat → Nat} {L : List Nat} {f : Nat → va_E} {S : tr_S} {z : tr_Z}
theorem c_copyW {wd : va_W} {tys : List (ClassId × FieldType)} {k b n : Nat} {g : Nat → Int32} {t0 : Nat} (X : CallFix p m c cc nL s args Ts own) (hGd : GoodIn Ts (va_wsS own index yJ7_copyOf_59c91 wsJ7_copyOf_59c91)) (hR : 1 + 1 ≤ R.frames ∧ 8 + (3 + 11) + 60 ≤ R.locals) (hRc : 1 ≤ R.cells ∧ 10 ≤ R.slots) (hNw : va_Nw (.castable "[I" "java/lang/Cloneable") s) (hK : va_K D vwCl tys s) (ht0 : tys[t0]? = some (cA, .int)) (hP : va_P D vwCl wd H) (hD : va_D A wd) (hS : va_S A H0 H locs) (hA : ∀ q, H0.size ≤ q → A q) (hk : wd[k]? = some (b, .inl (cA, 10, .inl g))) (hn : n ≤ 10) (hsize : ls.size = nL) (hroom : (rest.map fun v => v.category).sum ≤ 8) (hdg : decode cc pc = .ok (.invokestatic index, 3)) (hf : cells + 1 ≤ R.cells ∧ slots + 10 ≤ R.slots)
    (kk : ∀ (a : Nat) (H1 : Heap) (locs1 : List Loc), va_P D vwCl (wd ++ [(a, .inl (cA, n, .inl (fun i => if i < n then g i else 0)))]) H1 → va_D A (wd ++ [(a, .inl (cA, n, .inl (fun i => if i < n then g i else 0)))]) → va_S A H0 H1 locs1 → W p l e R s m args below meth c H1 locs1 (cells + 1) (slots + 10) Q (F0 m (pc + 3) ls (.ref a :: rest))) : W p l e R s m args below meth c H locs cells slots Q (F0 m pc ls (.int (nI n) :: .ref b :: rest)) := by
  have hPc : va_P D vwCl [(b, .inl (cA, 10, .inl g))] H := hP.sub [k] (by simp [hk])
  have hKc : va_K D vwCl [(cA, .int)] s := hK.sub [t0] (by simp [ht0])
  have hAb : A b := hD.2 k _ hk
  have hAf : ∀ q, va_A [(b, .inl (cA, 10, .inl g))] H.size q → A q := by
    intro q h
    rcases h with ⟨j, e1, h⟩ | h
    · have hj : j < 1 := (List.getElem?_eq_some_iff.mp h).1
      rw [show j = 0 by omega] at h
      cases h
      exact hAb
    · exact hA q (Nat.le_trans hS.1 h)
  refine va_callr (va_runS (As := [.ref b, .int (nI n)]) (rest := rest) X (c_copyOf l D b H.size cA g n hn) (va_cwS 2 X.2.2.2.2 hGd rfl rfl rfl (by decide +kernel) hR) ⟨fun a U g mk w => by obtain ⟨w0, w1, w2, w3, w4⟩ := w; exact ⟨w0, w1, w2, va_K.moved (u := U) (U := U.calling g mk a) (Vm.Alike.refl U.vm) w3, w4⟩, fun U hU hW => ⟨rfl, by rw [hU], by rw [hU]; exact hPc, va_K.moved hW.alike hKc, va_Nw.warmC hW hNw⟩⟩ rfl rfl hsize rfl (lv_room hroom) hdg hf) hS (fun q _ h => hAf q h) hAf (fun u a t H1 locs1 ht hvm hp hB hz hk1 hS1 => ?_)
  obtain ⟨hB, hsa⟩ := hB
  rw [ht] at hB
  have hlt : ∀ (j : Nat) (x : Nat × va_E), wd[j]? = some x → x.1 < H.size := fun j x hj => (hP j x hj).lt
  refine kk a H1 locs1 (va_P.app (fun j x hj => ?_) (fun j x hj => ?_)) ⟨fun i j x y hi hj exy => ?_, fun j x hj => ?_⟩ hS1
  · by_cases e9 : j = k
    · subst e9
      rw [hk] at hj
      cases hj
      exact hB 0 _ rfl
    · refine (hP j x hj).kept (hk1 x.1 (hlt j x hj) (fun w => ?_))
      rcases w with ⟨i, e1, w⟩ | w
      · have hi : i < 1 := (List.getElem?_eq_some_iff.mp w).1
        rw [show i = 0 by omega] at w
        have w1 : (b, (.inl (cA, 10, .inl g) : va_E)) = (x.1, e1) := Option.some.inj w
        have w2 : b = x.1 := congrArg Prod.fst w1
        exact e9 (hD.1 j k _ _ hj hk w2.symm)
      · have := hlt j x hj
        omega
  · have hj1 : j < 1 := (List.getElem?_eq_some_iff.mp hj).1
    rw [show j = 0 by omega] at hj
    cases hj
    exact hB 1 _ rfl
  · have key : ∀ (i : Nat) (x : Nat × va_E), (wd ++ [(a, (.inl (cA, n, .inl (fun i => if i < n then g i else 0)) : va_E))])[i]? = some x → (wd[i]? = some x) ∨ (i = wd.length ∧ x.1 = a) := by
      intro i x hi
      by_cases c1 : i < wd.length
      · rw [List.getElem?_append_left c1] at hi; exact Or.inl hi
      · rw [List.getElem?_append_right (by omega)] at hi
        have hj1 : i - wd.length < 1 := (List.getElem?_eq_some_iff.mp hi).1
        rw [show i - wd.length = 0 by omega] at hi
        cases hi
        exact Or.inr ⟨by omega, rfl⟩
    rcases key i x hi with h1 | h1
    · rcases key j y hj with h2 | h2
      · exact hD.1 i j x y h1 h2 exy
      · have := hlt i x h1
        rw [exy, h2.2] at this
        omega
    · rcases key j y hj with h2 | h2
      · have := hlt j y h2
        rw [← exy, h1.2] at this
        omega
      · omega
  · by_cases c1 : j < wd.length
    · rw [List.getElem?_append_left c1] at hj; exact hD.2 j x hj
    · rw [List.getElem?_append_right (by omega)] at hj
      have hj1 : j - wd.length < 1 := (List.getElem?_eq_some_iff.mp hj).1
      rw [show j - wd.length = 0 by omega] at hj
      cases hj
      exact hA a (Nat.le_trans hS.1 hsa)
theorem l_flt_congr {K K2 : Nat → Int32} {J J2 : Nat → Int32} : ∀ i, (∀ j, j < i → K j = K2 j) → (∀ j, j < i → J j = J2 j) → l_flt K J i = l_flt K2 J2 i
  | 0, _, _ => rfl
  | i + 1, h, g => by
    unfold l_flt
    rw [h i (by omega), g i (by omega), l_flt_congr i (fun j hj => h j (by omega)) (fun j hj => g j (by omega))]
theorem l_fill_F (q : Nat) (M : List Int32) (S : tr_S) : ∀ n, (l_fill q M n S).1 = S.1
  | 0 => rfl
  | n + 1 => l_fill_F q M S n
theorem l_fill_A (q : Nat) (M : List Int32) (S : tr_S) {k : Nat} (hk : k ≠ 3) : ∀ n, (l_fill q M n S).2 k = S.2 k
  | 0 => rfl
  | n + 1 => by
    rw [← l_fill_A q M S hk n]
    show va_up (l_fill q M n S).2 3 _ k = _
    unfold va_up
    rw [if_neg hk]
theorem l_fill_3 (q : Nat) (M : List Int32) (S : tr_S) (r i : Nat) (hi : i < 10) : ∀ n, n ≤ 10 → (l_fill q M n S).2 3 (10 * r + i) = if r = q ∧ i < n then M.getD i 0 else S.2 3 (10 * r + i)
  | 0, _ => by rw [if_neg (by omega)]; rfl
  | n + 1, h => by
    show (sA (l_fill q M n S) 3 (10 * q + n) (M.getD n 0)).2 3 (10 * r + i) = _
    rw [sA_A, if_pos rfl]
    by_cases e : 10 * r + i = 10 * q + n
    · rw [if_pos e, if_pos (by omega), show i = n by omega]
    · rw [if_neg e, l_fill_3 q M S r i hi n (by omega)]
      by_cases e2 : r = q ∧ i < n
      · rw [if_pos e2, if_pos (by omega)]
      · rw [if_neg e2, if_neg (by omega)]
theorem n_row_fill (S : tr_S) (kn r mm k2 : Nat) (hm : mm ≤ 10) (hk : k2 ≤ 10) (M : List Int32) (v : Int32) : n_row S (sA (l_fill kn M k2 (f_zero kn mm (sA S 2 kn v))) 1 r (nI kn)) kn r := by
  obtain ⟨B, hB⟩ : ∃ B, B = f_zero kn mm (sA S 2 kn v) := ⟨_, rfl⟩
  have hR := n_row_of S kn r mm hm v
  rw [← hB] at hR ⊢
  obtain ⟨n1, n2, n3, n4, n5⟩ := hR
  refine ⟨?_, fun k h1 h2 h3 => ?_, ?_, fun j hj => ?_, fun j i hj hi => ?_⟩
  · show (l_fill kn M k2 B).1 = S.1
    rw [l_fill_F]; exact n1
  · show va_up (l_fill kn M k2 B).2 1 _ k = _
    rw [va_up_ne _ _ h1, l_fill_A _ _ _ h3]
    have := n2 k h1 h2 h3
    rw [← this]
    show _ = va_up B.2 1 _ k
    rw [va_up_ne _ _ h1]
  · show va_up (l_fill kn M k2 B).2 1 (upd ((l_fill kn M k2 B).2 1) r (nI kn)) 1 = _
    rw [va_up_self, l_fill_A _ _ _ (by decide), ← n3]
    show _ = va_up B.2 1 (upd (B.2 1) r (nI kn)) 1
    rw [va_up_self]
  · show (l_fill kn M k2 B).2 2 j = _
    rw [l_fill_A _ _ _ (by decide)]
    exact n4 j hj
  · show (l_fill kn M k2 B).2 3 (10 * j + i) = _
    rw [l_fill_3 _ _ _ _ _ hi _ hk, if_neg (fun w => hj w.1)]
    exact n5 j i hj hi
theorem c_row_fill (S : tr_S) (kn r n mm : Nat) (hm : mm = 10) (hn : n ≤ 10) (M : List Int32) {g : Nat → Int32} (hg : ∀ i, i < n → g i = M.getD i 0) : c_row cA (sA (l_fill kn M n (f_zero kn mm (sA S 2 kn (nI n)))) 1 r (nI kn)) kn = .inl (cA, n, .inl (fun i => if i < n then g i else 0)) := by
  unfold c_row
  have e1 : (sA (l_fill kn M n (f_zero kn mm (sA S 2 kn (nI n)))) 1 r (nI kn)).2 2 kn = nI n := by
    show (l_fill kn M n (f_zero kn mm (sA S 2 kn (nI n)))).2 2 kn = _
    rw [l_fill_A _ _ _ (by decide), f_zero_A _ _ (by decide), sA_A, if_pos rfl, if_pos rfl]
  rw [e1, nI_clamp (by omega)]
  congr 4
  funext i
  unfold c_items
  by_cases c : i < 10
  · rw [if_pos c]
    show (l_fill kn M n (f_zero kn mm (sA S 2 kn (nI n)))).2 3 (10 * kn + i) = _
    rw [l_fill_3 _ _ _ _ _ c _ hn]
    by_cases c2 : i < n
    · rw [if_pos ⟨rfl, c2⟩, if_pos c2, hg i c2]
    · rw [if_neg (fun w => c2 w.2), if_neg c2, f_zero_3 _ _ _ _ c _ (by omega), if_pos ⟨rfl, by omega⟩]
  · rw [if_neg c, if_neg (by omega)]
end CS28
abbrev c_Mk (l : Launch) (y : MethodName) (ws : List Cond) (rm : Room) (av : List Value) (D : va_G) (o : Nat) (ap : Nat → Nat) (cA cR cU : ClassId) (A : Nat → Prop) (ρ σ ra : Nat → Nat) (L : List Nat) (f : Nat → va_E) (S : tr_S) (z : tr_Z) (mc ms : Nat) (post : Int32 → tr_S × tr_Z → Prop) : Prop := Met l y ws rm (va_Pc (.ref o :: av) (fun U => c_B D o ap cA cR cU A ρ σ ra L f S z U ∧ (∀ q, U.heap.size ≤ q → A q) ∧ va_Nw (.castable "[I" "java/lang/Cloneable") U)) (va_Qi post (c_E2 D o ap cA cR cU A) A) mc ms A
set_option maxHeartbeats 4000000 in
set_option maxRecDepth 100000 in
theorem c_X2_keep (l : Launch) (D : va_G) (o : Nat) (ap : Nat → Nat) (cA cR cU : ClassId) (A : Nat → Prop) (ρ σ ra : Nat → Nat) (L : List Nat) (f0 : Nat → va_E) (S0 : tr_S) (z0 : tr_Z) (r y : Int32) (N kn : Nat) (hN : wf S0 N) (hq : w_new S0 kn) : c_Mk l yX2_keep wsX2_keep { frames := 121, cells := 2, slots := 11, locals := 2743 } [.int r, .int y] D o ap cA cR cU A ρ σ ra L f0 S0 z0 2 11 (fun v u => (v, u.1) = a_keep r y kn S0) := by
  refine Met.ofW (cc := cX2_keep) (maxL := 8) (ret := (some .int)) (by decide) rfl ?_
  intro p e s m args below meth c s₁ B hml hv
  obtain ⟨rfl, hB, hA, hNw⟩ := hv
  have hx := B.exec
  have hb := B.bytes
  have hr := B.returns
  have hts := atoms_spec (ws := wsX2_keep) B.pre
  have hown : s.vm.findClass RX2 = some m.cls := findClass_of_methodNamed B.named
  have hlocks := B.notSynchronized
  have I := c_I.of hB
  have hin2 : ∀ w ∈ wsX20, w ∈ wsX2_keep := fun _ h => List.mem_cons_of_mem _ (List.mem_append_left _ (List.mem_append_left _ (List.mem_append_right _ h)))
  have hin0 : ∀ w ∈ wsX00, w ∈ wsX2_keep := fun _ h => List.mem_cons_of_mem _ (List.mem_append_left _ (List.mem_append_right _ h))
  have hin1 : ∀ w ∈ wsX10, w ∈ wsX2_keep := fun _ h => List.mem_cons_of_mem _ (List.mem_append_right _ h)
  have L17 := hts (.fieldLink RX2 17 "TollRules" "rows" "[LTollRules$Row;") (by decide +kernel)
  have L31 := hts (.fieldLink RX2 31 "TollRules" "moved" "[I") (by decide +kernel)
  have L86 := hts (.fieldLink RX2 86 "TollRules$Row" "items" "[I") (by decide +kernel)
  have hl := lv_entry ([.ref o, .int r, .int y]) (n := 8) (Nat.le_of_ble_eq_true rfl)
  rw [lg_entry_eq]
  generalize (lg_sl ([.ref o, .int r, .int y]) ++ List.replicate (8 - (lg_sl ([.ref o, .int r, .int y])).length) Slot.unset).toArray = ls at hl ⊢
  have hl : lv_has ls 8 [(0, .ref o), (1, .int r), (2, .int y)] := hl
  by_cases hy : 0 ≤ y ∧ y ≤ 3
  · by_cases hg : 0 ≤ r ∧ r ≤ S0.1 4 - 1
    · obtain ⟨k, hk, ek⟩ := rule_of hN hg
      have LE : ∀ (d q zn i rem : Nat) (K : Nat → Int32) (SA : tr_S) (zz : tr_Z) (fg : Nat → va_E), rem < d → q < 48 → zn ≤ 10 → i + rem = zn → e_go SA N → e_sm S0 SA → SA.2 2 q = nI zn → c_held SA q → zz.1 = 0 → (∀ j, j < (l_flt K (fun i => S0.2 3 (10 * q + i)) i).length → zz.2.2 4 j = (l_flt K (fun i => S0.2 3 (10 * q + i)) i).getD j 0) → a_keep r y kn S0 = f_keep y q zn kn (l_keys (nI k) q rem i K SA) → ∀ (H : Heap) (locs : List Loc) (ls : Array Slot), c_I D o ap cA cR cU A ρ σ ra L fg SA zz s s.heap H locs → lv_has ls 8 [(6, .int (nI i)), (5, .int (nI (l_flt K (fun i => S0.2 3 (10 * q + i)) i).length)), (4, .ref (σ q)), (3, .ref (ρ q)), (0, .ref o), (1, .int (nI k)), (2, .int y)] → W p l e (headSpec wsX2_keep { frames := 121, cells := 2, slots := 11, locals := 2743 }).room s m (([.ref o, .int r, .int y] : List Value).toArray) below meth c H locs 0 0 (MQ below (va_Qi (fun v u => (v, u.1) = a_keep r y kn S0) (c_E2 D o ap cA cR cU A) A) (([.ref o, .int r, .int y] : List Value).toArray) s 2 11 A) (F0 m 49 ls []) := by
        intro d
        induction d with
        | zero => intro q zn i rem _ _ _ _ hd; omega
        | succ d ih =>
          intro q zn i rem K SA zz fg hd hq48 hz10 hiz g sm hz hh hzz hM hT H locs ls I hl
          refine lv_iload hx hb dX2_keep_49 (lv_at hl 0 rfl) ?_
          refine lv_aload hx hb dX2_keep_51 (lv_at hl 2 rfl) ?_
          refine c_arr_len hx hb I hh hz (by omega) dX2_keep_53 ?_
          refine lv_icmp_ge (tgt := 107) hx hb dX2_keep_54 (by decide) (fun c54 => ?_) (fun c54 => ?_)
          · have hi : zn ≤ i := nI_lb (by omega) (by omega) c54
            obtain rfl : rem = 0 := by omega
            have ein : i = zn := by omega
            rw [ein] at hl hM
            have hlen := l_flt_len K (fun i => S0.2 3 (10 * q + i)) zn
            refine lv_aload_n hx hb dX2_keep_107 rfl (lv_at hl 4 rfl) ?_
            refine c_get1 hx hb hts hin2 hown I L17 dX2_keep_108 ?_
            refine lv_iload_n hx hb dX2_keep_111 rfl (lv_at hl 6 rfl) ?_
            refine va_new (ci := 0) (fs := [.null]) (C := RX0) (T := TX0) (N := 1) hx hb hts hin0 tyX0 tyX0_ok hown (hts (.classLink RX2 15 RX0) (by decide +kernel)) (hts (.instantiable RX0 1) (by decide +kernel)) (hts (.initialized RX0) (by decide +kernel)) I.2.1 I.1 I.2.2.1 I.2.2.2.1 hA rfl (fun j hj => by rcases (show j = 0 by omega) with rfl <;> rfl) (Nat.le_of_ble_eq_true rfl) (Nat.le_of_ble_eq_true rfl) dX2_keep_112 (fun q1 H hP hD hS => ?_)
            refine lv_dup hx hb dX2_keep_115 rfl ?_
            refine lv_aload_n hx hb dX2_keep_116 rfl (lv_at hl 4 rfl) ?_
            refine va_get (D := D) (cl := vwCl) (C := RX2) (T := TX2) (N := 16) (ci := 2) (v := .ref (ap 4)) hx hb hts hin2 hown I.2.1 hP 0 rfl rfl 4 (by decide) L31 (fun _ h => h) rfl dX2_keep_117 ?_
            refine lv_iload hx hb dX2_keep_120 (lv_at hl 1 rfl) ?_
            refine c_copyW (k := 4) (t0 := 0) (b := ap 4) (n := (l_flt K (fun i => S0.2 3 (10 * q + i)) zn).length) (g := zz.2.2 4) (rest := [.ref q1, .ref q1, .int y, .ref (ap 1)]) ⟨hx, hb, hml, hown, hts⟩ gX2_keep_J7_copyOf_59c91 ⟨Nat.le_of_ble_eq_true rfl, Nat.le_of_ble_eq_true rfl⟩ ⟨Nat.le_of_ble_eq_true rfl, Nat.le_of_ble_eq_true rfl⟩ hNw I.2.1 rfl hP hD hS hA rfl (by omega) hl.1 (Nat.le_of_ble_eq_true rfl) dX2_keep_122 ⟨Nat.le_of_ble_eq_true rfl, Nat.le_of_ble_eq_true rfl⟩ (fun q2 H locs hP hD hS => ?_)
            have hJ : l_flt K (fun i => SA.2 3 (10 * q + i)) zn = (l_flt K (fun i => S0.2 3 (10 * q + i)) zn) := l_flt_congr zn (fun _ _ => rfl) (fun j _ => congrFun sm.2.2.2.2.2.2.2.1 _)
            obtain ⟨hk48, hno⟩ := c_not_held g.1 (w_new_sm hq sm)
            refine c_row_new (rest := []) (i := y) ⟨hx, hb, hml, hown, hts⟩ (cwI 1 hts gX2_keep_X0_init rfl rfl rfl (hts (.initialized RX0) (by decide +kernel)) (hts (.methodLink RX2 76 yX0_init) (by decide +kernel)) (hts (.instanceMethod yX0_init) (by decide +kernel)) rfl (by decide +kernel) ⟨Nat.le_of_ble_eq_true rfl, Nat.le_of_ble_eq_true rfl⟩) (ix_of hy (by decide) (by decide)) (n_row_fill SA kn y.toNatClampNeg 10 (l_flt K (fun i => S0.2 3 (10 * q + i)) zn).length (by decide) (by omega) (l_flt K (fun i => S0.2 3 (10 * q + i)) zn) (nI (l_flt K (fun i => S0.2 3 (10 * q + i)) zn).length)) hk48 hno (c_row_fill SA kn _ (l_flt K (fun i => S0.2 3 (10 * q + i)) zn).length 10 rfl (by omega) (l_flt K (fun i => S0.2 3 (10 * q + i)) zn) hM) I.2.1 hP hD hS I.2.2.2.2 hl.1 (Nat.le_of_ble_eq_true rfl) dX2_keep_125 dX2_keep_128 ⟨Nat.le_of_ble_eq_true rfl, Nat.le_of_ble_eq_true rfl⟩ (fun ρ1 σ1 L1 f1 H locs I => ?_)
            refine lv_iload hx hb dX2_keep_129 (lv_at hl 1 rfl) ?_
            have hT2 : a_keep r y kn S0 = f_ends (nI (l_flt K (fun i => S0.2 3 (10 * q + i)) zn).length) (sA (l_fill kn (l_flt K (fun i => S0.2 3 (10 * q + i)) zn) (l_flt K (fun i => S0.2 3 (10 * q + i)) zn).length (f_zero kn 10 (sA SA 2 kn (nI (l_flt K (fun i => S0.2 3 (10 * q + i)) zn).length)))) 1 y.toNatClampNeg (nI kn)) := by
              rw [hT]
              unfold l_keys f_keep
              rw [if_pos g.2.1]
              unfold f_keepEnd
              rw [hJ]
            obtain ⟨TT, hTT⟩ : ∃ TT, TT = sA (l_fill kn (l_flt K (fun i => S0.2 3 (10 * q + i)) zn) (l_flt K (fun i => S0.2 3 (10 * q + i)) zn).length (f_zero kn 10 (sA SA 2 kn (nI (l_flt K (fun i => S0.2 3 (10 * q + i)) zn).length)))) 1 y.toNatClampNeg (nI kn) := ⟨_, rfl⟩
            have hg0 : TT.1 16 = 0 := by rw [hTT, (n_row_fill SA kn y.toNatClampNeg 10 (l_flt K (fun i => S0.2 3 (10 * q + i)) zn).length (by decide) (by omega) (l_flt K (fun i => S0.2 3 (10 * q + i)) zn) (nI (l_flt K (fun i => S0.2 3 (10 * q + i)) zn).length)).1]; exact g.2.1
            rw [← hTT] at I hT2
            exact W.widen (k := 2) (n := 11) (Nat.le_of_ble_eq_true rfl) (Nat.le_of_ble_eq_true rfl) (c_iret2 (S := (f_ends (nI (l_flt K (fun i => S0.2 3 (10 * q + i)) zn).length) TT).2) hx hb hr hlocks (c_I_ok hg0 I) dX2_keep_131 (by rw [hT2, f_ends_ok (nI (l_flt K (fun i => S0.2 3 (10 * q + i)) zn).length) hg0]))
          · have hi : i < zn := nI_ub (by omega) (by omega) c54
            obtain ⟨rm, rfl⟩ : ∃ k, rem = k + 1 := ⟨rem - 1, by omega⟩
            have hlen := l_flt_len K (fun i => S0.2 3 (10 * q + i)) i
            refine lv_aload_n hx hb dX2_keep_57 rfl (lv_at hl 4 rfl) ?_
            refine lv_iload_n hx hb dX2_keep_58 rfl (lv_at hl 5 rfl) ?_
            refine lv_aload hx hb dX2_keep_59 (lv_at hl 2 rfl) ?_
            refine lv_iload hx hb dX2_keep_61 (lv_at hl 0 rfl) ?_
            refine c_arr_ld hx hb I hh hz hz10 hi dX2_keep_63 (x := SA.2 3 (10 * q + i)) rfl ?_
            refine c_calli (rest := []) ⟨hx, hb, hml, hown, hts⟩ (c_X2_give l N 40 D o ap cA cR cU A ρ σ ra L _ SA zz k (SA.2 3 (10 * q + i)) (by have := hN.1; omega) (by omega) g.1 g.2.2 g.2.1 hzz) (cwV 2 hts gX2_keep_X2_give rfl rfl rfl (by decide +kernel) ⟨Nat.le_of_ble_eq_true rfl, Nat.le_of_ble_eq_true rfl⟩) I rfl hl.1 rfl (Nat.le_of_ble_eq_true rfl) dX2_keep_64 ⟨Nat.zero_le _, Nat.zero_le _⟩ (fun r64 S64 z64 f1 H locs p64 I => ?_)
            obtain ⟨q64, hq64⟩ : ∃ qx, qx = ev 40 (nI k) (SA.2 3 (10 * q + i)) SA := ⟨_, rfl⟩
            rw [← hq64] at p64
            obtain ⟨ea64, eb64, ec64, ed64, ee64⟩ := p64
            have ea64 : S64 = q64.2 := ea64
            have eb64 : z64.2.2 = zz.2.2 := eb64
            have ec64 : z64.1 = q64.2.1 16 := ec64
            have ed64 : ¬ q64.2.1 16 = 0 → z64.2.1 = q64.2.1 17 := ed64
            rw [ea64] at I
            have sm64 : e_sm SA q64.2 := by rw [hq64]; exact ev_sm 40 _ _ _
            have ps64 : e_pos q64.2 := by rw [hq64]; exact ev_pos 40 _ _ _ (Or.inl g.2.1)
            have go64 : q64.2.1 16 = 0 → e_go q64.2 N := fun h => by rw [hq64] at h ⊢; exact g.ev 40 _ _ h
            refine lv_istore (lv' := [(7, .int r64), (6, .int (nI i)), (5, .int (nI (l_flt K (fun i => S0.2 3 (10 * q + i)) i).length)), (4, .ref (σ q)), (3, .ref (ρ q)), (0, .ref o), (1, .int (nI k)), (2, .int y)]) hx hb dX2_keep_67 hl (by decide) rfl (fun ls hl => ?_)
            refine lv_aload_n hx hb dX2_keep_69 rfl (lv_at hl 5 rfl) ?_
            refine c_isRefused ⟨hx, hb, hml, hown, hts⟩ gX2_keep_X2_isRefused ⟨Nat.le_of_ble_eq_true rfl, Nat.le_of_ble_eq_true rfl⟩ ⟨Nat.zero_le _, Nat.zero_le _⟩ I hl.1 (Nat.le_of_ble_eq_true rfl) dX2_keep_70 (fun h70 f1 H locs I => ?_) (fun h70 f1 H locs I => ?_)
            · refine lv_if_eq (tgt := 81) hx hb dX2_keep_73 (by decide) (fun h => absurd h (by decide)) (fun _ => ?_)
              refine lv_aload_n hx hb dX2_keep_76 rfl (lv_at hl 5 rfl) ?_
              refine c_calli (rest := []) ⟨hx, hb, hml, hown, hts⟩ (c_X2_fail l D o ap cA cR cU A ρ σ ra L _ q64.2 z64) (cwV 0 hts gX2_keep_X2_fail rfl rfl rfl (by decide +kernel) ⟨Nat.le_of_ble_eq_true rfl, Nat.le_of_ble_eq_true rfl⟩) I rfl hl.1 rfl (Nat.le_of_ble_eq_true rfl) dX2_keep_77 ⟨Nat.zero_le _, Nat.zero_le _⟩ (fun r77 S77 z77 f1 H locs p77 I => ?_)
              have fa : r77 = -10 - z64.1 := congrArg Prod.fst p77
              have fb : S77 = sF (sF (sF q64.2 21 z64.1) 22 z64.2.1) 23 (q64.2.1 23 + 1) := congrArg (fun t => t.2.1) p77
              have hne : ¬ q64.2.1 16 = 0 := fun h => h70 (ec64.trans h)
              rw [fb, ec64, ed64 hne] at I
              rw [ec64] at fa
              refine W.widen (k := 2) (n := 11) (by decide) (by decide) (c_iret2 (S := (f_ends 0 q64.2).2) hx hb hr hlocks (c_I_no hne ps64 I) dX2_keep_80 ?_)
              rw [hT]
              unfold l_keys
              rw [← hq64, if_neg hne]
              unfold f_keep
              rw [if_neg hne, f_ends_no 0 hne ps64, fa]
            · refine lv_if_eq (tgt := 81) hx hb dX2_keep_73 (by decide) (fun _ => ?_) (fun h => absurd h (by decide))
              refine lv_iload hx hb dX2_keep_81 (lv_at hl 0 rfl) ?_
              refine lv_if_eq (tgt := 101) hx hb dX2_keep_83 (by decide) (fun c83 => ?_) (fun c83 => ?_)
              · refine lv_iinc (v := (nI i) + 1) (lv' := [(6, .int ((nI i) + 1)), (7, .int r64), (5, .int (nI (l_flt K (fun i => S0.2 3 (10 * q + i)) i).length)), (4, .ref (σ q)), (3, .ref (ρ q)), (0, .ref o), (1, .int (nI k)), (2, .int y)]) hx hb dX2_keep_101 hl (k := 1) rfl rfl (by decide) rfl (fun ls hl => ?_)
                refine lv_goto (tgt := 49) hx hb dX2_keep_104 (by decide) ?_
                have h0 : q64.2.1 16 = 0 := ec64.symm.trans h70
                rw [ee64 h0] at c83
                have hl := lv_sub hl [0, 2, 3, 4, 5, 6, 7] rfl
                have eF0 : l_flt (upd K i q64.1) (fun i => S0.2 3 (10 * q + i)) i = (l_flt K (fun i => S0.2 3 (10 * q + i)) i) := l_flt_congr i (fun j hj => by unfold upd; rw [if_neg (by omega)]) (fun _ _ => rfl)
                have e3 : ∀ x, q64.2.2 3 x = S0.2 3 x := fun x => by rw [sm64.2.2.2.2.2.2.2.1]; exact congrFun sm.2.2.2.2.2.2.2.1 x
                have eF : l_flt (upd K i q64.1) (fun i => S0.2 3 (10 * q + i)) (i + 1) = (l_flt K (fun i => S0.2 3 (10 * q + i)) i) := by
                  conv => lhs; unfold l_flt
                  rw [if_pos (by unfold upd; rw [if_pos rfl]; exact c83), eF0]
                rw [nI_1, ← eF] at hl
                refine ih q zn (i + 1) rm (upd K i q64.1) q64.2 z64 f1 (by omega) hq48 hz10 (by omega) (go64 h0) (sm.tr sm64) (by rw [sm64.2.2.1]; exact hz) (c_held_sm sm64 hh) (ec64.trans h0) (fun j hj => ?_) ?_ H locs ls I hl
                · rw [eF] at hj ⊢; rw [eb64]; exact hM j hj
                · rw [hT]
                  conv => lhs; unfold l_keys
                  rw [← hq64, if_pos h0]
              · refine lv_aload_n hx hb dX2_keep_86 rfl (lv_at hl 5 rfl) ?_
                refine c_get4 hx hb hts hin2 hown I L31 dX2_keep_87 ?_
                refine lv_iload hx hb dX2_keep_90 (lv_at hl 2 rfl) ?_
                refine lv_aload hx hb dX2_keep_92 (lv_at hl 3 rfl) ?_
                refine lv_iload hx hb dX2_keep_94 (lv_at hl 1 rfl) ?_
                refine c_arr_ld hx hb I (c_held_sm sm64 hh) (by rw [sm64.2.2.1]; exact hz) hz10 hi dX2_keep_96 (x := q64.2.2 3 (10 * q + i)) rfl ?_
                refine c_ast4 hx hb I (vp_in_nI (show (l_flt K (fun i => S0.2 3 (10 * q + i)) i).length < 10 by omega) (by decide)) dX2_keep_97 (fun H locs I => ?_)
                rw [nI_clamp (show (l_flt K (fun i => S0.2 3 (10 * q + i)) i).length < 2 ^ 31 by omega)] at I
                refine lv_iinc (v := (nI (l_flt K (fun i => S0.2 3 (10 * q + i)) i).length) + 1) (lv' := [(5, .int ((nI (l_flt K (fun i => S0.2 3 (10 * q + i)) i).length) + 1)), (7, .int r64), (6, .int (nI i)), (4, .ref (σ q)), (3, .ref (ρ q)), (0, .ref o), (1, .int (nI k)), (2, .int y)]) hx hb dX2_keep_98 hl (k := 2) rfl rfl (by decide) rfl (fun ls hl => ?_)
                refine lv_iinc (v := (nI i) + 1) (lv' := [(6, .int ((nI i) + 1)), (5, .int ((nI (l_flt K (fun i => S0.2 3 (10 * q + i)) i).length) + 1)), (7, .int r64), (4, .ref (σ q)), (3, .ref (ρ q)), (0, .ref o), (1, .int (nI k)), (2, .int y)]) hx hb dX2_keep_101 hl (k := 2) rfl rfl (by decide) rfl (fun ls hl => ?_)
                refine lv_goto (tgt := 49) hx hb dX2_keep_104 (by decide) ?_
                have h0 : q64.2.1 16 = 0 := ec64.symm.trans h70
                rw [ee64 h0] at c83
                have hl := lv_sub hl [0, 1, 3, 4, 5, 6, 7] rfl
                have eF0 : l_flt (upd K i q64.1) (fun i => S0.2 3 (10 * q + i)) i = (l_flt K (fun i => S0.2 3 (10 * q + i)) i) := l_flt_congr i (fun j hj => by unfold upd; rw [if_neg (by omega)]) (fun _ _ => rfl)
                have e3 : ∀ x, q64.2.2 3 x = S0.2 3 x := fun x => by rw [sm64.2.2.2.2.2.2.2.1]; exact congrFun sm.2.2.2.2.2.2.2.1 x
                have eF : l_flt (upd K i q64.1) (fun i => S0.2 3 (10 * q + i)) (i + 1) = (l_flt K (fun i => S0.2 3 (10 * q + i)) i) ++ [S0.2 3 (10 * q + i)] := by
                  conv => lhs; unfold l_flt
                  rw [if_neg (by unfold upd; rw [if_pos rfl]; exact c83), eF0]
                have eN : nI (l_flt (upd K i q64.1) (fun i => S0.2 3 (10 * q + i)) (i + 1)).length = nI (l_flt K (fun i => S0.2 3 (10 * q + i)) i).length + 1 := by rw [eF, List.length_append]; exact (nI_1 _).symm
                rw [nI_1 i, ← eN] at hl
                refine ih q zn (i + 1) rm (upd K i q64.1) q64.2 (zA z64 4 (l_flt K (fun i => S0.2 3 (10 * q + i)) i).length (q64.2.2 3 (10 * q + i))) f1 (by omega) hq48 hz10 (by omega) (go64 h0) (sm.tr sm64) (by rw [sm64.2.2.1]; exact hz) (c_held_sm sm64 hh) (ec64.trans h0) (fun j hj => ?_) ?_ H locs ls I hl
                · rw [eF, List.length_append] at hj
                  have hj : j < (l_flt K (fun i => S0.2 3 (10 * q + i)) i).length + 1 := hj
                  rw [eF, zA_A, if_pos rfl]
                  by_cases hjl : j = (l_flt K (fun i => S0.2 3 (10 * q + i)) i).length
                  · rw [if_pos hjl, e3, hjl, getD_app_eq]
                  · rw [if_neg hjl, getD_app_lt (by omega), eb64]; exact hM j (by omega)
                · rw [hT]
                  conv => lhs; unfold l_keys
                  rw [← hq64, if_pos h0]
      refine lv_aload_n hx hb dX2_keep_0 rfl (lv_at hl 0 rfl) ?_
      refine lv_iload_n hx hb dX2_keep_1 rfl (lv_at hl 1 rfl) ?_
      refine c_isRule hN ⟨hx, hb, hml, hown, hts⟩ gX2_keep_X2_isRule ⟨Nat.le_of_ble_eq_true rfl, Nat.le_of_ble_eq_true rfl⟩ ⟨Nat.zero_le _, Nat.zero_le _⟩ I hl.1 (Nat.le_of_ble_eq_true rfl) dX2_keep_2 (fun h2 f1 H locs I => ?_) (fun h2 f1 H locs I => ?_)
      · refine lv_if_eq (tgt := 15) hx hb dX2_keep_5 (by decide) (fun h => absurd h (by decide)) (fun _ => ?_)
        refine lv_iload_n hx hb dX2_keep_8 rfl (lv_at hl 2 rfl) ?_
        refine c_isRow ⟨hx, hb, hml, hown, hts⟩ gX2_keep_X2_isRow ⟨Nat.le_of_ble_eq_true rfl, Nat.le_of_ble_eq_true rfl⟩ ⟨Nat.zero_le _, Nat.zero_le _⟩ hl.1 (Nat.le_of_ble_eq_true rfl) dX2_keep_9 (fun h9 => ?_) (fun h9 => ?_)
        · refine lv_if_ne (tgt := 17) hx hb dX2_keep_12 (by decide) (fun _ => ?_) (fun h => absurd h (by decide))
          refine lv_aload_n hx hb dX2_keep_17 rfl (lv_at hl 0 rfl) ?_
          refine c_get1 hx hb hts hin2 hown I L17 dX2_keep_18 ?_
          refine lv_iload_n hx hb dX2_keep_21 rfl (lv_at hl 2 rfl) ?_
          refine c_row_ld hx hb I (ix_of h9 (by decide) (by decide)) dX2_keep_22 (fun n22 => ?_) (fun n22 => ?_)
          · refine lv_astore_nN (lv' := [(3, .null), (0, .ref o), (1, .int r), (2, .int y)]) hx hb dX2_keep_23 rfl hl (by decide) rfl (fun ls hl => ?_)
            refine lv_aload_nN hx hb dX2_keep_24 rfl (lv_at hl 0 rfl) ?_
            refine lv_ifnonnullN hx hb dX2_keep_25 ?_
            refine lv_iconst (v := 3) hx hb dX2_keep_28 (by decide) ?_
            refine c_failAns ⟨hx, hb, hml, hown, hts⟩ gX2_keep_X2_failureAnswer ⟨Nat.le_of_ble_eq_true rfl, Nat.le_of_ble_eq_true rfl⟩ ⟨Nat.zero_le _, Nat.zero_le _⟩ hl.1 (Nat.le_of_ble_eq_true rfl) dX2_keep_29 ?_
            refine W.widen (k := 2) (n := 11) (by decide) (by decide) (c_iret2 hx hb hr hlocks I dX2_keep_32 ?_)
            unfold a_keep
            rw [if_pos ⟨hg, h9⟩, if_neg (fun w => absurd n22 (Int32.not_lt.mpr w))]
            rfl
          · refine lv_astore_n (lv' := [(3, .ref (ρ (S0.2 1 y.toNatClampNeg).toNatClampNeg)), (0, .ref o), (1, .int r), (2, .int y)]) hx hb dX2_keep_23 rfl hl (by decide) rfl (fun ls hl => ?_)
            refine lv_aload_n hx hb dX2_keep_24 rfl (lv_at hl 0 rfl) ?_
            refine lv_ifnonnull (tgt := 33) hx hb dX2_keep_25 (by decide) ?_
            obtain ⟨q, hq48, eq⟩ := (neg_row (hN.2.2.2.1 _ (ix_nI (ix_of h9 (by decide) (by decide)) (by decide)).2)).2 n22
            obtain ⟨zn, hz10, hz⟩ := hN.2.2.2.2 q hq48
            have hh : c_held S0 q := c_held_row (ix_nI (ix_of h9 (by decide) (by decide)) (by decide)).2 hq48 eq
            rw [eq, nI_clamp (show q < 2 ^ 31 by omega), ek] at hl
            refine lv_aload_n hx hb dX2_keep_33 rfl (lv_at hl 1 rfl) ?_
            refine c_callv (rest := []) ⟨hx, hb, hml, hown, hts⟩ (c_X2_begin l D o ap cA cR cU A ρ σ ra L _ S0 z0) (cwV 0 hts gX2_keep_X2_begin rfl rfl rfl (by decide +kernel) ⟨Nat.le_of_ble_eq_true rfl, Nat.le_of_ble_eq_true rfl⟩) I rfl hl.1 rfl (Nat.le_of_ble_eq_true rfl) dX2_keep_34 ⟨Nat.zero_le _, Nat.zero_le _⟩ (fun S34 z34 f1 H locs p34 I => ?_)
            obtain ⟨ea34, eb34⟩ := Prod.mk.inj p34
            rw [ea34, eb34] at I
            have I : c_I D o ap cA cR cU A ρ σ ra L f1 (e_start S0) (0, z0.2.1, z0.2.2) s s.heap H locs := I
            refine lv_aload_n hx hb dX2_keep_37 rfl (lv_at hl 0 rfl) ?_
            refine c_items_get hx hb hts hin0 hown I (show c_held (e_start S0) q from hh) L86 dX2_keep_38 ?_
            refine lv_astore (lv' := [(4, .ref (σ q)), (3, .ref (ρ q)), (0, .ref o), (1, .int (nI k)), (2, .int y)]) hx hb dX2_keep_41 hl (by decide) rfl (fun ls hl => ?_)
            refine lv_iconst (v := 0) hx hb dX2_keep_43 (by decide) ?_
            refine lv_istore (lv' := [(5, .int 0), (4, .ref (σ q)), (3, .ref (ρ q)), (0, .ref o), (1, .int (nI k)), (2, .int y)]) hx hb dX2_keep_44 hl (by decide) rfl (fun ls hl => ?_)
            refine lv_iconst (v := 0) hx hb dX2_keep_46 (by decide) ?_
            refine lv_istore (lv' := [(6, .int 0), (5, .int 0), (4, .ref (σ q)), (3, .ref (ρ q)), (0, .ref o), (1, .int (nI k)), (2, .int y)]) hx hb dX2_keep_47 hl (by decide) rfl (fun ls hl => ?_)
            refine LE (zn + 1) q zn 0 zn (fun _ => 0) (e_start S0) _ f1 (by omega) hq48 hz10 (by omega) (e_go.of hN) (e_start_sm S0) hz hh rfl (fun j hj => absurd hj (Nat.not_lt_zero j)) ?_ H locs ls I (lv_sub hl [0, 1, 2, 3, 4, 5, 6] rfl)
            unfold a_keep
            rw [if_pos ⟨hg, h9⟩, if_pos (by rw [eq]; exact nI_pos' (by omega)), eq, nI_clamp (show q < 2 ^ 31 by omega), hz, nI_clamp (show zn < 2 ^ 31 by omega), ek]
        · refine lv_if_ne (tgt := 17) hx hb dX2_keep_12 (by decide) (fun h => absurd h (by decide)) (fun _ => ?_)
          refine lv_iconst (v := (-1)) hx hb dX2_keep_15 (by decide) ?_
          exact absurd hy h9
      · refine lv_if_eq (tgt := 15) hx hb dX2_keep_5 (by decide) (fun _ => ?_) (fun h => absurd h (by decide))
        refine lv_iconst (v := (-1)) hx hb dX2_keep_15 (by decide) ?_
        exact absurd hg h2
    · refine lv_aload_n hx hb dX2_keep_0 rfl (lv_at hl 0 rfl) ?_
      refine lv_iload_n hx hb dX2_keep_1 rfl (lv_at hl 1 rfl) ?_
      refine c_isRule hN ⟨hx, hb, hml, hown, hts⟩ gX2_keep_X2_isRule ⟨Nat.le_of_ble_eq_true rfl, Nat.le_of_ble_eq_true rfl⟩ ⟨Nat.zero_le _, Nat.zero_le _⟩ I hl.1 (Nat.le_of_ble_eq_true rfl) dX2_keep_2 (fun h2 f1 H locs I => ?_) (fun h2 f1 H locs I => ?_)
      · refine lv_if_eq (tgt := 15) hx hb dX2_keep_5 (by decide) (fun h => absurd h (by decide)) (fun _ => ?_)
        refine lv_iload_n hx hb dX2_keep_8 rfl (lv_at hl 2 rfl) ?_
        refine c_isRow ⟨hx, hb, hml, hown, hts⟩ gX2_keep_X2_isRow ⟨Nat.le_of_ble_eq_true rfl, Nat.le_of_ble_eq_true rfl⟩ ⟨Nat.zero_le _, Nat.zero_le _⟩ hl.1 (Nat.le_of_ble_eq_true rfl) dX2_keep_9 (fun h9 => ?_) (fun h9 => ?_)
        · refine lv_if_ne (tgt := 17) hx hb dX2_keep_12 (by decide) (fun _ => ?_) (fun h => absurd h (by decide))
          exact absurd h2 hg
        · refine lv_if_ne (tgt := 17) hx hb dX2_keep_12 (by decide) (fun h => absurd h (by decide)) (fun _ => ?_)
          refine lv_iconst (v := (-1)) hx hb dX2_keep_15 (by decide) ?_
          exact absurd h2 hg
      · refine lv_if_eq (tgt := 15) hx hb dX2_keep_5 (by decide) (fun _ => ?_) (fun h => absurd h (by decide))
        refine lv_iconst (v := (-1)) hx hb dX2_keep_15 (by decide) ?_
        exact W.widen (k := 2) (n := 11) (by decide) (by decide) (c_iret2 hx hb hr hlocks I dX2_keep_16 (by unfold a_keep; rw [if_neg (fun w => hg w.1)]))
  · refine lv_aload_n hx hb dX2_keep_0 rfl (lv_at hl 0 rfl) ?_
    refine lv_iload_n hx hb dX2_keep_1 rfl (lv_at hl 1 rfl) ?_
    refine c_isRule hN ⟨hx, hb, hml, hown, hts⟩ gX2_keep_X2_isRule ⟨Nat.le_of_ble_eq_true rfl, Nat.le_of_ble_eq_true rfl⟩ ⟨Nat.zero_le _, Nat.zero_le _⟩ I hl.1 (Nat.le_of_ble_eq_true rfl) dX2_keep_2 (fun h2 f1 H locs I => ?_) (fun h2 f1 H locs I => ?_)
    · refine lv_if_eq (tgt := 15) hx hb dX2_keep_5 (by decide) (fun h => absurd h (by decide)) (fun _ => ?_)
      refine lv_iload_n hx hb dX2_keep_8 rfl (lv_at hl 2 rfl) ?_
      refine c_isRow ⟨hx, hb, hml, hown, hts⟩ gX2_keep_X2_isRow ⟨Nat.le_of_ble_eq_true rfl, Nat.le_of_ble_eq_true rfl⟩ ⟨Nat.zero_le _, Nat.zero_le _⟩ hl.1 (Nat.le_of_ble_eq_true rfl) dX2_keep_9 (fun h9 => ?_) (fun h9 => ?_)
      · refine lv_if_ne (tgt := 17) hx hb dX2_keep_12 (by decide) (fun _ => ?_) (fun h => absurd h (by decide))
        exact absurd h9 hy
      · refine lv_if_ne (tgt := 17) hx hb dX2_keep_12 (by decide) (fun h => absurd h (by decide)) (fun _ => ?_)
        refine lv_iconst (v := (-1)) hx hb dX2_keep_15 (by decide) ?_
        exact W.widen (k := 2) (n := 11) (by decide) (by decide) (c_iret2 hx hb hr hlocks I dX2_keep_16 (by unfold a_keep; rw [if_neg (fun w => hy w.2)]))
    · refine lv_if_eq (tgt := 15) hx hb dX2_keep_5 (by decide) (fun _ => ?_) (fun h => absurd h (by decide))
      refine lv_iconst (v := (-1)) hx hb dX2_keep_15 (by decide) ?_
      exact W.widen (k := 2) (n := 11) (by decide) (by decide) (c_iret2 hx hb hr hlocks I dX2_keep_16 (by unfold a_keep; rw [if_neg (fun w => hy w.2)]))

