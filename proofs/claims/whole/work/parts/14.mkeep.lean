section MI14
variable {p : Program} {l : Launch} {e : Env} {R : Room} {s : State} {m : MethodId} {args : Array Value} {below : List Frame} {meth : Method} {c : Code} {H H0 : Heap} {locs : List Loc} {cells slots : Nat} {Q : State → Prop}
variable {cc : ByteArray} {pc : Nat} {ls : Array Slot} {rest st0 : List Value} {Ts : List Cond} {index nL : Nat} {own : String} {D : va_G} {o : Nat} {ad : Nat → Nat} {cA : ClassId} {S : tr_S}
theorem m_asksEach {N q z : Nat} {r : Int32} (hN : wf S N) (hq : q < 48) (hz10 : z ≤ 10) (hz : S.2 2 q = nI z) (hr2 : ∃ k, k < N ∧ r = nI k) (X : CallFix p m c cc nL s args Ts own) (hG : GoodIn Ts (wsV own index RX3 yX3_asksEach wsX3_asksEach)) (hR : 4 + 1 ≤ R.frames ∧ 8 + (4 + 11) + 97 ≤ R.locals) (hf : cells ≤ R.cells ∧ slots ≤ R.slots) (I : m_I D o ad cA S s H0 H locs) (hsize : ls.size = nL) (hroom : (rest.map fun v => v.category).sum ≤ 8) (hdg : decode cc pc = .ok (.invokevirtual index, 3))
    (kt : (l_keys r q z 0 (fun _ => 0) (e_start S)).2.1 16 = 0 → ∀ (S1 : tr_S) (H1 : Heap) (locs1 : List Loc), (∀ j, j < z → S1.2 27 j = (l_keys r q z 0 (fun _ => 0) (e_start S)).1 j) → e_eq (l_keys r q z 0 (fun _ => 0) (e_start S)).2 S1 → m_I D o ad cA S1 s H0 H1 locs1 → W p l e R s m args below meth c H1 locs1 cells slots Q (F0 m (pc + 3) ls (.int 1 :: rest)))
    (kf : ¬ (l_keys r q z 0 (fun _ => 0) (e_start S)).2.1 16 = 0 → ∀ (S1 : tr_S) (H1 : Heap) (locs1 : List Loc), e_eq (l_keys r q z 0 (fun _ => 0) (e_start S)).2 S1 → m_I D o ad cA S1 s H0 H1 locs1 → W p l e R s m args below meth c H1 locs1 cells slots Q (F0 m (pc + 3) ls (.int 0 :: rest))) : W p l e R s m args below meth c H locs cells slots Q (F0 m pc ls (.int (nI q) :: .int r :: .ref o :: rest)) := by
  refine m_calli (rest := rest) X (c_X3_asksEach l D o ad cA S r q z N hN hq hz10 hz hr2) (cwV 2 X.2.2.2.2 hG rfl rfl rfl (by decide +kernel) hR) I rfl hsize rfl hroom hdg hf (fun v S1 H1 locs1 hp I1 => ?_)
  obtain ⟨⟨rfl, h1, h2⟩ | ⟨rfl, h1⟩, h3⟩ := hp
  · exact kt h1 S1 H1 locs1 h2 h3 I1
  · exact kf h1 S1 H1 locs1 h3 I1
end MI14
theorem l_keys_ind {N : Nat} {r : Int32} {q : Nat} : ∀ (n i : Nat) (K : Nat → Int32) (S : tr_S), e_go S N → e_sm S (l_keys r q n i K S).2 ∧ ((l_keys r q n i K S).2.1 16 = 0 → e_go (l_keys r q n i K S).2 N)
  | 0, i, K, S, g => ⟨e_sm.rf S, fun _ => g⟩
  | n + 1, i, K, S, g => by
    unfold l_keys
    by_cases h : (ev 40 r (S.2 3 (10 * q + i)) S).2.1 16 = 0
    · rw [if_pos h]
      obtain ⟨a, b⟩ := l_keys_ind n (i + 1) (upd K i (ev 40 r (S.2 3 (10 * q + i)) S).1) _ (g.ev 40 r _ h)
      exact ⟨(ev_sm 40 r _ S).tr a, b⟩
    · rw [if_neg h]
      exact ⟨ev_sm 40 r _ S, fun q => absurd q h⟩
theorem w_new_sm {S T : tr_S} {k : Nat} (h : w_new S k) (g : e_sm S T) : w_new T k := by
  have e : ∀ a, f_held T a = f_held S a := fun a => by
    unfold f_held f_held1 f_held2
    rw [g.1, g.2.1, g.2.2.2.1, g.2.2.2.2.2.2.1]
  unfold w_new at h ⊢
  simp only [e]
  exact h
theorem getD_app_lt {l : List Int32} {v d : Int32} {j : Nat} (h : j < l.length) : (l ++ [v]).getD j d = l.getD j d := by simp [List.getD, List.getElem?_append_left h]
theorem getD_app_eq {l : List Int32} {v d : Int32} : (l ++ [v]).getD l.length d = v := by simp [List.getD]
def l_flt (K J : Nat → Int32) : Nat → List Int32
  | 0 => []
  | i + 1 => if K i = 0 then l_flt K J i else l_flt K J i ++ [J i]
theorem l_flt_len (K J : Nat → Int32) : ∀ i, (l_flt K J i).length ≤ i
  | 0 => Nat.le_refl 0
  | i + 1 => by
    have := l_flt_len K J i
    unfold l_flt
    split
    · omega
    · rw [List.length_append]; simp; omega
def l_fill (q : Nat) (L : List Int32) : Nat → tr_S → tr_S
  | 0, S => S
  | k + 1, S => sA (l_fill q L k S) 3 (10 * q + k) (L.getD k 0)
def f_keepEnd (y : Int32) (k : Nat) (L : List Int32) (S : tr_S) : Int32 × tr_S := f_ends (nI L.length) (sA (l_fill k L L.length (f_zero k 10 (sA S 2 k (nI L.length)))) 1 y.toNatClampNeg (nI k))
def f_keep (y : Int32) (q z k : Nat) (a : (Nat → Int32) × tr_S) : Int32 × tr_S := if a.2.1 16 = 0 then f_keepEnd y k (l_flt a.1 (fun i => a.2.2 3 (10 * q + i)) z) a.2 else f_ends 0 a.2
def a_keep (r y : Int32) (k : Nat) (S : tr_S) : Int32 × tr_S := if (0 ≤ r ∧ r ≤ S.1 4 - 1) ∧ (0 ≤ y ∧ y ≤ 3) then (if 0 ≤ S.2 1 y.toNatClampNeg then f_keep y (S.2 1 y.toNatClampNeg).toNatClampNeg (S.2 2 (S.2 1 y.toNatClampNeg).toNatClampNeg).toNatClampNeg k (l_keys r (S.2 1 y.toNatClampNeg).toNatClampNeg (S.2 2 (S.2 1 y.toNatClampNeg).toNatClampNeg).toNatClampNeg 0 (fun _ => 0) (e_start S)) else (-13, S)) else (-1, S)
theorem f_zero_eq {S T : tr_S} (h : e_eq S T) (q : Nat) : ∀ n, e_eq (f_zero q n S) (f_zero q n T)
  | 0 => h
  | n + 1 => e_eq_A (f_zero_eq h q n) 3 _ (by decide) rfl
theorem l_fill_eq {S T : tr_S} (h : e_eq S T) (q : Nat) (L : List Int32) : ∀ n, e_eq (l_fill q L n S) (l_fill q L n T)
  | 0 => h
  | n + 1 => e_eq_A (l_fill_eq h q L n) 3 _ (by decide) rfl
theorem f_keepEnd_eq {S T : tr_S} (h : e_eq S T) (y : Int32) (k : Nat) (L : List Int32) : e_R (f_keepEnd y k L S) (f_keepEnd y k L T) :=
  f_ends_eq (e_eq_A (l_fill_eq (f_zero_eq (e_eq_A h 2 k (by decide) rfl) k 10) k L L.length) 1 _ (by decide) rfl) _
/-- the arrays that only keep() and order() use stay as a row is filled -/
theorem f_zero_hi (q : Nat) (S : tr_S) : ∀ n, e_hi S (f_zero q n S)
  | 0 => e_hi.rf S
  | n + 1 => e_hi_A (f_zero_hi q S n) (by decide) _ _
theorem l_fill_hi (q : Nat) (L : List Int32) (S : tr_S) : ∀ n, e_hi S (l_fill q L n S)
  | 0 => e_hi.rf S
  | n + 1 => e_hi_A (l_fill_hi q L S n) (by decide) _ _
set_option maxHeartbeats 4000000 in
set_option maxRecDepth 100000 in
theorem c_X3_keep (l : Launch) (D : va_G) (o : Nat) (ad : Nat → Nat) (cA : ClassId) (S0 : tr_S) (r y : Int32) (N kn : Nat) (hN : wf S0 N) (hq : w_new S0 kn) : m_Mi l yX3_keep wsX3_keep { frames := 5, cells := 0, slots := 0, locals := 120 } [.int r, .int y] D o ad cA S0 (fun v S => e_R (a_keep r y kn S0) (v, S)) := by
  refine Met.ofW (cc := cX3_keep) (maxL := 7) (ret := (some .int)) (by decide) rfl ?_
  intro p e s m args below meth c s₁ B hml hv
  obtain ⟨rfl, hB⟩ := hv
  have hx := B.exec
  have hb := B.bytes
  have hr := B.returns
  have hts := atoms_spec (ws := wsX3_keep) B.pre
  have hown : s.vm.findClass RX3 = some m.cls := findClass_of_methodNamed B.named
  have hlocks := B.notSynchronized
  have I := m_I.of hB
  have hin : ∀ w ∈ wsX30, w ∈ wsX3_keep := fun _ h => List.mem_cons_of_mem _ (List.mem_append_right _ h)
  have L13 := hts (.fieldLink RX3 13 "TollRulesModel" "rowOf" "[I") (by decide +kernel)
  have L16 := hts (.fieldLink RX3 16 "TollRulesModel" "size" "[I") (by decide +kernel)
  have L19 := hts (.fieldLink RX3 19 "TollRulesModel" "item" "[I") (by decide +kernel)
  have L56 := hts (.fieldLink RX3 56 "TollRulesModel" "keys" "[I") (by decide +kernel)
  have L59 := hts (.fieldLink RX3 59 "TollRulesModel" "from" "[I") (by decide +kernel)
  have hl := lv_entry ([.ref o, .int r, .int y]) (n := 7) (Nat.le_of_ble_eq_true rfl)
  rw [lg_entry_eq]
  generalize (lg_sl ([.ref o, .int r, .int y]) ++ List.replicate (7 - (lg_sl ([.ref o, .int r, .int y])).length) Slot.unset).toArray = ls at hl ⊢
  have hl : lv_has ls 7 [(0, .ref o), (1, .int r), (2, .int y)] := hl
  have L2 : ∀ (q z : Nat) (K : Nat → Int32) (SA : tr_S), q < 48 → z ≤ 10 → SA.2 2 q = nI z → e_go SA N → e_sm S0 SA → a_keep r y kn S0 = f_keepEnd y kn (l_flt K (fun i => SA.2 3 (10 * q + i)) z) SA → (0 ≤ y ∧ y ≤ 3) → ∀ (S : tr_S), e_eq SA S → (∀ j, j < (l_flt K (fun i => SA.2 3 (10 * q + i)) z).length → S.2 28 j = (l_flt K (fun i => SA.2 3 (10 * q + i)) z).getD j 0) → ∀ (d i : Nat), (l_flt K (fun i => SA.2 3 (10 * q + i)) z).length - i < d → i ≤ (l_flt K (fun i => SA.2 3 (10 * q + i)) z).length → ∀ (H : Heap) (locs : List Loc) (ls : Array Slot), m_I D o ad cA (l_fill kn (l_flt K (fun i => SA.2 3 (10 * q + i)) z) i (f_zero kn 10 (sA S 2 kn (nI (l_flt K (fun i => SA.2 3 (10 * q + i)) z).length)))) s s.heap H locs → lv_has ls 7 [(6, .int (nI i)), (5, .int (nI kn)), (4, .int (nI (l_flt K (fun i => SA.2 3 (10 * q + i)) z).length)), (0, .ref o), (1, .int r), (2, .int y), (3, .int (nI q))] → W p l e (headSpec wsX3_keep { frames := 5, cells := 0, slots := 0, locals := 120 }).room s m (([.ref o, .int r, .int y] : List Value).toArray) below meth c H locs 0 0 (MQ below (va_Qi (fun v S => e_R (a_keep r y kn S0) (v, S)) (m_B D o ad cA) (m_A o ad)) (([.ref o, .int r, .int y] : List Value).toArray) s 0 0 (m_A o ad)) (F0 m 113 ls []) := by
    intro q z K SA hqq hz10 hz g sm hT hy S hS hF d
    have hlen := l_flt_len K (fun i => SA.2 3 (10 * q + i)) z
    have hq1 := hq.1
    induction d with
    | zero => intro i hi; omega
    | succ d ih =>
      intro i hd hi H locs ls I hl
      refine lv_iload hx hb dX3_keep_113 (lv_at hl 0 rfl) ?_
      refine lv_iload hx hb dX3_keep_115 (lv_at hl 2 rfl) ?_
      refine lv_icmp_ge (tgt := 146) hx hb dX3_keep_117 (by decide) (fun c117 => ?_) (fun c117 => ?_)
      · refine lv_aload_n hx hb dX3_keep_146 rfl (lv_at hl 3 rfl) ?_
        refine m_get1 hx hb hts hin hown I L13 dX3_keep_147 ?_
        refine lv_iload_n hx hb dX3_keep_150 rfl (lv_at hl 5 rfl) ?_
        refine lv_iload hx hb dX3_keep_151 (lv_at hl 1 rfl) ?_
        refine m_ast1 hx hb I (ix_of hy (by decide) (by decide)) dX3_keep_153 (fun H locs I => ?_)
        refine lv_aload_n hx hb dX3_keep_154 rfl (lv_at hl 3 rfl) ?_
        refine lv_iload hx hb dX3_keep_155 (lv_at hl 2 rfl) ?_
        refine m_calli (rest := []) ⟨hx, hb, hml, hown, hts⟩ (c_X3_ends l D o ad cA (sA (l_fill kn (l_flt K (fun i => SA.2 3 (10 * q + i)) z) i (f_zero kn 10 (sA S 2 kn (nI (l_flt K (fun i => SA.2 3 (10 * q + i)) z).length)))) 1 y.toNatClampNeg (nI kn)) (nI (l_flt K (fun i => SA.2 3 (10 * q + i)) z).length)) (cwV 1 hts gX3_keep_X3_ends rfl rfl rfl (by decide +kernel) ⟨Nat.le_of_ble_eq_true rfl, Nat.le_of_ble_eq_true rfl⟩) I rfl hl.1 rfl (Nat.le_of_ble_eq_true rfl) dX3_keep_157 ⟨Nat.le_refl _, Nat.le_refl _⟩ (fun r157 S157 H locs p157 I => ?_)
        have hi : (l_flt K (fun i => SA.2 3 (10 * q + i)) z).length ≤ i := nI_lb (by omega) (by omega) c117
        rw [show i = (l_flt K (fun i => SA.2 3 (10 * q + i)) z).length by omega] at p157
        refine m_iret hx hb hr hlocks I dX3_keep_160 ?_
        rw [hT, p157]
        exact f_keepEnd_eq hS y kn _
      · have hi : i < (l_flt K (fun i => SA.2 3 (10 * q + i)) z).length := nI_ub (by omega) (by omega) c117
        refine lv_aload_n hx hb dX3_keep_120 rfl (lv_at hl 3 rfl) ?_
        refine m_get3 hx hb hts hin hown I L19 dX3_keep_121 ?_
        refine lv_bipush (v := 10) hx hb dX3_keep_124 (by decide) ?_
        refine lv_iload hx hb dX3_keep_126 (lv_at hl 1 rfl) ?_
        refine lv_imul hx hb dX3_keep_128 ?_
        refine lv_iload hx hb dX3_keep_129 (lv_at hl 0 rfl) ?_
        refine lv_iadd hx hb dX3_keep_131 ?_
        refine lv_aload_n hx hb dX3_keep_132 rfl (lv_at hl 3 rfl) ?_
        refine m_get28 hx hb hts hin hown I L59 dX3_keep_133 ?_
        refine lv_iload hx hb dX3_keep_136 (lv_at hl 0 rfl) ?_
        refine m_ald28 hx hb I (vp_in_nI (by omega) (by decide)) dX3_keep_138 (x := (l_fill kn (l_flt K (fun i => SA.2 3 (10 * q + i)) z) i (f_zero kn 10 (sA S 2 kn (nI (l_flt K (fun i => SA.2 3 (10 * q + i)) z).length)))).2 28 i) (by rw [nI_clamp (show i < 2 ^ 31 by omega)] <;> rfl) ?_
        refine m_ast3 hx hb I (ix_480 hq.1 (by omega)) dX3_keep_139 (fun H locs I => ?_)
        rw [nI_10 (q := kn) (k := i) (by omega)] at I
        refine lv_iinc (v := (nI i) + 1) (lv' := [(6, .int ((nI i) + 1)), (5, .int (nI kn)), (4, .int (nI (l_flt K (fun i => SA.2 3 (10 * q + i)) z).length)), (0, .ref o), (1, .int r), (2, .int y), (3, .int (nI q))]) hx hb dX3_keep_140 hl (k := 0) rfl rfl (by decide) rfl (fun ls hl => ?_)
        refine lv_goto (tgt := 113) hx hb dX3_keep_143 (by decide) ?_
        have hl := lv_sub hl [0, 1, 2, 3, 4, 5, 6] rfl
        rw [nI_1] at hl
        rw [show ((l_fill kn (l_flt K (fun i => SA.2 3 (10 * q + i)) z) i (f_zero kn 10 (sA S 2 kn (nI (l_flt K (fun i => SA.2 3 (10 * q + i)) z).length))))).2 28 i = (l_flt K (fun i => SA.2 3 (10 * q + i)) z).getD i 0 by rw [((f_zero_hi kn (sA S 2 kn (nI (l_flt K (fun i => SA.2 3 (10 * q + i)) z).length)) 10).tr (l_fill_hi kn (l_flt K (fun i => SA.2 3 (10 * q + i)) z) _ i)) 28 (by decide)]; exact hF i hi] at I
        exact ih (i + 1) (by omega) (by omega) H locs ls I hl
  have L1 : ∀ (q z : Nat) (K : Nat → Int32) (SA : tr_S), q < 48 → z ≤ 10 → SA.2 2 q = nI z → e_go SA N → e_sm S0 SA → a_keep r y kn S0 = f_keepEnd y kn (l_flt K (fun i => SA.2 3 (10 * q + i)) z) SA → (0 ≤ y ∧ y ≤ 3) → ∀ (d i : Nat), z - i < d → i ≤ z → ∀ (S : tr_S), e_eq SA S → (∀ j, j < z → S.2 27 j = K j) → (∀ j, j < (l_flt K (fun i => SA.2 3 (10 * q + i)) i).length → S.2 28 j = (l_flt K (fun i => SA.2 3 (10 * q + i)) i).getD j 0) → ∀ (H : Heap) (locs : List Loc) (ls : Array Slot), m_I D o ad cA S s s.heap H locs → lv_has ls 7 [(5, .int (nI i)), (4, .int (nI (l_flt K (fun i => SA.2 3 (10 * q + i)) i).length)), (0, .ref o), (1, .int r), (2, .int y), (3, .int (nI q))] → W p l e (headSpec wsX3_keep { frames := 5, cells := 0, slots := 0, locals := 120 }).room s m (([.ref o, .int r, .int y] : List Value).toArray) below meth c H locs 0 0 (MQ below (va_Qi (fun v S => e_R (a_keep r y kn S0) (v, S)) (m_B D o ad cA) (m_A o ad)) (([.ref o, .int r, .int y] : List Value).toArray) s 0 0 (m_A o ad)) (F0 m 53 ls []) := by
    intro q z K SA hqq hz10 hz g sm hT hy d
    have hq1 := hq.1
    induction d with
    | zero => intro i hi; omega
    | succ d ih =>
      intro i hd hiz S hS hK hF H locs ls I hl
      have hlen := l_flt_len K (fun i => SA.2 3 (10 * q + i)) i
      have hz2 : S.2 2 q = nI z := by rw [hS.2 2 (by decide)]; exact hz
      refine lv_iload hx hb dX3_keep_53 (lv_at hl 0 rfl) ?_
      refine lv_aload_n hx hb dX3_keep_55 rfl (lv_at hl 2 rfl) ?_
      refine m_get2 hx hb hts hin hown I L16 dX3_keep_56 ?_
      refine lv_iload_n hx hb dX3_keep_59 rfl (lv_at hl 5 rfl) ?_
      refine m_ald2 hx hb I (vp_in_nI hqq (by decide)) dX3_keep_60 (x := S.2 2 q) (by rw [nI_clamp (show q < 2 ^ 31 by omega)] <;> rfl) ?_
      refine lv_icmp_ge (tgt := 102) hx hb dX3_keep_61 (by decide) (fun c61 => ?_) (fun c61 => ?_)
      · refine lv_aload_n hx hb dX3_keep_102 rfl (lv_at hl 2 rfl) ?_
        refine lv_iload hx hb dX3_keep_103 (lv_at hl 1 rfl) ?_
        have hi2 : z ≤ i := nI_lb (by omega) (by omega) (by rw [← hz2]; exact c61)
        have ei : i = z := by omega
        rw [ei] at hl hF ⊢
        have smS : e_sm S0 S := sm.tr hS.sm
        refine m_calli (rest := []) ⟨hx, hb, hml, hown, hts⟩ (c_X3_newRow l D o ad cA S (nI (l_flt K (fun i => SA.2 3 (10 * q + i)) z).length) kn N (w_new_sm hq smS) (smS.1.trans hN.2.1) hN.1) (cwV 1 hts gX3_keep_X3_newRow rfl rfl rfl (by decide +kernel) ⟨Nat.le_of_ble_eq_true rfl, Nat.le_of_ble_eq_true rfl⟩) I rfl hl.1 rfl (Nat.le_of_ble_eq_true rfl) dX3_keep_105 ⟨Nat.le_refl _, Nat.le_refl _⟩ (fun r105 S105 H locs p105 I => ?_)
        obtain ⟨rfl, rfl⟩ := p105
        refine lv_istore (lv' := [(5, .int (nI kn)), (4, .int (nI (l_flt K (fun i => SA.2 3 (10 * q + i)) z).length)), (0, .ref o), (1, .int r), (2, .int y), (3, .int (nI q))]) hx hb dX3_keep_108 hl (by decide) rfl (fun ls hl => ?_)
        refine lv_iconst (v := 0) hx hb dX3_keep_110 (by decide) ?_
        refine lv_istore (lv' := [(6, .int 0), (5, .int (nI kn)), (4, .int (nI (l_flt K (fun i => SA.2 3 (10 * q + i)) z).length)), (0, .ref o), (1, .int r), (2, .int y), (3, .int (nI q))]) hx hb dX3_keep_111 hl (by decide) rfl (fun ls hl => ?_)
        exact L2 q z K SA hqq hz10 hz g sm hT hy S hS hF ((l_flt K (fun i => SA.2 3 (10 * q + i)) z).length + 1) 0 (by omega) (by omega) H locs ls I (lv_sub hl [0, 1, 2, 3, 4, 5, 6] rfl)
      · have hi : i < z := nI_ub (by omega) (by omega) (by rw [← hz2]; exact c61)
        refine lv_aload_n hx hb dX3_keep_64 rfl (lv_at hl 2 rfl) ?_
        refine m_get27 hx hb hts hin hown I L56 dX3_keep_65 ?_
        refine lv_iload hx hb dX3_keep_68 (lv_at hl 0 rfl) ?_
        refine m_ald27 hx hb I (vp_in_nI (by omega) (by decide)) dX3_keep_70 (x := S.2 27 i) (by rw [nI_clamp (show i < 2 ^ 31 by omega)] <;> rfl) ?_
        refine lv_if_eq (tgt := 96) hx hb dX3_keep_71 (by decide) (fun c71 => ?_) (fun c71 => ?_)
        · refine lv_iinc (v := (nI i) + 1) (lv' := [(5, .int ((nI i) + 1)), (4, .int (nI (l_flt K (fun i => SA.2 3 (10 * q + i)) i).length)), (0, .ref o), (1, .int r), (2, .int y), (3, .int (nI q))]) hx hb dX3_keep_96 hl (k := 0) rfl rfl (by decide) rfl (fun ls hl => ?_)
          refine lv_goto (tgt := 53) hx hb dX3_keep_99 (by decide) ?_
          have hl := lv_sub hl [0, 1, 2, 3, 4, 5] rfl
          rw [hK i hi] at c71
          have eF : l_flt K (fun i => SA.2 3 (10 * q + i)) (i + 1) = (l_flt K (fun i => SA.2 3 (10 * q + i)) i) := by
            conv => lhs; unfold l_flt
            rw [if_pos c71]
          rw [nI_1, ← eF] at hl
          refine ih (i + 1) (by omega) (by omega) S hS hK ?_ H locs ls I hl
          rw [eF]
          exact hF
        · refine lv_aload_n hx hb dX3_keep_74 rfl (lv_at hl 2 rfl) ?_
          refine m_get28 hx hb hts hin hown I L59 dX3_keep_75 ?_
          refine lv_iload hx hb dX3_keep_78 (lv_at hl 1 rfl) ?_
          refine lv_aload_n hx hb dX3_keep_80 rfl (lv_at hl 2 rfl) ?_
          refine m_get3 hx hb hts hin hown I L19 dX3_keep_81 ?_
          refine lv_bipush (v := 10) hx hb dX3_keep_84 (by decide) ?_
          refine lv_iload_n hx hb dX3_keep_86 rfl (lv_at hl 5 rfl) ?_
          refine lv_imul hx hb dX3_keep_87 ?_
          refine lv_iload hx hb dX3_keep_88 (lv_at hl 0 rfl) ?_
          refine lv_iadd hx hb dX3_keep_90 ?_
          refine m_ald3 hx hb I (ix_480 hqq (by omega)) dX3_keep_91 (x := S.2 3 (10 * q + i)) (by rw [nI_10 (q := q) (k := i) (by omega)] <;> rfl) ?_
          refine m_ast28 hx hb I (vp_in_nI (by omega) (by decide)) dX3_keep_92 (fun H locs I => ?_)
          rw [nI_clamp (show (l_flt K (fun i => SA.2 3 (10 * q + i)) i).length < 2 ^ 31 by omega)] at I
          refine lv_iinc (v := (nI (l_flt K (fun i => SA.2 3 (10 * q + i)) i).length) + 1) (lv' := [(4, .int ((nI (l_flt K (fun i => SA.2 3 (10 * q + i)) i).length) + 1)), (5, .int (nI i)), (0, .ref o), (1, .int r), (2, .int y), (3, .int (nI q))]) hx hb dX3_keep_93 hl (k := 1) rfl rfl (by decide) rfl (fun ls hl => ?_)
          refine lv_iinc (v := (nI i) + 1) (lv' := [(5, .int ((nI i) + 1)), (4, .int ((nI (l_flt K (fun i => SA.2 3 (10 * q + i)) i).length) + 1)), (0, .ref o), (1, .int r), (2, .int y), (3, .int (nI q))]) hx hb dX3_keep_96 hl (k := 1) rfl rfl (by decide) rfl (fun ls hl => ?_)
          refine lv_goto (tgt := 53) hx hb dX3_keep_99 (by decide) ?_
          have hl := lv_sub hl [0, 1, 2, 3, 4, 5] rfl
          rw [hK i hi] at c71
          have eF : l_flt K (fun i => SA.2 3 (10 * q + i)) (i + 1) = (l_flt K (fun i => SA.2 3 (10 * q + i)) i) ++ [SA.2 3 (10 * q + i)] := by
            conv => lhs; unfold l_flt
            rw [if_neg c71]
          have eN : nI (l_flt K (fun i => SA.2 3 (10 * q + i)) (i + 1)).length = nI (l_flt K (fun i => SA.2 3 (10 * q + i)) i).length + 1 := by rw [eF, List.length_append]; exact (nI_1 _).symm
          rw [nI_1 i, ← eN] at hl
          refine ih (i + 1) (by omega) (by omega) (sA S 28 (l_flt K (fun i => SA.2 3 (10 * q + i)) i).length (S.2 3 (10 * q + i))) (e_eq_lA hS (by decide) _ _) (fun j hj => hK j hj) ?_ H locs ls I hl
          intro j hj
          rw [eF, List.length_append] at hj
          have hj : j < (l_flt K (fun i => SA.2 3 (10 * q + i)) i).length + 1 := hj
          rw [eF, sA_A, if_pos rfl]
          by_cases hjl : j = (l_flt K (fun i => SA.2 3 (10 * q + i)) i).length
          · rw [if_pos hjl, hS.2 3 (by decide), hjl, getD_app_eq]
          · rw [if_neg hjl, getD_app_lt (by omega)]; exact hF j (by omega)
  refine lv_aload_n hx hb dX3_keep_0 rfl (lv_at hl 0 rfl) ?_
  refine lv_iload_n hx hb dX3_keep_1 rfl (lv_at hl 1 rfl) ?_
  refine m_isRule ⟨hx, hb, hml, hown, hts⟩ gX3_keep_X3_isRule ⟨Nat.le_of_ble_eq_true rfl, Nat.le_of_ble_eq_true rfl⟩ ⟨Nat.le_refl _, Nat.le_refl _⟩ I hl.1 (Nat.le_of_ble_eq_true rfl) dX3_keep_2 (fun h2 H locs I => ?_) (fun h2 H locs I => ?_)
  · refine lv_if_eq (tgt := 17) hx hb dX3_keep_5 (by decide) (fun h => absurd h (by decide)) (fun _ => ?_)
    refine lv_iload_n hx hb dX3_keep_8 rfl (lv_at hl 2 rfl) ?_
    refine lv_iconst (v := 0) hx hb dX3_keep_9 (by decide) ?_
    refine lv_iconst (v := 3) hx hb dX3_keep_10 (by decide) ?_
    refine m_in ⟨hx, hb, hml, hown, hts⟩ gX3_keep_X3_in ⟨Nat.le_of_ble_eq_true rfl, Nat.le_of_ble_eq_true rfl⟩ ⟨Nat.le_refl _, Nat.le_refl _⟩ hl.1 (Nat.le_of_ble_eq_true rfl) dX3_keep_11 (fun h11 => ?_) (fun h11 => ?_)
    · refine lv_if_ne (tgt := 19) hx hb dX3_keep_14 (by decide) (fun _ => ?_) (fun h => absurd h (by decide))
      refine lv_aload_n hx hb dX3_keep_19 rfl (lv_at hl 0 rfl) ?_
      refine m_get1 hx hb hts hin hown I L13 dX3_keep_20 ?_
      refine lv_iload_n hx hb dX3_keep_23 rfl (lv_at hl 2 rfl) ?_
      refine m_ald1 hx hb I (ix_of h11 (by decide) (by decide)) dX3_keep_24 (x := S0.2 1 y.toNatClampNeg) rfl ?_
      refine lv_if_ge (tgt := 31) hx hb dX3_keep_25 (by decide) (fun c25 => ?_) (fun c25 => ?_)
      · refine lv_aload_n hx hb dX3_keep_31 rfl (lv_at hl 0 rfl) ?_
        refine m_get1 hx hb hts hin hown I L13 dX3_keep_32 ?_
        refine lv_iload_n hx hb dX3_keep_35 rfl (lv_at hl 2 rfl) ?_
        refine m_ald1 hx hb I (ix_of h11 (by decide) (by decide)) dX3_keep_36 (x := S0.2 1 y.toNatClampNeg) rfl ?_
        refine lv_istore_n (lv' := [(3, .int (S0.2 1 y.toNatClampNeg)), (0, .ref o), (1, .int r), (2, .int y)]) hx hb dX3_keep_37 rfl hl (by decide) rfl (fun ls hl => ?_)
        refine lv_iconst (v := 0) hx hb dX3_keep_38 (by decide) ?_
        refine lv_istore (lv' := [(4, .int 0), (3, .int (S0.2 1 y.toNatClampNeg)), (0, .ref o), (1, .int r), (2, .int y)]) hx hb dX3_keep_39 hl (by decide) rfl (fun ls hl => ?_)
        obtain ⟨q, hqq, eq⟩ : ∃ q, q < 48 ∧ S0.2 1 y.toNatClampNeg = nI q := by rcases hN.2.2.2.1 _ (ix_nI (ix_of h11 (by decide) (by decide)) (by decide)).2 with h | h; exact absurd c25 (by rw [h]; decide); exact h
        obtain ⟨z, hz10, hz⟩ := hN.2.2.2.2 q hqq
        rw [eq] at hl
        have li := l_keys_ind (r := r) (q := q) z 0 (fun _ => 0) (e_start S0) (e_go.of hN)
        have eA : a_keep r y kn S0 = f_keep y q z kn (l_keys r q z 0 (fun _ => 0) (e_start S0)) := by unfold a_keep; rw [if_pos ⟨h2, h11⟩, if_pos c25, eq, nI_clamp (show q < 2 ^ 31 by omega), hz, nI_clamp (show z < 2 ^ 31 by omega)]
        refine lv_aload_n hx hb dX3_keep_41 rfl (lv_at hl 2 rfl) ?_
        refine lv_iload_n hx hb dX3_keep_42 rfl (lv_at hl 3 rfl) ?_
        refine lv_iload_n hx hb dX3_keep_43 rfl (lv_at hl 1 rfl) ?_
        refine m_asksEach hN hqq hz10 hz (rule_of hN h2) ⟨hx, hb, hml, hown, hts⟩ gX3_keep_X3_asksEach ⟨Nat.le_of_ble_eq_true rfl, Nat.le_of_ble_eq_true rfl⟩ ⟨Nat.le_refl _, Nat.le_refl _⟩ I hl.1 (Nat.le_of_ble_eq_true rfl) dX3_keep_44 (fun h44 S44 H locs k44 e44 I => ?_) (fun h44 S44 H locs e44 I => ?_)
        · refine lv_if_eq (tgt := 154) hx hb dX3_keep_47 (by decide) (fun h => absurd h (by decide)) (fun _ => ?_)
          refine lv_iconst (v := 0) hx hb dX3_keep_50 (by decide) ?_
          refine lv_istore (lv' := [(5, .int 0), (4, .int 0), (3, .int (nI q)), (0, .ref o), (1, .int r), (2, .int y)]) hx hb dX3_keep_51 hl (by decide) rfl (fun ls hl => ?_)
          exact L1 q z _ _ hqq hz10 (by rw [li.1.2.2.1]; exact hz) (li.2 h44) ((e_start_sm S0).tr li.1) (by rw [eA]; unfold f_keep; rw [if_pos h44]) h11 (z + 1) 0 (by omega) (by omega) S44 e44 k44 (fun j hj => absurd hj (Nat.not_lt_zero j)) H locs ls I (lv_sub hl [0, 1, 3, 4, 5, 2] rfl)
        · refine lv_if_eq (tgt := 154) hx hb dX3_keep_47 (by decide) (fun _ => ?_) (fun h => absurd h (by decide))
          refine lv_aload_n hx hb dX3_keep_154 rfl (lv_at hl 2 rfl) ?_
          refine lv_iload hx hb dX3_keep_155 (lv_at hl 0 rfl) ?_
          refine m_calli (rest := []) ⟨hx, hb, hml, hown, hts⟩ (c_X3_ends l D o ad cA S44 0) (cwV 1 hts gX3_keep_X3_ends rfl rfl rfl (by decide +kernel) ⟨Nat.le_of_ble_eq_true rfl, Nat.le_of_ble_eq_true rfl⟩) I rfl hl.1 rfl (Nat.le_of_ble_eq_true rfl) dX3_keep_157 ⟨Nat.le_refl _, Nat.le_refl _⟩ (fun r157 S157 H locs p157 I => ?_)
          refine m_iret hx hb hr hlocks I dX3_keep_160 ?_
          rw [eA, p157]
          unfold f_keep
          rw [if_neg h44]
          exact f_ends_eq e44 0
      · refine lv_bipush (v := (-13)) hx hb dX3_keep_28 (by decide) ?_
        exact m_iret hx hb hr hlocks I dX3_keep_30 (by unfold a_keep; rw [if_pos ⟨h2, h11⟩, if_neg c25]; exact ⟨rfl, e_eq.rf _⟩)
    · refine lv_if_ne (tgt := 19) hx hb dX3_keep_14 (by decide) (fun h => absurd h (by decide)) (fun _ => ?_)
      refine lv_iconst (v := (-1)) hx hb dX3_keep_17 (by decide) ?_
      exact m_iret hx hb hr hlocks I dX3_keep_18 (by unfold a_keep; rw [if_neg (fun q => h11 q.2)]; exact ⟨rfl, e_eq.rf _⟩)
  · refine lv_if_eq (tgt := 17) hx hb dX3_keep_5 (by decide) (fun _ => ?_) (fun h => absurd h (by decide))
    refine lv_iconst (v := (-1)) hx hb dX3_keep_17 (by decide) ?_
    exact m_iret hx hb hr hlocks I dX3_keep_18 (by unfold a_keep; rw [if_neg (fun q => h2 q.1)]; exact ⟨rfl, e_eq.rf _⟩)

