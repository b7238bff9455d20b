/-! what holds between two calls -/
def r_ok (S : tr_S) : Prop := (∃ N, wf S N) ∧ S.1 18 = S.1 19
theorem r_ends {T : tr_S} {N : Nat} (v : Int32) (h : wf T N) : r_ok (f_ends v T).2 := by
  unfold f_ends
  by_cases c : T.1 16 ≤ 0
  · rw [if_pos c]
    exact ⟨⟨N, h.sm ⟨rfl, rfl, rfl, rfl, rfl, rfl, rfl, rfl, rfl⟩⟩, rfl⟩
  · rw [if_neg c]
    exact ⟨⟨N, h.sm ⟨rfl, rfl, rfl, rfl, rfl, rfl, rfl, rfl, rfl⟩⟩, rfl⟩
theorem r_eq {S T : tr_S} (h : r_ok S) (e : e_eq S T) : r_ok T := by
  obtain ⟨⟨N, h1⟩, h2⟩ := h
  exact ⟨⟨N, h1.sm e.sm⟩, by rw [e.1 18 (by decide) (by decide), e.1 19 (by decide) (by decide)]; exact h2⟩
theorem r_i : r_ok i_S := ⟨⟨0, wf_i⟩, rfl⟩
theorem r_place {S : tr_S} (h : r_ok S) (p v : Int32) : r_ok (f_place p v S).2 := by
  obtain ⟨⟨N, h1⟩, h2⟩ := h
  unfold f_place
  by_cases c : 0 ≤ p ∧ p ≤ 7
  · rw [if_pos c]
    exact ⟨⟨N, h1.sm ⟨rfl, rfl, rfl, rfl, rfl, rfl, rfl, rfl, rfl⟩⟩, h2⟩
  · rw [if_neg c]
    exact ⟨⟨N, h1⟩, h2⟩
theorem wf_row1 {S : tr_S} {N r : Nat} {v : Int32} (h : wf S N) (hv : v = -1 ∨ ∃ q, q < 48 ∧ v = nI q) : wf (sA S 1 r v) N := by
  refine ⟨h.1, h.2.1, h.2.2.1, fun j hj => ?_, h.2.2.2.2⟩
  rw [sA_A, if_pos rfl]
  by_cases c : j = r
  · rw [if_pos c]; exact hv
  · rw [if_neg c]; exact h.2.2.2.1 j hj
theorem wf_nrow {S S2 : tr_S} {N kn r : Nat} (h : wf S N) (hn : n_row S S2 kn r) (hk : kn < 48) (hz : ∃ z, z ≤ 10 ∧ S2.2 2 kn = nI z) : wf S2 N := by
  obtain ⟨n1, n2, n3, n4, -⟩ := hn
  refine ⟨h.1, by rw [n1]; exact h.2.1, fun k hk => ?_, fun j hj => ?_, fun q hq => ?_⟩
  · have := h.2.2.1 k hk
    unfold rl_ok at this ⊢
    rw [n2 5 (by decide) (by decide) (by decide), n2 6 (by decide) (by decide) (by decide), n2 7 (by decide) (by decide) (by decide), n2 9 (by decide) (by decide) (by decide)]
    exact this
  · rw [n3]
    unfold upd
    by_cases c : j = r
    · rw [if_pos c]; exact Or.inr ⟨kn, hk, rfl⟩
    · rw [if_neg c]; exact h.2.2.2.1 j hj
  · by_cases c : q = kn
    · rw [c]; exact hz
    · rw [n4 q c]; exact h.2.2.2.2 q hq
theorem row_2 (S : tr_S) (kn r mm : Nat) (v : Int32) : (sA (f_zero kn mm (sA S 2 kn v)) 1 r (nI kn)).2 2 kn = v := by
  show (f_zero kn mm (sA S 2 kn v)).2 2 kn = _
  rw [f_zero_A _ _ (by decide), sA_A, if_pos rfl, if_pos rfl]
theorem fill_2 (S : tr_S) (kn r mm k2 : Nat) (M : List Int32) (v : Int32) : (sA (l_fill kn M k2 (f_zero kn mm (sA S 2 kn v))) 1 r (nI kn)).2 2 kn = v := by
  show (l_fill kn M k2 (f_zero kn mm (sA S 2 kn v))).2 2 kn = _
  rw [l_fill_A _ _ _ (by decide), f_zero_A _ _ (by decide), sA_A, if_pos rfl, if_pos rfl]
theorem r_row {S : tr_S} (h : r_ok S) (r z : Int32) {q : Nat} (hq : q < 48) : r_ok (f_row r z q S).2 := by
  obtain ⟨⟨N, h1⟩, h2⟩ := h
  unfold f_row
  by_cases c : (0 ≤ r ∧ r ≤ 3) ∧ (-1 ≤ z ∧ z ≤ 10)
  · rw [if_pos c]
    by_cases c2 : 0 ≤ z
    · rw [if_pos c2]
      have hn := n_row_of S q r.toNatClampNeg 10 (by decide) z
      have h22 := row_2 S q r.toNatClampNeg 10 z
      obtain ⟨n, hn10, en⟩ : ∃ n : Nat, n ≤ 10 ∧ z = nI n := nI_of2 (M := 10) rfl (Int32.not_lt.mpr c2) c.2.2
      obtain ⟨S2, e2⟩ : ∃ S2, S2 = sA (f_zero q 10 (sA S 2 q z)) 1 r.toNatClampNeg (nI q) := ⟨_, rfl⟩
      rw [← e2] at hn h22
      show r_ok (sA (f_zero q 10 (sA S 2 q z)) 1 r.toNatClampNeg (nI q))
      rw [← e2]
      exact ⟨⟨N, wf_nrow h1 hn hq ⟨n, hn10, h22.trans en⟩⟩, by rw [hn.1]; exact h2⟩
    · rw [if_neg c2]
      exact ⟨⟨N, wf_row1 h1 (Or.inl rfl)⟩, h2⟩
  · rw [if_neg c]
    exact ⟨⟨N, h1⟩, h2⟩
theorem r_share {S : tr_S} (h : r_ok S) (r y : Int32) : r_ok (f_share r y S).2 := by
  obtain ⟨⟨N, h1⟩, h2⟩ := h
  unfold f_share
  by_cases c : (0 ≤ r ∧ r ≤ 3) ∧ (0 ≤ y ∧ y ≤ 3)
  · rw [if_pos c]
    exact ⟨⟨N, wf_row1 h1 (h1.2.2.2.1 _ (ix_nI (ix_of c.2 (by decide) (by decide) : vp_in y 4) (by decide)).2)⟩, h2⟩
  · rw [if_neg c]
    exact ⟨⟨N, h1⟩, h2⟩
theorem r_put {S : tr_S} (h : r_ok S) (r i v : Int32) : r_ok (f_put r i v S).2 := by
  obtain ⟨⟨N, h1⟩, h2⟩ := h
  unfold f_put
  by_cases c : 0 ≤ r ∧ r ≤ 3
  · rw [if_pos c]
    by_cases c2 : 0 ≤ S.2 1 r.toNatClampNeg
    · rw [if_pos c2]
      by_cases c3 : 0 ≤ i ∧ i ≤ S.2 2 (S.2 1 r.toNatClampNeg).toNatClampNeg - 1
      · rw [if_pos c3]
        exact ⟨⟨N, h1.set3 _ _⟩, h2⟩
      · rw [if_neg c3]
        exact ⟨⟨N, h1⟩, h2⟩
    · rw [if_neg c2]
      exact ⟨⟨N, h1⟩, h2⟩
  · rw [if_neg c]
    exact ⟨⟨N, h1⟩, h2⟩
theorem wf_F {S : tr_S} {N k : Nat} {v : Int32} (h : wf S N) (hk : k ≠ 4) : wf (sF S k v) N := by
  refine h.sm ⟨?_, rfl, rfl, rfl, rfl, rfl, rfl, rfl, rfl⟩
  show upd S.1 k v 4 = S.1 4
  unfold upd
  rw [if_neg (fun w => hk w.symm)]
theorem wf_start {S : tr_S} {N : Nat} (h : wf S N) : wf (e_start S) N := h.sm (e_start_sm S)
theorem r_apply {S : tr_S} (h : r_ok S) (r x : Int32) : r_ok (a_apply r x S).2 := by
  obtain ⟨⟨N, h1⟩, h2⟩ := h
  unfold a_apply
  by_cases c : 0 ≤ r ∧ r ≤ S.1 4 - 1
  · rw [if_pos c]
    refine r_ends 1 (N := N) ?_
    have hw : wf (ev 40 r x (e_start S)).2 N := (wf_start h1).sm (ev_sm 40 r x (e_start S))
    by_cases c2 : (ev 40 r x (e_start S)).2.1 16 = 0
    · rw [if_pos c2]; exact wf_F hw (by decide)
    · rw [if_neg c2]; exact hw
  · rw [if_neg c]
    exact ⟨⟨N, h1⟩, h2⟩
theorem wf_each {N : Nat} {r : Int32} {q : Nat} : ∀ (n i : Nat) (S : tr_S), wf S N → wf (l_each r q n i S).2 N
  | 0, i, S, h => h
  | n + 1, i, S, h => by
    unfold l_each
    by_cases c : (ev 40 r (S.2 3 (10 * q + i)) S).2.1 16 = 0
    · rw [if_pos c]
      exact wf_each n (i + 1) _ ((h.sm (ev_sm 40 r _ S)).set3 _ _)
    · rw [if_neg c]
      exact h.sm (ev_sm 40 r _ S)
theorem r_each {S : tr_S} (h : r_ok S) (r y : Int32) : r_ok (a_each r y S).2 := by
  obtain ⟨⟨N, h1⟩, h2⟩ := h
  unfold a_each
  by_cases c : (0 ≤ r ∧ r ≤ S.1 4 - 1) ∧ (0 ≤ y ∧ y ≤ 3)
  · rw [if_pos c]
    by_cases c2 : 0 ≤ S.2 1 y.toNatClampNeg
    · rw [if_pos c2]
      exact r_ends _ (wf_each _ _ _ (wf_start h1))
    · rw [if_neg c2]
      exact ⟨⟨N, h1⟩, h2⟩
  · rw [if_neg c]
    exact ⟨⟨N, h1⟩, h2⟩
theorem wf_keys {N : Nat} {r : Int32} {q : Nat} : ∀ (n i : Nat) (K : Nat → Int32) (S : tr_S), wf S N → wf (l_keys r q n i K S).2 N
  | 0, i, K, S, h => h
  | n + 1, i, K, S, h => by
    unfold l_keys
    by_cases c : (ev 40 r (S.2 3 (10 * q + i)) S).2.1 16 = 0
    · rw [if_pos c]
      exact wf_keys n (i + 1) _ _ (h.sm (ev_sm 40 r _ S))
    · rw [if_neg c]
      exact h.sm (ev_sm 40 r _ S)
theorem r_keep {S : tr_S} (h : r_ok S) (r y : Int32) {kn : Nat} (hk : kn < 48) : r_ok (a_keep r y kn S).2 := by
  obtain ⟨⟨N, h1⟩, h2⟩ := h
  unfold a_keep
  by_cases c : (0 ≤ r ∧ r ≤ S.1 4 - 1) ∧ (0 ≤ y ∧ y ≤ 3)
  · rw [if_pos c]
    by_cases c2 : 0 ≤ S.2 1 y.toNatClampNeg
    · rw [if_pos c2]
      obtain ⟨q, hq⟩ : ∃ q, q = (S.2 1 y.toNatClampNeg).toNatClampNeg := ⟨_, rfl⟩
      rw [← hq]
      have hq48 : q < 48 := by
        rcases h1.2.2.2.1 _ (ix_nI (ix_of c.2 (by decide) (by decide) : vp_in y 4) (by decide)).2 with w | ⟨q2, w1, w2⟩
        · rw [w] at c2; exact absurd c2 (by decide)
        · rw [hq, w2, nI_clamp (by omega)]; exact w1
      obtain ⟨zn, hz10, hz⟩ := h1.2.2.2.2 q hq48
      rw [hz, nI_clamp (by omega)]
      have hw := wf_keys (r := r) (q := q) zn 0 (fun _ => 0) (e_start S) (wf_start h1)
      obtain ⟨B, hB⟩ : ∃ B, B = l_keys r q zn 0 (fun _ => 0) (e_start S) := ⟨_, rfl⟩
      rw [← hB] at hw ⊢
      unfold f_keep
      by_cases c3 : B.2.1 16 = 0
      · rw [if_pos c3]
        unfold f_keepEnd
        obtain ⟨M, hM⟩ : ∃ M, M = l_flt B.1 (fun i => B.2.2 3 (10 * q + i)) zn := ⟨_, rfl⟩
        have hlen : M.length ≤ 10 := by rw [hM]; exact Nat.le_trans (l_flt_len _ _ zn) hz10
        rw [← hM]
        exact r_ends _ (wf_nrow hw (n_row_fill B.2 kn y.toNatClampNeg 10 M.length (by decide) hlen M (nI M.length)) hk ⟨M.length, hlen, fill_2 B.2 kn y.toNatClampNeg 10 M.length M (nI M.length)⟩)
      · rw [if_neg c3]
        exact r_ends _ hw
    · rw [if_neg c2]
      exact ⟨⟨N, h1⟩, h2⟩
  · rw [if_neg c]
    exact ⟨⟨N, h1⟩, h2⟩
theorem wf_put {N : Nat} {q : Nat} {J : Nat → Int32} {S : tr_S} (h : wf S N) : ∀ n, wf (l_put q J n S) N
  | 0 => h
  | n + 1 => (wf_put h n).set3 _ _
theorem r_order {S : tr_S} (h : r_ok S) (r y : Int32) : r_ok (a_order r y S).2 := by
  obtain ⟨⟨N, h1⟩, h2⟩ := h
  unfold a_order
  by_cases c : (0 ≤ r ∧ r ≤ S.1 4 - 1) ∧ (0 ≤ y ∧ y ≤ 3)
  · rw [if_pos c]
    by_cases c2 : 0 ≤ S.2 1 y.toNatClampNeg
    · rw [if_pos c2]
      obtain ⟨B, hB⟩ : ∃ B, B = l_keys r (S.2 1 y.toNatClampNeg).toNatClampNeg (S.2 2 (S.2 1 y.toNatClampNeg).toNatClampNeg).toNatClampNeg 0 (fun _ => 0) (e_start S) := ⟨_, rfl⟩
      have hw : wf B.2 N := by rw [hB]; exact wf_keys _ _ _ _ (wf_start h1)
      rw [← hB]
      unfold f_order
      by_cases c3 : B.2.1 16 = 0
      · rw [if_pos c3]
        exact r_ends _ (wf_put hw _)
      · rw [if_neg c3]
        exact r_ends _ hw
    · rw [if_neg c2]
      exact ⟨⟨N, h1⟩, h2⟩
  · rw [if_neg c]
    exact ⟨⟨N, h1⟩, h2⟩
theorem r_fold {S : tr_S} (h : r_ok S) (a y x : Int32) : r_ok (a_fold a y x S).2 := by
  obtain ⟨⟨N, h1⟩, h2⟩ := h
  unfold a_fold
  by_cases c : (0 ≤ a ∧ a ≤ 4) ∧ (0 ≤ y ∧ y ≤ 3)
  · rw [if_pos c]
    by_cases c2 : 0 ≤ S.2 1 y.toNatClampNeg
    · rw [if_pos c2]
      generalize l_fold a (S.2 1 y.toNatClampNeg).toNatClampNeg S (S.2 2 (S.2 1 y.toNatClampNeg).toNatClampNeg).toNatClampNeg 0 x = w
      cases w with
      | none => exact ⟨⟨N, h1.sm ⟨rfl, rfl, rfl, rfl, rfl, rfl, rfl, rfl, rfl⟩⟩, h2⟩
      | some v => exact ⟨⟨N, h1.sm ⟨rfl, rfl, rfl, rfl, rfl, rfl, rfl, rfl, rfl⟩⟩, h2⟩
    · rw [if_neg c2]
      exact ⟨⟨N, h1⟩, h2⟩
  · rw [if_neg c]
    exact ⟨⟨N, h1⟩, h2⟩
theorem wf_until {N : Nat} {r u : Int32} : ∀ (k n : Nat) (v : Int32) (S : tr_S), wf S N → wf (l_until r u k n v S).2.2 N
  | 0, n, v, S, h => h
  | k + 1, n, v, S, h => by
    unfold l_until
    have h3 : wf (ev 40 r v S).2 N := h.sm (ev_sm 40 r v S)
    have h4 : wf (ev 40 u (ev 40 r v S).1 (ev 40 r v S).2).2 N := h3.sm (ev_sm 40 u _ _)
    by_cases c : (ev 40 r v S).2.1 16 = 0
    · rw [if_pos c]
      by_cases c2 : (ev 40 u (ev 40 r v S).1 (ev 40 r v S).2).2.1 16 = 0 ∧ ¬ (ev 40 u (ev 40 r v S).1 (ev 40 r v S).2).1 = 0
      · rw [if_pos c2]
        exact wf_until k (n + 1) _ _ h4
      · rw [if_neg c2]
        exact h4
    · rw [if_neg c]
      exact h3
theorem r_until {S : tr_S} (h : r_ok S) (r u x k : Int32) : r_ok (a_until r u x k S).2 := by
  obtain ⟨⟨N, h1⟩, h2⟩ := h
  unfold a_until
  by_cases c : (0 ≤ r ∧ r ≤ S.1 4 - 1) ∧ (0 ≤ u ∧ u ≤ S.1 4 - 1) ∧ (1 ≤ k ∧ k ≤ 30)
  · rw [if_pos c]
    have hw := wf_until (r := r) (u := u) k.toNatClampNeg 0 x (e_start S) (wf_start h1)
    generalize l_until r u k.toNatClampNeg 0 x (e_start S) = B at hw ⊢
    unfold f_untilEnd
    by_cases c2 : B.2.2.1 16 = 0
    · rw [if_pos c2]; exact r_ends _ (wf_F hw (by decide))
    · rw [if_neg c2]; exact r_ends _ hw
  · rw [if_neg c]
    exact ⟨⟨N, h1⟩, h2⟩
theorem wf_add {T : tr_S} {N : Nat} {k a b v : Int32} (h : wf T N) (h40 : N < 40) (hg : g_rule k a b T) : wf (f_add k a b v T).2 (N + 1) := by
  have e := h.N
  obtain ⟨g1, gB, gC, gD, gE⟩ := hg
  refine ⟨h40, by rw [f_add_4, h.2.1, nI_1], fun j hj => ?_, fun r hr => ?_, fun q hq => ?_⟩
  · obtain ⟨t5, t6, t7, t8, t9, t10⟩ := f_add_r k a b v e j
    by_cases c : j = N
    · rw [if_pos c] at t5 t6 t7 t9
      unfold rl_ok
      rw [t5, t6, t7, t9, c]
      refine ⟨?_, fun w => ?_, fun w => ?_, fun w => ?_, fun w => ?_, ?_, fun w => if_neg w⟩
      · obtain ⟨d, hd, w⟩ := nI_of2 (M := 17) (n := 17) rfl (Int32.not_lt.mpr g1.1) g1.2
        exact ⟨d, hd, w⟩
      · refine ix_of (gC.resolve_left (fun q => ?_)) (by decide) (by decide)
        rcases w with w | w | w
        · exact q.1 w
        · exact q.2.1 w
        · exact q.2.2 w
      · refine ix_of (gD.resolve_left (fun q => ?_)) (by decide) (by decide)
        rcases w with w | w
        · exact q.1 w
        · exact q.2 w
      · refine rule_of h (gB.resolve_left (fun q => ?_))
        rcases w with w | w | w
        · exact q.1 (Or.inl w)
        · exact q.1 (Or.inr w)
        · exact q.2 w
      · have ha : (8 ≤ k ∧ k ≤ 11) ∨ k = 16 := by
          rcases w with w | w | w | w
          · exact asks_of (Or.inl w)
          · exact asks_of (Or.inr (Or.inr (Or.inl w)))
          · exact asks_of (Or.inr (Or.inr (Or.inr (Or.inl w))))
          · exact Or.inr w
        have h9 : ¬ k = 9 := by
          intro w9
          rw [w9] at w
          revert w
          decide
        exact rule_of h ((gE.resolve_left (fun q => q ha)).resolve_left h9)
      · by_cases c6 : k = 6
        · rw [if_pos c6]
          exact h.2.2.2.1 _ (ix_nI (ix_of (gD.resolve_left (fun q => q.1 c6)) (by decide) (by decide) : vp_in a 4) (by decide)).2
        · rw [if_neg c6]
          exact Or.inl rfl
    · rw [if_neg c] at t5 t6 t7 t9
      have := h.2.2.1 j (by omega)
      unfold rl_ok at this ⊢
      rw [t5, t6, t7, t9]
      exact this
  · rw [f_add_A k a b v (by decide) (by decide) (by decide) (by decide) (by decide) (by decide)]
    exact h.2.2.2.1 r hr
  · rw [f_add_A k a b v (by decide) (by decide) (by decide) (by decide) (by decide) (by decide)]
    exact h.2.2.2.2 q hq
theorem r_rule {S : tr_S} (h : r_ok S) (k a b : Int32) : r_ok (a_rule k a b S).2 := by
  have h0 := h
  obtain ⟨⟨N, h1⟩, h2⟩ := h
  by_cases hg : g_rule k a b S
  · rw [a_rule_pos hg]
    by_cases c : S.1 4 = 40
    · rw [if_pos c]; exact h0
    · rw [if_neg c]
      have h40 : N < 40 := by
        have := h1.1
        by_cases w : N = 40
        · exact absurd (by rw [h1.2.1, w]; rfl) c
        · omega
      by_cases c2 : k = 14
      · rw [if_pos c2]
        have hw : wf (ev 40 a b (e_start S)).2 N := (wf_start h1).sm (ev_sm 40 a b (e_start S))
        generalize ev 40 a b (e_start S) = B at hw ⊢
        unfold f_now
        by_cases c3 : B.2.1 16 = 0
        · rw [if_pos c3]
          have hT : wf (f_ends 1 B.2).2 N := by
            rw [f_ends_ok 1 c3]
            exact wf_F hw (by decide)
          have hs : (f_ends 1 B.2).2.1 18 = (f_ends 1 B.2).2.1 19 := (r_ends 1 hw).2
          generalize (f_ends 1 B.2).2 = T at hT hs ⊢
          have hg2 : g_rule k a b T := by
            unfold g_rule at hg ⊢
            rw [hT.2.1, ← h1.2.1]
            exact hg
          exact ⟨⟨N + 1, wf_add hT h40 hg2⟩, by rw [f_add_F k a b B.1 (by decide), f_add_F k a b B.1 (by decide)]; exact hs⟩
        · rw [if_neg c3]
          exact r_ends 1 hw
      · rw [if_neg c2]
        exact ⟨⟨N + 1, wf_add h1 h40 hg⟩, by rw [f_add_F _ _ _ _ (by decide), f_add_F _ _ _ _ (by decide)]; exact h2⟩
  · rw [a_rule_neg hg]
    exact h0
/-! there is always a row that none holds -/
theorem pig : ∀ (n : Nat) (M : List Int32), n < 2 ^ 31 → (∀ q, q < n → nI q ∈ M) → n ≤ M.length
  | 0, M, _, _ => Nat.zero_le _
  | n + 1, M, hn, h => by
    have h1 := h n (by omega)
    have h2 : n ≤ (M.erase (nI n)).length := pig n (M.erase (nI n)) (by omega) (fun q hq => (List.mem_erase_of_ne (fun w => by
      have := (nI_eq (by omega) (by omega)).mp w
      omega)).mpr (h q (by omega)))
    rw [List.length_erase_of_mem h1] at h2
    have h3 : 0 < M.length := List.length_pos_of_mem h1
    omega
theorem new_ex {S : tr_S} {N : Nat} (h : wf S N) : ∃ q, w_new S q := by
  have key : ∃ q, q < 48 ∧ ¬ f_held S (nI q) := by
    refine Classical.byContradiction (fun w => ?_)
    have hall : ∀ q, q < 48 → nI q ∈ (List.range 4).map (S.2 1) ++ (List.range N).map (S.2 9) := by
      intro q hq
      have hh : f_held S (nI q) := Classical.byContradiction (fun z => w ⟨q, hq, z⟩)
      rcases hh with ⟨k, hk, e⟩ | ⟨k, hk, -, e⟩
      · exact List.mem_append_left _ (List.mem_map.mpr ⟨k, List.mem_range.mpr hk, e⟩)
      · rw [h.N] at hk
        exact List.mem_append_right _ (List.mem_map.mpr ⟨k, List.mem_range.mpr hk, e⟩)
    have := pig 48 _ (by decide) hall
    rw [List.length_append, List.length_map, List.length_map, List.length_range, List.length_range] at this
    have := h.1
    omega
  obtain ⟨q, ⟨h1, h2⟩, h3⟩ := pk_least (fun q => q < 48 ∧ ¬ f_held S (nI q)) key
  exact ⟨q, h1, h2, fun j hj => Classical.byContradiction (fun w => h3 j hj ⟨by omega, w⟩)⟩
/-! the class's world looks at what the states share -/
theorem c_W_eq {S T : tr_S} (h : e_eq S T) (o : Nat) (ap : Nat → Nat) (cA cR cU : ClassId) (ρ ra : Nat → Nat) (L : List Nat) (f : Nat → va_E) (z : tr_Z) : c_W o ap cA cR cU ρ ra L f T z = c_W o ap cA cR cU ρ ra L f S z := by
  unfold c_W c_X c_F c_rows c_rules
  rw [h.1 4 (by decide) (by decide), h.1 25 (by decide) (by decide), h.1 18 (by decide) (by decide), h.1 20 (by decide) (by decide), h.1 21 (by decide) (by decide), h.1 22 (by decide) (by decide), h.1 23 (by decide) (by decide), h.1 24 (by decide) (by decide), h.2 0 (by decide), h.2 1 (by decide)]
theorem c_G_eq {S T : tr_S} (h : e_eq S T) {cA : ClassId} {ρ σ ra : Nat → Nat} {L : List Nat} {f : Nat → va_E} (g : c_G cA ρ σ ra L f S) : c_G cA ρ σ ra L f T := by
  unfold c_G c_held c_rule c_row c_items at g ⊢
  rw [h.1 4 (by decide) (by decide), h.2 1 (by decide), h.2 2 (by decide), h.2 3 (by decide), h.2 5 (by decide), h.2 6 (by decide), h.2 7 (by decide), h.2 8 (by decide), h.2 9 (by decide), h.2 10 (by decide)]
  exact g
theorem c_E2_eq {D : va_G} {o : Nat} {ap : Nat → Nat} {cA cR cU : ClassId} {A : Nat → Prop} {S T : tr_S} {z : tr_Z} {U : State} (h : e_eq S T) (g : c_E2 D o ap cA cR cU A (S, z) U) : c_E2 D o ap cA cR cU A (T, z) U := by
  obtain ⟨ρ, σ, ra, L, f, g1, g2, g3, g4⟩ := g
  refine ⟨ρ, σ, ra, L, f, ?_, g2, ?_, c_G_eq h g4⟩
  · show va_P D vwCl (c_W o ap cA cR cU ρ ra L f T z) U.heap
    rw [c_W_eq h]; exact g1
  · show va_D A (c_W o ap cA cR cU ρ ra L f T z)
    rw [c_W_eq h]; exact g3
