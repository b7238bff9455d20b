theorem out_chain {w d : Nat} {S B T E : tr_S} {v : Int32} (h : ∀ m, f_loop (m + d) B = f_loop m T) (o : ev_out w S T v E) : ev_out w S B v E := by
  obtain ⟨d2, U, he, o⟩ := o
  have hc : ∀ m, f_loop (m + (d2 + d + 1)) B = f_loop (m + (d2 + 1)) T := fun m => by rw [← h (m + (d2 + 1))]; congr 1; omega
  refine ⟨d2 + d, U, he, ?_⟩
  rcases o with ⟨a, b, c⟩ | ⟨a, b⟩ | ⟨a, b, c, e⟩
  · exact Or.inl ⟨a, fun m => (hc m).trans (b m), c⟩
  · exact Or.inr (Or.inl ⟨a, fun m => (hc m).trans (b m)⟩)
  · exact Or.inr (Or.inr ⟨a, b, fun m => (hc m).trans (c m), e⟩)
theorem out_below {w : Nat} {S S2 B E : tr_S} {v : Int32} (h : r_below w S S2) (o : ev_out w S2 B v E) : ev_out w S B v E := by
  obtain ⟨d, U, he, o⟩ := o
  refine ⟨d, U, he, ?_⟩
  rcases o with ⟨a, b, c, e, f⟩ | o | ⟨a, b, c, e, f⟩
  · exact Or.inl ⟨a, b, c, e, h.tr f⟩
  · exact Or.inr (Or.inl o)
  · exact Or.inr (Or.inr ⟨a, b, c, h.tr e, f⟩)
theorem out_eq {w : Nat} {S B E E0 : tr_S} {v : Int32} (h : e_eq E0 E) (o : ev_out w S B v E) : ev_out w S B v E0 := by
  obtain ⟨d, U, he, o⟩ := o
  refine ⟨d, U, h.tr he, ?_⟩
  rw [h.1 16 (by decide) (by decide)] at o
  exact o
theorem e_eq.sm {S T : tr_S} (h : e_eq S T) : e_sm S T := ⟨h.1 4 (by decide) (by decide), h.2 1 (by decide), h.2 2 (by decide), h.2 5 (by decide), h.2 6 (by decide), h.2 7 (by decide), h.2 9 (by decide), h.2 3 (by decide), h.2 8 (by decide)⟩
section TURN
variable {S : tr_S} {w k : Nat}
theorem turn_at (h1 : S.1 11 = nI (w + 1)) (hw : w < 64) (hr : S.2 12 w = nI k) (hk : k < 40) : (S.1 11 - 1).toNatClampNeg = w ∧ f_rul S = k := by
  have e : (S.1 11 - 1).toNatClampNeg = w := by rw [h1, nI_pred, nI_clamp (by omega)]
  refine ⟨e, ?_⟩
  unfold f_rul f_top
  rw [e, hr, nI_clamp (by omega)]
theorem turn_leaf (h1 : S.1 11 = nI (w + 1)) (hw : w < 64) (hr : S.2 12 w = nI k) (hk : k < 40) (ha : ¬ ((8 ≤ S.2 5 k ∧ S.2 5 k ≤ 11) ∨ S.2 5 k = 16)) : f_turn S = if (f_given (nI k) (S.2 13 w) S).2.1 16 = 0 then f_pop (sF (f_given (nI k) (S.2 13 w) S).2 26 (f_given (nI k) (S.2 13 w) S).1) else sF (f_given (nI k) (S.2 13 w) S).2 26 (f_given (nI k) (S.2 13 w) S).1 := by
  obtain ⟨e1, e2⟩ := turn_at h1 hw hr hk
  have eL : f_leaf S = sF (f_given (nI k) (S.2 13 w) S).2 26 (f_given (nI k) (S.2 13 w) S).1 := by unfold f_leaf f_top; rw [e1, hr]
  unfold f_turn
  rw [e2, if_neg ha]
  unfold f_turn2
  rw [eL]
  rfl
theorem turn_0 (h1 : S.1 11 = nI (w + 1)) (hw : w < 64) (hr : S.2 12 w = nI k) (hk : k < 40) (ha : (8 ≤ S.2 5 k ∧ S.2 5 k ≤ 11) ∨ S.2 5 k = 16) (hp : S.2 14 w = 0) : f_turn S = (f_begins (S.2 6 k) (S.2 13 w) (sA S 14 w 1)).2 := by
  obtain ⟨e1, e2⟩ := turn_at h1 hw hr hk
  have eG : f_goesOn (S.1 26) S = (0, (f_begins (S.2 6 k) (S.2 13 w) (sA S 14 w 1)).2) := by
    unfold f_goesOn
    rw [e1, hr, nI_clamp (by omega), if_pos hp, hp]
    rfl
  unfold f_turn
  rw [e2, if_pos ha]
  unfold f_turn1
  rw [eG]
  exact if_neg (fun q => q.2 rfl)
theorem turn_1 (h1 : S.1 11 = nI (w + 1)) (hw : w < 64) (hr : S.2 12 w = nI k) (hk : k < 40) (ha : (8 ≤ S.2 5 k ∧ S.2 5 k ≤ 11) ∨ S.2 5 k = 16) (hp : S.2 14 w = 1) (hq : S.2 5 k = 8 ∨ S.2 5 k = 9 ∨ S.2 5 k = 16 ∨ (S.2 5 k = 10 ∧ ¬ S.1 26 = 0)) : f_turn S = (f_begins (if S.2 5 k = 9 then S.2 6 k else S.2 7 k) (if S.2 5 k = 8 ∨ S.2 5 k = 9 then S.1 26 else S.2 13 w) (sA (sA S 14 w 2) 15 w (S.1 26))).2 := by
  obtain ⟨e1, e2⟩ := turn_at h1 hw hr hk
  have eG : f_goesOn (S.1 26) S = (0, (f_begins (if S.2 5 k = 9 then S.2 6 k else S.2 7 k) (if S.2 5 k = 8 ∨ S.2 5 k = 9 then S.1 26 else S.2 13 w) (sA (sA S 14 w 2) 15 w (S.1 26))).2) := by
    unfold f_goesOn
    rw [e1, hr, nI_clamp (by omega), if_neg (by rw [hp]; decide), if_pos ⟨hp, hq⟩, hp]
    rfl
  unfold f_turn
  rw [e2, if_pos ha]
  unfold f_turn1
  rw [eG]
  exact if_neg (fun q => q.2 rfl)
theorem turn_2 (h1 : S.1 11 = nI (w + 1)) (hw : w < 64) (hr : S.2 12 w = nI k) (hk : k < 40) (ha : (8 ≤ S.2 5 k ∧ S.2 5 k ≤ 11) ∨ S.2 5 k = 16) (h0 : S.1 16 = 0) (hp : ¬ S.2 14 w = 0) (hq : ¬ (S.2 14 w = 1 ∧ (S.2 5 k = 8 ∨ S.2 5 k = 9 ∨ S.2 5 k = 16 ∨ (S.2 5 k = 10 ∧ ¬ S.1 26 = 0)))) : f_turn S = f_pop (sF (sA S 14 w (S.2 14 w + 1)) 26 (if S.2 5 k = 10 ∧ S.2 14 w = 1 then S.2 13 w else if S.2 5 k = 16 then (if S.1 26 ≤ S.2 15 w then S.1 26 else S.2 15 w) else S.1 26)) := by
  obtain ⟨e1, e2⟩ := turn_at h1 hw hr hk
  have eG : f_goesOn (S.1 26) S = (1, sF (sA S 14 w (S.2 14 w + 1)) 26 (if S.2 5 k = 10 ∧ S.2 14 w = 1 then S.2 13 w else if S.2 5 k = 16 then (if S.1 26 ≤ S.2 15 w then S.1 26 else S.2 15 w) else S.1 26)) := by
    unfold f_goesOn
    rw [e1, hr, nI_clamp (by omega), if_neg hp, if_neg hq]
  unfold f_turn
  rw [e2, if_pos ha]
  unfold f_turn1
  rw [eG]
  exact if_pos ⟨h0, fun q : (1 : Int32) = 0 => absurd q (by decide)⟩
/-- the top's own end -/
theorem out_fin {v : Int32} (h1 : S.1 11 = nI (w + 1)) (hw : w < 64) (hr : S.2 12 w = nI k) (hk : k < 40) (ha : (8 ≤ S.2 5 k ∧ S.2 5 k ≤ 11) ∨ S.2 5 k = 16) (h0 : S.1 16 = 0) (hp : ¬ S.2 14 w = 0) (hq : ¬ (S.2 14 w = 1 ∧ (S.2 5 k = 8 ∨ S.2 5 k = 9 ∨ S.2 5 k = 16 ∨ (S.2 5 k = 10 ∧ ¬ S.1 26 = 0)))) (hv : v = (if S.2 5 k = 10 ∧ S.2 14 w = 1 then S.2 13 w else if S.2 5 k = 16 then (if S.1 26 ≤ S.2 15 w then S.1 26 else S.2 15 w) else S.1 26)) : ev_out w S S v S := by
  refine ⟨0, _, ?_, Or.inl ⟨h0, fun m => (loop_turn m h1 hw h0).trans (congrArg (f_loop m) (turn_2 h1 hw hr hk ha h0 hp hq)), ?_, hv.symm, ?_⟩⟩
  · exact e_eq_lF (e_eq_lF (e_eq_lA (e_eq.rf S) (by decide) _ _) (Or.inr rfl) _) (Or.inl rfl) _
  · show S.1 11 - 1 = nI w
    rw [h1, nI_pred]
  · exact r_below_sA (S := S) 14 w (S.2 14 w + 1) (Nat.le_refl w)
end TURN
/-- from above the top's frame (its second rule asked, or its other way) to below it -/
theorem out_lift {w k : Nat} {C D E : tr_S} {v u : Int32} (hw : w < 64) (hk : k < 40) (hr : C.2 12 w = nI k) (hp : C.2 14 w = 2) (hh : C.2 15 w = u) (ha : (8 ≤ E.2 5 k ∧ E.2 5 k ≤ 11) ∨ E.2 5 k = 16) (o : ev_out (w + 1) C D v E) : ev_out w C D (if E.2 5 k = 16 then (if v ≤ u then v else u) else v) E := by
  obtain ⟨d, T, he, o⟩ := o
  have e5 : T.2 5 = E.2 5 := he.2 5 (by decide)
  have e16 : T.1 16 = E.1 16 := he.1 16 (by decide) (by decide)
  rcases o with ⟨a, b, c, e, f⟩ | ⟨a, b⟩ | ⟨a, b, c, e, w2, h2, h3, h4, h5⟩
  · obtain ⟨f1, f2, f3, f4⟩ := f w (by omega)
    have hp2 : T.2 14 w = 2 := f3.trans hp
    refine out_chain b (out_eq he (out_below (f.le (by omega)) (out_fin c hw (f1.trans hr) hk (by rw [e5]; exact ha) (e16.trans a) (by rw [hp2]; decide) (fun q => absurd (hp2.symm.trans q.1) (by decide)) ?_)))
    rw [e5, e, f4, hh, if_neg (c := E.2 5 k = 10 ∧ T.2 14 w = 1) (fun q => absurd (hp2.symm.trans q.2) (by decide))]
  · exact ⟨d, T, he, Or.inr (Or.inl ⟨a, b⟩)⟩
  · refine ⟨d, T, he, Or.inr (Or.inr ⟨a, b, c, e.le (by omega), w2, by omega, h3, h4, fun t t1 t2 => ?_⟩)⟩
    by_cases ht : t = w
    · subst ht
      obtain ⟨f1, f2, f3, f4⟩ := e t (by omega)
      exact fun q => absurd ((f3.trans hp).symm.trans q.2.2) (by decide)
    · exact h5 t (by omega) t2
theorem j_after {C E T : tr_S} {v N : Nat} (hj : j_st C v N) (hs : e_st C E) (he : e_eq E T) (h11 : T.1 11 = nI v) (hb : r_below v C T) : j_st T v N := by
  obtain ⟨j1, ⟨st, j2, j3, j4⟩, j5⟩ := hj
  obtain ⟨s2, a1, a2, a3⟩ := hs st j2 j4
  exact ⟨h11, ⟨s2, a2, by omega, (he.1 18 (by decide) (by decide)).trans a3⟩, fun t ht => by rw [(hb t ht).1]; exact j5 t ht⟩
/-- a rule is begun above what waits -/
theorem sub_run {n N : Nat} (IH : ∀ (k : Nat) (x : Int32) (S : tr_S) (w : Nat), k < n → k < N → wf S N → j_st S w N → S.1 16 = 0 → ¬ S.1 18 = 64 → ev_out w S (f_push (nI k) x (f_tick S)) (ev n (nI k) x S).1 (ev n (nI k) x S).2) {kb w : Nat} {y : Int32} {C : tr_S} (hb : kb < n) (hbN : kb < N) (hN : wf C N) (hj : j_st C w N) (h0 : C.1 16 = 0) : ev_out w C (f_begins (nI kb) y C).2 (ev n (nI kb) y C).1 (ev n (nI kb) y C).2 := by
  by_cases hs : C.1 18 = 64
  · have e1 : f_begins (nI kb) y C = (0, f_fails 5 (nI kb) C) := if_pos hs
    have e2 : ev n (nI kb) y C = (0, f_fails 5 (nI kb) C) := by
      cases n with
      | zero => omega
      | succ n => exact if_pos hs
    rw [e1, e2]
    obtain ⟨st, j2, j3, j4⟩ := hj.2.1
    exact ⟨0, _, e_eq_lF (e_eq.rf _) (Or.inl rfl) _, Or.inr (Or.inl ⟨rfl, fun m => loop_spent m (S := f_fails 5 (nI kb) C) hj.1 (by omega) rfl⟩)⟩
  · have e1 : f_begins (nI kb) y C = (1, f_push (nI kb) y (f_tick C)) := if_neg hs
    rw [e1]
    exact IH kb y C w hb hbN hN hj h0 hs
