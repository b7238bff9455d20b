/-! applying a rule, as a function -/
def ev_min (u : Int32) (q : Int32 × tr_S) : Int32 × tr_S := (if q.1 ≤ u then q.1 else u, q.2)
def ev_then (g : Int32 → Int32 → tr_S → Int32 × tr_S) (k a b x : Int32) (q : Int32 × tr_S) : Int32 × tr_S :=
  if q.2.1 16 = 0 then
    (if k = 8 then g b q.1 q.2 else if k = 9 then g a q.1 q.2 else if k = 10 then (if q.1 = 0 then (x, q.2) else g b x q.2) else if k = 16 then ev_min q.1 (g b x q.2) else q)
  else if k = 11 ∧ ¬ q.2.1 16 = 5 then g b x (sF (sF q.2 16 0) 24 (q.2.1 24 + 1)) else (0, q.2)
def ev_step (g : Int32 → Int32 → tr_S → Int32 × tr_S) (r x : Int32) (S : tr_S) : Int32 × tr_S :=
  if S.1 18 = 64 then (0, f_fails 5 r S)
  else if (8 ≤ S.2 5 r.toNatClampNeg ∧ S.2 5 r.toNatClampNeg ≤ 11) ∨ S.2 5 r.toNatClampNeg = 16 then
    ev_then g (S.2 5 r.toNatClampNeg) (S.2 6 r.toNatClampNeg) (S.2 7 r.toNatClampNeg) x (g (S.2 6 r.toNatClampNeg) x (f_tick S))
  else f_given r x (f_tick S)
def ev : Nat → Int32 → Int32 → tr_S → Int32 × tr_S
  | 0 => fun r _ S => (0, f_fails 5 r S)
  | n + 1 => ev_step (ev n)
theorem ev_s (n : Nat) (r x : Int32) (S : tr_S) : ev (n + 1) r x S = ev_step (ev n) r x S := rfl
/-- what each step keeps, applying keeps -/
theorem ev_ind {R : tr_S → tr_S → Prop} (tr : ∀ {S T U}, R S T → R T U → R S U) (rf : ∀ S, R S S) (tick : ∀ S, ¬ S.1 18 = 64 → R S (f_tick S)) (giv : ∀ r x S, R S (f_given r x S).2) (fl : ∀ r S, R S (f_fails 5 r S)) (el : ∀ S, R S (sF (sF S 16 0) 24 (S.1 24 + 1))) : ∀ (n : Nat) (r x : Int32) (S : tr_S), R S (ev n r x S).2
  | 0, r, x, S => fl r S
  | n + 1, r, x, S => by
    rw [ev_s]
    unfold ev_step
    by_cases h1 : S.1 18 = 64
    · rw [if_pos h1]; exact fl r S
    · rw [if_neg h1]
      refine ite_P (P := fun q : Int32 × tr_S => R S q.2) ?_ (tr (tick S h1) (giv r x _))
      have ih := ev_ind (R := R) tr rf tick giv fl el n
      generalize S.2 6 r.toNatClampNeg = a
      generalize S.2 7 r.toNatClampNeg = b
      generalize S.2 5 r.toNatClampNeg = k
      have hq : R S (ev n a x (f_tick S)).2 := tr (tick S h1) (ih a x _)
      generalize ev n a x (f_tick S) = q at hq
      unfold ev_then
      exact ite_P (P := fun q : Int32 × tr_S => R S q.2) (ite_P (P := fun q : Int32 × tr_S => R S q.2) (tr hq (ih _ _ _)) (ite_P (P := fun q : Int32 × tr_S => R S q.2) (tr hq (ih _ _ _)) (ite_P (P := fun q : Int32 × tr_S => R S q.2) (ite_P (P := fun q : Int32 × tr_S => R S q.2) hq (tr hq (ih _ _ _))) (ite_P (P := fun q : Int32 × tr_S => R S q.2) (tr hq (ih _ _ _)) hq)))) (ite_P (P := fun q : Int32 × tr_S => R S q.2) (tr (tr hq (el _)) (ih _ _ _)) hq)
theorem ev_sm (n : Nat) (r x : Int32) (S : tr_S) : e_sm S (ev n r x S).2 :=
  ev_ind (R := e_sm) e_sm.tr e_sm.rf (fun _ _ => ⟨rfl, rfl, rfl, rfl, rfl, rfl, rfl, rfl, rfl⟩) (fun r x S => (f_given_sm r x S).1) (fun _ _ => ⟨rfl, rfl, rfl, rfl, rfl, rfl, rfl, rfl, rfl⟩) (fun _ => ⟨rfl, rfl, rfl, rfl, rfl, rfl, rfl, rfl, rfl⟩) n r x S
def e_pos (S : tr_S) : Prop := S.1 16 = 0 ∨ 0 < S.1 16
theorem ev_pos (n : Nat) (r x : Int32) (S : tr_S) (h : e_pos S) : e_pos (ev n r x S).2 :=
  ev_ind (R := fun S T => e_pos S → e_pos T) (fun f g h => g (f h)) (fun _ h => h) (fun _ _ h => h) (fun r x S h => f_given_P (P := fun q => e_pos q.2) (fun _ => h) (fun _ _ ha _ => Or.inr ha) (fun _ _ _ => h) (fun _ _ _ => h)) (fun _ _ _ => Or.inr (by show (0 : Int32) < 5; decide)) (fun _ _ => Or.inl rfl) n r x S h
def e_le (S : tr_S) : Prop := 0 ≤ S.1 16 ∧ S.1 16 ≤ 5
theorem ev_le (n : Nat) (r x : Int32) (S : tr_S) (h : e_le S) : e_le (ev n r x S).2 :=
  ev_ind (R := fun S T => e_le S → e_le T) (fun f g h => g (f h)) (fun _ h => h) (fun _ _ h => h) (fun r x S h => f_given_P (P := fun q => e_le q.2) (fun _ => h) (fun _ _ ha hb => ⟨Int32.le_of_lt ha, hb⟩) (fun _ _ _ => h) (fun _ _ _ => h)) (fun _ _ _ => ⟨by show (0 : Int32) ≤ 5; decide, by show (5 : Int32) ≤ 5; decide⟩) (fun _ _ => ⟨by show (0 : Int32) ≤ 0; decide, by show (0 : Int32) ≤ 5; decide⟩) n r x S h
def e_st (S T : tr_S) : Prop := ∀ st : Nat, st ≤ 64 → S.1 18 = nI st → ∃ st2 : Nat, st ≤ st2 ∧ st2 ≤ 64 ∧ T.1 18 = nI st2
theorem ev_st (n : Nat) (r x : Int32) (S : tr_S) : e_st S (ev n r x S).2 := by
  refine ev_ind (R := e_st) (fun f g st h1 h2 => ?_) (fun _ st h1 h2 => ⟨st, Nat.le_refl _, h1, h2⟩) (fun S hs st h1 h2 => ⟨st + 1, by omega, ?_, ?_⟩) (fun r x S st h1 h2 => ⟨st, Nat.le_refl _, h1, by rw [(f_given_sm r x S).2.2.1]; exact h2⟩) (fun _ _ st h1 h2 => ⟨st, Nat.le_refl _, h1, h2⟩) (fun _ st h1 h2 => ⟨st, Nat.le_refl _, h1, h2⟩) n r x S
  · obtain ⟨s1, a1, a2, a3⟩ := f st h1 h2
    obtain ⟨s2, b1, b2, b3⟩ := g s1 a2 a3
    exact ⟨s2, by omega, b2, b3⟩
  · have : st ≠ 64 := fun q => hs (by rw [h2, q]; rfl)
    omega
  · show S.1 18 + 1 = nI (st + 1)
    rw [h2, nI_1]
/-! two states that differ in the reference's own scratch alone -/
def e_eq (S T : tr_S) : Prop := (∀ k, k ≠ 11 → k ≠ 26 → T.1 k = S.1 k) ∧ ∀ k, k < 12 → T.2 k = S.2 k
theorem e_eq.rf (S : tr_S) : e_eq S S := ⟨fun _ _ _ => rfl, fun _ _ => rfl⟩
theorem e_eq.tr {S T U : tr_S} (h : e_eq S T) (g : e_eq T U) : e_eq S U := ⟨fun k a b => (g.1 k a b).trans (h.1 k a b), fun k a => (g.2 k a).trans (h.2 k a)⟩
theorem e_eq_F {S T : tr_S} (h : e_eq S T) (k : Nat) {v u : Int32} (e : u = v) : e_eq (sF S k v) (sF T k u) := by
  refine ⟨fun j a b => ?_, h.2⟩
  rw [sF_F, sF_F, e, h.1 j a b]
theorem e_eq_A {S T : tr_S} (h : e_eq S T) (k i : Nat) {v u : Int32} (hk : k < 12) (e : u = v) : e_eq (sA S k i v) (sA T k i u) := by
  refine ⟨h.1, fun q a => ?_⟩
  funext j
  rw [sA_A, sA_A, e, h.2 q a, h.2 k hk]
theorem e_eq_lF {S T : tr_S} (h : e_eq S T) {k : Nat} (hk : k = 11 ∨ k = 26) (v : Int32) : e_eq S (sF T k v) := by
  refine ⟨fun j a b => ?_, h.2⟩
  rw [sF_F, if_neg (by omega), h.1 j a b]
theorem e_eq_lA {S T : tr_S} (h : e_eq S T) {k : Nat} (hk : 12 ≤ k) (i : Nat) (v : Int32) : e_eq S (sA T k i v) := by
  refine ⟨h.1, fun q a => ?_⟩
  funext j
  rw [sA_A, if_neg (by omega), h.2 q a]
theorem e_eq_fails {S T : tr_S} (h : e_eq S T) (a r : Int32) : e_eq (f_fails a r S) (f_fails a r T) := e_eq_F (e_eq_F h 16 rfl) 17 rfl
theorem e_eq_tick {S T : tr_S} (h : e_eq S T) : e_eq (f_tick S) (f_tick T) := by
  unfold f_tick
  exact e_eq_F (e_eq_F h 18 (by rw [h.1 18 (by decide) (by decide)])) 20 (by rw [h.1 20 (by decide) (by decide)])
theorem ite_R {α β : Type} {c : Prop} [Decidable c] {R : α → β → Prop} {a b : α} {a' b' : β} (ha : R a a') (hb : R b b') : R (if c then a else b) (if c then a' else b') := by
  by_cases h : c
  · rw [if_pos h, if_pos h]; exact ha
  · rw [if_neg h, if_neg h]; exact hb
def e_R (p q : Int32 × tr_S) : Prop := q.1 = p.1 ∧ e_eq p.2 q.2
theorem f_itemAt_eq {S T : tr_S} (h : e_eq S T) (a i r : Int32) : e_R (f_itemAt a i r S) (f_itemAt a i r T) := by
  unfold f_itemAt
  rw [h.2 2 (by decide), h.2 3 (by decide)]
  exact ite_R (R := e_R) (ite_R (R := e_R) ⟨rfl, h⟩ ⟨rfl, e_eq_fails h _ _⟩) ⟨rfl, e_eq_fails h _ _⟩
theorem f_given_eq {S T : tr_S} (h : e_eq S T) (r x : Int32) : e_R (f_given r x S) (f_given r x T) := by
  have hF : ∀ v a, e_R (v, f_fails a r S) (v, f_fails a r T) := fun v a => ⟨rfl, e_eq_fails h _ _⟩
  have h0 : ∀ v, e_R (v, S) (v, T) := fun v => ⟨rfl, h⟩
  unfold f_given
  rw [h.2 0 (by decide), h.2 1 (by decide), h.2 5 (by decide), h.2 6 (by decide), h.2 8 (by decide), h.2 9 (by decide), h.2 10 (by decide)]
  exact ite_R (R := e_R) (h0 _) (ite_R (R := e_R) (h0 _) (ite_R (R := e_R) (ite_R (R := e_R) (hF _ _) (h0 _)) (ite_R (R := e_R) (ite_R (R := e_R) (hF _ _) (h0 _)) (ite_R (R := e_R) (h0 _) (ite_R (R := e_R) (h0 _) (ite_R (R := e_R) (f_itemAt_eq h _ _ _) (ite_R (R := e_R) (f_itemAt_eq h _ _ _) (ite_R (R := e_R) ⟨rfl, e_eq_A h 0 _ (by decide) rfl⟩ (ite_R (R := e_R) ⟨rfl, e_eq_A h 10 _ (by decide) rfl⟩ (ite_R (R := e_R) (h0 _) (ite_R (R := e_R) (ite_R (R := e_R) (h0 _) (hF _ _)) (hF _ _))))))))))))
theorem ev_eq : ∀ (n : Nat) (r x : Int32) {S T : tr_S}, e_eq S T → e_R (ev n r x S) (ev n r x T)
  | 0, r, x, S, T, h => ⟨rfl, e_eq_fails h _ _⟩
  | n + 1, r, x, S, T, h => by
    rw [ev_s, ev_s]
    unfold ev_step
    rw [h.1 18 (by decide) (by decide), h.2 5 (by decide), h.2 6 (by decide), h.2 7 (by decide)]
    refine ite_R (R := e_R) ⟨rfl, e_eq_fails h _ _⟩ (ite_R (R := e_R) ?_ (f_given_eq (e_eq_tick h) r x))
    have ih := fun (a x : Int32) {S T : tr_S} (h : e_eq S T) => ev_eq n a x h
    generalize S.2 6 r.toNatClampNeg = a
    generalize S.2 7 r.toNatClampNeg = b
    generalize S.2 5 r.toNatClampNeg = k
    have hq := ih a x (e_eq_tick h)
    generalize ev n a x (f_tick S) = q at hq
    generalize ev n a x (f_tick T) = q' at hq
    obtain ⟨v, U⟩ := q
    obtain ⟨v', U'⟩ := q'
    obtain ⟨rfl, hu⟩ := hq
    have hu : e_eq U U' := hu
    unfold ev_then
    show e_R (if U.1 16 = 0 then _ else _) (if U'.1 16 = 0 then _ else _)
    rw [hu.1 16 (by decide) (by decide), hu.1 24 (by decide) (by decide)]
    refine ite_R (R := e_R) (ite_R (R := e_R) (ih _ _ hu) (ite_R (R := e_R) (ih _ _ hu) (ite_R (R := e_R) (ite_R (R := e_R) ⟨rfl, hu⟩ (ih _ _ hu)) (ite_R (R := e_R) ?_ ⟨rfl, hu⟩)))) (ite_R (R := e_R) (ih _ _ (e_eq_F (e_eq_F hu 16 rfl) 24 rfl)) ⟨rfl, hu⟩)
    obtain ⟨e1, e2⟩ := ih b x hu
    exact ⟨by show (if _ then _ else _) = (if _ then _ else _); rw [e1], e2⟩
theorem sF_self {S : tr_S} {k : Nat} {v : Int32} (h : S.1 k = v) : sF S k v = S := by
  unfold sF
  refine Prod.ext ?_ rfl
  funext j
  show upd S.1 k v j = S.1 j
  unfold upd
  by_cases q : j = k
  · rw [if_pos q, q, h]
  · rw [if_neg q]
theorem sF_sF (S : tr_S) (k : Nat) (v u : Int32) : sF (sF S k v) k u = sF S k u := by
  unfold sF
  refine Prod.ext ?_ rfl
  funext j
  show upd (upd S.1 k v) k u j = upd S.1 k u j
  unfold upd
  by_cases q : j = k
  · rw [if_pos q, if_pos q]
  · rw [if_neg q, if_neg q, if_neg q]
/-! the reference's loop does what ev says -/
def r_dead (S : tr_S) (v w : Nat) : Prop := ∀ t, v ≤ t → t < w → ¬ (¬ S.1 16 = 5 ∧ S.2 5 (S.2 12 t).toNatClampNeg = 11 ∧ S.2 14 t = 1)
theorem rec_pop : ∀ (j n : Nat) (S : tr_S) (v : Nat), S.1 11 = nI (v + j) → v + j ≤ 64 → r_dead S v (v + j) → f_rec (n + j) S = f_rec n (sF S 11 (nI v))
  | 0, n, S, v, h1, _, _ => by rw [sF_self (show S.1 11 = nI v from h1)]; rfl
  | j + 1, n, S, v, h1, h2, h3 => by
    have et : f_top S = v + j := by
      unfold f_top
      rw [h1, show v + (j + 1) = v + j + 1 by omega, nI_pred, nI_clamp (by omega)]
    have c6 : ¬ S.1 11 ≤ 0 := by rw [h1]; exact nI_nle (by omega) (by omega)
    have e : f_rec (n + j + 1) S = f_rec (n + j) (f_pop S) := by
      conv => lhs; unfold f_rec
      rw [if_neg c6, if_neg (by unfold f_rul; rw [et]; exact h3 (v + j) (by omega) (by omega))]
    have ep : (f_pop S).1 11 = nI (v + j) := by
      show S.1 11 - 1 = _
      rw [h1, show v + (j + 1) = v + j + 1 by omega, nI_pred]
    rw [show n + (j + 1) = n + j + 1 by omega, e, rec_pop j n (f_pop S) v ep (by omega) (fun t a b => h3 t a (by omega))]
    unfold f_pop
    rw [sF_sF]
theorem rec_nil (n : Nat) (S : tr_S) (h : S.1 11 ≤ 0) : f_rec n S = S := by
  cases n with
  | zero => rfl
  | succ n => unfold f_rec; rw [if_pos h]
/-- refused for want of steps: all that waits goes -/
theorem rec_spent {S : tr_S} {w : Nat} (h1 : S.1 11 = nI w) (hw : w ≤ 64) (h5 : S.1 16 = 5) : f_rec 140 S = sF S 11 (nI 0) := by
  have h := rec_pop w (140 - w) S 0 (by rw [h1, Nat.zero_add]) (by omega) (fun t _ _ q => q.1 h5)
  rw [show 140 - w + w = 140 by omega] at h
  rw [h, rec_nil]
  show (nI 0 : Int32) ≤ 0
  exact nI_0 ▸ Int32.le_refl _
theorem loop_turn {S : tr_S} {w : Nat} (m : Nat) (h1 : S.1 11 = nI (w + 1)) (hw : w < 64) (h0 : S.1 16 = 0) : f_loop (m + 1) S = f_loop m (f_turn S) := by
  conv => lhs; unfold f_loop
  have hp : 0 < S.1 11 := by rw [h1]; exact nI_0 ▸ nI_lt (by omega) (by omega)
  rw [if_neg (fun q => q.1 hp), if_pos (by rw [h0]; exact Int32.le_refl _)]
theorem loop_fail {S : tr_S} (m : Nat) (h0 : 0 < S.1 16) : f_loop (m + 1) S = if (f_rec 140 S).1 16 ≤ 0 then f_loop m (f_turn (f_rec 140 S)) else some (0, f_rec 140 S) := by
  conv => lhs; unfold f_loop
  rw [if_neg (fun q => absurd q.2 (Int32.not_le.mpr h0)), if_neg (Int32.not_le.mpr h0)]
theorem loop_spent {S : tr_S} {w : Nat} (m : Nat) (h1 : S.1 11 = nI w) (hw : w ≤ 64) (h5 : S.1 16 = 5) : f_loop (m + 1) S = some (0, sF S 11 (nI 0)) := by
  rw [loop_fail m (by rw [h5]; decide), rec_spent h1 hw h5, if_neg]
  show ¬ S.1 16 ≤ 0
  rw [h5]; decide
def r_below (w : Nat) (S T : tr_S) : Prop := ∀ t, t < w → T.2 12 t = S.2 12 t ∧ T.2 13 t = S.2 13 t ∧ T.2 14 t = S.2 14 t ∧ T.2 15 t = S.2 15 t
theorem r_below.tr {w : Nat} {S T U : tr_S} (h : r_below w S T) (g : r_below w T U) : r_below w S U := fun t ht => by
  obtain ⟨a1, a2, a3, a4⟩ := h t ht
  obtain ⟨b1, b2, b3, b4⟩ := g t ht
  exact ⟨b1.trans a1, b2.trans a2, b3.trans a3, b4.trans a4⟩
theorem r_below.le {w v : Nat} {S T : tr_S} (h : r_below w S T) (hv : v ≤ w) : r_below v S T := fun t ht => h t (by omega)
theorem r_below_sA {w : Nat} {S : tr_S} (k i : Nat) (v : Int32) (hi : w ≤ i) : r_below w S (sA S k i v) := fun t ht => by
  have hne : t ≠ i := by omega
  refine ⟨?_, ?_, ?_, ?_⟩
  all_goals
    rw [sA_A]
    split
    · rename_i h
      rw [← h]
    · rfl
def ev_out (w : Nat) (S B : tr_S) (v : Int32) (E : tr_S) : Prop :=
  ∃ (d : Nat) (T : tr_S), e_eq E T ∧ (
    (E.1 16 = 0 ∧ (∀ m, f_loop (m + (d + 1)) B = f_loop m T) ∧ T.1 11 = nI w ∧ T.1 26 = v ∧ r_below w S T) ∨
    (E.1 16 = 5 ∧ ∀ m, f_loop (m + (d + 1)) B = some (0, T)) ∨
    (¬ E.1 16 = 0 ∧ ¬ E.1 16 = 5 ∧ (∀ m, f_loop (m + (d + 1)) B = f_loop m T) ∧ r_below w S T ∧ ∃ w2, w ≤ w2 ∧ w2 ≤ 64 ∧ T.1 11 = nI w2 ∧ r_dead T w w2))
