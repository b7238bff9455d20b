/-- a frame that was just begun -/
theorem push_at {S : tr_S} {w : Nat} (r x : Int32) (h1 : S.1 11 = nI w) (hw : w < 64) : (f_push r x S).1 11 = nI (w + 1) ∧ (f_push r x S).2 12 w = r ∧ (f_push r x S).2 13 w = x ∧ (f_push r x S).2 14 w = 0 ∧ r_below w S (f_push r x S) ∧ e_eq S (f_push r x S) := by
  have ew : (S.1 11).toNatClampNeg = w := by rw [h1, nI_clamp (by omega)]
  unfold f_push
  rw [ew]
  refine ⟨?_, ?_, ?_, ?_, ?_, ?_⟩
  · show S.1 11 + 1 = _
    rw [h1, nI_1]
  · show upd (S.2 12) w r w = r
    exact if_pos rfl
  · show upd (S.2 13) w x w = x
    exact if_pos rfl
  · show upd (S.2 14) w 0 w = 0
    exact if_pos rfl
  · exact fun t ht => (((r_below_sA (S := S) 12 w r (Nat.le_refl w)).tr (r_below_sA (S := sA S 12 w r) 13 w x (Nat.le_refl w))).tr (r_below_sA (S := sA (sA S 12 w r) 13 w x) 14 w 0 (Nat.le_refl w))) t ht
  · exact e_eq_lF (e_eq_lA (e_eq_lA (e_eq_lA (e_eq.rf S) (by decide) _ _) (by decide) _ _) (by decide) _ _) (Or.inl rfl) _
theorem f_given_15 (r x : Int32) (S : tr_S) (h : S.1 16 = 0) : ¬ (f_given r x S).2.1 16 = 5 := by
  have h0 : ∀ v : Int32, ¬ ((v, S) : Int32 × tr_S).2.1 16 = 5 := fun v q => absurd (h.symm.trans q) (by decide)
  have hI : ∀ a, ¬ (f_itemAt a x r S).2.1 16 = 5 := by
    intro a
    unfold f_itemAt
    exact ite_P (P := fun q : Int32 × tr_S => ¬ q.2.1 16 = 5) (ite_P (P := fun q : Int32 × tr_S => ¬ q.2.1 16 = 5) (h0 _) (by show ¬ (2 : Int32) = 5; decide)) (by show ¬ (3 : Int32) = 5; decide)
  have k1 : ¬ (1 : Int32) = 5 := by decide
  have k3 : ¬ (3 : Int32) = 5 := by decide
  have k4 : ¬ (4 : Int32) = 5 := by decide
  have hs : ¬ S.1 16 = 5 := fun q => absurd (h.symm.trans q) (by decide)
  unfold f_given
  exact ite_P (P := fun q : Int32 × tr_S => ¬ q.2.1 16 = 5) hs (ite_P (P := fun q : Int32 × tr_S => ¬ q.2.1 16 = 5) hs (ite_P (P := fun q : Int32 × tr_S => ¬ q.2.1 16 = 5) (ite_P (P := fun q : Int32 × tr_S => ¬ q.2.1 16 = 5) k1 hs) (ite_P (P := fun q : Int32 × tr_S => ¬ q.2.1 16 = 5) (ite_P (P := fun q : Int32 × tr_S => ¬ q.2.1 16 = 5) k1 hs) (ite_P (P := fun q : Int32 × tr_S => ¬ q.2.1 16 = 5) hs (ite_P (P := fun q : Int32 × tr_S => ¬ q.2.1 16 = 5) hs (ite_P (P := fun q : Int32 × tr_S => ¬ q.2.1 16 = 5) (hI _) (ite_P (P := fun q : Int32 × tr_S => ¬ q.2.1 16 = 5) (hI _) (ite_P (P := fun q : Int32 × tr_S => ¬ q.2.1 16 = 5) hs (ite_P (P := fun q : Int32 × tr_S => ¬ q.2.1 16 = 5) hs (ite_P (P := fun q : Int32 × tr_S => ¬ q.2.1 16 = 5) hs (ite_P (P := fun q : Int32 × tr_S => ¬ q.2.1 16 = 5) (ite_P (P := fun q : Int32 × tr_S => ¬ q.2.1 16 = 5) hs k4) k3)))))))))))
theorem f_given_st (r x : Int32) (S : tr_S) : (f_given r x S).2.1 11 = S.1 11 ∧ ∀ a, (a = 12 ∨ a = 13 ∨ a = 14 ∨ a = 15) → (f_given r x S).2.2 a = S.2 a := by
  refine f_given_P (P := fun q => q.2.1 11 = S.1 11 ∧ ∀ a, (a = 12 ∨ a = 13 ∨ a = 14 ∨ a = 15) → q.2.2 a = S.2 a) (fun _ => ⟨rfl, fun _ _ => rfl⟩) (fun _ _ _ _ => ⟨rfl, fun _ _ => rfl⟩) (fun _ i u => ⟨rfl, fun a h => ?_⟩) (fun _ i u => ⟨rfl, fun a h => ?_⟩)
  · rcases h with rfl | rfl | rfl | rfl <;> rfl
  · rcases h with rfl | rfl | rfl | rfl <;> rfl
theorem asks_of {k : Int32} (h : k = 8 ∨ k = 9 ∨ k = 10 ∨ k = 11 ∨ k = 16) : (8 ≤ k ∧ k ≤ 11) ∨ k = 16 := by
  rcases h with rfl | rfl | rfl | rfl | rfl <;> decide
theorem asks_to {S : tr_S} {n k : Nat} (h : wf S n) (hk : k < n) (ha : (8 ≤ S.2 5 k ∧ S.2 5 k ≤ 11) ∨ S.2 5 k = 16) : S.2 5 k = 8 ∨ S.2 5 k = 9 ∨ S.2 5 k = 10 ∨ S.2 5 k = 11 ∨ S.2 5 k = 16 := by
  obtain ⟨d, hd, e⟩ := (h.2.2.1 k hk).1
  rw [e] at ha ⊢
  have key : ∀ d, d < 18 → ((8 ≤ nI d ∧ nI d ≤ 11) ∨ nI d = 16) → (nI d = 8 ∨ nI d = 9 ∨ nI d = 10 ∨ nI d = 11 ∨ nI d = 16) := by decide +kernel
  exact key d (by omega) ha
set_option maxHeartbeats 1000000 in
theorem ev_run (N : Nat) : ∀ (n k : Nat) (x : Int32) (S : tr_S) (w : Nat), k < n → k < N → wf S N → j_st S w N → S.1 16 = 0 → ¬ S.1 18 = 64 → ev_out w S (f_push (nI k) x (f_tick S)) (ev n (nI k) x S).1 (ev n (nI k) x S).2
  | 0, k, x, S, w, h, _, _, _, _, _ => by omega
  | n + 1, k, x, S, w, hkn, hkN, hN, hj, h0, hs => by
    have IH := ev_run N n
    have hN40 := hN.1
    have hk40 : k < 40 := by omega
    have ek : (nI k).toNatClampNeg = k := nI_clamp (by omega)
    obtain ⟨st, hst1, hst2, hst3⟩ := hj.2.1
    have hst : st ≠ 64 := fun q => hs (by rw [hst3, q]; rfl)
    have hw : w < 64 := by omega
    have hj1 : (f_tick S).1 11 = nI w := hj.1
    obtain ⟨b1, b2, b3, b4, b5, b6⟩ := push_at (nI k) x hj1 hw
    have hjB : j_st (f_push (nI k) x (f_tick S)) (w + 1) N := by
      rcases j_begins hj (r := nI k) (x := x) ⟨k, hkN, rfl⟩ with ⟨q, -, -⟩ | ⟨-, e, jb⟩
      · exact absurd q hs
      · rw [e] at jb; exact jb
    have hNB : wf (f_push (nI k) x (f_tick S)) N := hN.sm (e_sm.tr ⟨rfl, rfl, rfl, rfl, rfl, rfl, rfl, rfl, rfl⟩ b6.sm)
    have hB0 : (f_push (nI k) x (f_tick S)).1 16 = 0 := h0
    have bS : r_below w S (f_push (nI k) x (f_tick S)) := b5
    have hB5 : (f_push (nI k) x (f_tick S)).2 5 = S.2 5 := rfl
    have hB6 : (f_push (nI k) x (f_tick S)).2 6 = S.2 6 := rfl
    rw [ev_s]
    unfold ev_step
    rw [if_neg hs, ek]
    generalize hB : f_push (nI k) x (f_tick S) = B at b1 b2 b3 b4 b5 b6 hjB hNB hB0 bS hB5 hB6 ⊢
    by_cases ha : (8 ≤ S.2 5 k ∧ S.2 5 k ≤ 11) ∨ S.2 5 k = 16
    · rw [if_pos ha]
      have haB : (8 ≤ B.2 5 k ∧ B.2 5 k ≤ 11) ∨ B.2 5 k = 16 := by rw [hB5]; exact ha
      obtain ⟨ka, hka, eka⟩ := (hN.2.2.1 k hkN).2.2.2.1 (ha.elim Or.inl (fun z => Or.inr (Or.inl z)))
      have stp : ∀ m, f_loop (m + 1) B = f_loop m (f_begins (nI ka) x (sA B 14 w 1)).2 := fun m => by
        rw [loop_turn m b1 hw hB0, turn_0 b1 hw b2 hk40 haB b4, hB6, eka, b3]
      have hC : e_eq (f_tick S) (sA B 14 w 1) := e_eq_lA b6 (by decide) _ _
      have hNC : wf (sA B 14 w 1) N := hNB.sm (e_eq_lA (e_eq.rf B) (by decide) _ _).sm
      have hjC : j_st (sA B 14 w 1) (w + 1) N := j_like hjB rfl rfl rfl
      have cr : (sA B 14 w 1).2 12 w = nI k := b2
      have cx : (sA B 14 w 1).2 13 w = x := b3
      have cp : (sA B 14 w 1).2 14 w = 1 := by rw [sA_A, if_pos rfl, if_pos rfl]
      have bC : r_below w S (sA B 14 w 1) := bS.tr (r_below_sA 14 w 1 (Nat.le_refl w))
      have hC0 : (sA B 14 w 1).1 16 = 0 := hB0
      generalize sA B 14 w 1 = C at stp hC hNC hjC cr cx cp bC hC0
      rw [eka]
      have o1 := sub_run IH (kb := ka) (y := x) (by omega) (by omega) hNC hjC hC0
      have hE := ev_eq n (nI ka) x hC
      have smE := ev_sm n (nI ka) x C
      have stE := ev_st n (nI ka) x C
      have posE := ev_pos n (nI ka) x C (Or.inl hC0)
      generalize (f_begins (nI ka) x C).2 = D1 at stp o1
      generalize ev n (nI ka) x (f_tick S) = q at hE
      generalize ev n (nI ka) x C = q1 at o1 hE smE stE posE
      obtain ⟨v1, E1⟩ := q1
      obtain ⟨v1', E0⟩ := q
      obtain ⟨hv, hE⟩ := hE
      have hv : v1 = v1' := hv
      subst hv
      have hE : e_eq E0 E1 := hE
      have smE : e_sm C E1 := smE
      have stE : e_st C E1 := stE
      have posE : e_pos E1 := posE
      have o1 : ev_out (w + 1) C D1 v1 E1 := o1
      have c5 : C.2 5 = S.2 5 := (hC.2 5 (by decide))
      have c7 : C.2 7 = S.2 7 := (hC.2 7 (by decide))
      have c6 : C.2 6 = S.2 6 := (hC.2 6 (by decide))
      have e16 : E1.1 16 = E0.1 16 := hE.1 16 (by decide) (by decide)
      refine out_chain stp (out_below bC ?_)
      unfold ev_then
      show ev_out w C D1 (if E0.1 16 = 0 then _ else _ : Int32 × tr_S).1 (if E0.1 16 = 0 then _ else _ : Int32 × tr_S).2
      obtain ⟨d1, T1, he1, o1⟩ := o1
      rcases o1 with ⟨z0, lp, t11, t26, tb⟩ | ⟨z5, lp⟩ | ⟨z0, z5, lp, tb, w2, w21, w22, w23, dd⟩
      · -- the first rule gave a number
        rw [if_pos (e16.symm.trans z0)]
        have hT : e_eq E0 T1 := hE.tr he1
        have hNT : wf T1 N := hNC.sm (smE.tr he1.sm)
        have hjT : j_st T1 (w + 1) N := j_after hjC stE he1 t11 tb
        obtain ⟨f1, f2, f3, f4⟩ := tb w (by omega)
        have tr := f1.trans cr
        have tx := f2.trans cx
        have tp := f3.trans cp
        have t16 : T1.1 16 = 0 := (he1.1 16 (by decide) (by decide)).trans z0
        have t5 : T1.2 5 = S.2 5 := (he1.2 5 (by decide)).trans (smE.2.2.2.1.trans c5)
        have t6 : T1.2 6 = S.2 6 := (he1.2 6 (by decide)).trans (smE.2.2.2.2.1.trans c6)
        have t7 : T1.2 7 = S.2 7 := (he1.2 7 (by decide)).trans (smE.2.2.2.2.2.1.trans c7)
        have haT : (8 ≤ T1.2 5 k ∧ T1.2 5 k ≤ 11) ∨ T1.2 5 k = 16 := by rw [t5]; exact ha
        refine out_chain lp (out_below (tb.le (by omega)) ?_)
        have second : ∀ (kb : Nat) (y : Int32), kb < n → kb < N → ev_out w T1 (f_begins (nI kb) y (sA (sA T1 14 w 2) 15 w v1)).2 (if S.2 5 k = 16 then (if (ev n (nI kb) y E0).1 ≤ v1 then (ev n (nI kb) y E0).1 else v1) else (ev n (nI kb) y E0).1) (ev n (nI kb) y E0).2 := by
          intro kb y hb hbN
          have hU : e_eq T1 (sA (sA T1 14 w 2) 15 w v1) := e_eq_lA (e_eq_lA (e_eq.rf T1) (by decide) _ _) (by decide) _ _
          have o2 := sub_run IH (kb := kb) (y := y) hb hbN (hNT.sm hU.sm) (j_like hjT rfl rfl rfl : j_st (sA (sA T1 14 w 2) 15 w v1) (w + 1) N) t16
          have h2 := ev_eq n (nI kb) y (hT.tr hU)
          have sm2 := ev_sm n (nI kb) y (sA (sA T1 14 w 2) 15 w v1)
          have a5 : (ev n (nI kb) y (sA (sA T1 14 w 2) 15 w v1)).2.2 5 = S.2 5 := sm2.2.2.2.1.trans t5
          have o3 := out_lift hw hk40 (C := sA (sA T1 14 w 2) 15 w v1) (u := v1) tr (by show (sA T1 14 w 2).2 14 w = 2; rw [sA_A, if_pos rfl, if_pos rfl]) (by rw [sA_A, if_pos rfl, if_pos rfl]) (by rw [a5]; exact ha) o2
          rw [a5, h2.1] at o3
          exact out_eq h2.2 (out_below ((r_below_sA 14 w 2 (Nat.le_refl w)).tr (r_below_sA 15 w v1 (Nat.le_refl w))) o3)
        have fin : ∀ v, (¬ (S.2 5 k = 8 ∨ S.2 5 k = 9 ∨ S.2 5 k = 16 ∨ (S.2 5 k = 10 ∧ ¬ v1 = 0))) → v = (if S.2 5 k = 10 then x else v1) → ev_out w T1 T1 v E0 := by
          intro v hq hv
          refine out_eq hT (out_fin t11 hw tr hk40 haT t16 (by rw [tp]; decide) (fun q => hq (by rw [t5, t26] at q; exact q.2)) ?_)
          rw [t5, tp, tx, t26, hv]
          by_cases h10 : S.2 5 k = 10
          · rw [if_pos h10, if_pos ⟨h10, rfl⟩]
          · rw [if_neg h10, if_neg (fun q => h10 q.1), if_neg (fun q => hq (Or.inr (Or.inr (Or.inl q))))]
        have turn : (S.2 5 k = 8 ∨ S.2 5 k = 9 ∨ S.2 5 k = 16 ∨ (S.2 5 k = 10 ∧ ¬ v1 = 0)) → ∀ m, f_loop (m + 1) T1 = f_loop m (f_begins (if S.2 5 k = 9 then S.2 6 k else S.2 7 k) (if S.2 5 k = 8 ∨ S.2 5 k = 9 then v1 else x) (sA (sA T1 14 w 2) 15 w v1)).2 := by
          intro hq m
          rw [loop_turn m t11 hw t16, turn_1 t11 hw tr hk40 haT tp (by rw [t5, t26]; exact hq), t5, t6, t7, t26, tx]
        rcases asks_to hN hkN ha with h | h | h | h | h
        · obtain ⟨kb, hkb, ekb⟩ := (hN.2.2.1 k hkN).2.2.2.2.1 (Or.inl h)
          have tt := turn (Or.inl h)
          rw [if_neg (by rw [h]; decide), if_pos (Or.inl h), ekb] at tt
          have sc := second kb v1 (by omega) (by omega)
          rw [if_neg (by rw [h]; decide)] at sc
          rw [if_pos h, ekb]
          exact out_chain tt sc
        · have tt := turn (Or.inr (Or.inl h))
          rw [if_pos h, if_pos (Or.inr h), eka] at tt
          have sc := second ka v1 (by omega) (by omega)
          rw [if_neg (by rw [h]; decide)] at sc
          rw [if_neg (by rw [h]; decide), if_pos h]
          exact out_chain tt sc
        · rw [if_neg (by rw [h]; decide), if_neg (by rw [h]; decide), if_pos h]
          by_cases hz : v1 = 0
          · rw [if_pos hz]
            exact fin x (by rw [h]; rintro (q | q | q | q); exact absurd q (by decide); exact absurd q (by decide); exact absurd q (by decide); exact q.2 hz) (by rw [if_pos h])
          · rw [if_neg hz]
            obtain ⟨kb, hkb, ekb⟩ := (hN.2.2.1 k hkN).2.2.2.2.1 (Or.inr (Or.inl h))
            have tt := turn (Or.inr (Or.inr (Or.inr ⟨h, hz⟩)))
            rw [if_neg (by rw [h]; decide), if_neg (by rw [h]; decide), ekb] at tt
            have sc := second kb x (by omega) (by omega)
            rw [if_neg (by rw [h]; decide)] at sc
            rw [ekb]
            exact out_chain tt sc
        · rw [if_neg (by rw [h]; decide), if_neg (by rw [h]; decide), if_neg (by rw [h]; decide), if_neg (by rw [h]; decide)]
          exact fin v1 (by rw [h]; rintro (q | q | q | q); exact absurd q (by decide); exact absurd q (by decide); exact absurd q (by decide); exact absurd q.1 (by decide)) (by rw [if_neg (by rw [h]; decide)])
        · rw [if_neg (by rw [h]; decide), if_neg (by rw [h]; decide), if_neg (by rw [h]; decide), if_pos h]
          obtain ⟨kb, hkb, ekb⟩ := (hN.2.2.1 k hkN).2.2.2.2.1 (Or.inr (Or.inr (Or.inr h)))
          have tt := turn (Or.inr (Or.inr (Or.inl h)))
          rw [if_neg (by rw [h]; decide), if_neg (by rw [h]; decide), ekb] at tt
          have sc := second kb x (by omega) (by omega)
          rw [if_pos h] at sc
          rw [ekb]
          exact out_chain tt sc
      · -- for want of steps
        rw [if_neg (by rw [← e16, z5]; decide), if_neg (fun q => q.2 (e16.symm.trans z5))]
        exact ⟨d1, T1, hE.tr he1, Or.inr (Or.inl ⟨e16.symm.trans z5, lp⟩)⟩
      · -- refused
        have z0' : ¬ E0.1 16 = 0 := fun q => z0 (e16.trans q)
        have z5' : ¬ E0.1 16 = 5 := fun q => z5 (e16.trans q)
        have t5 : T1.2 5 = S.2 5 := (he1.2 5 (by decide)).trans (smE.2.2.2.1.trans c5)
        have t7 : T1.2 7 = S.2 7 := (he1.2 7 (by decide)).trans (smE.2.2.2.2.2.1.trans c7)
        obtain ⟨f1, f2, f3, f4⟩ := tb w (by omega)
        have tr := f1.trans cr
        have tx := f2.trans cx
        have tp := f3.trans cp
        rw [if_neg z0']
        by_cases h11 : S.2 5 k = 11
        · rw [if_pos ⟨h11, z5'⟩]
          have hT16 : T1.1 16 = E1.1 16 := he1.1 16 (by decide) (by decide)
          have hpos : 0 < T1.1 16 := by rw [hT16]; exact posE.elim (fun q => absurd q z0) id
          obtain ⟨kb, hkb, ekb⟩ := (hN.2.2.1 k hkN).2.2.2.2.1 (Or.inr (Or.inr (Or.inl h11)))
          -- what the reference recovers to
          have hpop : f_rec 140 T1 = f_rec (140 - (w2 - (w + 1))) (sF T1 11 (nI (w + 1))) := by
            have := rec_pop (w2 - (w + 1)) (140 - (w2 - (w + 1))) T1 (w + 1) (by rw [w23]; congr 1; omega) (by omega) (by rw [show w + 1 + (w2 - (w + 1)) = w2 by omega]; exact dd)
            rw [← this]; congr 1; omega
          generalize hT2 : sF T1 11 (nI (w + 1)) = T2 at hpop
          have u11 : T2.1 11 = nI (w + 1) := by rw [← hT2]; rfl
          have u16 : T2.1 16 = T1.1 16 := by rw [← hT2]; rfl
          have u24 : T2.1 24 = T1.1 24 := by rw [← hT2]; rfl
          have u18 : T2.1 18 = T1.1 18 := by rw [← hT2]; rfl
          have uA : T2.2 = T1.2 := by rw [← hT2]; rfl
          have eT2 : e_eq T1 T2 := by rw [← hT2]; exact e_eq_lF (e_eq.rf T1) (Or.inl rfl) _
          obtain ⟨et, er⟩ := turn_at u11 hw (by rw [uA]; exact tr) hk40
          have catch_ : ¬ T2.1 16 = 5 ∧ T2.2 5 (f_rul T2) = 11 ∧ T2.2 14 (f_top T2) = 1 := by
            refine ⟨by rw [u16, hT16]; exact z5, by rw [er, uA, t5]; exact h11, ?_⟩
            show T2.2 14 (T2.1 11 - 1).toNatClampNeg = 1
            rw [et, uA]; exact tp
          have hU : e_eq (sF (sF E0 16 0) 24 (E0.1 24 + 1)) (sA (sF (sF T2 16 0) 24 (T2.1 24 + 1)) 14 w 2) := e_eq_lA (e_eq_F (e_eq_F (hE.tr (he1.tr eT2)) 16 rfl) 24 (by rw [(hE.tr (he1.tr eT2)).1 24 (by decide) (by decide)])) (by decide) _ _
          have hNU : wf (sA (sF (sF T2 16 0) 24 (T2.1 24 + 1)) 14 w 2) N := (hNC.sm (smE.tr (he1.tr eT2).sm)).sm ⟨rfl, rfl, rfl, rfl, rfl, rfl, rfl, rfl, rfl⟩
          have hjU : j_st (sA (sF (sF T2 16 0) 24 (T2.1 24 + 1)) 14 w 2) (w + 1) N := j_like (j_after hjC stE (he1.tr eT2) u11 (tb.tr (fun t _ => by rw [uA]; exact ⟨rfl, rfl, rfl, rfl⟩))) rfl rfl rfl
          have el : f_else (f_top T2) (f_rul T2) T2 = (f_begins (nI kb) x (sA (sF (sF T2 16 0) 24 (T2.1 24 + 1)) 14 w 2)).2 := by
            unfold f_else
            rw [er, show f_top T2 = w from et, show T2.2 7 k = nI kb by rw [uA, t7]; exact ekb, show T2.2 13 w = x by rw [uA]; exact tx]
          have ur : (sA (sF (sF T2 16 0) 24 (T2.1 24 + 1)) 14 w 2).2 12 w = nI k := by show T2.2 12 w = nI k; rw [uA]; exact tr
          have up : (sA (sF (sF T2 16 0) 24 (T2.1 24 + 1)) 14 w 2).2 14 w = 2 := by rw [sA_A, if_pos rfl, if_pos rfl]
          have u5 : (sA (sF (sF T2 16 0) 24 (T2.1 24 + 1)) 14 w 2).2 5 = S.2 5 := by show T2.2 5 = S.2 5; rw [uA]; exact t5
          have ub : r_below w C (sA (sF (sF T2 16 0) 24 (T2.1 24 + 1)) 14 w 2) := (tb.le (by omega)).tr (r_below.tr (T := T2) (fun t _ => by rw [uA]; exact ⟨rfl, rfl, rfl, rfl⟩) (r_below.tr (T := sF (sF T2 16 0) 24 (T2.1 24 + 1)) (fun t _ => ⟨rfl, rfl, rfl, rfl⟩) (r_below_sA 14 w 2 (Nat.le_refl w))))
          have uz : (sA (sF (sF T2 16 0) 24 (T2.1 24 + 1)) 14 w 2).1 16 = 0 := rfl
          generalize sA (sF (sF T2 16 0) 24 (T2.1 24 + 1)) 14 w 2 = U at hU hNU hjU el ur up u5 ub uz
          have h2 := ev_eq n (nI kb) x hU
          rw [ekb]
          have rec1 : f_rec 140 T1 = if (f_begins (nI kb) x U).2.1 16 = 0 then (f_begins (nI kb) x U).2 else f_rec (139 - (w2 - (w + 1))) (f_begins (nI kb) x U).2 := by
            rw [hpop, show 140 - (w2 - (w + 1)) = (139 - (w2 - (w + 1))) + 1 by omega]
            conv => lhs; unfold f_rec
            rw [if_neg (by rw [u11]; exact nI_nle (by omega) (by omega)), if_pos catch_, el]
          refine out_eq h2.2 ?_
          rw [← h2.1]
          by_cases hsp : U.1 18 = 64
          · have e1 : f_begins (nI kb) x U = (0, f_fails 5 (nI kb) U) := if_pos hsp
            have e2 : ev n (nI kb) x U = (0, f_fails 5 (nI kb) U) := by
              cases n with
              | zero => omega
              | succ n => exact if_pos hsp
            have e3 : f_rec 140 T1 = sF (f_fails 5 (nI kb) U) 11 (nI 0) := by
              rw [rec1, e1, if_neg (by show ¬ (5 : Int32) = 0; decide)]
              have := rec_pop (w + 1) (139 - (w2 - (w + 1)) - (w + 1)) (f_fails 5 (nI kb) U) 0 (by rw [Nat.zero_add]; exact hjU.1) (by omega) (fun t _ _ q => q.1 rfl)
              rw [show 139 - (w2 - (w + 1)) - (w + 1) + (w + 1) = 139 - (w2 - (w + 1)) by omega] at this
              show f_rec (139 - (w2 - (w + 1))) (f_fails 5 (nI kb) U) = _
              rw [this, rec_nil]
              show (nI 0 : Int32) ≤ 0
              exact nI_0 ▸ Int32.le_refl _
            rw [e2]
            refine ⟨d1 + 1, sF (f_fails 5 (nI kb) U) 11 (nI 0), e_eq_lF (e_eq.rf _) (Or.inl rfl) _, Or.inr (Or.inl ⟨rfl, fun m => ?_⟩)⟩
            rw [show m + (d1 + 1 + 1) = (m + 1) + (d1 + 1) by omega, lp, loop_fail m hpos, e3, if_neg (by show ¬ (5 : Int32) ≤ 0; decide)]
          · have e1 : f_begins (nI kb) x U = (1, f_push (nI kb) x (f_tick U)) := if_neg hsp
            have o2 := sub_run IH (kb := kb) (y := x) (by omega) (by omega) hNU hjU uz
            have sm2 := ev_sm n (nI kb) x U
            have a5 : (ev n (nI kb) x U).2.2 5 = S.2 5 := sm2.2.2.2.1.trans u5
            have o3 := out_lift hw hk40 ur up rfl (by rw [a5]; exact ha) o2
            rw [a5, if_neg (by rw [h11]; decide)] at o3
            have e3 : f_rec 140 T1 = f_push (nI kb) x (f_tick U) := by rw [rec1, e1, if_pos (show (f_push (nI kb) x (f_tick U)).1 16 = 0 from uz)]
            have q1 : (f_push (nI kb) x (f_tick U)).1 11 = nI (w + 1 + 1) := (push_at (nI kb) x (S := f_tick U) (show (f_tick U).1 11 = nI (w + 1) from hjU.1) (by obtain ⟨s2, g1, g2, g3⟩ := hjU.2.1; have : s2 ≠ 64 := fun q => hsp (by rw [g3, q]; rfl); omega)).1
            have hw1 : w + 1 < 64 := by obtain ⟨s2, g1, g2, g3⟩ := hjU.2.1; have : s2 ≠ 64 := fun q => hsp (by rw [g3, q]; rfl); omega
            rw [e1] at o3
            have o3 : ev_out w U (f_push (nI kb) x (f_tick U)) (ev n (nI kb) x U).1 (ev n (nI kb) x U).2 := o3
            have lk : ∀ m, f_loop (m + 1) T1 = f_loop (m + 1) (f_push (nI kb) x (f_tick U)) := fun m => by
              rw [loop_fail m hpos, e3, if_pos (by show U.1 16 ≤ 0; rw [uz]; exact Int32.le_refl _), loop_turn m q1 hw1 uz]
            obtain ⟨d2, T3, he3, o3⟩ := o3
            have lp2 : ∀ m, f_loop (m + (d2 + (d1 + 1) + 1)) D1 = f_loop (m + (d2 + 1)) (f_push (nI kb) x (f_tick U)) := fun m => by
              rw [show m + (d2 + (d1 + 1) + 1) = (m + d2 + 1) + (d1 + 1) by omega, lp, lk]; rfl
            refine ⟨d2 + (d1 + 1), T3, he3, ?_⟩
            rcases o3 with ⟨a, b, c, e, f⟩ | ⟨a, b⟩ | ⟨a, b, c, e, f⟩
            · exact Or.inl ⟨a, fun m => (lp2 m).trans (b m), c, e, ub.tr f⟩
            · exact Or.inr (Or.inl ⟨a, fun m => (lp2 m).trans (b m)⟩)
            · exact Or.inr (Or.inr ⟨a, b, fun m => (lp2 m).trans (c m), ub.tr e, f⟩)
        · rw [if_neg (fun q => h11 q.1)]
          refine ⟨d1, T1, hE.tr he1, Or.inr (Or.inr ⟨z0', z5', lp, tb.le (by omega), w2, by omega, w22, w23, fun t a b => ?_⟩)⟩
          by_cases ht : t = w
          · subst ht
            rw [t5, tr, nI_clamp (by omega)]
            exact fun q => h11 q.2.1
          · exact dd t (by omega) b
    · rw [if_neg ha]
      have haB : ¬ ((8 ≤ B.2 5 k ∧ B.2 5 k ≤ 11) ∨ B.2 5 k = 16) := by rw [hB5]; exact ha
      have tl := turn_leaf b1 hw b2 hk40 haB
      rw [b3] at tl
      obtain ⟨g1, g2⟩ := f_given_eq b6 (nI k) x
      obtain ⟨s1, s2⟩ := f_given_st (nI k) x B
      have g5 := f_given_15 (nI k) x B hB0
      have gsm := (f_given_sm (nI k) x B).1
      generalize f_given (nI k) x B = G at tl g1 g2 s1 s2 g5 gsm
      obtain ⟨gv, GS⟩ := G
      have bl : r_below w S GS := bS.tr (fun t _ => ⟨by rw [s2 12 (by decide)], by rw [s2 13 (by decide)], by rw [s2 14 (by decide)], by rw [s2 15 (by decide)]⟩)
      have g16 : GS.1 16 = (f_given (nI k) x (f_tick S)).2.1 16 := g2.1 16 (by decide) (by decide)
      by_cases hz : GS.1 16 = 0
      · have tl : f_turn B = f_pop (sF GS 26 gv) := tl.trans (if_pos hz)
        refine ⟨0, f_pop (sF GS 26 gv), ?_, Or.inl ⟨g16.symm.trans hz, fun m => (loop_turn m b1 hw hB0).trans (congrArg (f_loop m) tl), ?_, g1, bl⟩⟩
        · exact e_eq_lF (e_eq_lF g2 (Or.inr rfl) _) (Or.inl rfl) _
        · show GS.1 11 - 1 = nI w
          rw [show GS.1 11 = nI (w + 1) from s1.trans b1, nI_pred]
      · have tl : f_turn B = sF GS 26 gv := tl.trans (if_neg hz)
        refine ⟨0, sF GS 26 gv, e_eq_lF g2 (Or.inr rfl) _, Or.inr (Or.inr ⟨fun q => hz (g16.trans q), fun q => g5 (g16.trans q), fun m => (loop_turn m b1 hw hB0).trans (congrArg (f_loop m) tl), bl, w + 1, by omega, by omega, s1.trans b1, fun t a b => ?_⟩)⟩
        obtain rfl : t = w := by omega
        intro q
        have q2 : GS.2 5 (GS.2 12 t).toNatClampNeg = 11 := q.2.1
        rw [s2 12 (by decide), b2, nI_clamp (by omega), gsm.2.2.2.1, hB5] at q2
        exact ha (asks_of (Or.inr (Or.inr (Or.inr (Or.inl q2)))))
