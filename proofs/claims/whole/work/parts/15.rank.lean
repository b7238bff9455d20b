/-! the order of keys: how many stand before one -/
def k_lt (K : Nat → Int32) (i k : Nat) : Prop := K i < K k ∨ (K i = K k ∧ i < k)
def l_cnt (K : Nat → Int32) (k : Nat) : Nat → Nat
  | 0 => 0
  | i + 1 => l_cnt K k i + (if K i < K k ∨ (K i = K k ∧ i < k) then 1 else 0)
theorem l_cnt_le (K : Nat → Int32) (k : Nat) : ∀ n, l_cnt K k n ≤ n
  | 0 => Nat.le_refl 0
  | n + 1 => by
    have := l_cnt_le K k n
    unfold l_cnt
    split <;> omega
theorem l_cnt_lt (K : Nat → Int32) (k : Nat) : ∀ n, k < n → l_cnt K k n < n
  | 0, h => by omega
  | n + 1, h => by
    unfold l_cnt
    by_cases e : k = n
    · subst e
      rw [if_neg (by rintro (q | q); exact Int32.lt_irrefl q; omega)]
      have := l_cnt_le K k k
      omega
    · have := l_cnt_lt K k n (by omega)
      split <;> omega
theorem k_tri (K : Nat → Int32) {i k : Nat} (h : i ≠ k) : k_lt K i k ∨ k_lt K k i := by
  unfold k_lt
  rcases Int32.lt_or_le (K i) (K k) with q | q
  · exact Or.inl (Or.inl q)
  · rcases Int32.lt_or_eq_of_le q with q | q
    · exact Or.inr (Or.inl q)
    · rcases Nat.lt_or_gt_of_ne h with g | g
      · exact Or.inl (Or.inr ⟨q.symm, g⟩)
      · exact Or.inr (Or.inr ⟨q, g⟩)
theorem k_trans (K : Nat → Int32) {i j k : Nat} (h : k_lt K i j) (g : k_lt K j k) : k_lt K i k := by
  unfold k_lt at h g ⊢
  rcases h with h | ⟨h, h2⟩
  · rcases g with g | ⟨g, g2⟩
    · exact Or.inl (Int32.lt_trans h g)
    · exact Or.inl (g ▸ h)
  · rcases g with g | ⟨g, g2⟩
    · exact Or.inl (h ▸ g)
    · exact Or.inr ⟨h.trans g, by omega⟩
theorem k_irr (K : Nat → Int32) (k : Nat) : ¬ k_lt K k k := by
  rintro (q | q)
  · exact Int32.lt_irrefl q
  · omega
theorem l_cnt_mono (K : Nat → Int32) {a b : Nat} (h : k_lt K a b) : ∀ n, l_cnt K a n ≤ l_cnt K b n ∧ (a < n → l_cnt K a n < l_cnt K b n)
  | 0 => ⟨Nat.le_refl 0, fun h => by omega⟩
  | n + 1 => by
    obtain ⟨h1, h2⟩ := l_cnt_mono K h n
    unfold l_cnt
    by_cases c : k_lt K n a
    · rw [if_pos (show K n < K a ∨ (K n = K a ∧ n < a) from c), if_pos (show K n < K b ∨ (K n = K b ∧ n < b) from k_trans K c h)]
      refine ⟨by omega, fun q => ?_⟩
      have : a ≠ n := fun e => k_irr K n (e ▸ c)
      have := h2 (by omega)
      omega
    · rw [if_neg (show ¬ (K n < K a ∨ (K n = K a ∧ n < a)) from c)]
      by_cases e : a = n
      · subst e
        rw [if_pos (show K a < K b ∨ (K a = K b ∧ a < b) from h)]
        omega
      · refine ⟨by split <;> omega, fun q => ?_⟩
        have := h2 (by omega)
        split <;> omega
theorem l_cnt_inj (K : Nat → Int32) {a b n : Nat} (ha : a < n) (hb : b < n) (e : l_cnt K a n = l_cnt K b n) : a = b := by
  by_cases q : a = b
  · exact q
  · rcases k_tri K q with h | h
    · have := (l_cnt_mono K h n).2 ha
      omega
    · have := (l_cnt_mono K h n).2 hb
      omega
/-- numbers that stand in the keys' order -/
def k_srt (K : Nat → Int32) (Q : Nat → Nat) (n : Nat) : Prop := ∀ j, j < n → Q j < n ∧ l_cnt K (Q j) n = j
theorem k_srt_lt {K : Nat → Int32} {Q : Nat → Nat} {n i j : Nat} (h : k_srt K Q n) (hi : i < j) (hj : j < n) : k_lt K (Q i) (Q j) := by
  obtain ⟨a1, a2⟩ := h i (by omega)
  obtain ⟨b1, b2⟩ := h j hj
  have hne : Q i ≠ Q j := fun e => by rw [e] at a2; omega
  rcases k_tri K hne with q | q
  · exact q
  · have := (l_cnt_mono K q n).1
    omega
/-- a number more: those behind its place go up by one -/
theorem k_srt_ins {K : Nat → Int32} {Q Q2 : Nat → Nat} {n a : Nat} (h : k_srt K Q n) (ha : a ≤ n) (hlo : ∀ j, j < a → ¬ K n < K (Q j)) (hhi : ∀ j, a ≤ j → j < n → K n < K (Q j)) (e1 : ∀ j, j < a → Q2 j = Q j) (e2 : Q2 a = n) (e3 : ∀ j, a < j → j ≤ n → Q2 j = Q (j - 1)) : k_srt K Q2 (n + 1) := by
  have key : ∀ k, k < n → (k_lt K k n ↔ l_cnt K k n < a) := by
    intro k hk
    have hj := l_cnt_lt K k n hk
    have hQ : Q (l_cnt K k n) = k := l_cnt_inj K (h _ hj).1 hk (h _ hj).2
    by_cases c : l_cnt K k n < a
    · refine ⟨fun _ => c, fun _ => ?_⟩
      have := hlo _ c
      rw [hQ] at this
      rcases Int32.lt_or_eq_of_le (Int32.not_lt.mp this) with q | q
      · exact Or.inl q
      · exact Or.inr ⟨q, hk⟩
    · refine ⟨fun q => ?_, fun q => absurd q c⟩
      have := hhi _ (Nat.not_lt.mp c) hj
      rw [hQ] at this
      rcases q with q | ⟨q, -⟩
      · exact absurd (Int32.lt_trans this q) (fun z => Int32.lt_irrefl z)
      · exact absurd (q ▸ this) (fun z => Int32.lt_irrefl z)
  have cn : l_cnt K n (n + 1) = a := by
    have e0 : l_cnt K n (n + 1) = l_cnt K n n := by
      conv => lhs; unfold l_cnt
      rw [if_neg (show ¬ (K n < K n ∨ (K n = K n ∧ n < n)) from k_irr K n)]
      rfl
    rw [e0]
    -- against the ones at the places 0 .. a - 1
    have up : a ≤ l_cnt K n n := by
      by_cases a0 : a = 0
      · omega
      · have hk := h (a - 1) (by omega)
        have := (key _ hk.1).mpr (by rw [hk.2]; omega)
        have := (l_cnt_mono K this n).2 hk.1
        omega
    have dn : l_cnt K n n ≤ a := by
      by_cases an : a = n
      · rw [an]; exact l_cnt_le K n n
      · have hk := h a (by omega)
        have hn : ¬ k_lt K (Q a) n := fun q => by have := (key _ hk.1).mp q; omega
        have hne : Q a ≠ n := by omega
        rcases k_tri K hne with q | q
        · exact absurd q hn
        · have := (l_cnt_mono K q n).1
          omega
    omega
  have ck : ∀ k, k < n → l_cnt K k (n + 1) = l_cnt K k n + (if l_cnt K k n < a then 0 else 1) := by
    intro k hk
    conv => lhs; unfold l_cnt
    by_cases c : l_cnt K k n < a
    · have q := (key k hk).mpr c
      rw [if_pos c, if_neg (show ¬ (K n < K k ∨ (K n = K k ∧ n < k)) from fun z => k_irr K k (k_trans K q z))]
    · have hne : k ≠ n := by omega
      rcases k_tri K hne with q | q
      · exact absurd ((key k hk).mp q) c
      · rw [if_neg c, if_pos (show K n < K k ∨ (K n = K k ∧ n < k) from q)]
  intro j hj
  rcases Nat.lt_trichotomy j a with c | c | c
  · rw [e1 j c]
    obtain ⟨h1, h2⟩ := h j (by omega)
    refine ⟨by omega, ?_⟩
    rw [ck _ h1, h2, if_pos c]
    omega
  · subst c
    rw [e2]
    exact ⟨by omega, cn⟩
  · rw [e3 j c (by omega)]
    obtain ⟨h1, h2⟩ := h (j - 1) (by omega)
    refine ⟨by omega, ?_⟩
    rw [ck _ h1, h2, if_neg (by omega)]
    omega
/-- there is such an order -/
theorem k_srt_ex (K : Nat → Int32) : ∀ n, ∃ Q, k_srt K Q n
  | 0 => ⟨fun _ => 0, fun j hj => by omega⟩
  | n + 1 => by
    obtain ⟨Q, h⟩ := k_srt_ex K n
    obtain ⟨a, ⟨ha, hhi⟩, hmin⟩ := pk_least (fun a => a ≤ n ∧ ∀ j, a ≤ j → j < n → K n < K (Q j)) ⟨n, Nat.le_refl n, fun j h1 h2 => by omega⟩
    refine ⟨fun j => if j < a then Q j else if j = a then n else Q (j - 1), k_srt_ins h ha (fun j hj q => ?_) hhi (fun j hj => if_pos hj) ?_ (fun j hj _ => ?_)⟩
    · refine hmin j hj ⟨by omega, fun i h1 h2 => ?_⟩
      by_cases e : i = j
      · rw [e]; exact q
      · rcases k_srt_lt h (show j < i by omega) h2 with z | z
        · exact Int32.lt_trans q z
        · rw [← z.1]; exact q
    · show (if a < a then Q a else if a = a then n else Q (a - 1)) = n
      rw [if_neg (Nat.lt_irrefl a), if_pos rfl]
    · show (if j < a then Q j else if j = a then n else Q (j - 1)) = Q (j - 1)
      rw [if_neg (by omega), if_neg (by omega)]
/-- which one stands at a place -/
def l_find (K : Nat → Int32) (n j : Nat) : Nat → Nat
  | 0 => 0
  | i + 1 => if l_cnt K i n = j then i else l_find K n j i
theorem l_find_eq {K : Nat → Int32} {n k : Nat} (hk : k < n) : ∀ m, k < m → m ≤ n → l_find K n (l_cnt K k n) m = k
  | 0, h, _ => by omega
  | m + 1, h, hm => by
    unfold l_find
    by_cases e : m = k
    · rw [e, if_pos rfl]
    · rw [if_neg (fun q => e (l_cnt_inj K (by omega) hk q))]
      exact l_find_eq hk m (by omega) (by omega)
def l_mv (K : Nat → Int32) (n : Nat) : Nat → Int32
  | 0 => 0
  | k + 1 => l_mv K n k + (if l_cnt K k n = k then 0 else 1)
def l_put (q : Nat) (J : Nat → Int32) : Nat → tr_S → tr_S
  | 0, S => S
  | k + 1, S => sA (l_put q J k S) 3 (10 * q + k) (J k)
theorem l_put_eq {S T : tr_S} (h : e_eq S T) (q : Nat) (J : Nat → Int32) : ∀ n, e_eq (l_put q J n S) (l_put q J n T)
  | 0 => h
  | n + 1 => e_eq_A (l_put_eq h q J n) 3 _ (by decide) rfl
theorem l_put_hi (q : Nat) (J : Nat → Int32) (S : tr_S) : ∀ n, e_hi S (l_put q J n S)
  | 0 => e_hi.rf S
  | n + 1 => e_hi_A (l_put_hi q J S n) (by decide) _ _
def f_order (q z : Nat) (a : (Nat → Int32) × tr_S) : Int32 × tr_S := if a.2.1 16 = 0 then f_ends (l_mv a.1 z z) (l_put q (fun j => a.2.2 3 (10 * q + l_find a.1 z j z)) z a.2) else f_ends 0 a.2
def a_order (r y : Int32) (S : tr_S) : Int32 × tr_S := if (0 ≤ r ∧ r ≤ S.1 4 - 1) ∧ (0 ≤ y ∧ y ≤ 3) then (if 0 ≤ S.2 1 y.toNatClampNeg then f_order (S.2 1 y.toNatClampNeg).toNatClampNeg (S.2 2 (S.2 1 y.toNatClampNeg).toNatClampNeg).toNatClampNeg (l_keys r (S.2 1 y.toNatClampNeg).toNatClampNeg (S.2 2 (S.2 1 y.toNatClampNeg).toNatClampNeg).toNatClampNeg 0 (fun _ => 0) (e_start S)) else (-13, S)) else (-1, S)
