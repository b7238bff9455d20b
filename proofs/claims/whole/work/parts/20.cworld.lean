/-! the class's world: its object, its arrays, and a pool of rules, rows and their arrays -/
abbrev tr_Z : Type := Int32 × Int32 × (Nat → Nat → Int32)
def zA (z : tr_Z) (k i : Nat) (v : Int32) : tr_Z := (z.1, z.2.1, va_up z.2.2 k (upd (z.2.2 k) i v))
def c_ref (ρ : Nat → Nat) (a : Int32) : Option Nat := if a < 0 then none else some (ρ a.toNatClampNeg)
def c_rows (ρ : Nat → Nat) (S : tr_S) : Nat → Option Nat := fun r => if r < 4 then c_ref ρ (S.2 1 r) else none
def c_rules (ra : Nat → Nat) (S : tr_S) : Nat → Option Nat := fun k => if k < (S.1 4).toNatClampNeg then some (ra k) else none
def c_F (ap : Nat → Nat) (S : tr_S) (z : tr_Z) : List Value := [.ref (ap 0), .ref (ap 1), .ref (ap 2), .int (S.1 4), .ref (ap 4), .ref (ap 5), .ref (ap 6), .int z.1, .int z.2.1, .int (S.1 25), .int (S.1 18), .int (S.1 20), .int (S.1 21), .int (S.1 22), .int (S.1 23), .int (S.1 24)]
def c_X (o : Nat) (ap : Nat → Nat) (cA cR cU : ClassId) (ρ ra : Nat → Nat) (S : tr_S) (z : tr_Z) : va_W := [(o, .inr (2, c_F ap S z)), (ap 0, .inl (cA, 8, .inl (S.2 0))), (ap 1, .inl (cR, 4, .inr (.inr (.inr (.inr (c_rows ρ S)))))), (ap 2, .inl (cU, 40, .inr (.inr (.inr (.inr (c_rules ra S)))))), (ap 4, .inl (cA, 10, .inl (z.2.2 4))), (ap 5, .inl (cA, 10, .inl (z.2.2 5))), (ap 6, .inl (cA, 10, .inl (z.2.2 6)))]
def c_W (o : Nat) (ap : Nat → Nat) (cA cR cU : ClassId) (ρ ra : Nat → Nat) (L : List Nat) (f : Nat → va_E) (S : tr_S) (z : tr_Z) : va_W := c_X o ap cA cR cU ρ ra S z ++ va_pl L f
def c_rule (ρ : Nat → Nat) (S : tr_S) (k : Nat) : va_E := .inr (1, [.int (S.2 5 k), .int (S.2 6 k), .int (S.2 7 k), .int (S.2 8 k), va_rf (c_ref ρ (S.2 9 k)), .int (S.2 10 k)])
def c_items (S : tr_S) (q : Nat) : Nat → Int32 := fun i => if i < 10 then S.2 3 (10 * q + i) else 0
def c_row (cA : ClassId) (S : tr_S) (q : Nat) : va_E := .inl (cA, (S.2 2 q).toNatClampNeg, .inl (c_items S q))
def c_held (S : tr_S) (q : Nat) : Prop := q < 48 ∧ ((∃ r, r < 4 ∧ S.2 1 r = nI q) ∨ ∃ k, k < (S.1 4).toNatClampNeg ∧ S.2 9 k = nI q)
def c_G (cA : ClassId) (ρ σ ra : Nat → Nat) (L : List Nat) (f : Nat → va_E) (S : tr_S) : Prop :=
  (∀ k, k < (S.1 4).toNatClampNeg → ra k ∈ L ∧ f (ra k) = c_rule ρ S k) ∧
  (∀ q, c_held S q → ρ q ∈ L ∧ f (ρ q) = .inr (0, [.ref (σ q)]) ∧ σ q ∈ L ∧ f (σ q) = c_row cA S q) ∧
  (∀ i j, i < (S.1 4).toNatClampNeg → j < (S.1 4).toNatClampNeg → ra i = ra j → i = j) ∧
  (∀ i j, c_held S i → c_held S j → σ i = σ j → i = j)
abbrev c_T (cA cR cU : ClassId) : List (ClassId × FieldType) := [(cA, .int), (cR, .object "TollRules$Row"), (cU, .object "TollRules$Rule")]
def c_B (D : va_G) (o : Nat) (ap : Nat → Nat) (cA cR cU : ClassId) (A : Nat → Prop) (ρ σ ra : Nat → Nat) (L : List Nat) (f : Nat → va_E) (S : tr_S) (z : tr_Z) (U : State) : Prop := va_P D vwCl (c_W o ap cA cR cU ρ ra L f S z) U.heap ∧ va_K D vwCl (c_T cA cR cU) U ∧ va_D A (c_W o ap cA cR cU ρ ra L f S z) ∧ c_G cA ρ σ ra L f S
def c_I (D : va_G) (o : Nat) (ap : Nat → Nat) (cA cR cU : ClassId) (A : Nat → Prop) (ρ σ ra : Nat → Nat) (L : List Nat) (f : Nat → va_E) (S : tr_S) (z : tr_Z) (s : State) (H0 H : Heap) (locs : List Loc) : Prop := va_P D vwCl (c_W o ap cA cR cU ρ ra L f S z) H ∧ va_K D vwCl (c_T cA cR cU) s ∧ va_D A (c_W o ap cA cR cU ρ ra L f S z) ∧ va_S A H0 H locs ∧ c_G cA ρ σ ra L f S
/-- behind a method that makes nothing -/
def c_E (D : va_G) (o : Nat) (ap : Nat → Nat) (cA cR cU : ClassId) (A : Nat → Prop) (ρ σ ra : Nat → Nat) (L : List Nat) (u : tr_S × tr_Z) (U : State) : Prop := ∃ f : Nat → va_E, c_B D o ap cA cR cU A ρ σ ra L f u.1 u.2 U
section CI
variable {D : va_G} {o : Nat} {ap : Nat → Nat} {cA cR cU : ClassId} {A : Nat → Prop} {ρ σ ra : Nat → Nat} {L : List Nat} {f : Nat → va_E} {S : tr_S} {z : tr_Z}
theorem c_I.of {s : State} (h : c_B D o ap cA cR cU A ρ σ ra L f S z s) : c_I D o ap cA cR cU A ρ σ ra L f S z s s.heap s.heap [] := ⟨h.1, h.2.1, h.2.2.1, va_S.rf, h.2.2.2⟩
theorem c_I.to {s t : State} {H0 H : Heap} {locs : List Loc} (h : c_I D o ap cA cR cU A ρ σ ra L f S z s H0 H locs) (ht : t.heap = H) (hW : s.WarmedH t.vm) : c_B D o ap cA cR cU A ρ σ ra L f S z t := ⟨by rw [ht]; exact h.1, va_K.moved hW.alike h.2.1, h.2.2.1, h.2.2.2.2⟩
theorem c_B.blind {av : List Value} : FrameBlind (va_Pc av (c_B D o ap cA cR cU A ρ σ ra L f S z)) := fun a U g mk q => by
  obtain ⟨q0, qP, qK, qD, qG⟩ := q
  exact ⟨q0, qP, va_K.moved (u := U) (U := U.calling g mk a) (Vm.Alike.refl U.vm) qK, qD, qG⟩
end CI
abbrev c_Mi (l : Launch) (y : MethodName) (ws : List Cond) (rm : Room) (av : List Value) (D : va_G) (o : Nat) (ap : Nat → Nat) (cA cR cU : ClassId) (A : Nat → Prop) (ρ σ ra : Nat → Nat) (L : List Nat) (f : Nat → va_E) (S : tr_S) (z : tr_Z) (post : Int32 → tr_S × tr_Z → Prop) : Prop := Met l y ws rm (va_Pc (.ref o :: av) (c_B D o ap cA cR cU A ρ σ ra L f S z)) (va_Qi post (c_E D o ap cA cR cU A ρ σ ra L) A) 0 0 A
abbrev c_Ml (l : Launch) (y : MethodName) (ws : List Cond) (rm : Room) (av : List Value) (D : va_G) (o : Nat) (ap : Nat → Nat) (cA cR cU : ClassId) (A : Nat → Prop) (ρ σ ra : Nat → Nat) (L : List Nat) (f : Nat → va_E) (S : tr_S) (z : tr_Z) (post : Int64 → tr_S × tr_Z → Prop) : Prop := Met l y ws rm (va_Pc (.ref o :: av) (c_B D o ap cA cR cU A ρ σ ra L f S z)) (va_Ql post (c_E D o ap cA cR cU A ρ σ ra L) A) 0 0 A
abbrev c_Mv (l : Launch) (y : MethodName) (ws : List Cond) (rm : Room) (av : List Value) (D : va_G) (o : Nat) (ap : Nat → Nat) (cA cR cU : ClassId) (A : Nat → Prop) (ρ σ ra : Nat → Nat) (L : List Nat) (f : Nat → va_E) (S : tr_S) (z : tr_Z) (post : tr_S × tr_Z → Prop) : Prop := Met l y ws rm (va_Pc (.ref o :: av) (c_B D o ap cA cR cU A ρ σ ra L f S z)) (va_Qv post (c_E D o ap cA cR cU A ρ σ ra L) A) 0 0 A
section CR
variable {p : Program} {l : Launch} {e : Env} {R : Room} {s : State} {m : MethodId} {args : Array Value} {below : List Frame} {meth : Method} {c : Code} {H H0 : Heap} {locs : List Loc} {cells slots : Nat} {Q : State → Prop}
variable {cc : ByteArray} {pc : Nat} {ls : Array Slot} {rest st0 : List Value} {Ts : List Cond} {index : Nat}
variable {D : va_G} {o : Nat} {ap : Nat → Nat} {cA cR cU : ClassId} {A : Nat → Prop} {ρ σ ra : Nat → Nat} {L : List Nat} {f : Nat → va_E} {S : tr_S} {z : tr_Z}
theorem c_get (hx : p.tables.exec = Jvm.exec) (hb : c.code = cc) (hts : ∀ w ∈ Ts, w.before args s = true) (hin : ∀ w ∈ wsX20, w ∈ Ts) (hown : s.vm.findClass RX2 = some m.cls) (I : c_I D o ap cA cR cU A ρ σ ra L f S z s H0 H locs) (k : Nat) (hk : k < 16) (hT : (TX2 k).1 = RX2) {v : Value} (hv : (c_F ap S z)[k]? = some v) (hlink : (Cond.fieldLink RX2 index RX2 (TX2 k).2.1 (TX2 k).2.2.1).before args s = true) (hdg : decode cc pc = .ok (.getfield index, 3))
    (kk : W p l e R s m args below meth c H locs cells slots Q (F0 m (pc + 3) ls (v :: rest))) : W p l e R s m args below meth c H locs cells slots Q (F0 m pc ls (.ref o :: rest)) :=
  va_get (D := D) (cl := vwCl) (C := RX2) (T := TX2) (N := 16) (ci := 2) hx hb hts hin hown I.2.1 I.1 0 rfl rfl k hk hlink (fun _ h => hT ▸ h) hv hdg kk
theorem c_put {S2 : tr_S} {z2 : tr_Z} (hx : p.tables.exec = Jvm.exec) (hb : c.code = cc) (hts : ∀ w ∈ Ts, w.before args s = true) (hin : ∀ w ∈ wsX20, w ∈ Ts) (hown : s.vm.findClass RX2 = some m.cls) (I : c_I D o ap cA cR cU A ρ σ ra L f S z s H0 H locs) (k : Nat) (hk : k < 16) (hT : (TX2 k).1 = RX2) (hfin : (TX2 k).2.2.2 = false) (hd : parseFieldDescriptor (TX2 k).2.2.1 = some .int) {x : Int32}
    (hset : (c_W o ap cA cR cU ρ ra L f S z).set 0 (o, .inr (2, (c_F ap S z).set k (.int x))) = c_W o ap cA cR cU ρ ra L f S2 z2) (hG : c_G cA ρ σ ra L f S2) (hlink : (Cond.fieldLink RX2 index RX2 (TX2 k).2.1 (TX2 k).2.2.1).before args s = true) (hdg : decode cc pc = .ok (.putfield index, 3))
    (kk : ∀ (H1 : Heap) (locs1 : List Loc), c_I D o ap cA cR cU A ρ σ ra L f S2 z2 s H0 H1 locs1 → W p l e R s m args below meth c H1 locs1 cells slots Q (F0 m (pc + 3) ls rest)) : W p l e R s m args below meth c H locs cells slots Q (F0 m pc ls (.int x :: .ref o :: rest)) :=
  va_put (D := D) (cl := vwCl) (C := RX2) (T := TX2) (N := 16) (ci := 2) hx hb hts hin tyX2 tyX2_ok nmX2 hown I.2.1 I.1 I.2.2.1 I.2.2.2.1 0 rfl rfl k hk hlink (fun _ h => hT ▸ h) hfin hd rfl rfl hk hdg (fun H1 locs1 hP hD hS => kk H1 locs1 ⟨hset ▸ hP, I.2.1, hset ▸ hD, hS, hG⟩)
theorem c_iald (hx : p.tables.exec = Jvm.exec) (hb : c.code = cc) (I : c_I D o ap cA cR cU A ρ σ ra L f S z s H0 H locs) (k q0 : Nat) {n : Nat} {g : Nat → Int32} (ha : (c_W o ap cA cR cU ρ ra L f S z)[q0]? = some (ap k, .inl (cA, n, .inl g))) {i : Int32} (hi : vp_in i n) (hdg : decode cc pc = .ok (.iaload, 1)) {x : Int32} (hv : g i.toNatClampNeg = x)
    (kk : W p l e R s m args below meth c H locs cells slots Q (F0 m (pc + 1) ls (.int x :: rest))) : W p l e R s m args below meth c H locs cells slots Q (F0 m pc ls (.int i :: .ref (ap k) :: rest)) := by
  subst hv
  exact va_iald hx hb I.2.1 I.1 q0 0 ha rfl hi hdg kk
theorem c_iast {S2 : tr_S} {z2 : tr_Z} (hx : p.tables.exec = Jvm.exec) (hb : c.code = cc) (I : c_I D o ap cA cR cU A ρ σ ra L f S z s H0 H locs) (k q0 : Nat) {n : Nat} {g : Nat → Int32} (ha : (c_W o ap cA cR cU ρ ra L f S z)[q0]? = some (ap k, .inl (cA, n, .inl g))) {i x : Int32}
    (hset : (c_W o ap cA cR cU ρ ra L f S z).set q0 (ap k, .inl (cA, n, .inl (upd g i.toNatClampNeg x))) = c_W o ap cA cR cU ρ ra L f S2 z2) (hG : c_G cA ρ σ ra L f S2) (hi : vp_in i n) (hdg : decode cc pc = .ok (.iastore, 1))
    (kk : ∀ (H1 : Heap) (locs1 : List Loc), c_I D o ap cA cR cU A ρ σ ra L f S2 z2 s H0 H1 locs1 → W p l e R s m args below meth c H1 locs1 cells slots Q (F0 m (pc + 1) ls rest)) : W p l e R s m args below meth c H locs cells slots Q (F0 m pc ls (.int x :: .int i :: .ref (ap k) :: rest)) :=
  va_iast hx hb I.2.1 I.1 I.2.2.1 I.2.2.2.1 q0 0 ha rfl hi hdg (fun H1 locs1 hP hD hS => kk H1 locs1 ⟨hset ▸ hP, I.2.1, hset ▸ hD, hS, hG⟩)
theorem c_get0 (hx : p.tables.exec = Jvm.exec) (hb : c.code = cc) (hts : ∀ w ∈ Ts, w.before args s = true) (hin : ∀ w ∈ wsX20, w ∈ Ts) (hown : s.vm.findClass RX2 = some m.cls) (I : c_I D o ap cA cR cU A ρ σ ra L f S z s H0 H locs) (hlink : (Cond.fieldLink RX2 index RX2 (TX2 0).2.1 (TX2 0).2.2.1).before args s = true) (hdg : decode cc pc = .ok (.getfield index, 3)) (kk : W p l e R s m args below meth c H locs cells slots Q (F0 m (pc + 3) ls (.ref (ap 0) :: rest))) : W p l e R s m args below meth c H locs cells slots Q (F0 m pc ls (.ref o :: rest)) := by
  exact c_get hx hb hts hin hown I 0 (by decide) rfl rfl hlink hdg kk
theorem c_get1 (hx : p.tables.exec = Jvm.exec) (hb : c.code = cc) (hts : ∀ w ∈ Ts, w.before args s = true) (hin : ∀ w ∈ wsX20, w ∈ Ts) (hown : s.vm.findClass RX2 = some m.cls) (I : c_I D o ap cA cR cU A ρ σ ra L f S z s H0 H locs) (hlink : (Cond.fieldLink RX2 index RX2 (TX2 1).2.1 (TX2 1).2.2.1).before args s = true) (hdg : decode cc pc = .ok (.getfield index, 3)) (kk : W p l e R s m args below meth c H locs cells slots Q (F0 m (pc + 3) ls (.ref (ap 1) :: rest))) : W p l e R s m args below meth c H locs cells slots Q (F0 m pc ls (.ref o :: rest)) := by
  exact c_get hx hb hts hin hown I 1 (by decide) rfl rfl hlink hdg kk
theorem c_get2 (hx : p.tables.exec = Jvm.exec) (hb : c.code = cc) (hts : ∀ w ∈ Ts, w.before args s = true) (hin : ∀ w ∈ wsX20, w ∈ Ts) (hown : s.vm.findClass RX2 = some m.cls) (I : c_I D o ap cA cR cU A ρ σ ra L f S z s H0 H locs) (hlink : (Cond.fieldLink RX2 index RX2 (TX2 2).2.1 (TX2 2).2.2.1).before args s = true) (hdg : decode cc pc = .ok (.getfield index, 3)) (kk : W p l e R s m args below meth c H locs cells slots Q (F0 m (pc + 3) ls (.ref (ap 2) :: rest))) : W p l e R s m args below meth c H locs cells slots Q (F0 m pc ls (.ref o :: rest)) := by
  exact c_get hx hb hts hin hown I 2 (by decide) rfl rfl hlink hdg kk
theorem c_get3 (hx : p.tables.exec = Jvm.exec) (hb : c.code = cc) (hts : ∀ w ∈ Ts, w.before args s = true) (hin : ∀ w ∈ wsX20, w ∈ Ts) (hown : s.vm.findClass RX2 = some m.cls) (I : c_I D o ap cA cR cU A ρ σ ra L f S z s H0 H locs) (hlink : (Cond.fieldLink RX2 index RX2 (TX2 3).2.1 (TX2 3).2.2.1).before args s = true) (hdg : decode cc pc = .ok (.getfield index, 3)) {x : Int32} (hv : S.1 4 = x) (kk : W p l e R s m args below meth c H locs cells slots Q (F0 m (pc + 3) ls (.int x :: rest))) : W p l e R s m args below meth c H locs cells slots Q (F0 m pc ls (.ref o :: rest)) := by
  subst hv
  exact c_get hx hb hts hin hown I 3 (by decide) rfl rfl hlink hdg kk
theorem c_get4 (hx : p.tables.exec = Jvm.exec) (hb : c.code = cc) (hts : ∀ w ∈ Ts, w.before args s = true) (hin : ∀ w ∈ wsX20, w ∈ Ts) (hown : s.vm.findClass RX2 = some m.cls) (I : c_I D o ap cA cR cU A ρ σ ra L f S z s H0 H locs) (hlink : (Cond.fieldLink RX2 index RX2 (TX2 4).2.1 (TX2 4).2.2.1).before args s = true) (hdg : decode cc pc = .ok (.getfield index, 3)) (kk : W p l e R s m args below meth c H locs cells slots Q (F0 m (pc + 3) ls (.ref (ap 4) :: rest))) : W p l e R s m args below meth c H locs cells slots Q (F0 m pc ls (.ref o :: rest)) := by
  exact c_get hx hb hts hin hown I 4 (by decide) rfl rfl hlink hdg kk
theorem c_get5 (hx : p.tables.exec = Jvm.exec) (hb : c.code = cc) (hts : ∀ w ∈ Ts, w.before args s = true) (hin : ∀ w ∈ wsX20, w ∈ Ts) (hown : s.vm.findClass RX2 = some m.cls) (I : c_I D o ap cA cR cU A ρ σ ra L f S z s H0 H locs) (hlink : (Cond.fieldLink RX2 index RX2 (TX2 5).2.1 (TX2 5).2.2.1).before args s = true) (hdg : decode cc pc = .ok (.getfield index, 3)) (kk : W p l e R s m args below meth c H locs cells slots Q (F0 m (pc + 3) ls (.ref (ap 5) :: rest))) : W p l e R s m args below meth c H locs cells slots Q (F0 m pc ls (.ref o :: rest)) := by
  exact c_get hx hb hts hin hown I 5 (by decide) rfl rfl hlink hdg kk
theorem c_get6 (hx : p.tables.exec = Jvm.exec) (hb : c.code = cc) (hts : ∀ w ∈ Ts, w.before args s = true) (hin : ∀ w ∈ wsX20, w ∈ Ts) (hown : s.vm.findClass RX2 = some m.cls) (I : c_I D o ap cA cR cU A ρ σ ra L f S z s H0 H locs) (hlink : (Cond.fieldLink RX2 index RX2 (TX2 6).2.1 (TX2 6).2.2.1).before args s = true) (hdg : decode cc pc = .ok (.getfield index, 3)) (kk : W p l e R s m args below meth c H locs cells slots Q (F0 m (pc + 3) ls (.ref (ap 6) :: rest))) : W p l e R s m args below meth c H locs cells slots Q (F0 m pc ls (.ref o :: rest)) := by
  exact c_get hx hb hts hin hown I 6 (by decide) rfl rfl hlink hdg kk
theorem c_get7 (hx : p.tables.exec = Jvm.exec) (hb : c.code = cc) (hts : ∀ w ∈ Ts, w.before args s = true) (hin : ∀ w ∈ wsX20, w ∈ Ts) (hown : s.vm.findClass RX2 = some m.cls) (I : c_I D o ap cA cR cU A ρ σ ra L f S z s H0 H locs) (hlink : (Cond.fieldLink RX2 index RX2 (TX2 7).2.1 (TX2 7).2.2.1).before args s = true) (hdg : decode cc pc = .ok (.getfield index, 3)) {x : Int32} (hv : z.1 = x) (kk : W p l e R s m args below meth c H locs cells slots Q (F0 m (pc + 3) ls (.int x :: rest))) : W p l e R s m args below meth c H locs cells slots Q (F0 m pc ls (.ref o :: rest)) := by
  subst hv
  exact c_get hx hb hts hin hown I 7 (by decide) rfl rfl hlink hdg kk
theorem c_put7 (hx : p.tables.exec = Jvm.exec) (hb : c.code = cc) (hts : ∀ w ∈ Ts, w.before args s = true) (hin : ∀ w ∈ wsX20, w ∈ Ts) (hown : s.vm.findClass RX2 = some m.cls) (I : c_I D o ap cA cR cU A ρ σ ra L f S z s H0 H locs) (hlink : (Cond.fieldLink RX2 index RX2 (TX2 7).2.1 (TX2 7).2.2.1).before args s = true) (hdg : decode cc pc = .ok (.putfield index, 3)) {x : Int32} (kk : ∀ (H1 : Heap) (locs1 : List Loc), c_I D o ap cA cR cU A ρ σ ra L f S (x, z.2.1, z.2.2) s H0 H1 locs1 → W p l e R s m args below meth c H1 locs1 cells slots Q (F0 m (pc + 3) ls rest)) : W p l e R s m args below meth c H locs cells slots Q (F0 m pc ls (.int x :: .ref o :: rest)) :=
  c_put (S2 := S) (z2 := (x, z.2.1, z.2.2)) hx hb hts hin hown I 7 (by decide) rfl rfl (by decide +kernel) rfl I.2.2.2.2 hlink hdg kk
theorem c_get8 (hx : p.tables.exec = Jvm.exec) (hb : c.code = cc) (hts : ∀ w ∈ Ts, w.before args s = true) (hin : ∀ w ∈ wsX20, w ∈ Ts) (hown : s.vm.findClass RX2 = some m.cls) (I : c_I D o ap cA cR cU A ρ σ ra L f S z s H0 H locs) (hlink : (Cond.fieldLink RX2 index RX2 (TX2 8).2.1 (TX2 8).2.2.1).before args s = true) (hdg : decode cc pc = .ok (.getfield index, 3)) {x : Int32} (hv : z.2.1 = x) (kk : W p l e R s m args below meth c H locs cells slots Q (F0 m (pc + 3) ls (.int x :: rest))) : W p l e R s m args below meth c H locs cells slots Q (F0 m pc ls (.ref o :: rest)) := by
  subst hv
  exact c_get hx hb hts hin hown I 8 (by decide) rfl rfl hlink hdg kk
theorem c_put8 (hx : p.tables.exec = Jvm.exec) (hb : c.code = cc) (hts : ∀ w ∈ Ts, w.before args s = true) (hin : ∀ w ∈ wsX20, w ∈ Ts) (hown : s.vm.findClass RX2 = some m.cls) (I : c_I D o ap cA cR cU A ρ σ ra L f S z s H0 H locs) (hlink : (Cond.fieldLink RX2 index RX2 (TX2 8).2.1 (TX2 8).2.2.1).before args s = true) (hdg : decode cc pc = .ok (.putfield index, 3)) {x : Int32} (kk : ∀ (H1 : Heap) (locs1 : List Loc), c_I D o ap cA cR cU A ρ σ ra L f S (z.1, x, z.2.2) s H0 H1 locs1 → W p l e R s m args below meth c H1 locs1 cells slots Q (F0 m (pc + 3) ls rest)) : W p l e R s m args below meth c H locs cells slots Q (F0 m pc ls (.int x :: .ref o :: rest)) :=
  c_put (S2 := S) (z2 := (z.1, x, z.2.2)) hx hb hts hin hown I 8 (by decide) rfl rfl (by decide +kernel) rfl I.2.2.2.2 hlink hdg kk
theorem c_get9 (hx : p.tables.exec = Jvm.exec) (hb : c.code = cc) (hts : ∀ w ∈ Ts, w.before args s = true) (hin : ∀ w ∈ wsX20, w ∈ Ts) (hown : s.vm.findClass RX2 = some m.cls) (I : c_I D o ap cA cR cU A ρ σ ra L f S z s H0 H locs) (hlink : (Cond.fieldLink RX2 index RX2 (TX2 9).2.1 (TX2 9).2.2.1).before args s = true) (hdg : decode cc pc = .ok (.getfield index, 3)) {x : Int32} (hv : S.1 25 = x) (kk : W p l e R s m args below meth c H locs cells slots Q (F0 m (pc + 3) ls (.int x :: rest))) : W p l e R s m args below meth c H locs cells slots Q (F0 m pc ls (.ref o :: rest)) := by
  subst hv
  exact c_get hx hb hts hin hown I 9 (by decide) rfl rfl hlink hdg kk
theorem c_put9 (hx : p.tables.exec = Jvm.exec) (hb : c.code = cc) (hts : ∀ w ∈ Ts, w.before args s = true) (hin : ∀ w ∈ wsX20, w ∈ Ts) (hown : s.vm.findClass RX2 = some m.cls) (I : c_I D o ap cA cR cU A ρ σ ra L f S z s H0 H locs) (hlink : (Cond.fieldLink RX2 index RX2 (TX2 9).2.1 (TX2 9).2.2.1).before args s = true) (hdg : decode cc pc = .ok (.putfield index, 3)) {x : Int32} (kk : ∀ (H1 : Heap) (locs1 : List Loc), c_I D o ap cA cR cU A ρ σ ra L f (sF S 25 x) z s H0 H1 locs1 → W p l e R s m args below meth c H1 locs1 cells slots Q (F0 m (pc + 3) ls rest)) : W p l e R s m args below meth c H locs cells slots Q (F0 m pc ls (.int x :: .ref o :: rest)) :=
  c_put (S2 := sF S 25 x) (z2 := z) hx hb hts hin hown I 9 (by decide) rfl rfl (by decide +kernel) rfl I.2.2.2.2 hlink hdg kk
theorem c_get10 (hx : p.tables.exec = Jvm.exec) (hb : c.code = cc) (hts : ∀ w ∈ Ts, w.before args s = true) (hin : ∀ w ∈ wsX20, w ∈ Ts) (hown : s.vm.findClass RX2 = some m.cls) (I : c_I D o ap cA cR cU A ρ σ ra L f S z s H0 H locs) (hlink : (Cond.fieldLink RX2 index RX2 (TX2 10).2.1 (TX2 10).2.2.1).before args s = true) (hdg : decode cc pc = .ok (.getfield index, 3)) {x : Int32} (hv : S.1 18 = x) (kk : W p l e R s m args below meth c H locs cells slots Q (F0 m (pc + 3) ls (.int x :: rest))) : W p l e R s m args below meth c H locs cells slots Q (F0 m pc ls (.ref o :: rest)) := by
  subst hv
  exact c_get hx hb hts hin hown I 10 (by decide) rfl rfl hlink hdg kk
theorem c_put10 (hx : p.tables.exec = Jvm.exec) (hb : c.code = cc) (hts : ∀ w ∈ Ts, w.before args s = true) (hin : ∀ w ∈ wsX20, w ∈ Ts) (hown : s.vm.findClass RX2 = some m.cls) (I : c_I D o ap cA cR cU A ρ σ ra L f S z s H0 H locs) (hlink : (Cond.fieldLink RX2 index RX2 (TX2 10).2.1 (TX2 10).2.2.1).before args s = true) (hdg : decode cc pc = .ok (.putfield index, 3)) {x : Int32} (kk : ∀ (H1 : Heap) (locs1 : List Loc), c_I D o ap cA cR cU A ρ σ ra L f (sF S 18 x) z s H0 H1 locs1 → W p l e R s m args below meth c H1 locs1 cells slots Q (F0 m (pc + 3) ls rest)) : W p l e R s m args below meth c H locs cells slots Q (F0 m pc ls (.int x :: .ref o :: rest)) :=
  c_put (S2 := sF S 18 x) (z2 := z) hx hb hts hin hown I 10 (by decide) rfl rfl (by decide +kernel) rfl I.2.2.2.2 hlink hdg kk
theorem c_get11 (hx : p.tables.exec = Jvm.exec) (hb : c.code = cc) (hts : ∀ w ∈ Ts, w.before args s = true) (hin : ∀ w ∈ wsX20, w ∈ Ts) (hown : s.vm.findClass RX2 = some m.cls) (I : c_I D o ap cA cR cU A ρ σ ra L f S z s H0 H locs) (hlink : (Cond.fieldLink RX2 index RX2 (TX2 11).2.1 (TX2 11).2.2.1).before args s = true) (hdg : decode cc pc = .ok (.getfield index, 3)) {x : Int32} (hv : S.1 20 = x) (kk : W p l e R s m args below meth c H locs cells slots Q (F0 m (pc + 3) ls (.int x :: rest))) : W p l e R s m args below meth c H locs cells slots Q (F0 m pc ls (.ref o :: rest)) := by
  subst hv
  exact c_get hx hb hts hin hown I 11 (by decide) rfl rfl hlink hdg kk
theorem c_put11 (hx : p.tables.exec = Jvm.exec) (hb : c.code = cc) (hts : ∀ w ∈ Ts, w.before args s = true) (hin : ∀ w ∈ wsX20, w ∈ Ts) (hown : s.vm.findClass RX2 = some m.cls) (I : c_I D o ap cA cR cU A ρ σ ra L f S z s H0 H locs) (hlink : (Cond.fieldLink RX2 index RX2 (TX2 11).2.1 (TX2 11).2.2.1).before args s = true) (hdg : decode cc pc = .ok (.putfield index, 3)) {x : Int32} (kk : ∀ (H1 : Heap) (locs1 : List Loc), c_I D o ap cA cR cU A ρ σ ra L f (sF S 20 x) z s H0 H1 locs1 → W p l e R s m args below meth c H1 locs1 cells slots Q (F0 m (pc + 3) ls rest)) : W p l e R s m args below meth c H locs cells slots Q (F0 m pc ls (.int x :: .ref o :: rest)) :=
  c_put (S2 := sF S 20 x) (z2 := z) hx hb hts hin hown I 11 (by decide) rfl rfl (by decide +kernel) rfl I.2.2.2.2 hlink hdg kk
theorem c_get12 (hx : p.tables.exec = Jvm.exec) (hb : c.code = cc) (hts : ∀ w ∈ Ts, w.before args s = true) (hin : ∀ w ∈ wsX20, w ∈ Ts) (hown : s.vm.findClass RX2 = some m.cls) (I : c_I D o ap cA cR cU A ρ σ ra L f S z s H0 H locs) (hlink : (Cond.fieldLink RX2 index RX2 (TX2 12).2.1 (TX2 12).2.2.1).before args s = true) (hdg : decode cc pc = .ok (.getfield index, 3)) {x : Int32} (hv : S.1 21 = x) (kk : W p l e R s m args below meth c H locs cells slots Q (F0 m (pc + 3) ls (.int x :: rest))) : W p l e R s m args below meth c H locs cells slots Q (F0 m pc ls (.ref o :: rest)) := by
  subst hv
  exact c_get hx hb hts hin hown I 12 (by decide) rfl rfl hlink hdg kk
theorem c_put12 (hx : p.tables.exec = Jvm.exec) (hb : c.code = cc) (hts : ∀ w ∈ Ts, w.before args s = true) (hin : ∀ w ∈ wsX20, w ∈ Ts) (hown : s.vm.findClass RX2 = some m.cls) (I : c_I D o ap cA cR cU A ρ σ ra L f S z s H0 H locs) (hlink : (Cond.fieldLink RX2 index RX2 (TX2 12).2.1 (TX2 12).2.2.1).before args s = true) (hdg : decode cc pc = .ok (.putfield index, 3)) {x : Int32} (kk : ∀ (H1 : Heap) (locs1 : List Loc), c_I D o ap cA cR cU A ρ σ ra L f (sF S 21 x) z s H0 H1 locs1 → W p l e R s m args below meth c H1 locs1 cells slots Q (F0 m (pc + 3) ls rest)) : W p l e R s m args below meth c H locs cells slots Q (F0 m pc ls (.int x :: .ref o :: rest)) :=
  c_put (S2 := sF S 21 x) (z2 := z) hx hb hts hin hown I 12 (by decide) rfl rfl (by decide +kernel) rfl I.2.2.2.2 hlink hdg kk
theorem c_get13 (hx : p.tables.exec = Jvm.exec) (hb : c.code = cc) (hts : ∀ w ∈ Ts, w.before args s = true) (hin : ∀ w ∈ wsX20, w ∈ Ts) (hown : s.vm.findClass RX2 = some m.cls) (I : c_I D o ap cA cR cU A ρ σ ra L f S z s H0 H locs) (hlink : (Cond.fieldLink RX2 index RX2 (TX2 13).2.1 (TX2 13).2.2.1).before args s = true) (hdg : decode cc pc = .ok (.getfield index, 3)) {x : Int32} (hv : S.1 22 = x) (kk : W p l e R s m args below meth c H locs cells slots Q (F0 m (pc + 3) ls (.int x :: rest))) : W p l e R s m args below meth c H locs cells slots Q (F0 m pc ls (.ref o :: rest)) := by
  subst hv
  exact c_get hx hb hts hin hown I 13 (by decide) rfl rfl hlink hdg kk
theorem c_put13 (hx : p.tables.exec = Jvm.exec) (hb : c.code = cc) (hts : ∀ w ∈ Ts, w.before args s = true) (hin : ∀ w ∈ wsX20, w ∈ Ts) (hown : s.vm.findClass RX2 = some m.cls) (I : c_I D o ap cA cR cU A ρ σ ra L f S z s H0 H locs) (hlink : (Cond.fieldLink RX2 index RX2 (TX2 13).2.1 (TX2 13).2.2.1).before args s = true) (hdg : decode cc pc = .ok (.putfield index, 3)) {x : Int32} (kk : ∀ (H1 : Heap) (locs1 : List Loc), c_I D o ap cA cR cU A ρ σ ra L f (sF S 22 x) z s H0 H1 locs1 → W p l e R s m args below meth c H1 locs1 cells slots Q (F0 m (pc + 3) ls rest)) : W p l e R s m args below meth c H locs cells slots Q (F0 m pc ls (.int x :: .ref o :: rest)) :=
  c_put (S2 := sF S 22 x) (z2 := z) hx hb hts hin hown I 13 (by decide) rfl rfl (by decide +kernel) rfl I.2.2.2.2 hlink hdg kk
theorem c_get14 (hx : p.tables.exec = Jvm.exec) (hb : c.code = cc) (hts : ∀ w ∈ Ts, w.before args s = true) (hin : ∀ w ∈ wsX20, w ∈ Ts) (hown : s.vm.findClass RX2 = some m.cls) (I : c_I D o ap cA cR cU A ρ σ ra L f S z s H0 H locs) (hlink : (Cond.fieldLink RX2 index RX2 (TX2 14).2.1 (TX2 14).2.2.1).before args s = true) (hdg : decode cc pc = .ok (.getfield index, 3)) {x : Int32} (hv : S.1 23 = x) (kk : W p l e R s m args below meth c H locs cells slots Q (F0 m (pc + 3) ls (.int x :: rest))) : W p l e R s m args below meth c H locs cells slots Q (F0 m pc ls (.ref o :: rest)) := by
  subst hv
  exact c_get hx hb hts hin hown I 14 (by decide) rfl rfl hlink hdg kk
theorem c_put14 (hx : p.tables.exec = Jvm.exec) (hb : c.code = cc) (hts : ∀ w ∈ Ts, w.before args s = true) (hin : ∀ w ∈ wsX20, w ∈ Ts) (hown : s.vm.findClass RX2 = some m.cls) (I : c_I D o ap cA cR cU A ρ σ ra L f S z s H0 H locs) (hlink : (Cond.fieldLink RX2 index RX2 (TX2 14).2.1 (TX2 14).2.2.1).before args s = true) (hdg : decode cc pc = .ok (.putfield index, 3)) {x : Int32} (kk : ∀ (H1 : Heap) (locs1 : List Loc), c_I D o ap cA cR cU A ρ σ ra L f (sF S 23 x) z s H0 H1 locs1 → W p l e R s m args below meth c H1 locs1 cells slots Q (F0 m (pc + 3) ls rest)) : W p l e R s m args below meth c H locs cells slots Q (F0 m pc ls (.int x :: .ref o :: rest)) :=
  c_put (S2 := sF S 23 x) (z2 := z) hx hb hts hin hown I 14 (by decide) rfl rfl (by decide +kernel) rfl I.2.2.2.2 hlink hdg kk
theorem c_get15 (hx : p.tables.exec = Jvm.exec) (hb : c.code = cc) (hts : ∀ w ∈ Ts, w.before args s = true) (hin : ∀ w ∈ wsX20, w ∈ Ts) (hown : s.vm.findClass RX2 = some m.cls) (I : c_I D o ap cA cR cU A ρ σ ra L f S z s H0 H locs) (hlink : (Cond.fieldLink RX2 index RX2 (TX2 15).2.1 (TX2 15).2.2.1).before args s = true) (hdg : decode cc pc = .ok (.getfield index, 3)) {x : Int32} (hv : S.1 24 = x) (kk : W p l e R s m args below meth c H locs cells slots Q (F0 m (pc + 3) ls (.int x :: rest))) : W p l e R s m args below meth c H locs cells slots Q (F0 m pc ls (.ref o :: rest)) := by
  subst hv
  exact c_get hx hb hts hin hown I 15 (by decide) rfl rfl hlink hdg kk
theorem c_put15 (hx : p.tables.exec = Jvm.exec) (hb : c.code = cc) (hts : ∀ w ∈ Ts, w.before args s = true) (hin : ∀ w ∈ wsX20, w ∈ Ts) (hown : s.vm.findClass RX2 = some m.cls) (I : c_I D o ap cA cR cU A ρ σ ra L f S z s H0 H locs) (hlink : (Cond.fieldLink RX2 index RX2 (TX2 15).2.1 (TX2 15).2.2.1).before args s = true) (hdg : decode cc pc = .ok (.putfield index, 3)) {x : Int32} (kk : ∀ (H1 : Heap) (locs1 : List Loc), c_I D o ap cA cR cU A ρ σ ra L f (sF S 24 x) z s H0 H1 locs1 → W p l e R s m args below meth c H1 locs1 cells slots Q (F0 m (pc + 3) ls rest)) : W p l e R s m args below meth c H locs cells slots Q (F0 m pc ls (.int x :: .ref o :: rest)) :=
  c_put (S2 := sF S 24 x) (z2 := z) hx hb hts hin hown I 15 (by decide) rfl rfl (by decide +kernel) rfl I.2.2.2.2 hlink hdg kk
theorem c_ald0 (hx : p.tables.exec = Jvm.exec) (hb : c.code = cc) (I : c_I D o ap cA cR cU A ρ σ ra L f S z s H0 H locs) {i : Int32} (hi : vp_in i 8) (hdg : decode cc pc = .ok (.iaload, 1)) {x : Int32} (hv : S.2 0 i.toNatClampNeg = x) (kk : W p l e R s m args below meth c H locs cells slots Q (F0 m (pc + 1) ls (.int x :: rest))) : W p l e R s m args below meth c H locs cells slots Q (F0 m pc ls (.int i :: .ref (ap 0) :: rest)) :=
  c_iald hx hb I 0 1 rfl hi hdg hv kk
theorem c_ast0 (hx : p.tables.exec = Jvm.exec) (hb : c.code = cc) (I : c_I D o ap cA cR cU A ρ σ ra L f S z s H0 H locs) {i x : Int32} (hi : vp_in i 8) (hdg : decode cc pc = .ok (.iastore, 1)) (kk : ∀ (H1 : Heap) (locs1 : List Loc), c_I D o ap cA cR cU A ρ σ ra L f (sA S 0 i.toNatClampNeg x) z s H0 H1 locs1 → W p l e R s m args below meth c H1 locs1 cells slots Q (F0 m (pc + 1) ls rest)) : W p l e R s m args below meth c H locs cells slots Q (F0 m pc ls (.int x :: .int i :: .ref (ap 0) :: rest)) :=
  c_iast (S2 := sA S 0 i.toNatClampNeg x) (z2 := z) hx hb I 0 1 rfl rfl I.2.2.2.2 hi hdg kk
theorem c_ald4 (hx : p.tables.exec = Jvm.exec) (hb : c.code = cc) (I : c_I D o ap cA cR cU A ρ σ ra L f S z s H0 H locs) {i : Int32} (hi : vp_in i 10) (hdg : decode cc pc = .ok (.iaload, 1)) {x : Int32} (hv : z.2.2 4 i.toNatClampNeg = x) (kk : W p l e R s m args below meth c H locs cells slots Q (F0 m (pc + 1) ls (.int x :: rest))) : W p l e R s m args below meth c H locs cells slots Q (F0 m pc ls (.int i :: .ref (ap 4) :: rest)) :=
  c_iald hx hb I 4 4 rfl hi hdg hv kk
theorem c_ast4 (hx : p.tables.exec = Jvm.exec) (hb : c.code = cc) (I : c_I D o ap cA cR cU A ρ σ ra L f S z s H0 H locs) {i x : Int32} (hi : vp_in i 10) (hdg : decode cc pc = .ok (.iastore, 1)) (kk : ∀ (H1 : Heap) (locs1 : List Loc), c_I D o ap cA cR cU A ρ σ ra L f S (zA z 4 i.toNatClampNeg x) s H0 H1 locs1 → W p l e R s m args below meth c H1 locs1 cells slots Q (F0 m (pc + 1) ls rest)) : W p l e R s m args below meth c H locs cells slots Q (F0 m pc ls (.int x :: .int i :: .ref (ap 4) :: rest)) :=
  c_iast (S2 := S) (z2 := zA z 4 i.toNatClampNeg x) hx hb I 4 4 rfl rfl I.2.2.2.2 hi hdg kk
theorem c_ald5 (hx : p.tables.exec = Jvm.exec) (hb : c.code = cc) (I : c_I D o ap cA cR cU A ρ σ ra L f S z s H0 H locs) {i : Int32} (hi : vp_in i 10) (hdg : decode cc pc = .ok (.iaload, 1)) {x : Int32} (hv : z.2.2 5 i.toNatClampNeg = x) (kk : W p l e R s m args below meth c H locs cells slots Q (F0 m (pc + 1) ls (.int x :: rest))) : W p l e R s m args below meth c H locs cells slots Q (F0 m pc ls (.int i :: .ref (ap 5) :: rest)) :=
  c_iald hx hb I 5 5 rfl hi hdg hv kk
theorem c_ast5 (hx : p.tables.exec = Jvm.exec) (hb : c.code = cc) (I : c_I D o ap cA cR cU A ρ σ ra L f S z s H0 H locs) {i x : Int32} (hi : vp_in i 10) (hdg : decode cc pc = .ok (.iastore, 1)) (kk : ∀ (H1 : Heap) (locs1 : List Loc), c_I D o ap cA cR cU A ρ σ ra L f S (zA z 5 i.toNatClampNeg x) s H0 H1 locs1 → W p l e R s m args below meth c H1 locs1 cells slots Q (F0 m (pc + 1) ls rest)) : W p l e R s m args below meth c H locs cells slots Q (F0 m pc ls (.int x :: .int i :: .ref (ap 5) :: rest)) :=
  c_iast (S2 := S) (z2 := zA z 5 i.toNatClampNeg x) hx hb I 5 5 rfl rfl I.2.2.2.2 hi hdg kk
theorem c_ald6 (hx : p.tables.exec = Jvm.exec) (hb : c.code = cc) (I : c_I D o ap cA cR cU A ρ σ ra L f S z s H0 H locs) {i : Int32} (hi : vp_in i 10) (hdg : decode cc pc = .ok (.iaload, 1)) {x : Int32} (hv : z.2.2 6 i.toNatClampNeg = x) (kk : W p l e R s m args below meth c H locs cells slots Q (F0 m (pc + 1) ls (.int x :: rest))) : W p l e R s m args below meth c H locs cells slots Q (F0 m pc ls (.int i :: .ref (ap 6) :: rest)) :=
  c_iald hx hb I 6 6 rfl hi hdg hv kk
theorem c_ast6 (hx : p.tables.exec = Jvm.exec) (hb : c.code = cc) (I : c_I D o ap cA cR cU A ρ σ ra L f S z s H0 H locs) {i x : Int32} (hi : vp_in i 10) (hdg : decode cc pc = .ok (.iastore, 1)) (kk : ∀ (H1 : Heap) (locs1 : List Loc), c_I D o ap cA cR cU A ρ σ ra L f S (zA z 6 i.toNatClampNeg x) s H0 H1 locs1 → W p l e R s m args below meth c H1 locs1 cells slots Q (F0 m (pc + 1) ls rest)) : W p l e R s m args below meth c H locs cells slots Q (F0 m pc ls (.int x :: .int i :: .ref (ap 6) :: rest)) :=
  c_iast (S2 := S) (z2 := zA z 6 i.toNatClampNeg x) hx hb I 6 6 rfl rfl I.2.2.2.2 hi hdg kk
/-- rows[r]: nothing, or the row -/
theorem c_row_ld (hx : p.tables.exec = Jvm.exec) (hb : c.code = cc) (I : c_I D o ap cA cR cU A ρ σ ra L f S z s H0 H locs) {i : Int32} (hi : vp_in i 4) (hdg : decode cc pc = .ok (.aaload, 1))
    (kn : S.2 1 i.toNatClampNeg < 0 → W p l e R s m args below meth c H locs cells slots Q (F0 m (pc + 1) ls (.null :: rest))) (kr : ¬ S.2 1 i.toNatClampNeg < 0 → W p l e R s m args below meth c H locs cells slots Q (F0 m (pc + 1) ls (.ref (ρ (S.2 1 i.toNatClampNeg).toNatClampNeg) :: rest))) : W p l e R s m args below meth c H locs cells slots Q (F0 m pc ls (.int i :: .ref (ap 1) :: rest)) := by
  refine va_aldq hx hb I.2.1 I.1 2 1 rfl rfl hi hdg ?_
  have e : c_rows ρ S i.toNatClampNeg = c_ref ρ (S.2 1 i.toNatClampNeg) := if_pos (ix_nI hi (by decide)).2
  rw [e]
  unfold c_ref
  by_cases h : S.2 1 i.toNatClampNeg < 0
  · rw [if_pos h]; exact kn h
  · rw [if_neg h]; exact kr h
/-- rules[k] -/
theorem c_rule_ld (hx : p.tables.exec = Jvm.exec) (hb : c.code = cc) (I : c_I D o ap cA cR cU A ρ σ ra L f S z s H0 H locs) {k : Nat} (hk : k < (S.1 4).toNatClampNeg) (h40 : k < 40) (hdg : decode cc pc = .ok (.aaload, 1))
    (kr : W p l e R s m args below meth c H locs cells slots Q (F0 m (pc + 1) ls (.ref (ra k) :: rest))) : W p l e R s m args below meth c H locs cells slots Q (F0 m pc ls (.int (nI k) :: .ref (ap 2) :: rest)) := by
  refine va_aldq hx hb I.2.1 I.1 3 2 rfl rfl (vp_in_nI h40 (by decide)) hdg ?_
  have e : c_rules ra S (nI k).toNatClampNeg = some (ra k) := by rw [nI_clamp (by omega)]; exact if_pos hk
  rw [e]
  exact kr
theorem c_rget (hx : p.tables.exec = Jvm.exec) (hb : c.code = cc) (hts : ∀ w ∈ Ts, w.before args s = true) (hin : ∀ w ∈ wsX10, w ∈ Ts) (hown : s.vm.findClass RX2 = some m.cls) (I : c_I D o ap cA cR cU A ρ σ ra L f S z s H0 H locs) {k : Nat} (hk : k < (S.1 4).toNatClampNeg) (j : Nat) (hj : j < 6) (hT : (TX1 j).1 = RX1) {v : Value} (hv : ([.int (S.2 5 k), .int (S.2 6 k), .int (S.2 7 k), .int (S.2 8 k), va_rf (c_ref ρ (S.2 9 k)), .int (S.2 10 k)] : List Value)[j]? = some v) (hlink : (Cond.fieldLink RX2 index RX1 (TX1 j).2.1 (TX1 j).2.2.1).before args s = true) (hdg : decode cc pc = .ok (.getfield index, 3))
    (kk : W p l e R s m args below meth c H locs cells slots Q (F0 m (pc + 3) ls (v :: rest))) : W p l e R s m args below meth c H locs cells slots Q (F0 m pc ls (.ref (ra k) :: rest)) := by
  obtain ⟨g1, g2⟩ := I.2.2.2.2.1 k hk
  obtain ⟨n, hn⟩ := va_pl_get (X := c_X o ap cA cR cU ρ ra S z) (f := f) g1
  rw [g2] at hn
  exact va_get (D := D) (cl := vwCl) (C := RX1) (T := TX1) (N := 6) (ci := 1) hx hb hts hin hown I.2.1 I.1 n hn rfl j hj hlink (fun _ h => hT ▸ h) hv hdg kk
theorem c_rget0 (hx : p.tables.exec = Jvm.exec) (hb : c.code = cc) (hts : ∀ w ∈ Ts, w.before args s = true) (hin : ∀ w ∈ wsX10, w ∈ Ts) (hown : s.vm.findClass RX2 = some m.cls) (I : c_I D o ap cA cR cU A ρ σ ra L f S z s H0 H locs) {k : Nat} (hk : k < (S.1 4).toNatClampNeg) (hlink : (Cond.fieldLink RX2 index RX1 (TX1 0).2.1 (TX1 0).2.2.1).before args s = true) (hdg : decode cc pc = .ok (.getfield index, 3)) {x : Int32} (hv : S.2 5 k = x) (kk : W p l e R s m args below meth c H locs cells slots Q (F0 m (pc + 3) ls (.int x :: rest))) : W p l e R s m args below meth c H locs cells slots Q (F0 m pc ls (.ref (ra k) :: rest)) := by
  subst hv
  exact c_rget hx hb hts hin hown I hk 0 (by decide) rfl rfl hlink hdg kk
theorem c_rget1 (hx : p.tables.exec = Jvm.exec) (hb : c.code = cc) (hts : ∀ w ∈ Ts, w.before args s = true) (hin : ∀ w ∈ wsX10, w ∈ Ts) (hown : s.vm.findClass RX2 = some m.cls) (I : c_I D o ap cA cR cU A ρ σ ra L f S z s H0 H locs) {k : Nat} (hk : k < (S.1 4).toNatClampNeg) (hlink : (Cond.fieldLink RX2 index RX1 (TX1 1).2.1 (TX1 1).2.2.1).before args s = true) (hdg : decode cc pc = .ok (.getfield index, 3)) {x : Int32} (hv : S.2 6 k = x) (kk : W p l e R s m args below meth c H locs cells slots Q (F0 m (pc + 3) ls (.int x :: rest))) : W p l e R s m args below meth c H locs cells slots Q (F0 m pc ls (.ref (ra k) :: rest)) := by
  subst hv
  exact c_rget hx hb hts hin hown I hk 1 (by decide) rfl rfl hlink hdg kk
theorem c_rget2 (hx : p.tables.exec = Jvm.exec) (hb : c.code = cc) (hts : ∀ w ∈ Ts, w.before args s = true) (hin : ∀ w ∈ wsX10, w ∈ Ts) (hown : s.vm.findClass RX2 = some m.cls) (I : c_I D o ap cA cR cU A ρ σ ra L f S z s H0 H locs) {k : Nat} (hk : k < (S.1 4).toNatClampNeg) (hlink : (Cond.fieldLink RX2 index RX1 (TX1 2).2.1 (TX1 2).2.2.1).before args s = true) (hdg : decode cc pc = .ok (.getfield index, 3)) {x : Int32} (hv : S.2 7 k = x) (kk : W p l e R s m args below meth c H locs cells slots Q (F0 m (pc + 3) ls (.int x :: rest))) : W p l e R s m args below meth c H locs cells slots Q (F0 m pc ls (.ref (ra k) :: rest)) := by
  subst hv
  exact c_rget hx hb hts hin hown I hk 2 (by decide) rfl rfl hlink hdg kk
theorem c_rget3 (hx : p.tables.exec = Jvm.exec) (hb : c.code = cc) (hts : ∀ w ∈ Ts, w.before args s = true) (hin : ∀ w ∈ wsX10, w ∈ Ts) (hown : s.vm.findClass RX2 = some m.cls) (I : c_I D o ap cA cR cU A ρ σ ra L f S z s H0 H locs) {k : Nat} (hk : k < (S.1 4).toNatClampNeg) (hlink : (Cond.fieldLink RX2 index RX1 (TX1 3).2.1 (TX1 3).2.2.1).before args s = true) (hdg : decode cc pc = .ok (.getfield index, 3)) {x : Int32} (hv : S.2 8 k = x) (kk : W p l e R s m args below meth c H locs cells slots Q (F0 m (pc + 3) ls (.int x :: rest))) : W p l e R s m args below meth c H locs cells slots Q (F0 m pc ls (.ref (ra k) :: rest)) := by
  subst hv
  exact c_rget hx hb hts hin hown I hk 3 (by decide) rfl rfl hlink hdg kk
theorem c_rget5 (hx : p.tables.exec = Jvm.exec) (hb : c.code = cc) (hts : ∀ w ∈ Ts, w.before args s = true) (hin : ∀ w ∈ wsX10, w ∈ Ts) (hown : s.vm.findClass RX2 = some m.cls) (I : c_I D o ap cA cR cU A ρ σ ra L f S z s H0 H locs) {k : Nat} (hk : k < (S.1 4).toNatClampNeg) (hlink : (Cond.fieldLink RX2 index RX1 (TX1 5).2.1 (TX1 5).2.2.1).before args s = true) (hdg : decode cc pc = .ok (.getfield index, 3)) {x : Int32} (hv : S.2 10 k = x) (kk : W p l e R s m args below meth c H locs cells slots Q (F0 m (pc + 3) ls (.int x :: rest))) : W p l e R s m args below meth c H locs cells slots Q (F0 m pc ls (.ref (ra k) :: rest)) := by
  subst hv
  exact c_rget hx hb hts hin hown I hk 5 (by decide) rfl rfl hlink hdg kk
theorem c_rget4 (hx : p.tables.exec = Jvm.exec) (hb : c.code = cc) (hts : ∀ w ∈ Ts, w.before args s = true) (hin : ∀ w ∈ wsX10, w ∈ Ts) (hown : s.vm.findClass RX2 = some m.cls) (I : c_I D o ap cA cR cU A ρ σ ra L f S z s H0 H locs) {k : Nat} (hk : k < (S.1 4).toNatClampNeg) (hlink : (Cond.fieldLink RX2 index RX1 (TX1 4).2.1 (TX1 4).2.2.1).before args s = true) (hdg : decode cc pc = .ok (.getfield index, 3))
    (kn : S.2 9 k < 0 → W p l e R s m args below meth c H locs cells slots Q (F0 m (pc + 3) ls (.null :: rest))) (kr : ¬ S.2 9 k < 0 → W p l e R s m args below meth c H locs cells slots Q (F0 m (pc + 3) ls (.ref (ρ (S.2 9 k).toNatClampNeg) :: rest))) : W p l e R s m args below meth c H locs cells slots Q (F0 m pc ls (.ref (ra k) :: rest)) := by
  refine c_rget hx hb hts hin hown I hk 4 (by decide) rfl rfl hlink hdg ?_
  unfold c_ref
  by_cases h : S.2 9 k < 0
  · rw [if_pos h]; exact kn h
  · rw [if_neg h]; exact kr h
theorem c_G_ne {q k : Nat} (h : c_G cA ρ σ ra L f S) (hk : k < (S.1 4).toNatClampNeg) (hq : c_held S q) : ρ q ≠ ra k ∧ σ q ≠ ra k ∧ σ q ≠ ρ q := by
  obtain ⟨g1, g2⟩ := h.1 k hk
  obtain ⟨a1, a2, a3, a4⟩ := h.2.1 q hq
  refine ⟨fun e => ?_, fun e => ?_, fun e => ?_⟩
  · rw [e, g2] at a2
    unfold c_rule at a2
    injection a2 with a2
    have a3 : (1 : Nat) = 0 := congrArg Prod.fst a2
    omega
  · rw [e, g2] at a4
    unfold c_rule c_row at a4
    cases a4
  · rw [e, a2] at a4
    unfold c_row at a4
    cases a4
theorem c_G_own {k : Nat} (h : c_G cA ρ σ ra L f S) (hk : k < (S.1 4).toNatClampNeg) (x : Int32) : c_G cA ρ σ ra L (va_up f (ra k) (.inr (1, [.int (S.2 5 k), .int (S.2 6 k), .int (S.2 7 k), .int (S.2 8 k), va_rf (c_ref ρ (S.2 9 k)), .int x]))) (sA S 10 k x) := by
  refine ⟨fun j hj => ⟨(h.1 j hj).1, ?_⟩, fun q hq => ?_, h.2.2.1, h.2.2.2⟩
  · by_cases e : j = k
    · rw [e, va_up_self]
      unfold c_rule
      rw [sA_A S 10 k x 10 k, if_pos rfl, if_pos rfl]
      rfl
    · rw [va_up_ne _ _ (fun q => e (h.2.2.1 j k hj hk q)), (h.1 j hj).2]
      unfold c_rule
      rw [sA_A S 10 k x 10 j, if_pos rfl, if_neg e]
      rfl
  · obtain ⟨n1, n2, -⟩ := c_G_ne h hk hq
    obtain ⟨a1, a2, a3, a4⟩ := h.2.1 q hq
    exact ⟨a1, by rw [va_up_ne _ _ n1]; exact a2, a3, by rw [va_up_ne _ _ n2]; exact a4⟩
/-- rule.own = x -/
theorem c_rown (hx : p.tables.exec = Jvm.exec) (hb : c.code = cc) (hts : ∀ w ∈ Ts, w.before args s = true) (hin : ∀ w ∈ wsX10, w ∈ Ts) (hown : s.vm.findClass RX2 = some m.cls) (I : c_I D o ap cA cR cU A ρ σ ra L f S z s H0 H locs) {k : Nat} (hk : k < (S.1 4).toNatClampNeg) {x : Int32} (hlink : (Cond.fieldLink RX2 index RX1 (TX1 5).2.1 (TX1 5).2.2.1).before args s = true) (hdg : decode cc pc = .ok (.putfield index, 3))
    (kk : ∀ (f1 : Nat → va_E) (H1 : Heap) (locs1 : List Loc), c_I D o ap cA cR cU A ρ σ ra L f1 (sA S 10 k x) z s H0 H1 locs1 → W p l e R s m args below meth c H1 locs1 cells slots Q (F0 m (pc + 3) ls rest)) : W p l e R s m args below meth c H locs cells slots Q (F0 m pc ls (.int x :: .ref (ra k) :: rest)) := by
  obtain ⟨g1, g2⟩ := I.2.2.2.2.1 k hk
  obtain ⟨n, hn0⟩ := va_pl_get (X := c_X o ap cA cR cU ρ ra S z) (f := f) g1
  have hn := hn0
  rw [g2] at hn
  refine va_put (D := D) (cl := vwCl) (C := RX1) (T := TX1) (N := 6) (ci := 1) (v := .int x) hx hb hts hin tyX1 tyX1_ok nmX1 hown I.2.1 I.1 I.2.2.1 I.2.2.2.1 n hn rfl 5 (by decide) hlink (fun _ h => h) rfl (ty := .int) (by decide +kernel) rfl rfl (Nat.le_of_ble_eq_true rfl) hdg (fun H1 locs1 hP hD hS => ?_)
  have e := va_pl_set (e := .inr (1, [.int (S.2 5 k), .int (S.2 6 k), .int (S.2 7 k), .int (S.2 8 k), va_rf (c_ref ρ (S.2 9 k)), .int x])) I.2.2.1 g1 hn0
  have hP : va_P D vwCl (List.set (c_X o ap cA cR cU ρ ra S z ++ va_pl L f) n _) H1 := hP
  have hD : va_D A (List.set (c_X o ap cA cR cU ρ ra S z ++ va_pl L f) n _) := hD
  have hP : va_P D vwCl _ H1 := e ▸ hP
  have hD : va_D A _ := e ▸ hD
  exact kk _ H1 locs1 ⟨hP, I.2.1, hD, hS, c_G_own I.2.2.2.2 hk x⟩
/-- row.items -/
theorem c_items_get (hx : p.tables.exec = Jvm.exec) (hb : c.code = cc) {own : String} (hts : ∀ w ∈ Ts, w.before args s = true) (hin : ∀ w ∈ wsX00, w ∈ Ts) (hown : s.vm.findClass own = some m.cls) (I : c_I D o ap cA cR cU A ρ σ ra L f S z s H0 H locs) {q : Nat} (hq : c_held S q) (hlink : (Cond.fieldLink own index RX0 (TX0 0).2.1 (TX0 0).2.2.1).before args s = true) (hdg : decode cc pc = .ok (.getfield index, 3))
    (kk : W p l e R s m args below meth c H locs cells slots Q (F0 m (pc + 3) ls (.ref (σ q) :: rest))) : W p l e R s m args below meth c H locs cells slots Q (F0 m pc ls (.ref (ρ q) :: rest)) := by
  obtain ⟨a1, a2, a3, a4⟩ := I.2.2.2.2.2.1 q hq
  obtain ⟨n, hn⟩ := va_pl_get (X := c_X o ap cA cR cU ρ ra S z) (f := f) a1
  rw [a2] at hn
  exact va_get (D := D) (cl := vwCl) (C := RX0) (T := TX0) (N := 1) (ci := 0) hx hb hts hin hown I.2.1 I.1 n hn rfl 0 (by decide) hlink (fun _ h => h) rfl hdg kk
theorem c_arr_len (hx : p.tables.exec = Jvm.exec) (hb : c.code = cc) (I : c_I D o ap cA cR cU A ρ σ ra L f S z s H0 H locs) {q : Nat} (hq : c_held S q) {n : Nat} (hn : S.2 2 q = nI n) (h31 : n < 2 ^ 31) (hdg : decode cc pc = .ok (.arraylength, 1))
    (kk : W p l e R s m args below meth c H locs cells slots Q (F0 m (pc + 1) ls (.int (nI n) :: rest))) : W p l e R s m args below meth c H locs cells slots Q (F0 m pc ls (.ref (σ q) :: rest)) := by
  obtain ⟨a1, a2, a3, a4⟩ := I.2.2.2.2.2.1 q hq
  obtain ⟨j, hj⟩ := va_pl_get (X := c_X o ap cA cR cU ρ ra S z) (f := f) a3
  rw [a4] at hj
  refine va_alen hx hb I.2.1 I.1 j 0 hj rfl (v := nI n) ?_ hdg kk
  show Int32.ofNat (S.2 2 q).toNatClampNeg = nI n
  rw [hn, nI_clamp h31]
  rfl
theorem c_arr_ld (hx : p.tables.exec = Jvm.exec) (hb : c.code = cc) (I : c_I D o ap cA cR cU A ρ σ ra L f S z s H0 H locs) {q : Nat} (hq : c_held S q) {n i : Nat} (hn : S.2 2 q = nI n) (h10 : n ≤ 10) (hi : i < n) (hdg : decode cc pc = .ok (.iaload, 1)) {x : Int32} (hv : S.2 3 (10 * q + i) = x)
    (kk : W p l e R s m args below meth c H locs cells slots Q (F0 m (pc + 1) ls (.int x :: rest))) : W p l e R s m args below meth c H locs cells slots Q (F0 m pc ls (.int (nI i) :: .ref (σ q) :: rest)) := by
  obtain ⟨a1, a2, a3, a4⟩ := I.2.2.2.2.2.1 q hq
  obtain ⟨j, hj⟩ := va_pl_get (X := c_X o ap cA cR cU ρ ra S z) (f := f) a3
  rw [a4] at hj
  refine va_iald hx hb I.2.1 I.1 j 0 hj rfl (i := nI i) ?_ hdg ?_
  · rw [hn, nI_clamp (by omega)]
    exact vp_in_nI hi (by omega)
  · have e : c_items S q (nI i).toNatClampNeg = x := by
      rw [nI_clamp (by omega)]
      unfold c_items
      rw [if_pos (by omega)]
      exact hv
    rw [e]
    exact kk
theorem c_G_item {q i : Nat} (h : c_G cA ρ σ ra L f S) (hq : c_held S q) (hi : i < 10) (x : Int32) : c_G cA ρ σ ra L (va_up f (σ q) (.inl (cA, (S.2 2 q).toNatClampNeg, .inl (upd (c_items S q) i x)))) (sA S 3 (10 * q + i) x) := by
  have hr : ∀ r, c_held S r → c_row cA (sA S 3 (10 * q + i) x) r = if r = q then .inl (cA, (S.2 2 q).toNatClampNeg, .inl (upd (c_items S q) i x)) else c_row cA S r := by
    intro r _
    by_cases e : r = q
    · rw [if_pos e, e]
      show (Sum.inl (cA, (S.2 2 q).toNatClampNeg, Sum.inl (c_items (sA S 3 (10 * q + i) x) q)) : va_E) = _
      congr 4
      funext j
      unfold c_items upd
      rw [sA_A, if_pos rfl]
      by_cases e2 : j = i
      · rw [e2, if_pos rfl, if_pos hi, if_pos rfl]
      · rw [if_neg e2, if_neg (c := 10 * q + j = 10 * q + i) (by omega)]
    · rw [if_neg e]
      show (Sum.inl (cA, (S.2 2 r).toNatClampNeg, Sum.inl (c_items (sA S 3 (10 * q + i) x) r)) : va_E) = _
      unfold c_row
      congr 4
      funext j
      unfold c_items
      rw [sA_A, if_pos rfl]
      by_cases e2 : j < 10
      · rw [if_pos e2, if_pos e2, if_neg (by omega)]
      · rw [if_neg e2, if_neg e2]
  obtain ⟨b1, b2, b3, b4⟩ := h.2.1 q hq
  refine ⟨fun j hj => ⟨(h.1 j hj).1, ?_⟩, fun r hrh => ?_, h.2.2.1, h.2.2.2⟩
  · rw [va_up_ne _ _ (fun e => (c_G_ne h hj hq).2.1 e.symm)]
    exact (h.1 j hj).2
  · have hrh : c_held S r := hrh
    obtain ⟨a1, a2, a3, a4⟩ := h.2.1 r hrh
    have hne : ρ r ≠ σ q := fun e => by
      rw [e, b4] at a2
      unfold c_row at a2
      cases a2
    refine ⟨a1, by rw [va_up_ne _ _ hne]; exact a2, a3, ?_⟩
    rw [hr r hrh]
    by_cases e : r = q
    · rw [if_pos e, e, va_up_self]
    · rw [if_neg e, va_up_ne _ _ (fun w => e (h.2.2.2 r q hrh hq w))]
      exact a4
/-- items[i] = x -/
theorem c_arr_st (hx : p.tables.exec = Jvm.exec) (hb : c.code = cc) (I : c_I D o ap cA cR cU A ρ σ ra L f S z s H0 H locs) {q : Nat} (hq : c_held S q) {n i : Nat} (hn : S.2 2 q = nI n) (h10 : n ≤ 10) (hi : i < n) {x : Int32} (hdg : decode cc pc = .ok (.iastore, 1))
    (kk : ∀ (f1 : Nat → va_E) (H1 : Heap) (locs1 : List Loc), c_I D o ap cA cR cU A ρ σ ra L f1 (sA S 3 (10 * q + i) x) z s H0 H1 locs1 → W p l e R s m args below meth c H1 locs1 cells slots Q (F0 m (pc + 1) ls rest)) : W p l e R s m args below meth c H locs cells slots Q (F0 m pc ls (.int x :: .int (nI i) :: .ref (σ q) :: rest)) := by
  obtain ⟨a1, a2, a3, a4⟩ := I.2.2.2.2.2.1 q hq
  obtain ⟨j, hj0⟩ := va_pl_get (X := c_X o ap cA cR cU ρ ra S z) (f := f) a3
  have hj := hj0
  rw [a4] at hj
  refine va_iast hx hb I.2.1 I.1 I.2.2.1 I.2.2.2.1 j 0 hj rfl (i := nI i) ?_ hdg (fun H1 locs1 hP hD hS => ?_)
  · rw [hn, nI_clamp (by omega)]
    exact vp_in_nI hi (by omega)
  · rw [nI_clamp (by omega)] at hP hD
    have e := va_pl_set (e := .inl (cA, (S.2 2 q).toNatClampNeg, .inl (upd (c_items S q) i x))) I.2.2.1 a3 hj0
    have hP : va_P D vwCl (List.set (c_X o ap cA cR cU ρ ra S z ++ va_pl L f) j _) H1 := hP
    have hD : va_D A (List.set (c_X o ap cA cR cU ρ ra S z ++ va_pl L f) j _) := hD
    have hP : va_P D vwCl _ H1 := e ▸ hP
    have hD : va_D A _ := e ▸ hD
    exact kk _ H1 locs1 ⟨hP, I.2.1, hD, hS, c_G_item I.2.2.2.2 hq (by omega) x⟩
theorem c_iret (hx : p.tables.exec = Jvm.exec) (hb : c.code = cc) (hr : meth.sig.returnType = some .int) (hlocks : meth.locks = false) (I : c_I D o ap cA cR cU A ρ σ ra L f S z s s.heap H locs) {post : Int32 → tr_S × tr_Z → Prop} {v : Int32} (hdg : decode cc pc = .ok (.ireturn, 1)) (hp : post v (S, z)) :
    W p l e R s m args below meth c H locs cells slots (MQ below (va_Qi post (c_E D o ap cA cR cU A ρ σ ra L) A) args s cells slots A) (F0 m pc ls [.int v]) :=
  W.iret hx hb hr (fun t ht hW => ⟨⟨v, (S, z), rfl, hp, f, I.to ht hW⟩, I.2.2.2.1.F ht⟩) I.2.2.2.1.2.2 hdg hlocks
theorem c_zret (hx : p.tables.exec = Jvm.exec) (hb : c.code = cc) (hr : meth.sig.returnType = some .boolean) (hlocks : meth.locks = false) (I : c_I D o ap cA cR cU A ρ σ ra L f S z s s.heap H locs) {post : Int32 → tr_S × tr_Z → Prop} {v : Int32} (hv : narrow .boolean (.int v) = .int v) (hdg : decode cc pc = .ok (.ireturn, 1)) (hp : post v (S, z)) :
    W p l e R s m args below meth c H locs cells slots (MQ below (va_Qi post (c_E D o ap cA cR cU A ρ σ ra L) A) args s cells slots A) (F0 m pc ls [.int v]) :=
  W.zret hx hb hr hv (fun t ht hW => ⟨⟨v, (S, z), rfl, hp, f, I.to ht hW⟩, I.2.2.2.1.F ht⟩) I.2.2.2.1.2.2 hdg hlocks
theorem c_lret (hx : p.tables.exec = Jvm.exec) (hb : c.code = cc) (hr : meth.sig.returnType = some .long) (hlocks : meth.locks = false) (I : c_I D o ap cA cR cU A ρ σ ra L f S z s s.heap H locs) {post : Int64 → tr_S × tr_Z → Prop} {v : Int64} (hdg : decode cc pc = .ok (.lreturn, 1)) (hp : post v (S, z)) :
    W p l e R s m args below meth c H locs cells slots (MQ below (va_Ql post (c_E D o ap cA cR cU A ρ σ ra L) A) args s cells slots A) (F0 m pc ls [.long v]) :=
  W.lret hx hb hr (fun t ht hW => ⟨⟨v, (S, z), rfl, hp, f, I.to ht hW⟩, I.2.2.2.1.F ht⟩) I.2.2.2.1.2.2 hdg hlocks
theorem c_vret (hx : p.tables.exec = Jvm.exec) (hb : c.code = cc) (hr : meth.sig.returnType = none) (hlocks : meth.locks = false) (I : c_I D o ap cA cR cU A ρ σ ra L f S z s s.heap H locs) {post : tr_S × tr_Z → Prop} (hdg : decode cc pc = .ok (.return_, 1)) (hp : post (S, z)) :
    W p l e R s m args below meth c H locs cells slots (MQ below (va_Qv post (c_E D o ap cA cR cU A ρ σ ra L) A) args s cells slots A) (F0 m pc ls []) :=
  W.vret hx hb hr (fun t ht hW => ⟨⟨(S, z), rfl, hp, f, I.to ht hW⟩, I.2.2.2.1.F ht⟩) I.2.2.2.1.2.2 hdg hlocks
variable {y : MethodName} {bytes : ByteArray} {maxL nL n : Nat} {ret : Option FieldType} {ws : List Cond} {rm : Room} {own : String} {av : List Value}
theorem c_calli {post : Int32 → tr_S × tr_Z → Prop} (X : CallFix p m c cc nL s args Ts own) (hM : c_Mi l y ws rm av D o ap cA cR cU A ρ σ ra L f S z post) (cw : CallW R s args own RX2 index y bytes maxL ret ws rm 0 0 n) (I : c_I D o ap cA cR cU A ρ σ ra L f S z s H0 H locs) (hn : av.length = n) (hsize : ls.size = nL) (hst : st0 = av.reverse ++ .ref o :: rest) (hroom : (rest.map fun v => v.category).sum ≤ 8) (hdg : decode cc pc = .ok (.invokevirtual index, 3)) (hf : cells ≤ R.cells ∧ slots ≤ R.slots)
    (kk : ∀ (r : Int32) (S1 : tr_S) (z1 : tr_Z) (f1 : Nat → va_E) (H1 : Heap) (locs1 : List Loc), post r (S1, z1) → c_I D o ap cA cR cU A ρ σ ra L f1 S1 z1 s H0 H1 locs1 → W p l e R s m args below meth c H1 locs1 cells slots Q (F0 m (pc + 3) ls (.int r :: rest))) : W p l e R s m args below meth c H locs cells slots Q (F0 m pc ls st0) := by
  refine va_calli (va_runV X hM cw ⟨c_B.blind, va_recv I.2.1 I.1 (ci := 2) (q0 := 0) rfl rfl, fun U hU hW => ⟨rfl, by rw [hU]; exact I.1, va_K.moved hW.alike I.2.1, I.2.2.1, I.2.2.2.2⟩⟩ rfl hn hsize hst (lv_room hroom) hdg hf) I.2.2.2.1 (fun q _ h => h) (fun q h => h) (fun r u t H1 locs1 ht hvm hp hB _ _ hS => ?_)
  subst ht
  obtain ⟨S1, z1⟩ := u
  obtain ⟨f1, b1, b2, b3, b4⟩ := hB
  exact kk r S1 z1 f1 _ locs1 hp ⟨b1, va_K.moved hvm.symm b2, b3, hS, b4⟩
theorem c_callv {post : tr_S × tr_Z → Prop} (X : CallFix p m c cc nL s args Ts own) (hM : c_Mv l y ws rm av D o ap cA cR cU A ρ σ ra L f S z post) (cw : CallW R s args own RX2 index y bytes maxL ret ws rm 0 0 n) (I : c_I D o ap cA cR cU A ρ σ ra L f S z s H0 H locs) (hn : av.length = n) (hsize : ls.size = nL) (hst : st0 = av.reverse ++ .ref o :: rest) (hroom : (rest.map fun v => v.category).sum ≤ 8) (hdg : decode cc pc = .ok (.invokevirtual index, 3)) (hf : cells ≤ R.cells ∧ slots ≤ R.slots)
    (kk : ∀ (S1 : tr_S) (z1 : tr_Z) (f1 : Nat → va_E) (H1 : Heap) (locs1 : List Loc), post (S1, z1) → c_I D o ap cA cR cU A ρ σ ra L f1 S1 z1 s H0 H1 locs1 → W p l e R s m args below meth c H1 locs1 cells slots Q (F0 m (pc + 3) ls rest)) : W p l e R s m args below meth c H locs cells slots Q (F0 m pc ls st0) := by
  refine va_callv (va_runV X hM cw ⟨c_B.blind, va_recv I.2.1 I.1 (ci := 2) (q0 := 0) rfl rfl, fun U hU hW => ⟨rfl, by rw [hU]; exact I.1, va_K.moved hW.alike I.2.1, I.2.2.1, I.2.2.2.2⟩⟩ rfl hn hsize hst (lv_room hroom) hdg hf) I.2.2.2.1 (fun q _ h => h) (fun q h => h) (fun u t H1 locs1 ht hvm hp hB _ _ hS => ?_)
  subst ht
  obtain ⟨S1, z1⟩ := u
  obtain ⟨f1, b1, b2, b3, b4⟩ := hB
  exact kk S1 z1 f1 _ locs1 hp ⟨b1, va_K.moved hvm.symm b2, b3, hS, b4⟩
end CR
