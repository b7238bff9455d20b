section
-- ===== PART A: goes FIRST, ahead of the names: the tables' words, and 'selects' of the private methods out of them =====
/-- a private method of a class that the tables say can be made, by its rows of tables_1 -/
def lw_okq (q : MethodName × Nat) : Prop := (q.1.cls ≠ "java/lang/invoke/MethodHandle" ∧ q.1.cls ≠ "java/lang/invoke/VarHandle") ∧ Cond.instantiable q.1.cls q.2 ∈ tables_1 ∧ Cond.privateMethod q.1 ∈ tables_1 ∧ Cond.instanceMethod q.1 ∈ tables_1
theorem lw_p0 : lw_okq (⟨"TollRules", "isAsTold", "(III)Z"⟩, 16) := ⟨⟨by decide +kernel, by decide +kernel⟩, List.mem_of_getElem? (i := 9) (by decide +kernel), List.mem_of_getElem? (i := 123) (by decide +kernel), List.mem_of_getElem? (i := 124) (by decide +kernel)⟩
theorem lw_p1 : lw_okq (⟨"TollRules", "isRule", "(I)Z"⟩, 16) := ⟨⟨by decide +kernel, by decide +kernel⟩, List.mem_of_getElem? (i := 9) (by decide +kernel), List.mem_of_getElem? (i := 127) (by decide +kernel), List.mem_of_getElem? (i := 128) (by decide +kernel)⟩
theorem lw_p2 : lw_okq (⟨"TollRules", "begin", "()V"⟩, 16) := ⟨⟨by decide +kernel, by decide +kernel⟩, List.mem_of_getElem? (i := 9) (by decide +kernel), List.mem_of_getElem? (i := 131) (by decide +kernel), List.mem_of_getElem? (i := 132) (by decide +kernel)⟩
theorem lw_p3 : lw_okq (⟨"TollRules", "give", "(II)I"⟩, 16) := ⟨⟨by decide +kernel, by decide +kernel⟩, List.mem_of_getElem? (i := 9) (by decide +kernel), List.mem_of_getElem? (i := 135) (by decide +kernel), List.mem_of_getElem? (i := 136) (by decide +kernel)⟩
theorem lw_p4 : lw_okq (⟨"TollRules", "refuse", "(II)I"⟩, 16) := ⟨⟨by decide +kernel, by decide +kernel⟩, List.mem_of_getElem? (i := 9) (by decide +kernel), List.mem_of_getElem? (i := 139) (by decide +kernel), List.mem_of_getElem? (i := 140) (by decide +kernel)⟩
theorem lw_p5 : lw_okq (⟨"TollRules", "giveItem", "(LTollRules$Row;II)I"⟩, 16) := ⟨⟨by decide +kernel, by decide +kernel⟩, List.mem_of_getElem? (i := 9) (by decide +kernel), List.mem_of_getElem? (i := 143) (by decide +kernel), List.mem_of_getElem? (i := 144) (by decide +kernel)⟩
theorem lw_p6 : lw_okq (⟨"TollRules", "giveRoom", "(II)I"⟩, 16) := ⟨⟨by decide +kernel, by decide +kernel⟩, List.mem_of_getElem? (i := 9) (by decide +kernel), List.mem_of_getElem? (i := 147) (by decide +kernel), List.mem_of_getElem? (i := 148) (by decide +kernel)⟩
theorem lw_p7 : lw_okq (⟨"TollRules", "giveByOthers", "(LTollRules$Rule;I)I"⟩, 16) := ⟨⟨by decide +kernel, by decide +kernel⟩, List.mem_of_getElem? (i := 9) (by decide +kernel), List.mem_of_getElem? (i := 151) (by decide +kernel), List.mem_of_getElem? (i := 152) (by decide +kernel)⟩
theorem lw_p8 : lw_okq (⟨"TollRules", "isRefused", "()Z"⟩, 16) := ⟨⟨by decide +kernel, by decide +kernel⟩, List.mem_of_getElem? (i := 9) (by decide +kernel), List.mem_of_getElem? (i := 155) (by decide +kernel), List.mem_of_getElem? (i := 156) (by decide +kernel)⟩
theorem lw_p9 : lw_okq (⟨"TollRules", "giveOtherWay", "(II)I"⟩, 16) := ⟨⟨by decide +kernel, by decide +kernel⟩, List.mem_of_getElem? (i := 9) (by decide +kernel), List.mem_of_getElem? (i := 159) (by decide +kernel), List.mem_of_getElem? (i := 160) (by decide +kernel)⟩
theorem lw_p10 : lw_okq (⟨"TollRules", "fail", "()I"⟩, 16) := ⟨⟨by decide +kernel, by decide +kernel⟩, List.mem_of_getElem? (i := 9) (by decide +kernel), List.mem_of_getElem? (i := 166) (by decide +kernel), List.mem_of_getElem? (i := 167) (by decide +kernel)⟩
theorem lw_p11 : lw_okq (⟨"TollRules", "sortOrigins", "(I)V"⟩, 16) := ⟨⟨by decide +kernel, by decide +kernel⟩, List.mem_of_getElem? (i := 9) (by decide +kernel), List.mem_of_getElem? (i := 230) (by decide +kernel), List.mem_of_getElem? (i := 231) (by decide +kernel)⟩
theorem lw_p12 : lw_okq (⟨"TollRules", "moveByOrigins", "([I)I"⟩, 16) := ⟨⟨by decide +kernel, by decide +kernel⟩, List.mem_of_getElem? (i := 9) (by decide +kernel), List.mem_of_getElem? (i := 234) (by decide +kernel), List.mem_of_getElem? (i := 235) (by decide +kernel)⟩
theorem lw_p13 : lw_okq (⟨"TollRules", "foldOne", "(III)I"⟩, 16) := ⟨⟨by decide +kernel, by decide +kernel⟩, List.mem_of_getElem? (i := 9) (by decide +kernel), List.mem_of_getElem? (i := 243) (by decide +kernel), List.mem_of_getElem? (i := 244) (by decide +kernel)⟩
theorem lw_p14 : lw_okq (⟨"TollRules", "rowsOfNothing", "()I"⟩, 16) := ⟨⟨by decide +kernel, by decide +kernel⟩, List.mem_of_getElem? (i := 9) (by decide +kernel), List.mem_of_getElem? (i := 270) (by decide +kernel), List.mem_of_getElem? (i := 271) (by decide +kernel)⟩
theorem lw_p15 : lw_okq (⟨"TollRulesModel", "newRow", "(I)I"⟩, 30) := ⟨⟨by decide +kernel, by decide +kernel⟩, List.mem_of_getElem? (i := 274) (by decide +kernel), List.mem_of_getElem? (i := 387) (by decide +kernel), List.mem_of_getElem? (i := 388) (by decide +kernel)⟩
def lw_privs_1 : List (MethodName × Nat) := [(⟨"TollRules", "isAsTold", "(III)Z"⟩, 16), (⟨"TollRules", "isRule", "(I)Z"⟩, 16), (⟨"TollRules", "begin", "()V"⟩, 16), (⟨"TollRules", "give", "(II)I"⟩, 16), (⟨"TollRules", "refuse", "(II)I"⟩, 16), (⟨"TollRules", "giveItem", "(LTollRules$Row;II)I"⟩, 16), (⟨"TollRules", "giveRoom", "(II)I"⟩, 16), (⟨"TollRules", "giveByOthers", "(LTollRules$Rule;I)I"⟩, 16), (⟨"TollRules", "isRefused", "()Z"⟩, 16), (⟨"TollRules", "giveOtherWay", "(II)I"⟩, 16), (⟨"TollRules", "fail", "()I"⟩, 16), (⟨"TollRules", "sortOrigins", "(I)V"⟩, 16), (⟨"TollRules", "moveByOrigins", "([I)I"⟩, 16), (⟨"TollRules", "foldOne", "(III)I"⟩, 16), (⟨"TollRules", "rowsOfNothing", "()I"⟩, 16), (⟨"TollRulesModel", "newRow", "(I)I"⟩, 30)]
theorem lw_r1 : ∀ q ∈ lw_privs_1, lw_okq q := List.forall_mem_cons.mpr ⟨lw_p0, List.forall_mem_cons.mpr ⟨lw_p1, List.forall_mem_cons.mpr ⟨lw_p2, List.forall_mem_cons.mpr ⟨lw_p3, List.forall_mem_cons.mpr ⟨lw_p4, List.forall_mem_cons.mpr ⟨lw_p5, List.forall_mem_cons.mpr ⟨lw_p6, List.forall_mem_cons.mpr ⟨lw_p7, List.forall_mem_cons.mpr ⟨lw_p8, List.forall_mem_cons.mpr ⟨lw_p9, List.forall_mem_cons.mpr ⟨lw_p10, List.forall_mem_cons.mpr ⟨lw_p11, List.forall_mem_cons.mpr ⟨lw_p12, List.forall_mem_cons.mpr ⟨lw_p13, List.forall_mem_cons.mpr ⟨lw_p14, List.forall_mem_cons.mpr ⟨lw_p15, fun _ h => absurd h List.not_mem_nil⟩⟩⟩⟩⟩⟩⟩⟩⟩⟩⟩⟩⟩⟩⟩⟩
theorem lw_p16 : lw_okq (⟨"TollRulesModel", "isHeld", "(I)Z"⟩, 30) := ⟨⟨by decide +kernel, by decide +kernel⟩, List.mem_of_getElem? (i := 274) (by decide +kernel), List.mem_of_getElem? (i := 391) (by decide +kernel), List.mem_of_getElem? (i := 392) (by decide +kernel)⟩
theorem lw_p17 : lw_okq (⟨"TollRulesModel", "isRule", "(I)Z"⟩, 30) := ⟨⟨by decide +kernel, by decide +kernel⟩, List.mem_of_getElem? (i := 274) (by decide +kernel), List.mem_of_getElem? (i := 414) (by decide +kernel), List.mem_of_getElem? (i := 415) (by decide +kernel)⟩
theorem lw_p18 : lw_okq (⟨"TollRulesModel", "startsCall", "()V"⟩, 30) := ⟨⟨by decide +kernel, by decide +kernel⟩, List.mem_of_getElem? (i := 274) (by decide +kernel), List.mem_of_getElem? (i := 418) (by decide +kernel), List.mem_of_getElem? (i := 419) (by decide +kernel)⟩
theorem lw_p19 : lw_okq (⟨"TollRulesModel", "gives", "(II)Z"⟩, 30) := ⟨⟨by decide +kernel, by decide +kernel⟩, List.mem_of_getElem? (i := 274) (by decide +kernel), List.mem_of_getElem? (i := 422) (by decide +kernel), List.mem_of_getElem? (i := 423) (by decide +kernel)⟩
theorem lw_p20 : lw_okq (⟨"TollRulesModel", "begins", "(II)Z"⟩, 30) := ⟨⟨by decide +kernel, by decide +kernel⟩, List.mem_of_getElem? (i := 274) (by decide +kernel), List.mem_of_getElem? (i := 426) (by decide +kernel), List.mem_of_getElem? (i := 427) (by decide +kernel)⟩
theorem lw_p21 : lw_okq (⟨"TollRulesModel", "fails", "(II)V"⟩, 30) := ⟨⟨by decide +kernel, by decide +kernel⟩, List.mem_of_getElem? (i := 274) (by decide +kernel), List.mem_of_getElem? (i := 430) (by decide +kernel), List.mem_of_getElem? (i := 431) (by decide +kernel)⟩
theorem lw_p22 : lw_okq (⟨"TollRulesModel", "recovers", "()V"⟩, 30) := ⟨⟨by decide +kernel, by decide +kernel⟩, List.mem_of_getElem? (i := 274) (by decide +kernel), List.mem_of_getElem? (i := 434) (by decide +kernel), List.mem_of_getElem? (i := 435) (by decide +kernel)⟩
theorem lw_p23 : lw_okq (⟨"TollRulesModel", "goesOn", "(I)Z"⟩, 30) := ⟨⟨by decide +kernel, by decide +kernel⟩, List.mem_of_getElem? (i := 274) (by decide +kernel), List.mem_of_getElem? (i := 438) (by decide +kernel), List.mem_of_getElem? (i := 439) (by decide +kernel)⟩
theorem lw_p24 : lw_okq (⟨"TollRulesModel", "given", "(II)I"⟩, 30) := ⟨⟨by decide +kernel, by decide +kernel⟩, List.mem_of_getElem? (i := 274) (by decide +kernel), List.mem_of_getElem? (i := 442) (by decide +kernel), List.mem_of_getElem? (i := 443) (by decide +kernel)⟩
theorem lw_p25 : lw_okq (⟨"TollRulesModel", "itemAt", "(III)I"⟩, 30) := ⟨⟨by decide +kernel, by decide +kernel⟩, List.mem_of_getElem? (i := 274) (by decide +kernel), List.mem_of_getElem? (i := 446) (by decide +kernel), List.mem_of_getElem? (i := 447) (by decide +kernel)⟩
theorem lw_p26 : lw_okq (⟨"TollRulesModel", "ends", "(I)I"⟩, 30) := ⟨⟨by decide +kernel, by decide +kernel⟩, List.mem_of_getElem? (i := 274) (by decide +kernel), List.mem_of_getElem? (i := 450) (by decide +kernel), List.mem_of_getElem? (i := 451) (by decide +kernel)⟩
theorem lw_p27 : lw_okq (⟨"TollRulesModel", "failed", "(III)I"⟩, 30) := ⟨⟨by decide +kernel, by decide +kernel⟩, List.mem_of_getElem? (i := 274) (by decide +kernel), List.mem_of_getElem? (i := 454) (by decide +kernel), List.mem_of_getElem? (i := 455) (by decide +kernel)⟩
theorem lw_p28 : lw_okq (⟨"TollRulesModel", "asksEach", "(II)Z"⟩, 30) := ⟨⟨by decide +kernel, by decide +kernel⟩, List.mem_of_getElem? (i := 274) (by decide +kernel), List.mem_of_getElem? (i := 470) (by decide +kernel), List.mem_of_getElem? (i := 471) (by decide +kernel)⟩
def lw_privs_2 : List (MethodName × Nat) := [(⟨"TollRulesModel", "isHeld", "(I)Z"⟩, 30), (⟨"TollRulesModel", "isRule", "(I)Z"⟩, 30), (⟨"TollRulesModel", "startsCall", "()V"⟩, 30), (⟨"TollRulesModel", "gives", "(II)Z"⟩, 30), (⟨"TollRulesModel", "begins", "(II)Z"⟩, 30), (⟨"TollRulesModel", "fails", "(II)V"⟩, 30), (⟨"TollRulesModel", "recovers", "()V"⟩, 30), (⟨"TollRulesModel", "goesOn", "(I)Z"⟩, 30), (⟨"TollRulesModel", "given", "(II)I"⟩, 30), (⟨"TollRulesModel", "itemAt", "(III)I"⟩, 30), (⟨"TollRulesModel", "ends", "(I)I"⟩, 30), (⟨"TollRulesModel", "failed", "(III)I"⟩, 30), (⟨"TollRulesModel", "asksEach", "(II)Z"⟩, 30)]
theorem lw_r2 : ∀ q ∈ lw_privs_2, lw_okq q := List.forall_mem_cons.mpr ⟨lw_p16, List.forall_mem_cons.mpr ⟨lw_p17, List.forall_mem_cons.mpr ⟨lw_p18, List.forall_mem_cons.mpr ⟨lw_p19, List.forall_mem_cons.mpr ⟨lw_p20, List.forall_mem_cons.mpr ⟨lw_p21, List.forall_mem_cons.mpr ⟨lw_p22, List.forall_mem_cons.mpr ⟨lw_p23, List.forall_mem_cons.mpr ⟨lw_p24, List.forall_mem_cons.mpr ⟨lw_p25, List.forall_mem_cons.mpr ⟨lw_p26, List.forall_mem_cons.mpr ⟨lw_p27, List.forall_mem_cons.mpr ⟨lw_p28, fun _ h => absurd h List.not_mem_nil⟩⟩⟩⟩⟩⟩⟩⟩⟩⟩⟩⟩⟩
def lw_privs : List (MethodName × Nat) := lw_privs_1 ++ (lw_privs_2)
def lw_tbl : List Cond := k2_sels lw_privs ++ tables_1
theorem lw_privs_ok : ∀ q ∈ lw_privs, lw_okq q := by
  show ∀ q ∈ lw_privs_1 ++ (lw_privs_2), lw_okq q
  exact List.forall_mem_append.mpr ⟨lw_r1, lw_r2⟩
/-! ===== BEGIN words of one list among another's, by their places ===== -/
theorem goodIn_r {big : List Cond} (ws : List Cond) (ps : List Nat) (hp : ws = ps.filterMap (fun i => big[i]?)) (h : ws.all goodWord = true) : GoodIn big ws := by
  intro w hw
  have h1 := List.all_eq_true.mp h w hw
  rw [hp] at hw
  obtain ⟨i, -, hi⟩ := List.mem_filterMap.mp hw
  have hm : w ∈ big := by first | exact List.mem_of_getElem? hi | exact List.getElem?_mem hi
  exact ⟨hm, good_of_word h1⟩
theorem goodIn_app {big a b : List Cond} (ha : GoodIn big a) (hb : GoodIn big b) : GoodIn big (a ++ b) := fun w h => (List.mem_append.mp h).elim (ha w) (hb w)
theorem goodIn_ca {big a b : List Cond} {c : Cond} (ha : GoodIn big (c :: a)) (hb : GoodIn big b) : GoodIn big (c :: (a ++ b)) := fun w h => (List.mem_cons.mp h).elim (fun e => ha w (List.mem_cons.mpr (Or.inl e))) (fun h => (List.mem_append.mp h).elim (fun h => ha w (List.mem_cons.mpr (Or.inr h))) (hb w))
theorem goodIn_sub {big ws : List Cond} (hm : ∀ w ∈ ws, w ∈ big) (h : ws.all goodWord = true) : GoodIn big ws := fun w hw => ⟨hm w hw, good_of_word (List.all_eq_true.mp h w hw)⟩
/-! ===== END ===== -/

/-! ===== BEGIN printed: names, fields, word lists, decode rows ===== -/
def RX0 : String := "TollRules$Row"
def TX0 : u_T := fun k => match k with
  | _ => ("TollRules$Row", "items", "[I", true)
def tyX0 : Nat → FieldType := fun k => match k with
  | _ => .array .int
abbrev wsX00 : List Cond := u_ws RX0 TX0 1
theorem nmX0 : ∀ a, a < 1 → ∀ b, b < 1 → a ≠ b → (TX0 a).2.1 ≠ (TX0 b).2.1 := by decide +kernel
theorem tyX0_ok : ∀ k, k < 1 → parseFieldDescriptor (TX0 k).2.2.1 = some (tyX0 k) := by decide +kernel
abbrev cX0_init : ByteArray := prog_2_method_1_code
def yX0_init : MethodName := ⟨RX0, "<init>", "([I)V"⟩
abbrev cX0_reaches : ByteArray := prog_2_method_2_code
def yX0_reaches : MethodName := ⟨RX0, "reaches", "(I)Z"⟩
def RX1 : String := "TollRules$Rule"
def TX1 : u_T := fun k => match k with
  | 0 => ("TollRules$Rule", "kind", "I", true)
  | 1 => ("TollRules$Rule", "a", "I", true)
  | 2 => ("TollRules$Rule", "b", "I", true)
  | 3 => ("TollRules$Rule", "kept", "I", true)
  | 4 => ("TollRules$Rule", "keptRow", "LTollRules$Row;", true)
  | _ => ("TollRules$Rule", "own", "I", false)
def tyX1 : Nat → FieldType := fun k => match k with
  | 0 => .int
  | 1 => .int
  | 2 => .int
  | 3 => .int
  | 4 => .object "TollRules$Row"
  | _ => .int
abbrev wsX10 : List Cond := u_ws RX1 TX1 6
theorem nmX1 : ∀ a, a < 6 → ∀ b, b < 6 → a ≠ b → (TX1 a).2.1 ≠ (TX1 b).2.1 := by decide +kernel
theorem tyX1_ok : ∀ k, k < 6 → parseFieldDescriptor (TX1 k).2.2.1 = some (tyX1 k) := by decide +kernel
abbrev cX1_init : ByteArray := prog_3_method_1_code
def yX1_init : MethodName := ⟨RX1, "<init>", "(IIIILTollRules$Row;)V"⟩
def RX2 : String := "TollRules"
def TX2 : u_T := fun k => match k with
  | 0 => ("TollRules", "places", "[I", true)
  | 1 => ("TollRules", "rows", "[LTollRules$Row;", true)
  | 2 => ("TollRules", "rules", "[LTollRules$Rule;", true)
  | 3 => ("TollRules", "rulesMade", "I", false)
  | 4 => ("TollRules", "moved", "[I", true)
  | 5 => ("TollRules", "keys", "[I", true)
  | 6 => ("TollRules", "origins", "[I", true)
  | 7 => ("TollRules", "refusal", "I", false)
  | 8 => ("TollRules", "refusedRule", "I", false)
  | 9 => ("TollRules", "latestResult", "I", false)
  | 10 => ("TollRules", "latestSteps", "I", false)
  | 11 => ("TollRules", "stepsInAll", "I", false)
  | 12 => ("TollRules", "failedKind", "I", false)
  | 13 => ("TollRules", "failedRule", "I", false)
  | 14 => ("TollRules", "failedCalls", "I", false)
  | _ => ("TollRules", "otherWays", "I", false)
def tyX2 : Nat → FieldType := fun k => match k with
  | 0 => .array .int
  | 1 => .array (.object "TollRules$Row")
  | 2 => .array (.object "TollRules$Rule")
  | 3 => .int
  | 4 => .array .int
  | 5 => .array .int
  | 6 => .array .int
  | 7 => .int
  | 8 => .int
  | 9 => .int
  | 10 => .int
  | 11 => .int
  | 12 => .int
  | 13 => .int
  | 14 => .int
  | _ => .int
abbrev wsX20 : List Cond := u_ws RX2 TX2 16
theorem nmX2 : ∀ a, a < 16 → ∀ b, b < 16 → a ≠ b → (TX2 a).2.1 ≠ (TX2 b).2.1 := by decide +kernel
theorem tyX2_ok : ∀ k, k < 16 → parseFieldDescriptor (TX2 k).2.2.1 = some (tyX2 k) := by decide +kernel
abbrev cX2_init : ByteArray := prog_1_method_1_code
def yX2_init : MethodName := ⟨RX2, "<init>", "()V"⟩
abbrev cX2_place : ByteArray := prog_1_method_2_code
def yX2_place : MethodName := ⟨RX2, "place", "(II)J"⟩
abbrev cX2_has : ByteArray := prog_1_method_3_code
def yX2_has : MethodName := ⟨RX2, "has", "(I)J"⟩
abbrev cX2_row : ByteArray := prog_1_method_4_code
def yX2_row : MethodName := ⟨RX2, "row", "(II)I"⟩
abbrev cX2_share : ByteArray := prog_1_method_5_code
def yX2_share : MethodName := ⟨RX2, "share", "(II)I"⟩
abbrev cX2_put : ByteArray := prog_1_method_6_code
def yX2_put : MethodName := ⟨RX2, "put", "(III)I"⟩
abbrev cX2_item : ByteArray := prog_1_method_7_code
def yX2_item : MethodName := ⟨RX2, "item", "(II)J"⟩
abbrev cX2_rule : ByteArray := prog_1_method_8_code
def yX2_rule : MethodName := ⟨RX2, "rule", "(III)I"⟩
abbrev cX2_apply : ByteArray := prog_1_method_9_code
def yX2_apply : MethodName := ⟨RX2, "apply", "(II)I"⟩
abbrev cX2_each : ByteArray := prog_1_method_10_code
def yX2_each : MethodName := ⟨RX2, "each", "(II)I"⟩
abbrev cX2_keep : ByteArray := prog_1_method_11_code
def yX2_keep : MethodName := ⟨RX2, "keep", "(II)I"⟩
abbrev cX2_order : ByteArray := prog_1_method_12_code
def yX2_order : MethodName := ⟨RX2, "order", "(II)I"⟩
abbrev cX2_fold : ByteArray := prog_1_method_13_code
def yX2_fold : MethodName := ⟨RX2, "fold", "(III)I"⟩
abbrev cX2_until : ByteArray := prog_1_method_14_code
def yX2_until : MethodName := ⟨RX2, "until", "(IIII)I"⟩
abbrev cX2_result : ByteArray := prog_1_method_15_code
def yX2_result : MethodName := ⟨RX2, "result", "()I"⟩
abbrev cX2_steps : ByteArray := prog_1_method_16_code
def yX2_steps : MethodName := ⟨RX2, "steps", "()I"⟩
abbrev cX2_failed : ByteArray := prog_1_method_17_code
def yX2_failed : MethodName := ⟨RX2, "failed", "(I)I"⟩
abbrev cX2_count : ByteArray := prog_1_method_18_code
def yX2_count : MethodName := ⟨RX2, "count", "(I)I"⟩
abbrev cX2_isPlace : ByteArray := prog_1_method_19_code
def yX2_isPlace : MethodName := ⟨RX2, "isPlace", "(I)Z"⟩
abbrev cX2_isRow : ByteArray := prog_1_method_20_code
def yX2_isRow : MethodName := ⟨RX2, "isRow", "(I)Z"⟩
abbrev cX2_isRule : ByteArray := prog_1_method_21_code
def yX2_isRule : MethodName := ⟨RX2, "isRule", "(I)Z"⟩
abbrev cX2_isAsTold : ByteArray := prog_1_method_22_code
def yX2_isAsTold : MethodName := ⟨RX2, "isAsTold", "(III)Z"⟩
abbrev cX2_rowsOfNothing : ByteArray := prog_1_method_23_code
def yX2_rowsOfNothing : MethodName := ⟨RX2, "rowsOfNothing", "()I"⟩
abbrev cX2_begin : ByteArray := prog_1_method_24_code
def yX2_begin : MethodName := ⟨RX2, "begin", "()V"⟩
abbrev cX2_isRefused : ByteArray := prog_1_method_25_code
def yX2_isRefused : MethodName := ⟨RX2, "isRefused", "()Z"⟩
abbrev cX2_refuse : ByteArray := prog_1_method_26_code
def yX2_refuse : MethodName := ⟨RX2, "refuse", "(II)I"⟩
abbrev cX2_fail : ByteArray := prog_1_method_27_code
def yX2_fail : MethodName := ⟨RX2, "fail", "()I"⟩
abbrev cX2_failureAnswer : ByteArray := prog_1_method_28_code
def yX2_failureAnswer : MethodName := ⟨RX2, "failureAnswer", "(I)I"⟩
abbrev cX2_give : ByteArray := prog_1_method_29_code
def yX2_give : MethodName := ⟨RX2, "give", "(II)I"⟩
abbrev cX2_giveItem : ByteArray := prog_1_method_30_code
def yX2_giveItem : MethodName := ⟨RX2, "giveItem", "(LTollRules$Row;II)I"⟩
abbrev cX2_giveRoom : ByteArray := prog_1_method_31_code
def yX2_giveRoom : MethodName := ⟨RX2, "giveRoom", "(II)I"⟩
abbrev cX2_giveByOthers : ByteArray := prog_1_method_32_code
def yX2_giveByOthers : MethodName := ⟨RX2, "giveByOthers", "(LTollRules$Rule;I)I"⟩
abbrev cX2_giveOtherWay : ByteArray := prog_1_method_33_code
def yX2_giveOtherWay : MethodName := ⟨RX2, "giveOtherWay", "(II)I"⟩
abbrev cX2_foldOne : ByteArray := prog_1_method_34_code
def yX2_foldOne : MethodName := ⟨RX2, "foldOne", "(III)I"⟩
abbrev cX2_sortOrigins : ByteArray := prog_1_method_35_code
def yX2_sortOrigins : MethodName := ⟨RX2, "sortOrigins", "(I)V"⟩
abbrev cX2_moveByOrigins : ByteArray := prog_1_method_36_code
def yX2_moveByOrigins : MethodName := ⟨RX2, "moveByOrigins", "([I)I"⟩
def RX3 : String := "TollRulesModel"
def TX3 : u_T := fun k => match k with
  | 0 => ("TollRulesModel", "places", "[I", true)
  | 1 => ("TollRulesModel", "rowOf", "[I", true)
  | 2 => ("TollRulesModel", "size", "[I", true)
  | 3 => ("TollRulesModel", "item", "[I", true)
  | 4 => ("TollRulesModel", "rules", "I", false)
  | 5 => ("TollRulesModel", "kind", "[I", true)
  | 6 => ("TollRulesModel", "first", "[I", true)
  | 7 => ("TollRulesModel", "second", "[I", true)
  | 8 => ("TollRulesModel", "kept", "[I", true)
  | 9 => ("TollRulesModel", "keptRow", "[I", true)
  | 10 => ("TollRulesModel", "own", "[I", true)
  | 11 => ("TollRulesModel", "waiting", "I", false)
  | 12 => ("TollRulesModel", "waitRule", "[I", true)
  | 13 => ("TollRulesModel", "waitValue", "[I", true)
  | 14 => ("TollRulesModel", "waitPhase", "[I", true)
  | 15 => ("TollRulesModel", "waitHad", "[I", true)
  | 16 => ("TollRulesModel", "failure", "I", false)
  | 17 => ("TollRulesModel", "failureAt", "I", false)
  | 18 => ("TollRulesModel", "steps", "I", false)
  | 19 => ("TollRulesModel", "stepsTold", "I", false)
  | 20 => ("TollRulesModel", "stepsEver", "I", false)
  | 21 => ("TollRulesModel", "failedKind", "I", false)
  | 22 => ("TollRulesModel", "failedRule", "I", false)
  | 23 => ("TollRulesModel", "failedMany", "I", false)
  | 24 => ("TollRulesModel", "elses", "I", false)
  | 25 => ("TollRulesModel", "result", "I", false)
  | 26 => ("TollRulesModel", "handed", "I", false)
  | 27 => ("TollRulesModel", "keys", "[I", true)
  | 28 => ("TollRulesModel", "from", "[I", true)
  | _ => ("TollRulesModel", "had", "[I", true)
def tyX3 : Nat → FieldType := fun k => match k with
  | 0 => .array .int
  | 1 => .array .int
  | 2 => .array .int
  | 3 => .array .int
  | 4 => .int
  | 5 => .array .int
  | 6 => .array .int
  | 7 => .array .int
  | 8 => .array .int
  | 9 => .array .int
  | 10 => .array .int
  | 11 => .int
  | 12 => .array .int
  | 13 => .array .int
  | 14 => .array .int
  | 15 => .array .int
  | 16 => .int
  | 17 => .int
  | 18 => .int
  | 19 => .int
  | 20 => .int
  | 21 => .int
  | 22 => .int
  | 23 => .int
  | 24 => .int
  | 25 => .int
  | 26 => .int
  | 27 => .array .int
  | 28 => .array .int
  | _ => .array .int
abbrev wsX30 : List Cond := u_ws RX3 TX3 30
theorem nmX3 : ∀ a, a < 30 → ∀ b, b < 30 → a ≠ b → (TX3 a).2.1 ≠ (TX3 b).2.1 := by decide +kernel
theorem tyX3_ok : ∀ k, k < 30 → parseFieldDescriptor (TX3 k).2.2.1 = some (tyX3 k) := by decide +kernel
abbrev cX3_init : ByteArray := prog_5_method_1_code
def yX3_init : MethodName := ⟨RX3, "<init>", "()V"⟩
abbrev cX3_in : ByteArray := prog_5_method_3_code
def yX3_in : MethodName := ⟨RX3, "in", "(III)Z"⟩
abbrev cX3_isRule : ByteArray := prog_5_method_4_code
def yX3_isRule : MethodName := ⟨RX3, "isRule", "(I)Z"⟩
abbrev cX3_place : ByteArray := prog_5_method_5_code
def yX3_place : MethodName := ⟨RX3, "place", "(II)J"⟩
abbrev cX3_has : ByteArray := prog_5_method_6_code
def yX3_has : MethodName := ⟨RX3, "has", "(I)J"⟩
abbrev cX3_newRow : ByteArray := prog_5_method_7_code
def yX3_newRow : MethodName := ⟨RX3, "newRow", "(I)I"⟩
abbrev cX3_isHeld : ByteArray := prog_5_method_8_code
def yX3_isHeld : MethodName := ⟨RX3, "isHeld", "(I)Z"⟩
abbrev cX3_row : ByteArray := prog_5_method_9_code
def yX3_row : MethodName := ⟨RX3, "row", "(II)I"⟩
abbrev cX3_share : ByteArray := prog_5_method_10_code
def yX3_share : MethodName := ⟨RX3, "share", "(II)I"⟩
abbrev cX3_put : ByteArray := prog_5_method_11_code
def yX3_put : MethodName := ⟨RX3, "put", "(III)I"⟩
abbrev cX3_item : ByteArray := prog_5_method_12_code
def yX3_item : MethodName := ⟨RX3, "item", "(II)J"⟩
abbrev cX3_begins : ByteArray := prog_5_method_13_code
def yX3_begins : MethodName := ⟨RX3, "begins", "(II)Z"⟩
abbrev cX3_fails : ByteArray := prog_5_method_14_code
def yX3_fails : MethodName := ⟨RX3, "fails", "(II)V"⟩
abbrev cX3_asks : ByteArray := prog_5_method_15_code
def yX3_asks : MethodName := ⟨RX3, "asks", "(I)Z"⟩
abbrev cX3_given : ByteArray := prog_5_method_16_code
def yX3_given : MethodName := ⟨RX3, "given", "(II)I"⟩
abbrev cX3_itemAt : ByteArray := prog_5_method_17_code
def yX3_itemAt : MethodName := ⟨RX3, "itemAt", "(III)I"⟩
abbrev cX3_goesOn : ByteArray := prog_5_method_18_code
def yX3_goesOn : MethodName := ⟨RX3, "goesOn", "(I)Z"⟩
abbrev cX3_recovers : ByteArray := prog_5_method_19_code
def yX3_recovers : MethodName := ⟨RX3, "recovers", "()V"⟩
abbrev cX3_gives : ByteArray := prog_5_method_20_code
def yX3_gives : MethodName := ⟨RX3, "gives", "(II)Z"⟩
abbrev cX3_startsCall : ByteArray := prog_5_method_21_code
def yX3_startsCall : MethodName := ⟨RX3, "startsCall", "()V"⟩
abbrev cX3_ends : ByteArray := prog_5_method_22_code
def yX3_ends : MethodName := ⟨RX3, "ends", "(I)I"⟩
abbrev cX3_failed : ByteArray := prog_5_method_23_code
def yX3_failed : MethodName := ⟨RX3, "failed", "(III)I"⟩
abbrev cX3_rule : ByteArray := prog_5_method_24_code
def yX3_rule : MethodName := ⟨RX3, "rule", "(III)I"⟩
abbrev cX3_apply : ByteArray := prog_5_method_25_code
def yX3_apply : MethodName := ⟨RX3, "apply", "(II)I"⟩
abbrev cX3_each : ByteArray := prog_5_method_26_code
def yX3_each : MethodName := ⟨RX3, "each", "(II)I"⟩
abbrev cX3_asksEach : ByteArray := prog_5_method_27_code
def yX3_asksEach : MethodName := ⟨RX3, "asksEach", "(II)Z"⟩
abbrev cX3_keep : ByteArray := prog_5_method_28_code
def yX3_keep : MethodName := ⟨RX3, "keep", "(II)I"⟩
abbrev cX3_order : ByteArray := prog_5_method_29_code
def yX3_order : MethodName := ⟨RX3, "order", "(II)I"⟩
abbrev cX3_fold : ByteArray := prog_5_method_30_code
def yX3_fold : MethodName := ⟨RX3, "fold", "(III)I"⟩
abbrev cX3_until : ByteArray := prog_5_method_31_code
def yX3_until : MethodName := ⟨RX3, "until", "(IIII)I"⟩
abbrev cX3_result : ByteArray := prog_5_method_32_code
def yX3_result : MethodName := ⟨RX3, "result", "()I"⟩
abbrev cX3_steps : ByteArray := prog_5_method_33_code
def yX3_steps : MethodName := ⟨RX3, "steps", "()I"⟩
abbrev cX3_failed_ : ByteArray := prog_5_method_34_code
def yX3_failed_ : MethodName := ⟨RX3, "failed", "(I)I"⟩
abbrev cX3_count : ByteArray := prog_5_method_35_code
def yX3_count : MethodName := ⟨RX3, "count", "(I)I"⟩
def RJx8e188 : String := "java/lang/Cloneable"
def TJx8e188 : u_T := fun k => match k with
  | _ => ("", "", "", false)
def tyJx8e188 : Nat → FieldType := fun k => match k with
  | _ => .int
abbrev wsJx8e1880 : List Cond := u_ws RJx8e188 TJx8e188 0
theorem nmJx8e188 : ∀ a, a < 0 → ∀ b, b < 0 → a ≠ b → (TJx8e188 a).2.1 ≠ (TJx8e188 b).2.1 := by decide +kernel
theorem tyJx8e188_ok : ∀ k, k < 0 → parseFieldDescriptor (TJx8e188 k).2.2.1 = some (tyJx8e188 k) := by decide +kernel
def RJ9 : String := "java/lang/Math"
def TJ9 : u_T := fun k => match k with
  | _ => ("", "", "", false)
def tyJ9 : Nat → FieldType := fun k => match k with
  | _ => .int
abbrev wsJ90 : List Cond := u_ws RJ9 TJ9 0
theorem nmJ9 : ∀ a, a < 0 → ∀ b, b < 0 → a ≠ b → (TJ9 a).2.1 ≠ (TJ9 b).2.1 := by decide +kernel
theorem tyJ9_ok : ∀ k, k < 0 → parseFieldDescriptor (TJ9 k).2.2.1 = some (tyJ9 k) := by decide +kernel
abbrev cJ9_max_7cf53 : ByteArray := prog_7_method_65_code
def yJ9_max_7cf53 : MethodName := ⟨RJ9, "max", "(II)I"⟩
abbrev cJ9_min_7cf53 : ByteArray := prog_7_method_69_code
def yJ9_min_7cf53 : MethodName := ⟨RJ9, "min", "(II)I"⟩
def RJ10 : String := "java/lang/System"
def TJ10 : u_T := fun k => match k with
  | _ => ("", "", "", false)
def tyJ10 : Nat → FieldType := fun k => match k with
  | _ => .int
abbrev wsJ100 : List Cond := u_ws RJ10 TJ10 0
theorem nmJ10 : ∀ a, a < 0 → ∀ b, b < 0 → a ≠ b → (TJ10 a).2.1 ≠ (TJ10 b).2.1 := by decide +kernel
theorem tyJ10_ok : ∀ k, k < 0 → parseFieldDescriptor (TJ10 k).2.2.1 = some (tyJ10 k) := by decide +kernel
def RJ7 : String := "java/util/Arrays"
def TJ7 : u_T := fun k => match k with
  | _ => ("", "", "", false)
def tyJ7 : Nat → FieldType := fun k => match k with
  | _ => .int
abbrev wsJ70 : List Cond := u_ws RJ7 TJ7 0
theorem nmJ7 : ∀ a, a < 0 → ∀ b, b < 0 → a ≠ b → (TJ7 a).2.1 ≠ (TJ7 b).2.1 := by decide +kernel
theorem tyJ7_ok : ∀ k, k < 0 → parseFieldDescriptor (TJ7 k).2.2.1 = some (tyJ7 k) := by decide +kernel
abbrev cJ7_copyOf_59c91 : ByteArray := prog_9_method_123_code
def yJ7_copyOf_59c91 : MethodName := ⟨RJ7, "copyOf", "([II)[I"⟩
def RL : String := "TollRulesLaw"
abbrev cL_law : ByteArray := code
def yL_law : MethodName := ⟨RL, "law", "([I)Z"⟩
def wsX0_init : List Cond := .code yX0_init cX0_init 2 none :: ([.methodLink RX0 1 objectInit, .instanceMethod objectInit, .code objectInit ⟨#[0xb1]⟩ 1 none, .fieldLink RX0 7 "TollRules$Row" "items" "[I"] ++ wsX00)
def wsX0_reaches : List Cond := .code yX0_reaches cX0_reaches 2 (some .boolean) :: ([.fieldLink RX0 7 "TollRules$Row" "items" "[I"] ++ wsX00)
def wsX1_init : List Cond := .code yX1_init cX1_init 6 none :: ([.methodLink RX1 1 objectInit, .instanceMethod objectInit, .code objectInit ⟨#[0xb1]⟩ 1 none, .fieldLink RX1 7 "TollRules$Rule" "kind" "I", .fieldLink RX1 13 "TollRules$Rule" "a" "I", .fieldLink RX1 16 "TollRules$Rule" "b" "I", .fieldLink RX1 19 "TollRules$Rule" "kept" "I", .fieldLink RX1 22 "TollRules$Rule" "keptRow" "LTollRules$Row;", .fieldLink RX1 26 "TollRules$Rule" "own" "I"] ++ wsX10)
def wsX2_init : List Cond := .code yX2_init cX2_init 1 none :: ([.methodLink RX2 3 objectInit, .instanceMethod objectInit, .code objectInit ⟨#[0xb1]⟩ 1 none, .arrayClass .int, .fieldLink RX2 11 "TollRules" "places" "[I", .classLink RX2 15 RX0, .fieldLink RX2 17 "TollRules" "rows" "[LTollRules$Row;", .classLink RX2 21 RX1, .fieldLink RX2 23 "TollRules" "rules" "[LTollRules$Rule;", .fieldLink RX2 27 "TollRules" "rulesMade" "I", .fieldLink RX2 31 "TollRules" "moved" "[I", .fieldLink RX2 34 "TollRules" "keys" "[I", .fieldLink RX2 37 "TollRules" "origins" "[I", .fieldLink RX2 40 "TollRules" "refusal" "I", .fieldLink RX2 43 "TollRules" "refusedRule" "I", .fieldLink RX2 46 "TollRules" "latestResult" "I", .fieldLink RX2 49 "TollRules" "latestSteps" "I", .fieldLink RX2 52 "TollRules" "stepsInAll" "I", .fieldLink RX2 55 "TollRules" "failedKind" "I", .fieldLink RX2 58 "TollRules" "failedRule" "I", .fieldLink RX2 61 "TollRules" "failedCalls" "I", .fieldLink RX2 64 "TollRules" "otherWays" "I"] ++ wsX20)
def wsX2_isPlace : List Cond := .code yX2_isPlace cX2_isPlace 1 (some .boolean) :: ([])
def wsX2_place : List Cond := .code yX2_place cX2_place 4 (some .long) :: ([.constantLong RX2 71 (-9223372036854775808), .fieldLink RX2 11 "TollRules" "places" "[I", .methodLink RX2 67 yX2_isPlace, .static yX2_isPlace, .initialized RX2, .code yX2_isPlace cX2_isPlace 1 (some .boolean)] ++ wsX20)
def wsX2_has : List Cond := .code yX2_has cX2_has 2 (some .long) :: ([.fieldLink RX2 11 "TollRules" "places" "[I", .constantLong RX2 71 (-9223372036854775808), .methodLink RX2 67 yX2_isPlace, .static yX2_isPlace, .initialized RX2, .code yX2_isPlace cX2_isPlace 1 (some .boolean)] ++ wsX20)
def wsX2_isRow : List Cond := .code yX2_isRow cX2_isRow 1 (some .boolean) :: ([])
def wsX2_row : List Cond := .code yX2_row cX2_row 3 (some .int) :: ([.fieldLink RX2 17 "TollRules" "rows" "[LTollRules$Row;", .classLink RX2 15 RX0, .instantiable RX0 1, .initialized RX0, .arrayClass .int, .methodLink RX2 73 yX2_isRow, .static yX2_isRow, .initialized RX2, .code yX2_isRow cX2_isRow 1 (some .boolean), .methodLink RX2 76 yX0_init, .instanceMethod yX0_init, .code yX0_init cX0_init 2 none, .methodLink RX0 1 objectInit, .instanceMethod objectInit, .code objectInit ⟨#[0xb1]⟩ 1 none, .fieldLink RX0 7 "TollRules$Row" "items" "[I"] ++ wsX20 ++ wsX00)
def wsX2_share : List Cond := .code yX2_share cX2_share 3 (some .int) :: ([.fieldLink RX2 17 "TollRules" "rows" "[LTollRules$Row;", .methodLink RX2 73 yX2_isRow, .static yX2_isRow, .initialized RX2, .code yX2_isRow cX2_isRow 1 (some .boolean)] ++ wsX20)
def wsX2_failureAnswer : List Cond := .code yX2_failureAnswer cX2_failureAnswer 1 (some .int) :: ([])
def wsX2_put : List Cond := .code yX2_put cX2_put 5 (some .int) :: ([.fieldLink RX2 17 "TollRules" "rows" "[LTollRules$Row;", .fieldLink RX2 86 "TollRules$Row" "items" "[I", .methodLink RX2 73 yX2_isRow, .static yX2_isRow, .initialized RX2, .code yX2_isRow cX2_isRow 1 (some .boolean), .methodLink RX2 79 yX2_failureAnswer, .static yX2_failureAnswer, .code yX2_failureAnswer cX2_failureAnswer 1 (some .int), .methodLink RX2 83 yX0_reaches, .instanceMethod yX0_reaches, .selects RX0 yX0_reaches yX0_reaches, .initialized RX0, .code yX0_reaches cX0_reaches 2 (some .boolean), .fieldLink RX0 7 "TollRules$Row" "items" "[I"] ++ wsX20 ++ wsX00)
def wsX2_item : List Cond := .code yX2_item cX2_item 4 (some .long) :: ([.constantLong RX2 71 (-9223372036854775808), .fieldLink RX2 17 "TollRules" "rows" "[LTollRules$Row;", .fieldLink RX2 86 "TollRules$Row" "items" "[I", .methodLink RX2 73 yX2_isRow, .static yX2_isRow, .initialized RX2, .code yX2_isRow cX2_isRow 1 (some .boolean), .methodLink RX2 83 yX0_reaches, .instanceMethod yX0_reaches, .selects RX0 yX0_reaches yX0_reaches, .initialized RX0, .code yX0_reaches cX0_reaches 2 (some .boolean), .fieldLink RX0 7 "TollRules$Row" "items" "[I"] ++ wsX20 ++ wsX00)
def wsX2_isRule : List Cond := .code yX2_isRule cX2_isRule 2 (some .boolean) :: ([.fieldLink RX2 27 "TollRules" "rulesMade" "I"] ++ wsX20)
def wsX2_isAsTold : List Cond := .code yX2_isAsTold cX2_isAsTold 4 (some .boolean) :: ([.methodLink RX2 67 yX2_isPlace, .static yX2_isPlace, .initialized RX2, .code yX2_isPlace cX2_isPlace 1 (some .boolean), .methodLink RX2 73 yX2_isRow, .static yX2_isRow, .code yX2_isRow cX2_isRow 1 (some .boolean), .methodLink RX2 111 yX2_isRule, .instanceMethod yX2_isRule, .selects RX2 yX2_isRule yX2_isRule, .code yX2_isRule cX2_isRule 2 (some .boolean), .fieldLink RX2 27 "TollRules" "rulesMade" "I"] ++ wsX20)
def wsX2_begin : List Cond := .code yX2_begin cX2_begin 1 none :: ([.fieldLink RX2 49 "TollRules" "latestSteps" "I", .fieldLink RX2 40 "TollRules" "refusal" "I"] ++ wsX20)
def wsX2_refuse : List Cond := .code yX2_refuse cX2_refuse 3 (some .int) :: ([.fieldLink RX2 40 "TollRules" "refusal" "I", .fieldLink RX2 43 "TollRules" "refusedRule" "I"] ++ wsX20)
def wsX2_giveItem : List Cond := .code yX2_giveItem cX2_giveItem 4 (some .int) :: ([.fieldLink RX2 86 "TollRules$Row" "items" "[I", .methodLink RX2 135 yX2_refuse, .instanceMethod yX2_refuse, .selects RX2 yX2_refuse yX2_refuse, .initialized RX2, .code yX2_refuse cX2_refuse 3 (some .int), .fieldLink RX2 40 "TollRules" "refusal" "I", .fieldLink RX2 43 "TollRules" "refusedRule" "I", .methodLink RX2 83 yX0_reaches, .instanceMethod yX0_reaches, .selects RX0 yX0_reaches yX0_reaches, .initialized RX0, .code yX0_reaches cX0_reaches 2 (some .boolean), .fieldLink RX0 7 "TollRules$Row" "items" "[I"] ++ wsX00 ++ wsX20)
def wsX2_giveRoom : List Cond := .code yX2_giveRoom cX2_giveRoom 4 (some .int) :: ([.methodLink RX2 135 yX2_refuse, .instanceMethod yX2_refuse, .selects RX2 yX2_refuse yX2_refuse, .initialized RX2, .code yX2_refuse cX2_refuse 3 (some .int), .fieldLink RX2 40 "TollRules" "refusal" "I", .fieldLink RX2 43 "TollRules" "refusedRule" "I"] ++ wsX20)
def wsX2_isRefused : List Cond := .code yX2_isRefused cX2_isRefused 1 (some .boolean) :: ([.fieldLink RX2 40 "TollRules" "refusal" "I"] ++ wsX20)
def wsX2_give_r1 : List Cond := [Cond.fieldLink RX2 49 "TollRules" "latestSteps" "I", Cond.fieldLink RX2 52 "TollRules" "stepsInAll" "I", Cond.fieldLink RX2 23 "TollRules" "rules" "[LTollRules$Rule;", Cond.fieldLink RX2 138 "TollRules$Rule" "kind" "I", Cond.fieldLink RX2 141 "TollRules$Rule" "a" "I", Cond.fieldLink RX2 144 "TollRules$Rule" "kept" "I", Cond.fieldLink RX2 11 "TollRules" "places" "[I", Cond.fieldLink RX2 147 "TollRules$Rule" "keptRow" "LTollRules$Row;", Cond.fieldLink RX2 17 "TollRules" "rows" "[LTollRules$Row;", Cond.fieldLink RX2 155 "TollRules$Rule" "own" "I", Cond.methodLink RX2 135 yX2_refuse, Cond.instanceMethod yX2_refuse, Cond.selects RX2 yX2_refuse yX2_refuse, Cond.initialized RX2, Cond.code yX2_refuse cX2_refuse 3 (some .int), Cond.fieldLink RX2 40 "TollRules" "refusal" "I", Cond.fieldLink RX2 43 "TollRules" "refusedRule" "I", Cond.methodLink RX2 151 yX2_giveItem, Cond.instanceMethod yX2_giveItem, Cond.selects RX2 yX2_giveItem yX2_giveItem, Cond.code yX2_giveItem cX2_giveItem 4 (some .int), Cond.fieldLink RX2 86 "TollRules$Row" "items" "[I", Cond.methodLink RX2 83 yX0_reaches, Cond.instanceMethod yX0_reaches]
def wsX2_give_r2 : List Cond := [Cond.selects RX0 yX0_reaches yX0_reaches, Cond.initialized RX0, Cond.code yX0_reaches cX0_reaches 2 (some .boolean), Cond.fieldLink RX0 7 "TollRules$Row" "items" "[I", Cond.methodLink RX2 158 yX2_giveRoom, Cond.instanceMethod yX2_giveRoom, Cond.selects RX2 yX2_giveRoom yX2_giveRoom, Cond.code yX2_giveRoom cX2_giveRoom 4 (some .int), Cond.methodLink RX2 161 yX2_giveByOthers, Cond.instanceMethod yX2_giveByOthers, Cond.selects RX2 yX2_giveByOthers yX2_giveByOthers, Cond.code yX2_giveByOthers cX2_giveByOthers 4 (some .int), Cond.fieldLink RX2 165 "TollRules$Rule" "b" "I", Cond.methodLink RX2 171 Lib.Math.min.name, Cond.static Lib.Math.min.name, Cond.initialized "java/lang/Math", Cond.code Lib.Math.min.name Lib.Math.min.code 2 (some .int), Cond.methodLink RX2 96 yX2_give, Cond.instanceMethod yX2_give, Cond.selects RX2 yX2_give yX2_give, Cond.methodLink RX2 100 yX2_isRefused, Cond.instanceMethod yX2_isRefused, Cond.selects RX2 yX2_isRefused yX2_isRefused, Cond.code yX2_isRefused cX2_isRefused 1 (some .boolean)]
def wsX2_give_r3 : List Cond := [Cond.methodLink RX2 168 yX2_giveOtherWay, Cond.instanceMethod yX2_giveOtherWay, Cond.selects RX2 yX2_giveOtherWay yX2_giveOtherWay, Cond.code yX2_giveOtherWay cX2_giveOtherWay 3 (some .int), Cond.fieldLink RX2 64 "TollRules" "otherWays" "I"]
def wsX2_give : List Cond := .code yX2_give cX2_give 4 (some .int) :: ((wsX2_give_r1 ++ (wsX2_give_r2 ++ wsX2_give_r3)) ++ wsX20 ++ wsX10 ++ wsX00)
def wsX2_giveByOthers_r1 : List Cond := [Cond.fieldLink RX2 141 "TollRules$Rule" "a" "I", Cond.fieldLink RX2 138 "TollRules$Rule" "kind" "I", Cond.fieldLink RX2 40 "TollRules" "refusal" "I", Cond.fieldLink RX2 165 "TollRules$Rule" "b" "I", Cond.methodLink RX2 171 Lib.Math.min.name, Cond.static Lib.Math.min.name, Cond.initialized "java/lang/Math", Cond.code Lib.Math.min.name Lib.Math.min.code 2 (some .int), Cond.methodLink RX2 96 yX2_give, Cond.instanceMethod yX2_give, Cond.selects RX2 yX2_give yX2_give, Cond.initialized RX2, Cond.methodLink RX2 100 yX2_isRefused, Cond.instanceMethod yX2_isRefused, Cond.selects RX2 yX2_isRefused yX2_isRefused, Cond.code yX2_isRefused cX2_isRefused 1 (some .boolean), Cond.methodLink RX2 168 yX2_giveOtherWay, Cond.instanceMethod yX2_giveOtherWay, Cond.selects RX2 yX2_giveOtherWay yX2_giveOtherWay, Cond.code yX2_give cX2_give 4 (some .int), Cond.fieldLink RX2 49 "TollRules" "latestSteps" "I", Cond.fieldLink RX2 52 "TollRules" "stepsInAll" "I", Cond.fieldLink RX2 23 "TollRules" "rules" "[LTollRules$Rule;", Cond.fieldLink RX2 144 "TollRules$Rule" "kept" "I"]
def wsX2_giveByOthers_r2 : List Cond := [Cond.fieldLink RX2 11 "TollRules" "places" "[I", Cond.fieldLink RX2 147 "TollRules$Rule" "keptRow" "LTollRules$Row;", Cond.fieldLink RX2 17 "TollRules" "rows" "[LTollRules$Row;", Cond.fieldLink RX2 155 "TollRules$Rule" "own" "I", Cond.methodLink RX2 135 yX2_refuse, Cond.instanceMethod yX2_refuse, Cond.selects RX2 yX2_refuse yX2_refuse, Cond.code yX2_refuse cX2_refuse 3 (some .int), Cond.fieldLink RX2 43 "TollRules" "refusedRule" "I", Cond.methodLink RX2 151 yX2_giveItem, Cond.instanceMethod yX2_giveItem, Cond.selects RX2 yX2_giveItem yX2_giveItem, Cond.code yX2_giveItem cX2_giveItem 4 (some .int), Cond.fieldLink RX2 86 "TollRules$Row" "items" "[I", Cond.methodLink RX2 83 yX0_reaches, Cond.instanceMethod yX0_reaches, Cond.selects RX0 yX0_reaches yX0_reaches, Cond.initialized RX0, Cond.code yX0_reaches cX0_reaches 2 (some .boolean), Cond.fieldLink RX0 7 "TollRules$Row" "items" "[I", Cond.methodLink RX2 158 yX2_giveRoom, Cond.instanceMethod yX2_giveRoom, Cond.selects RX2 yX2_giveRoom yX2_giveRoom, Cond.code yX2_giveRoom cX2_giveRoom 4 (some .int)]
def wsX2_giveByOthers_r3 : List Cond := [Cond.methodLink RX2 161 yX2_giveByOthers, Cond.instanceMethod yX2_giveByOthers, Cond.selects RX2 yX2_giveByOthers yX2_giveByOthers, Cond.code yX2_giveOtherWay cX2_giveOtherWay 3 (some .int), Cond.fieldLink RX2 64 "TollRules" "otherWays" "I"]
def wsX2_giveByOthers : List Cond := .code yX2_giveByOthers cX2_giveByOthers 4 (some .int) :: ((wsX2_giveByOthers_r1 ++ (wsX2_giveByOthers_r2 ++ wsX2_giveByOthers_r3)) ++ wsX20 ++ wsX10 ++ wsX00)
def wsX2_giveOtherWay_r1 : List Cond := [Cond.fieldLink RX2 40 "TollRules" "refusal" "I", Cond.fieldLink RX2 64 "TollRules" "otherWays" "I", Cond.methodLink RX2 96 yX2_give, Cond.instanceMethod yX2_give, Cond.selects RX2 yX2_give yX2_give, Cond.initialized RX2, Cond.code yX2_give cX2_give 4 (some .int), Cond.fieldLink RX2 49 "TollRules" "latestSteps" "I", Cond.fieldLink RX2 52 "TollRules" "stepsInAll" "I", Cond.fieldLink RX2 23 "TollRules" "rules" "[LTollRules$Rule;", Cond.fieldLink RX2 138 "TollRules$Rule" "kind" "I", Cond.fieldLink RX2 141 "TollRules$Rule" "a" "I", Cond.fieldLink RX2 144 "TollRules$Rule" "kept" "I", Cond.fieldLink RX2 11 "TollRules" "places" "[I", Cond.fieldLink RX2 147 "TollRules$Rule" "keptRow" "LTollRules$Row;", Cond.fieldLink RX2 17 "TollRules" "rows" "[LTollRules$Row;", Cond.fieldLink RX2 155 "TollRules$Rule" "own" "I", Cond.methodLink RX2 135 yX2_refuse, Cond.instanceMethod yX2_refuse, Cond.selects RX2 yX2_refuse yX2_refuse, Cond.code yX2_refuse cX2_refuse 3 (some .int), Cond.fieldLink RX2 43 "TollRules" "refusedRule" "I", Cond.methodLink RX2 151 yX2_giveItem, Cond.instanceMethod yX2_giveItem]
def wsX2_giveOtherWay_r2 : List Cond := [Cond.selects RX2 yX2_giveItem yX2_giveItem, Cond.code yX2_giveItem cX2_giveItem 4 (some .int), Cond.fieldLink RX2 86 "TollRules$Row" "items" "[I", Cond.methodLink RX2 83 yX0_reaches, Cond.instanceMethod yX0_reaches, Cond.selects RX0 yX0_reaches yX0_reaches, Cond.initialized RX0, Cond.code yX0_reaches cX0_reaches 2 (some .boolean), Cond.fieldLink RX0 7 "TollRules$Row" "items" "[I", Cond.methodLink RX2 158 yX2_giveRoom, Cond.instanceMethod yX2_giveRoom, Cond.selects RX2 yX2_giveRoom yX2_giveRoom, Cond.code yX2_giveRoom cX2_giveRoom 4 (some .int), Cond.methodLink RX2 161 yX2_giveByOthers, Cond.instanceMethod yX2_giveByOthers, Cond.selects RX2 yX2_giveByOthers yX2_giveByOthers, Cond.code yX2_giveByOthers cX2_giveByOthers 4 (some .int), Cond.fieldLink RX2 165 "TollRules$Rule" "b" "I", Cond.methodLink RX2 171 Lib.Math.min.name, Cond.static Lib.Math.min.name, Cond.initialized "java/lang/Math", Cond.code Lib.Math.min.name Lib.Math.min.code 2 (some .int), Cond.methodLink RX2 100 yX2_isRefused, Cond.instanceMethod yX2_isRefused]
def wsX2_giveOtherWay_r3 : List Cond := [Cond.selects RX2 yX2_isRefused yX2_isRefused, Cond.code yX2_isRefused cX2_isRefused 1 (some .boolean), Cond.methodLink RX2 168 yX2_giveOtherWay, Cond.instanceMethod yX2_giveOtherWay, Cond.selects RX2 yX2_giveOtherWay yX2_giveOtherWay]
def wsX2_giveOtherWay : List Cond := .code yX2_giveOtherWay cX2_giveOtherWay 3 (some .int) :: ((wsX2_giveOtherWay_r1 ++ (wsX2_giveOtherWay_r2 ++ wsX2_giveOtherWay_r3)) ++ wsX20 ++ wsX10 ++ wsX00)
def wsX2_fail : List Cond := .code yX2_fail cX2_fail 1 (some .int) :: ([.fieldLink RX2 40 "TollRules" "refusal" "I", .fieldLink RX2 55 "TollRules" "failedKind" "I", .fieldLink RX2 43 "TollRules" "refusedRule" "I", .fieldLink RX2 58 "TollRules" "failedRule" "I", .fieldLink RX2 61 "TollRules" "failedCalls" "I", .methodLink RX2 79 yX2_failureAnswer, .static yX2_failureAnswer, .initialized RX2, .code yX2_failureAnswer cX2_failureAnswer 1 (some .int)] ++ wsX20)
def wsX2_rule_r1 : List Cond := [Cond.fieldLink RX2 27 "TollRules" "rulesMade" "I", Cond.fieldLink RX2 11 "TollRules" "places" "[I", Cond.fieldLink RX2 17 "TollRules" "rows" "[LTollRules$Row;", Cond.fieldLink RX2 23 "TollRules" "rules" "[LTollRules$Rule;", Cond.classLink RX2 21 RX1, Cond.instantiable RX1 6, Cond.initialized RX1, Cond.methodLink RX2 89 yX2_isAsTold, Cond.instanceMethod yX2_isAsTold, Cond.selects RX2 yX2_isAsTold yX2_isAsTold, Cond.initialized RX2, Cond.code yX2_isAsTold cX2_isAsTold 4 (some .boolean), Cond.methodLink RX2 67 yX2_isPlace, Cond.static yX2_isPlace, Cond.code yX2_isPlace cX2_isPlace 1 (some .boolean), Cond.methodLink RX2 73 yX2_isRow, Cond.static yX2_isRow, Cond.code yX2_isRow cX2_isRow 1 (some .boolean), Cond.methodLink RX2 111 yX2_isRule, Cond.instanceMethod yX2_isRule, Cond.selects RX2 yX2_isRule yX2_isRule, Cond.code yX2_isRule cX2_isRule 2 (some .boolean), Cond.methodLink RX2 93 yX2_begin, Cond.instanceMethod yX2_begin]
def wsX2_rule_r2 : List Cond := [Cond.selects RX2 yX2_begin yX2_begin, Cond.code yX2_begin cX2_begin 1 none, Cond.fieldLink RX2 49 "TollRules" "latestSteps" "I", Cond.fieldLink RX2 40 "TollRules" "refusal" "I", Cond.methodLink RX2 96 yX2_give, Cond.instanceMethod yX2_give, Cond.selects RX2 yX2_give yX2_give, Cond.code yX2_give cX2_give 4 (some .int), Cond.fieldLink RX2 52 "TollRules" "stepsInAll" "I", Cond.fieldLink RX2 138 "TollRules$Rule" "kind" "I", Cond.fieldLink RX2 141 "TollRules$Rule" "a" "I", Cond.fieldLink RX2 144 "TollRules$Rule" "kept" "I", Cond.fieldLink RX2 147 "TollRules$Rule" "keptRow" "LTollRules$Row;", Cond.fieldLink RX2 155 "TollRules$Rule" "own" "I", Cond.methodLink RX2 135 yX2_refuse, Cond.instanceMethod yX2_refuse, Cond.selects RX2 yX2_refuse yX2_refuse, Cond.code yX2_refuse cX2_refuse 3 (some .int), Cond.fieldLink RX2 43 "TollRules" "refusedRule" "I", Cond.methodLink RX2 151 yX2_giveItem, Cond.instanceMethod yX2_giveItem, Cond.selects RX2 yX2_giveItem yX2_giveItem, Cond.code yX2_giveItem cX2_giveItem 4 (some .int), Cond.fieldLink RX2 86 "TollRules$Row" "items" "[I"]
def wsX2_rule_r3 : List Cond := [Cond.methodLink RX2 83 yX0_reaches, Cond.instanceMethod yX0_reaches, Cond.selects RX0 yX0_reaches yX0_reaches, Cond.initialized RX0, Cond.code yX0_reaches cX0_reaches 2 (some .boolean), Cond.fieldLink RX0 7 "TollRules$Row" "items" "[I", Cond.methodLink RX2 158 yX2_giveRoom, Cond.instanceMethod yX2_giveRoom, Cond.selects RX2 yX2_giveRoom yX2_giveRoom, Cond.code yX2_giveRoom cX2_giveRoom 4 (some .int), Cond.methodLink RX2 161 yX2_giveByOthers, Cond.instanceMethod yX2_giveByOthers, Cond.selects RX2 yX2_giveByOthers yX2_giveByOthers, Cond.code yX2_giveByOthers cX2_giveByOthers 4 (some .int), Cond.fieldLink RX2 165 "TollRules$Rule" "b" "I", Cond.methodLink RX2 171 Lib.Math.min.name, Cond.static Lib.Math.min.name, Cond.initialized "java/lang/Math", Cond.code Lib.Math.min.name Lib.Math.min.code 2 (some .int), Cond.methodLink RX2 100 yX2_isRefused, Cond.instanceMethod yX2_isRefused, Cond.selects RX2 yX2_isRefused yX2_isRefused, Cond.code yX2_isRefused cX2_isRefused 1 (some .boolean), Cond.methodLink RX2 168 yX2_giveOtherWay]
def wsX2_rule_r4 : List Cond := [Cond.instanceMethod yX2_giveOtherWay, Cond.selects RX2 yX2_giveOtherWay yX2_giveOtherWay, Cond.code yX2_giveOtherWay cX2_giveOtherWay 3 (some .int), Cond.fieldLink RX2 64 "TollRules" "otherWays" "I", Cond.methodLink RX2 104 yX2_fail, Cond.instanceMethod yX2_fail, Cond.selects RX2 yX2_fail yX2_fail, Cond.code yX2_fail cX2_fail 1 (some .int), Cond.fieldLink RX2 55 "TollRules" "failedKind" "I", Cond.fieldLink RX2 58 "TollRules" "failedRule" "I", Cond.fieldLink RX2 61 "TollRules" "failedCalls" "I", Cond.methodLink RX2 79 yX2_failureAnswer, Cond.static yX2_failureAnswer, Cond.code yX2_failureAnswer cX2_failureAnswer 1 (some .int), Cond.methodLink RX2 108 yX1_init, Cond.instanceMethod yX1_init, Cond.code yX1_init cX1_init 6 none, Cond.methodLink RX1 1 objectInit, Cond.instanceMethod objectInit, Cond.code objectInit ⟨#[0xb1]⟩ 1 none, Cond.fieldLink RX1 7 "TollRules$Rule" "kind" "I", Cond.fieldLink RX1 13 "TollRules$Rule" "a" "I", Cond.fieldLink RX1 16 "TollRules$Rule" "b" "I", Cond.fieldLink RX1 19 "TollRules$Rule" "kept" "I"]
def wsX2_rule_r5 : List Cond := [Cond.fieldLink RX1 22 "TollRules$Rule" "keptRow" "LTollRules$Row;", Cond.fieldLink RX1 26 "TollRules$Rule" "own" "I"]
def wsX2_rule : List Cond := .code yX2_rule cX2_rule 6 (some .int) :: ((wsX2_rule_r1 ++ (wsX2_rule_r2 ++ (wsX2_rule_r3 ++ (wsX2_rule_r4 ++ wsX2_rule_r5)))) ++ wsX20 ++ wsX10 ++ wsX00)
def wsX2_apply_r1 : List Cond := [Cond.fieldLink RX2 46 "TollRules" "latestResult" "I", Cond.methodLink RX2 111 yX2_isRule, Cond.instanceMethod yX2_isRule, Cond.selects RX2 yX2_isRule yX2_isRule, Cond.initialized RX2, Cond.code yX2_isRule cX2_isRule 2 (some .boolean), Cond.fieldLink RX2 27 "TollRules" "rulesMade" "I", Cond.methodLink RX2 93 yX2_begin, Cond.instanceMethod yX2_begin, Cond.selects RX2 yX2_begin yX2_begin, Cond.code yX2_begin cX2_begin 1 none, Cond.fieldLink RX2 49 "TollRules" "latestSteps" "I", Cond.fieldLink RX2 40 "TollRules" "refusal" "I", Cond.methodLink RX2 96 yX2_give, Cond.instanceMethod yX2_give, Cond.selects RX2 yX2_give yX2_give, Cond.code yX2_give cX2_give 4 (some .int), Cond.fieldLink RX2 52 "TollRules" "stepsInAll" "I", Cond.fieldLink RX2 23 "TollRules" "rules" "[LTollRules$Rule;", Cond.fieldLink RX2 138 "TollRules$Rule" "kind" "I", Cond.fieldLink RX2 141 "TollRules$Rule" "a" "I", Cond.fieldLink RX2 144 "TollRules$Rule" "kept" "I", Cond.fieldLink RX2 11 "TollRules" "places" "[I", Cond.fieldLink RX2 147 "TollRules$Rule" "keptRow" "LTollRules$Row;"]
def wsX2_apply_r2 : List Cond := [Cond.fieldLink RX2 17 "TollRules" "rows" "[LTollRules$Row;", Cond.fieldLink RX2 155 "TollRules$Rule" "own" "I", Cond.methodLink RX2 135 yX2_refuse, Cond.instanceMethod yX2_refuse, Cond.selects RX2 yX2_refuse yX2_refuse, Cond.code yX2_refuse cX2_refuse 3 (some .int), Cond.fieldLink RX2 43 "TollRules" "refusedRule" "I", Cond.methodLink RX2 151 yX2_giveItem, Cond.instanceMethod yX2_giveItem, Cond.selects RX2 yX2_giveItem yX2_giveItem, Cond.code yX2_giveItem cX2_giveItem 4 (some .int), Cond.fieldLink RX2 86 "TollRules$Row" "items" "[I", Cond.methodLink RX2 83 yX0_reaches, Cond.instanceMethod yX0_reaches, Cond.selects RX0 yX0_reaches yX0_reaches, Cond.initialized RX0, Cond.code yX0_reaches cX0_reaches 2 (some .boolean), Cond.fieldLink RX0 7 "TollRules$Row" "items" "[I", Cond.methodLink RX2 158 yX2_giveRoom, Cond.instanceMethod yX2_giveRoom, Cond.selects RX2 yX2_giveRoom yX2_giveRoom, Cond.code yX2_giveRoom cX2_giveRoom 4 (some .int), Cond.methodLink RX2 161 yX2_giveByOthers, Cond.instanceMethod yX2_giveByOthers]
def wsX2_apply_r3 : List Cond := [Cond.selects RX2 yX2_giveByOthers yX2_giveByOthers, Cond.code yX2_giveByOthers cX2_giveByOthers 4 (some .int), Cond.fieldLink RX2 165 "TollRules$Rule" "b" "I", Cond.methodLink RX2 171 Lib.Math.min.name, Cond.static Lib.Math.min.name, Cond.initialized "java/lang/Math", Cond.code Lib.Math.min.name Lib.Math.min.code 2 (some .int), Cond.methodLink RX2 100 yX2_isRefused, Cond.instanceMethod yX2_isRefused, Cond.selects RX2 yX2_isRefused yX2_isRefused, Cond.code yX2_isRefused cX2_isRefused 1 (some .boolean), Cond.methodLink RX2 168 yX2_giveOtherWay, Cond.instanceMethod yX2_giveOtherWay, Cond.selects RX2 yX2_giveOtherWay yX2_giveOtherWay, Cond.code yX2_giveOtherWay cX2_giveOtherWay 3 (some .int), Cond.fieldLink RX2 64 "TollRules" "otherWays" "I", Cond.methodLink RX2 104 yX2_fail, Cond.instanceMethod yX2_fail, Cond.selects RX2 yX2_fail yX2_fail, Cond.code yX2_fail cX2_fail 1 (some .int), Cond.fieldLink RX2 55 "TollRules" "failedKind" "I", Cond.fieldLink RX2 58 "TollRules" "failedRule" "I", Cond.fieldLink RX2 61 "TollRules" "failedCalls" "I", Cond.methodLink RX2 79 yX2_failureAnswer]
def wsX2_apply_r4 : List Cond := [Cond.static yX2_failureAnswer, Cond.code yX2_failureAnswer cX2_failureAnswer 1 (some .int)]
def wsX2_apply : List Cond := .code yX2_apply cX2_apply 4 (some .int) :: ((wsX2_apply_r1 ++ (wsX2_apply_r2 ++ (wsX2_apply_r3 ++ wsX2_apply_r4))) ++ wsX20 ++ wsX10 ++ wsX00)
def wsX2_each_r1 : List Cond := [Cond.fieldLink RX2 17 "TollRules" "rows" "[LTollRules$Row;", Cond.fieldLink RX2 86 "TollRules$Row" "items" "[I", Cond.methodLink RX2 111 yX2_isRule, Cond.instanceMethod yX2_isRule, Cond.selects RX2 yX2_isRule yX2_isRule, Cond.initialized RX2, Cond.code yX2_isRule cX2_isRule 2 (some .boolean), Cond.fieldLink RX2 27 "TollRules" "rulesMade" "I", Cond.methodLink RX2 73 yX2_isRow, Cond.static yX2_isRow, Cond.code yX2_isRow cX2_isRow 1 (some .boolean), Cond.methodLink RX2 79 yX2_failureAnswer, Cond.static yX2_failureAnswer, Cond.code yX2_failureAnswer cX2_failureAnswer 1 (some .int), Cond.methodLink RX2 93 yX2_begin, Cond.instanceMethod yX2_begin, Cond.selects RX2 yX2_begin yX2_begin, Cond.code yX2_begin cX2_begin 1 none, Cond.fieldLink RX2 49 "TollRules" "latestSteps" "I", Cond.fieldLink RX2 40 "TollRules" "refusal" "I", Cond.methodLink RX2 96 yX2_give, Cond.instanceMethod yX2_give, Cond.selects RX2 yX2_give yX2_give, Cond.code yX2_give cX2_give 4 (some .int)]
def wsX2_each_r2 : List Cond := [Cond.fieldLink RX2 52 "TollRules" "stepsInAll" "I", Cond.fieldLink RX2 23 "TollRules" "rules" "[LTollRules$Rule;", Cond.fieldLink RX2 138 "TollRules$Rule" "kind" "I", Cond.fieldLink RX2 141 "TollRules$Rule" "a" "I", Cond.fieldLink RX2 144 "TollRules$Rule" "kept" "I", Cond.fieldLink RX2 11 "TollRules" "places" "[I", Cond.fieldLink RX2 147 "TollRules$Rule" "keptRow" "LTollRules$Row;", Cond.fieldLink RX2 155 "TollRules$Rule" "own" "I", Cond.methodLink RX2 135 yX2_refuse, Cond.instanceMethod yX2_refuse, Cond.selects RX2 yX2_refuse yX2_refuse, Cond.code yX2_refuse cX2_refuse 3 (some .int), Cond.fieldLink RX2 43 "TollRules" "refusedRule" "I", Cond.methodLink RX2 151 yX2_giveItem, Cond.instanceMethod yX2_giveItem, Cond.selects RX2 yX2_giveItem yX2_giveItem, Cond.code yX2_giveItem cX2_giveItem 4 (some .int), Cond.methodLink RX2 83 yX0_reaches, Cond.instanceMethod yX0_reaches, Cond.selects RX0 yX0_reaches yX0_reaches, Cond.initialized RX0, Cond.code yX0_reaches cX0_reaches 2 (some .boolean), Cond.fieldLink RX0 7 "TollRules$Row" "items" "[I", Cond.methodLink RX2 158 yX2_giveRoom]
def wsX2_each_r3 : List Cond := [Cond.instanceMethod yX2_giveRoom, Cond.selects RX2 yX2_giveRoom yX2_giveRoom, Cond.code yX2_giveRoom cX2_giveRoom 4 (some .int), Cond.methodLink RX2 161 yX2_giveByOthers, Cond.instanceMethod yX2_giveByOthers, Cond.selects RX2 yX2_giveByOthers yX2_giveByOthers, Cond.code yX2_giveByOthers cX2_giveByOthers 4 (some .int), Cond.fieldLink RX2 165 "TollRules$Rule" "b" "I", Cond.methodLink RX2 171 Lib.Math.min.name, Cond.static Lib.Math.min.name, Cond.initialized "java/lang/Math", Cond.code Lib.Math.min.name Lib.Math.min.code 2 (some .int), Cond.methodLink RX2 100 yX2_isRefused, Cond.instanceMethod yX2_isRefused, Cond.selects RX2 yX2_isRefused yX2_isRefused, Cond.code yX2_isRefused cX2_isRefused 1 (some .boolean), Cond.methodLink RX2 168 yX2_giveOtherWay, Cond.instanceMethod yX2_giveOtherWay, Cond.selects RX2 yX2_giveOtherWay yX2_giveOtherWay, Cond.code yX2_giveOtherWay cX2_giveOtherWay 3 (some .int), Cond.fieldLink RX2 64 "TollRules" "otherWays" "I", Cond.methodLink RX2 104 yX2_fail, Cond.instanceMethod yX2_fail, Cond.selects RX2 yX2_fail yX2_fail]
def wsX2_each_r4 : List Cond := [Cond.code yX2_fail cX2_fail 1 (some .int), Cond.fieldLink RX2 55 "TollRules" "failedKind" "I", Cond.fieldLink RX2 58 "TollRules" "failedRule" "I", Cond.fieldLink RX2 61 "TollRules" "failedCalls" "I"]
def wsX2_each : List Cond := .code yX2_each cX2_each 7 (some .int) :: ((wsX2_each_r1 ++ (wsX2_each_r2 ++ (wsX2_each_r3 ++ wsX2_each_r4))) ++ wsX20 ++ wsX00 ++ wsX10)
def wsJ7_copyOf_59c91 : List Cond := .code yJ7_copyOf_59c91 cJ7_copyOf_59c91 3 (some (.array .int)) :: ([.methodLink RJ7 316 ⟨"[I", "clone", "()Ljava/lang/Object;"⟩, .sameMethod "[I" "java/lang/Object" "clone" "()Ljava/lang/Object;", .native ⟨"java/lang/Object", "clone", "()Ljava/lang/Object;"⟩, .instanceMethod ⟨"java/lang/Object", "clone", "()Ljava/lang/Object;"⟩, .selects "[I" ⟨"[I", "clone", "()Ljava/lang/Object;"⟩ ⟨"java/lang/Object", "clone", "()Ljava/lang/Object;"⟩, .classLink RJ7 317 "[I", .arrayClass .int, .methodLink RJ7 304 Lib.Math.min.name, .static Lib.Math.min.name, .initialized "java/lang/Math", .code Lib.Math.min.name Lib.Math.min.code 2 (some .int), .methodLink RJ7 150 arraycopyName, .native arraycopyName, .static arraycopyName, .initialized "java/lang/System"])
def wsX2_keep_r1 : List Cond := [Cond.fieldLink RX2 17 "TollRules" "rows" "[LTollRules$Row;", Cond.fieldLink RX2 86 "TollRules$Row" "items" "[I", Cond.fieldLink RX2 31 "TollRules" "moved" "[I", Cond.classLink RX2 15 RX0, Cond.instantiable RX0 1, Cond.initialized RX0, Cond.methodLink RX2 111 yX2_isRule, Cond.instanceMethod yX2_isRule, Cond.selects RX2 yX2_isRule yX2_isRule, Cond.initialized RX2, Cond.code yX2_isRule cX2_isRule 2 (some .boolean), Cond.fieldLink RX2 27 "TollRules" "rulesMade" "I", Cond.methodLink RX2 73 yX2_isRow, Cond.static yX2_isRow, Cond.code yX2_isRow cX2_isRow 1 (some .boolean), Cond.methodLink RX2 79 yX2_failureAnswer, Cond.static yX2_failureAnswer, Cond.code yX2_failureAnswer cX2_failureAnswer 1 (some .int), Cond.methodLink RX2 93 yX2_begin, Cond.instanceMethod yX2_begin, Cond.selects RX2 yX2_begin yX2_begin, Cond.code yX2_begin cX2_begin 1 none, Cond.fieldLink RX2 49 "TollRules" "latestSteps" "I", Cond.fieldLink RX2 40 "TollRules" "refusal" "I"]
def wsX2_keep_r2 : List Cond := [Cond.methodLink RX2 96 yX2_give, Cond.instanceMethod yX2_give, Cond.selects RX2 yX2_give yX2_give, Cond.code yX2_give cX2_give 4 (some .int), Cond.fieldLink RX2 52 "TollRules" "stepsInAll" "I", Cond.fieldLink RX2 23 "TollRules" "rules" "[LTollRules$Rule;", Cond.fieldLink RX2 138 "TollRules$Rule" "kind" "I", Cond.fieldLink RX2 141 "TollRules$Rule" "a" "I", Cond.fieldLink RX2 144 "TollRules$Rule" "kept" "I", Cond.fieldLink RX2 11 "TollRules" "places" "[I", Cond.fieldLink RX2 147 "TollRules$Rule" "keptRow" "LTollRules$Row;", Cond.fieldLink RX2 155 "TollRules$Rule" "own" "I", Cond.methodLink RX2 135 yX2_refuse, Cond.instanceMethod yX2_refuse, Cond.selects RX2 yX2_refuse yX2_refuse, Cond.code yX2_refuse cX2_refuse 3 (some .int), Cond.fieldLink RX2 43 "TollRules" "refusedRule" "I", Cond.methodLink RX2 151 yX2_giveItem, Cond.instanceMethod yX2_giveItem, Cond.selects RX2 yX2_giveItem yX2_giveItem, Cond.code yX2_giveItem cX2_giveItem 4 (some .int), Cond.methodLink RX2 83 yX0_reaches, Cond.instanceMethod yX0_reaches, Cond.selects RX0 yX0_reaches yX0_reaches]
def wsX2_keep_r3 : List Cond := [Cond.code yX0_reaches cX0_reaches 2 (some .boolean), Cond.fieldLink RX0 7 "TollRules$Row" "items" "[I", Cond.methodLink RX2 158 yX2_giveRoom, Cond.instanceMethod yX2_giveRoom, Cond.selects RX2 yX2_giveRoom yX2_giveRoom, Cond.code yX2_giveRoom cX2_giveRoom 4 (some .int), Cond.methodLink RX2 161 yX2_giveByOthers, Cond.instanceMethod yX2_giveByOthers, Cond.selects RX2 yX2_giveByOthers yX2_giveByOthers, Cond.code yX2_giveByOthers cX2_giveByOthers 4 (some .int), Cond.fieldLink RX2 165 "TollRules$Rule" "b" "I", Cond.methodLink RX2 171 Lib.Math.min.name, Cond.static Lib.Math.min.name, Cond.initialized "java/lang/Math", Cond.code Lib.Math.min.name Lib.Math.min.code 2 (some .int), Cond.methodLink RX2 100 yX2_isRefused, Cond.instanceMethod yX2_isRefused, Cond.selects RX2 yX2_isRefused yX2_isRefused, Cond.code yX2_isRefused cX2_isRefused 1 (some .boolean), Cond.methodLink RX2 168 yX2_giveOtherWay, Cond.instanceMethod yX2_giveOtherWay, Cond.selects RX2 yX2_giveOtherWay yX2_giveOtherWay, Cond.code yX2_giveOtherWay cX2_giveOtherWay 3 (some .int), Cond.fieldLink RX2 64 "TollRules" "otherWays" "I"]
def wsX2_keep_r4 : List Cond := [Cond.methodLink RX2 104 yX2_fail, Cond.instanceMethod yX2_fail, Cond.selects RX2 yX2_fail yX2_fail, Cond.code yX2_fail cX2_fail 1 (some .int), Cond.fieldLink RX2 55 "TollRules" "failedKind" "I", Cond.fieldLink RX2 58 "TollRules" "failedRule" "I", Cond.fieldLink RX2 61 "TollRules" "failedCalls" "I", Cond.methodLink RX2 114 yJ7_copyOf_59c91, Cond.static yJ7_copyOf_59c91, Cond.initialized RJ7, Cond.code yJ7_copyOf_59c91 cJ7_copyOf_59c91 3 (some (.array .int)), Cond.methodLink RJ7 316 ⟨"[I", "clone", "()Ljava/lang/Object;"⟩, Cond.sameMethod "[I" "java/lang/Object" "clone" "()Ljava/lang/Object;", Cond.native ⟨"java/lang/Object", "clone", "()Ljava/lang/Object;"⟩, Cond.instanceMethod ⟨"java/lang/Object", "clone", "()Ljava/lang/Object;"⟩, Cond.selects "[I" ⟨"[I", "clone", "()Ljava/lang/Object;"⟩ ⟨"java/lang/Object", "clone", "()Ljava/lang/Object;"⟩, Cond.classLink RJ7 317 "[I", Cond.arrayClass .int, Cond.methodLink RJ7 304 Lib.Math.min.name, Cond.methodLink RJ7 150 arraycopyName, Cond.native arraycopyName, Cond.static arraycopyName, Cond.initialized "java/lang/System", Cond.methodLink RX2 76 yX0_init]
def wsX2_keep_r5 : List Cond := [Cond.instanceMethod yX0_init, Cond.code yX0_init cX0_init 2 none, Cond.methodLink RX0 1 objectInit, Cond.instanceMethod objectInit, Cond.code objectInit ⟨#[0xb1]⟩ 1 none]
def wsX2_keep : List Cond := .code yX2_keep cX2_keep 8 (some .int) :: ((wsX2_keep_r1 ++ (wsX2_keep_r2 ++ (wsX2_keep_r3 ++ (wsX2_keep_r4 ++ wsX2_keep_r5)))) ++ wsX20 ++ wsX00 ++ wsX10)
def wsX2_sortOrigins : List Cond := .code yX2_sortOrigins cX2_sortOrigins 4 none :: ([.fieldLink RX2 34 "TollRules" "keys" "[I", .fieldLink RX2 37 "TollRules" "origins" "[I"] ++ wsX20)
def wsX2_moveByOrigins : List Cond := .code yX2_moveByOrigins cX2_moveByOrigins 4 (some .int) :: ([.fieldLink RX2 31 "TollRules" "moved" "[I", .fieldLink RX2 37 "TollRules" "origins" "[I", .methodLink RX2 179 arraycopyName, .native arraycopyName, .static arraycopyName, .initialized "java/lang/System"] ++ wsX20)
def wsX2_order_r1 : List Cond := [Cond.fieldLink RX2 17 "TollRules" "rows" "[LTollRules$Row;", Cond.fieldLink RX2 86 "TollRules$Row" "items" "[I", Cond.fieldLink RX2 34 "TollRules" "keys" "[I", Cond.methodLink RX2 111 yX2_isRule, Cond.instanceMethod yX2_isRule, Cond.selects RX2 yX2_isRule yX2_isRule, Cond.initialized RX2, Cond.code yX2_isRule cX2_isRule 2 (some .boolean), Cond.fieldLink RX2 27 "TollRules" "rulesMade" "I", Cond.methodLink RX2 73 yX2_isRow, Cond.static yX2_isRow, Cond.code yX2_isRow cX2_isRow 1 (some .boolean), Cond.methodLink RX2 79 yX2_failureAnswer, Cond.static yX2_failureAnswer, Cond.code yX2_failureAnswer cX2_failureAnswer 1 (some .int), Cond.methodLink RX2 93 yX2_begin, Cond.instanceMethod yX2_begin, Cond.selects RX2 yX2_begin yX2_begin, Cond.code yX2_begin cX2_begin 1 none, Cond.fieldLink RX2 49 "TollRules" "latestSteps" "I", Cond.fieldLink RX2 40 "TollRules" "refusal" "I", Cond.methodLink RX2 96 yX2_give, Cond.instanceMethod yX2_give, Cond.selects RX2 yX2_give yX2_give]
def wsX2_order_r2 : List Cond := [Cond.code yX2_give cX2_give 4 (some .int), Cond.fieldLink RX2 52 "TollRules" "stepsInAll" "I", Cond.fieldLink RX2 23 "TollRules" "rules" "[LTollRules$Rule;", Cond.fieldLink RX2 138 "TollRules$Rule" "kind" "I", Cond.fieldLink RX2 141 "TollRules$Rule" "a" "I", Cond.fieldLink RX2 144 "TollRules$Rule" "kept" "I", Cond.fieldLink RX2 11 "TollRules" "places" "[I", Cond.fieldLink RX2 147 "TollRules$Rule" "keptRow" "LTollRules$Row;", Cond.fieldLink RX2 155 "TollRules$Rule" "own" "I", Cond.methodLink RX2 135 yX2_refuse, Cond.instanceMethod yX2_refuse, Cond.selects RX2 yX2_refuse yX2_refuse, Cond.code yX2_refuse cX2_refuse 3 (some .int), Cond.fieldLink RX2 43 "TollRules" "refusedRule" "I", Cond.methodLink RX2 151 yX2_giveItem, Cond.instanceMethod yX2_giveItem, Cond.selects RX2 yX2_giveItem yX2_giveItem, Cond.code yX2_giveItem cX2_giveItem 4 (some .int), Cond.methodLink RX2 83 yX0_reaches, Cond.instanceMethod yX0_reaches, Cond.selects RX0 yX0_reaches yX0_reaches, Cond.initialized RX0, Cond.code yX0_reaches cX0_reaches 2 (some .boolean), Cond.fieldLink RX0 7 "TollRules$Row" "items" "[I"]
def wsX2_order_r3 : List Cond := [Cond.methodLink RX2 158 yX2_giveRoom, Cond.instanceMethod yX2_giveRoom, Cond.selects RX2 yX2_giveRoom yX2_giveRoom, Cond.code yX2_giveRoom cX2_giveRoom 4 (some .int), Cond.methodLink RX2 161 yX2_giveByOthers, Cond.instanceMethod yX2_giveByOthers, Cond.selects RX2 yX2_giveByOthers yX2_giveByOthers, Cond.code yX2_giveByOthers cX2_giveByOthers 4 (some .int), Cond.fieldLink RX2 165 "TollRules$Rule" "b" "I", Cond.methodLink RX2 171 Lib.Math.min.name, Cond.static Lib.Math.min.name, Cond.initialized "java/lang/Math", Cond.code Lib.Math.min.name Lib.Math.min.code 2 (some .int), Cond.methodLink RX2 100 yX2_isRefused, Cond.instanceMethod yX2_isRefused, Cond.selects RX2 yX2_isRefused yX2_isRefused, Cond.code yX2_isRefused cX2_isRefused 1 (some .boolean), Cond.methodLink RX2 168 yX2_giveOtherWay, Cond.instanceMethod yX2_giveOtherWay, Cond.selects RX2 yX2_giveOtherWay yX2_giveOtherWay, Cond.code yX2_giveOtherWay cX2_giveOtherWay 3 (some .int), Cond.fieldLink RX2 64 "TollRules" "otherWays" "I", Cond.methodLink RX2 104 yX2_fail, Cond.instanceMethod yX2_fail]
def wsX2_order_r4 : List Cond := [Cond.selects RX2 yX2_fail yX2_fail, Cond.code yX2_fail cX2_fail 1 (some .int), Cond.fieldLink RX2 55 "TollRules" "failedKind" "I", Cond.fieldLink RX2 58 "TollRules" "failedRule" "I", Cond.fieldLink RX2 61 "TollRules" "failedCalls" "I", Cond.methodLink RX2 120 yX2_sortOrigins, Cond.instanceMethod yX2_sortOrigins, Cond.selects RX2 yX2_sortOrigins yX2_sortOrigins, Cond.code yX2_sortOrigins cX2_sortOrigins 4 none, Cond.fieldLink RX2 37 "TollRules" "origins" "[I", Cond.methodLink RX2 124 yX2_moveByOrigins, Cond.instanceMethod yX2_moveByOrigins, Cond.selects RX2 yX2_moveByOrigins yX2_moveByOrigins, Cond.code yX2_moveByOrigins cX2_moveByOrigins 4 (some .int), Cond.fieldLink RX2 31 "TollRules" "moved" "[I", Cond.methodLink RX2 179 arraycopyName, Cond.native arraycopyName, Cond.static arraycopyName, Cond.initialized "java/lang/System"]
def wsX2_order : List Cond := .code yX2_order cX2_order 6 (some .int) :: ((wsX2_order_r1 ++ (wsX2_order_r2 ++ (wsX2_order_r3 ++ wsX2_order_r4))) ++ wsX20 ++ wsX00 ++ wsX10)
def wsX2_foldOne : List Cond := .code yX2_foldOne cX2_foldOne 4 (some .int) :: ([.methodLink RX2 176 Lib.Math.max.name, .static Lib.Math.max.name, .initialized "java/lang/Math", .code Lib.Math.max.name Lib.Math.max.code 2 (some .int), .methodLink RX2 135 yX2_refuse, .instanceMethod yX2_refuse, .selects RX2 yX2_refuse yX2_refuse, .initialized RX2, .code yX2_refuse cX2_refuse 3 (some .int), .fieldLink RX2 40 "TollRules" "refusal" "I", .fieldLink RX2 43 "TollRules" "refusedRule" "I"] ++ wsX20)
def wsX2_fold_r1 : List Cond := [Cond.fieldLink RX2 17 "TollRules" "rows" "[LTollRules$Row;", Cond.fieldLink RX2 40 "TollRules" "refusal" "I", Cond.fieldLink RX2 86 "TollRules$Row" "items" "[I", Cond.fieldLink RX2 46 "TollRules" "latestResult" "I", Cond.methodLink RX2 73 yX2_isRow, Cond.static yX2_isRow, Cond.initialized RX2, Cond.code yX2_isRow cX2_isRow 1 (some .boolean), Cond.methodLink RX2 79 yX2_failureAnswer, Cond.static yX2_failureAnswer, Cond.code yX2_failureAnswer cX2_failureAnswer 1 (some .int), Cond.methodLink RX2 128 yX2_foldOne, Cond.instanceMethod yX2_foldOne, Cond.selects RX2 yX2_foldOne yX2_foldOne, Cond.code yX2_foldOne cX2_foldOne 4 (some .int), Cond.methodLink RX2 176 Lib.Math.max.name, Cond.static Lib.Math.max.name, Cond.initialized "java/lang/Math", Cond.code Lib.Math.max.name Lib.Math.max.code 2 (some .int), Cond.methodLink RX2 135 yX2_refuse, Cond.instanceMethod yX2_refuse, Cond.selects RX2 yX2_refuse yX2_refuse, Cond.code yX2_refuse cX2_refuse 3 (some .int), Cond.fieldLink RX2 43 "TollRules" "refusedRule" "I"]
def wsX2_fold_r2 : List Cond := [Cond.methodLink RX2 100 yX2_isRefused, Cond.instanceMethod yX2_isRefused, Cond.selects RX2 yX2_isRefused yX2_isRefused, Cond.code yX2_isRefused cX2_isRefused 1 (some .boolean), Cond.methodLink RX2 104 yX2_fail, Cond.instanceMethod yX2_fail, Cond.selects RX2 yX2_fail yX2_fail, Cond.code yX2_fail cX2_fail 1 (some .int), Cond.fieldLink RX2 55 "TollRules" "failedKind" "I", Cond.fieldLink RX2 58 "TollRules" "failedRule" "I", Cond.fieldLink RX2 61 "TollRules" "failedCalls" "I"]
def wsX2_fold : List Cond := .code yX2_fold cX2_fold 8 (some .int) :: ((wsX2_fold_r1 ++ wsX2_fold_r2) ++ wsX20 ++ wsX00)
def wsX2_until_r1 : List Cond := [Cond.fieldLink RX2 46 "TollRules" "latestResult" "I", Cond.methodLink RX2 111 yX2_isRule, Cond.instanceMethod yX2_isRule, Cond.selects RX2 yX2_isRule yX2_isRule, Cond.initialized RX2, Cond.code yX2_isRule cX2_isRule 2 (some .boolean), Cond.fieldLink RX2 27 "TollRules" "rulesMade" "I", Cond.methodLink RX2 93 yX2_begin, Cond.instanceMethod yX2_begin, Cond.selects RX2 yX2_begin yX2_begin, Cond.code yX2_begin cX2_begin 1 none, Cond.fieldLink RX2 49 "TollRules" "latestSteps" "I", Cond.fieldLink RX2 40 "TollRules" "refusal" "I", Cond.methodLink RX2 96 yX2_give, Cond.instanceMethod yX2_give, Cond.selects RX2 yX2_give yX2_give, Cond.code yX2_give cX2_give 4 (some .int), Cond.fieldLink RX2 52 "TollRules" "stepsInAll" "I", Cond.fieldLink RX2 23 "TollRules" "rules" "[LTollRules$Rule;", Cond.fieldLink RX2 138 "TollRules$Rule" "kind" "I", Cond.fieldLink RX2 141 "TollRules$Rule" "a" "I", Cond.fieldLink RX2 144 "TollRules$Rule" "kept" "I", Cond.fieldLink RX2 11 "TollRules" "places" "[I", Cond.fieldLink RX2 147 "TollRules$Rule" "keptRow" "LTollRules$Row;"]
def wsX2_until_r2 : List Cond := [Cond.fieldLink RX2 17 "TollRules" "rows" "[LTollRules$Row;", Cond.fieldLink RX2 155 "TollRules$Rule" "own" "I", Cond.methodLink RX2 135 yX2_refuse, Cond.instanceMethod yX2_refuse, Cond.selects RX2 yX2_refuse yX2_refuse, Cond.code yX2_refuse cX2_refuse 3 (some .int), Cond.fieldLink RX2 43 "TollRules" "refusedRule" "I", Cond.methodLink RX2 151 yX2_giveItem, Cond.instanceMethod yX2_giveItem, Cond.selects RX2 yX2_giveItem yX2_giveItem, Cond.code yX2_giveItem cX2_giveItem 4 (some .int), Cond.fieldLink RX2 86 "TollRules$Row" "items" "[I", Cond.methodLink RX2 83 yX0_reaches, Cond.instanceMethod yX0_reaches, Cond.selects RX0 yX0_reaches yX0_reaches, Cond.initialized RX0, Cond.code yX0_reaches cX0_reaches 2 (some .boolean), Cond.fieldLink RX0 7 "TollRules$Row" "items" "[I", Cond.methodLink RX2 158 yX2_giveRoom, Cond.instanceMethod yX2_giveRoom, Cond.selects RX2 yX2_giveRoom yX2_giveRoom, Cond.code yX2_giveRoom cX2_giveRoom 4 (some .int), Cond.methodLink RX2 161 yX2_giveByOthers, Cond.instanceMethod yX2_giveByOthers]
def wsX2_until_r3 : List Cond := [Cond.selects RX2 yX2_giveByOthers yX2_giveByOthers, Cond.code yX2_giveByOthers cX2_giveByOthers 4 (some .int), Cond.fieldLink RX2 165 "TollRules$Rule" "b" "I", Cond.methodLink RX2 171 Lib.Math.min.name, Cond.static Lib.Math.min.name, Cond.initialized "java/lang/Math", Cond.code Lib.Math.min.name Lib.Math.min.code 2 (some .int), Cond.methodLink RX2 100 yX2_isRefused, Cond.instanceMethod yX2_isRefused, Cond.selects RX2 yX2_isRefused yX2_isRefused, Cond.code yX2_isRefused cX2_isRefused 1 (some .boolean), Cond.methodLink RX2 168 yX2_giveOtherWay, Cond.instanceMethod yX2_giveOtherWay, Cond.selects RX2 yX2_giveOtherWay yX2_giveOtherWay, Cond.code yX2_giveOtherWay cX2_giveOtherWay 3 (some .int), Cond.fieldLink RX2 64 "TollRules" "otherWays" "I", Cond.methodLink RX2 104 yX2_fail, Cond.instanceMethod yX2_fail, Cond.selects RX2 yX2_fail yX2_fail, Cond.code yX2_fail cX2_fail 1 (some .int), Cond.fieldLink RX2 55 "TollRules" "failedKind" "I", Cond.fieldLink RX2 58 "TollRules" "failedRule" "I", Cond.fieldLink RX2 61 "TollRules" "failedCalls" "I", Cond.methodLink RX2 79 yX2_failureAnswer]
def wsX2_until_r4 : List Cond := [Cond.static yX2_failureAnswer, Cond.code yX2_failureAnswer cX2_failureAnswer 1 (some .int)]
def wsX2_until : List Cond := .code yX2_until cX2_until 8 (some .int) :: ((wsX2_until_r1 ++ (wsX2_until_r2 ++ (wsX2_until_r3 ++ wsX2_until_r4))) ++ wsX20 ++ wsX10 ++ wsX00)
def wsX2_result : List Cond := .code yX2_result cX2_result 1 (some .int) :: ([.fieldLink RX2 46 "TollRules" "latestResult" "I"] ++ wsX20)
def wsX2_steps : List Cond := .code yX2_steps cX2_steps 1 (some .int) :: ([.fieldLink RX2 49 "TollRules" "latestSteps" "I"] ++ wsX20)
def wsX2_failed : List Cond := .code yX2_failed cX2_failed 2 (some .int) :: ([.fieldLink RX2 55 "TollRules" "failedKind" "I", .fieldLink RX2 58 "TollRules" "failedRule" "I"] ++ wsX20)
def wsX2_rowsOfNothing : List Cond := .code yX2_rowsOfNothing cX2_rowsOfNothing 3 (some .int) :: ([.fieldLink RX2 17 "TollRules" "rows" "[LTollRules$Row;"] ++ wsX20)
def wsX2_count : List Cond := .code yX2_count cX2_count 2 (some .int) :: ([.fieldLink RX2 27 "TollRules" "rulesMade" "I", .fieldLink RX2 52 "TollRules" "stepsInAll" "I", .fieldLink RX2 61 "TollRules" "failedCalls" "I", .fieldLink RX2 64 "TollRules" "otherWays" "I", .methodLink RX2 132 yX2_rowsOfNothing, .instanceMethod yX2_rowsOfNothing, .selects RX2 yX2_rowsOfNothing yX2_rowsOfNothing, .initialized RX2, .code yX2_rowsOfNothing cX2_rowsOfNothing 3 (some .int), .fieldLink RX2 17 "TollRules" "rows" "[LTollRules$Row;"] ++ wsX20)
def wsX3_init : List Cond := .code yX3_init cX3_init 1 none :: ([.methodLink RX3 1 objectInit, .instanceMethod objectInit, .code objectInit ⟨#[0xb1]⟩ 1 none, .arrayClass .int, .fieldLink RX3 7 "TollRulesModel" "places" "[I", .fieldLink RX3 13 "TollRulesModel" "rowOf" "[I", .fieldLink RX3 16 "TollRulesModel" "size" "[I", .fieldLink RX3 19 "TollRulesModel" "item" "[I", .fieldLink RX3 22 "TollRulesModel" "kind" "[I", .fieldLink RX3 25 "TollRulesModel" "first" "[I", .fieldLink RX3 28 "TollRulesModel" "second" "[I", .fieldLink RX3 31 "TollRulesModel" "kept" "[I", .fieldLink RX3 34 "TollRulesModel" "keptRow" "[I", .fieldLink RX3 37 "TollRulesModel" "own" "[I", .fieldLink RX3 40 "TollRulesModel" "waitRule" "[I", .fieldLink RX3 43 "TollRulesModel" "waitValue" "[I", .fieldLink RX3 46 "TollRulesModel" "waitPhase" "[I", .fieldLink RX3 49 "TollRulesModel" "waitHad" "[I", .fieldLink RX3 52 "TollRulesModel" "failedRule" "I", .fieldLink RX3 56 "TollRulesModel" "keys" "[I", .fieldLink RX3 59 "TollRulesModel" "from" "[I", .fieldLink RX3 62 "TollRulesModel" "had" "[I", .fieldLink RX3 65 "TollRulesModel" "rules" "I"] ++ wsX30)
def wsX3_in : List Cond := .code yX3_in cX3_in 3 (some .boolean) :: ([])
def wsX3_isRule : List Cond := .code yX3_isRule cX3_isRule 2 (some .boolean) :: ([.fieldLink RX3 65 "TollRulesModel" "rules" "I", .methodLink RX3 68 yX3_in, .static yX3_in, .initialized RX3, .code yX3_in cX3_in 3 (some .boolean)] ++ wsX30)
def wsX3_place : List Cond := .code yX3_place cX3_place 4 (some .long) :: ([.constantLong RX3 72 (-9223372036854775808), .fieldLink RX3 7 "TollRulesModel" "places" "[I", .methodLink RX3 68 yX3_in, .static yX3_in, .initialized RX3, .code yX3_in cX3_in 3 (some .boolean)] ++ wsX30)
def wsX3_has : List Cond := .code yX3_has cX3_has 2 (some .long) :: ([.fieldLink RX3 7 "TollRulesModel" "places" "[I", .constantLong RX3 72 (-9223372036854775808), .methodLink RX3 68 yX3_in, .static yX3_in, .initialized RX3, .code yX3_in cX3_in 3 (some .boolean)] ++ wsX30)
def wsX3_isHeld : List Cond := .code yX3_isHeld cX3_isHeld 4 (some .boolean) :: ([.fieldLink RX3 13 "TollRulesModel" "rowOf" "[I", .fieldLink RX3 65 "TollRulesModel" "rules" "I", .fieldLink RX3 22 "TollRulesModel" "kind" "[I", .fieldLink RX3 34 "TollRulesModel" "keptRow" "[I"] ++ wsX30)
def wsX3_newRow : List Cond := .code yX3_newRow cX3_newRow 4 (some .int) :: ([.fieldLink RX3 16 "TollRulesModel" "size" "[I", .fieldLink RX3 19 "TollRulesModel" "item" "[I", .methodLink RX3 74 yX3_isHeld, .instanceMethod yX3_isHeld, .selects RX3 yX3_isHeld yX3_isHeld, .initialized RX3, .code yX3_isHeld cX3_isHeld 4 (some .boolean), .fieldLink RX3 13 "TollRulesModel" "rowOf" "[I", .fieldLink RX3 65 "TollRulesModel" "rules" "I", .fieldLink RX3 22 "TollRulesModel" "kind" "[I", .fieldLink RX3 34 "TollRulesModel" "keptRow" "[I"] ++ wsX30)
def wsX3_row : List Cond := .code yX3_row cX3_row 4 (some .int) :: ([.fieldLink RX3 13 "TollRulesModel" "rowOf" "[I", .methodLink RX3 68 yX3_in, .static yX3_in, .initialized RX3, .code yX3_in cX3_in 3 (some .boolean), .methodLink RX3 78 yX3_newRow, .instanceMethod yX3_newRow, .selects RX3 yX3_newRow yX3_newRow, .code yX3_newRow cX3_newRow 4 (some .int), .fieldLink RX3 16 "TollRulesModel" "size" "[I", .fieldLink RX3 19 "TollRulesModel" "item" "[I", .methodLink RX3 74 yX3_isHeld, .instanceMethod yX3_isHeld, .selects RX3 yX3_isHeld yX3_isHeld, .code yX3_isHeld cX3_isHeld 4 (some .boolean), .fieldLink RX3 65 "TollRulesModel" "rules" "I", .fieldLink RX3 22 "TollRulesModel" "kind" "[I", .fieldLink RX3 34 "TollRulesModel" "keptRow" "[I"] ++ wsX30)
def wsX3_share : List Cond := .code yX3_share cX3_share 3 (some .int) :: ([.fieldLink RX3 13 "TollRulesModel" "rowOf" "[I", .methodLink RX3 68 yX3_in, .static yX3_in, .initialized RX3, .code yX3_in cX3_in 3 (some .boolean)] ++ wsX30)
def wsX3_put : List Cond := .code yX3_put cX3_put 4 (some .int) :: ([.fieldLink RX3 13 "TollRulesModel" "rowOf" "[I", .fieldLink RX3 16 "TollRulesModel" "size" "[I", .fieldLink RX3 19 "TollRulesModel" "item" "[I", .methodLink RX3 68 yX3_in, .static yX3_in, .initialized RX3, .code yX3_in cX3_in 3 (some .boolean)] ++ wsX30)
def wsX3_item : List Cond := .code yX3_item cX3_item 3 (some .long) :: ([.fieldLink RX3 13 "TollRulesModel" "rowOf" "[I", .fieldLink RX3 16 "TollRulesModel" "size" "[I", .fieldLink RX3 19 "TollRulesModel" "item" "[I", .constantLong RX3 72 (-9223372036854775808), .methodLink RX3 68 yX3_in, .static yX3_in, .initialized RX3, .code yX3_in cX3_in 3 (some .boolean)] ++ wsX30)
def wsX3_fails : List Cond := .code yX3_fails cX3_fails 3 none :: ([.fieldLink RX3 95 "TollRulesModel" "failure" "I", .fieldLink RX3 98 "TollRulesModel" "failureAt" "I"] ++ wsX30)
def wsX3_begins : List Cond := .code yX3_begins cX3_begins 3 (some .boolean) :: ([.fieldLink RX3 82 "TollRulesModel" "steps" "I", .fieldLink RX3 89 "TollRulesModel" "stepsEver" "I", .fieldLink RX3 40 "TollRulesModel" "waitRule" "[I", .fieldLink RX3 92 "TollRulesModel" "waiting" "I", .fieldLink RX3 43 "TollRulesModel" "waitValue" "[I", .fieldLink RX3 46 "TollRulesModel" "waitPhase" "[I", .methodLink RX3 85 yX3_fails, .instanceMethod yX3_fails, .selects RX3 yX3_fails yX3_fails, .initialized RX3, .code yX3_fails cX3_fails 3 none, .fieldLink RX3 95 "TollRulesModel" "failure" "I", .fieldLink RX3 98 "TollRulesModel" "failureAt" "I"] ++ wsX30)
def wsX3_asks : List Cond := .code yX3_asks cX3_asks 1 (some .boolean) :: ([.methodLink RX3 68 yX3_in, .static yX3_in, .initialized RX3, .code yX3_in cX3_in 3 (some .boolean)])
def wsX3_itemAt : List Cond := .code yX3_itemAt cX3_itemAt 4 (some .int) :: ([.fieldLink RX3 16 "TollRulesModel" "size" "[I", .fieldLink RX3 19 "TollRulesModel" "item" "[I", .methodLink RX3 85 yX3_fails, .instanceMethod yX3_fails, .selects RX3 yX3_fails yX3_fails, .initialized RX3, .code yX3_fails cX3_fails 3 none, .fieldLink RX3 95 "TollRulesModel" "failure" "I", .fieldLink RX3 98 "TollRulesModel" "failureAt" "I", .methodLink RX3 68 yX3_in, .static yX3_in, .code yX3_in cX3_in 3 (some .boolean)] ++ wsX30)
def wsX3_given : List Cond := .code yX3_given cX3_given 4 (some .int) :: ([.fieldLink RX3 25 "TollRulesModel" "first" "[I", .fieldLink RX3 22 "TollRulesModel" "kind" "[I", .fieldLink RX3 31 "TollRulesModel" "kept" "[I", .fieldLink RX3 7 "TollRulesModel" "places" "[I", .fieldLink RX3 34 "TollRulesModel" "keptRow" "[I", .fieldLink RX3 13 "TollRulesModel" "rowOf" "[I", .fieldLink RX3 37 "TollRulesModel" "own" "[I", .methodLink RX3 85 yX3_fails, .instanceMethod yX3_fails, .selects RX3 yX3_fails yX3_fails, .initialized RX3, .code yX3_fails cX3_fails 3 none, .fieldLink RX3 95 "TollRulesModel" "failure" "I", .fieldLink RX3 98 "TollRulesModel" "failureAt" "I", .methodLink RX3 101 yX3_itemAt, .instanceMethod yX3_itemAt, .selects RX3 yX3_itemAt yX3_itemAt, .code yX3_itemAt cX3_itemAt 4 (some .int), .fieldLink RX3 16 "TollRulesModel" "size" "[I", .fieldLink RX3 19 "TollRulesModel" "item" "[I", .methodLink RX3 68 yX3_in, .static yX3_in, .code yX3_in cX3_in 3 (some .boolean)] ++ wsX30)
def wsX3_goesOn : List Cond := .code yX3_goesOn cX3_goesOn 9 (some .boolean) :: ([.fieldLink RX3 92 "TollRulesModel" "waiting" "I", .fieldLink RX3 40 "TollRulesModel" "waitRule" "[I", .fieldLink RX3 43 "TollRulesModel" "waitValue" "[I", .fieldLink RX3 46 "TollRulesModel" "waitPhase" "[I", .fieldLink RX3 25 "TollRulesModel" "first" "[I", .fieldLink RX3 22 "TollRulesModel" "kind" "[I", .fieldLink RX3 49 "TollRulesModel" "waitHad" "[I", .fieldLink RX3 28 "TollRulesModel" "second" "[I", .fieldLink RX3 109 "TollRulesModel" "handed" "I", .methodLink RX3 105 yX3_begins, .instanceMethod yX3_begins, .selects RX3 yX3_begins yX3_begins, .initialized RX3, .code yX3_begins cX3_begins 3 (some .boolean), .fieldLink RX3 82 "TollRulesModel" "steps" "I", .fieldLink RX3 89 "TollRulesModel" "stepsEver" "I", .methodLink RX3 85 yX3_fails, .instanceMethod yX3_fails, .selects RX3 yX3_fails yX3_fails, .code yX3_fails cX3_fails 3 none, .fieldLink RX3 95 "TollRulesModel" "failure" "I", .fieldLink RX3 98 "TollRulesModel" "failureAt" "I"] ++ wsX30)
def wsX3_recovers : List Cond := .code yX3_recovers cX3_recovers 4 none :: ([.fieldLink RX3 92 "TollRulesModel" "waiting" "I", .fieldLink RX3 95 "TollRulesModel" "failure" "I", .fieldLink RX3 22 "TollRulesModel" "kind" "[I", .fieldLink RX3 40 "TollRulesModel" "waitRule" "[I", .fieldLink RX3 46 "TollRulesModel" "waitPhase" "[I", .fieldLink RX3 112 "TollRulesModel" "elses" "I", .fieldLink RX3 28 "TollRulesModel" "second" "[I", .fieldLink RX3 43 "TollRulesModel" "waitValue" "[I", .methodLink RX3 105 yX3_begins, .instanceMethod yX3_begins, .selects RX3 yX3_begins yX3_begins, .initialized RX3, .code yX3_begins cX3_begins 3 (some .boolean), .fieldLink RX3 82 "TollRulesModel" "steps" "I", .fieldLink RX3 89 "TollRulesModel" "stepsEver" "I", .methodLink RX3 85 yX3_fails, .instanceMethod yX3_fails, .selects RX3 yX3_fails yX3_fails, .code yX3_fails cX3_fails 3 none, .fieldLink RX3 98 "TollRulesModel" "failureAt" "I"] ++ wsX30)
def wsX3_gives_r1 : List Cond := [Cond.fieldLink RX3 92 "TollRulesModel" "waiting" "I", Cond.fieldLink RX3 95 "TollRulesModel" "failure" "I", Cond.fieldLink RX3 40 "TollRulesModel" "waitRule" "[I", Cond.fieldLink RX3 22 "TollRulesModel" "kind" "[I", Cond.fieldLink RX3 109 "TollRulesModel" "handed" "I", Cond.fieldLink RX3 43 "TollRulesModel" "waitValue" "[I", Cond.methodLink RX3 105 yX3_begins, Cond.instanceMethod yX3_begins, Cond.selects RX3 yX3_begins yX3_begins, Cond.initialized RX3, Cond.code yX3_begins cX3_begins 3 (some .boolean), Cond.fieldLink RX3 82 "TollRulesModel" "steps" "I", Cond.fieldLink RX3 89 "TollRulesModel" "stepsEver" "I", Cond.fieldLink RX3 46 "TollRulesModel" "waitPhase" "[I", Cond.methodLink RX3 85 yX3_fails, Cond.instanceMethod yX3_fails, Cond.selects RX3 yX3_fails yX3_fails, Cond.code yX3_fails cX3_fails 3 none, Cond.fieldLink RX3 98 "TollRulesModel" "failureAt" "I", Cond.methodLink RX3 115 yX3_recovers, Cond.instanceMethod yX3_recovers, Cond.selects RX3 yX3_recovers yX3_recovers, Cond.code yX3_recovers cX3_recovers 4 none, Cond.fieldLink RX3 112 "TollRulesModel" "elses" "I"]
def wsX3_gives_r2 : List Cond := [Cond.fieldLink RX3 28 "TollRulesModel" "second" "[I", Cond.methodLink RX3 118 yX3_asks, Cond.static yX3_asks, Cond.code yX3_asks cX3_asks 1 (some .boolean), Cond.methodLink RX3 68 yX3_in, Cond.static yX3_in, Cond.code yX3_in cX3_in 3 (some .boolean), Cond.methodLink RX3 121 yX3_goesOn, Cond.instanceMethod yX3_goesOn, Cond.selects RX3 yX3_goesOn yX3_goesOn, Cond.code yX3_goesOn cX3_goesOn 9 (some .boolean), Cond.fieldLink RX3 25 "TollRulesModel" "first" "[I", Cond.fieldLink RX3 49 "TollRulesModel" "waitHad" "[I", Cond.methodLink RX3 124 yX3_given, Cond.instanceMethod yX3_given, Cond.selects RX3 yX3_given yX3_given, Cond.code yX3_given cX3_given 4 (some .int), Cond.fieldLink RX3 31 "TollRulesModel" "kept" "[I", Cond.fieldLink RX3 7 "TollRulesModel" "places" "[I", Cond.fieldLink RX3 34 "TollRulesModel" "keptRow" "[I", Cond.fieldLink RX3 13 "TollRulesModel" "rowOf" "[I", Cond.fieldLink RX3 37 "TollRulesModel" "own" "[I", Cond.methodLink RX3 101 yX3_itemAt, Cond.instanceMethod yX3_itemAt]
def wsX3_gives_r3 : List Cond := [Cond.selects RX3 yX3_itemAt yX3_itemAt, Cond.code yX3_itemAt cX3_itemAt 4 (some .int), Cond.fieldLink RX3 16 "TollRulesModel" "size" "[I", Cond.fieldLink RX3 19 "TollRulesModel" "item" "[I"]
def wsX3_gives : List Cond := .code yX3_gives cX3_gives 6 (some .boolean) :: ((wsX3_gives_r1 ++ (wsX3_gives_r2 ++ wsX3_gives_r3)) ++ wsX30)
def wsX3_startsCall : List Cond := .code yX3_startsCall cX3_startsCall 1 none :: ([.fieldLink RX3 82 "TollRulesModel" "steps" "I", .fieldLink RX3 95 "TollRulesModel" "failure" "I"] ++ wsX30)
def wsX3_failed : List Cond := .code yX3_failed cX3_failed 4 (some .int) :: ([.fieldLink RX3 134 "TollRulesModel" "failedKind" "I", .fieldLink RX3 52 "TollRulesModel" "failedRule" "I", .fieldLink RX3 137 "TollRulesModel" "failedMany" "I"] ++ wsX30)
def wsX3_ends : List Cond := .code yX3_ends cX3_ends 2 (some .int) :: ([.fieldLink RX3 82 "TollRulesModel" "steps" "I", .fieldLink RX3 128 "TollRulesModel" "stepsTold" "I", .fieldLink RX3 95 "TollRulesModel" "failure" "I", .fieldLink RX3 98 "TollRulesModel" "failureAt" "I", .methodLink RX3 131 yX3_failed, .instanceMethod yX3_failed, .selects RX3 yX3_failed yX3_failed, .initialized RX3, .code yX3_failed cX3_failed 4 (some .int), .fieldLink RX3 134 "TollRulesModel" "failedKind" "I", .fieldLink RX3 52 "TollRulesModel" "failedRule" "I", .fieldLink RX3 137 "TollRulesModel" "failedMany" "I"] ++ wsX30)
def wsX3_rule_r1 : List Cond := [Cond.fieldLink RX3 65 "TollRulesModel" "rules" "I", Cond.fieldLink RX3 7 "TollRulesModel" "places" "[I", Cond.fieldLink RX3 109 "TollRulesModel" "handed" "I", Cond.fieldLink RX3 22 "TollRulesModel" "kind" "[I", Cond.fieldLink RX3 25 "TollRulesModel" "first" "[I", Cond.fieldLink RX3 28 "TollRulesModel" "second" "[I", Cond.fieldLink RX3 31 "TollRulesModel" "kept" "[I", Cond.fieldLink RX3 34 "TollRulesModel" "keptRow" "[I", Cond.fieldLink RX3 13 "TollRulesModel" "rowOf" "[I", Cond.fieldLink RX3 37 "TollRulesModel" "own" "[I", Cond.methodLink RX3 68 yX3_in, Cond.static yX3_in, Cond.initialized RX3, Cond.code yX3_in cX3_in 3 (some .boolean), Cond.methodLink RX3 118 yX3_asks, Cond.static yX3_asks, Cond.code yX3_asks cX3_asks 1 (some .boolean), Cond.methodLink RX3 140 yX3_isRule, Cond.instanceMethod yX3_isRule, Cond.selects RX3 yX3_isRule yX3_isRule, Cond.code yX3_isRule cX3_isRule 2 (some .boolean), Cond.methodLink RX3 143 yX3_startsCall, Cond.instanceMethod yX3_startsCall, Cond.selects RX3 yX3_startsCall yX3_startsCall]
def wsX3_rule_r2 : List Cond := [Cond.code yX3_startsCall cX3_startsCall 1 none, Cond.fieldLink RX3 82 "TollRulesModel" "steps" "I", Cond.fieldLink RX3 95 "TollRulesModel" "failure" "I", Cond.methodLink RX3 146 yX3_gives, Cond.instanceMethod yX3_gives, Cond.selects RX3 yX3_gives yX3_gives, Cond.code yX3_gives cX3_gives 6 (some .boolean), Cond.fieldLink RX3 92 "TollRulesModel" "waiting" "I", Cond.fieldLink RX3 40 "TollRulesModel" "waitRule" "[I", Cond.fieldLink RX3 43 "TollRulesModel" "waitValue" "[I", Cond.methodLink RX3 105 yX3_begins, Cond.instanceMethod yX3_begins, Cond.selects RX3 yX3_begins yX3_begins, Cond.code yX3_begins cX3_begins 3 (some .boolean), Cond.fieldLink RX3 89 "TollRulesModel" "stepsEver" "I", Cond.fieldLink RX3 46 "TollRulesModel" "waitPhase" "[I", Cond.methodLink RX3 85 yX3_fails, Cond.instanceMethod yX3_fails, Cond.selects RX3 yX3_fails yX3_fails, Cond.code yX3_fails cX3_fails 3 none, Cond.fieldLink RX3 98 "TollRulesModel" "failureAt" "I", Cond.methodLink RX3 115 yX3_recovers, Cond.instanceMethod yX3_recovers, Cond.selects RX3 yX3_recovers yX3_recovers]
def wsX3_rule_r3 : List Cond := [Cond.code yX3_recovers cX3_recovers 4 none, Cond.fieldLink RX3 112 "TollRulesModel" "elses" "I", Cond.methodLink RX3 121 yX3_goesOn, Cond.instanceMethod yX3_goesOn, Cond.selects RX3 yX3_goesOn yX3_goesOn, Cond.code yX3_goesOn cX3_goesOn 9 (some .boolean), Cond.fieldLink RX3 49 "TollRulesModel" "waitHad" "[I", Cond.methodLink RX3 124 yX3_given, Cond.instanceMethod yX3_given, Cond.selects RX3 yX3_given yX3_given, Cond.code yX3_given cX3_given 4 (some .int), Cond.methodLink RX3 101 yX3_itemAt, Cond.instanceMethod yX3_itemAt, Cond.selects RX3 yX3_itemAt yX3_itemAt, Cond.code yX3_itemAt cX3_itemAt 4 (some .int), Cond.fieldLink RX3 16 "TollRulesModel" "size" "[I", Cond.fieldLink RX3 19 "TollRulesModel" "item" "[I", Cond.methodLink RX3 149 yX3_ends, Cond.instanceMethod yX3_ends, Cond.selects RX3 yX3_ends yX3_ends, Cond.code yX3_ends cX3_ends 2 (some .int), Cond.fieldLink RX3 128 "TollRulesModel" "stepsTold" "I", Cond.methodLink RX3 131 yX3_failed, Cond.instanceMethod yX3_failed]
def wsX3_rule_r4 : List Cond := [Cond.selects RX3 yX3_failed yX3_failed, Cond.code yX3_failed cX3_failed 4 (some .int), Cond.fieldLink RX3 134 "TollRulesModel" "failedKind" "I", Cond.fieldLink RX3 52 "TollRulesModel" "failedRule" "I", Cond.fieldLink RX3 137 "TollRulesModel" "failedMany" "I"]
def wsX3_rule : List Cond := .code yX3_rule cX3_rule 8 (some .int) :: ((wsX3_rule_r1 ++ (wsX3_rule_r2 ++ (wsX3_rule_r3 ++ wsX3_rule_r4))) ++ wsX30)
def wsX3_apply_r1 : List Cond := [Cond.fieldLink RX3 109 "TollRulesModel" "handed" "I", Cond.fieldLink RX3 152 "TollRulesModel" "result" "I", Cond.methodLink RX3 140 yX3_isRule, Cond.instanceMethod yX3_isRule, Cond.selects RX3 yX3_isRule yX3_isRule, Cond.initialized RX3, Cond.code yX3_isRule cX3_isRule 2 (some .boolean), Cond.fieldLink RX3 65 "TollRulesModel" "rules" "I", Cond.methodLink RX3 68 yX3_in, Cond.static yX3_in, Cond.code yX3_in cX3_in 3 (some .boolean), Cond.methodLink RX3 143 yX3_startsCall, Cond.instanceMethod yX3_startsCall, Cond.selects RX3 yX3_startsCall yX3_startsCall, Cond.code yX3_startsCall cX3_startsCall 1 none, Cond.fieldLink RX3 82 "TollRulesModel" "steps" "I", Cond.fieldLink RX3 95 "TollRulesModel" "failure" "I", Cond.methodLink RX3 146 yX3_gives, Cond.instanceMethod yX3_gives, Cond.selects RX3 yX3_gives yX3_gives, Cond.code yX3_gives cX3_gives 6 (some .boolean), Cond.fieldLink RX3 92 "TollRulesModel" "waiting" "I", Cond.fieldLink RX3 40 "TollRulesModel" "waitRule" "[I", Cond.fieldLink RX3 22 "TollRulesModel" "kind" "[I"]
def wsX3_apply_r2 : List Cond := [Cond.fieldLink RX3 43 "TollRulesModel" "waitValue" "[I", Cond.methodLink RX3 105 yX3_begins, Cond.instanceMethod yX3_begins, Cond.selects RX3 yX3_begins yX3_begins, Cond.code yX3_begins cX3_begins 3 (some .boolean), Cond.fieldLink RX3 89 "TollRulesModel" "stepsEver" "I", Cond.fieldLink RX3 46 "TollRulesModel" "waitPhase" "[I", Cond.methodLink RX3 85 yX3_fails, Cond.instanceMethod yX3_fails, Cond.selects RX3 yX3_fails yX3_fails, Cond.code yX3_fails cX3_fails 3 none, Cond.fieldLink RX3 98 "TollRulesModel" "failureAt" "I", Cond.methodLink RX3 115 yX3_recovers, Cond.instanceMethod yX3_recovers, Cond.selects RX3 yX3_recovers yX3_recovers, Cond.code yX3_recovers cX3_recovers 4 none, Cond.fieldLink RX3 112 "TollRulesModel" "elses" "I", Cond.fieldLink RX3 28 "TollRulesModel" "second" "[I", Cond.methodLink RX3 118 yX3_asks, Cond.static yX3_asks, Cond.code yX3_asks cX3_asks 1 (some .boolean), Cond.methodLink RX3 121 yX3_goesOn, Cond.instanceMethod yX3_goesOn, Cond.selects RX3 yX3_goesOn yX3_goesOn]
def wsX3_apply_r3 : List Cond := [Cond.code yX3_goesOn cX3_goesOn 9 (some .boolean), Cond.fieldLink RX3 25 "TollRulesModel" "first" "[I", Cond.fieldLink RX3 49 "TollRulesModel" "waitHad" "[I", Cond.methodLink RX3 124 yX3_given, Cond.instanceMethod yX3_given, Cond.selects RX3 yX3_given yX3_given, Cond.code yX3_given cX3_given 4 (some .int), Cond.fieldLink RX3 31 "TollRulesModel" "kept" "[I", Cond.fieldLink RX3 7 "TollRulesModel" "places" "[I", Cond.fieldLink RX3 34 "TollRulesModel" "keptRow" "[I", Cond.fieldLink RX3 13 "TollRulesModel" "rowOf" "[I", Cond.fieldLink RX3 37 "TollRulesModel" "own" "[I", Cond.methodLink RX3 101 yX3_itemAt, Cond.instanceMethod yX3_itemAt, Cond.selects RX3 yX3_itemAt yX3_itemAt, Cond.code yX3_itemAt cX3_itemAt 4 (some .int), Cond.fieldLink RX3 16 "TollRulesModel" "size" "[I", Cond.fieldLink RX3 19 "TollRulesModel" "item" "[I", Cond.methodLink RX3 149 yX3_ends, Cond.instanceMethod yX3_ends, Cond.selects RX3 yX3_ends yX3_ends, Cond.code yX3_ends cX3_ends 2 (some .int), Cond.fieldLink RX3 128 "TollRulesModel" "stepsTold" "I", Cond.methodLink RX3 131 yX3_failed]
def wsX3_apply_r4 : List Cond := [Cond.instanceMethod yX3_failed, Cond.selects RX3 yX3_failed yX3_failed, Cond.code yX3_failed cX3_failed 4 (some .int), Cond.fieldLink RX3 134 "TollRulesModel" "failedKind" "I", Cond.fieldLink RX3 52 "TollRulesModel" "failedRule" "I", Cond.fieldLink RX3 137 "TollRulesModel" "failedMany" "I"]
def wsX3_apply : List Cond := .code yX3_apply cX3_apply 4 (some .int) :: ((wsX3_apply_r1 ++ (wsX3_apply_r2 ++ (wsX3_apply_r3 ++ wsX3_apply_r4))) ++ wsX30)
def wsX3_each_r1 : List Cond := [Cond.fieldLink RX3 13 "TollRulesModel" "rowOf" "[I", Cond.fieldLink RX3 16 "TollRulesModel" "size" "[I", Cond.fieldLink RX3 19 "TollRulesModel" "item" "[I", Cond.fieldLink RX3 109 "TollRulesModel" "handed" "I", Cond.methodLink RX3 140 yX3_isRule, Cond.instanceMethod yX3_isRule, Cond.selects RX3 yX3_isRule yX3_isRule, Cond.initialized RX3, Cond.code yX3_isRule cX3_isRule 2 (some .boolean), Cond.fieldLink RX3 65 "TollRulesModel" "rules" "I", Cond.methodLink RX3 68 yX3_in, Cond.static yX3_in, Cond.code yX3_in cX3_in 3 (some .boolean), Cond.methodLink RX3 143 yX3_startsCall, Cond.instanceMethod yX3_startsCall, Cond.selects RX3 yX3_startsCall yX3_startsCall, Cond.code yX3_startsCall cX3_startsCall 1 none, Cond.fieldLink RX3 82 "TollRulesModel" "steps" "I", Cond.fieldLink RX3 95 "TollRulesModel" "failure" "I", Cond.methodLink RX3 146 yX3_gives, Cond.instanceMethod yX3_gives, Cond.selects RX3 yX3_gives yX3_gives, Cond.code yX3_gives cX3_gives 6 (some .boolean), Cond.fieldLink RX3 92 "TollRulesModel" "waiting" "I"]
def wsX3_each_r2 : List Cond := [Cond.fieldLink RX3 40 "TollRulesModel" "waitRule" "[I", Cond.fieldLink RX3 22 "TollRulesModel" "kind" "[I", Cond.fieldLink RX3 43 "TollRulesModel" "waitValue" "[I", Cond.methodLink RX3 105 yX3_begins, Cond.instanceMethod yX3_begins, Cond.selects RX3 yX3_begins yX3_begins, Cond.code yX3_begins cX3_begins 3 (some .boolean), Cond.fieldLink RX3 89 "TollRulesModel" "stepsEver" "I", Cond.fieldLink RX3 46 "TollRulesModel" "waitPhase" "[I", Cond.methodLink RX3 85 yX3_fails, Cond.instanceMethod yX3_fails, Cond.selects RX3 yX3_fails yX3_fails, Cond.code yX3_fails cX3_fails 3 none, Cond.fieldLink RX3 98 "TollRulesModel" "failureAt" "I", Cond.methodLink RX3 115 yX3_recovers, Cond.instanceMethod yX3_recovers, Cond.selects RX3 yX3_recovers yX3_recovers, Cond.code yX3_recovers cX3_recovers 4 none, Cond.fieldLink RX3 112 "TollRulesModel" "elses" "I", Cond.fieldLink RX3 28 "TollRulesModel" "second" "[I", Cond.methodLink RX3 118 yX3_asks, Cond.static yX3_asks, Cond.code yX3_asks cX3_asks 1 (some .boolean), Cond.methodLink RX3 121 yX3_goesOn]
def wsX3_each_r3 : List Cond := [Cond.instanceMethod yX3_goesOn, Cond.selects RX3 yX3_goesOn yX3_goesOn, Cond.code yX3_goesOn cX3_goesOn 9 (some .boolean), Cond.fieldLink RX3 25 "TollRulesModel" "first" "[I", Cond.fieldLink RX3 49 "TollRulesModel" "waitHad" "[I", Cond.methodLink RX3 124 yX3_given, Cond.instanceMethod yX3_given, Cond.selects RX3 yX3_given yX3_given, Cond.code yX3_given cX3_given 4 (some .int), Cond.fieldLink RX3 31 "TollRulesModel" "kept" "[I", Cond.fieldLink RX3 7 "TollRulesModel" "places" "[I", Cond.fieldLink RX3 34 "TollRulesModel" "keptRow" "[I", Cond.fieldLink RX3 37 "TollRulesModel" "own" "[I", Cond.methodLink RX3 101 yX3_itemAt, Cond.instanceMethod yX3_itemAt, Cond.selects RX3 yX3_itemAt yX3_itemAt, Cond.code yX3_itemAt cX3_itemAt 4 (some .int), Cond.methodLink RX3 149 yX3_ends, Cond.instanceMethod yX3_ends, Cond.selects RX3 yX3_ends yX3_ends, Cond.code yX3_ends cX3_ends 2 (some .int), Cond.fieldLink RX3 128 "TollRulesModel" "stepsTold" "I", Cond.methodLink RX3 131 yX3_failed, Cond.instanceMethod yX3_failed]
def wsX3_each_r4 : List Cond := [Cond.selects RX3 yX3_failed yX3_failed, Cond.code yX3_failed cX3_failed 4 (some .int), Cond.fieldLink RX3 134 "TollRulesModel" "failedKind" "I", Cond.fieldLink RX3 52 "TollRulesModel" "failedRule" "I", Cond.fieldLink RX3 137 "TollRulesModel" "failedMany" "I"]
def wsX3_each : List Cond := .code yX3_each cX3_each 5 (some .int) :: ((wsX3_each_r1 ++ (wsX3_each_r2 ++ (wsX3_each_r3 ++ wsX3_each_r4))) ++ wsX30)
def wsX3_asksEach_r1 : List Cond := [Cond.fieldLink RX3 16 "TollRulesModel" "size" "[I", Cond.fieldLink RX3 19 "TollRulesModel" "item" "[I", Cond.fieldLink RX3 56 "TollRulesModel" "keys" "[I", Cond.fieldLink RX3 109 "TollRulesModel" "handed" "I", Cond.methodLink RX3 143 yX3_startsCall, Cond.instanceMethod yX3_startsCall, Cond.selects RX3 yX3_startsCall yX3_startsCall, Cond.initialized RX3, Cond.code yX3_startsCall cX3_startsCall 1 none, Cond.fieldLink RX3 82 "TollRulesModel" "steps" "I", Cond.fieldLink RX3 95 "TollRulesModel" "failure" "I", Cond.methodLink RX3 146 yX3_gives, Cond.instanceMethod yX3_gives, Cond.selects RX3 yX3_gives yX3_gives, Cond.code yX3_gives cX3_gives 6 (some .boolean), Cond.fieldLink RX3 92 "TollRulesModel" "waiting" "I", Cond.fieldLink RX3 40 "TollRulesModel" "waitRule" "[I", Cond.fieldLink RX3 22 "TollRulesModel" "kind" "[I", Cond.fieldLink RX3 43 "TollRulesModel" "waitValue" "[I", Cond.methodLink RX3 105 yX3_begins, Cond.instanceMethod yX3_begins, Cond.selects RX3 yX3_begins yX3_begins, Cond.code yX3_begins cX3_begins 3 (some .boolean), Cond.fieldLink RX3 89 "TollRulesModel" "stepsEver" "I"]
def wsX3_asksEach_r2 : List Cond := [Cond.fieldLink RX3 46 "TollRulesModel" "waitPhase" "[I", Cond.methodLink RX3 85 yX3_fails, Cond.instanceMethod yX3_fails, Cond.selects RX3 yX3_fails yX3_fails, Cond.code yX3_fails cX3_fails 3 none, Cond.fieldLink RX3 98 "TollRulesModel" "failureAt" "I", Cond.methodLink RX3 115 yX3_recovers, Cond.instanceMethod yX3_recovers, Cond.selects RX3 yX3_recovers yX3_recovers, Cond.code yX3_recovers cX3_recovers 4 none, Cond.fieldLink RX3 112 "TollRulesModel" "elses" "I", Cond.fieldLink RX3 28 "TollRulesModel" "second" "[I", Cond.methodLink RX3 118 yX3_asks, Cond.static yX3_asks, Cond.code yX3_asks cX3_asks 1 (some .boolean), Cond.methodLink RX3 68 yX3_in, Cond.static yX3_in, Cond.code yX3_in cX3_in 3 (some .boolean), Cond.methodLink RX3 121 yX3_goesOn, Cond.instanceMethod yX3_goesOn, Cond.selects RX3 yX3_goesOn yX3_goesOn, Cond.code yX3_goesOn cX3_goesOn 9 (some .boolean), Cond.fieldLink RX3 25 "TollRulesModel" "first" "[I", Cond.fieldLink RX3 49 "TollRulesModel" "waitHad" "[I"]
def wsX3_asksEach_r3 : List Cond := [Cond.methodLink RX3 124 yX3_given, Cond.instanceMethod yX3_given, Cond.selects RX3 yX3_given yX3_given, Cond.code yX3_given cX3_given 4 (some .int), Cond.fieldLink RX3 31 "TollRulesModel" "kept" "[I", Cond.fieldLink RX3 7 "TollRulesModel" "places" "[I", Cond.fieldLink RX3 34 "TollRulesModel" "keptRow" "[I", Cond.fieldLink RX3 13 "TollRulesModel" "rowOf" "[I", Cond.fieldLink RX3 37 "TollRulesModel" "own" "[I", Cond.methodLink RX3 101 yX3_itemAt, Cond.instanceMethod yX3_itemAt, Cond.selects RX3 yX3_itemAt yX3_itemAt, Cond.code yX3_itemAt cX3_itemAt 4 (some .int)]
def wsX3_asksEach : List Cond := .code yX3_asksEach cX3_asksEach 4 (some .boolean) :: ((wsX3_asksEach_r1 ++ (wsX3_asksEach_r2 ++ wsX3_asksEach_r3)) ++ wsX30)
def wsX3_keep_r1 : List Cond := [Cond.fieldLink RX3 13 "TollRulesModel" "rowOf" "[I", Cond.fieldLink RX3 16 "TollRulesModel" "size" "[I", Cond.fieldLink RX3 56 "TollRulesModel" "keys" "[I", Cond.fieldLink RX3 59 "TollRulesModel" "from" "[I", Cond.fieldLink RX3 19 "TollRulesModel" "item" "[I", Cond.methodLink RX3 140 yX3_isRule, Cond.instanceMethod yX3_isRule, Cond.selects RX3 yX3_isRule yX3_isRule, Cond.initialized RX3, Cond.code yX3_isRule cX3_isRule 2 (some .boolean), Cond.fieldLink RX3 65 "TollRulesModel" "rules" "I", Cond.methodLink RX3 68 yX3_in, Cond.static yX3_in, Cond.code yX3_in cX3_in 3 (some .boolean), Cond.methodLink RX3 155 yX3_asksEach, Cond.instanceMethod yX3_asksEach, Cond.selects RX3 yX3_asksEach yX3_asksEach, Cond.code yX3_asksEach cX3_asksEach 4 (some .boolean), Cond.fieldLink RX3 109 "TollRulesModel" "handed" "I", Cond.methodLink RX3 143 yX3_startsCall, Cond.instanceMethod yX3_startsCall, Cond.selects RX3 yX3_startsCall yX3_startsCall, Cond.code yX3_startsCall cX3_startsCall 1 none, Cond.fieldLink RX3 82 "TollRulesModel" "steps" "I"]
end
section
def wsX3_keep_r2 : List Cond := [Cond.fieldLink RX3 95 "TollRulesModel" "failure" "I", Cond.methodLink RX3 146 yX3_gives, Cond.instanceMethod yX3_gives, Cond.selects RX3 yX3_gives yX3_gives, Cond.code yX3_gives cX3_gives 6 (some .boolean), Cond.fieldLink RX3 92 "TollRulesModel" "waiting" "I", Cond.fieldLink RX3 40 "TollRulesModel" "waitRule" "[I", Cond.fieldLink RX3 22 "TollRulesModel" "kind" "[I", Cond.fieldLink RX3 43 "TollRulesModel" "waitValue" "[I", Cond.methodLink RX3 105 yX3_begins, Cond.instanceMethod yX3_begins, Cond.selects RX3 yX3_begins yX3_begins, Cond.code yX3_begins cX3_begins 3 (some .boolean), Cond.fieldLink RX3 89 "TollRulesModel" "stepsEver" "I", Cond.fieldLink RX3 46 "TollRulesModel" "waitPhase" "[I", Cond.methodLink RX3 85 yX3_fails, Cond.instanceMethod yX3_fails, Cond.selects RX3 yX3_fails yX3_fails, Cond.code yX3_fails cX3_fails 3 none, Cond.fieldLink RX3 98 "TollRulesModel" "failureAt" "I", Cond.methodLink RX3 115 yX3_recovers, Cond.instanceMethod yX3_recovers, Cond.selects RX3 yX3_recovers yX3_recovers, Cond.code yX3_recovers cX3_recovers 4 none]
def wsX3_keep_r3 : List Cond := [Cond.fieldLink RX3 112 "TollRulesModel" "elses" "I", Cond.fieldLink RX3 28 "TollRulesModel" "second" "[I", Cond.methodLink RX3 118 yX3_asks, Cond.static yX3_asks, Cond.code yX3_asks cX3_asks 1 (some .boolean), Cond.methodLink RX3 121 yX3_goesOn, Cond.instanceMethod yX3_goesOn, Cond.selects RX3 yX3_goesOn yX3_goesOn, Cond.code yX3_goesOn cX3_goesOn 9 (some .boolean), Cond.fieldLink RX3 25 "TollRulesModel" "first" "[I", Cond.fieldLink RX3 49 "TollRulesModel" "waitHad" "[I", Cond.methodLink RX3 124 yX3_given, Cond.instanceMethod yX3_given, Cond.selects RX3 yX3_given yX3_given, Cond.code yX3_given cX3_given 4 (some .int), Cond.fieldLink RX3 31 "TollRulesModel" "kept" "[I", Cond.fieldLink RX3 7 "TollRulesModel" "places" "[I", Cond.fieldLink RX3 34 "TollRulesModel" "keptRow" "[I", Cond.fieldLink RX3 37 "TollRulesModel" "own" "[I", Cond.methodLink RX3 101 yX3_itemAt, Cond.instanceMethod yX3_itemAt, Cond.selects RX3 yX3_itemAt yX3_itemAt, Cond.code yX3_itemAt cX3_itemAt 4 (some .int), Cond.methodLink RX3 78 yX3_newRow]
def wsX3_keep_r4 : List Cond := [Cond.instanceMethod yX3_newRow, Cond.selects RX3 yX3_newRow yX3_newRow, Cond.code yX3_newRow cX3_newRow 4 (some .int), Cond.methodLink RX3 74 yX3_isHeld, Cond.instanceMethod yX3_isHeld, Cond.selects RX3 yX3_isHeld yX3_isHeld, Cond.code yX3_isHeld cX3_isHeld 4 (some .boolean), Cond.methodLink RX3 149 yX3_ends, Cond.instanceMethod yX3_ends, Cond.selects RX3 yX3_ends yX3_ends, Cond.code yX3_ends cX3_ends 2 (some .int), Cond.fieldLink RX3 128 "TollRulesModel" "stepsTold" "I", Cond.methodLink RX3 131 yX3_failed, Cond.instanceMethod yX3_failed, Cond.selects RX3 yX3_failed yX3_failed, Cond.code yX3_failed cX3_failed 4 (some .int), Cond.fieldLink RX3 134 "TollRulesModel" "failedKind" "I", Cond.fieldLink RX3 52 "TollRulesModel" "failedRule" "I", Cond.fieldLink RX3 137 "TollRulesModel" "failedMany" "I"]
def wsX3_keep : List Cond := .code yX3_keep cX3_keep 7 (some .int) :: ((wsX3_keep_r1 ++ (wsX3_keep_r2 ++ (wsX3_keep_r3 ++ wsX3_keep_r4))) ++ wsX30)
def wsX3_order_r1 : List Cond := [Cond.fieldLink RX3 13 "TollRulesModel" "rowOf" "[I", Cond.fieldLink RX3 16 "TollRulesModel" "size" "[I", Cond.fieldLink RX3 56 "TollRulesModel" "keys" "[I", Cond.fieldLink RX3 62 "TollRulesModel" "had" "[I", Cond.fieldLink RX3 19 "TollRulesModel" "item" "[I", Cond.methodLink RX3 140 yX3_isRule, Cond.instanceMethod yX3_isRule, Cond.selects RX3 yX3_isRule yX3_isRule, Cond.initialized RX3, Cond.code yX3_isRule cX3_isRule 2 (some .boolean), Cond.fieldLink RX3 65 "TollRulesModel" "rules" "I", Cond.methodLink RX3 68 yX3_in, Cond.static yX3_in, Cond.code yX3_in cX3_in 3 (some .boolean), Cond.methodLink RX3 155 yX3_asksEach, Cond.instanceMethod yX3_asksEach, Cond.selects RX3 yX3_asksEach yX3_asksEach, Cond.code yX3_asksEach cX3_asksEach 4 (some .boolean), Cond.fieldLink RX3 109 "TollRulesModel" "handed" "I", Cond.methodLink RX3 143 yX3_startsCall, Cond.instanceMethod yX3_startsCall, Cond.selects RX3 yX3_startsCall yX3_startsCall, Cond.code yX3_startsCall cX3_startsCall 1 none, Cond.fieldLink RX3 82 "TollRulesModel" "steps" "I"]
def wsX3_order_r2 : List Cond := [Cond.fieldLink RX3 95 "TollRulesModel" "failure" "I", Cond.methodLink RX3 146 yX3_gives, Cond.instanceMethod yX3_gives, Cond.selects RX3 yX3_gives yX3_gives, Cond.code yX3_gives cX3_gives 6 (some .boolean), Cond.fieldLink RX3 92 "TollRulesModel" "waiting" "I", Cond.fieldLink RX3 40 "TollRulesModel" "waitRule" "[I", Cond.fieldLink RX3 22 "TollRulesModel" "kind" "[I", Cond.fieldLink RX3 43 "TollRulesModel" "waitValue" "[I", Cond.methodLink RX3 105 yX3_begins, Cond.instanceMethod yX3_begins, Cond.selects RX3 yX3_begins yX3_begins, Cond.code yX3_begins cX3_begins 3 (some .boolean), Cond.fieldLink RX3 89 "TollRulesModel" "stepsEver" "I", Cond.fieldLink RX3 46 "TollRulesModel" "waitPhase" "[I", Cond.methodLink RX3 85 yX3_fails, Cond.instanceMethod yX3_fails, Cond.selects RX3 yX3_fails yX3_fails, Cond.code yX3_fails cX3_fails 3 none, Cond.fieldLink RX3 98 "TollRulesModel" "failureAt" "I", Cond.methodLink RX3 115 yX3_recovers, Cond.instanceMethod yX3_recovers, Cond.selects RX3 yX3_recovers yX3_recovers, Cond.code yX3_recovers cX3_recovers 4 none]
def wsX3_order_r3 : List Cond := [Cond.fieldLink RX3 112 "TollRulesModel" "elses" "I", Cond.fieldLink RX3 28 "TollRulesModel" "second" "[I", Cond.methodLink RX3 118 yX3_asks, Cond.static yX3_asks, Cond.code yX3_asks cX3_asks 1 (some .boolean), Cond.methodLink RX3 121 yX3_goesOn, Cond.instanceMethod yX3_goesOn, Cond.selects RX3 yX3_goesOn yX3_goesOn, Cond.code yX3_goesOn cX3_goesOn 9 (some .boolean), Cond.fieldLink RX3 25 "TollRulesModel" "first" "[I", Cond.fieldLink RX3 49 "TollRulesModel" "waitHad" "[I", Cond.methodLink RX3 124 yX3_given, Cond.instanceMethod yX3_given, Cond.selects RX3 yX3_given yX3_given, Cond.code yX3_given cX3_given 4 (some .int), Cond.fieldLink RX3 31 "TollRulesModel" "kept" "[I", Cond.fieldLink RX3 7 "TollRulesModel" "places" "[I", Cond.fieldLink RX3 34 "TollRulesModel" "keptRow" "[I", Cond.fieldLink RX3 37 "TollRulesModel" "own" "[I", Cond.methodLink RX3 101 yX3_itemAt, Cond.instanceMethod yX3_itemAt, Cond.selects RX3 yX3_itemAt yX3_itemAt, Cond.code yX3_itemAt cX3_itemAt 4 (some .int), Cond.methodLink RX3 149 yX3_ends]
def wsX3_order_r4 : List Cond := [Cond.instanceMethod yX3_ends, Cond.selects RX3 yX3_ends yX3_ends, Cond.code yX3_ends cX3_ends 2 (some .int), Cond.fieldLink RX3 128 "TollRulesModel" "stepsTold" "I", Cond.methodLink RX3 131 yX3_failed, Cond.instanceMethod yX3_failed, Cond.selects RX3 yX3_failed yX3_failed, Cond.code yX3_failed cX3_failed 4 (some .int), Cond.fieldLink RX3 134 "TollRulesModel" "failedKind" "I", Cond.fieldLink RX3 52 "TollRulesModel" "failedRule" "I", Cond.fieldLink RX3 137 "TollRulesModel" "failedMany" "I"]
def wsX3_order : List Cond := .code yX3_order cX3_order 8 (some .int) :: ((wsX3_order_r1 ++ (wsX3_order_r2 ++ (wsX3_order_r3 ++ wsX3_order_r4))) ++ wsX30)
def wsX3_fold : List Cond := .code yX3_fold cX3_fold 8 (some .int) :: ([.fieldLink RX3 13 "TollRulesModel" "rowOf" "[I", .fieldLink RX3 16 "TollRulesModel" "size" "[I", .fieldLink RX3 19 "TollRulesModel" "item" "[I", .fieldLink RX3 152 "TollRulesModel" "result" "I", .methodLink RX3 68 yX3_in, .static yX3_in, .initialized RX3, .code yX3_in cX3_in 3 (some .boolean), .methodLink RX3 131 yX3_failed, .instanceMethod yX3_failed, .selects RX3 yX3_failed yX3_failed, .code yX3_failed cX3_failed 4 (some .int), .fieldLink RX3 134 "TollRulesModel" "failedKind" "I", .fieldLink RX3 52 "TollRulesModel" "failedRule" "I", .fieldLink RX3 137 "TollRulesModel" "failedMany" "I"] ++ wsX30)
def wsX3_until_r1 : List Cond := [Cond.fieldLink RX3 109 "TollRulesModel" "handed" "I", Cond.fieldLink RX3 95 "TollRulesModel" "failure" "I", Cond.fieldLink RX3 152 "TollRulesModel" "result" "I", Cond.methodLink RX3 140 yX3_isRule, Cond.instanceMethod yX3_isRule, Cond.selects RX3 yX3_isRule yX3_isRule, Cond.initialized RX3, Cond.code yX3_isRule cX3_isRule 2 (some .boolean), Cond.fieldLink RX3 65 "TollRulesModel" "rules" "I", Cond.methodLink RX3 68 yX3_in, Cond.static yX3_in, Cond.code yX3_in cX3_in 3 (some .boolean), Cond.methodLink RX3 143 yX3_startsCall, Cond.instanceMethod yX3_startsCall, Cond.selects RX3 yX3_startsCall yX3_startsCall, Cond.code yX3_startsCall cX3_startsCall 1 none, Cond.fieldLink RX3 82 "TollRulesModel" "steps" "I", Cond.methodLink RX3 146 yX3_gives, Cond.instanceMethod yX3_gives, Cond.selects RX3 yX3_gives yX3_gives, Cond.code yX3_gives cX3_gives 6 (some .boolean), Cond.fieldLink RX3 92 "TollRulesModel" "waiting" "I", Cond.fieldLink RX3 40 "TollRulesModel" "waitRule" "[I", Cond.fieldLink RX3 22 "TollRulesModel" "kind" "[I"]
def wsX3_until_r2 : List Cond := [Cond.fieldLink RX3 43 "TollRulesModel" "waitValue" "[I", Cond.methodLink RX3 105 yX3_begins, Cond.instanceMethod yX3_begins, Cond.selects RX3 yX3_begins yX3_begins, Cond.code yX3_begins cX3_begins 3 (some .boolean), Cond.fieldLink RX3 89 "TollRulesModel" "stepsEver" "I", Cond.fieldLink RX3 46 "TollRulesModel" "waitPhase" "[I", Cond.methodLink RX3 85 yX3_fails, Cond.instanceMethod yX3_fails, Cond.selects RX3 yX3_fails yX3_fails, Cond.code yX3_fails cX3_fails 3 none, Cond.fieldLink RX3 98 "TollRulesModel" "failureAt" "I", Cond.methodLink RX3 115 yX3_recovers, Cond.instanceMethod yX3_recovers, Cond.selects RX3 yX3_recovers yX3_recovers, Cond.code yX3_recovers cX3_recovers 4 none, Cond.fieldLink RX3 112 "TollRulesModel" "elses" "I", Cond.fieldLink RX3 28 "TollRulesModel" "second" "[I", Cond.methodLink RX3 118 yX3_asks, Cond.static yX3_asks, Cond.code yX3_asks cX3_asks 1 (some .boolean), Cond.methodLink RX3 121 yX3_goesOn, Cond.instanceMethod yX3_goesOn, Cond.selects RX3 yX3_goesOn yX3_goesOn]
def wsX3_until_r3 : List Cond := [Cond.code yX3_goesOn cX3_goesOn 9 (some .boolean), Cond.fieldLink RX3 25 "TollRulesModel" "first" "[I", Cond.fieldLink RX3 49 "TollRulesModel" "waitHad" "[I", Cond.methodLink RX3 124 yX3_given, Cond.instanceMethod yX3_given, Cond.selects RX3 yX3_given yX3_given, Cond.code yX3_given cX3_given 4 (some .int), Cond.fieldLink RX3 31 "TollRulesModel" "kept" "[I", Cond.fieldLink RX3 7 "TollRulesModel" "places" "[I", Cond.fieldLink RX3 34 "TollRulesModel" "keptRow" "[I", Cond.fieldLink RX3 13 "TollRulesModel" "rowOf" "[I", Cond.fieldLink RX3 37 "TollRulesModel" "own" "[I", Cond.methodLink RX3 101 yX3_itemAt, Cond.instanceMethod yX3_itemAt, Cond.selects RX3 yX3_itemAt yX3_itemAt, Cond.code yX3_itemAt cX3_itemAt 4 (some .int), Cond.fieldLink RX3 16 "TollRulesModel" "size" "[I", Cond.fieldLink RX3 19 "TollRulesModel" "item" "[I", Cond.methodLink RX3 149 yX3_ends, Cond.instanceMethod yX3_ends, Cond.selects RX3 yX3_ends yX3_ends, Cond.code yX3_ends cX3_ends 2 (some .int), Cond.fieldLink RX3 128 "TollRulesModel" "stepsTold" "I", Cond.methodLink RX3 131 yX3_failed]
def wsX3_until_r4 : List Cond := [Cond.instanceMethod yX3_failed, Cond.selects RX3 yX3_failed yX3_failed, Cond.code yX3_failed cX3_failed 4 (some .int), Cond.fieldLink RX3 134 "TollRulesModel" "failedKind" "I", Cond.fieldLink RX3 52 "TollRulesModel" "failedRule" "I", Cond.fieldLink RX3 137 "TollRulesModel" "failedMany" "I"]
def wsX3_until : List Cond := .code yX3_until cX3_until 8 (some .int) :: ((wsX3_until_r1 ++ (wsX3_until_r2 ++ (wsX3_until_r3 ++ wsX3_until_r4))) ++ wsX30)
def wsX3_result : List Cond := .code yX3_result cX3_result 1 (some .int) :: ([.fieldLink RX3 152 "TollRulesModel" "result" "I"] ++ wsX30)
def wsX3_steps : List Cond := .code yX3_steps cX3_steps 1 (some .int) :: ([.fieldLink RX3 128 "TollRulesModel" "stepsTold" "I"] ++ wsX30)
def wsX3_failed_ : List Cond := .code yX3_failed_ cX3_failed_ 2 (some .int) :: ([.fieldLink RX3 134 "TollRulesModel" "failedKind" "I", .fieldLink RX3 52 "TollRulesModel" "failedRule" "I"] ++ wsX30)
def wsX3_count : List Cond := .code yX3_count cX3_count 4 (some .int) :: ([.fieldLink RX3 13 "TollRulesModel" "rowOf" "[I", .fieldLink RX3 65 "TollRulesModel" "rules" "I", .fieldLink RX3 89 "TollRulesModel" "stepsEver" "I", .fieldLink RX3 137 "TollRulesModel" "failedMany" "I", .fieldLink RX3 112 "TollRulesModel" "elses" "I"] ++ wsX30)
def wsJ9_max_7cf53 : List Cond := .code yJ9_max_7cf53 cJ9_max_7cf53 2 (some .int) :: ([])
def wsJ9_min_7cf53 : List Cond := .code yJ9_min_7cf53 cJ9_min_7cf53 2 (some .int) :: ([])
def wsL_law_r1 : List Cond := [Cond.classLink RL 7 RX2, Cond.instantiable RX2 16, Cond.initialized RX2, Cond.classLink RL 10 RX3, Cond.instantiable RX3 30, Cond.initialized RX3, Cond.methodLink RL 9 yX2_init, Cond.instanceMethod yX2_init, Cond.code yX2_init cX2_init 1 none, Cond.methodLink RX2 3 objectInit, Cond.instanceMethod objectInit, Cond.code objectInit ⟨#[0xb1]⟩ 1 none, Cond.arrayClass .int, Cond.fieldLink RX2 11 "TollRules" "places" "[I", Cond.classLink RX2 15 RX0, Cond.fieldLink RX2 17 "TollRules" "rows" "[LTollRules$Row;", Cond.classLink RX2 21 RX1, Cond.fieldLink RX2 23 "TollRules" "rules" "[LTollRules$Rule;", Cond.fieldLink RX2 27 "TollRules" "rulesMade" "I", Cond.fieldLink RX2 31 "TollRules" "moved" "[I", Cond.fieldLink RX2 34 "TollRules" "keys" "[I", Cond.fieldLink RX2 37 "TollRules" "origins" "[I", Cond.fieldLink RX2 40 "TollRules" "refusal" "I", Cond.fieldLink RX2 43 "TollRules" "refusedRule" "I"]
def wsL_law_r2 : List Cond := [Cond.fieldLink RX2 46 "TollRules" "latestResult" "I", Cond.fieldLink RX2 49 "TollRules" "latestSteps" "I", Cond.fieldLink RX2 52 "TollRules" "stepsInAll" "I", Cond.fieldLink RX2 55 "TollRules" "failedKind" "I", Cond.fieldLink RX2 58 "TollRules" "failedRule" "I", Cond.fieldLink RX2 61 "TollRules" "failedCalls" "I", Cond.fieldLink RX2 64 "TollRules" "otherWays" "I", Cond.methodLink RL 12 yX3_init, Cond.instanceMethod yX3_init, Cond.code yX3_init cX3_init 1 none, Cond.methodLink RX3 1 objectInit, Cond.fieldLink RX3 7 "TollRulesModel" "places" "[I", Cond.fieldLink RX3 13 "TollRulesModel" "rowOf" "[I", Cond.fieldLink RX3 16 "TollRulesModel" "size" "[I", Cond.fieldLink RX3 19 "TollRulesModel" "item" "[I", Cond.fieldLink RX3 22 "TollRulesModel" "kind" "[I", Cond.fieldLink RX3 25 "TollRulesModel" "first" "[I", Cond.fieldLink RX3 28 "TollRulesModel" "second" "[I", Cond.fieldLink RX3 31 "TollRulesModel" "kept" "[I", Cond.fieldLink RX3 34 "TollRulesModel" "keptRow" "[I", Cond.fieldLink RX3 37 "TollRulesModel" "own" "[I", Cond.fieldLink RX3 40 "TollRulesModel" "waitRule" "[I", Cond.fieldLink RX3 43 "TollRulesModel" "waitValue" "[I", Cond.fieldLink RX3 46 "TollRulesModel" "waitPhase" "[I"]
def wsL_law_r3 : List Cond := [Cond.fieldLink RX3 49 "TollRulesModel" "waitHad" "[I", Cond.fieldLink RX3 52 "TollRulesModel" "failedRule" "I", Cond.fieldLink RX3 56 "TollRulesModel" "keys" "[I", Cond.fieldLink RX3 59 "TollRulesModel" "from" "[I", Cond.fieldLink RX3 62 "TollRulesModel" "had" "[I", Cond.fieldLink RX3 65 "TollRulesModel" "rules" "I", Cond.methodLink RL 13 yX2_place, Cond.instanceMethod yX2_place, Cond.selects RX2 yX2_place yX2_place, Cond.code yX2_place cX2_place 4 (some .long), Cond.constantLong RX2 71 (-9223372036854775808), Cond.methodLink RX2 67 yX2_isPlace, Cond.static yX2_isPlace, Cond.code yX2_isPlace cX2_isPlace 1 (some .boolean), Cond.methodLink RL 17 yX3_place, Cond.instanceMethod yX3_place, Cond.selects RX3 yX3_place yX3_place, Cond.code yX3_place cX3_place 4 (some .long), Cond.constantLong RX3 72 (-9223372036854775808), Cond.methodLink RX3 68 yX3_in, Cond.static yX3_in, Cond.code yX3_in cX3_in 3 (some .boolean), Cond.methodLink RL 18 yX2_has, Cond.instanceMethod yX2_has]
def wsL_law_r4 : List Cond := [Cond.selects RX2 yX2_has yX2_has, Cond.code yX2_has cX2_has 2 (some .long), Cond.methodLink RL 22 yX3_has, Cond.instanceMethod yX3_has, Cond.selects RX3 yX3_has yX3_has, Cond.code yX3_has cX3_has 2 (some .long), Cond.methodLink RL 23 yX2_row, Cond.instanceMethod yX2_row, Cond.selects RX2 yX2_row yX2_row, Cond.code yX2_row cX2_row 3 (some .int), Cond.instantiable RX0 1, Cond.initialized RX0, Cond.methodLink RX2 73 yX2_isRow, Cond.static yX2_isRow, Cond.code yX2_isRow cX2_isRow 1 (some .boolean), Cond.methodLink RX2 76 yX0_init, Cond.instanceMethod yX0_init, Cond.code yX0_init cX0_init 2 none, Cond.methodLink RX0 1 objectInit, Cond.fieldLink RX0 7 "TollRules$Row" "items" "[I", Cond.methodLink RL 27 yX3_row, Cond.instanceMethod yX3_row, Cond.selects RX3 yX3_row yX3_row, Cond.code yX3_row cX3_row 4 (some .int)]
def wsL_law_r5 : List Cond := [Cond.methodLink RX3 78 yX3_newRow, Cond.instanceMethod yX3_newRow, Cond.selects RX3 yX3_newRow yX3_newRow, Cond.code yX3_newRow cX3_newRow 4 (some .int), Cond.methodLink RX3 74 yX3_isHeld, Cond.instanceMethod yX3_isHeld, Cond.selects RX3 yX3_isHeld yX3_isHeld, Cond.code yX3_isHeld cX3_isHeld 4 (some .boolean), Cond.methodLink RL 28 yX2_share, Cond.instanceMethod yX2_share, Cond.selects RX2 yX2_share yX2_share, Cond.code yX2_share cX2_share 3 (some .int), Cond.methodLink RL 31 yX3_share, Cond.instanceMethod yX3_share, Cond.selects RX3 yX3_share yX3_share, Cond.code yX3_share cX3_share 3 (some .int), Cond.methodLink RL 32 yX2_put, Cond.instanceMethod yX2_put, Cond.selects RX2 yX2_put yX2_put, Cond.code yX2_put cX2_put 5 (some .int), Cond.fieldLink RX2 86 "TollRules$Row" "items" "[I", Cond.methodLink RX2 79 yX2_failureAnswer, Cond.static yX2_failureAnswer, Cond.code yX2_failureAnswer cX2_failureAnswer 1 (some .int)]
def wsL_law_r6 : List Cond := [Cond.methodLink RX2 83 yX0_reaches, Cond.instanceMethod yX0_reaches, Cond.selects RX0 yX0_reaches yX0_reaches, Cond.code yX0_reaches cX0_reaches 2 (some .boolean), Cond.methodLink RL 36 yX3_put, Cond.instanceMethod yX3_put, Cond.selects RX3 yX3_put yX3_put, Cond.code yX3_put cX3_put 4 (some .int), Cond.methodLink RL 37 yX2_item, Cond.instanceMethod yX2_item, Cond.selects RX2 yX2_item yX2_item, Cond.code yX2_item cX2_item 4 (some .long), Cond.methodLink RL 40 yX3_item, Cond.instanceMethod yX3_item, Cond.selects RX3 yX3_item yX3_item, Cond.code yX3_item cX3_item 3 (some .long), Cond.methodLink RL 41 yX2_rule, Cond.instanceMethod yX2_rule, Cond.selects RX2 yX2_rule yX2_rule, Cond.code yX2_rule cX2_rule 6 (some .int), Cond.instantiable RX1 6, Cond.initialized RX1, Cond.methodLink RX2 89 yX2_isAsTold, Cond.instanceMethod yX2_isAsTold]
def wsL_law_r7 : List Cond := [Cond.selects RX2 yX2_isAsTold yX2_isAsTold, Cond.code yX2_isAsTold cX2_isAsTold 4 (some .boolean), Cond.methodLink RX2 111 yX2_isRule, Cond.instanceMethod yX2_isRule, Cond.selects RX2 yX2_isRule yX2_isRule, Cond.code yX2_isRule cX2_isRule 2 (some .boolean), Cond.methodLink RX2 93 yX2_begin, Cond.instanceMethod yX2_begin, Cond.selects RX2 yX2_begin yX2_begin, Cond.code yX2_begin cX2_begin 1 none, Cond.methodLink RX2 96 yX2_give, Cond.instanceMethod yX2_give, Cond.selects RX2 yX2_give yX2_give, Cond.code yX2_give cX2_give 4 (some .int), Cond.fieldLink RX2 138 "TollRules$Rule" "kind" "I", Cond.fieldLink RX2 141 "TollRules$Rule" "a" "I", Cond.fieldLink RX2 144 "TollRules$Rule" "kept" "I", Cond.fieldLink RX2 147 "TollRules$Rule" "keptRow" "LTollRules$Row;", Cond.fieldLink RX2 155 "TollRules$Rule" "own" "I", Cond.methodLink RX2 135 yX2_refuse, Cond.instanceMethod yX2_refuse, Cond.selects RX2 yX2_refuse yX2_refuse, Cond.code yX2_refuse cX2_refuse 3 (some .int), Cond.methodLink RX2 151 yX2_giveItem]
def wsL_law_r8 : List Cond := [Cond.instanceMethod yX2_giveItem, Cond.selects RX2 yX2_giveItem yX2_giveItem, Cond.code yX2_giveItem cX2_giveItem 4 (some .int), Cond.methodLink RX2 158 yX2_giveRoom, Cond.instanceMethod yX2_giveRoom, Cond.selects RX2 yX2_giveRoom yX2_giveRoom, Cond.code yX2_giveRoom cX2_giveRoom 4 (some .int), Cond.methodLink RX2 161 yX2_giveByOthers, Cond.instanceMethod yX2_giveByOthers, Cond.selects RX2 yX2_giveByOthers yX2_giveByOthers, Cond.code yX2_giveByOthers cX2_giveByOthers 4 (some .int), Cond.fieldLink RX2 165 "TollRules$Rule" "b" "I", Cond.methodLink RX2 171 Lib.Math.min.name, Cond.static Lib.Math.min.name, Cond.initialized "java/lang/Math", Cond.code Lib.Math.min.name Lib.Math.min.code 2 (some .int), Cond.methodLink RX2 100 yX2_isRefused, Cond.instanceMethod yX2_isRefused, Cond.selects RX2 yX2_isRefused yX2_isRefused, Cond.code yX2_isRefused cX2_isRefused 1 (some .boolean), Cond.methodLink RX2 168 yX2_giveOtherWay, Cond.instanceMethod yX2_giveOtherWay, Cond.selects RX2 yX2_giveOtherWay yX2_giveOtherWay, Cond.code yX2_giveOtherWay cX2_giveOtherWay 3 (some .int)]
def wsL_law_r9 : List Cond := [Cond.methodLink RX2 104 yX2_fail, Cond.instanceMethod yX2_fail, Cond.selects RX2 yX2_fail yX2_fail, Cond.code yX2_fail cX2_fail 1 (some .int), Cond.methodLink RX2 108 yX1_init, Cond.instanceMethod yX1_init, Cond.code yX1_init cX1_init 6 none, Cond.methodLink RX1 1 objectInit, Cond.fieldLink RX1 7 "TollRules$Rule" "kind" "I", Cond.fieldLink RX1 13 "TollRules$Rule" "a" "I", Cond.fieldLink RX1 16 "TollRules$Rule" "b" "I", Cond.fieldLink RX1 19 "TollRules$Rule" "kept" "I", Cond.fieldLink RX1 22 "TollRules$Rule" "keptRow" "LTollRules$Row;", Cond.fieldLink RX1 26 "TollRules$Rule" "own" "I", Cond.methodLink RL 44 yX3_rule, Cond.instanceMethod yX3_rule, Cond.selects RX3 yX3_rule yX3_rule, Cond.code yX3_rule cX3_rule 8 (some .int), Cond.fieldLink RX3 109 "TollRulesModel" "handed" "I", Cond.methodLink RX3 118 yX3_asks, Cond.static yX3_asks, Cond.code yX3_asks cX3_asks 1 (some .boolean), Cond.methodLink RX3 140 yX3_isRule, Cond.instanceMethod yX3_isRule]
def wsL_law_r10 : List Cond := [Cond.selects RX3 yX3_isRule yX3_isRule, Cond.code yX3_isRule cX3_isRule 2 (some .boolean), Cond.methodLink RX3 143 yX3_startsCall, Cond.instanceMethod yX3_startsCall, Cond.selects RX3 yX3_startsCall yX3_startsCall, Cond.code yX3_startsCall cX3_startsCall 1 none, Cond.fieldLink RX3 82 "TollRulesModel" "steps" "I", Cond.fieldLink RX3 95 "TollRulesModel" "failure" "I", Cond.methodLink RX3 146 yX3_gives, Cond.instanceMethod yX3_gives, Cond.selects RX3 yX3_gives yX3_gives, Cond.code yX3_gives cX3_gives 6 (some .boolean), Cond.fieldLink RX3 92 "TollRulesModel" "waiting" "I", Cond.methodLink RX3 105 yX3_begins, Cond.instanceMethod yX3_begins, Cond.selects RX3 yX3_begins yX3_begins, Cond.code yX3_begins cX3_begins 3 (some .boolean), Cond.fieldLink RX3 89 "TollRulesModel" "stepsEver" "I", Cond.methodLink RX3 85 yX3_fails, Cond.instanceMethod yX3_fails, Cond.selects RX3 yX3_fails yX3_fails, Cond.code yX3_fails cX3_fails 3 none, Cond.fieldLink RX3 98 "TollRulesModel" "failureAt" "I", Cond.methodLink RX3 115 yX3_recovers]
def wsL_law_r11 : List Cond := [Cond.instanceMethod yX3_recovers, Cond.selects RX3 yX3_recovers yX3_recovers, Cond.code yX3_recovers cX3_recovers 4 none, Cond.fieldLink RX3 112 "TollRulesModel" "elses" "I", Cond.methodLink RX3 121 yX3_goesOn, Cond.instanceMethod yX3_goesOn, Cond.selects RX3 yX3_goesOn yX3_goesOn, Cond.code yX3_goesOn cX3_goesOn 9 (some .boolean), Cond.methodLink RX3 124 yX3_given, Cond.instanceMethod yX3_given, Cond.selects RX3 yX3_given yX3_given, Cond.code yX3_given cX3_given 4 (some .int), Cond.methodLink RX3 101 yX3_itemAt, Cond.instanceMethod yX3_itemAt, Cond.selects RX3 yX3_itemAt yX3_itemAt, Cond.code yX3_itemAt cX3_itemAt 4 (some .int), Cond.methodLink RX3 149 yX3_ends, Cond.instanceMethod yX3_ends, Cond.selects RX3 yX3_ends yX3_ends, Cond.code yX3_ends cX3_ends 2 (some .int), Cond.fieldLink RX3 128 "TollRulesModel" "stepsTold" "I", Cond.methodLink RX3 131 yX3_failed, Cond.instanceMethod yX3_failed, Cond.selects RX3 yX3_failed yX3_failed]
def wsL_law_r12 : List Cond := [Cond.code yX3_failed cX3_failed 4 (some .int), Cond.fieldLink RX3 134 "TollRulesModel" "failedKind" "I", Cond.fieldLink RX3 137 "TollRulesModel" "failedMany" "I", Cond.methodLink RL 45 yX2_apply, Cond.instanceMethod yX2_apply, Cond.selects RX2 yX2_apply yX2_apply, Cond.code yX2_apply cX2_apply 4 (some .int), Cond.methodLink RL 48 yX3_apply, Cond.instanceMethod yX3_apply, Cond.selects RX3 yX3_apply yX3_apply, Cond.code yX3_apply cX3_apply 4 (some .int), Cond.fieldLink RX3 152 "TollRulesModel" "result" "I", Cond.methodLink RL 49 yX2_each, Cond.instanceMethod yX2_each, Cond.selects RX2 yX2_each yX2_each, Cond.code yX2_each cX2_each 7 (some .int), Cond.methodLink RL 52 yX3_each, Cond.instanceMethod yX3_each, Cond.selects RX3 yX3_each yX3_each, Cond.code yX3_each cX3_each 5 (some .int), Cond.methodLink RL 53 yX2_keep, Cond.instanceMethod yX2_keep, Cond.selects RX2 yX2_keep yX2_keep, Cond.code yX2_keep cX2_keep 8 (some .int)]
def wsL_law_r13 : List Cond := [Cond.methodLink RX2 114 yJ7_copyOf_59c91, Cond.static yJ7_copyOf_59c91, Cond.initialized RJ7, Cond.code yJ7_copyOf_59c91 cJ7_copyOf_59c91 3 (some (.array .int)), Cond.methodLink RJ7 316 ⟨"[I", "clone", "()Ljava/lang/Object;"⟩, Cond.sameMethod "[I" "java/lang/Object" "clone" "()Ljava/lang/Object;", Cond.native ⟨"java/lang/Object", "clone", "()Ljava/lang/Object;"⟩, Cond.instanceMethod ⟨"java/lang/Object", "clone", "()Ljava/lang/Object;"⟩, Cond.selects "[I" ⟨"[I", "clone", "()Ljava/lang/Object;"⟩ ⟨"java/lang/Object", "clone", "()Ljava/lang/Object;"⟩, Cond.classLink RJ7 317 "[I", Cond.methodLink RJ7 304 Lib.Math.min.name, Cond.methodLink RJ7 150 arraycopyName, Cond.native arraycopyName, Cond.static arraycopyName, Cond.initialized "java/lang/System", Cond.methodLink RL 56 yX3_keep, Cond.instanceMethod yX3_keep, Cond.selects RX3 yX3_keep yX3_keep, Cond.code yX3_keep cX3_keep 7 (some .int), Cond.methodLink RX3 155 yX3_asksEach, Cond.instanceMethod yX3_asksEach, Cond.selects RX3 yX3_asksEach yX3_asksEach, Cond.code yX3_asksEach cX3_asksEach 4 (some .boolean), Cond.methodLink RL 57 yX2_order]
def wsL_law_r14 : List Cond := [Cond.instanceMethod yX2_order, Cond.selects RX2 yX2_order yX2_order, Cond.code yX2_order cX2_order 6 (some .int), Cond.methodLink RX2 120 yX2_sortOrigins, Cond.instanceMethod yX2_sortOrigins, Cond.selects RX2 yX2_sortOrigins yX2_sortOrigins, Cond.code yX2_sortOrigins cX2_sortOrigins 4 none, Cond.methodLink RX2 124 yX2_moveByOrigins, Cond.instanceMethod yX2_moveByOrigins, Cond.selects RX2 yX2_moveByOrigins yX2_moveByOrigins, Cond.code yX2_moveByOrigins cX2_moveByOrigins 4 (some .int), Cond.methodLink RX2 179 arraycopyName, Cond.methodLink RL 60 yX3_order, Cond.instanceMethod yX3_order, Cond.selects RX3 yX3_order yX3_order, Cond.code yX3_order cX3_order 8 (some .int), Cond.methodLink RL 61 yX2_fold, Cond.instanceMethod yX2_fold, Cond.selects RX2 yX2_fold yX2_fold, Cond.code yX2_fold cX2_fold 8 (some .int), Cond.methodLink RX2 128 yX2_foldOne, Cond.instanceMethod yX2_foldOne, Cond.selects RX2 yX2_foldOne yX2_foldOne, Cond.code yX2_foldOne cX2_foldOne 4 (some .int)]
def wsL_law_r15 : List Cond := [Cond.methodLink RX2 176 Lib.Math.max.name, Cond.static Lib.Math.max.name, Cond.code Lib.Math.max.name Lib.Math.max.code 2 (some .int), Cond.methodLink RL 64 yX3_fold, Cond.instanceMethod yX3_fold, Cond.selects RX3 yX3_fold yX3_fold, Cond.code yX3_fold cX3_fold 8 (some .int), Cond.methodLink RL 65 yX2_until, Cond.instanceMethod yX2_until, Cond.selects RX2 yX2_until yX2_until, Cond.code yX2_until cX2_until 8 (some .int), Cond.methodLink RL 69 yX3_until, Cond.instanceMethod yX3_until, Cond.selects RX3 yX3_until yX3_until, Cond.code yX3_until cX3_until 8 (some .int), Cond.methodLink RL 70 yX2_result, Cond.instanceMethod yX2_result, Cond.selects RX2 yX2_result yX2_result, Cond.code yX2_result cX2_result 1 (some .int), Cond.methodLink RL 74 yX3_result, Cond.instanceMethod yX3_result, Cond.selects RX3 yX3_result yX3_result, Cond.code yX3_result cX3_result 1 (some .int), Cond.methodLink RL 75 yX2_steps]
def wsL_law_r16 : List Cond := [Cond.instanceMethod yX2_steps, Cond.selects RX2 yX2_steps yX2_steps, Cond.code yX2_steps cX2_steps 1 (some .int), Cond.methodLink RL 78 yX3_steps, Cond.instanceMethod yX3_steps, Cond.selects RX3 yX3_steps yX3_steps, Cond.code yX3_steps cX3_steps 1 (some .int), Cond.methodLink RL 79 yX2_failed, Cond.instanceMethod yX2_failed, Cond.selects RX2 yX2_failed yX2_failed, Cond.code yX2_failed cX2_failed 2 (some .int), Cond.methodLink RL 83 yX3_failed_, Cond.instanceMethod yX3_failed_, Cond.selects RX3 yX3_failed_ yX3_failed_, Cond.code yX3_failed_ cX3_failed_ 2 (some .int), Cond.methodLink RL 84 yX2_count, Cond.instanceMethod yX2_count, Cond.selects RX2 yX2_count yX2_count, Cond.code yX2_count cX2_count 2 (some .int), Cond.methodLink RX2 132 yX2_rowsOfNothing, Cond.instanceMethod yX2_rowsOfNothing, Cond.selects RX2 yX2_rowsOfNothing yX2_rowsOfNothing, Cond.code yX2_rowsOfNothing cX2_rowsOfNothing 3 (some .int), Cond.methodLink RL 87 yX3_count]
def wsL_law_r17 : List Cond := [Cond.instanceMethod yX3_count, Cond.selects RX3 yX3_count yX3_count, Cond.code yX3_count cX3_count 4 (some .int)]
def wsL_law : List Cond := (wsL_law_r1 ++ (wsL_law_r2 ++ (wsL_law_r3 ++ (wsL_law_r4 ++ (wsL_law_r5 ++ (wsL_law_r6 ++ (wsL_law_r7 ++ (wsL_law_r8 ++ (wsL_law_r9 ++ (wsL_law_r10 ++ (wsL_law_r11 ++ (wsL_law_r12 ++ (wsL_law_r13 ++ (wsL_law_r14 ++ (wsL_law_r15 ++ (wsL_law_r16 ++ wsL_law_r17)))))))))))))))) ++ wsX20 ++ wsX30 ++ wsX00 ++ wsX10 ++ ([] : List Cond)
theorem inlX0 : ∀ w ∈ wsX00, w ∈ wsL_law := fun _ h => List.mem_append_left _ (List.mem_append_left _ (List.mem_append_right _ h))
theorem inlX1 : ∀ w ∈ wsX10, w ∈ wsL_law := fun _ h => List.mem_append_left _ (List.mem_append_right _ h)
theorem inlX2 : ∀ w ∈ wsX20, w ∈ wsL_law := fun _ h => List.mem_append_left _ (List.mem_append_left _ (List.mem_append_left _ (List.mem_append_left _ (List.mem_append_right _ h))))
theorem inlX3 : ∀ w ∈ wsX30, w ∈ wsL_law := fun _ h => List.mem_append_left _ (List.mem_append_left _ (List.mem_append_left _ (List.mem_append_right _ h)))
theorem dX0_init_0 : decode cX0_init 0 = .ok (.aload_n 0, 1) := by decide +kernel
theorem dX0_init_1 : decode cX0_init 1 = .ok (.invokespecial 1, 3) := by decide +kernel
theorem dX0_init_4 : decode cX0_init 4 = .ok (.aload_n 0, 1) := by decide +kernel
theorem dX0_init_5 : decode cX0_init 5 = .ok (.aload_n 1, 1) := by decide +kernel
theorem dX0_init_6 : decode cX0_init 6 = .ok (.putfield 7, 3) := by decide +kernel
theorem dX0_init_9 : decode cX0_init 9 = .ok (.return_, 1) := by decide +kernel
theorem dX0_reaches_0 : decode cX0_reaches 0 = .ok (.iload_n 1, 1) := by decide +kernel
theorem dX0_reaches_1 : decode cX0_reaches 1 = .ok (.ifCond .lt 16, 3) := by decide +kernel
theorem dX0_reaches_4 : decode cX0_reaches 4 = .ok (.iload_n 1, 1) := by decide +kernel
theorem dX0_reaches_5 : decode cX0_reaches 5 = .ok (.aload_n 0, 1) := by decide +kernel
theorem dX0_reaches_6 : decode cX0_reaches 6 = .ok (.getfield 7, 3) := by decide +kernel
theorem dX0_reaches_9 : decode cX0_reaches 9 = .ok (.arraylength, 1) := by decide +kernel
theorem dX0_reaches_10 : decode cX0_reaches 10 = .ok (.if_icmp .ge 7, 3) := by decide +kernel
theorem dX0_reaches_13 : decode cX0_reaches 13 = .ok (.iconst 1, 1) := by decide +kernel
theorem dX0_reaches_14 : decode cX0_reaches 14 = .ok (.goto 4, 3) := by decide +kernel
theorem dX0_reaches_17 : decode cX0_reaches 17 = .ok (.iconst 0, 1) := by decide +kernel
theorem dX0_reaches_18 : decode cX0_reaches 18 = .ok (.ireturn, 1) := by decide +kernel
theorem dX1_init_0 : decode cX1_init 0 = .ok (.aload_n 0, 1) := by decide +kernel
theorem dX1_init_1 : decode cX1_init 1 = .ok (.invokespecial 1, 3) := by decide +kernel
theorem dX1_init_4 : decode cX1_init 4 = .ok (.aload_n 0, 1) := by decide +kernel
theorem dX1_init_5 : decode cX1_init 5 = .ok (.iload_n 1, 1) := by decide +kernel
theorem dX1_init_6 : decode cX1_init 6 = .ok (.putfield 7, 3) := by decide +kernel
theorem dX1_init_9 : decode cX1_init 9 = .ok (.aload_n 0, 1) := by decide +kernel
theorem dX1_init_10 : decode cX1_init 10 = .ok (.iload_n 2, 1) := by decide +kernel
theorem dX1_init_11 : decode cX1_init 11 = .ok (.putfield 13, 3) := by decide +kernel
theorem dX1_init_14 : decode cX1_init 14 = .ok (.aload_n 0, 1) := by decide +kernel
theorem dX1_init_15 : decode cX1_init 15 = .ok (.iload_n 3, 1) := by decide +kernel
theorem dX1_init_16 : decode cX1_init 16 = .ok (.putfield 16, 3) := by decide +kernel
theorem dX1_init_19 : decode cX1_init 19 = .ok (.aload_n 0, 1) := by decide +kernel
theorem dX1_init_20 : decode cX1_init 20 = .ok (.iload 4, 2) := by decide +kernel
theorem dX1_init_22 : decode cX1_init 22 = .ok (.putfield 19, 3) := by decide +kernel
theorem dX1_init_25 : decode cX1_init 25 = .ok (.aload_n 0, 1) := by decide +kernel
theorem dX1_init_26 : decode cX1_init 26 = .ok (.aload 5, 2) := by decide +kernel
theorem dX1_init_28 : decode cX1_init 28 = .ok (.putfield 22, 3) := by decide +kernel
theorem dX1_init_31 : decode cX1_init 31 = .ok (.aload_n 0, 1) := by decide +kernel
theorem dX1_init_32 : decode cX1_init 32 = .ok (.iconst 0, 1) := by decide +kernel
theorem dX1_init_33 : decode cX1_init 33 = .ok (.putfield 26, 3) := by decide +kernel
theorem dX1_init_36 : decode cX1_init 36 = .ok (.return_, 1) := by decide +kernel
theorem dX2_init_0 : decode cX2_init 0 = .ok (.aload_n 0, 1) := by decide +kernel
theorem dX2_init_1 : decode cX2_init 1 = .ok (.invokespecial 3, 3) := by decide +kernel
theorem dX2_init_4 : decode cX2_init 4 = .ok (.aload_n 0, 1) := by decide +kernel
theorem dX2_init_5 : decode cX2_init 5 = .ok (.bipush 8, 2) := by decide +kernel
theorem dX2_init_7 : decode cX2_init 7 = .ok (.newarray .int, 2) := by decide +kernel
theorem dX2_init_9 : decode cX2_init 9 = .ok (.putfield 11, 3) := by decide +kernel
theorem dX2_init_12 : decode cX2_init 12 = .ok (.aload_n 0, 1) := by decide +kernel
theorem dX2_init_13 : decode cX2_init 13 = .ok (.iconst 4, 1) := by decide +kernel
theorem dX2_init_14 : decode cX2_init 14 = .ok (.anewarray 15, 3) := by decide +kernel
theorem dX2_init_17 : decode cX2_init 17 = .ok (.putfield 17, 3) := by decide +kernel
theorem dX2_init_20 : decode cX2_init 20 = .ok (.aload_n 0, 1) := by decide +kernel
theorem dX2_init_21 : decode cX2_init 21 = .ok (.bipush 40, 2) := by decide +kernel
theorem dX2_init_23 : decode cX2_init 23 = .ok (.anewarray 21, 3) := by decide +kernel
theorem dX2_init_26 : decode cX2_init 26 = .ok (.putfield 23, 3) := by decide +kernel
theorem dX2_init_29 : decode cX2_init 29 = .ok (.aload_n 0, 1) := by decide +kernel
theorem dX2_init_30 : decode cX2_init 30 = .ok (.iconst 0, 1) := by decide +kernel
theorem dX2_init_31 : decode cX2_init 31 = .ok (.putfield 27, 3) := by decide +kernel
theorem dX2_init_34 : decode cX2_init 34 = .ok (.aload_n 0, 1) := by decide +kernel
theorem dX2_init_35 : decode cX2_init 35 = .ok (.bipush 10, 2) := by decide +kernel
theorem dX2_init_37 : decode cX2_init 37 = .ok (.newarray .int, 2) := by decide +kernel
theorem dX2_init_39 : decode cX2_init 39 = .ok (.putfield 31, 3) := by decide +kernel
theorem dX2_init_42 : decode cX2_init 42 = .ok (.aload_n 0, 1) := by decide +kernel
theorem dX2_init_43 : decode cX2_init 43 = .ok (.bipush 10, 2) := by decide +kernel
theorem dX2_init_45 : decode cX2_init 45 = .ok (.newarray .int, 2) := by decide +kernel
theorem dX2_init_47 : decode cX2_init 47 = .ok (.putfield 34, 3) := by decide +kernel
theorem dX2_init_50 : decode cX2_init 50 = .ok (.aload_n 0, 1) := by decide +kernel
theorem dX2_init_51 : decode cX2_init 51 = .ok (.bipush 10, 2) := by decide +kernel
theorem dX2_init_53 : decode cX2_init 53 = .ok (.newarray .int, 2) := by decide +kernel
theorem dX2_init_55 : decode cX2_init 55 = .ok (.putfield 37, 3) := by decide +kernel
theorem dX2_init_58 : decode cX2_init 58 = .ok (.aload_n 0, 1) := by decide +kernel
theorem dX2_init_59 : decode cX2_init 59 = .ok (.iconst 0, 1) := by decide +kernel
theorem dX2_init_60 : decode cX2_init 60 = .ok (.putfield 40, 3) := by decide +kernel
theorem dX2_init_63 : decode cX2_init 63 = .ok (.aload_n 0, 1) := by decide +kernel
theorem dX2_init_64 : decode cX2_init 64 = .ok (.iconst (-1), 1) := by decide +kernel
theorem dX2_init_65 : decode cX2_init 65 = .ok (.putfield 43, 3) := by decide +kernel
theorem dX2_init_68 : decode cX2_init 68 = .ok (.aload_n 0, 1) := by decide +kernel
theorem dX2_init_69 : decode cX2_init 69 = .ok (.iconst 0, 1) := by decide +kernel
theorem dX2_init_70 : decode cX2_init 70 = .ok (.putfield 46, 3) := by decide +kernel
theorem dX2_init_73 : decode cX2_init 73 = .ok (.aload_n 0, 1) := by decide +kernel
theorem dX2_init_74 : decode cX2_init 74 = .ok (.iconst 0, 1) := by decide +kernel
theorem dX2_init_75 : decode cX2_init 75 = .ok (.putfield 49, 3) := by decide +kernel
theorem dX2_init_78 : decode cX2_init 78 = .ok (.aload_n 0, 1) := by decide +kernel
theorem dX2_init_79 : decode cX2_init 79 = .ok (.iconst 0, 1) := by decide +kernel
theorem dX2_init_80 : decode cX2_init 80 = .ok (.putfield 52, 3) := by decide +kernel
theorem dX2_init_83 : decode cX2_init 83 = .ok (.aload_n 0, 1) := by decide +kernel
theorem dX2_init_84 : decode cX2_init 84 = .ok (.iconst 0, 1) := by decide +kernel
theorem dX2_init_85 : decode cX2_init 85 = .ok (.putfield 55, 3) := by decide +kernel
theorem dX2_init_88 : decode cX2_init 88 = .ok (.aload_n 0, 1) := by decide +kernel
theorem dX2_init_89 : decode cX2_init 89 = .ok (.iconst (-1), 1) := by decide +kernel
theorem dX2_init_90 : decode cX2_init 90 = .ok (.putfield 58, 3) := by decide +kernel
theorem dX2_init_93 : decode cX2_init 93 = .ok (.aload_n 0, 1) := by decide +kernel
theorem dX2_init_94 : decode cX2_init 94 = .ok (.iconst 0, 1) := by decide +kernel
theorem dX2_init_95 : decode cX2_init 95 = .ok (.putfield 61, 3) := by decide +kernel
theorem dX2_init_98 : decode cX2_init 98 = .ok (.aload_n 0, 1) := by decide +kernel
theorem dX2_init_99 : decode cX2_init 99 = .ok (.iconst 0, 1) := by decide +kernel
theorem dX2_init_100 : decode cX2_init 100 = .ok (.putfield 64, 3) := by decide +kernel
theorem dX2_init_103 : decode cX2_init 103 = .ok (.return_, 1) := by decide +kernel
set_option maxRecDepth 20000 in
theorem ggX2_place_X2_isPlace : GoodIn wsX2_place wsX2_isPlace := goodIn_r _ [6] (by decide +kernel) (by decide +kernel)
set_option maxRecDepth 20000 in
theorem gX2_place_X2_isPlace : GoodIn wsX2_place (va_wsS RX2 67 yX2_isPlace wsX2_isPlace) := goodIn_app (goodIn_of _ (by decide +kernel)) ggX2_place_X2_isPlace
theorem dX2_place_0 : decode cX2_place 0 = .ok (.iload_n 1, 1) := by decide +kernel
theorem dX2_place_1 : decode cX2_place 1 = .ok (.invokestatic 67, 3) := by decide +kernel
theorem dX2_place_4 : decode cX2_place 4 = .ok (.ifCond .ne 7, 3) := by decide +kernel
theorem dX2_place_7 : decode cX2_place 7 = .ok (.ldc2_w 71, 3) := by decide +kernel
theorem dX2_place_10 : decode cX2_place 10 = .ok (.lreturn, 1) := by decide +kernel
theorem dX2_place_11 : decode cX2_place 11 = .ok (.aload_n 0, 1) := by decide +kernel
theorem dX2_place_12 : decode cX2_place 12 = .ok (.getfield 11, 3) := by decide +kernel
theorem dX2_place_15 : decode cX2_place 15 = .ok (.iload_n 1, 1) := by decide +kernel
theorem dX2_place_16 : decode cX2_place 16 = .ok (.iaload, 1) := by decide +kernel
theorem dX2_place_17 : decode cX2_place 17 = .ok (.istore_n 3, 1) := by decide +kernel
theorem dX2_place_18 : decode cX2_place 18 = .ok (.aload_n 0, 1) := by decide +kernel
theorem dX2_place_19 : decode cX2_place 19 = .ok (.getfield 11, 3) := by decide +kernel
theorem dX2_place_22 : decode cX2_place 22 = .ok (.iload_n 1, 1) := by decide +kernel
theorem dX2_place_23 : decode cX2_place 23 = .ok (.iload_n 2, 1) := by decide +kernel
theorem dX2_place_24 : decode cX2_place 24 = .ok (.iastore, 1) := by decide +kernel
theorem dX2_place_25 : decode cX2_place 25 = .ok (.iload_n 3, 1) := by decide +kernel
theorem dX2_place_26 : decode cX2_place 26 = .ok (.i2l, 1) := by decide +kernel
theorem dX2_place_27 : decode cX2_place 27 = .ok (.lreturn, 1) := by decide +kernel
set_option maxRecDepth 20000 in
theorem ggX2_has_X2_isPlace : GoodIn wsX2_has wsX2_isPlace := goodIn_r _ [6] (by decide +kernel) (by decide +kernel)
set_option maxRecDepth 20000 in
theorem gX2_has_X2_isPlace : GoodIn wsX2_has (va_wsS RX2 67 yX2_isPlace wsX2_isPlace) := goodIn_app (goodIn_of _ (by decide +kernel)) ggX2_has_X2_isPlace
theorem dX2_has_0 : decode cX2_has 0 = .ok (.iload_n 1, 1) := by decide +kernel
theorem dX2_has_1 : decode cX2_has 1 = .ok (.invokestatic 67, 3) := by decide +kernel
theorem dX2_has_4 : decode cX2_has 4 = .ok (.ifCond .eq 13, 3) := by decide +kernel
theorem dX2_has_7 : decode cX2_has 7 = .ok (.aload_n 0, 1) := by decide +kernel
theorem dX2_has_8 : decode cX2_has 8 = .ok (.getfield 11, 3) := by decide +kernel
theorem dX2_has_11 : decode cX2_has 11 = .ok (.iload_n 1, 1) := by decide +kernel
theorem dX2_has_12 : decode cX2_has 12 = .ok (.iaload, 1) := by decide +kernel
theorem dX2_has_13 : decode cX2_has 13 = .ok (.i2l, 1) := by decide +kernel
theorem dX2_has_14 : decode cX2_has 14 = .ok (.goto 6, 3) := by decide +kernel
theorem dX2_has_17 : decode cX2_has 17 = .ok (.ldc2_w 71, 3) := by decide +kernel
theorem dX2_has_20 : decode cX2_has 20 = .ok (.lreturn, 1) := by decide +kernel
set_option maxRecDepth 20000 in
theorem ggX2_row_X2_isRow : GoodIn wsX2_row wsX2_isRow := goodIn_r _ [9] (by decide +kernel) (by decide +kernel)
set_option maxRecDepth 20000 in
theorem gX2_row_X2_isRow : GoodIn wsX2_row (va_wsS RX2 73 yX2_isRow wsX2_isRow) := goodIn_app (goodIn_of _ (by decide +kernel)) ggX2_row_X2_isRow
set_option maxRecDepth 20000 in
theorem ggX2_row_X0_init : GoodIn wsX2_row wsX0_init := goodIn_r _ [12, 13, 14, 15, 16, 33] (by decide +kernel) (by decide +kernel)
set_option maxRecDepth 20000 in
theorem gX2_row_X0_init : GoodIn wsX2_row (wsX0_init) := ggX2_row_X0_init
theorem dX2_row_0 : decode cX2_row 0 = .ok (.iload_n 1, 1) := by decide +kernel
theorem dX2_row_1 : decode cX2_row 1 = .ok (.invokestatic 73, 3) := by decide +kernel
theorem dX2_row_4 : decode cX2_row 4 = .ok (.ifCond .eq 14, 3) := by decide +kernel
theorem dX2_row_7 : decode cX2_row 7 = .ok (.iload_n 2, 1) := by decide +kernel
theorem dX2_row_8 : decode cX2_row 8 = .ok (.iconst (-1), 1) := by decide +kernel
theorem dX2_row_9 : decode cX2_row 9 = .ok (.if_icmp .lt 9, 3) := by decide +kernel
theorem dX2_row_12 : decode cX2_row 12 = .ok (.iload_n 2, 1) := by decide +kernel
theorem dX2_row_13 : decode cX2_row 13 = .ok (.bipush 10, 2) := by decide +kernel
theorem dX2_row_15 : decode cX2_row 15 = .ok (.if_icmp .le 5, 3) := by decide +kernel
theorem dX2_row_18 : decode cX2_row 18 = .ok (.iconst (-1), 1) := by decide +kernel
theorem dX2_row_19 : decode cX2_row 19 = .ok (.ireturn, 1) := by decide +kernel
theorem dX2_row_20 : decode cX2_row 20 = .ok (.aload_n 0, 1) := by decide +kernel
theorem dX2_row_21 : decode cX2_row 21 = .ok (.getfield 17, 3) := by decide +kernel
theorem dX2_row_24 : decode cX2_row 24 = .ok (.iload_n 1, 1) := by decide +kernel
theorem dX2_row_25 : decode cX2_row 25 = .ok (.iload_n 2, 1) := by decide +kernel
theorem dX2_row_26 : decode cX2_row 26 = .ok (.iconst (-1), 1) := by decide +kernel
theorem dX2_row_27 : decode cX2_row 27 = .ok (.if_icmp .ne 7, 3) := by decide +kernel
theorem dX2_row_30 : decode cX2_row 30 = .ok (.aconst_null, 1) := by decide +kernel
theorem dX2_row_31 : decode cX2_row 31 = .ok (.goto 13, 3) := by decide +kernel
theorem dX2_row_34 : decode cX2_row 34 = .ok (.new 15, 3) := by decide +kernel
theorem dX2_row_37 : decode cX2_row 37 = .ok (.dup, 1) := by decide +kernel
theorem dX2_row_38 : decode cX2_row 38 = .ok (.iload_n 2, 1) := by decide +kernel
theorem dX2_row_39 : decode cX2_row 39 = .ok (.newarray .int, 2) := by decide +kernel
theorem dX2_row_41 : decode cX2_row 41 = .ok (.invokespecial 76, 3) := by decide +kernel
theorem dX2_row_44 : decode cX2_row 44 = .ok (.aastore, 1) := by decide +kernel
theorem dX2_row_45 : decode cX2_row 45 = .ok (.iconst 1, 1) := by decide +kernel
theorem dX2_row_46 : decode cX2_row 46 = .ok (.ireturn, 1) := by decide +kernel
set_option maxRecDepth 20000 in
theorem ggX2_share_X2_isRow : GoodIn wsX2_share wsX2_isRow := goodIn_r _ [5] (by decide +kernel) (by decide +kernel)
set_option maxRecDepth 20000 in
theorem gX2_share_X2_isRow : GoodIn wsX2_share (va_wsS RX2 73 yX2_isRow wsX2_isRow) := goodIn_app (goodIn_of _ (by decide +kernel)) ggX2_share_X2_isRow
theorem dX2_share_0 : decode cX2_share 0 = .ok (.iload_n 1, 1) := by decide +kernel
theorem dX2_share_1 : decode cX2_share 1 = .ok (.invokestatic 73, 3) := by decide +kernel
theorem dX2_share_4 : decode cX2_share 4 = .ok (.ifCond .eq 10, 3) := by decide +kernel
theorem dX2_share_7 : decode cX2_share 7 = .ok (.iload_n 2, 1) := by decide +kernel
theorem dX2_share_8 : decode cX2_share 8 = .ok (.invokestatic 73, 3) := by decide +kernel
theorem dX2_share_11 : decode cX2_share 11 = .ok (.ifCond .ne 5, 3) := by decide +kernel
theorem dX2_share_14 : decode cX2_share 14 = .ok (.iconst (-1), 1) := by decide +kernel
theorem dX2_share_15 : decode cX2_share 15 = .ok (.ireturn, 1) := by decide +kernel
theorem dX2_share_16 : decode cX2_share 16 = .ok (.aload_n 0, 1) := by decide +kernel
theorem dX2_share_17 : decode cX2_share 17 = .ok (.getfield 17, 3) := by decide +kernel
theorem dX2_share_20 : decode cX2_share 20 = .ok (.iload_n 1, 1) := by decide +kernel
theorem dX2_share_21 : decode cX2_share 21 = .ok (.aload_n 0, 1) := by decide +kernel
theorem dX2_share_22 : decode cX2_share 22 = .ok (.getfield 17, 3) := by decide +kernel
theorem dX2_share_25 : decode cX2_share 25 = .ok (.iload_n 2, 1) := by decide +kernel
theorem dX2_share_26 : decode cX2_share 26 = .ok (.aaload, 1) := by decide +kernel
theorem dX2_share_27 : decode cX2_share 27 = .ok (.aastore, 1) := by decide +kernel
theorem dX2_share_28 : decode cX2_share 28 = .ok (.aload_n 0, 1) := by decide +kernel
theorem dX2_share_29 : decode cX2_share 29 = .ok (.getfield 17, 3) := by decide +kernel
theorem dX2_share_32 : decode cX2_share 32 = .ok (.iload_n 1, 1) := by decide +kernel
theorem dX2_share_33 : decode cX2_share 33 = .ok (.aaload, 1) := by decide +kernel
theorem dX2_share_34 : decode cX2_share 34 = .ok (.ifnonnull 7, 3) := by decide +kernel
theorem dX2_share_37 : decode cX2_share 37 = .ok (.iconst 0, 1) := by decide +kernel
theorem dX2_share_38 : decode cX2_share 38 = .ok (.goto 4, 3) := by decide +kernel
theorem dX2_share_41 : decode cX2_share 41 = .ok (.iconst 1, 1) := by decide +kernel
theorem dX2_share_42 : decode cX2_share 42 = .ok (.ireturn, 1) := by decide +kernel
set_option maxRecDepth 20000 in
theorem ggX2_put_X2_isRow : GoodIn wsX2_put wsX2_isRow := goodIn_r _ [6] (by decide +kernel) (by decide +kernel)
set_option maxRecDepth 20000 in
theorem gX2_put_X2_isRow : GoodIn wsX2_put (va_wsS RX2 73 yX2_isRow wsX2_isRow) := goodIn_app (goodIn_of _ (by decide +kernel)) ggX2_put_X2_isRow
set_option maxRecDepth 20000 in
theorem ggX2_put_X2_failureAnswer : GoodIn wsX2_put wsX2_failureAnswer := goodIn_r _ [9] (by decide +kernel) (by decide +kernel)
set_option maxRecDepth 20000 in
theorem gX2_put_X2_failureAnswer : GoodIn wsX2_put (va_wsS RX2 79 yX2_failureAnswer wsX2_failureAnswer) := goodIn_app (goodIn_of _ (by decide +kernel)) ggX2_put_X2_failureAnswer
set_option maxRecDepth 20000 in
theorem ggX2_put_X0_reaches : GoodIn wsX2_put wsX0_reaches := goodIn_r _ [14, 15, 32] (by decide +kernel) (by decide +kernel)
set_option maxRecDepth 20000 in
theorem gX2_put_X0_reaches : GoodIn wsX2_put (wsV RX2 83 RX0 yX0_reaches wsX0_reaches) := goodIn_app (goodIn_of _ (by decide +kernel)) ggX2_put_X0_reaches
theorem dX2_put_0 : decode cX2_put 0 = .ok (.iload_n 1, 1) := by decide +kernel
theorem dX2_put_1 : decode cX2_put 1 = .ok (.invokestatic 73, 3) := by decide +kernel
theorem dX2_put_4 : decode cX2_put 4 = .ok (.ifCond .ne 5, 3) := by decide +kernel
theorem dX2_put_7 : decode cX2_put 7 = .ok (.iconst (-1), 1) := by decide +kernel
theorem dX2_put_8 : decode cX2_put 8 = .ok (.ireturn, 1) := by decide +kernel
theorem dX2_put_9 : decode cX2_put 9 = .ok (.aload_n 0, 1) := by decide +kernel
theorem dX2_put_10 : decode cX2_put 10 = .ok (.getfield 17, 3) := by decide +kernel
theorem dX2_put_13 : decode cX2_put 13 = .ok (.iload_n 1, 1) := by decide +kernel
theorem dX2_put_14 : decode cX2_put 14 = .ok (.aaload, 1) := by decide +kernel
theorem dX2_put_15 : decode cX2_put 15 = .ok (.astore 4, 2) := by decide +kernel
theorem dX2_put_17 : decode cX2_put 17 = .ok (.aload 4, 2) := by decide +kernel
theorem dX2_put_19 : decode cX2_put 19 = .ok (.ifnonnull 8, 3) := by decide +kernel
theorem dX2_put_22 : decode cX2_put 22 = .ok (.iconst 3, 1) := by decide +kernel
theorem dX2_put_23 : decode cX2_put 23 = .ok (.invokestatic 79, 3) := by decide +kernel
theorem dX2_put_26 : decode cX2_put 26 = .ok (.ireturn, 1) := by decide +kernel
theorem dX2_put_27 : decode cX2_put 27 = .ok (.aload 4, 2) := by decide +kernel
theorem dX2_put_29 : decode cX2_put 29 = .ok (.iload_n 2, 1) := by decide +kernel
theorem dX2_put_30 : decode cX2_put 30 = .ok (.invokevirtual 83, 3) := by decide +kernel
theorem dX2_put_33 : decode cX2_put 33 = .ok (.ifCond .ne 8, 3) := by decide +kernel
theorem dX2_put_36 : decode cX2_put 36 = .ok (.iconst 2, 1) := by decide +kernel
theorem dX2_put_37 : decode cX2_put 37 = .ok (.invokestatic 79, 3) := by decide +kernel
theorem dX2_put_40 : decode cX2_put 40 = .ok (.ireturn, 1) := by decide +kernel
theorem dX2_put_41 : decode cX2_put 41 = .ok (.aload 4, 2) := by decide +kernel
theorem dX2_put_43 : decode cX2_put 43 = .ok (.getfield 86, 3) := by decide +kernel
theorem dX2_put_46 : decode cX2_put 46 = .ok (.iload_n 2, 1) := by decide +kernel
theorem dX2_put_47 : decode cX2_put 47 = .ok (.iload_n 3, 1) := by decide +kernel
theorem dX2_put_48 : decode cX2_put 48 = .ok (.iastore, 1) := by decide +kernel
theorem dX2_put_49 : decode cX2_put 49 = .ok (.iconst 1, 1) := by decide +kernel
theorem dX2_put_50 : decode cX2_put 50 = .ok (.ireturn, 1) := by decide +kernel
set_option maxRecDepth 20000 in
theorem ggX2_item_X2_isRow : GoodIn wsX2_item wsX2_isRow := goodIn_r _ [7] (by decide +kernel) (by decide +kernel)
set_option maxRecDepth 20000 in
theorem gX2_item_X2_isRow : GoodIn wsX2_item (va_wsS RX2 73 yX2_isRow wsX2_isRow) := goodIn_app (goodIn_of _ (by decide +kernel)) ggX2_item_X2_isRow
set_option maxRecDepth 20000 in
theorem ggX2_item_X0_reaches : GoodIn wsX2_item wsX0_reaches := goodIn_r _ [12, 13, 30] (by decide +kernel) (by decide +kernel)
set_option maxRecDepth 20000 in
theorem gX2_item_X0_reaches : GoodIn wsX2_item (wsV RX2 83 RX0 yX0_reaches wsX0_reaches) := goodIn_app (goodIn_of _ (by decide +kernel)) ggX2_item_X0_reaches
theorem dX2_item_0 : decode cX2_item 0 = .ok (.iload_n 1, 1) := by decide +kernel
theorem dX2_item_1 : decode cX2_item 1 = .ok (.invokestatic 73, 3) := by decide +kernel
theorem dX2_item_4 : decode cX2_item 4 = .ok (.ifCond .ne 7, 3) := by decide +kernel
theorem dX2_item_7 : decode cX2_item 7 = .ok (.ldc2_w 71, 3) := by decide +kernel
theorem dX2_item_10 : decode cX2_item 10 = .ok (.lreturn, 1) := by decide +kernel
theorem dX2_item_11 : decode cX2_item 11 = .ok (.aload_n 0, 1) := by decide +kernel
theorem dX2_item_12 : decode cX2_item 12 = .ok (.getfield 17, 3) := by decide +kernel
theorem dX2_item_15 : decode cX2_item 15 = .ok (.iload_n 1, 1) := by decide +kernel
theorem dX2_item_16 : decode cX2_item 16 = .ok (.aaload, 1) := by decide +kernel
theorem dX2_item_17 : decode cX2_item 17 = .ok (.astore_n 3, 1) := by decide +kernel
theorem dX2_item_18 : decode cX2_item 18 = .ok (.aload_n 3, 1) := by decide +kernel
theorem dX2_item_19 : decode cX2_item 19 = .ok (.ifnull 21, 3) := by decide +kernel
theorem dX2_item_22 : decode cX2_item 22 = .ok (.aload_n 3, 1) := by decide +kernel
theorem dX2_item_23 : decode cX2_item 23 = .ok (.iload_n 2, 1) := by decide +kernel
theorem dX2_item_24 : decode cX2_item 24 = .ok (.invokevirtual 83, 3) := by decide +kernel
theorem dX2_item_27 : decode cX2_item 27 = .ok (.ifCond .eq 13, 3) := by decide +kernel
theorem dX2_item_30 : decode cX2_item 30 = .ok (.aload_n 3, 1) := by decide +kernel
theorem dX2_item_31 : decode cX2_item 31 = .ok (.getfield 86, 3) := by decide +kernel
theorem dX2_item_34 : decode cX2_item 34 = .ok (.iload_n 2, 1) := by decide +kernel
theorem dX2_item_35 : decode cX2_item 35 = .ok (.iaload, 1) := by decide +kernel
theorem dX2_item_36 : decode cX2_item 36 = .ok (.i2l, 1) := by decide +kernel
theorem dX2_item_37 : decode cX2_item 37 = .ok (.goto 6, 3) := by decide +kernel
theorem dX2_item_40 : decode cX2_item 40 = .ok (.ldc2_w 71, 3) := by decide +kernel
theorem dX2_item_43 : decode cX2_item 43 = .ok (.lreturn, 1) := by decide +kernel
set_option maxRecDepth 20000 in
theorem ggX2_rule_X2_isAsTold : GoodIn wsX2_rule wsX2_isAsTold := goodIn_r _ [12, 13, 14, 11, 15, 16, 17, 18, 19, 20, 21, 22, 1, 99, 100, 101, 102, 103, 104, 105, 106, 107, 108, 109, 110, 111, 112, 113, 114] (by decide +kernel) (by decide +kernel)
set_option maxRecDepth 20000 in
theorem gX2_rule_X2_isAsTold : GoodIn wsX2_rule (wsV RX2 89 RX2 yX2_isAsTold wsX2_isAsTold) := goodIn_app (goodIn_of _ (by decide +kernel)) ggX2_rule_X2_isAsTold
set_option maxRecDepth 20000 in
theorem ggX2_rule_X2_begin : GoodIn wsX2_rule wsX2_begin := goodIn_r _ [26, 27, 28, 99, 100, 101, 102, 103, 104, 105, 106, 107, 108, 109, 110, 111, 112, 113, 114] (by decide +kernel) (by decide +kernel)
set_option maxRecDepth 20000 in
theorem gX2_rule_X2_begin : GoodIn wsX2_rule (wsV RX2 93 RX2 yX2_begin wsX2_begin) := goodIn_app (goodIn_of _ (by decide +kernel)) ggX2_rule_X2_begin
set_option maxRecDepth 20000 in
theorem ggX2_rule_X2_give : GoodIn wsX2_rule wsX2_give := goodIn_r _ [32, 27, 33, 4, 34, 35, 36, 2, 37, 3, 38, 39, 40, 41, 11, 42, 28, 43, 44, 45, 46, 47, 48, 49, 50, 51, 52, 53, 54, 55, 56, 57, 58, 59, 60, 61, 62, 63, 64, 65, 66, 67, 29, 30, 31, 68, 69, 70, 71, 72, 73, 74, 75, 76, 99, 100, 101, 102, 103, 104, 105, 106, 107, 108, 109, 110, 111, 112, 113, 114, 115, 116, 117, 118, 119, 120, 121] (by decide +kernel) (by decide +kernel)
set_option maxRecDepth 20000 in
theorem gX2_rule_X2_give : GoodIn wsX2_rule (wsV RX2 96 RX2 yX2_give wsX2_give) := goodIn_app (goodIn_of _ (by decide +kernel)) ggX2_rule_X2_give
set_option maxRecDepth 20000 in
theorem ggX2_rule_X2_isRefused : GoodIn wsX2_rule wsX2_isRefused := goodIn_r _ [71, 28, 99, 100, 101, 102, 103, 104, 105, 106, 107, 108, 109, 110, 111, 112, 113, 114] (by decide +kernel) (by decide +kernel)
set_option maxRecDepth 20000 in
theorem gX2_rule_X2_isRefused : GoodIn wsX2_rule (wsV RX2 100 RX2 yX2_isRefused wsX2_isRefused) := goodIn_app (goodIn_of _ (by decide +kernel)) ggX2_rule_X2_isRefused
set_option maxRecDepth 20000 in
theorem ggX2_rule_X2_fail : GoodIn wsX2_rule wsX2_fail := goodIn_r _ [80, 28, 81, 43, 82, 83, 84, 85, 11, 86, 99, 100, 101, 102, 103, 104, 105, 106, 107, 108, 109, 110, 111, 112, 113, 114] (by decide +kernel) (by decide +kernel)
set_option maxRecDepth 20000 in
theorem gX2_rule_X2_fail : GoodIn wsX2_rule (wsV RX2 104 RX2 yX2_fail wsX2_fail) := goodIn_app (goodIn_of _ (by decide +kernel)) ggX2_rule_X2_fail
set_option maxRecDepth 20000 in
theorem ggX2_rule_X1_init : GoodIn wsX2_rule wsX1_init := goodIn_r _ [89, 90, 91, 92, 93, 94, 95, 96, 97, 98, 115, 116, 117, 118, 119, 120] (by decide +kernel) (by decide +kernel)
set_option maxRecDepth 20000 in
theorem gX2_rule_X1_init : GoodIn wsX2_rule (wsX1_init) := ggX2_rule_X1_init
theorem dX2_rule_0 : decode cX2_rule 0 = .ok (.aload_n 0, 1) := by decide +kernel
theorem dX2_rule_1 : decode cX2_rule 1 = .ok (.iload_n 1, 1) := by decide +kernel
theorem dX2_rule_2 : decode cX2_rule 2 = .ok (.iload_n 2, 1) := by decide +kernel
theorem dX2_rule_3 : decode cX2_rule 3 = .ok (.iload_n 3, 1) := by decide +kernel
theorem dX2_rule_4 : decode cX2_rule 4 = .ok (.invokevirtual 89, 3) := by decide +kernel
theorem dX2_rule_7 : decode cX2_rule 7 = .ok (.ifCond .ne 5, 3) := by decide +kernel
theorem dX2_rule_10 : decode cX2_rule 10 = .ok (.iconst (-1), 1) := by decide +kernel
theorem dX2_rule_11 : decode cX2_rule 11 = .ok (.ireturn, 1) := by decide +kernel
theorem dX2_rule_12 : decode cX2_rule 12 = .ok (.aload_n 0, 1) := by decide +kernel
theorem dX2_rule_13 : decode cX2_rule 13 = .ok (.getfield 27, 3) := by decide +kernel
theorem dX2_rule_16 : decode cX2_rule 16 = .ok (.bipush 40, 2) := by decide +kernel
theorem dX2_rule_18 : decode cX2_rule 18 = .ok (.if_icmp .lt 6, 3) := by decide +kernel
theorem dX2_rule_21 : decode cX2_rule 21 = .ok (.bipush (-2), 2) := by decide +kernel
theorem dX2_rule_23 : decode cX2_rule 23 = .ok (.ireturn, 1) := by decide +kernel
theorem dX2_rule_24 : decode cX2_rule 24 = .ok (.iload_n 1, 1) := by decide +kernel
theorem dX2_rule_25 : decode cX2_rule 25 = .ok (.iconst 4, 1) := by decide +kernel
theorem dX2_rule_26 : decode cX2_rule 26 = .ok (.if_icmp .ne 12, 3) := by decide +kernel
theorem dX2_rule_29 : decode cX2_rule 29 = .ok (.aload_n 0, 1) := by decide +kernel
theorem dX2_rule_30 : decode cX2_rule 30 = .ok (.getfield 11, 3) := by decide +kernel
theorem dX2_rule_33 : decode cX2_rule 33 = .ok (.iload_n 2, 1) := by decide +kernel
theorem dX2_rule_34 : decode cX2_rule 34 = .ok (.iaload, 1) := by decide +kernel
theorem dX2_rule_35 : decode cX2_rule 35 = .ok (.goto 4, 3) := by decide +kernel
theorem dX2_rule_38 : decode cX2_rule 38 = .ok (.iconst 0, 1) := by decide +kernel
theorem dX2_rule_39 : decode cX2_rule 39 = .ok (.istore 4, 2) := by decide +kernel
theorem dX2_rule_41 : decode cX2_rule 41 = .ok (.iload_n 1, 1) := by decide +kernel
theorem dX2_rule_42 : decode cX2_rule 42 = .ok (.bipush 14, 2) := by decide +kernel
theorem dX2_rule_44 : decode cX2_rule 44 = .ok (.if_icmp .ne 27, 3) := by decide +kernel
theorem dX2_rule_47 : decode cX2_rule 47 = .ok (.aload_n 0, 1) := by decide +kernel
theorem dX2_rule_48 : decode cX2_rule 48 = .ok (.invokevirtual 93, 3) := by decide +kernel
theorem dX2_rule_51 : decode cX2_rule 51 = .ok (.aload_n 0, 1) := by decide +kernel
theorem dX2_rule_52 : decode cX2_rule 52 = .ok (.iload_n 2, 1) := by decide +kernel
theorem dX2_rule_53 : decode cX2_rule 53 = .ok (.iload_n 3, 1) := by decide +kernel
theorem dX2_rule_54 : decode cX2_rule 54 = .ok (.invokevirtual 96, 3) := by decide +kernel
theorem dX2_rule_57 : decode cX2_rule 57 = .ok (.istore 4, 2) := by decide +kernel
theorem dX2_rule_59 : decode cX2_rule 59 = .ok (.aload_n 0, 1) := by decide +kernel
theorem dX2_rule_60 : decode cX2_rule 60 = .ok (.invokevirtual 100, 3) := by decide +kernel
theorem dX2_rule_63 : decode cX2_rule 63 = .ok (.ifCond .eq 8, 3) := by decide +kernel
theorem dX2_rule_66 : decode cX2_rule 66 = .ok (.aload_n 0, 1) := by decide +kernel
theorem dX2_rule_67 : decode cX2_rule 67 = .ok (.invokevirtual 104, 3) := by decide +kernel
theorem dX2_rule_70 : decode cX2_rule 70 = .ok (.ireturn, 1) := by decide +kernel
theorem dX2_rule_71 : decode cX2_rule 71 = .ok (.iload_n 1, 1) := by decide +kernel
theorem dX2_rule_72 : decode cX2_rule 72 = .ok (.bipush 6, 2) := by decide +kernel
theorem dX2_rule_74 : decode cX2_rule 74 = .ok (.if_icmp .ne 12, 3) := by decide +kernel
theorem dX2_rule_77 : decode cX2_rule 77 = .ok (.aload_n 0, 1) := by decide +kernel
theorem dX2_rule_78 : decode cX2_rule 78 = .ok (.getfield 17, 3) := by decide +kernel
theorem dX2_rule_81 : decode cX2_rule 81 = .ok (.iload_n 2, 1) := by decide +kernel
theorem dX2_rule_82 : decode cX2_rule 82 = .ok (.aaload, 1) := by decide +kernel
theorem dX2_rule_83 : decode cX2_rule 83 = .ok (.goto 4, 3) := by decide +kernel
theorem dX2_rule_86 : decode cX2_rule 86 = .ok (.aconst_null, 1) := by decide +kernel
theorem dX2_rule_87 : decode cX2_rule 87 = .ok (.astore 5, 2) := by decide +kernel
theorem dX2_rule_89 : decode cX2_rule 89 = .ok (.aload_n 0, 1) := by decide +kernel
theorem dX2_rule_90 : decode cX2_rule 90 = .ok (.getfield 23, 3) := by decide +kernel
theorem dX2_rule_93 : decode cX2_rule 93 = .ok (.aload_n 0, 1) := by decide +kernel
theorem dX2_rule_94 : decode cX2_rule 94 = .ok (.getfield 27, 3) := by decide +kernel
theorem dX2_rule_97 : decode cX2_rule 97 = .ok (.new 21, 3) := by decide +kernel
theorem dX2_rule_100 : decode cX2_rule 100 = .ok (.dup, 1) := by decide +kernel
theorem dX2_rule_101 : decode cX2_rule 101 = .ok (.iload_n 1, 1) := by decide +kernel
theorem dX2_rule_102 : decode cX2_rule 102 = .ok (.iload_n 2, 1) := by decide +kernel
theorem dX2_rule_103 : decode cX2_rule 103 = .ok (.iload_n 3, 1) := by decide +kernel
theorem dX2_rule_104 : decode cX2_rule 104 = .ok (.iload 4, 2) := by decide +kernel
theorem dX2_rule_106 : decode cX2_rule 106 = .ok (.aload 5, 2) := by decide +kernel
theorem dX2_rule_108 : decode cX2_rule 108 = .ok (.invokespecial 108, 3) := by decide +kernel
theorem dX2_rule_111 : decode cX2_rule 111 = .ok (.aastore, 1) := by decide +kernel
theorem dX2_rule_112 : decode cX2_rule 112 = .ok (.aload_n 0, 1) := by decide +kernel
theorem dX2_rule_113 : decode cX2_rule 113 = .ok (.dup, 1) := by decide +kernel
theorem dX2_rule_114 : decode cX2_rule 114 = .ok (.getfield 27, 3) := by decide +kernel
theorem dX2_rule_117 : decode cX2_rule 117 = .ok (.iconst 1, 1) := by decide +kernel
theorem dX2_rule_118 : decode cX2_rule 118 = .ok (.iadd, 1) := by decide +kernel
theorem dX2_rule_119 : decode cX2_rule 119 = .ok (.putfield 27, 3) := by decide +kernel
theorem dX2_rule_122 : decode cX2_rule 122 = .ok (.aload_n 0, 1) := by decide +kernel
theorem dX2_rule_123 : decode cX2_rule 123 = .ok (.getfield 27, 3) := by decide +kernel
theorem dX2_rule_126 : decode cX2_rule 126 = .ok (.iconst 1, 1) := by decide +kernel
theorem dX2_rule_127 : decode cX2_rule 127 = .ok (.isub, 1) := by decide +kernel
theorem dX2_rule_128 : decode cX2_rule 128 = .ok (.ireturn, 1) := by decide +kernel
set_option maxRecDepth 20000 in
theorem ggX2_apply_X2_isRule : GoodIn wsX2_apply wsX2_isRule := goodIn_r _ [6, 7, 75, 76, 77, 78, 79, 80, 81, 82, 83, 84, 85, 86, 87, 88, 89, 90] (by decide +kernel) (by decide +kernel)
set_option maxRecDepth 20000 in
theorem gX2_apply_X2_isRule : GoodIn wsX2_apply (wsV RX2 111 RX2 yX2_isRule wsX2_isRule) := goodIn_app (goodIn_of _ (by decide +kernel)) ggX2_apply_X2_isRule
set_option maxRecDepth 20000 in
theorem ggX2_apply_X2_begin : GoodIn wsX2_apply wsX2_begin := goodIn_r _ [11, 12, 13, 75, 76, 77, 78, 79, 80, 81, 82, 83, 84, 85, 86, 87, 88, 89, 90] (by decide +kernel) (by decide +kernel)
set_option maxRecDepth 20000 in
theorem gX2_apply_X2_begin : GoodIn wsX2_apply (wsV RX2 93 RX2 yX2_begin wsX2_begin) := goodIn_app (goodIn_of _ (by decide +kernel)) ggX2_apply_X2_begin
set_option maxRecDepth 20000 in
theorem ggX2_apply_X2_give : GoodIn wsX2_apply wsX2_give := goodIn_r _ [17, 12, 18, 19, 20, 21, 22, 23, 24, 25, 26, 27, 28, 29, 5, 30, 13, 31, 32, 33, 34, 35, 36, 37, 38, 39, 40, 41, 42, 43, 44, 45, 46, 47, 48, 49, 50, 51, 52, 53, 54, 55, 14, 15, 16, 56, 57, 58, 59, 60, 61, 62, 63, 64, 75, 76, 77, 78, 79, 80, 81, 82, 83, 84, 85, 86, 87, 88, 89, 90, 91, 92, 93, 94, 95, 96, 97] (by decide +kernel) (by decide +kernel)
set_option maxRecDepth 20000 in
theorem gX2_apply_X2_give : GoodIn wsX2_apply (wsV RX2 96 RX2 yX2_give wsX2_give) := goodIn_app (goodIn_of _ (by decide +kernel)) ggX2_apply_X2_give
set_option maxRecDepth 20000 in
theorem ggX2_apply_X2_isRefused : GoodIn wsX2_apply wsX2_isRefused := goodIn_r _ [59, 13, 75, 76, 77, 78, 79, 80, 81, 82, 83, 84, 85, 86, 87, 88, 89, 90] (by decide +kernel) (by decide +kernel)
set_option maxRecDepth 20000 in
theorem gX2_apply_X2_isRefused : GoodIn wsX2_apply (wsV RX2 100 RX2 yX2_isRefused wsX2_isRefused) := goodIn_app (goodIn_of _ (by decide +kernel)) ggX2_apply_X2_isRefused
set_option maxRecDepth 20000 in
theorem ggX2_apply_X2_fail : GoodIn wsX2_apply wsX2_fail := goodIn_r _ [68, 13, 69, 31, 70, 71, 72, 73, 5, 74, 75, 76, 77, 78, 79, 80, 81, 82, 83, 84, 85, 86, 87, 88, 89, 90] (by decide +kernel) (by decide +kernel)
set_option maxRecDepth 20000 in
theorem gX2_apply_X2_fail : GoodIn wsX2_apply (wsV RX2 104 RX2 yX2_fail wsX2_fail) := goodIn_app (goodIn_of _ (by decide +kernel)) ggX2_apply_X2_fail
theorem dX2_apply_0 : decode cX2_apply 0 = .ok (.aload_n 0, 1) := by decide +kernel
theorem dX2_apply_1 : decode cX2_apply 1 = .ok (.iload_n 1, 1) := by decide +kernel
theorem dX2_apply_2 : decode cX2_apply 2 = .ok (.invokevirtual 111, 3) := by decide +kernel
theorem dX2_apply_5 : decode cX2_apply 5 = .ok (.ifCond .ne 5, 3) := by decide +kernel
theorem dX2_apply_8 : decode cX2_apply 8 = .ok (.iconst (-1), 1) := by decide +kernel
theorem dX2_apply_9 : decode cX2_apply 9 = .ok (.ireturn, 1) := by decide +kernel
theorem dX2_apply_10 : decode cX2_apply 10 = .ok (.aload_n 0, 1) := by decide +kernel
theorem dX2_apply_11 : decode cX2_apply 11 = .ok (.invokevirtual 93, 3) := by decide +kernel
theorem dX2_apply_14 : decode cX2_apply 14 = .ok (.aload_n 0, 1) := by decide +kernel
theorem dX2_apply_15 : decode cX2_apply 15 = .ok (.iload_n 1, 1) := by decide +kernel
theorem dX2_apply_16 : decode cX2_apply 16 = .ok (.iload_n 2, 1) := by decide +kernel
theorem dX2_apply_17 : decode cX2_apply 17 = .ok (.invokevirtual 96, 3) := by decide +kernel
theorem dX2_apply_20 : decode cX2_apply 20 = .ok (.istore_n 3, 1) := by decide +kernel
theorem dX2_apply_21 : decode cX2_apply 21 = .ok (.aload_n 0, 1) := by decide +kernel
theorem dX2_apply_22 : decode cX2_apply 22 = .ok (.invokevirtual 100, 3) := by decide +kernel
theorem dX2_apply_25 : decode cX2_apply 25 = .ok (.ifCond .eq 8, 3) := by decide +kernel
theorem dX2_apply_28 : decode cX2_apply 28 = .ok (.aload_n 0, 1) := by decide +kernel
theorem dX2_apply_29 : decode cX2_apply 29 = .ok (.invokevirtual 104, 3) := by decide +kernel
theorem dX2_apply_32 : decode cX2_apply 32 = .ok (.ireturn, 1) := by decide +kernel
theorem dX2_apply_33 : decode cX2_apply 33 = .ok (.aload_n 0, 1) := by decide +kernel
theorem dX2_apply_34 : decode cX2_apply 34 = .ok (.iload_n 3, 1) := by decide +kernel
theorem dX2_apply_35 : decode cX2_apply 35 = .ok (.putfield 46, 3) := by decide +kernel
theorem dX2_apply_38 : decode cX2_apply 38 = .ok (.iconst 1, 1) := by decide +kernel
theorem dX2_apply_39 : decode cX2_apply 39 = .ok (.ireturn, 1) := by decide +kernel
set_option maxRecDepth 20000 in
theorem ggX2_each_X2_isRule : GoodIn wsX2_each wsX2_isRule := goodIn_r _ [7, 8, 77, 78, 79, 80, 81, 82, 83, 84, 85, 86, 87, 88, 89, 90, 91, 92] (by decide +kernel) (by decide +kernel)
set_option maxRecDepth 20000 in
theorem gX2_each_X2_isRule : GoodIn wsX2_each (wsV RX2 111 RX2 yX2_isRule wsX2_isRule) := goodIn_app (goodIn_of _ (by decide +kernel)) ggX2_each_X2_isRule
set_option maxRecDepth 20000 in
theorem ggX2_each_X2_isRow : GoodIn wsX2_each wsX2_isRow := goodIn_r _ [11] (by decide +kernel) (by decide +kernel)
set_option maxRecDepth 20000 in
theorem gX2_each_X2_isRow : GoodIn wsX2_each (va_wsS RX2 73 yX2_isRow wsX2_isRow) := goodIn_app (goodIn_of _ (by decide +kernel)) ggX2_each_X2_isRow
set_option maxRecDepth 20000 in
theorem ggX2_each_X2_failureAnswer : GoodIn wsX2_each wsX2_failureAnswer := goodIn_r _ [14] (by decide +kernel) (by decide +kernel)
set_option maxRecDepth 20000 in
theorem gX2_each_X2_failureAnswer : GoodIn wsX2_each (va_wsS RX2 79 yX2_failureAnswer wsX2_failureAnswer) := goodIn_app (goodIn_of _ (by decide +kernel)) ggX2_each_X2_failureAnswer
set_option maxRecDepth 20000 in
theorem ggX2_each_X2_begin : GoodIn wsX2_each wsX2_begin := goodIn_r _ [18, 19, 20, 77, 78, 79, 80, 81, 82, 83, 84, 85, 86, 87, 88, 89, 90, 91, 92] (by decide +kernel) (by decide +kernel)
set_option maxRecDepth 20000 in
theorem gX2_each_X2_begin : GoodIn wsX2_each (wsV RX2 93 RX2 yX2_begin wsX2_begin) := goodIn_app (goodIn_of _ (by decide +kernel)) ggX2_each_X2_begin
set_option maxRecDepth 20000 in
theorem ggX2_each_X2_give : GoodIn wsX2_each wsX2_give := goodIn_r _ [24, 19, 25, 26, 27, 28, 29, 30, 31, 1, 32, 33, 34, 35, 6, 36, 20, 37, 38, 39, 40, 41, 2, 42, 43, 44, 45, 46, 47, 48, 49, 50, 51, 52, 53, 54, 55, 56, 57, 58, 59, 60, 21, 22, 23, 61, 62, 63, 64, 65, 66, 67, 68, 69, 77, 78, 79, 80, 81, 82, 83, 84, 85, 86, 87, 88, 89, 90, 91, 92, 94, 95, 96, 97, 98, 99, 93] (by decide +kernel) (by decide +kernel)
set_option maxRecDepth 20000 in
theorem gX2_each_X2_give : GoodIn wsX2_each (wsV RX2 96 RX2 yX2_give wsX2_give) := goodIn_app (goodIn_of _ (by decide +kernel)) ggX2_each_X2_give
set_option maxRecDepth 20000 in
theorem ggX2_each_X2_isRefused : GoodIn wsX2_each wsX2_isRefused := goodIn_r _ [64, 20, 77, 78, 79, 80, 81, 82, 83, 84, 85, 86, 87, 88, 89, 90, 91, 92] (by decide +kernel) (by decide +kernel)
set_option maxRecDepth 20000 in
theorem gX2_each_X2_isRefused : GoodIn wsX2_each (wsV RX2 100 RX2 yX2_isRefused wsX2_isRefused) := goodIn_app (goodIn_of _ (by decide +kernel)) ggX2_each_X2_isRefused
set_option maxRecDepth 20000 in
theorem ggX2_each_X2_fail : GoodIn wsX2_each wsX2_fail := goodIn_r _ [73, 20, 74, 37, 75, 76, 12, 13, 6, 14, 77, 78, 79, 80, 81, 82, 83, 84, 85, 86, 87, 88, 89, 90, 91, 92] (by decide +kernel) (by decide +kernel)
set_option maxRecDepth 20000 in
theorem gX2_each_X2_fail : GoodIn wsX2_each (wsV RX2 104 RX2 yX2_fail wsX2_fail) := goodIn_app (goodIn_of _ (by decide +kernel)) ggX2_each_X2_fail
theorem dX2_each_0 : decode cX2_each 0 = .ok (.aload_n 0, 1) := by decide +kernel
theorem dX2_each_1 : decode cX2_each 1 = .ok (.iload_n 1, 1) := by decide +kernel
theorem dX2_each_2 : decode cX2_each 2 = .ok (.invokevirtual 111, 3) := by decide +kernel
theorem dX2_each_5 : decode cX2_each 5 = .ok (.ifCond .eq 10, 3) := by decide +kernel
theorem dX2_each_8 : decode cX2_each 8 = .ok (.iload_n 2, 1) := by decide +kernel
theorem dX2_each_9 : decode cX2_each 9 = .ok (.invokestatic 73, 3) := by decide +kernel
theorem dX2_each_12 : decode cX2_each 12 = .ok (.ifCond .ne 5, 3) := by decide +kernel
theorem dX2_each_15 : decode cX2_each 15 = .ok (.iconst (-1), 1) := by decide +kernel
theorem dX2_each_16 : decode cX2_each 16 = .ok (.ireturn, 1) := by decide +kernel
theorem dX2_each_17 : decode cX2_each 17 = .ok (.aload_n 0, 1) := by decide +kernel
theorem dX2_each_18 : decode cX2_each 18 = .ok (.getfield 17, 3) := by decide +kernel
theorem dX2_each_21 : decode cX2_each 21 = .ok (.iload_n 2, 1) := by decide +kernel
theorem dX2_each_22 : decode cX2_each 22 = .ok (.aaload, 1) := by decide +kernel
theorem dX2_each_23 : decode cX2_each 23 = .ok (.astore_n 3, 1) := by decide +kernel
theorem dX2_each_24 : decode cX2_each 24 = .ok (.aload_n 3, 1) := by decide +kernel
theorem dX2_each_25 : decode cX2_each 25 = .ok (.ifnonnull 8, 3) := by decide +kernel
theorem dX2_each_28 : decode cX2_each 28 = .ok (.iconst 3, 1) := by decide +kernel
theorem dX2_each_29 : decode cX2_each 29 = .ok (.invokestatic 79, 3) := by decide +kernel
theorem dX2_each_32 : decode cX2_each 32 = .ok (.ireturn, 1) := by decide +kernel
theorem dX2_each_33 : decode cX2_each 33 = .ok (.aload_n 0, 1) := by decide +kernel
theorem dX2_each_34 : decode cX2_each 34 = .ok (.invokevirtual 93, 3) := by decide +kernel
theorem dX2_each_37 : decode cX2_each 37 = .ok (.aload_n 3, 1) := by decide +kernel
theorem dX2_each_38 : decode cX2_each 38 = .ok (.getfield 86, 3) := by decide +kernel
theorem dX2_each_41 : decode cX2_each 41 = .ok (.astore 4, 2) := by decide +kernel
theorem dX2_each_43 : decode cX2_each 43 = .ok (.iconst 0, 1) := by decide +kernel
theorem dX2_each_44 : decode cX2_each 44 = .ok (.istore 5, 2) := by decide +kernel
theorem dX2_each_46 : decode cX2_each 46 = .ok (.iload 5, 2) := by decide +kernel
theorem dX2_each_48 : decode cX2_each 48 = .ok (.aload 4, 2) := by decide +kernel
theorem dX2_each_50 : decode cX2_each 50 = .ok (.arraylength, 1) := by decide +kernel
theorem dX2_each_51 : decode cX2_each 51 = .ok (.if_icmp .ge 40, 3) := by decide +kernel
theorem dX2_each_54 : decode cX2_each 54 = .ok (.aload_n 0, 1) := by decide +kernel
theorem dX2_each_55 : decode cX2_each 55 = .ok (.iload_n 1, 1) := by decide +kernel
theorem dX2_each_56 : decode cX2_each 56 = .ok (.aload 4, 2) := by decide +kernel
theorem dX2_each_58 : decode cX2_each 58 = .ok (.iload 5, 2) := by decide +kernel
theorem dX2_each_60 : decode cX2_each 60 = .ok (.iaload, 1) := by decide +kernel
theorem dX2_each_61 : decode cX2_each 61 = .ok (.invokevirtual 96, 3) := by decide +kernel
theorem dX2_each_64 : decode cX2_each 64 = .ok (.istore 6, 2) := by decide +kernel
theorem dX2_each_66 : decode cX2_each 66 = .ok (.aload_n 0, 1) := by decide +kernel
theorem dX2_each_67 : decode cX2_each 67 = .ok (.invokevirtual 100, 3) := by decide +kernel
theorem dX2_each_70 : decode cX2_each 70 = .ok (.ifCond .eq 8, 3) := by decide +kernel
theorem dX2_each_73 : decode cX2_each 73 = .ok (.aload_n 0, 1) := by decide +kernel
theorem dX2_each_74 : decode cX2_each 74 = .ok (.invokevirtual 104, 3) := by decide +kernel
theorem dX2_each_77 : decode cX2_each 77 = .ok (.ireturn, 1) := by decide +kernel
theorem dX2_each_78 : decode cX2_each 78 = .ok (.aload 4, 2) := by decide +kernel
theorem dX2_each_80 : decode cX2_each 80 = .ok (.iload 5, 2) := by decide +kernel
theorem dX2_each_82 : decode cX2_each 82 = .ok (.iload 6, 2) := by decide +kernel
theorem dX2_each_84 : decode cX2_each 84 = .ok (.iastore, 1) := by decide +kernel
theorem dX2_each_85 : decode cX2_each 85 = .ok (.iinc 5 1, 3) := by decide +kernel
theorem dX2_each_88 : decode cX2_each 88 = .ok (.goto (-42), 3) := by decide +kernel
theorem dX2_each_91 : decode cX2_each 91 = .ok (.aload 4, 2) := by decide +kernel
theorem dX2_each_93 : decode cX2_each 93 = .ok (.arraylength, 1) := by decide +kernel
theorem dX2_each_94 : decode cX2_each 94 = .ok (.ireturn, 1) := by decide +kernel
set_option maxRecDepth 20000 in
theorem ggX2_keep_X2_isRule : GoodIn wsX2_keep wsX2_isRule := goodIn_r _ [11, 12, 102, 103, 104, 105, 106, 107, 108, 109, 110, 111, 112, 113, 114, 115, 116, 117] (by decide +kernel) (by decide +kernel)
set_option maxRecDepth 20000 in
theorem gX2_keep_X2_isRule : GoodIn wsX2_keep (wsV RX2 111 RX2 yX2_isRule wsX2_isRule) := goodIn_app (goodIn_of _ (by decide +kernel)) ggX2_keep_X2_isRule
set_option maxRecDepth 20000 in
theorem ggX2_keep_X2_isRow : GoodIn wsX2_keep wsX2_isRow := goodIn_r _ [15] (by decide +kernel) (by decide +kernel)
set_option maxRecDepth 20000 in
theorem gX2_keep_X2_isRow : GoodIn wsX2_keep (va_wsS RX2 73 yX2_isRow wsX2_isRow) := goodIn_app (goodIn_of _ (by decide +kernel)) ggX2_keep_X2_isRow
set_option maxRecDepth 20000 in
theorem ggX2_keep_X2_failureAnswer : GoodIn wsX2_keep wsX2_failureAnswer := goodIn_r _ [18] (by decide +kernel) (by decide +kernel)
set_option maxRecDepth 20000 in
theorem gX2_keep_X2_failureAnswer : GoodIn wsX2_keep (va_wsS RX2 79 yX2_failureAnswer wsX2_failureAnswer) := goodIn_app (goodIn_of _ (by decide +kernel)) ggX2_keep_X2_failureAnswer
set_option maxRecDepth 20000 in
theorem ggX2_keep_X2_begin : GoodIn wsX2_keep wsX2_begin := goodIn_r _ [22, 23, 24, 102, 103, 104, 105, 106, 107, 108, 109, 110, 111, 112, 113, 114, 115, 116, 117] (by decide +kernel) (by decide +kernel)
set_option maxRecDepth 20000 in
theorem gX2_keep_X2_begin : GoodIn wsX2_keep (wsV RX2 93 RX2 yX2_begin wsX2_begin) := goodIn_app (goodIn_of _ (by decide +kernel)) ggX2_keep_X2_begin
set_option maxRecDepth 20000 in
theorem ggX2_keep_X2_give : GoodIn wsX2_keep wsX2_give := goodIn_r _ [28, 23, 29, 30, 31, 32, 33, 34, 35, 1, 36, 37, 38, 39, 10, 40, 24, 41, 42, 43, 44, 45, 2, 46, 47, 48, 6, 49, 50, 51, 52, 53, 54, 55, 56, 57, 58, 59, 60, 61, 62, 63, 25, 26, 27, 64, 65, 66, 67, 68, 69, 70, 71, 72, 102, 103, 104, 105, 106, 107, 108, 109, 110, 111, 112, 113, 114, 115, 116, 117, 119, 120, 121, 122, 123, 124, 118] (by decide +kernel) (by decide +kernel)
set_option maxRecDepth 20000 in
theorem gX2_keep_X2_give : GoodIn wsX2_keep (wsV RX2 96 RX2 yX2_give wsX2_give) := goodIn_app (goodIn_of _ (by decide +kernel)) ggX2_keep_X2_give
set_option maxRecDepth 20000 in
theorem ggX2_keep_X2_isRefused : GoodIn wsX2_keep wsX2_isRefused := goodIn_r _ [67, 24, 102, 103, 104, 105, 106, 107, 108, 109, 110, 111, 112, 113, 114, 115, 116, 117] (by decide +kernel) (by decide +kernel)
set_option maxRecDepth 20000 in
theorem gX2_keep_X2_isRefused : GoodIn wsX2_keep (wsV RX2 100 RX2 yX2_isRefused wsX2_isRefused) := goodIn_app (goodIn_of _ (by decide +kernel)) ggX2_keep_X2_isRefused
set_option maxRecDepth 20000 in
theorem ggX2_keep_X2_fail : GoodIn wsX2_keep wsX2_fail := goodIn_r _ [76, 24, 77, 41, 78, 79, 16, 17, 10, 18, 102, 103, 104, 105, 106, 107, 108, 109, 110, 111, 112, 113, 114, 115, 116, 117] (by decide +kernel) (by decide +kernel)
set_option maxRecDepth 20000 in
theorem gX2_keep_X2_fail : GoodIn wsX2_keep (wsV RX2 104 RX2 yX2_fail wsX2_fail) := goodIn_app (goodIn_of _ (by decide +kernel)) ggX2_keep_X2_fail
set_option maxRecDepth 20000 in
theorem ggX2_keep_J7_copyOf_59c91 : GoodIn wsX2_keep wsJ7_copyOf_59c91 := goodIn_r _ [83, 84, 85, 86, 87, 88, 89, 90, 91, 61, 62, 63, 92, 93, 94, 95] (by decide +kernel) (by decide +kernel)
set_option maxRecDepth 20000 in
theorem gX2_keep_J7_copyOf_59c91 : GoodIn wsX2_keep (va_wsS RX2 114 yJ7_copyOf_59c91 wsJ7_copyOf_59c91) := goodIn_app (goodIn_of _ (by decide +kernel)) ggX2_keep_J7_copyOf_59c91
set_option maxRecDepth 20000 in
theorem ggX2_keep_X0_init : GoodIn wsX2_keep wsX0_init := goodIn_r _ [98, 99, 100, 101, 50, 118] (by decide +kernel) (by decide +kernel)
set_option maxRecDepth 20000 in
theorem gX2_keep_X0_init : GoodIn wsX2_keep (wsX0_init) := ggX2_keep_X0_init
theorem dX2_keep_0 : decode cX2_keep 0 = .ok (.aload_n 0, 1) := by decide +kernel
theorem dX2_keep_1 : decode cX2_keep 1 = .ok (.iload_n 1, 1) := by decide +kernel
theorem dX2_keep_2 : decode cX2_keep 2 = .ok (.invokevirtual 111, 3) := by decide +kernel
theorem dX2_keep_5 : decode cX2_keep 5 = .ok (.ifCond .eq 10, 3) := by decide +kernel
theorem dX2_keep_8 : decode cX2_keep 8 = .ok (.iload_n 2, 1) := by decide +kernel
theorem dX2_keep_9 : decode cX2_keep 9 = .ok (.invokestatic 73, 3) := by decide +kernel
theorem dX2_keep_12 : decode cX2_keep 12 = .ok (.ifCond .ne 5, 3) := by decide +kernel
theorem dX2_keep_15 : decode cX2_keep 15 = .ok (.iconst (-1), 1) := by decide +kernel
theorem dX2_keep_16 : decode cX2_keep 16 = .ok (.ireturn, 1) := by decide +kernel
theorem dX2_keep_17 : decode cX2_keep 17 = .ok (.aload_n 0, 1) := by decide +kernel
theorem dX2_keep_18 : decode cX2_keep 18 = .ok (.getfield 17, 3) := by decide +kernel
theorem dX2_keep_21 : decode cX2_keep 21 = .ok (.iload_n 2, 1) := by decide +kernel
theorem dX2_keep_22 : decode cX2_keep 22 = .ok (.aaload, 1) := by decide +kernel
theorem dX2_keep_23 : decode cX2_keep 23 = .ok (.astore_n 3, 1) := by decide +kernel
theorem dX2_keep_24 : decode cX2_keep 24 = .ok (.aload_n 3, 1) := by decide +kernel
theorem dX2_keep_25 : decode cX2_keep 25 = .ok (.ifnonnull 8, 3) := by decide +kernel
theorem dX2_keep_28 : decode cX2_keep 28 = .ok (.iconst 3, 1) := by decide +kernel
theorem dX2_keep_29 : decode cX2_keep 29 = .ok (.invokestatic 79, 3) := by decide +kernel
theorem dX2_keep_32 : decode cX2_keep 32 = .ok (.ireturn, 1) := by decide +kernel
theorem dX2_keep_33 : decode cX2_keep 33 = .ok (.aload_n 0, 1) := by decide +kernel
theorem dX2_keep_34 : decode cX2_keep 34 = .ok (.invokevirtual 93, 3) := by decide +kernel
theorem dX2_keep_37 : decode cX2_keep 37 = .ok (.aload_n 3, 1) := by decide +kernel
theorem dX2_keep_38 : decode cX2_keep 38 = .ok (.getfield 86, 3) := by decide +kernel
theorem dX2_keep_41 : decode cX2_keep 41 = .ok (.astore 4, 2) := by decide +kernel
theorem dX2_keep_43 : decode cX2_keep 43 = .ok (.iconst 0, 1) := by decide +kernel
theorem dX2_keep_44 : decode cX2_keep 44 = .ok (.istore 5, 2) := by decide +kernel
theorem dX2_keep_46 : decode cX2_keep 46 = .ok (.iconst 0, 1) := by decide +kernel
theorem dX2_keep_47 : decode cX2_keep 47 = .ok (.istore 6, 2) := by decide +kernel
theorem dX2_keep_49 : decode cX2_keep 49 = .ok (.iload 6, 2) := by decide +kernel
theorem dX2_keep_51 : decode cX2_keep 51 = .ok (.aload 4, 2) := by decide +kernel
theorem dX2_keep_53 : decode cX2_keep 53 = .ok (.arraylength, 1) := by decide +kernel
theorem dX2_keep_54 : decode cX2_keep 54 = .ok (.if_icmp .ge 53, 3) := by decide +kernel
theorem dX2_keep_57 : decode cX2_keep 57 = .ok (.aload_n 0, 1) := by decide +kernel
theorem dX2_keep_58 : decode cX2_keep 58 = .ok (.iload_n 1, 1) := by decide +kernel
theorem dX2_keep_59 : decode cX2_keep 59 = .ok (.aload 4, 2) := by decide +kernel
theorem dX2_keep_61 : decode cX2_keep 61 = .ok (.iload 6, 2) := by decide +kernel
theorem dX2_keep_63 : decode cX2_keep 63 = .ok (.iaload, 1) := by decide +kernel
theorem dX2_keep_64 : decode cX2_keep 64 = .ok (.invokevirtual 96, 3) := by decide +kernel
theorem dX2_keep_67 : decode cX2_keep 67 = .ok (.istore 7, 2) := by decide +kernel
theorem dX2_keep_69 : decode cX2_keep 69 = .ok (.aload_n 0, 1) := by decide +kernel
theorem dX2_keep_70 : decode cX2_keep 70 = .ok (.invokevirtual 100, 3) := by decide +kernel
theorem dX2_keep_73 : decode cX2_keep 73 = .ok (.ifCond .eq 8, 3) := by decide +kernel
theorem dX2_keep_76 : decode cX2_keep 76 = .ok (.aload_n 0, 1) := by decide +kernel
theorem dX2_keep_77 : decode cX2_keep 77 = .ok (.invokevirtual 104, 3) := by decide +kernel
theorem dX2_keep_80 : decode cX2_keep 80 = .ok (.ireturn, 1) := by decide +kernel
theorem dX2_keep_81 : decode cX2_keep 81 = .ok (.iload 7, 2) := by decide +kernel
theorem dX2_keep_83 : decode cX2_keep 83 = .ok (.ifCond .eq 18, 3) := by decide +kernel
theorem dX2_keep_86 : decode cX2_keep 86 = .ok (.aload_n 0, 1) := by decide +kernel
theorem dX2_keep_87 : decode cX2_keep 87 = .ok (.getfield 31, 3) := by decide +kernel
theorem dX2_keep_90 : decode cX2_keep 90 = .ok (.iload 5, 2) := by decide +kernel
theorem dX2_keep_92 : decode cX2_keep 92 = .ok (.aload 4, 2) := by decide +kernel
theorem dX2_keep_94 : decode cX2_keep 94 = .ok (.iload 6, 2) := by decide +kernel
theorem dX2_keep_96 : decode cX2_keep 96 = .ok (.iaload, 1) := by decide +kernel
theorem dX2_keep_97 : decode cX2_keep 97 = .ok (.iastore, 1) := by decide +kernel
theorem dX2_keep_98 : decode cX2_keep 98 = .ok (.iinc 5 1, 3) := by decide +kernel
theorem dX2_keep_101 : decode cX2_keep 101 = .ok (.iinc 6 1, 3) := by decide +kernel
theorem dX2_keep_104 : decode cX2_keep 104 = .ok (.goto (-55), 3) := by decide +kernel
theorem dX2_keep_107 : decode cX2_keep 107 = .ok (.aload_n 0, 1) := by decide +kernel
theorem dX2_keep_108 : decode cX2_keep 108 = .ok (.getfield 17, 3) := by decide +kernel
theorem dX2_keep_111 : decode cX2_keep 111 = .ok (.iload_n 2, 1) := by decide +kernel
theorem dX2_keep_112 : decode cX2_keep 112 = .ok (.new 15, 3) := by decide +kernel
theorem dX2_keep_115 : decode cX2_keep 115 = .ok (.dup, 1) := by decide +kernel
theorem dX2_keep_116 : decode cX2_keep 116 = .ok (.aload_n 0, 1) := by decide +kernel
theorem dX2_keep_117 : decode cX2_keep 117 = .ok (.getfield 31, 3) := by decide +kernel
theorem dX2_keep_120 : decode cX2_keep 120 = .ok (.iload 5, 2) := by decide +kernel
theorem dX2_keep_122 : decode cX2_keep 122 = .ok (.invokestatic 114, 3) := by decide +kernel
theorem dX2_keep_125 : decode cX2_keep 125 = .ok (.invokespecial 76, 3) := by decide +kernel
theorem dX2_keep_128 : decode cX2_keep 128 = .ok (.aastore, 1) := by decide +kernel
theorem dX2_keep_129 : decode cX2_keep 129 = .ok (.iload 5, 2) := by decide +kernel
theorem dX2_keep_131 : decode cX2_keep 131 = .ok (.ireturn, 1) := by decide +kernel
set_option maxRecDepth 20000 in
theorem ggX2_order_X2_isRule : GoodIn wsX2_order wsX2_isRule := goodIn_r _ [8, 9, 92, 93, 94, 95, 96, 97, 98, 99, 100, 101, 102, 103, 104, 105, 106, 107] (by decide +kernel) (by decide +kernel)
set_option maxRecDepth 20000 in
theorem gX2_order_X2_isRule : GoodIn wsX2_order (wsV RX2 111 RX2 yX2_isRule wsX2_isRule) := goodIn_app (goodIn_of _ (by decide +kernel)) ggX2_order_X2_isRule
set_option maxRecDepth 20000 in
theorem ggX2_order_X2_isRow : GoodIn wsX2_order wsX2_isRow := goodIn_r _ [12] (by decide +kernel) (by decide +kernel)
set_option maxRecDepth 20000 in
theorem gX2_order_X2_isRow : GoodIn wsX2_order (va_wsS RX2 73 yX2_isRow wsX2_isRow) := goodIn_app (goodIn_of _ (by decide +kernel)) ggX2_order_X2_isRow
set_option maxRecDepth 20000 in
theorem ggX2_order_X2_failureAnswer : GoodIn wsX2_order wsX2_failureAnswer := goodIn_r _ [15] (by decide +kernel) (by decide +kernel)
set_option maxRecDepth 20000 in
theorem gX2_order_X2_failureAnswer : GoodIn wsX2_order (va_wsS RX2 79 yX2_failureAnswer wsX2_failureAnswer) := goodIn_app (goodIn_of _ (by decide +kernel)) ggX2_order_X2_failureAnswer
set_option maxRecDepth 20000 in
theorem ggX2_order_X2_begin : GoodIn wsX2_order wsX2_begin := goodIn_r _ [19, 20, 21, 92, 93, 94, 95, 96, 97, 98, 99, 100, 101, 102, 103, 104, 105, 106, 107] (by decide +kernel) (by decide +kernel)
set_option maxRecDepth 20000 in
theorem gX2_order_X2_begin : GoodIn wsX2_order (wsV RX2 93 RX2 yX2_begin wsX2_begin) := goodIn_app (goodIn_of _ (by decide +kernel)) ggX2_order_X2_begin
set_option maxRecDepth 20000 in
theorem ggX2_order_X2_give : GoodIn wsX2_order wsX2_give := goodIn_r _ [25, 20, 26, 27, 28, 29, 30, 31, 32, 1, 33, 34, 35, 36, 7, 37, 21, 38, 39, 40, 41, 42, 2, 43, 44, 45, 46, 47, 48, 49, 50, 51, 52, 53, 54, 55, 56, 57, 58, 59, 60, 61, 22, 23, 24, 62, 63, 64, 65, 66, 67, 68, 69, 70, 92, 93, 94, 95, 96, 97, 98, 99, 100, 101, 102, 103, 104, 105, 106, 107, 109, 110, 111, 112, 113, 114, 108] (by decide +kernel) (by decide +kernel)
set_option maxRecDepth 20000 in
theorem gX2_order_X2_give : GoodIn wsX2_order (wsV RX2 96 RX2 yX2_give wsX2_give) := goodIn_app (goodIn_of _ (by decide +kernel)) ggX2_order_X2_give
set_option maxRecDepth 20000 in
theorem ggX2_order_X2_isRefused : GoodIn wsX2_order wsX2_isRefused := goodIn_r _ [65, 21, 92, 93, 94, 95, 96, 97, 98, 99, 100, 101, 102, 103, 104, 105, 106, 107] (by decide +kernel) (by decide +kernel)
set_option maxRecDepth 20000 in
theorem gX2_order_X2_isRefused : GoodIn wsX2_order (wsV RX2 100 RX2 yX2_isRefused wsX2_isRefused) := goodIn_app (goodIn_of _ (by decide +kernel)) ggX2_order_X2_isRefused
set_option maxRecDepth 20000 in
theorem ggX2_order_X2_fail : GoodIn wsX2_order wsX2_fail := goodIn_r _ [74, 21, 75, 38, 76, 77, 13, 14, 7, 15, 92, 93, 94, 95, 96, 97, 98, 99, 100, 101, 102, 103, 104, 105, 106, 107] (by decide +kernel) (by decide +kernel)
set_option maxRecDepth 20000 in
theorem gX2_order_X2_fail : GoodIn wsX2_order (wsV RX2 104 RX2 yX2_fail wsX2_fail) := goodIn_app (goodIn_of _ (by decide +kernel)) ggX2_order_X2_fail
set_option maxRecDepth 20000 in
theorem ggX2_order_X2_sortOrigins : GoodIn wsX2_order wsX2_sortOrigins := goodIn_r _ [81, 3, 82, 92, 93, 94, 95, 96, 97, 98, 99, 100, 101, 102, 103, 104, 105, 106, 107] (by decide +kernel) (by decide +kernel)
set_option maxRecDepth 20000 in
theorem gX2_order_X2_sortOrigins : GoodIn wsX2_order (wsV RX2 120 RX2 yX2_sortOrigins wsX2_sortOrigins) := goodIn_app (goodIn_of _ (by decide +kernel)) ggX2_order_X2_sortOrigins
set_option maxRecDepth 20000 in
theorem ggX2_order_X2_moveByOrigins : GoodIn wsX2_order wsX2_moveByOrigins := goodIn_r _ [86, 87, 82, 88, 89, 90, 91, 92, 93, 94, 95, 96, 97, 98, 99, 100, 101, 102, 103, 104, 105, 106, 107] (by decide +kernel) (by decide +kernel)
set_option maxRecDepth 20000 in
theorem gX2_order_X2_moveByOrigins : GoodIn wsX2_order (wsV RX2 124 RX2 yX2_moveByOrigins wsX2_moveByOrigins) := goodIn_app (goodIn_of _ (by decide +kernel)) ggX2_order_X2_moveByOrigins
theorem dX2_order_0 : decode cX2_order 0 = .ok (.aload_n 0, 1) := by decide +kernel
theorem dX2_order_1 : decode cX2_order 1 = .ok (.iload_n 1, 1) := by decide +kernel
theorem dX2_order_2 : decode cX2_order 2 = .ok (.invokevirtual 111, 3) := by decide +kernel
theorem dX2_order_5 : decode cX2_order 5 = .ok (.ifCond .eq 10, 3) := by decide +kernel
theorem dX2_order_8 : decode cX2_order 8 = .ok (.iload_n 2, 1) := by decide +kernel
theorem dX2_order_9 : decode cX2_order 9 = .ok (.invokestatic 73, 3) := by decide +kernel
theorem dX2_order_12 : decode cX2_order 12 = .ok (.ifCond .ne 5, 3) := by decide +kernel
theorem dX2_order_15 : decode cX2_order 15 = .ok (.iconst (-1), 1) := by decide +kernel
theorem dX2_order_16 : decode cX2_order 16 = .ok (.ireturn, 1) := by decide +kernel
theorem dX2_order_17 : decode cX2_order 17 = .ok (.aload_n 0, 1) := by decide +kernel
theorem dX2_order_18 : decode cX2_order 18 = .ok (.getfield 17, 3) := by decide +kernel
theorem dX2_order_21 : decode cX2_order 21 = .ok (.iload_n 2, 1) := by decide +kernel
theorem dX2_order_22 : decode cX2_order 22 = .ok (.aaload, 1) := by decide +kernel
theorem dX2_order_23 : decode cX2_order 23 = .ok (.astore_n 3, 1) := by decide +kernel
theorem dX2_order_24 : decode cX2_order 24 = .ok (.aload_n 3, 1) := by decide +kernel
theorem dX2_order_25 : decode cX2_order 25 = .ok (.ifnonnull 8, 3) := by decide +kernel
theorem dX2_order_28 : decode cX2_order 28 = .ok (.iconst 3, 1) := by decide +kernel
theorem dX2_order_29 : decode cX2_order 29 = .ok (.invokestatic 79, 3) := by decide +kernel
theorem dX2_order_32 : decode cX2_order 32 = .ok (.ireturn, 1) := by decide +kernel
theorem dX2_order_33 : decode cX2_order 33 = .ok (.aload_n 0, 1) := by decide +kernel
theorem dX2_order_34 : decode cX2_order 34 = .ok (.invokevirtual 93, 3) := by decide +kernel
theorem dX2_order_37 : decode cX2_order 37 = .ok (.aload_n 3, 1) := by decide +kernel
theorem dX2_order_38 : decode cX2_order 38 = .ok (.getfield 86, 3) := by decide +kernel
theorem dX2_order_41 : decode cX2_order 41 = .ok (.astore 4, 2) := by decide +kernel
theorem dX2_order_43 : decode cX2_order 43 = .ok (.iconst 0, 1) := by decide +kernel
theorem dX2_order_44 : decode cX2_order 44 = .ok (.istore 5, 2) := by decide +kernel
theorem dX2_order_46 : decode cX2_order 46 = .ok (.iload 5, 2) := by decide +kernel
theorem dX2_order_48 : decode cX2_order 48 = .ok (.aload 4, 2) := by decide +kernel
theorem dX2_order_50 : decode cX2_order 50 = .ok (.arraylength, 1) := by decide +kernel
theorem dX2_order_51 : decode cX2_order 51 = .ok (.if_icmp .ge 38, 3) := by decide +kernel
theorem dX2_order_54 : decode cX2_order 54 = .ok (.aload_n 0, 1) := by decide +kernel
theorem dX2_order_55 : decode cX2_order 55 = .ok (.getfield 34, 3) := by decide +kernel
theorem dX2_order_58 : decode cX2_order 58 = .ok (.iload 5, 2) := by decide +kernel
theorem dX2_order_60 : decode cX2_order 60 = .ok (.aload_n 0, 1) := by decide +kernel
theorem dX2_order_61 : decode cX2_order 61 = .ok (.iload_n 1, 1) := by decide +kernel
theorem dX2_order_62 : decode cX2_order 62 = .ok (.aload 4, 2) := by decide +kernel
theorem dX2_order_64 : decode cX2_order 64 = .ok (.iload 5, 2) := by decide +kernel
theorem dX2_order_66 : decode cX2_order 66 = .ok (.iaload, 1) := by decide +kernel
theorem dX2_order_67 : decode cX2_order 67 = .ok (.invokevirtual 96, 3) := by decide +kernel
theorem dX2_order_70 : decode cX2_order 70 = .ok (.iastore, 1) := by decide +kernel
theorem dX2_order_71 : decode cX2_order 71 = .ok (.aload_n 0, 1) := by decide +kernel
theorem dX2_order_72 : decode cX2_order 72 = .ok (.invokevirtual 100, 3) := by decide +kernel
theorem dX2_order_75 : decode cX2_order 75 = .ok (.ifCond .eq 8, 3) := by decide +kernel
theorem dX2_order_78 : decode cX2_order 78 = .ok (.aload_n 0, 1) := by decide +kernel
theorem dX2_order_79 : decode cX2_order 79 = .ok (.invokevirtual 104, 3) := by decide +kernel
theorem dX2_order_82 : decode cX2_order 82 = .ok (.ireturn, 1) := by decide +kernel
theorem dX2_order_83 : decode cX2_order 83 = .ok (.iinc 5 1, 3) := by decide +kernel
theorem dX2_order_86 : decode cX2_order 86 = .ok (.goto (-40), 3) := by decide +kernel
theorem dX2_order_89 : decode cX2_order 89 = .ok (.aload_n 0, 1) := by decide +kernel
theorem dX2_order_90 : decode cX2_order 90 = .ok (.aload 4, 2) := by decide +kernel
theorem dX2_order_92 : decode cX2_order 92 = .ok (.arraylength, 1) := by decide +kernel
theorem dX2_order_93 : decode cX2_order 93 = .ok (.invokevirtual 120, 3) := by decide +kernel
theorem dX2_order_96 : decode cX2_order 96 = .ok (.aload_n 0, 1) := by decide +kernel
theorem dX2_order_97 : decode cX2_order 97 = .ok (.aload 4, 2) := by decide +kernel
theorem dX2_order_99 : decode cX2_order 99 = .ok (.invokevirtual 124, 3) := by decide +kernel
theorem dX2_order_102 : decode cX2_order 102 = .ok (.ireturn, 1) := by decide +kernel
set_option maxRecDepth 20000 in
theorem ggX2_fold_X2_isRow : GoodIn wsX2_fold wsX2_isRow := goodIn_r _ [8] (by decide +kernel) (by decide +kernel)
set_option maxRecDepth 20000 in
theorem gX2_fold_X2_isRow : GoodIn wsX2_fold (va_wsS RX2 73 yX2_isRow wsX2_isRow) := goodIn_app (goodIn_of _ (by decide +kernel)) ggX2_fold_X2_isRow
set_option maxRecDepth 20000 in
theorem ggX2_fold_X2_failureAnswer : GoodIn wsX2_fold wsX2_failureAnswer := goodIn_r _ [11] (by decide +kernel) (by decide +kernel)
set_option maxRecDepth 20000 in
theorem gX2_fold_X2_failureAnswer : GoodIn wsX2_fold (va_wsS RX2 79 yX2_failureAnswer wsX2_failureAnswer) := goodIn_app (goodIn_of _ (by decide +kernel)) ggX2_fold_X2_failureAnswer
set_option maxRecDepth 20000 in
theorem ggX2_fold_X2_foldOne : GoodIn wsX2_fold wsX2_foldOne := goodIn_r _ [15, 16, 17, 18, 19, 20, 21, 22, 7, 23, 2, 24, 36, 37, 38, 39, 40, 41, 42, 43, 44, 45, 46, 47, 48, 49, 50, 51] (by decide +kernel) (by decide +kernel)
set_option maxRecDepth 20000 in
theorem gX2_fold_X2_foldOne : GoodIn wsX2_fold (wsV RX2 128 RX2 yX2_foldOne wsX2_foldOne) := goodIn_app (goodIn_of _ (by decide +kernel)) ggX2_fold_X2_foldOne
set_option maxRecDepth 20000 in
theorem ggX2_fold_X2_isRefused : GoodIn wsX2_fold wsX2_isRefused := goodIn_r _ [28, 2, 36, 37, 38, 39, 40, 41, 42, 43, 44, 45, 46, 47, 48, 49, 50, 51] (by decide +kernel) (by decide +kernel)
set_option maxRecDepth 20000 in
theorem gX2_fold_X2_isRefused : GoodIn wsX2_fold (wsV RX2 100 RX2 yX2_isRefused wsX2_isRefused) := goodIn_app (goodIn_of _ (by decide +kernel)) ggX2_fold_X2_isRefused
set_option maxRecDepth 20000 in
theorem ggX2_fold_X2_fail : GoodIn wsX2_fold wsX2_fail := goodIn_r _ [32, 2, 33, 24, 34, 35, 9, 10, 7, 11, 36, 37, 38, 39, 40, 41, 42, 43, 44, 45, 46, 47, 48, 49, 50, 51] (by decide +kernel) (by decide +kernel)
set_option maxRecDepth 20000 in
theorem gX2_fold_X2_fail : GoodIn wsX2_fold (wsV RX2 104 RX2 yX2_fail wsX2_fail) := goodIn_app (goodIn_of _ (by decide +kernel)) ggX2_fold_X2_fail
theorem dX2_fold_0 : decode cX2_fold 0 = .ok (.iload_n 1, 1) := by decide +kernel
theorem dX2_fold_1 : decode cX2_fold 1 = .ok (.ifCond .lt 15, 3) := by decide +kernel
theorem dX2_fold_4 : decode cX2_fold 4 = .ok (.iload_n 1, 1) := by decide +kernel
theorem dX2_fold_5 : decode cX2_fold 5 = .ok (.iconst 4, 1) := by decide +kernel
theorem dX2_fold_6 : decode cX2_fold 6 = .ok (.if_icmp .gt 10, 3) := by decide +kernel
theorem dX2_fold_9 : decode cX2_fold 9 = .ok (.iload_n 2, 1) := by decide +kernel
theorem dX2_fold_10 : decode cX2_fold 10 = .ok (.invokestatic 73, 3) := by decide +kernel
theorem dX2_fold_13 : decode cX2_fold 13 = .ok (.ifCond .ne 5, 3) := by decide +kernel
theorem dX2_fold_16 : decode cX2_fold 16 = .ok (.iconst (-1), 1) := by decide +kernel
theorem dX2_fold_17 : decode cX2_fold 17 = .ok (.ireturn, 1) := by decide +kernel
theorem dX2_fold_18 : decode cX2_fold 18 = .ok (.aload_n 0, 1) := by decide +kernel
theorem dX2_fold_19 : decode cX2_fold 19 = .ok (.getfield 17, 3) := by decide +kernel
theorem dX2_fold_22 : decode cX2_fold 22 = .ok (.iload_n 2, 1) := by decide +kernel
theorem dX2_fold_23 : decode cX2_fold 23 = .ok (.aaload, 1) := by decide +kernel
theorem dX2_fold_24 : decode cX2_fold 24 = .ok (.astore 4, 2) := by decide +kernel
theorem dX2_fold_26 : decode cX2_fold 26 = .ok (.aload 4, 2) := by decide +kernel
theorem dX2_fold_28 : decode cX2_fold 28 = .ok (.ifnonnull 8, 3) := by decide +kernel
theorem dX2_fold_31 : decode cX2_fold 31 = .ok (.iconst 3, 1) := by decide +kernel
theorem dX2_fold_32 : decode cX2_fold 32 = .ok (.invokestatic 79, 3) := by decide +kernel
theorem dX2_fold_35 : decode cX2_fold 35 = .ok (.ireturn, 1) := by decide +kernel
theorem dX2_fold_36 : decode cX2_fold 36 = .ok (.aload_n 0, 1) := by decide +kernel
theorem dX2_fold_37 : decode cX2_fold 37 = .ok (.iconst 0, 1) := by decide +kernel
theorem dX2_fold_38 : decode cX2_fold 38 = .ok (.putfield 40, 3) := by decide +kernel
theorem dX2_fold_41 : decode cX2_fold 41 = .ok (.aload 4, 2) := by decide +kernel
theorem dX2_fold_43 : decode cX2_fold 43 = .ok (.getfield 86, 3) := by decide +kernel
theorem dX2_fold_46 : decode cX2_fold 46 = .ok (.astore 5, 2) := by decide +kernel
theorem dX2_fold_48 : decode cX2_fold 48 = .ok (.iload_n 3, 1) := by decide +kernel
theorem dX2_fold_49 : decode cX2_fold 49 = .ok (.istore 6, 2) := by decide +kernel
theorem dX2_fold_51 : decode cX2_fold 51 = .ok (.iconst 0, 1) := by decide +kernel
theorem dX2_fold_52 : decode cX2_fold 52 = .ok (.istore 7, 2) := by decide +kernel
theorem dX2_fold_54 : decode cX2_fold 54 = .ok (.iload 7, 2) := by decide +kernel
theorem dX2_fold_56 : decode cX2_fold 56 = .ok (.aload 5, 2) := by decide +kernel
theorem dX2_fold_58 : decode cX2_fold 58 = .ok (.arraylength, 1) := by decide +kernel
theorem dX2_fold_59 : decode cX2_fold 59 = .ok (.if_icmp .ge 35, 3) := by decide +kernel
theorem dX2_fold_62 : decode cX2_fold 62 = .ok (.aload_n 0, 1) := by decide +kernel
theorem dX2_fold_63 : decode cX2_fold 63 = .ok (.iload_n 1, 1) := by decide +kernel
theorem dX2_fold_64 : decode cX2_fold 64 = .ok (.iload 6, 2) := by decide +kernel
theorem dX2_fold_66 : decode cX2_fold 66 = .ok (.aload 5, 2) := by decide +kernel
theorem dX2_fold_68 : decode cX2_fold 68 = .ok (.iload 7, 2) := by decide +kernel
theorem dX2_fold_70 : decode cX2_fold 70 = .ok (.iaload, 1) := by decide +kernel
theorem dX2_fold_71 : decode cX2_fold 71 = .ok (.invokevirtual 128, 3) := by decide +kernel
theorem dX2_fold_74 : decode cX2_fold 74 = .ok (.istore 6, 2) := by decide +kernel
theorem dX2_fold_76 : decode cX2_fold 76 = .ok (.aload_n 0, 1) := by decide +kernel
theorem dX2_fold_77 : decode cX2_fold 77 = .ok (.invokevirtual 100, 3) := by decide +kernel
theorem dX2_fold_80 : decode cX2_fold 80 = .ok (.ifCond .eq 8, 3) := by decide +kernel
end
section
theorem dX2_fold_83 : decode cX2_fold 83 = .ok (.aload_n 0, 1) := by decide +kernel
theorem dX2_fold_84 : decode cX2_fold 84 = .ok (.invokevirtual 104, 3) := by decide +kernel
theorem dX2_fold_87 : decode cX2_fold 87 = .ok (.ireturn, 1) := by decide +kernel
theorem dX2_fold_88 : decode cX2_fold 88 = .ok (.iinc 7 1, 3) := by decide +kernel
theorem dX2_fold_91 : decode cX2_fold 91 = .ok (.goto (-37), 3) := by decide +kernel
theorem dX2_fold_94 : decode cX2_fold 94 = .ok (.aload_n 0, 1) := by decide +kernel
theorem dX2_fold_95 : decode cX2_fold 95 = .ok (.iload 6, 2) := by decide +kernel
theorem dX2_fold_97 : decode cX2_fold 97 = .ok (.putfield 46, 3) := by decide +kernel
theorem dX2_fold_100 : decode cX2_fold 100 = .ok (.iconst 1, 1) := by decide +kernel
theorem dX2_fold_101 : decode cX2_fold 101 = .ok (.ireturn, 1) := by decide +kernel
set_option maxRecDepth 20000 in
theorem ggX2_until_X2_isRule : GoodIn wsX2_until wsX2_isRule := goodIn_r _ [6, 7, 75, 76, 77, 78, 79, 80, 81, 82, 83, 84, 85, 86, 87, 88, 89, 90] (by decide +kernel) (by decide +kernel)
set_option maxRecDepth 20000 in
theorem gX2_until_X2_isRule : GoodIn wsX2_until (wsV RX2 111 RX2 yX2_isRule wsX2_isRule) := goodIn_app (goodIn_of _ (by decide +kernel)) ggX2_until_X2_isRule
set_option maxRecDepth 20000 in
theorem ggX2_until_X2_begin : GoodIn wsX2_until wsX2_begin := goodIn_r _ [11, 12, 13, 75, 76, 77, 78, 79, 80, 81, 82, 83, 84, 85, 86, 87, 88, 89, 90] (by decide +kernel) (by decide +kernel)
set_option maxRecDepth 20000 in
theorem gX2_until_X2_begin : GoodIn wsX2_until (wsV RX2 93 RX2 yX2_begin wsX2_begin) := goodIn_app (goodIn_of _ (by decide +kernel)) ggX2_until_X2_begin
set_option maxRecDepth 20000 in
theorem ggX2_until_X2_give : GoodIn wsX2_until wsX2_give := goodIn_r _ [17, 12, 18, 19, 20, 21, 22, 23, 24, 25, 26, 27, 28, 29, 5, 30, 13, 31, 32, 33, 34, 35, 36, 37, 38, 39, 40, 41, 42, 43, 44, 45, 46, 47, 48, 49, 50, 51, 52, 53, 54, 55, 14, 15, 16, 56, 57, 58, 59, 60, 61, 62, 63, 64, 75, 76, 77, 78, 79, 80, 81, 82, 83, 84, 85, 86, 87, 88, 89, 90, 91, 92, 93, 94, 95, 96, 97] (by decide +kernel) (by decide +kernel)
set_option maxRecDepth 20000 in
theorem gX2_until_X2_give : GoodIn wsX2_until (wsV RX2 96 RX2 yX2_give wsX2_give) := goodIn_app (goodIn_of _ (by decide +kernel)) ggX2_until_X2_give
set_option maxRecDepth 20000 in
theorem ggX2_until_X2_isRefused : GoodIn wsX2_until wsX2_isRefused := goodIn_r _ [59, 13, 75, 76, 77, 78, 79, 80, 81, 82, 83, 84, 85, 86, 87, 88, 89, 90] (by decide +kernel) (by decide +kernel)
set_option maxRecDepth 20000 in
theorem gX2_until_X2_isRefused : GoodIn wsX2_until (wsV RX2 100 RX2 yX2_isRefused wsX2_isRefused) := goodIn_app (goodIn_of _ (by decide +kernel)) ggX2_until_X2_isRefused
set_option maxRecDepth 20000 in
theorem ggX2_until_X2_fail : GoodIn wsX2_until wsX2_fail := goodIn_r _ [68, 13, 69, 31, 70, 71, 72, 73, 5, 74, 75, 76, 77, 78, 79, 80, 81, 82, 83, 84, 85, 86, 87, 88, 89, 90] (by decide +kernel) (by decide +kernel)
set_option maxRecDepth 20000 in
theorem gX2_until_X2_fail : GoodIn wsX2_until (wsV RX2 104 RX2 yX2_fail wsX2_fail) := goodIn_app (goodIn_of _ (by decide +kernel)) ggX2_until_X2_fail
theorem dX2_until_0 : decode cX2_until 0 = .ok (.aload_n 0, 1) := by decide +kernel
theorem dX2_until_1 : decode cX2_until 1 = .ok (.iload_n 1, 1) := by decide +kernel
theorem dX2_until_2 : decode cX2_until 2 = .ok (.invokevirtual 111, 3) := by decide +kernel
theorem dX2_until_5 : decode cX2_until 5 = .ok (.ifCond .eq 24, 3) := by decide +kernel
theorem dX2_until_8 : decode cX2_until 8 = .ok (.aload_n 0, 1) := by decide +kernel
theorem dX2_until_9 : decode cX2_until 9 = .ok (.iload_n 2, 1) := by decide +kernel
theorem dX2_until_10 : decode cX2_until 10 = .ok (.invokevirtual 111, 3) := by decide +kernel
theorem dX2_until_13 : decode cX2_until 13 = .ok (.ifCond .eq 16, 3) := by decide +kernel
theorem dX2_until_16 : decode cX2_until 16 = .ok (.iload 4, 2) := by decide +kernel
theorem dX2_until_18 : decode cX2_until 18 = .ok (.iconst 1, 1) := by decide +kernel
theorem dX2_until_19 : decode cX2_until 19 = .ok (.if_icmp .lt 10, 3) := by decide +kernel
theorem dX2_until_22 : decode cX2_until 22 = .ok (.iload 4, 2) := by decide +kernel
theorem dX2_until_24 : decode cX2_until 24 = .ok (.bipush 30, 2) := by decide +kernel
theorem dX2_until_26 : decode cX2_until 26 = .ok (.if_icmp .le 5, 3) := by decide +kernel
theorem dX2_until_29 : decode cX2_until 29 = .ok (.iconst (-1), 1) := by decide +kernel
theorem dX2_until_30 : decode cX2_until 30 = .ok (.ireturn, 1) := by decide +kernel
theorem dX2_until_31 : decode cX2_until 31 = .ok (.aload_n 0, 1) := by decide +kernel
theorem dX2_until_32 : decode cX2_until 32 = .ok (.invokevirtual 93, 3) := by decide +kernel
theorem dX2_until_35 : decode cX2_until 35 = .ok (.iload_n 3, 1) := by decide +kernel
theorem dX2_until_36 : decode cX2_until 36 = .ok (.istore 5, 2) := by decide +kernel
theorem dX2_until_38 : decode cX2_until 38 = .ok (.iconst 0, 1) := by decide +kernel
theorem dX2_until_39 : decode cX2_until 39 = .ok (.istore 6, 2) := by decide +kernel
theorem dX2_until_41 : decode cX2_until 41 = .ok (.iconst 1, 1) := by decide +kernel
theorem dX2_until_42 : decode cX2_until 42 = .ok (.istore 7, 2) := by decide +kernel
theorem dX2_until_44 : decode cX2_until 44 = .ok (.iload 7, 2) := by decide +kernel
theorem dX2_until_46 : decode cX2_until 46 = .ok (.ifCond .eq 63, 3) := by decide +kernel
theorem dX2_until_49 : decode cX2_until 49 = .ok (.iload 6, 2) := by decide +kernel
theorem dX2_until_51 : decode cX2_until 51 = .ok (.iload 4, 2) := by decide +kernel
theorem dX2_until_53 : decode cX2_until 53 = .ok (.if_icmp .ge 56, 3) := by decide +kernel
theorem dX2_until_56 : decode cX2_until 56 = .ok (.aload_n 0, 1) := by decide +kernel
theorem dX2_until_57 : decode cX2_until 57 = .ok (.iload_n 1, 1) := by decide +kernel
theorem dX2_until_58 : decode cX2_until 58 = .ok (.iload 5, 2) := by decide +kernel
theorem dX2_until_60 : decode cX2_until 60 = .ok (.invokevirtual 96, 3) := by decide +kernel
theorem dX2_until_63 : decode cX2_until 63 = .ok (.istore 5, 2) := by decide +kernel
theorem dX2_until_65 : decode cX2_until 65 = .ok (.aload_n 0, 1) := by decide +kernel
theorem dX2_until_66 : decode cX2_until 66 = .ok (.invokevirtual 100, 3) := by decide +kernel
theorem dX2_until_69 : decode cX2_until 69 = .ok (.ifCond .eq 8, 3) := by decide +kernel
theorem dX2_until_72 : decode cX2_until 72 = .ok (.aload_n 0, 1) := by decide +kernel
theorem dX2_until_73 : decode cX2_until 73 = .ok (.invokevirtual 104, 3) := by decide +kernel
theorem dX2_until_76 : decode cX2_until 76 = .ok (.ireturn, 1) := by decide +kernel
theorem dX2_until_77 : decode cX2_until 77 = .ok (.iinc 6 1, 3) := by decide +kernel
theorem dX2_until_80 : decode cX2_until 80 = .ok (.aload_n 0, 1) := by decide +kernel
theorem dX2_until_81 : decode cX2_until 81 = .ok (.iload_n 2, 1) := by decide +kernel
theorem dX2_until_82 : decode cX2_until 82 = .ok (.iload 5, 2) := by decide +kernel
theorem dX2_until_84 : decode cX2_until 84 = .ok (.invokevirtual 96, 3) := by decide +kernel
theorem dX2_until_87 : decode cX2_until 87 = .ok (.ifCond .eq 7, 3) := by decide +kernel
theorem dX2_until_90 : decode cX2_until 90 = .ok (.iconst 1, 1) := by decide +kernel
theorem dX2_until_91 : decode cX2_until 91 = .ok (.goto 4, 3) := by decide +kernel
theorem dX2_until_94 : decode cX2_until 94 = .ok (.iconst 0, 1) := by decide +kernel
theorem dX2_until_95 : decode cX2_until 95 = .ok (.istore 7, 2) := by decide +kernel
theorem dX2_until_97 : decode cX2_until 97 = .ok (.aload_n 0, 1) := by decide +kernel
theorem dX2_until_98 : decode cX2_until 98 = .ok (.invokevirtual 100, 3) := by decide +kernel
theorem dX2_until_101 : decode cX2_until 101 = .ok (.ifCond .eq (-57), 3) := by decide +kernel
theorem dX2_until_104 : decode cX2_until 104 = .ok (.aload_n 0, 1) := by decide +kernel
theorem dX2_until_105 : decode cX2_until 105 = .ok (.invokevirtual 104, 3) := by decide +kernel
theorem dX2_until_108 : decode cX2_until 108 = .ok (.ireturn, 1) := by decide +kernel
theorem dX2_until_109 : decode cX2_until 109 = .ok (.aload_n 0, 1) := by decide +kernel
theorem dX2_until_110 : decode cX2_until 110 = .ok (.iload 5, 2) := by decide +kernel
theorem dX2_until_112 : decode cX2_until 112 = .ok (.putfield 46, 3) := by decide +kernel
theorem dX2_until_115 : decode cX2_until 115 = .ok (.iload 6, 2) := by decide +kernel
theorem dX2_until_117 : decode cX2_until 117 = .ok (.ireturn, 1) := by decide +kernel
theorem dX2_result_0 : decode cX2_result 0 = .ok (.aload_n 0, 1) := by decide +kernel
theorem dX2_result_1 : decode cX2_result 1 = .ok (.getfield 46, 3) := by decide +kernel
theorem dX2_result_4 : decode cX2_result 4 = .ok (.ireturn, 1) := by decide +kernel
theorem dX2_steps_0 : decode cX2_steps 0 = .ok (.aload_n 0, 1) := by decide +kernel
theorem dX2_steps_1 : decode cX2_steps 1 = .ok (.getfield 49, 3) := by decide +kernel
theorem dX2_steps_4 : decode cX2_steps 4 = .ok (.ireturn, 1) := by decide +kernel
theorem dX2_failed_0 : decode cX2_failed 0 = .ok (.iload_n 1, 1) := by decide +kernel
theorem dX2_failed_1 : decode cX2_failed 1 = .ok (.lookupswitch 37 #[(0, 27), (1, 32)], 27) := by decide +kernel
theorem dX2_failed_28 : decode cX2_failed 28 = .ok (.aload_n 0, 1) := by decide +kernel
theorem dX2_failed_29 : decode cX2_failed 29 = .ok (.getfield 55, 3) := by decide +kernel
theorem dX2_failed_32 : decode cX2_failed 32 = .ok (.ireturn, 1) := by decide +kernel
theorem dX2_failed_33 : decode cX2_failed 33 = .ok (.aload_n 0, 1) := by decide +kernel
theorem dX2_failed_34 : decode cX2_failed 34 = .ok (.getfield 58, 3) := by decide +kernel
theorem dX2_failed_37 : decode cX2_failed 37 = .ok (.ireturn, 1) := by decide +kernel
theorem dX2_failed_38 : decode cX2_failed 38 = .ok (.iconst (-1), 1) := by decide +kernel
theorem dX2_failed_39 : decode cX2_failed 39 = .ok (.ireturn, 1) := by decide +kernel
set_option maxRecDepth 20000 in
theorem ggX2_count_X2_rowsOfNothing : GoodIn wsX2_count wsX2_rowsOfNothing := goodIn_r _ [9, 10, 11, 12, 13, 14, 15, 16, 17, 18, 19, 20, 21, 22, 23, 24, 25, 26] (by decide +kernel) (by decide +kernel)
set_option maxRecDepth 20000 in
theorem gX2_count_X2_rowsOfNothing : GoodIn wsX2_count (wsV RX2 132 RX2 yX2_rowsOfNothing wsX2_rowsOfNothing) := goodIn_app (goodIn_of _ (by decide +kernel)) ggX2_count_X2_rowsOfNothing
theorem dX2_count_0 : decode cX2_count 0 = .ok (.iload_n 1, 1) := by decide +kernel
theorem dX2_count_1 : decode cX2_count 1 = .ok (.tableswitch 60 0 4 #[35, 40, 45, 50, 55], 35) := by decide +kernel
theorem dX2_count_36 : decode cX2_count 36 = .ok (.aload_n 0, 1) := by decide +kernel
theorem dX2_count_37 : decode cX2_count 37 = .ok (.getfield 27, 3) := by decide +kernel
theorem dX2_count_40 : decode cX2_count 40 = .ok (.ireturn, 1) := by decide +kernel
theorem dX2_count_41 : decode cX2_count 41 = .ok (.aload_n 0, 1) := by decide +kernel
theorem dX2_count_42 : decode cX2_count 42 = .ok (.getfield 52, 3) := by decide +kernel
theorem dX2_count_45 : decode cX2_count 45 = .ok (.ireturn, 1) := by decide +kernel
theorem dX2_count_46 : decode cX2_count 46 = .ok (.aload_n 0, 1) := by decide +kernel
theorem dX2_count_47 : decode cX2_count 47 = .ok (.getfield 61, 3) := by decide +kernel
theorem dX2_count_50 : decode cX2_count 50 = .ok (.ireturn, 1) := by decide +kernel
theorem dX2_count_51 : decode cX2_count 51 = .ok (.aload_n 0, 1) := by decide +kernel
theorem dX2_count_52 : decode cX2_count 52 = .ok (.getfield 64, 3) := by decide +kernel
theorem dX2_count_55 : decode cX2_count 55 = .ok (.ireturn, 1) := by decide +kernel
theorem dX2_count_56 : decode cX2_count 56 = .ok (.aload_n 0, 1) := by decide +kernel
theorem dX2_count_57 : decode cX2_count 57 = .ok (.invokevirtual 132, 3) := by decide +kernel
theorem dX2_count_60 : decode cX2_count 60 = .ok (.ireturn, 1) := by decide +kernel
theorem dX2_count_61 : decode cX2_count 61 = .ok (.iconst (-1), 1) := by decide +kernel
theorem dX2_count_62 : decode cX2_count 62 = .ok (.ireturn, 1) := by decide +kernel
theorem dX2_isPlace_0 : decode cX2_isPlace 0 = .ok (.iload_n 0, 1) := by decide +kernel
theorem dX2_isPlace_1 : decode cX2_isPlace 1 = .ok (.ifCond .lt 13, 3) := by decide +kernel
theorem dX2_isPlace_4 : decode cX2_isPlace 4 = .ok (.iload_n 0, 1) := by decide +kernel
theorem dX2_isPlace_5 : decode cX2_isPlace 5 = .ok (.bipush 8, 2) := by decide +kernel
theorem dX2_isPlace_7 : decode cX2_isPlace 7 = .ok (.if_icmp .ge 7, 3) := by decide +kernel
theorem dX2_isPlace_10 : decode cX2_isPlace 10 = .ok (.iconst 1, 1) := by decide +kernel
theorem dX2_isPlace_11 : decode cX2_isPlace 11 = .ok (.goto 4, 3) := by decide +kernel
theorem dX2_isPlace_14 : decode cX2_isPlace 14 = .ok (.iconst 0, 1) := by decide +kernel
theorem dX2_isPlace_15 : decode cX2_isPlace 15 = .ok (.ireturn, 1) := by decide +kernel
theorem dX2_isRow_0 : decode cX2_isRow 0 = .ok (.iload_n 0, 1) := by decide +kernel
theorem dX2_isRow_1 : decode cX2_isRow 1 = .ok (.ifCond .lt 12, 3) := by decide +kernel
theorem dX2_isRow_4 : decode cX2_isRow 4 = .ok (.iload_n 0, 1) := by decide +kernel
theorem dX2_isRow_5 : decode cX2_isRow 5 = .ok (.iconst 4, 1) := by decide +kernel
theorem dX2_isRow_6 : decode cX2_isRow 6 = .ok (.if_icmp .ge 7, 3) := by decide +kernel
theorem dX2_isRow_9 : decode cX2_isRow 9 = .ok (.iconst 1, 1) := by decide +kernel
theorem dX2_isRow_10 : decode cX2_isRow 10 = .ok (.goto 4, 3) := by decide +kernel
theorem dX2_isRow_13 : decode cX2_isRow 13 = .ok (.iconst 0, 1) := by decide +kernel
theorem dX2_isRow_14 : decode cX2_isRow 14 = .ok (.ireturn, 1) := by decide +kernel
theorem dX2_isRule_0 : decode cX2_isRule 0 = .ok (.iload_n 1, 1) := by decide +kernel
theorem dX2_isRule_1 : decode cX2_isRule 1 = .ok (.ifCond .lt 15, 3) := by decide +kernel
theorem dX2_isRule_4 : decode cX2_isRule 4 = .ok (.iload_n 1, 1) := by decide +kernel
theorem dX2_isRule_5 : decode cX2_isRule 5 = .ok (.aload_n 0, 1) := by decide +kernel
theorem dX2_isRule_6 : decode cX2_isRule 6 = .ok (.getfield 27, 3) := by decide +kernel
theorem dX2_isRule_9 : decode cX2_isRule 9 = .ok (.if_icmp .ge 7, 3) := by decide +kernel
theorem dX2_isRule_12 : decode cX2_isRule 12 = .ok (.iconst 1, 1) := by decide +kernel
theorem dX2_isRule_13 : decode cX2_isRule 13 = .ok (.goto 4, 3) := by decide +kernel
theorem dX2_isRule_16 : decode cX2_isRule 16 = .ok (.iconst 0, 1) := by decide +kernel
theorem dX2_isRule_17 : decode cX2_isRule 17 = .ok (.ireturn, 1) := by decide +kernel
set_option maxRecDepth 20000 in
theorem ggX2_isAsTold_X2_isPlace : GoodIn wsX2_isAsTold wsX2_isPlace := goodIn_r _ [4] (by decide +kernel) (by decide +kernel)
set_option maxRecDepth 20000 in
theorem gX2_isAsTold_X2_isPlace : GoodIn wsX2_isAsTold (va_wsS RX2 67 yX2_isPlace wsX2_isPlace) := goodIn_app (goodIn_of _ (by decide +kernel)) ggX2_isAsTold_X2_isPlace
set_option maxRecDepth 20000 in
theorem ggX2_isAsTold_X2_isRow : GoodIn wsX2_isAsTold wsX2_isRow := goodIn_r _ [7] (by decide +kernel) (by decide +kernel)
set_option maxRecDepth 20000 in
theorem gX2_isAsTold_X2_isRow : GoodIn wsX2_isAsTold (va_wsS RX2 73 yX2_isRow wsX2_isRow) := goodIn_app (goodIn_of _ (by decide +kernel)) ggX2_isAsTold_X2_isRow
set_option maxRecDepth 20000 in
theorem ggX2_isAsTold_X2_isRule : GoodIn wsX2_isAsTold wsX2_isRule := goodIn_r _ [11, 12, 13, 14, 15, 16, 17, 18, 19, 20, 21, 22, 23, 24, 25, 26, 27, 28] (by decide +kernel) (by decide +kernel)
set_option maxRecDepth 20000 in
theorem gX2_isAsTold_X2_isRule : GoodIn wsX2_isAsTold (wsV RX2 111 RX2 yX2_isRule wsX2_isRule) := goodIn_app (goodIn_of _ (by decide +kernel)) ggX2_isAsTold_X2_isRule
theorem dX2_isAsTold_0 : decode cX2_isAsTold 0 = .ok (.iload_n 1, 1) := by decide +kernel
theorem dX2_isAsTold_1 : decode cX2_isAsTold 1 = .ok (.tableswitch 105 4 16 #[67, 67, 72, 72, 83, 77, 83, 83, 67, 105, 77, 105, 83], 67) := by decide +kernel
theorem dX2_isAsTold_68 : decode cX2_isAsTold 68 = .ok (.iload_n 2, 1) := by decide +kernel
theorem dX2_isAsTold_69 : decode cX2_isAsTold 69 = .ok (.invokestatic 67, 3) := by decide +kernel
theorem dX2_isAsTold_72 : decode cX2_isAsTold 72 = .ok (.ireturn, 1) := by decide +kernel
theorem dX2_isAsTold_73 : decode cX2_isAsTold 73 = .ok (.iload_n 2, 1) := by decide +kernel
theorem dX2_isAsTold_74 : decode cX2_isAsTold 74 = .ok (.invokestatic 73, 3) := by decide +kernel
theorem dX2_isAsTold_77 : decode cX2_isAsTold 77 = .ok (.ireturn, 1) := by decide +kernel
theorem dX2_isAsTold_78 : decode cX2_isAsTold 78 = .ok (.aload_n 0, 1) := by decide +kernel
theorem dX2_isAsTold_79 : decode cX2_isAsTold 79 = .ok (.iload_n 2, 1) := by decide +kernel
theorem dX2_isAsTold_80 : decode cX2_isAsTold 80 = .ok (.invokevirtual 111, 3) := by decide +kernel
theorem dX2_isAsTold_83 : decode cX2_isAsTold 83 = .ok (.ireturn, 1) := by decide +kernel
theorem dX2_isAsTold_84 : decode cX2_isAsTold 84 = .ok (.aload_n 0, 1) := by decide +kernel
theorem dX2_isAsTold_85 : decode cX2_isAsTold 85 = .ok (.iload_n 2, 1) := by decide +kernel
theorem dX2_isAsTold_86 : decode cX2_isAsTold 86 = .ok (.invokevirtual 111, 3) := by decide +kernel
theorem dX2_isAsTold_89 : decode cX2_isAsTold 89 = .ok (.ifCond .eq 15, 3) := by decide +kernel
theorem dX2_isAsTold_92 : decode cX2_isAsTold 92 = .ok (.aload_n 0, 1) := by decide +kernel
theorem dX2_isAsTold_93 : decode cX2_isAsTold 93 = .ok (.iload_n 3, 1) := by decide +kernel
theorem dX2_isAsTold_94 : decode cX2_isAsTold 94 = .ok (.invokevirtual 111, 3) := by decide +kernel
theorem dX2_isAsTold_97 : decode cX2_isAsTold 97 = .ok (.ifCond .eq 7, 3) := by decide +kernel
theorem dX2_isAsTold_100 : decode cX2_isAsTold 100 = .ok (.iconst 1, 1) := by decide +kernel
theorem dX2_isAsTold_101 : decode cX2_isAsTold 101 = .ok (.goto 4, 3) := by decide +kernel
theorem dX2_isAsTold_104 : decode cX2_isAsTold 104 = .ok (.iconst 0, 1) := by decide +kernel
theorem dX2_isAsTold_105 : decode cX2_isAsTold 105 = .ok (.ireturn, 1) := by decide +kernel
theorem dX2_isAsTold_106 : decode cX2_isAsTold 106 = .ok (.iload_n 1, 1) := by decide +kernel
theorem dX2_isAsTold_107 : decode cX2_isAsTold 107 = .ok (.ifCond .lt 13, 3) := by decide +kernel
theorem dX2_isAsTold_110 : decode cX2_isAsTold 110 = .ok (.iload_n 1, 1) := by decide +kernel
theorem dX2_isAsTold_111 : decode cX2_isAsTold 111 = .ok (.bipush 17, 2) := by decide +kernel
theorem dX2_isAsTold_113 : decode cX2_isAsTold 113 = .ok (.if_icmp .gt 7, 3) := by decide +kernel
theorem dX2_isAsTold_116 : decode cX2_isAsTold 116 = .ok (.iconst 1, 1) := by decide +kernel
theorem dX2_isAsTold_117 : decode cX2_isAsTold 117 = .ok (.goto 4, 3) := by decide +kernel
theorem dX2_isAsTold_120 : decode cX2_isAsTold 120 = .ok (.iconst 0, 1) := by decide +kernel
theorem dX2_isAsTold_121 : decode cX2_isAsTold 121 = .ok (.ireturn, 1) := by decide +kernel
theorem dX2_rowsOfNothing_0 : decode cX2_rowsOfNothing 0 = .ok (.iconst 0, 1) := by decide +kernel
theorem dX2_rowsOfNothing_1 : decode cX2_rowsOfNothing 1 = .ok (.istore_n 1, 1) := by decide +kernel
theorem dX2_rowsOfNothing_2 : decode cX2_rowsOfNothing 2 = .ok (.iconst 0, 1) := by decide +kernel
theorem dX2_rowsOfNothing_3 : decode cX2_rowsOfNothing 3 = .ok (.istore_n 2, 1) := by decide +kernel
theorem dX2_rowsOfNothing_4 : decode cX2_rowsOfNothing 4 = .ok (.iload_n 2, 1) := by decide +kernel
theorem dX2_rowsOfNothing_5 : decode cX2_rowsOfNothing 5 = .ok (.iconst 4, 1) := by decide +kernel
theorem dX2_rowsOfNothing_6 : decode cX2_rowsOfNothing 6 = .ok (.if_icmp .ge 21, 3) := by decide +kernel
theorem dX2_rowsOfNothing_9 : decode cX2_rowsOfNothing 9 = .ok (.aload_n 0, 1) := by decide +kernel
theorem dX2_rowsOfNothing_10 : decode cX2_rowsOfNothing 10 = .ok (.getfield 17, 3) := by decide +kernel
theorem dX2_rowsOfNothing_13 : decode cX2_rowsOfNothing 13 = .ok (.iload_n 2, 1) := by decide +kernel
theorem dX2_rowsOfNothing_14 : decode cX2_rowsOfNothing 14 = .ok (.aaload, 1) := by decide +kernel
theorem dX2_rowsOfNothing_15 : decode cX2_rowsOfNothing 15 = .ok (.ifnonnull 6, 3) := by decide +kernel
theorem dX2_rowsOfNothing_18 : decode cX2_rowsOfNothing 18 = .ok (.iinc 1 1, 3) := by decide +kernel
theorem dX2_rowsOfNothing_21 : decode cX2_rowsOfNothing 21 = .ok (.iinc 2 1, 3) := by decide +kernel
theorem dX2_rowsOfNothing_24 : decode cX2_rowsOfNothing 24 = .ok (.goto (-20), 3) := by decide +kernel
theorem dX2_rowsOfNothing_27 : decode cX2_rowsOfNothing 27 = .ok (.iload_n 1, 1) := by decide +kernel
theorem dX2_rowsOfNothing_28 : decode cX2_rowsOfNothing 28 = .ok (.ireturn, 1) := by decide +kernel
theorem dX2_begin_0 : decode cX2_begin 0 = .ok (.aload_n 0, 1) := by decide +kernel
theorem dX2_begin_1 : decode cX2_begin 1 = .ok (.iconst 0, 1) := by decide +kernel
theorem dX2_begin_2 : decode cX2_begin 2 = .ok (.putfield 49, 3) := by decide +kernel
theorem dX2_begin_5 : decode cX2_begin 5 = .ok (.aload_n 0, 1) := by decide +kernel
theorem dX2_begin_6 : decode cX2_begin 6 = .ok (.iconst 0, 1) := by decide +kernel
theorem dX2_begin_7 : decode cX2_begin 7 = .ok (.putfield 40, 3) := by decide +kernel
theorem dX2_begin_10 : decode cX2_begin 10 = .ok (.return_, 1) := by decide +kernel
theorem dX2_isRefused_0 : decode cX2_isRefused 0 = .ok (.aload_n 0, 1) := by decide +kernel
theorem dX2_isRefused_1 : decode cX2_isRefused 1 = .ok (.getfield 40, 3) := by decide +kernel
theorem dX2_isRefused_4 : decode cX2_isRefused 4 = .ok (.ifCond .eq 7, 3) := by decide +kernel
theorem dX2_isRefused_7 : decode cX2_isRefused 7 = .ok (.iconst 1, 1) := by decide +kernel
theorem dX2_isRefused_8 : decode cX2_isRefused 8 = .ok (.goto 4, 3) := by decide +kernel
theorem dX2_isRefused_11 : decode cX2_isRefused 11 = .ok (.iconst 0, 1) := by decide +kernel
theorem dX2_isRefused_12 : decode cX2_isRefused 12 = .ok (.ireturn, 1) := by decide +kernel
theorem dX2_refuse_0 : decode cX2_refuse 0 = .ok (.aload_n 0, 1) := by decide +kernel
theorem dX2_refuse_1 : decode cX2_refuse 1 = .ok (.iload_n 1, 1) := by decide +kernel
theorem dX2_refuse_2 : decode cX2_refuse 2 = .ok (.putfield 40, 3) := by decide +kernel
theorem dX2_refuse_5 : decode cX2_refuse 5 = .ok (.aload_n 0, 1) := by decide +kernel
theorem dX2_refuse_6 : decode cX2_refuse 6 = .ok (.iload_n 2, 1) := by decide +kernel
theorem dX2_refuse_7 : decode cX2_refuse 7 = .ok (.putfield 43, 3) := by decide +kernel
theorem dX2_refuse_10 : decode cX2_refuse 10 = .ok (.iconst 0, 1) := by decide +kernel
theorem dX2_refuse_11 : decode cX2_refuse 11 = .ok (.ireturn, 1) := by decide +kernel
set_option maxRecDepth 20000 in
theorem ggX2_fail_X2_failureAnswer : GoodIn wsX2_fail wsX2_failureAnswer := goodIn_r _ [9] (by decide +kernel) (by decide +kernel)
set_option maxRecDepth 20000 in
theorem gX2_fail_X2_failureAnswer : GoodIn wsX2_fail (va_wsS RX2 79 yX2_failureAnswer wsX2_failureAnswer) := goodIn_app (goodIn_of _ (by decide +kernel)) ggX2_fail_X2_failureAnswer
theorem dX2_fail_0 : decode cX2_fail 0 = .ok (.aload_n 0, 1) := by decide +kernel
theorem dX2_fail_1 : decode cX2_fail 1 = .ok (.aload_n 0, 1) := by decide +kernel
theorem dX2_fail_2 : decode cX2_fail 2 = .ok (.getfield 40, 3) := by decide +kernel
theorem dX2_fail_5 : decode cX2_fail 5 = .ok (.putfield 55, 3) := by decide +kernel
theorem dX2_fail_8 : decode cX2_fail 8 = .ok (.aload_n 0, 1) := by decide +kernel
theorem dX2_fail_9 : decode cX2_fail 9 = .ok (.aload_n 0, 1) := by decide +kernel
theorem dX2_fail_10 : decode cX2_fail 10 = .ok (.getfield 43, 3) := by decide +kernel
theorem dX2_fail_13 : decode cX2_fail 13 = .ok (.putfield 58, 3) := by decide +kernel
theorem dX2_fail_16 : decode cX2_fail 16 = .ok (.aload_n 0, 1) := by decide +kernel
theorem dX2_fail_17 : decode cX2_fail 17 = .ok (.dup, 1) := by decide +kernel
theorem dX2_fail_18 : decode cX2_fail 18 = .ok (.getfield 61, 3) := by decide +kernel
theorem dX2_fail_21 : decode cX2_fail 21 = .ok (.iconst 1, 1) := by decide +kernel
theorem dX2_fail_22 : decode cX2_fail 22 = .ok (.iadd, 1) := by decide +kernel
theorem dX2_fail_23 : decode cX2_fail 23 = .ok (.putfield 61, 3) := by decide +kernel
theorem dX2_fail_26 : decode cX2_fail 26 = .ok (.aload_n 0, 1) := by decide +kernel
theorem dX2_fail_27 : decode cX2_fail 27 = .ok (.getfield 40, 3) := by decide +kernel
theorem dX2_fail_30 : decode cX2_fail 30 = .ok (.invokestatic 79, 3) := by decide +kernel
theorem dX2_fail_33 : decode cX2_fail 33 = .ok (.ireturn, 1) := by decide +kernel
theorem dX2_failureAnswer_0 : decode cX2_failureAnswer 0 = .ok (.bipush (-10), 2) := by decide +kernel
theorem dX2_failureAnswer_2 : decode cX2_failureAnswer 2 = .ok (.iload_n 0, 1) := by decide +kernel
theorem dX2_failureAnswer_3 : decode cX2_failureAnswer 3 = .ok (.isub, 1) := by decide +kernel
theorem dX2_failureAnswer_4 : decode cX2_failureAnswer 4 = .ok (.ireturn, 1) := by decide +kernel
set_option maxRecDepth 20000 in
theorem ggX2_give_X2_refuse : GoodIn wsX2_give wsX2_refuse := goodIn_r _ [15, 16, 17, 54, 55, 56, 57, 58, 59, 60, 61, 62, 63, 64, 65, 66, 67, 68, 69] (by decide +kernel) (by decide +kernel)
set_option maxRecDepth 20000 in
theorem gX2_give_X2_refuse : GoodIn wsX2_give (wsV RX2 135 RX2 yX2_refuse wsX2_refuse) := goodIn_app (goodIn_of _ (by decide +kernel)) ggX2_give_X2_refuse
set_option maxRecDepth 20000 in
theorem ggX2_give_X2_giveItem : GoodIn wsX2_give wsX2_giveItem := goodIn_r _ [21, 22, 11, 12, 13, 14, 15, 16, 17, 23, 24, 25, 26, 27, 28, 76, 54, 55, 56, 57, 58, 59, 60, 61, 62, 63, 64, 65, 66, 67, 68, 69] (by decide +kernel) (by decide +kernel)
set_option maxRecDepth 20000 in
theorem gX2_give_X2_giveItem : GoodIn wsX2_give (wsV RX2 151 RX2 yX2_giveItem wsX2_giveItem) := goodIn_app (goodIn_of _ (by decide +kernel)) ggX2_give_X2_giveItem
set_option maxRecDepth 20000 in
theorem ggX2_give_X2_giveRoom : GoodIn wsX2_give wsX2_giveRoom := goodIn_r _ [32, 11, 12, 13, 14, 15, 16, 17, 54, 55, 56, 57, 58, 59, 60, 61, 62, 63, 64, 65, 66, 67, 68, 69] (by decide +kernel) (by decide +kernel)
set_option maxRecDepth 20000 in
theorem gX2_give_X2_giveRoom : GoodIn wsX2_give (wsV RX2 158 RX2 yX2_giveRoom wsX2_giveRoom) := goodIn_app (goodIn_of _ (by decide +kernel)) ggX2_give_X2_giveRoom
set_option maxRecDepth 20000 in
theorem ggX2_give_X2_giveByOthers : GoodIn wsX2_give wsX2_giveByOthers := goodIn_r _ [36, 5, 4, 16, 37, 38, 39, 40, 41, 42, 43, 44, 14, 45, 46, 47, 48, 49, 50, 51, 0, 1, 2, 3, 6, 7, 8, 9, 10, 11, 12, 13, 15, 17, 18, 19, 20, 21, 22, 23, 24, 25, 26, 27, 28, 29, 30, 31, 32, 33, 34, 35, 52, 53, 54, 55, 56, 57, 58, 59, 60, 61, 62, 63, 64, 65, 66, 67, 68, 69, 70, 71, 72, 73, 74, 75, 76] (by decide +kernel) (by decide +kernel)
set_option maxRecDepth 20000 in
theorem gX2_give_X2_giveByOthers : GoodIn wsX2_give (wsV RX2 161 RX2 yX2_giveByOthers wsX2_giveByOthers) := goodIn_app (goodIn_of _ (by decide +kernel)) ggX2_give_X2_giveByOthers
theorem dX2_give_0 : decode cX2_give 0 = .ok (.aload_n 0, 1) := by decide +kernel
theorem dX2_give_1 : decode cX2_give 1 = .ok (.getfield 49, 3) := by decide +kernel
theorem dX2_give_4 : decode cX2_give 4 = .ok (.bipush 64, 2) := by decide +kernel
theorem dX2_give_6 : decode cX2_give 6 = .ok (.if_icmp .lt 10, 3) := by decide +kernel
theorem dX2_give_9 : decode cX2_give 9 = .ok (.aload_n 0, 1) := by decide +kernel
theorem dX2_give_10 : decode cX2_give 10 = .ok (.iconst 5, 1) := by decide +kernel
theorem dX2_give_11 : decode cX2_give 11 = .ok (.iload_n 1, 1) := by decide +kernel
theorem dX2_give_12 : decode cX2_give 12 = .ok (.invokevirtual 135, 3) := by decide +kernel
theorem dX2_give_15 : decode cX2_give 15 = .ok (.ireturn, 1) := by decide +kernel
theorem dX2_give_16 : decode cX2_give 16 = .ok (.aload_n 0, 1) := by decide +kernel
theorem dX2_give_17 : decode cX2_give 17 = .ok (.dup, 1) := by decide +kernel
theorem dX2_give_18 : decode cX2_give 18 = .ok (.getfield 49, 3) := by decide +kernel
theorem dX2_give_21 : decode cX2_give 21 = .ok (.iconst 1, 1) := by decide +kernel
theorem dX2_give_22 : decode cX2_give 22 = .ok (.iadd, 1) := by decide +kernel
theorem dX2_give_23 : decode cX2_give 23 = .ok (.putfield 49, 3) := by decide +kernel
theorem dX2_give_26 : decode cX2_give 26 = .ok (.aload_n 0, 1) := by decide +kernel
theorem dX2_give_27 : decode cX2_give 27 = .ok (.dup, 1) := by decide +kernel
theorem dX2_give_28 : decode cX2_give 28 = .ok (.getfield 52, 3) := by decide +kernel
theorem dX2_give_31 : decode cX2_give 31 = .ok (.iconst 1, 1) := by decide +kernel
theorem dX2_give_32 : decode cX2_give 32 = .ok (.iadd, 1) := by decide +kernel
theorem dX2_give_33 : decode cX2_give 33 = .ok (.putfield 52, 3) := by decide +kernel
theorem dX2_give_36 : decode cX2_give 36 = .ok (.aload_n 0, 1) := by decide +kernel
theorem dX2_give_37 : decode cX2_give 37 = .ok (.getfield 23, 3) := by decide +kernel
theorem dX2_give_40 : decode cX2_give 40 = .ok (.iload_n 1, 1) := by decide +kernel
theorem dX2_give_41 : decode cX2_give 41 = .ok (.aaload, 1) := by decide +kernel
theorem dX2_give_42 : decode cX2_give 42 = .ok (.astore_n 3, 1) := by decide +kernel
theorem dX2_give_43 : decode cX2_give 43 = .ok (.aload_n 3, 1) := by decide +kernel
theorem dX2_give_44 : decode cX2_give 44 = .ok (.getfield 138, 3) := by decide +kernel
theorem dX2_give_47 : decode cX2_give 47 = .ok (.tableswitch 257 0 17 #[85, 92, 99, 122, 145, 152, 164, 175, 257, 257, 257, 257, 191, 216, 238, 243, 257, 250], 85) := by decide +kernel
theorem dX2_give_132 : decode cX2_give 132 = .ok (.iload_n 2, 1) := by decide +kernel
theorem dX2_give_133 : decode cX2_give 133 = .ok (.aload_n 3, 1) := by decide +kernel
theorem dX2_give_134 : decode cX2_give 134 = .ok (.getfield 141, 3) := by decide +kernel
theorem dX2_give_137 : decode cX2_give 137 = .ok (.iadd, 1) := by decide +kernel
theorem dX2_give_138 : decode cX2_give 138 = .ok (.ireturn, 1) := by decide +kernel
theorem dX2_give_139 : decode cX2_give 139 = .ok (.iload_n 2, 1) := by decide +kernel
theorem dX2_give_140 : decode cX2_give 140 = .ok (.aload_n 3, 1) := by decide +kernel
theorem dX2_give_141 : decode cX2_give 141 = .ok (.getfield 141, 3) := by decide +kernel
theorem dX2_give_144 : decode cX2_give 144 = .ok (.imul, 1) := by decide +kernel
theorem dX2_give_145 : decode cX2_give 145 = .ok (.ireturn, 1) := by decide +kernel
theorem dX2_give_146 : decode cX2_give 146 = .ok (.aload_n 3, 1) := by decide +kernel
theorem dX2_give_147 : decode cX2_give 147 = .ok (.getfield 141, 3) := by decide +kernel
theorem dX2_give_150 : decode cX2_give 150 = .ok (.ifCond .ne 12, 3) := by decide +kernel
theorem dX2_give_153 : decode cX2_give 153 = .ok (.aload_n 0, 1) := by decide +kernel
theorem dX2_give_154 : decode cX2_give 154 = .ok (.iconst 1, 1) := by decide +kernel
theorem dX2_give_155 : decode cX2_give 155 = .ok (.iload_n 1, 1) := by decide +kernel
theorem dX2_give_156 : decode cX2_give 156 = .ok (.invokevirtual 135, 3) := by decide +kernel
theorem dX2_give_159 : decode cX2_give 159 = .ok (.goto 9, 3) := by decide +kernel
theorem dX2_give_162 : decode cX2_give 162 = .ok (.iload_n 2, 1) := by decide +kernel
theorem dX2_give_163 : decode cX2_give 163 = .ok (.aload_n 3, 1) := by decide +kernel
theorem dX2_give_164 : decode cX2_give 164 = .ok (.getfield 141, 3) := by decide +kernel
theorem dX2_give_167 : decode cX2_give 167 = .ok (.idiv, 1) := by decide +kernel
theorem dX2_give_168 : decode cX2_give 168 = .ok (.ireturn, 1) := by decide +kernel
theorem dX2_give_169 : decode cX2_give 169 = .ok (.aload_n 3, 1) := by decide +kernel
theorem dX2_give_170 : decode cX2_give 170 = .ok (.getfield 141, 3) := by decide +kernel
theorem dX2_give_173 : decode cX2_give 173 = .ok (.ifCond .ne 12, 3) := by decide +kernel
theorem dX2_give_176 : decode cX2_give 176 = .ok (.aload_n 0, 1) := by decide +kernel
theorem dX2_give_177 : decode cX2_give 177 = .ok (.iconst 1, 1) := by decide +kernel
theorem dX2_give_178 : decode cX2_give 178 = .ok (.iload_n 1, 1) := by decide +kernel
theorem dX2_give_179 : decode cX2_give 179 = .ok (.invokevirtual 135, 3) := by decide +kernel
theorem dX2_give_182 : decode cX2_give 182 = .ok (.goto 9, 3) := by decide +kernel
theorem dX2_give_185 : decode cX2_give 185 = .ok (.iload_n 2, 1) := by decide +kernel
theorem dX2_give_186 : decode cX2_give 186 = .ok (.aload_n 3, 1) := by decide +kernel
theorem dX2_give_187 : decode cX2_give 187 = .ok (.getfield 141, 3) := by decide +kernel
theorem dX2_give_190 : decode cX2_give 190 = .ok (.irem, 1) := by decide +kernel
theorem dX2_give_191 : decode cX2_give 191 = .ok (.ireturn, 1) := by decide +kernel
theorem dX2_give_192 : decode cX2_give 192 = .ok (.iload_n 2, 1) := by decide +kernel
theorem dX2_give_193 : decode cX2_give 193 = .ok (.aload_n 3, 1) := by decide +kernel
theorem dX2_give_194 : decode cX2_give 194 = .ok (.getfield 144, 3) := by decide +kernel
theorem dX2_give_197 : decode cX2_give 197 = .ok (.iadd, 1) := by decide +kernel
theorem dX2_give_198 : decode cX2_give 198 = .ok (.ireturn, 1) := by decide +kernel
theorem dX2_give_199 : decode cX2_give 199 = .ok (.iload_n 2, 1) := by decide +kernel
theorem dX2_give_200 : decode cX2_give 200 = .ok (.aload_n 0, 1) := by decide +kernel
theorem dX2_give_201 : decode cX2_give 201 = .ok (.getfield 11, 3) := by decide +kernel
theorem dX2_give_204 : decode cX2_give 204 = .ok (.aload_n 3, 1) := by decide +kernel
theorem dX2_give_205 : decode cX2_give 205 = .ok (.getfield 141, 3) := by decide +kernel
theorem dX2_give_208 : decode cX2_give 208 = .ok (.iaload, 1) := by decide +kernel
theorem dX2_give_209 : decode cX2_give 209 = .ok (.iadd, 1) := by decide +kernel
theorem dX2_give_210 : decode cX2_give 210 = .ok (.ireturn, 1) := by decide +kernel
theorem dX2_give_211 : decode cX2_give 211 = .ok (.aload_n 0, 1) := by decide +kernel
theorem dX2_give_212 : decode cX2_give 212 = .ok (.aload_n 3, 1) := by decide +kernel
theorem dX2_give_213 : decode cX2_give 213 = .ok (.getfield 147, 3) := by decide +kernel
theorem dX2_give_216 : decode cX2_give 216 = .ok (.iload_n 2, 1) := by decide +kernel
theorem dX2_give_217 : decode cX2_give 217 = .ok (.iload_n 1, 1) := by decide +kernel
theorem dX2_give_218 : decode cX2_give 218 = .ok (.invokevirtual 151, 3) := by decide +kernel
theorem dX2_give_221 : decode cX2_give 221 = .ok (.ireturn, 1) := by decide +kernel
theorem dX2_give_222 : decode cX2_give 222 = .ok (.aload_n 0, 1) := by decide +kernel
theorem dX2_give_223 : decode cX2_give 223 = .ok (.aload_n 0, 1) := by decide +kernel
theorem dX2_give_224 : decode cX2_give 224 = .ok (.getfield 17, 3) := by decide +kernel
theorem dX2_give_227 : decode cX2_give 227 = .ok (.aload_n 3, 1) := by decide +kernel
theorem dX2_give_228 : decode cX2_give 228 = .ok (.getfield 141, 3) := by decide +kernel
theorem dX2_give_231 : decode cX2_give 231 = .ok (.aaload, 1) := by decide +kernel
theorem dX2_give_232 : decode cX2_give 232 = .ok (.iload_n 2, 1) := by decide +kernel
theorem dX2_give_233 : decode cX2_give 233 = .ok (.iload_n 1, 1) := by decide +kernel
theorem dX2_give_234 : decode cX2_give 234 = .ok (.invokevirtual 151, 3) := by decide +kernel
theorem dX2_give_237 : decode cX2_give 237 = .ok (.ireturn, 1) := by decide +kernel
theorem dX2_give_238 : decode cX2_give 238 = .ok (.aload_n 0, 1) := by decide +kernel
theorem dX2_give_239 : decode cX2_give 239 = .ok (.getfield 11, 3) := by decide +kernel
theorem dX2_give_242 : decode cX2_give 242 = .ok (.aload_n 3, 1) := by decide +kernel
theorem dX2_give_243 : decode cX2_give 243 = .ok (.getfield 141, 3) := by decide +kernel
theorem dX2_give_246 : decode cX2_give 246 = .ok (.dup2, 1) := by decide +kernel
theorem dX2_give_247 : decode cX2_give 247 = .ok (.iaload, 1) := by decide +kernel
theorem dX2_give_248 : decode cX2_give 248 = .ok (.iconst 1, 1) := by decide +kernel
theorem dX2_give_249 : decode cX2_give 249 = .ok (.iadd, 1) := by decide +kernel
theorem dX2_give_250 : decode cX2_give 250 = .ok (.iastore, 1) := by decide +kernel
theorem dX2_give_251 : decode cX2_give 251 = .ok (.iload_n 2, 1) := by decide +kernel
theorem dX2_give_252 : decode cX2_give 252 = .ok (.aload_n 0, 1) := by decide +kernel
theorem dX2_give_253 : decode cX2_give 253 = .ok (.getfield 11, 3) := by decide +kernel
theorem dX2_give_256 : decode cX2_give 256 = .ok (.aload_n 3, 1) := by decide +kernel
theorem dX2_give_257 : decode cX2_give 257 = .ok (.getfield 141, 3) := by decide +kernel
theorem dX2_give_260 : decode cX2_give 260 = .ok (.iaload, 1) := by decide +kernel
theorem dX2_give_261 : decode cX2_give 261 = .ok (.iadd, 1) := by decide +kernel
theorem dX2_give_262 : decode cX2_give 262 = .ok (.ireturn, 1) := by decide +kernel
theorem dX2_give_263 : decode cX2_give 263 = .ok (.aload_n 3, 1) := by decide +kernel
theorem dX2_give_264 : decode cX2_give 264 = .ok (.dup, 1) := by decide +kernel
theorem dX2_give_265 : decode cX2_give 265 = .ok (.getfield 155, 3) := by decide +kernel
theorem dX2_give_268 : decode cX2_give 268 = .ok (.iconst 1, 1) := by decide +kernel
theorem dX2_give_269 : decode cX2_give 269 = .ok (.iadd, 1) := by decide +kernel
theorem dX2_give_270 : decode cX2_give 270 = .ok (.putfield 155, 3) := by decide +kernel
theorem dX2_give_273 : decode cX2_give 273 = .ok (.iload_n 2, 1) := by decide +kernel
theorem dX2_give_274 : decode cX2_give 274 = .ok (.aload_n 3, 1) := by decide +kernel
theorem dX2_give_275 : decode cX2_give 275 = .ok (.getfield 141, 3) := by decide +kernel
theorem dX2_give_278 : decode cX2_give 278 = .ok (.aload_n 3, 1) := by decide +kernel
theorem dX2_give_279 : decode cX2_give 279 = .ok (.getfield 155, 3) := by decide +kernel
theorem dX2_give_282 : decode cX2_give 282 = .ok (.imul, 1) := by decide +kernel
theorem dX2_give_283 : decode cX2_give 283 = .ok (.iadd, 1) := by decide +kernel
theorem dX2_give_284 : decode cX2_give 284 = .ok (.ireturn, 1) := by decide +kernel
theorem dX2_give_285 : decode cX2_give 285 = .ok (.aload_n 3, 1) := by decide +kernel
theorem dX2_give_286 : decode cX2_give 286 = .ok (.getfield 144, 3) := by decide +kernel
theorem dX2_give_289 : decode cX2_give 289 = .ok (.ireturn, 1) := by decide +kernel
theorem dX2_give_290 : decode cX2_give 290 = .ok (.aload_n 0, 1) := by decide +kernel
theorem dX2_give_291 : decode cX2_give 291 = .ok (.iload_n 2, 1) := by decide +kernel
theorem dX2_give_292 : decode cX2_give 292 = .ok (.iload_n 1, 1) := by decide +kernel
theorem dX2_give_293 : decode cX2_give 293 = .ok (.invokevirtual 158, 3) := by decide +kernel
theorem dX2_give_296 : decode cX2_give 296 = .ok (.ireturn, 1) := by decide +kernel
theorem dX2_give_297 : decode cX2_give 297 = .ok (.aload_n 0, 1) := by decide +kernel
theorem dX2_give_298 : decode cX2_give 298 = .ok (.iconst 3, 1) := by decide +kernel
theorem dX2_give_299 : decode cX2_give 299 = .ok (.iload_n 1, 1) := by decide +kernel
theorem dX2_give_300 : decode cX2_give 300 = .ok (.invokevirtual 135, 3) := by decide +kernel
theorem dX2_give_303 : decode cX2_give 303 = .ok (.ireturn, 1) := by decide +kernel
theorem dX2_give_304 : decode cX2_give 304 = .ok (.aload_n 0, 1) := by decide +kernel
theorem dX2_give_305 : decode cX2_give 305 = .ok (.aload_n 3, 1) := by decide +kernel
theorem dX2_give_306 : decode cX2_give 306 = .ok (.iload_n 2, 1) := by decide +kernel
theorem dX2_give_307 : decode cX2_give 307 = .ok (.invokevirtual 161, 3) := by decide +kernel
theorem dX2_give_310 : decode cX2_give 310 = .ok (.ireturn, 1) := by decide +kernel
set_option maxRecDepth 20000 in
theorem ggX2_giveItem_X2_refuse : GoodIn wsX2_giveItem wsX2_refuse := goodIn_r _ [6, 7, 8, 16, 17, 18, 19, 20, 21, 22, 23, 24, 25, 26, 27, 28, 29, 30, 31] (by decide +kernel) (by decide +kernel)
set_option maxRecDepth 20000 in
theorem gX2_giveItem_X2_refuse : GoodIn wsX2_giveItem (wsV RX2 135 RX2 yX2_refuse wsX2_refuse) := goodIn_app (goodIn_of _ (by decide +kernel)) ggX2_giveItem_X2_refuse
set_option maxRecDepth 20000 in
theorem ggX2_giveItem_X0_reaches : GoodIn wsX2_giveItem wsX0_reaches := goodIn_r _ [13, 14, 15] (by decide +kernel) (by decide +kernel)
set_option maxRecDepth 20000 in
theorem gX2_giveItem_X0_reaches : GoodIn wsX2_giveItem (wsV RX2 83 RX0 yX0_reaches wsX0_reaches) := goodIn_app (goodIn_of _ (by decide +kernel)) ggX2_giveItem_X0_reaches
theorem dX2_giveItem_0 : decode cX2_giveItem 0 = .ok (.aload_n 1, 1) := by decide +kernel
theorem dX2_giveItem_1 : decode cX2_giveItem 1 = .ok (.ifnonnull 10, 3) := by decide +kernel
theorem dX2_giveItem_4 : decode cX2_giveItem 4 = .ok (.aload_n 0, 1) := by decide +kernel
theorem dX2_giveItem_5 : decode cX2_giveItem 5 = .ok (.iconst 3, 1) := by decide +kernel
theorem dX2_giveItem_6 : decode cX2_giveItem 6 = .ok (.iload_n 3, 1) := by decide +kernel
theorem dX2_giveItem_7 : decode cX2_giveItem 7 = .ok (.invokevirtual 135, 3) := by decide +kernel
theorem dX2_giveItem_10 : decode cX2_giveItem 10 = .ok (.ireturn, 1) := by decide +kernel
theorem dX2_giveItem_11 : decode cX2_giveItem 11 = .ok (.aload_n 1, 1) := by decide +kernel
theorem dX2_giveItem_12 : decode cX2_giveItem 12 = .ok (.iload_n 2, 1) := by decide +kernel
theorem dX2_giveItem_13 : decode cX2_giveItem 13 = .ok (.invokevirtual 83, 3) := by decide +kernel
theorem dX2_giveItem_16 : decode cX2_giveItem 16 = .ok (.ifCond .eq 12, 3) := by decide +kernel
theorem dX2_giveItem_19 : decode cX2_giveItem 19 = .ok (.aload_n 1, 1) := by decide +kernel
theorem dX2_giveItem_20 : decode cX2_giveItem 20 = .ok (.getfield 86, 3) := by decide +kernel
theorem dX2_giveItem_23 : decode cX2_giveItem 23 = .ok (.iload_n 2, 1) := by decide +kernel
theorem dX2_giveItem_24 : decode cX2_giveItem 24 = .ok (.iaload, 1) := by decide +kernel
theorem dX2_giveItem_25 : decode cX2_giveItem 25 = .ok (.goto 9, 3) := by decide +kernel
theorem dX2_giveItem_28 : decode cX2_giveItem 28 = .ok (.aload_n 0, 1) := by decide +kernel
theorem dX2_giveItem_29 : decode cX2_giveItem 29 = .ok (.iconst 2, 1) := by decide +kernel
theorem dX2_giveItem_30 : decode cX2_giveItem 30 = .ok (.iload_n 3, 1) := by decide +kernel
theorem dX2_giveItem_31 : decode cX2_giveItem 31 = .ok (.invokevirtual 135, 3) := by decide +kernel
theorem dX2_giveItem_34 : decode cX2_giveItem 34 = .ok (.ireturn, 1) := by decide +kernel
set_option maxRecDepth 20000 in
theorem ggX2_giveRoom_X2_refuse : GoodIn wsX2_giveRoom wsX2_refuse := goodIn_r _ [5, 6, 7, 8, 9, 10, 11, 12, 13, 14, 15, 16, 17, 18, 19, 20, 21, 22, 23] (by decide +kernel) (by decide +kernel)
set_option maxRecDepth 20000 in
theorem gX2_giveRoom_X2_refuse : GoodIn wsX2_giveRoom (wsV RX2 135 RX2 yX2_refuse wsX2_refuse) := goodIn_app (goodIn_of _ (by decide +kernel)) ggX2_giveRoom_X2_refuse
theorem dX2_giveRoom_0 : decode cX2_giveRoom 0 = .ok (.iload_n 1, 1) := by decide +kernel
theorem dX2_giveRoom_1 : decode cX2_giveRoom 1 = .ok (.bipush 50, 2) := by decide +kernel
theorem dX2_giveRoom_3 : decode cX2_giveRoom 3 = .ok (.irem, 1) := by decide +kernel
theorem dX2_giveRoom_4 : decode cX2_giveRoom 4 = .ok (.istore_n 3, 1) := by decide +kernel
theorem dX2_giveRoom_5 : decode cX2_giveRoom 5 = .ok (.iload_n 3, 1) := by decide +kernel
theorem dX2_giveRoom_6 : decode cX2_giveRoom 6 = .ok (.ifCond .ge 12, 3) := by decide +kernel
theorem dX2_giveRoom_9 : decode cX2_giveRoom 9 = .ok (.aload_n 0, 1) := by decide +kernel
theorem dX2_giveRoom_10 : decode cX2_giveRoom 10 = .ok (.iconst 4, 1) := by decide +kernel
theorem dX2_giveRoom_11 : decode cX2_giveRoom 11 = .ok (.iload_n 2, 1) := by decide +kernel
theorem dX2_giveRoom_12 : decode cX2_giveRoom 12 = .ok (.invokevirtual 135, 3) := by decide +kernel
theorem dX2_giveRoom_15 : decode cX2_giveRoom 15 = .ok (.goto 4, 3) := by decide +kernel
theorem dX2_giveRoom_18 : decode cX2_giveRoom 18 = .ok (.iload_n 3, 1) := by decide +kernel
theorem dX2_giveRoom_19 : decode cX2_giveRoom 19 = .ok (.ireturn, 1) := by decide +kernel
set_option maxRecDepth 20000 in
theorem ggX2_giveByOthers_X2_give : GoodIn wsX2_giveByOthers wsX2_give := goodIn_r _ [20, 21, 22, 23, 2, 1, 24, 25, 26, 27, 28, 29, 30, 31, 12, 32, 3, 33, 34, 35, 36, 37, 38, 39, 40, 41, 42, 43, 44, 45, 46, 47, 48, 49, 50, 51, 0, 4, 5, 6, 7, 8, 9, 10, 11, 13, 14, 15, 16, 17, 18, 19, 52, 53, 54, 55, 56, 57, 58, 59, 60, 61, 62, 63, 64, 65, 66, 67, 68, 69, 70, 71, 72, 73, 74, 75, 76] (by decide +kernel) (by decide +kernel)
set_option maxRecDepth 20000 in
theorem gX2_giveByOthers_X2_give : GoodIn wsX2_giveByOthers (wsV RX2 96 RX2 yX2_give wsX2_give) := goodIn_app (goodIn_of _ (by decide +kernel)) ggX2_giveByOthers_X2_give
set_option maxRecDepth 20000 in
theorem ggX2_giveByOthers_X2_isRefused : GoodIn wsX2_giveByOthers wsX2_isRefused := goodIn_r _ [16, 3, 54, 55, 56, 57, 58, 59, 60, 61, 62, 63, 64, 65, 66, 67, 68, 69] (by decide +kernel) (by decide +kernel)
set_option maxRecDepth 20000 in
theorem gX2_giveByOthers_X2_isRefused : GoodIn wsX2_giveByOthers (wsV RX2 100 RX2 yX2_isRefused wsX2_isRefused) := goodIn_app (goodIn_of _ (by decide +kernel)) ggX2_giveByOthers_X2_isRefused
set_option maxRecDepth 20000 in
theorem ggX2_giveByOthers_X2_giveOtherWay : GoodIn wsX2_giveByOthers wsX2_giveOtherWay := goodIn_r _ [52, 3, 53, 9, 10, 11, 12, 20, 21, 22, 23, 2, 1, 24, 25, 26, 27, 28, 29, 30, 31, 32, 33, 34, 35, 36, 37, 38, 39, 40, 41, 42, 43, 44, 45, 46, 47, 48, 49, 50, 51, 0, 4, 5, 6, 7, 8, 13, 14, 15, 16, 17, 18, 19, 54, 55, 56, 57, 58, 59, 60, 61, 62, 63, 64, 65, 66, 67, 68, 69, 70, 71, 72, 73, 74, 75, 76] (by decide +kernel) (by decide +kernel)
set_option maxRecDepth 20000 in
theorem gX2_giveByOthers_X2_giveOtherWay : GoodIn wsX2_giveByOthers (wsV RX2 168 RX2 yX2_giveOtherWay wsX2_giveOtherWay) := goodIn_app (goodIn_of _ (by decide +kernel)) ggX2_giveByOthers_X2_giveOtherWay
theorem dX2_giveByOthers_0 : decode cX2_giveByOthers 0 = .ok (.aload_n 0, 1) := by decide +kernel
theorem dX2_giveByOthers_1 : decode cX2_giveByOthers 1 = .ok (.aload_n 1, 1) := by decide +kernel
theorem dX2_giveByOthers_2 : decode cX2_giveByOthers 2 = .ok (.getfield 141, 3) := by decide +kernel
theorem dX2_giveByOthers_5 : decode cX2_giveByOthers 5 = .ok (.iload_n 2, 1) := by decide +kernel
theorem dX2_giveByOthers_6 : decode cX2_giveByOthers 6 = .ok (.invokevirtual 96, 3) := by decide +kernel
theorem dX2_giveByOthers_9 : decode cX2_giveByOthers 9 = .ok (.istore_n 3, 1) := by decide +kernel
theorem dX2_giveByOthers_10 : decode cX2_giveByOthers 10 = .ok (.aload_n 0, 1) := by decide +kernel
theorem dX2_giveByOthers_11 : decode cX2_giveByOthers 11 = .ok (.invokevirtual 100, 3) := by decide +kernel
theorem dX2_giveByOthers_14 : decode cX2_giveByOthers 14 = .ok (.ifCond .eq 34, 3) := by decide +kernel
theorem dX2_giveByOthers_17 : decode cX2_giveByOthers 17 = .ok (.aload_n 1, 1) := by decide +kernel
theorem dX2_giveByOthers_18 : decode cX2_giveByOthers 18 = .ok (.getfield 138, 3) := by decide +kernel
theorem dX2_giveByOthers_21 : decode cX2_giveByOthers 21 = .ok (.bipush 11, 2) := by decide +kernel
theorem dX2_giveByOthers_23 : decode cX2_giveByOthers 23 = .ok (.if_icmp .ne 23, 3) := by decide +kernel
theorem dX2_giveByOthers_26 : decode cX2_giveByOthers 26 = .ok (.aload_n 0, 1) := by decide +kernel
theorem dX2_giveByOthers_27 : decode cX2_giveByOthers 27 = .ok (.getfield 40, 3) := by decide +kernel
theorem dX2_giveByOthers_30 : decode cX2_giveByOthers 30 = .ok (.iconst 5, 1) := by decide +kernel
theorem dX2_giveByOthers_31 : decode cX2_giveByOthers 31 = .ok (.if_icmp .eq 15, 3) := by decide +kernel
theorem dX2_giveByOthers_34 : decode cX2_giveByOthers 34 = .ok (.aload_n 0, 1) := by decide +kernel
theorem dX2_giveByOthers_35 : decode cX2_giveByOthers 35 = .ok (.aload_n 1, 1) := by decide +kernel
theorem dX2_giveByOthers_36 : decode cX2_giveByOthers 36 = .ok (.getfield 165, 3) := by decide +kernel
theorem dX2_giveByOthers_39 : decode cX2_giveByOthers 39 = .ok (.iload_n 2, 1) := by decide +kernel
theorem dX2_giveByOthers_40 : decode cX2_giveByOthers 40 = .ok (.invokevirtual 168, 3) := by decide +kernel
theorem dX2_giveByOthers_43 : decode cX2_giveByOthers 43 = .ok (.goto 4, 3) := by decide +kernel
theorem dX2_giveByOthers_46 : decode cX2_giveByOthers 46 = .ok (.iconst 0, 1) := by decide +kernel
theorem dX2_giveByOthers_47 : decode cX2_giveByOthers 47 = .ok (.ireturn, 1) := by decide +kernel
theorem dX2_giveByOthers_48 : decode cX2_giveByOthers 48 = .ok (.aload_n 1, 1) := by decide +kernel
theorem dX2_giveByOthers_49 : decode cX2_giveByOthers 49 = .ok (.getfield 138, 3) := by decide +kernel
theorem dX2_giveByOthers_52 : decode cX2_giveByOthers 52 = .ok (.tableswitch 104 8 16 #[52, 62, 72, 104, 104, 104, 104, 104, 90], 52) := by decide +kernel
theorem dX2_giveByOthers_104 : decode cX2_giveByOthers 104 = .ok (.aload_n 0, 1) := by decide +kernel
theorem dX2_giveByOthers_105 : decode cX2_giveByOthers 105 = .ok (.aload_n 1, 1) := by decide +kernel
theorem dX2_giveByOthers_106 : decode cX2_giveByOthers 106 = .ok (.getfield 165, 3) := by decide +kernel
theorem dX2_giveByOthers_109 : decode cX2_giveByOthers 109 = .ok (.iload_n 3, 1) := by decide +kernel
theorem dX2_giveByOthers_110 : decode cX2_giveByOthers 110 = .ok (.invokevirtual 96, 3) := by decide +kernel
theorem dX2_giveByOthers_113 : decode cX2_giveByOthers 113 = .ok (.ireturn, 1) := by decide +kernel
theorem dX2_giveByOthers_114 : decode cX2_giveByOthers 114 = .ok (.aload_n 0, 1) := by decide +kernel
theorem dX2_giveByOthers_115 : decode cX2_giveByOthers 115 = .ok (.aload_n 1, 1) := by decide +kernel
theorem dX2_giveByOthers_116 : decode cX2_giveByOthers 116 = .ok (.getfield 141, 3) := by decide +kernel
theorem dX2_giveByOthers_119 : decode cX2_giveByOthers 119 = .ok (.iload_n 3, 1) := by decide +kernel
theorem dX2_giveByOthers_120 : decode cX2_giveByOthers 120 = .ok (.invokevirtual 96, 3) := by decide +kernel
theorem dX2_giveByOthers_123 : decode cX2_giveByOthers 123 = .ok (.ireturn, 1) := by decide +kernel
theorem dX2_giveByOthers_124 : decode cX2_giveByOthers 124 = .ok (.iload_n 3, 1) := by decide +kernel
theorem dX2_giveByOthers_125 : decode cX2_giveByOthers 125 = .ok (.ifCond .eq 15, 3) := by decide +kernel
theorem dX2_giveByOthers_128 : decode cX2_giveByOthers 128 = .ok (.aload_n 0, 1) := by decide +kernel
theorem dX2_giveByOthers_129 : decode cX2_giveByOthers 129 = .ok (.aload_n 1, 1) := by decide +kernel
theorem dX2_giveByOthers_130 : decode cX2_giveByOthers 130 = .ok (.getfield 165, 3) := by decide +kernel
theorem dX2_giveByOthers_133 : decode cX2_giveByOthers 133 = .ok (.iload_n 2, 1) := by decide +kernel
theorem dX2_giveByOthers_134 : decode cX2_giveByOthers 134 = .ok (.invokevirtual 96, 3) := by decide +kernel
theorem dX2_giveByOthers_137 : decode cX2_giveByOthers 137 = .ok (.goto 4, 3) := by decide +kernel
theorem dX2_giveByOthers_140 : decode cX2_giveByOthers 140 = .ok (.iload_n 2, 1) := by decide +kernel
theorem dX2_giveByOthers_141 : decode cX2_giveByOthers 141 = .ok (.ireturn, 1) := by decide +kernel
theorem dX2_giveByOthers_142 : decode cX2_giveByOthers 142 = .ok (.iload_n 3, 1) := by decide +kernel
theorem dX2_giveByOthers_143 : decode cX2_giveByOthers 143 = .ok (.aload_n 0, 1) := by decide +kernel
theorem dX2_giveByOthers_144 : decode cX2_giveByOthers 144 = .ok (.aload_n 1, 1) := by decide +kernel
theorem dX2_giveByOthers_145 : decode cX2_giveByOthers 145 = .ok (.getfield 165, 3) := by decide +kernel
theorem dX2_giveByOthers_148 : decode cX2_giveByOthers 148 = .ok (.iload_n 2, 1) := by decide +kernel
theorem dX2_giveByOthers_149 : decode cX2_giveByOthers 149 = .ok (.invokevirtual 96, 3) := by decide +kernel
theorem dX2_giveByOthers_152 : decode cX2_giveByOthers 152 = .ok (.invokestatic 171, 3) := by decide +kernel
theorem dX2_giveByOthers_155 : decode cX2_giveByOthers 155 = .ok (.ireturn, 1) := by decide +kernel
theorem dX2_giveByOthers_156 : decode cX2_giveByOthers 156 = .ok (.iload_n 3, 1) := by decide +kernel
theorem dX2_giveByOthers_157 : decode cX2_giveByOthers 157 = .ok (.ireturn, 1) := by decide +kernel
set_option maxRecDepth 20000 in
theorem ggX2_giveOtherWay_X2_give : GoodIn wsX2_giveOtherWay wsX2_give := goodIn_r _ [7, 8, 9, 10, 11, 12, 13, 14, 15, 16, 17, 18, 19, 20, 6, 21, 1, 22, 23, 24, 25, 26, 27, 28, 29, 30, 31, 32, 33, 34, 35, 36, 37, 38, 39, 40, 41, 42, 43, 44, 45, 46, 3, 4, 5, 47, 48, 49, 50, 51, 52, 53, 0, 2, 54, 55, 56, 57, 58, 59, 60, 61, 62, 63, 64, 65, 66, 67, 68, 69, 70, 71, 72, 73, 74, 75, 76] (by decide +kernel) (by decide +kernel)
set_option maxRecDepth 20000 in
theorem gX2_giveOtherWay_X2_give : GoodIn wsX2_giveOtherWay (wsV RX2 96 RX2 yX2_give wsX2_give) := goodIn_app (goodIn_of _ (by decide +kernel)) ggX2_giveOtherWay_X2_give
theorem dX2_giveOtherWay_0 : decode cX2_giveOtherWay 0 = .ok (.aload_n 0, 1) := by decide +kernel
theorem dX2_giveOtherWay_1 : decode cX2_giveOtherWay 1 = .ok (.iconst 0, 1) := by decide +kernel
theorem dX2_giveOtherWay_2 : decode cX2_giveOtherWay 2 = .ok (.putfield 40, 3) := by decide +kernel
theorem dX2_giveOtherWay_5 : decode cX2_giveOtherWay 5 = .ok (.aload_n 0, 1) := by decide +kernel
theorem dX2_giveOtherWay_6 : decode cX2_giveOtherWay 6 = .ok (.dup, 1) := by decide +kernel
theorem dX2_giveOtherWay_7 : decode cX2_giveOtherWay 7 = .ok (.getfield 64, 3) := by decide +kernel
theorem dX2_giveOtherWay_10 : decode cX2_giveOtherWay 10 = .ok (.iconst 1, 1) := by decide +kernel
theorem dX2_giveOtherWay_11 : decode cX2_giveOtherWay 11 = .ok (.iadd, 1) := by decide +kernel
theorem dX2_giveOtherWay_12 : decode cX2_giveOtherWay 12 = .ok (.putfield 64, 3) := by decide +kernel
theorem dX2_giveOtherWay_15 : decode cX2_giveOtherWay 15 = .ok (.aload_n 0, 1) := by decide +kernel
theorem dX2_giveOtherWay_16 : decode cX2_giveOtherWay 16 = .ok (.iload_n 1, 1) := by decide +kernel
theorem dX2_giveOtherWay_17 : decode cX2_giveOtherWay 17 = .ok (.iload_n 2, 1) := by decide +kernel
theorem dX2_giveOtherWay_18 : decode cX2_giveOtherWay 18 = .ok (.invokevirtual 96, 3) := by decide +kernel
theorem dX2_giveOtherWay_21 : decode cX2_giveOtherWay 21 = .ok (.ireturn, 1) := by decide +kernel
set_option maxRecDepth 20000 in
theorem ggX2_foldOne_X2_refuse : GoodIn wsX2_foldOne wsX2_refuse := goodIn_r _ [9, 10, 11, 12, 13, 14, 15, 16, 17, 18, 19, 20, 21, 22, 23, 24, 25, 26, 27] (by decide +kernel) (by decide +kernel)
set_option maxRecDepth 20000 in
theorem gX2_foldOne_X2_refuse : GoodIn wsX2_foldOne (wsV RX2 135 RX2 yX2_refuse wsX2_refuse) := goodIn_app (goodIn_of _ (by decide +kernel)) ggX2_foldOne_X2_refuse
theorem dX2_foldOne_0 : decode cX2_foldOne 0 = .ok (.iload_n 1, 1) := by decide +kernel
theorem dX2_foldOne_1 : decode cX2_foldOne 1 = .ok (.tableswitch 52 0 3 #[31, 35, 41, 48], 31) := by decide +kernel
theorem dX2_foldOne_32 : decode cX2_foldOne 32 = .ok (.iload_n 2, 1) := by decide +kernel
theorem dX2_foldOne_33 : decode cX2_foldOne 33 = .ok (.iload_n 3, 1) := by decide +kernel
theorem dX2_foldOne_34 : decode cX2_foldOne 34 = .ok (.iadd, 1) := by decide +kernel
theorem dX2_foldOne_35 : decode cX2_foldOne 35 = .ok (.ireturn, 1) := by decide +kernel
theorem dX2_foldOne_36 : decode cX2_foldOne 36 = .ok (.iload_n 2, 1) := by decide +kernel
theorem dX2_foldOne_37 : decode cX2_foldOne 37 = .ok (.iload_n 3, 1) := by decide +kernel
theorem dX2_foldOne_38 : decode cX2_foldOne 38 = .ok (.invokestatic 176, 3) := by decide +kernel
theorem dX2_foldOne_41 : decode cX2_foldOne 41 = .ok (.ireturn, 1) := by decide +kernel
theorem dX2_foldOne_42 : decode cX2_foldOne 42 = .ok (.bipush 31, 2) := by decide +kernel
theorem dX2_foldOne_44 : decode cX2_foldOne 44 = .ok (.iload_n 2, 1) := by decide +kernel
theorem dX2_foldOne_45 : decode cX2_foldOne 45 = .ok (.imul, 1) := by decide +kernel
theorem dX2_foldOne_46 : decode cX2_foldOne 46 = .ok (.iload_n 3, 1) := by decide +kernel
theorem dX2_foldOne_47 : decode cX2_foldOne 47 = .ok (.iadd, 1) := by decide +kernel
theorem dX2_foldOne_48 : decode cX2_foldOne 48 = .ok (.ireturn, 1) := by decide +kernel
theorem dX2_foldOne_49 : decode cX2_foldOne 49 = .ok (.iload_n 3, 1) := by decide +kernel
theorem dX2_foldOne_50 : decode cX2_foldOne 50 = .ok (.iload_n 2, 1) := by decide +kernel
theorem dX2_foldOne_51 : decode cX2_foldOne 51 = .ok (.isub, 1) := by decide +kernel
theorem dX2_foldOne_52 : decode cX2_foldOne 52 = .ok (.ireturn, 1) := by decide +kernel
theorem dX2_foldOne_53 : decode cX2_foldOne 53 = .ok (.iload_n 3, 1) := by decide +kernel
theorem dX2_foldOne_54 : decode cX2_foldOne 54 = .ok (.ifCond .ne 12, 3) := by decide +kernel
theorem dX2_foldOne_57 : decode cX2_foldOne 57 = .ok (.aload_n 0, 1) := by decide +kernel
theorem dX2_foldOne_58 : decode cX2_foldOne 58 = .ok (.iconst 1, 1) := by decide +kernel
theorem dX2_foldOne_59 : decode cX2_foldOne 59 = .ok (.iconst (-1), 1) := by decide +kernel
theorem dX2_foldOne_60 : decode cX2_foldOne 60 = .ok (.invokevirtual 135, 3) := by decide +kernel
theorem dX2_foldOne_63 : decode cX2_foldOne 63 = .ok (.goto 6, 3) := by decide +kernel
theorem dX2_foldOne_66 : decode cX2_foldOne 66 = .ok (.iload_n 2, 1) := by decide +kernel
theorem dX2_foldOne_67 : decode cX2_foldOne 67 = .ok (.iload_n 3, 1) := by decide +kernel
theorem dX2_foldOne_68 : decode cX2_foldOne 68 = .ok (.idiv, 1) := by decide +kernel
theorem dX2_foldOne_69 : decode cX2_foldOne 69 = .ok (.ireturn, 1) := by decide +kernel
theorem dX2_sortOrigins_0 : decode cX2_sortOrigins 0 = .ok (.iconst 0, 1) := by decide +kernel
theorem dX2_sortOrigins_1 : decode cX2_sortOrigins 1 = .ok (.istore_n 2, 1) := by decide +kernel
theorem dX2_sortOrigins_2 : decode cX2_sortOrigins 2 = .ok (.iload_n 2, 1) := by decide +kernel
theorem dX2_sortOrigins_3 : decode cX2_sortOrigins 3 = .ok (.iload_n 1, 1) := by decide +kernel
theorem dX2_sortOrigins_4 : decode cX2_sortOrigins 4 = .ok (.if_icmp .ge 64, 3) := by decide +kernel
theorem dX2_sortOrigins_7 : decode cX2_sortOrigins 7 = .ok (.iload_n 2, 1) := by decide +kernel
theorem dX2_sortOrigins_8 : decode cX2_sortOrigins 8 = .ok (.istore_n 3, 1) := by decide +kernel
theorem dX2_sortOrigins_9 : decode cX2_sortOrigins 9 = .ok (.iload_n 3, 1) := by decide +kernel
theorem dX2_sortOrigins_10 : decode cX2_sortOrigins 10 = .ok (.ifCond .le 45, 3) := by decide +kernel
theorem dX2_sortOrigins_13 : decode cX2_sortOrigins 13 = .ok (.aload_n 0, 1) := by decide +kernel
theorem dX2_sortOrigins_14 : decode cX2_sortOrigins 14 = .ok (.getfield 34, 3) := by decide +kernel
theorem dX2_sortOrigins_17 : decode cX2_sortOrigins 17 = .ok (.aload_n 0, 1) := by decide +kernel
theorem dX2_sortOrigins_18 : decode cX2_sortOrigins 18 = .ok (.getfield 37, 3) := by decide +kernel
theorem dX2_sortOrigins_21 : decode cX2_sortOrigins 21 = .ok (.iload_n 3, 1) := by decide +kernel
theorem dX2_sortOrigins_22 : decode cX2_sortOrigins 22 = .ok (.iconst 1, 1) := by decide +kernel
theorem dX2_sortOrigins_23 : decode cX2_sortOrigins 23 = .ok (.isub, 1) := by decide +kernel
theorem dX2_sortOrigins_24 : decode cX2_sortOrigins 24 = .ok (.iaload, 1) := by decide +kernel
theorem dX2_sortOrigins_25 : decode cX2_sortOrigins 25 = .ok (.iaload, 1) := by decide +kernel
theorem dX2_sortOrigins_26 : decode cX2_sortOrigins 26 = .ok (.aload_n 0, 1) := by decide +kernel
theorem dX2_sortOrigins_27 : decode cX2_sortOrigins 27 = .ok (.getfield 34, 3) := by decide +kernel
theorem dX2_sortOrigins_30 : decode cX2_sortOrigins 30 = .ok (.iload_n 2, 1) := by decide +kernel
theorem dX2_sortOrigins_31 : decode cX2_sortOrigins 31 = .ok (.iaload, 1) := by decide +kernel
theorem dX2_sortOrigins_32 : decode cX2_sortOrigins 32 = .ok (.if_icmp .le 23, 3) := by decide +kernel
theorem dX2_sortOrigins_35 : decode cX2_sortOrigins 35 = .ok (.aload_n 0, 1) := by decide +kernel
theorem dX2_sortOrigins_36 : decode cX2_sortOrigins 36 = .ok (.getfield 37, 3) := by decide +kernel
theorem dX2_sortOrigins_39 : decode cX2_sortOrigins 39 = .ok (.iload_n 3, 1) := by decide +kernel
theorem dX2_sortOrigins_40 : decode cX2_sortOrigins 40 = .ok (.aload_n 0, 1) := by decide +kernel
theorem dX2_sortOrigins_41 : decode cX2_sortOrigins 41 = .ok (.getfield 37, 3) := by decide +kernel
theorem dX2_sortOrigins_44 : decode cX2_sortOrigins 44 = .ok (.iload_n 3, 1) := by decide +kernel
theorem dX2_sortOrigins_45 : decode cX2_sortOrigins 45 = .ok (.iconst 1, 1) := by decide +kernel
theorem dX2_sortOrigins_46 : decode cX2_sortOrigins 46 = .ok (.isub, 1) := by decide +kernel
theorem dX2_sortOrigins_47 : decode cX2_sortOrigins 47 = .ok (.iaload, 1) := by decide +kernel
theorem dX2_sortOrigins_48 : decode cX2_sortOrigins 48 = .ok (.iastore, 1) := by decide +kernel
theorem dX2_sortOrigins_49 : decode cX2_sortOrigins 49 = .ok (.iinc 3 (-1), 3) := by decide +kernel
theorem dX2_sortOrigins_52 : decode cX2_sortOrigins 52 = .ok (.goto (-43), 3) := by decide +kernel
theorem dX2_sortOrigins_55 : decode cX2_sortOrigins 55 = .ok (.aload_n 0, 1) := by decide +kernel
theorem dX2_sortOrigins_56 : decode cX2_sortOrigins 56 = .ok (.getfield 37, 3) := by decide +kernel
theorem dX2_sortOrigins_59 : decode cX2_sortOrigins 59 = .ok (.iload_n 3, 1) := by decide +kernel
theorem dX2_sortOrigins_60 : decode cX2_sortOrigins 60 = .ok (.iload_n 2, 1) := by decide +kernel
theorem dX2_sortOrigins_61 : decode cX2_sortOrigins 61 = .ok (.iastore, 1) := by decide +kernel
theorem dX2_sortOrigins_62 : decode cX2_sortOrigins 62 = .ok (.iinc 2 1, 3) := by decide +kernel
theorem dX2_sortOrigins_65 : decode cX2_sortOrigins 65 = .ok (.goto (-63), 3) := by decide +kernel
theorem dX2_sortOrigins_68 : decode cX2_sortOrigins 68 = .ok (.return_, 1) := by decide +kernel
theorem dX2_moveByOrigins_0 : decode cX2_moveByOrigins 0 = .ok (.iconst 0, 1) := by decide +kernel
theorem dX2_moveByOrigins_1 : decode cX2_moveByOrigins 1 = .ok (.istore_n 2, 1) := by decide +kernel
theorem dX2_moveByOrigins_2 : decode cX2_moveByOrigins 2 = .ok (.iconst 0, 1) := by decide +kernel
theorem dX2_moveByOrigins_3 : decode cX2_moveByOrigins 3 = .ok (.istore_n 3, 1) := by decide +kernel
theorem dX2_moveByOrigins_4 : decode cX2_moveByOrigins 4 = .ok (.iload_n 3, 1) := by decide +kernel
theorem dX2_moveByOrigins_5 : decode cX2_moveByOrigins 5 = .ok (.aload_n 1, 1) := by decide +kernel
theorem dX2_moveByOrigins_6 : decode cX2_moveByOrigins 6 = .ok (.arraylength, 1) := by decide +kernel
theorem dX2_moveByOrigins_7 : decode cX2_moveByOrigins 7 = .ok (.if_icmp .ge 36, 3) := by decide +kernel
theorem dX2_moveByOrigins_10 : decode cX2_moveByOrigins 10 = .ok (.aload_n 0, 1) := by decide +kernel
theorem dX2_moveByOrigins_11 : decode cX2_moveByOrigins 11 = .ok (.getfield 31, 3) := by decide +kernel
theorem dX2_moveByOrigins_14 : decode cX2_moveByOrigins 14 = .ok (.iload_n 3, 1) := by decide +kernel
theorem dX2_moveByOrigins_15 : decode cX2_moveByOrigins 15 = .ok (.aload_n 1, 1) := by decide +kernel
theorem dX2_moveByOrigins_16 : decode cX2_moveByOrigins 16 = .ok (.aload_n 0, 1) := by decide +kernel
theorem dX2_moveByOrigins_17 : decode cX2_moveByOrigins 17 = .ok (.getfield 37, 3) := by decide +kernel
theorem dX2_moveByOrigins_20 : decode cX2_moveByOrigins 20 = .ok (.iload_n 3, 1) := by decide +kernel
theorem dX2_moveByOrigins_21 : decode cX2_moveByOrigins 21 = .ok (.iaload, 1) := by decide +kernel
theorem dX2_moveByOrigins_22 : decode cX2_moveByOrigins 22 = .ok (.iaload, 1) := by decide +kernel
theorem dX2_moveByOrigins_23 : decode cX2_moveByOrigins 23 = .ok (.iastore, 1) := by decide +kernel
theorem dX2_moveByOrigins_24 : decode cX2_moveByOrigins 24 = .ok (.aload_n 0, 1) := by decide +kernel
theorem dX2_moveByOrigins_25 : decode cX2_moveByOrigins 25 = .ok (.getfield 37, 3) := by decide +kernel
theorem dX2_moveByOrigins_28 : decode cX2_moveByOrigins 28 = .ok (.iload_n 3, 1) := by decide +kernel
theorem dX2_moveByOrigins_29 : decode cX2_moveByOrigins 29 = .ok (.iaload, 1) := by decide +kernel
theorem dX2_moveByOrigins_30 : decode cX2_moveByOrigins 30 = .ok (.iload_n 3, 1) := by decide +kernel
theorem dX2_moveByOrigins_31 : decode cX2_moveByOrigins 31 = .ok (.if_icmp .eq 6, 3) := by decide +kernel
theorem dX2_moveByOrigins_34 : decode cX2_moveByOrigins 34 = .ok (.iinc 2 1, 3) := by decide +kernel
theorem dX2_moveByOrigins_37 : decode cX2_moveByOrigins 37 = .ok (.iinc 3 1, 3) := by decide +kernel
theorem dX2_moveByOrigins_40 : decode cX2_moveByOrigins 40 = .ok (.goto (-36), 3) := by decide +kernel
theorem dX2_moveByOrigins_43 : decode cX2_moveByOrigins 43 = .ok (.aload_n 0, 1) := by decide +kernel
theorem dX2_moveByOrigins_44 : decode cX2_moveByOrigins 44 = .ok (.getfield 31, 3) := by decide +kernel
theorem dX2_moveByOrigins_47 : decode cX2_moveByOrigins 47 = .ok (.iconst 0, 1) := by decide +kernel
theorem dX2_moveByOrigins_48 : decode cX2_moveByOrigins 48 = .ok (.aload_n 1, 1) := by decide +kernel
theorem dX2_moveByOrigins_49 : decode cX2_moveByOrigins 49 = .ok (.iconst 0, 1) := by decide +kernel
theorem dX2_moveByOrigins_50 : decode cX2_moveByOrigins 50 = .ok (.aload_n 1, 1) := by decide +kernel
theorem dX2_moveByOrigins_51 : decode cX2_moveByOrigins 51 = .ok (.arraylength, 1) := by decide +kernel
theorem dX2_moveByOrigins_52 : decode cX2_moveByOrigins 52 = .ok (.invokestatic 179, 3) := by decide +kernel
theorem dX2_moveByOrigins_55 : decode cX2_moveByOrigins 55 = .ok (.iload_n 2, 1) := by decide +kernel
theorem dX2_moveByOrigins_56 : decode cX2_moveByOrigins 56 = .ok (.ireturn, 1) := by decide +kernel
theorem dX3_init_0 : decode cX3_init 0 = .ok (.aload_n 0, 1) := by decide +kernel
theorem dX3_init_1 : decode cX3_init 1 = .ok (.invokespecial 1, 3) := by decide +kernel
theorem dX3_init_4 : decode cX3_init 4 = .ok (.aload_n 0, 1) := by decide +kernel
theorem dX3_init_5 : decode cX3_init 5 = .ok (.bipush 8, 2) := by decide +kernel
theorem dX3_init_7 : decode cX3_init 7 = .ok (.newarray .int, 2) := by decide +kernel
theorem dX3_init_9 : decode cX3_init 9 = .ok (.putfield 7, 3) := by decide +kernel
theorem dX3_init_12 : decode cX3_init 12 = .ok (.aload_n 0, 1) := by decide +kernel
theorem dX3_init_13 : decode cX3_init 13 = .ok (.iconst 4, 1) := by decide +kernel
theorem dX3_init_14 : decode cX3_init 14 = .ok (.newarray .int, 2) := by decide +kernel
theorem dX3_init_16 : decode cX3_init 16 = .ok (.dup, 1) := by decide +kernel
theorem dX3_init_17 : decode cX3_init 17 = .ok (.iconst 0, 1) := by decide +kernel
theorem dX3_init_18 : decode cX3_init 18 = .ok (.iconst (-1), 1) := by decide +kernel
theorem dX3_init_19 : decode cX3_init 19 = .ok (.iastore, 1) := by decide +kernel
theorem dX3_init_20 : decode cX3_init 20 = .ok (.dup, 1) := by decide +kernel
theorem dX3_init_21 : decode cX3_init 21 = .ok (.iconst 1, 1) := by decide +kernel
theorem dX3_init_22 : decode cX3_init 22 = .ok (.iconst (-1), 1) := by decide +kernel
theorem dX3_init_23 : decode cX3_init 23 = .ok (.iastore, 1) := by decide +kernel
theorem dX3_init_24 : decode cX3_init 24 = .ok (.dup, 1) := by decide +kernel
theorem dX3_init_25 : decode cX3_init 25 = .ok (.iconst 2, 1) := by decide +kernel
theorem dX3_init_26 : decode cX3_init 26 = .ok (.iconst (-1), 1) := by decide +kernel
theorem dX3_init_27 : decode cX3_init 27 = .ok (.iastore, 1) := by decide +kernel
theorem dX3_init_28 : decode cX3_init 28 = .ok (.dup, 1) := by decide +kernel
theorem dX3_init_29 : decode cX3_init 29 = .ok (.iconst 3, 1) := by decide +kernel
theorem dX3_init_30 : decode cX3_init 30 = .ok (.iconst (-1), 1) := by decide +kernel
theorem dX3_init_31 : decode cX3_init 31 = .ok (.iastore, 1) := by decide +kernel
theorem dX3_init_32 : decode cX3_init 32 = .ok (.putfield 13, 3) := by decide +kernel
theorem dX3_init_35 : decode cX3_init 35 = .ok (.aload_n 0, 1) := by decide +kernel
theorem dX3_init_36 : decode cX3_init 36 = .ok (.bipush 48, 2) := by decide +kernel
theorem dX3_init_38 : decode cX3_init 38 = .ok (.newarray .int, 2) := by decide +kernel
theorem dX3_init_40 : decode cX3_init 40 = .ok (.putfield 16, 3) := by decide +kernel
theorem dX3_init_43 : decode cX3_init 43 = .ok (.aload_n 0, 1) := by decide +kernel
theorem dX3_init_44 : decode cX3_init 44 = .ok (.sipush 480, 3) := by decide +kernel
theorem dX3_init_47 : decode cX3_init 47 = .ok (.newarray .int, 2) := by decide +kernel
theorem dX3_init_49 : decode cX3_init 49 = .ok (.putfield 19, 3) := by decide +kernel
theorem dX3_init_52 : decode cX3_init 52 = .ok (.aload_n 0, 1) := by decide +kernel
theorem dX3_init_53 : decode cX3_init 53 = .ok (.bipush 40, 2) := by decide +kernel
theorem dX3_init_55 : decode cX3_init 55 = .ok (.newarray .int, 2) := by decide +kernel
theorem dX3_init_57 : decode cX3_init 57 = .ok (.putfield 22, 3) := by decide +kernel
theorem dX3_init_60 : decode cX3_init 60 = .ok (.aload_n 0, 1) := by decide +kernel
theorem dX3_init_61 : decode cX3_init 61 = .ok (.bipush 40, 2) := by decide +kernel
theorem dX3_init_63 : decode cX3_init 63 = .ok (.newarray .int, 2) := by decide +kernel
theorem dX3_init_65 : decode cX3_init 65 = .ok (.putfield 25, 3) := by decide +kernel
theorem dX3_init_68 : decode cX3_init 68 = .ok (.aload_n 0, 1) := by decide +kernel
theorem dX3_init_69 : decode cX3_init 69 = .ok (.bipush 40, 2) := by decide +kernel
theorem dX3_init_71 : decode cX3_init 71 = .ok (.newarray .int, 2) := by decide +kernel
theorem dX3_init_73 : decode cX3_init 73 = .ok (.putfield 28, 3) := by decide +kernel
theorem dX3_init_76 : decode cX3_init 76 = .ok (.aload_n 0, 1) := by decide +kernel
theorem dX3_init_77 : decode cX3_init 77 = .ok (.bipush 40, 2) := by decide +kernel
theorem dX3_init_79 : decode cX3_init 79 = .ok (.newarray .int, 2) := by decide +kernel
theorem dX3_init_81 : decode cX3_init 81 = .ok (.putfield 31, 3) := by decide +kernel
theorem dX3_init_84 : decode cX3_init 84 = .ok (.aload_n 0, 1) := by decide +kernel
theorem dX3_init_85 : decode cX3_init 85 = .ok (.bipush 40, 2) := by decide +kernel
theorem dX3_init_87 : decode cX3_init 87 = .ok (.newarray .int, 2) := by decide +kernel
theorem dX3_init_89 : decode cX3_init 89 = .ok (.putfield 34, 3) := by decide +kernel
theorem dX3_init_92 : decode cX3_init 92 = .ok (.aload_n 0, 1) := by decide +kernel
theorem dX3_init_93 : decode cX3_init 93 = .ok (.bipush 40, 2) := by decide +kernel
theorem dX3_init_95 : decode cX3_init 95 = .ok (.newarray .int, 2) := by decide +kernel
theorem dX3_init_97 : decode cX3_init 97 = .ok (.putfield 37, 3) := by decide +kernel
theorem dX3_init_100 : decode cX3_init 100 = .ok (.aload_n 0, 1) := by decide +kernel
theorem dX3_init_101 : decode cX3_init 101 = .ok (.bipush 65, 2) := by decide +kernel
theorem dX3_init_103 : decode cX3_init 103 = .ok (.newarray .int, 2) := by decide +kernel
theorem dX3_init_105 : decode cX3_init 105 = .ok (.putfield 40, 3) := by decide +kernel
theorem dX3_init_108 : decode cX3_init 108 = .ok (.aload_n 0, 1) := by decide +kernel
theorem dX3_init_109 : decode cX3_init 109 = .ok (.bipush 65, 2) := by decide +kernel
theorem dX3_init_111 : decode cX3_init 111 = .ok (.newarray .int, 2) := by decide +kernel
theorem dX3_init_113 : decode cX3_init 113 = .ok (.putfield 43, 3) := by decide +kernel
theorem dX3_init_116 : decode cX3_init 116 = .ok (.aload_n 0, 1) := by decide +kernel
theorem dX3_init_117 : decode cX3_init 117 = .ok (.bipush 65, 2) := by decide +kernel
theorem dX3_init_119 : decode cX3_init 119 = .ok (.newarray .int, 2) := by decide +kernel
theorem dX3_init_121 : decode cX3_init 121 = .ok (.putfield 46, 3) := by decide +kernel
theorem dX3_init_124 : decode cX3_init 124 = .ok (.aload_n 0, 1) := by decide +kernel
theorem dX3_init_125 : decode cX3_init 125 = .ok (.bipush 65, 2) := by decide +kernel
theorem dX3_init_127 : decode cX3_init 127 = .ok (.newarray .int, 2) := by decide +kernel
theorem dX3_init_129 : decode cX3_init 129 = .ok (.putfield 49, 3) := by decide +kernel
theorem dX3_init_132 : decode cX3_init 132 = .ok (.aload_n 0, 1) := by decide +kernel
theorem dX3_init_133 : decode cX3_init 133 = .ok (.iconst (-1), 1) := by decide +kernel
theorem dX3_init_134 : decode cX3_init 134 = .ok (.putfield 52, 3) := by decide +kernel
theorem dX3_init_137 : decode cX3_init 137 = .ok (.aload_n 0, 1) := by decide +kernel
theorem dX3_init_138 : decode cX3_init 138 = .ok (.bipush 10, 2) := by decide +kernel
theorem dX3_init_140 : decode cX3_init 140 = .ok (.newarray .int, 2) := by decide +kernel
theorem dX3_init_142 : decode cX3_init 142 = .ok (.putfield 56, 3) := by decide +kernel
theorem dX3_init_145 : decode cX3_init 145 = .ok (.aload_n 0, 1) := by decide +kernel
theorem dX3_init_146 : decode cX3_init 146 = .ok (.bipush 10, 2) := by decide +kernel
theorem dX3_init_148 : decode cX3_init 148 = .ok (.newarray .int, 2) := by decide +kernel
theorem dX3_init_150 : decode cX3_init 150 = .ok (.putfield 59, 3) := by decide +kernel
theorem dX3_init_153 : decode cX3_init 153 = .ok (.aload_n 0, 1) := by decide +kernel
theorem dX3_init_154 : decode cX3_init 154 = .ok (.bipush 10, 2) := by decide +kernel
theorem dX3_init_156 : decode cX3_init 156 = .ok (.newarray .int, 2) := by decide +kernel
theorem dX3_init_158 : decode cX3_init 158 = .ok (.putfield 62, 3) := by decide +kernel
theorem dX3_init_161 : decode cX3_init 161 = .ok (.aload_n 0, 1) := by decide +kernel
theorem dX3_init_162 : decode cX3_init 162 = .ok (.iconst 0, 1) := by decide +kernel
theorem dX3_init_163 : decode cX3_init 163 = .ok (.putfield 65, 3) := by decide +kernel
theorem dX3_init_166 : decode cX3_init 166 = .ok (.return_, 1) := by decide +kernel
theorem dX3_in_0 : decode cX3_in 0 = .ok (.iload_n 0, 1) := by decide +kernel
theorem dX3_in_1 : decode cX3_in 1 = .ok (.iload_n 1, 1) := by decide +kernel
theorem dX3_in_2 : decode cX3_in 2 = .ok (.if_icmp .lt 12, 3) := by decide +kernel
theorem dX3_in_5 : decode cX3_in 5 = .ok (.iload_n 0, 1) := by decide +kernel
theorem dX3_in_6 : decode cX3_in 6 = .ok (.iload_n 2, 1) := by decide +kernel
theorem dX3_in_7 : decode cX3_in 7 = .ok (.if_icmp .gt 7, 3) := by decide +kernel
theorem dX3_in_10 : decode cX3_in 10 = .ok (.iconst 1, 1) := by decide +kernel
theorem dX3_in_11 : decode cX3_in 11 = .ok (.goto 4, 3) := by decide +kernel
theorem dX3_in_14 : decode cX3_in 14 = .ok (.iconst 0, 1) := by decide +kernel
theorem dX3_in_15 : decode cX3_in 15 = .ok (.ireturn, 1) := by decide +kernel
set_option maxRecDepth 20000 in
theorem ggX3_isRule_X3_in : GoodIn wsX3_isRule wsX3_in := goodIn_r _ [5] (by decide +kernel) (by decide +kernel)
set_option maxRecDepth 20000 in
theorem gX3_isRule_X3_in : GoodIn wsX3_isRule (va_wsS RX3 68 yX3_in wsX3_in) := goodIn_app (goodIn_of _ (by decide +kernel)) ggX3_isRule_X3_in
theorem dX3_isRule_0 : decode cX3_isRule 0 = .ok (.iload_n 1, 1) := by decide +kernel
theorem dX3_isRule_1 : decode cX3_isRule 1 = .ok (.iconst 0, 1) := by decide +kernel
theorem dX3_isRule_2 : decode cX3_isRule 2 = .ok (.aload_n 0, 1) := by decide +kernel
theorem dX3_isRule_3 : decode cX3_isRule 3 = .ok (.getfield 65, 3) := by decide +kernel
theorem dX3_isRule_6 : decode cX3_isRule 6 = .ok (.iconst 1, 1) := by decide +kernel
theorem dX3_isRule_7 : decode cX3_isRule 7 = .ok (.isub, 1) := by decide +kernel
theorem dX3_isRule_8 : decode cX3_isRule 8 = .ok (.invokestatic 68, 3) := by decide +kernel
theorem dX3_isRule_11 : decode cX3_isRule 11 = .ok (.ireturn, 1) := by decide +kernel
set_option maxRecDepth 20000 in
theorem ggX3_place_X3_in : GoodIn wsX3_place wsX3_in := goodIn_r _ [6] (by decide +kernel) (by decide +kernel)
set_option maxRecDepth 20000 in
theorem gX3_place_X3_in : GoodIn wsX3_place (va_wsS RX3 68 yX3_in wsX3_in) := goodIn_app (goodIn_of _ (by decide +kernel)) ggX3_place_X3_in
theorem dX3_place_0 : decode cX3_place 0 = .ok (.iload_n 1, 1) := by decide +kernel
theorem dX3_place_1 : decode cX3_place 1 = .ok (.iconst 0, 1) := by decide +kernel
theorem dX3_place_2 : decode cX3_place 2 = .ok (.bipush 7, 2) := by decide +kernel
theorem dX3_place_4 : decode cX3_place 4 = .ok (.invokestatic 68, 3) := by decide +kernel
theorem dX3_place_7 : decode cX3_place 7 = .ok (.ifCond .ne 7, 3) := by decide +kernel
theorem dX3_place_10 : decode cX3_place 10 = .ok (.ldc2_w 72, 3) := by decide +kernel
theorem dX3_place_13 : decode cX3_place 13 = .ok (.lreturn, 1) := by decide +kernel
theorem dX3_place_14 : decode cX3_place 14 = .ok (.aload_n 0, 1) := by decide +kernel
theorem dX3_place_15 : decode cX3_place 15 = .ok (.getfield 7, 3) := by decide +kernel
theorem dX3_place_18 : decode cX3_place 18 = .ok (.iload_n 1, 1) := by decide +kernel
theorem dX3_place_19 : decode cX3_place 19 = .ok (.iaload, 1) := by decide +kernel
theorem dX3_place_20 : decode cX3_place 20 = .ok (.istore_n 3, 1) := by decide +kernel
theorem dX3_place_21 : decode cX3_place 21 = .ok (.aload_n 0, 1) := by decide +kernel
theorem dX3_place_22 : decode cX3_place 22 = .ok (.getfield 7, 3) := by decide +kernel
theorem dX3_place_25 : decode cX3_place 25 = .ok (.iload_n 1, 1) := by decide +kernel
theorem dX3_place_26 : decode cX3_place 26 = .ok (.iload_n 2, 1) := by decide +kernel
theorem dX3_place_27 : decode cX3_place 27 = .ok (.iastore, 1) := by decide +kernel
theorem dX3_place_28 : decode cX3_place 28 = .ok (.iload_n 3, 1) := by decide +kernel
theorem dX3_place_29 : decode cX3_place 29 = .ok (.i2l, 1) := by decide +kernel
theorem dX3_place_30 : decode cX3_place 30 = .ok (.lreturn, 1) := by decide +kernel
set_option maxRecDepth 20000 in
theorem ggX3_has_X3_in : GoodIn wsX3_has wsX3_in := goodIn_r _ [6] (by decide +kernel) (by decide +kernel)
set_option maxRecDepth 20000 in
theorem gX3_has_X3_in : GoodIn wsX3_has (va_wsS RX3 68 yX3_in wsX3_in) := goodIn_app (goodIn_of _ (by decide +kernel)) ggX3_has_X3_in
theorem dX3_has_0 : decode cX3_has 0 = .ok (.iload_n 1, 1) := by decide +kernel
theorem dX3_has_1 : decode cX3_has 1 = .ok (.iconst 0, 1) := by decide +kernel
theorem dX3_has_2 : decode cX3_has 2 = .ok (.bipush 7, 2) := by decide +kernel
theorem dX3_has_4 : decode cX3_has 4 = .ok (.invokestatic 68, 3) := by decide +kernel
theorem dX3_has_7 : decode cX3_has 7 = .ok (.ifCond .eq 13, 3) := by decide +kernel
theorem dX3_has_10 : decode cX3_has 10 = .ok (.aload_n 0, 1) := by decide +kernel
theorem dX3_has_11 : decode cX3_has 11 = .ok (.getfield 7, 3) := by decide +kernel
theorem dX3_has_14 : decode cX3_has 14 = .ok (.iload_n 1, 1) := by decide +kernel
theorem dX3_has_15 : decode cX3_has 15 = .ok (.iaload, 1) := by decide +kernel
theorem dX3_has_16 : decode cX3_has 16 = .ok (.i2l, 1) := by decide +kernel
theorem dX3_has_17 : decode cX3_has 17 = .ok (.goto 6, 3) := by decide +kernel
theorem dX3_has_20 : decode cX3_has 20 = .ok (.ldc2_w 72, 3) := by decide +kernel
theorem dX3_has_23 : decode cX3_has 23 = .ok (.lreturn, 1) := by decide +kernel
set_option maxRecDepth 20000 in
theorem ggX3_newRow_X3_isHeld : GoodIn wsX3_newRow wsX3_isHeld := goodIn_r _ [7, 8, 9, 10, 11, 12, 13, 14, 15, 16, 17, 18, 19, 20, 21, 22, 23, 24, 25, 26, 27, 28, 29, 30, 31, 32, 33, 34, 35, 36, 37, 38, 39, 40, 41] (by decide +kernel) (by decide +kernel)
set_option maxRecDepth 20000 in
theorem gX3_newRow_X3_isHeld : GoodIn wsX3_newRow (wsV RX3 74 RX3 yX3_isHeld wsX3_isHeld) := goodIn_app (goodIn_of _ (by decide +kernel)) ggX3_newRow_X3_isHeld
theorem dX3_newRow_0 : decode cX3_newRow 0 = .ok (.iconst 0, 1) := by decide +kernel
theorem dX3_newRow_1 : decode cX3_newRow 1 = .ok (.istore_n 2, 1) := by decide +kernel
theorem dX3_newRow_2 : decode cX3_newRow 2 = .ok (.aload_n 0, 1) := by decide +kernel
theorem dX3_newRow_3 : decode cX3_newRow 3 = .ok (.iload_n 2, 1) := by decide +kernel
theorem dX3_newRow_4 : decode cX3_newRow 4 = .ok (.invokevirtual 74, 3) := by decide +kernel
theorem dX3_newRow_7 : decode cX3_newRow 7 = .ok (.ifCond .eq 9, 3) := by decide +kernel
theorem dX3_newRow_10 : decode cX3_newRow 10 = .ok (.iinc 2 1, 3) := by decide +kernel
theorem dX3_newRow_13 : decode cX3_newRow 13 = .ok (.goto (-11), 3) := by decide +kernel
theorem dX3_newRow_16 : decode cX3_newRow 16 = .ok (.aload_n 0, 1) := by decide +kernel
theorem dX3_newRow_17 : decode cX3_newRow 17 = .ok (.getfield 16, 3) := by decide +kernel
theorem dX3_newRow_20 : decode cX3_newRow 20 = .ok (.iload_n 2, 1) := by decide +kernel
theorem dX3_newRow_21 : decode cX3_newRow 21 = .ok (.iload_n 1, 1) := by decide +kernel
theorem dX3_newRow_22 : decode cX3_newRow 22 = .ok (.iastore, 1) := by decide +kernel
theorem dX3_newRow_23 : decode cX3_newRow 23 = .ok (.iconst 0, 1) := by decide +kernel
theorem dX3_newRow_24 : decode cX3_newRow 24 = .ok (.istore_n 3, 1) := by decide +kernel
theorem dX3_newRow_25 : decode cX3_newRow 25 = .ok (.iload_n 3, 1) := by decide +kernel
theorem dX3_newRow_26 : decode cX3_newRow 26 = .ok (.bipush 10, 2) := by decide +kernel
theorem dX3_newRow_28 : decode cX3_newRow 28 = .ok (.if_icmp .ge 21, 3) := by decide +kernel
theorem dX3_newRow_31 : decode cX3_newRow 31 = .ok (.aload_n 0, 1) := by decide +kernel
theorem dX3_newRow_32 : decode cX3_newRow 32 = .ok (.getfield 19, 3) := by decide +kernel
theorem dX3_newRow_35 : decode cX3_newRow 35 = .ok (.bipush 10, 2) := by decide +kernel
theorem dX3_newRow_37 : decode cX3_newRow 37 = .ok (.iload_n 2, 1) := by decide +kernel
theorem dX3_newRow_38 : decode cX3_newRow 38 = .ok (.imul, 1) := by decide +kernel
theorem dX3_newRow_39 : decode cX3_newRow 39 = .ok (.iload_n 3, 1) := by decide +kernel
theorem dX3_newRow_40 : decode cX3_newRow 40 = .ok (.iadd, 1) := by decide +kernel
theorem dX3_newRow_41 : decode cX3_newRow 41 = .ok (.iconst 0, 1) := by decide +kernel
theorem dX3_newRow_42 : decode cX3_newRow 42 = .ok (.iastore, 1) := by decide +kernel
theorem dX3_newRow_43 : decode cX3_newRow 43 = .ok (.iinc 3 1, 3) := by decide +kernel
theorem dX3_newRow_46 : decode cX3_newRow 46 = .ok (.goto (-21), 3) := by decide +kernel
theorem dX3_newRow_49 : decode cX3_newRow 49 = .ok (.iload_n 2, 1) := by decide +kernel
theorem dX3_newRow_50 : decode cX3_newRow 50 = .ok (.ireturn, 1) := by decide +kernel
theorem dX3_isHeld_0 : decode cX3_isHeld 0 = .ok (.iconst 0, 1) := by decide +kernel
theorem dX3_isHeld_1 : decode cX3_isHeld 1 = .ok (.istore_n 2, 1) := by decide +kernel
theorem dX3_isHeld_2 : decode cX3_isHeld 2 = .ok (.iconst 0, 1) := by decide +kernel
theorem dX3_isHeld_3 : decode cX3_isHeld 3 = .ok (.istore_n 3, 1) := by decide +kernel
theorem dX3_isHeld_4 : decode cX3_isHeld 4 = .ok (.iload_n 3, 1) := by decide +kernel
theorem dX3_isHeld_5 : decode cX3_isHeld 5 = .ok (.iconst 4, 1) := by decide +kernel
theorem dX3_isHeld_6 : decode cX3_isHeld 6 = .ok (.if_icmp .ge 29, 3) := by decide +kernel
theorem dX3_isHeld_9 : decode cX3_isHeld 9 = .ok (.iload_n 2, 1) := by decide +kernel
theorem dX3_isHeld_10 : decode cX3_isHeld 10 = .ok (.ifCond .ne 13, 3) := by decide +kernel
theorem dX3_isHeld_13 : decode cX3_isHeld 13 = .ok (.aload_n 0, 1) := by decide +kernel
theorem dX3_isHeld_14 : decode cX3_isHeld 14 = .ok (.getfield 13, 3) := by decide +kernel
theorem dX3_isHeld_17 : decode cX3_isHeld 17 = .ok (.iload_n 3, 1) := by decide +kernel
theorem dX3_isHeld_18 : decode cX3_isHeld 18 = .ok (.iaload, 1) := by decide +kernel
theorem dX3_isHeld_19 : decode cX3_isHeld 19 = .ok (.iload_n 1, 1) := by decide +kernel
theorem dX3_isHeld_20 : decode cX3_isHeld 20 = .ok (.if_icmp .ne 7, 3) := by decide +kernel
theorem dX3_isHeld_23 : decode cX3_isHeld 23 = .ok (.iconst 1, 1) := by decide +kernel
theorem dX3_isHeld_24 : decode cX3_isHeld 24 = .ok (.goto 4, 3) := by decide +kernel
theorem dX3_isHeld_27 : decode cX3_isHeld 27 = .ok (.iconst 0, 1) := by decide +kernel
theorem dX3_isHeld_28 : decode cX3_isHeld 28 = .ok (.istore_n 2, 1) := by decide +kernel
theorem dX3_isHeld_29 : decode cX3_isHeld 29 = .ok (.iinc 3 1, 3) := by decide +kernel
theorem dX3_isHeld_32 : decode cX3_isHeld 32 = .ok (.goto (-28), 3) := by decide +kernel
theorem dX3_isHeld_35 : decode cX3_isHeld 35 = .ok (.iconst 0, 1) := by decide +kernel
theorem dX3_isHeld_36 : decode cX3_isHeld 36 = .ok (.istore_n 3, 1) := by decide +kernel
theorem dX3_isHeld_37 : decode cX3_isHeld 37 = .ok (.iload_n 3, 1) := by decide +kernel
theorem dX3_isHeld_38 : decode cX3_isHeld 38 = .ok (.aload_n 0, 1) := by decide +kernel
theorem dX3_isHeld_39 : decode cX3_isHeld 39 = .ok (.getfield 65, 3) := by decide +kernel
theorem dX3_isHeld_42 : decode cX3_isHeld 42 = .ok (.if_icmp .ge 40, 3) := by decide +kernel
theorem dX3_isHeld_45 : decode cX3_isHeld 45 = .ok (.iload_n 2, 1) := by decide +kernel
theorem dX3_isHeld_46 : decode cX3_isHeld 46 = .ok (.ifCond .ne 24, 3) := by decide +kernel
theorem dX3_isHeld_49 : decode cX3_isHeld 49 = .ok (.aload_n 0, 1) := by decide +kernel
theorem dX3_isHeld_50 : decode cX3_isHeld 50 = .ok (.getfield 22, 3) := by decide +kernel
theorem dX3_isHeld_53 : decode cX3_isHeld 53 = .ok (.iload_n 3, 1) := by decide +kernel
theorem dX3_isHeld_54 : decode cX3_isHeld 54 = .ok (.iaload, 1) := by decide +kernel
theorem dX3_isHeld_55 : decode cX3_isHeld 55 = .ok (.bipush 6, 2) := by decide +kernel
theorem dX3_isHeld_57 : decode cX3_isHeld 57 = .ok (.if_icmp .ne 17, 3) := by decide +kernel
theorem dX3_isHeld_60 : decode cX3_isHeld 60 = .ok (.aload_n 0, 1) := by decide +kernel
theorem dX3_isHeld_61 : decode cX3_isHeld 61 = .ok (.getfield 34, 3) := by decide +kernel
theorem dX3_isHeld_64 : decode cX3_isHeld 64 = .ok (.iload_n 3, 1) := by decide +kernel
theorem dX3_isHeld_65 : decode cX3_isHeld 65 = .ok (.iaload, 1) := by decide +kernel
theorem dX3_isHeld_66 : decode cX3_isHeld 66 = .ok (.iload_n 1, 1) := by decide +kernel
theorem dX3_isHeld_67 : decode cX3_isHeld 67 = .ok (.if_icmp .ne 7, 3) := by decide +kernel
theorem dX3_isHeld_70 : decode cX3_isHeld 70 = .ok (.iconst 1, 1) := by decide +kernel
theorem dX3_isHeld_71 : decode cX3_isHeld 71 = .ok (.goto 4, 3) := by decide +kernel
theorem dX3_isHeld_74 : decode cX3_isHeld 74 = .ok (.iconst 0, 1) := by decide +kernel
theorem dX3_isHeld_75 : decode cX3_isHeld 75 = .ok (.istore_n 2, 1) := by decide +kernel
theorem dX3_isHeld_76 : decode cX3_isHeld 76 = .ok (.iinc 3 1, 3) := by decide +kernel
theorem dX3_isHeld_79 : decode cX3_isHeld 79 = .ok (.goto (-42), 3) := by decide +kernel
theorem dX3_isHeld_82 : decode cX3_isHeld 82 = .ok (.iload_n 2, 1) := by decide +kernel
theorem dX3_isHeld_83 : decode cX3_isHeld 83 = .ok (.ireturn, 1) := by decide +kernel
set_option maxRecDepth 20000 in
theorem ggX3_row_X3_in : GoodIn wsX3_row wsX3_in := goodIn_r _ [5] (by decide +kernel) (by decide +kernel)
set_option maxRecDepth 20000 in
theorem gX3_row_X3_in : GoodIn wsX3_row (va_wsS RX3 68 yX3_in wsX3_in) := goodIn_app (goodIn_of _ (by decide +kernel)) ggX3_row_X3_in
set_option maxRecDepth 20000 in
theorem ggX3_row_X3_newRow : GoodIn wsX3_row wsX3_newRow := goodIn_r _ [9, 10, 11, 12, 13, 14, 4, 15, 1, 16, 17, 18, 19, 20, 21, 22, 23, 24, 25, 26, 27, 28, 29, 30, 31, 32, 33, 34, 35, 36, 37, 38, 39, 40, 41, 42, 43, 44, 45, 46, 47, 48] (by decide +kernel) (by decide +kernel)
set_option maxRecDepth 20000 in
theorem gX3_row_X3_newRow : GoodIn wsX3_row (wsV RX3 78 RX3 yX3_newRow wsX3_newRow) := goodIn_app (goodIn_of _ (by decide +kernel)) ggX3_row_X3_newRow
theorem dX3_row_0 : decode cX3_row 0 = .ok (.iload_n 1, 1) := by decide +kernel
theorem dX3_row_1 : decode cX3_row 1 = .ok (.iconst 0, 1) := by decide +kernel
theorem dX3_row_2 : decode cX3_row 2 = .ok (.iconst 3, 1) := by decide +kernel
theorem dX3_row_3 : decode cX3_row 3 = .ok (.invokestatic 68, 3) := by decide +kernel
theorem dX3_row_6 : decode cX3_row 6 = .ok (.ifCond .eq 13, 3) := by decide +kernel
theorem dX3_row_9 : decode cX3_row 9 = .ok (.iload_n 2, 1) := by decide +kernel
theorem dX3_row_10 : decode cX3_row 10 = .ok (.iconst (-1), 1) := by decide +kernel
theorem dX3_row_11 : decode cX3_row 11 = .ok (.bipush 10, 2) := by decide +kernel
theorem dX3_row_13 : decode cX3_row 13 = .ok (.invokestatic 68, 3) := by decide +kernel
theorem dX3_row_16 : decode cX3_row 16 = .ok (.ifCond .ne 5, 3) := by decide +kernel
theorem dX3_row_19 : decode cX3_row 19 = .ok (.iconst (-1), 1) := by decide +kernel
theorem dX3_row_20 : decode cX3_row 20 = .ok (.ireturn, 1) := by decide +kernel
theorem dX3_row_21 : decode cX3_row 21 = .ok (.iload_n 2, 1) := by decide +kernel
theorem dX3_row_22 : decode cX3_row 22 = .ok (.ifCond .ge 13, 3) := by decide +kernel
theorem dX3_row_25 : decode cX3_row 25 = .ok (.aload_n 0, 1) := by decide +kernel
theorem dX3_row_26 : decode cX3_row 26 = .ok (.getfield 13, 3) := by decide +kernel
theorem dX3_row_29 : decode cX3_row 29 = .ok (.iload_n 1, 1) := by decide +kernel
theorem dX3_row_30 : decode cX3_row 30 = .ok (.iconst (-1), 1) := by decide +kernel
theorem dX3_row_31 : decode cX3_row 31 = .ok (.iastore, 1) := by decide +kernel
theorem dX3_row_32 : decode cX3_row 32 = .ok (.goto 16, 3) := by decide +kernel
theorem dX3_row_35 : decode cX3_row 35 = .ok (.aload_n 0, 1) := by decide +kernel
theorem dX3_row_36 : decode cX3_row 36 = .ok (.iload_n 2, 1) := by decide +kernel
theorem dX3_row_37 : decode cX3_row 37 = .ok (.invokevirtual 78, 3) := by decide +kernel
theorem dX3_row_40 : decode cX3_row 40 = .ok (.istore_n 3, 1) := by decide +kernel
theorem dX3_row_41 : decode cX3_row 41 = .ok (.aload_n 0, 1) := by decide +kernel
theorem dX3_row_42 : decode cX3_row 42 = .ok (.getfield 13, 3) := by decide +kernel
theorem dX3_row_45 : decode cX3_row 45 = .ok (.iload_n 1, 1) := by decide +kernel
theorem dX3_row_46 : decode cX3_row 46 = .ok (.iload_n 3, 1) := by decide +kernel
theorem dX3_row_47 : decode cX3_row 47 = .ok (.iastore, 1) := by decide +kernel
theorem dX3_row_48 : decode cX3_row 48 = .ok (.iconst 1, 1) := by decide +kernel
theorem dX3_row_49 : decode cX3_row 49 = .ok (.ireturn, 1) := by decide +kernel
set_option maxRecDepth 20000 in
theorem ggX3_share_X3_in : GoodIn wsX3_share wsX3_in := goodIn_r _ [5] (by decide +kernel) (by decide +kernel)
set_option maxRecDepth 20000 in
theorem gX3_share_X3_in : GoodIn wsX3_share (va_wsS RX3 68 yX3_in wsX3_in) := goodIn_app (goodIn_of _ (by decide +kernel)) ggX3_share_X3_in
theorem dX3_share_0 : decode cX3_share 0 = .ok (.iload_n 1, 1) := by decide +kernel
theorem dX3_share_1 : decode cX3_share 1 = .ok (.iconst 0, 1) := by decide +kernel
theorem dX3_share_2 : decode cX3_share 2 = .ok (.iconst 3, 1) := by decide +kernel
theorem dX3_share_3 : decode cX3_share 3 = .ok (.invokestatic 68, 3) := by decide +kernel
theorem dX3_share_6 : decode cX3_share 6 = .ok (.ifCond .eq 12, 3) := by decide +kernel
theorem dX3_share_9 : decode cX3_share 9 = .ok (.iload_n 2, 1) := by decide +kernel
theorem dX3_share_10 : decode cX3_share 10 = .ok (.iconst 0, 1) := by decide +kernel
theorem dX3_share_11 : decode cX3_share 11 = .ok (.iconst 3, 1) := by decide +kernel
theorem dX3_share_12 : decode cX3_share 12 = .ok (.invokestatic 68, 3) := by decide +kernel
theorem dX3_share_15 : decode cX3_share 15 = .ok (.ifCond .ne 5, 3) := by decide +kernel
theorem dX3_share_18 : decode cX3_share 18 = .ok (.iconst (-1), 1) := by decide +kernel
theorem dX3_share_19 : decode cX3_share 19 = .ok (.ireturn, 1) := by decide +kernel
theorem dX3_share_20 : decode cX3_share 20 = .ok (.aload_n 0, 1) := by decide +kernel
theorem dX3_share_21 : decode cX3_share 21 = .ok (.getfield 13, 3) := by decide +kernel
theorem dX3_share_24 : decode cX3_share 24 = .ok (.iload_n 1, 1) := by decide +kernel
theorem dX3_share_25 : decode cX3_share 25 = .ok (.aload_n 0, 1) := by decide +kernel
theorem dX3_share_26 : decode cX3_share 26 = .ok (.getfield 13, 3) := by decide +kernel
theorem dX3_share_29 : decode cX3_share 29 = .ok (.iload_n 2, 1) := by decide +kernel
theorem dX3_share_30 : decode cX3_share 30 = .ok (.iaload, 1) := by decide +kernel
theorem dX3_share_31 : decode cX3_share 31 = .ok (.iastore, 1) := by decide +kernel
theorem dX3_share_32 : decode cX3_share 32 = .ok (.aload_n 0, 1) := by decide +kernel
theorem dX3_share_33 : decode cX3_share 33 = .ok (.getfield 13, 3) := by decide +kernel
theorem dX3_share_36 : decode cX3_share 36 = .ok (.iload_n 2, 1) := by decide +kernel
theorem dX3_share_37 : decode cX3_share 37 = .ok (.iaload, 1) := by decide +kernel
theorem dX3_share_38 : decode cX3_share 38 = .ok (.ifCond .ge 7, 3) := by decide +kernel
theorem dX3_share_41 : decode cX3_share 41 = .ok (.iconst 0, 1) := by decide +kernel
theorem dX3_share_42 : decode cX3_share 42 = .ok (.goto 4, 3) := by decide +kernel
theorem dX3_share_45 : decode cX3_share 45 = .ok (.iconst 1, 1) := by decide +kernel
theorem dX3_share_46 : decode cX3_share 46 = .ok (.ireturn, 1) := by decide +kernel
set_option maxRecDepth 20000 in
theorem ggX3_put_X3_in : GoodIn wsX3_put wsX3_in := goodIn_r _ [7] (by decide +kernel) (by decide +kernel)
set_option maxRecDepth 20000 in
theorem gX3_put_X3_in : GoodIn wsX3_put (va_wsS RX3 68 yX3_in wsX3_in) := goodIn_app (goodIn_of _ (by decide +kernel)) ggX3_put_X3_in
theorem dX3_put_0 : decode cX3_put 0 = .ok (.iload_n 1, 1) := by decide +kernel
theorem dX3_put_1 : decode cX3_put 1 = .ok (.iconst 0, 1) := by decide +kernel
theorem dX3_put_2 : decode cX3_put 2 = .ok (.iconst 3, 1) := by decide +kernel
theorem dX3_put_3 : decode cX3_put 3 = .ok (.invokestatic 68, 3) := by decide +kernel
theorem dX3_put_6 : decode cX3_put 6 = .ok (.ifCond .ne 5, 3) := by decide +kernel
theorem dX3_put_9 : decode cX3_put 9 = .ok (.iconst (-1), 1) := by decide +kernel
theorem dX3_put_10 : decode cX3_put 10 = .ok (.ireturn, 1) := by decide +kernel
theorem dX3_put_11 : decode cX3_put 11 = .ok (.aload_n 0, 1) := by decide +kernel
theorem dX3_put_12 : decode cX3_put 12 = .ok (.getfield 13, 3) := by decide +kernel
theorem dX3_put_15 : decode cX3_put 15 = .ok (.iload_n 1, 1) := by decide +kernel
theorem dX3_put_16 : decode cX3_put 16 = .ok (.iaload, 1) := by decide +kernel
theorem dX3_put_17 : decode cX3_put 17 = .ok (.ifCond .ge 6, 3) := by decide +kernel
theorem dX3_put_20 : decode cX3_put 20 = .ok (.bipush (-13), 2) := by decide +kernel
theorem dX3_put_22 : decode cX3_put 22 = .ok (.ireturn, 1) := by decide +kernel
theorem dX3_put_23 : decode cX3_put 23 = .ok (.iload_n 2, 1) := by decide +kernel
theorem dX3_put_24 : decode cX3_put 24 = .ok (.iconst 0, 1) := by decide +kernel
theorem dX3_put_25 : decode cX3_put 25 = .ok (.aload_n 0, 1) := by decide +kernel
theorem dX3_put_26 : decode cX3_put 26 = .ok (.getfield 16, 3) := by decide +kernel
theorem dX3_put_29 : decode cX3_put 29 = .ok (.aload_n 0, 1) := by decide +kernel
theorem dX3_put_30 : decode cX3_put 30 = .ok (.getfield 13, 3) := by decide +kernel
theorem dX3_put_33 : decode cX3_put 33 = .ok (.iload_n 1, 1) := by decide +kernel
theorem dX3_put_34 : decode cX3_put 34 = .ok (.iaload, 1) := by decide +kernel
theorem dX3_put_35 : decode cX3_put 35 = .ok (.iaload, 1) := by decide +kernel
theorem dX3_put_36 : decode cX3_put 36 = .ok (.iconst 1, 1) := by decide +kernel
theorem dX3_put_37 : decode cX3_put 37 = .ok (.isub, 1) := by decide +kernel
theorem dX3_put_38 : decode cX3_put 38 = .ok (.invokestatic 68, 3) := by decide +kernel
theorem dX3_put_41 : decode cX3_put 41 = .ok (.ifCond .ne 6, 3) := by decide +kernel
theorem dX3_put_44 : decode cX3_put 44 = .ok (.bipush (-12), 2) := by decide +kernel
theorem dX3_put_46 : decode cX3_put 46 = .ok (.ireturn, 1) := by decide +kernel
theorem dX3_put_47 : decode cX3_put 47 = .ok (.aload_n 0, 1) := by decide +kernel
theorem dX3_put_48 : decode cX3_put 48 = .ok (.getfield 19, 3) := by decide +kernel
theorem dX3_put_51 : decode cX3_put 51 = .ok (.bipush 10, 2) := by decide +kernel
theorem dX3_put_53 : decode cX3_put 53 = .ok (.aload_n 0, 1) := by decide +kernel
theorem dX3_put_54 : decode cX3_put 54 = .ok (.getfield 13, 3) := by decide +kernel
theorem dX3_put_57 : decode cX3_put 57 = .ok (.iload_n 1, 1) := by decide +kernel
theorem dX3_put_58 : decode cX3_put 58 = .ok (.iaload, 1) := by decide +kernel
theorem dX3_put_59 : decode cX3_put 59 = .ok (.imul, 1) := by decide +kernel
theorem dX3_put_60 : decode cX3_put 60 = .ok (.iload_n 2, 1) := by decide +kernel
theorem dX3_put_61 : decode cX3_put 61 = .ok (.iadd, 1) := by decide +kernel
theorem dX3_put_62 : decode cX3_put 62 = .ok (.iload_n 3, 1) := by decide +kernel
theorem dX3_put_63 : decode cX3_put 63 = .ok (.iastore, 1) := by decide +kernel
theorem dX3_put_64 : decode cX3_put 64 = .ok (.iconst 1, 1) := by decide +kernel
theorem dX3_put_65 : decode cX3_put 65 = .ok (.ireturn, 1) := by decide +kernel
set_option maxRecDepth 20000 in
theorem ggX3_item_X3_in : GoodIn wsX3_item wsX3_in := goodIn_r _ [8] (by decide +kernel) (by decide +kernel)
set_option maxRecDepth 20000 in
theorem gX3_item_X3_in : GoodIn wsX3_item (va_wsS RX3 68 yX3_in wsX3_in) := goodIn_app (goodIn_of _ (by decide +kernel)) ggX3_item_X3_in
theorem dX3_item_0 : decode cX3_item 0 = .ok (.iload_n 1, 1) := by decide +kernel
theorem dX3_item_1 : decode cX3_item 1 = .ok (.iconst 0, 1) := by decide +kernel
theorem dX3_item_2 : decode cX3_item 2 = .ok (.iconst 3, 1) := by decide +kernel
theorem dX3_item_3 : decode cX3_item 3 = .ok (.invokestatic 68, 3) := by decide +kernel
theorem dX3_item_6 : decode cX3_item 6 = .ok (.ifCond .eq 53, 3) := by decide +kernel
theorem dX3_item_9 : decode cX3_item 9 = .ok (.aload_n 0, 1) := by decide +kernel
theorem dX3_item_10 : decode cX3_item 10 = .ok (.getfield 13, 3) := by decide +kernel
theorem dX3_item_13 : decode cX3_item 13 = .ok (.iload_n 1, 1) := by decide +kernel
theorem dX3_item_14 : decode cX3_item 14 = .ok (.iaload, 1) := by decide +kernel
theorem dX3_item_15 : decode cX3_item 15 = .ok (.ifCond .lt 44, 3) := by decide +kernel
theorem dX3_item_18 : decode cX3_item 18 = .ok (.iload_n 2, 1) := by decide +kernel
theorem dX3_item_19 : decode cX3_item 19 = .ok (.iconst 0, 1) := by decide +kernel
theorem dX3_item_20 : decode cX3_item 20 = .ok (.aload_n 0, 1) := by decide +kernel
theorem dX3_item_21 : decode cX3_item 21 = .ok (.getfield 16, 3) := by decide +kernel
theorem dX3_item_24 : decode cX3_item 24 = .ok (.aload_n 0, 1) := by decide +kernel
theorem dX3_item_25 : decode cX3_item 25 = .ok (.getfield 13, 3) := by decide +kernel
theorem dX3_item_28 : decode cX3_item 28 = .ok (.iload_n 1, 1) := by decide +kernel
theorem dX3_item_29 : decode cX3_item 29 = .ok (.iaload, 1) := by decide +kernel
theorem dX3_item_30 : decode cX3_item 30 = .ok (.iaload, 1) := by decide +kernel
theorem dX3_item_31 : decode cX3_item 31 = .ok (.iconst 1, 1) := by decide +kernel
theorem dX3_item_32 : decode cX3_item 32 = .ok (.isub, 1) := by decide +kernel
theorem dX3_item_33 : decode cX3_item 33 = .ok (.invokestatic 68, 3) := by decide +kernel
theorem dX3_item_36 : decode cX3_item 36 = .ok (.ifCond .eq 23, 3) := by decide +kernel
theorem dX3_item_39 : decode cX3_item 39 = .ok (.aload_n 0, 1) := by decide +kernel
theorem dX3_item_40 : decode cX3_item 40 = .ok (.getfield 19, 3) := by decide +kernel
theorem dX3_item_43 : decode cX3_item 43 = .ok (.bipush 10, 2) := by decide +kernel
theorem dX3_item_45 : decode cX3_item 45 = .ok (.aload_n 0, 1) := by decide +kernel
theorem dX3_item_46 : decode cX3_item 46 = .ok (.getfield 13, 3) := by decide +kernel
theorem dX3_item_49 : decode cX3_item 49 = .ok (.iload_n 1, 1) := by decide +kernel
theorem dX3_item_50 : decode cX3_item 50 = .ok (.iaload, 1) := by decide +kernel
theorem dX3_item_51 : decode cX3_item 51 = .ok (.imul, 1) := by decide +kernel
theorem dX3_item_52 : decode cX3_item 52 = .ok (.iload_n 2, 1) := by decide +kernel
theorem dX3_item_53 : decode cX3_item 53 = .ok (.iadd, 1) := by decide +kernel
theorem dX3_item_54 : decode cX3_item 54 = .ok (.iaload, 1) := by decide +kernel
end
section
theorem dX3_item_55 : decode cX3_item 55 = .ok (.i2l, 1) := by decide +kernel
theorem dX3_item_56 : decode cX3_item 56 = .ok (.goto 6, 3) := by decide +kernel
theorem dX3_item_59 : decode cX3_item 59 = .ok (.ldc2_w 72, 3) := by decide +kernel
theorem dX3_item_62 : decode cX3_item 62 = .ok (.lreturn, 1) := by decide +kernel
set_option maxRecDepth 20000 in
theorem ggX3_begins_X3_fails : GoodIn wsX3_begins wsX3_fails := goodIn_r _ [11, 12, 13, 14, 15, 16, 17, 18, 19, 20, 21, 22, 23, 24, 25, 26, 27, 28, 29, 30, 31, 32, 33, 34, 35, 36, 37, 38, 39, 40, 41, 42, 43] (by decide +kernel) (by decide +kernel)
set_option maxRecDepth 20000 in
theorem gX3_begins_X3_fails : GoodIn wsX3_begins (wsV RX3 85 RX3 yX3_fails wsX3_fails) := goodIn_app (goodIn_of _ (by decide +kernel)) ggX3_begins_X3_fails
theorem dX3_begins_0 : decode cX3_begins 0 = .ok (.aload_n 0, 1) := by decide +kernel
theorem dX3_begins_1 : decode cX3_begins 1 = .ok (.getfield 82, 3) := by decide +kernel
theorem dX3_begins_4 : decode cX3_begins 4 = .ok (.bipush 64, 2) := by decide +kernel
theorem dX3_begins_6 : decode cX3_begins 6 = .ok (.if_icmp .ne 11, 3) := by decide +kernel
theorem dX3_begins_9 : decode cX3_begins 9 = .ok (.aload_n 0, 1) := by decide +kernel
theorem dX3_begins_10 : decode cX3_begins 10 = .ok (.iconst 5, 1) := by decide +kernel
theorem dX3_begins_11 : decode cX3_begins 11 = .ok (.iload_n 1, 1) := by decide +kernel
theorem dX3_begins_12 : decode cX3_begins 12 = .ok (.invokevirtual 85, 3) := by decide +kernel
theorem dX3_begins_15 : decode cX3_begins 15 = .ok (.iconst 0, 1) := by decide +kernel
theorem dX3_begins_16 : decode cX3_begins 16 = .ok (.ireturn, 1) := by decide +kernel
theorem dX3_begins_17 : decode cX3_begins 17 = .ok (.aload_n 0, 1) := by decide +kernel
theorem dX3_begins_18 : decode cX3_begins 18 = .ok (.dup, 1) := by decide +kernel
theorem dX3_begins_19 : decode cX3_begins 19 = .ok (.getfield 82, 3) := by decide +kernel
theorem dX3_begins_22 : decode cX3_begins 22 = .ok (.iconst 1, 1) := by decide +kernel
theorem dX3_begins_23 : decode cX3_begins 23 = .ok (.iadd, 1) := by decide +kernel
theorem dX3_begins_24 : decode cX3_begins 24 = .ok (.putfield 82, 3) := by decide +kernel
theorem dX3_begins_27 : decode cX3_begins 27 = .ok (.aload_n 0, 1) := by decide +kernel
theorem dX3_begins_28 : decode cX3_begins 28 = .ok (.dup, 1) := by decide +kernel
theorem dX3_begins_29 : decode cX3_begins 29 = .ok (.getfield 89, 3) := by decide +kernel
theorem dX3_begins_32 : decode cX3_begins 32 = .ok (.iconst 1, 1) := by decide +kernel
theorem dX3_begins_33 : decode cX3_begins 33 = .ok (.iadd, 1) := by decide +kernel
theorem dX3_begins_34 : decode cX3_begins 34 = .ok (.putfield 89, 3) := by decide +kernel
theorem dX3_begins_37 : decode cX3_begins 37 = .ok (.aload_n 0, 1) := by decide +kernel
theorem dX3_begins_38 : decode cX3_begins 38 = .ok (.getfield 40, 3) := by decide +kernel
theorem dX3_begins_41 : decode cX3_begins 41 = .ok (.aload_n 0, 1) := by decide +kernel
theorem dX3_begins_42 : decode cX3_begins 42 = .ok (.getfield 92, 3) := by decide +kernel
theorem dX3_begins_45 : decode cX3_begins 45 = .ok (.iload_n 1, 1) := by decide +kernel
theorem dX3_begins_46 : decode cX3_begins 46 = .ok (.iastore, 1) := by decide +kernel
theorem dX3_begins_47 : decode cX3_begins 47 = .ok (.aload_n 0, 1) := by decide +kernel
theorem dX3_begins_48 : decode cX3_begins 48 = .ok (.getfield 43, 3) := by decide +kernel
theorem dX3_begins_51 : decode cX3_begins 51 = .ok (.aload_n 0, 1) := by decide +kernel
theorem dX3_begins_52 : decode cX3_begins 52 = .ok (.getfield 92, 3) := by decide +kernel
theorem dX3_begins_55 : decode cX3_begins 55 = .ok (.iload_n 2, 1) := by decide +kernel
theorem dX3_begins_56 : decode cX3_begins 56 = .ok (.iastore, 1) := by decide +kernel
theorem dX3_begins_57 : decode cX3_begins 57 = .ok (.aload_n 0, 1) := by decide +kernel
theorem dX3_begins_58 : decode cX3_begins 58 = .ok (.getfield 46, 3) := by decide +kernel
theorem dX3_begins_61 : decode cX3_begins 61 = .ok (.aload_n 0, 1) := by decide +kernel
theorem dX3_begins_62 : decode cX3_begins 62 = .ok (.getfield 92, 3) := by decide +kernel
theorem dX3_begins_65 : decode cX3_begins 65 = .ok (.iconst 0, 1) := by decide +kernel
theorem dX3_begins_66 : decode cX3_begins 66 = .ok (.iastore, 1) := by decide +kernel
theorem dX3_begins_67 : decode cX3_begins 67 = .ok (.aload_n 0, 1) := by decide +kernel
theorem dX3_begins_68 : decode cX3_begins 68 = .ok (.dup, 1) := by decide +kernel
theorem dX3_begins_69 : decode cX3_begins 69 = .ok (.getfield 92, 3) := by decide +kernel
theorem dX3_begins_72 : decode cX3_begins 72 = .ok (.iconst 1, 1) := by decide +kernel
theorem dX3_begins_73 : decode cX3_begins 73 = .ok (.iadd, 1) := by decide +kernel
theorem dX3_begins_74 : decode cX3_begins 74 = .ok (.putfield 92, 3) := by decide +kernel
theorem dX3_begins_77 : decode cX3_begins 77 = .ok (.iconst 1, 1) := by decide +kernel
theorem dX3_begins_78 : decode cX3_begins 78 = .ok (.ireturn, 1) := by decide +kernel
theorem dX3_fails_0 : decode cX3_fails 0 = .ok (.aload_n 0, 1) := by decide +kernel
theorem dX3_fails_1 : decode cX3_fails 1 = .ok (.iload_n 1, 1) := by decide +kernel
theorem dX3_fails_2 : decode cX3_fails 2 = .ok (.putfield 95, 3) := by decide +kernel
theorem dX3_fails_5 : decode cX3_fails 5 = .ok (.aload_n 0, 1) := by decide +kernel
theorem dX3_fails_6 : decode cX3_fails 6 = .ok (.iload_n 2, 1) := by decide +kernel
theorem dX3_fails_7 : decode cX3_fails 7 = .ok (.putfield 98, 3) := by decide +kernel
theorem dX3_fails_10 : decode cX3_fails 10 = .ok (.return_, 1) := by decide +kernel
set_option maxRecDepth 20000 in
theorem ggX3_asks_X3_in : GoodIn wsX3_asks wsX3_in := goodIn_r _ [4] (by decide +kernel) (by decide +kernel)
set_option maxRecDepth 20000 in
theorem gX3_asks_X3_in : GoodIn wsX3_asks (va_wsS RX3 68 yX3_in wsX3_in) := goodIn_app (goodIn_of _ (by decide +kernel)) ggX3_asks_X3_in
theorem dX3_asks_0 : decode cX3_asks 0 = .ok (.iload_n 0, 1) := by decide +kernel
theorem dX3_asks_1 : decode cX3_asks 1 = .ok (.bipush 8, 2) := by decide +kernel
theorem dX3_asks_3 : decode cX3_asks 3 = .ok (.bipush 11, 2) := by decide +kernel
theorem dX3_asks_5 : decode cX3_asks 5 = .ok (.invokestatic 68, 3) := by decide +kernel
theorem dX3_asks_8 : decode cX3_asks 8 = .ok (.ifCond .ne 9, 3) := by decide +kernel
theorem dX3_asks_11 : decode cX3_asks 11 = .ok (.iload_n 0, 1) := by decide +kernel
theorem dX3_asks_12 : decode cX3_asks 12 = .ok (.bipush 16, 2) := by decide +kernel
theorem dX3_asks_14 : decode cX3_asks 14 = .ok (.if_icmp .ne 7, 3) := by decide +kernel
theorem dX3_asks_17 : decode cX3_asks 17 = .ok (.iconst 1, 1) := by decide +kernel
theorem dX3_asks_18 : decode cX3_asks 18 = .ok (.goto 4, 3) := by decide +kernel
theorem dX3_asks_21 : decode cX3_asks 21 = .ok (.iconst 0, 1) := by decide +kernel
theorem dX3_asks_22 : decode cX3_asks 22 = .ok (.ireturn, 1) := by decide +kernel
set_option maxRecDepth 20000 in
theorem ggX3_given_X3_fails : GoodIn wsX3_given wsX3_fails := goodIn_r _ [12, 13, 14, 24, 25, 26, 27, 28, 29, 30, 31, 32, 33, 34, 35, 36, 37, 38, 39, 40, 41, 42, 43, 44, 45, 46, 47, 48, 49, 50, 51, 52, 53] (by decide +kernel) (by decide +kernel)
set_option maxRecDepth 20000 in
theorem gX3_given_X3_fails : GoodIn wsX3_given (wsV RX3 85 RX3 yX3_fails wsX3_fails) := goodIn_app (goodIn_of _ (by decide +kernel)) ggX3_given_X3_fails
set_option maxRecDepth 20000 in
theorem ggX3_given_X3_itemAt : GoodIn wsX3_given wsX3_itemAt := goodIn_r _ [18, 19, 20, 8, 9, 10, 11, 12, 13, 14, 21, 22, 23, 24, 25, 26, 27, 28, 29, 30, 31, 32, 33, 34, 35, 36, 37, 38, 39, 40, 41, 42, 43, 44, 45, 46, 47, 48, 49, 50, 51, 52, 53] (by decide +kernel) (by decide +kernel)
set_option maxRecDepth 20000 in
theorem gX3_given_X3_itemAt : GoodIn wsX3_given (wsV RX3 101 RX3 yX3_itemAt wsX3_itemAt) := goodIn_app (goodIn_of _ (by decide +kernel)) ggX3_given_X3_itemAt
theorem dX3_given_0 : decode cX3_given 0 = .ok (.aload_n 0, 1) := by decide +kernel
theorem dX3_given_1 : decode cX3_given 1 = .ok (.getfield 25, 3) := by decide +kernel
theorem dX3_given_4 : decode cX3_given 4 = .ok (.iload_n 1, 1) := by decide +kernel
theorem dX3_given_5 : decode cX3_given 5 = .ok (.iaload, 1) := by decide +kernel
theorem dX3_given_6 : decode cX3_given 6 = .ok (.istore_n 3, 1) := by decide +kernel
theorem dX3_given_7 : decode cX3_given 7 = .ok (.aload_n 0, 1) := by decide +kernel
theorem dX3_given_8 : decode cX3_given 8 = .ok (.getfield 22, 3) := by decide +kernel
theorem dX3_given_11 : decode cX3_given 11 = .ok (.iload_n 1, 1) := by decide +kernel
theorem dX3_given_12 : decode cX3_given 12 = .ok (.iaload, 1) := by decide +kernel
theorem dX3_given_13 : decode cX3_given 13 = .ok (.tableswitch 228 0 15 #[79, 83, 87, 87, 119, 128, 137, 150, 228, 228, 228, 228, 163, 182, 203, 210], 79) := by decide +kernel
theorem dX3_given_92 : decode cX3_given 92 = .ok (.iload_n 2, 1) := by decide +kernel
theorem dX3_given_93 : decode cX3_given 93 = .ok (.iload_n 3, 1) := by decide +kernel
theorem dX3_given_94 : decode cX3_given 94 = .ok (.iadd, 1) := by decide +kernel
theorem dX3_given_95 : decode cX3_given 95 = .ok (.ireturn, 1) := by decide +kernel
theorem dX3_given_96 : decode cX3_given 96 = .ok (.iload_n 2, 1) := by decide +kernel
theorem dX3_given_97 : decode cX3_given 97 = .ok (.iload_n 3, 1) := by decide +kernel
theorem dX3_given_98 : decode cX3_given 98 = .ok (.imul, 1) := by decide +kernel
theorem dX3_given_99 : decode cX3_given 99 = .ok (.ireturn, 1) := by decide +kernel
theorem dX3_given_100 : decode cX3_given 100 = .ok (.iload_n 3, 1) := by decide +kernel
theorem dX3_given_101 : decode cX3_given 101 = .ok (.ifCond .ne 11, 3) := by decide +kernel
theorem dX3_given_104 : decode cX3_given 104 = .ok (.aload_n 0, 1) := by decide +kernel
theorem dX3_given_105 : decode cX3_given 105 = .ok (.iconst 1, 1) := by decide +kernel
theorem dX3_given_106 : decode cX3_given 106 = .ok (.iload_n 1, 1) := by decide +kernel
theorem dX3_given_107 : decode cX3_given 107 = .ok (.invokevirtual 85, 3) := by decide +kernel
theorem dX3_given_110 : decode cX3_given 110 = .ok (.iconst 0, 1) := by decide +kernel
theorem dX3_given_111 : decode cX3_given 111 = .ok (.ireturn, 1) := by decide +kernel
theorem dX3_given_112 : decode cX3_given 112 = .ok (.aload_n 0, 1) := by decide +kernel
theorem dX3_given_113 : decode cX3_given 113 = .ok (.getfield 22, 3) := by decide +kernel
theorem dX3_given_116 : decode cX3_given 116 = .ok (.iload_n 1, 1) := by decide +kernel
theorem dX3_given_117 : decode cX3_given 117 = .ok (.iaload, 1) := by decide +kernel
theorem dX3_given_118 : decode cX3_given 118 = .ok (.iconst 2, 1) := by decide +kernel
theorem dX3_given_119 : decode cX3_given 119 = .ok (.if_icmp .ne 9, 3) := by decide +kernel
theorem dX3_given_122 : decode cX3_given 122 = .ok (.iload_n 2, 1) := by decide +kernel
theorem dX3_given_123 : decode cX3_given 123 = .ok (.iload_n 3, 1) := by decide +kernel
theorem dX3_given_124 : decode cX3_given 124 = .ok (.idiv, 1) := by decide +kernel
theorem dX3_given_125 : decode cX3_given 125 = .ok (.goto 6, 3) := by decide +kernel
theorem dX3_given_128 : decode cX3_given 128 = .ok (.iload_n 2, 1) := by decide +kernel
theorem dX3_given_129 : decode cX3_given 129 = .ok (.iload_n 3, 1) := by decide +kernel
theorem dX3_given_130 : decode cX3_given 130 = .ok (.irem, 1) := by decide +kernel
theorem dX3_given_131 : decode cX3_given 131 = .ok (.ireturn, 1) := by decide +kernel
theorem dX3_given_132 : decode cX3_given 132 = .ok (.iload_n 2, 1) := by decide +kernel
theorem dX3_given_133 : decode cX3_given 133 = .ok (.aload_n 0, 1) := by decide +kernel
theorem dX3_given_134 : decode cX3_given 134 = .ok (.getfield 31, 3) := by decide +kernel
theorem dX3_given_137 : decode cX3_given 137 = .ok (.iload_n 1, 1) := by decide +kernel
theorem dX3_given_138 : decode cX3_given 138 = .ok (.iaload, 1) := by decide +kernel
theorem dX3_given_139 : decode cX3_given 139 = .ok (.iadd, 1) := by decide +kernel
theorem dX3_given_140 : decode cX3_given 140 = .ok (.ireturn, 1) := by decide +kernel
theorem dX3_given_141 : decode cX3_given 141 = .ok (.iload_n 2, 1) := by decide +kernel
theorem dX3_given_142 : decode cX3_given 142 = .ok (.aload_n 0, 1) := by decide +kernel
theorem dX3_given_143 : decode cX3_given 143 = .ok (.getfield 7, 3) := by decide +kernel
theorem dX3_given_146 : decode cX3_given 146 = .ok (.iload_n 3, 1) := by decide +kernel
theorem dX3_given_147 : decode cX3_given 147 = .ok (.iaload, 1) := by decide +kernel
theorem dX3_given_148 : decode cX3_given 148 = .ok (.iadd, 1) := by decide +kernel
theorem dX3_given_149 : decode cX3_given 149 = .ok (.ireturn, 1) := by decide +kernel
theorem dX3_given_150 : decode cX3_given 150 = .ok (.aload_n 0, 1) := by decide +kernel
theorem dX3_given_151 : decode cX3_given 151 = .ok (.aload_n 0, 1) := by decide +kernel
theorem dX3_given_152 : decode cX3_given 152 = .ok (.getfield 34, 3) := by decide +kernel
theorem dX3_given_155 : decode cX3_given 155 = .ok (.iload_n 1, 1) := by decide +kernel
theorem dX3_given_156 : decode cX3_given 156 = .ok (.iaload, 1) := by decide +kernel
theorem dX3_given_157 : decode cX3_given 157 = .ok (.iload_n 2, 1) := by decide +kernel
theorem dX3_given_158 : decode cX3_given 158 = .ok (.iload_n 1, 1) := by decide +kernel
theorem dX3_given_159 : decode cX3_given 159 = .ok (.invokevirtual 101, 3) := by decide +kernel
theorem dX3_given_162 : decode cX3_given 162 = .ok (.ireturn, 1) := by decide +kernel
theorem dX3_given_163 : decode cX3_given 163 = .ok (.aload_n 0, 1) := by decide +kernel
theorem dX3_given_164 : decode cX3_given 164 = .ok (.aload_n 0, 1) := by decide +kernel
theorem dX3_given_165 : decode cX3_given 165 = .ok (.getfield 13, 3) := by decide +kernel
theorem dX3_given_168 : decode cX3_given 168 = .ok (.iload_n 3, 1) := by decide +kernel
theorem dX3_given_169 : decode cX3_given 169 = .ok (.iaload, 1) := by decide +kernel
theorem dX3_given_170 : decode cX3_given 170 = .ok (.iload_n 2, 1) := by decide +kernel
theorem dX3_given_171 : decode cX3_given 171 = .ok (.iload_n 1, 1) := by decide +kernel
theorem dX3_given_172 : decode cX3_given 172 = .ok (.invokevirtual 101, 3) := by decide +kernel
theorem dX3_given_175 : decode cX3_given 175 = .ok (.ireturn, 1) := by decide +kernel
theorem dX3_given_176 : decode cX3_given 176 = .ok (.aload_n 0, 1) := by decide +kernel
theorem dX3_given_177 : decode cX3_given 177 = .ok (.getfield 7, 3) := by decide +kernel
theorem dX3_given_180 : decode cX3_given 180 = .ok (.iload_n 3, 1) := by decide +kernel
theorem dX3_given_181 : decode cX3_given 181 = .ok (.dup2, 1) := by decide +kernel
theorem dX3_given_182 : decode cX3_given 182 = .ok (.iaload, 1) := by decide +kernel
theorem dX3_given_183 : decode cX3_given 183 = .ok (.iconst 1, 1) := by decide +kernel
theorem dX3_given_184 : decode cX3_given 184 = .ok (.iadd, 1) := by decide +kernel
theorem dX3_given_185 : decode cX3_given 185 = .ok (.iastore, 1) := by decide +kernel
theorem dX3_given_186 : decode cX3_given 186 = .ok (.iload_n 2, 1) := by decide +kernel
theorem dX3_given_187 : decode cX3_given 187 = .ok (.aload_n 0, 1) := by decide +kernel
theorem dX3_given_188 : decode cX3_given 188 = .ok (.getfield 7, 3) := by decide +kernel
theorem dX3_given_191 : decode cX3_given 191 = .ok (.iload_n 3, 1) := by decide +kernel
theorem dX3_given_192 : decode cX3_given 192 = .ok (.iaload, 1) := by decide +kernel
theorem dX3_given_193 : decode cX3_given 193 = .ok (.iadd, 1) := by decide +kernel
theorem dX3_given_194 : decode cX3_given 194 = .ok (.ireturn, 1) := by decide +kernel
theorem dX3_given_195 : decode cX3_given 195 = .ok (.aload_n 0, 1) := by decide +kernel
theorem dX3_given_196 : decode cX3_given 196 = .ok (.getfield 37, 3) := by decide +kernel
theorem dX3_given_199 : decode cX3_given 199 = .ok (.iload_n 1, 1) := by decide +kernel
theorem dX3_given_200 : decode cX3_given 200 = .ok (.dup2, 1) := by decide +kernel
theorem dX3_given_201 : decode cX3_given 201 = .ok (.iaload, 1) := by decide +kernel
theorem dX3_given_202 : decode cX3_given 202 = .ok (.iconst 1, 1) := by decide +kernel
theorem dX3_given_203 : decode cX3_given 203 = .ok (.iadd, 1) := by decide +kernel
theorem dX3_given_204 : decode cX3_given 204 = .ok (.iastore, 1) := by decide +kernel
theorem dX3_given_205 : decode cX3_given 205 = .ok (.iload_n 2, 1) := by decide +kernel
theorem dX3_given_206 : decode cX3_given 206 = .ok (.iload_n 3, 1) := by decide +kernel
theorem dX3_given_207 : decode cX3_given 207 = .ok (.aload_n 0, 1) := by decide +kernel
theorem dX3_given_208 : decode cX3_given 208 = .ok (.getfield 37, 3) := by decide +kernel
theorem dX3_given_211 : decode cX3_given 211 = .ok (.iload_n 1, 1) := by decide +kernel
theorem dX3_given_212 : decode cX3_given 212 = .ok (.iaload, 1) := by decide +kernel
theorem dX3_given_213 : decode cX3_given 213 = .ok (.imul, 1) := by decide +kernel
theorem dX3_given_214 : decode cX3_given 214 = .ok (.iadd, 1) := by decide +kernel
theorem dX3_given_215 : decode cX3_given 215 = .ok (.ireturn, 1) := by decide +kernel
theorem dX3_given_216 : decode cX3_given 216 = .ok (.aload_n 0, 1) := by decide +kernel
theorem dX3_given_217 : decode cX3_given 217 = .ok (.getfield 31, 3) := by decide +kernel
theorem dX3_given_220 : decode cX3_given 220 = .ok (.iload_n 1, 1) := by decide +kernel
theorem dX3_given_221 : decode cX3_given 221 = .ok (.iaload, 1) := by decide +kernel
theorem dX3_given_222 : decode cX3_given 222 = .ok (.ireturn, 1) := by decide +kernel
theorem dX3_given_223 : decode cX3_given 223 = .ok (.iload_n 2, 1) := by decide +kernel
theorem dX3_given_224 : decode cX3_given 224 = .ok (.bipush 50, 2) := by decide +kernel
theorem dX3_given_226 : decode cX3_given 226 = .ok (.irem, 1) := by decide +kernel
theorem dX3_given_227 : decode cX3_given 227 = .ok (.ifCond .ge 9, 3) := by decide +kernel
theorem dX3_given_230 : decode cX3_given 230 = .ok (.aload_n 0, 1) := by decide +kernel
theorem dX3_given_231 : decode cX3_given 231 = .ok (.iconst 4, 1) := by decide +kernel
theorem dX3_given_232 : decode cX3_given 232 = .ok (.iload_n 1, 1) := by decide +kernel
theorem dX3_given_233 : decode cX3_given 233 = .ok (.invokevirtual 85, 3) := by decide +kernel
theorem dX3_given_236 : decode cX3_given 236 = .ok (.iload_n 2, 1) := by decide +kernel
theorem dX3_given_237 : decode cX3_given 237 = .ok (.bipush 50, 2) := by decide +kernel
theorem dX3_given_239 : decode cX3_given 239 = .ok (.irem, 1) := by decide +kernel
theorem dX3_given_240 : decode cX3_given 240 = .ok (.ireturn, 1) := by decide +kernel
theorem dX3_given_241 : decode cX3_given 241 = .ok (.aload_n 0, 1) := by decide +kernel
theorem dX3_given_242 : decode cX3_given 242 = .ok (.iconst 3, 1) := by decide +kernel
theorem dX3_given_243 : decode cX3_given 243 = .ok (.iload_n 1, 1) := by decide +kernel
theorem dX3_given_244 : decode cX3_given 244 = .ok (.invokevirtual 85, 3) := by decide +kernel
theorem dX3_given_247 : decode cX3_given 247 = .ok (.iconst 0, 1) := by decide +kernel
theorem dX3_given_248 : decode cX3_given 248 = .ok (.ireturn, 1) := by decide +kernel
set_option maxRecDepth 20000 in
theorem ggX3_itemAt_X3_fails : GoodIn wsX3_itemAt wsX3_fails := goodIn_r _ [7, 8, 9, 13, 14, 15, 16, 17, 18, 19, 20, 21, 22, 23, 24, 25, 26, 27, 28, 29, 30, 31, 32, 33, 34, 35, 36, 37, 38, 39, 40, 41, 42] (by decide +kernel) (by decide +kernel)
set_option maxRecDepth 20000 in
theorem gX3_itemAt_X3_fails : GoodIn wsX3_itemAt (wsV RX3 85 RX3 yX3_fails wsX3_fails) := goodIn_app (goodIn_of _ (by decide +kernel)) ggX3_itemAt_X3_fails
set_option maxRecDepth 20000 in
theorem ggX3_itemAt_X3_in : GoodIn wsX3_itemAt wsX3_in := goodIn_r _ [12] (by decide +kernel) (by decide +kernel)
set_option maxRecDepth 20000 in
theorem gX3_itemAt_X3_in : GoodIn wsX3_itemAt (va_wsS RX3 68 yX3_in wsX3_in) := goodIn_app (goodIn_of _ (by decide +kernel)) ggX3_itemAt_X3_in
theorem dX3_itemAt_0 : decode cX3_itemAt 0 = .ok (.iload_n 1, 1) := by decide +kernel
theorem dX3_itemAt_1 : decode cX3_itemAt 1 = .ok (.ifCond .ge 11, 3) := by decide +kernel
theorem dX3_itemAt_4 : decode cX3_itemAt 4 = .ok (.aload_n 0, 1) := by decide +kernel
theorem dX3_itemAt_5 : decode cX3_itemAt 5 = .ok (.iconst 3, 1) := by decide +kernel
theorem dX3_itemAt_6 : decode cX3_itemAt 6 = .ok (.iload_n 3, 1) := by decide +kernel
theorem dX3_itemAt_7 : decode cX3_itemAt 7 = .ok (.invokevirtual 85, 3) := by decide +kernel
theorem dX3_itemAt_10 : decode cX3_itemAt 10 = .ok (.iconst 0, 1) := by decide +kernel
theorem dX3_itemAt_11 : decode cX3_itemAt 11 = .ok (.ireturn, 1) := by decide +kernel
theorem dX3_itemAt_12 : decode cX3_itemAt 12 = .ok (.iload_n 2, 1) := by decide +kernel
theorem dX3_itemAt_13 : decode cX3_itemAt 13 = .ok (.iconst 0, 1) := by decide +kernel
theorem dX3_itemAt_14 : decode cX3_itemAt 14 = .ok (.aload_n 0, 1) := by decide +kernel
theorem dX3_itemAt_15 : decode cX3_itemAt 15 = .ok (.getfield 16, 3) := by decide +kernel
theorem dX3_itemAt_18 : decode cX3_itemAt 18 = .ok (.iload_n 1, 1) := by decide +kernel
theorem dX3_itemAt_19 : decode cX3_itemAt 19 = .ok (.iaload, 1) := by decide +kernel
theorem dX3_itemAt_20 : decode cX3_itemAt 20 = .ok (.iconst 1, 1) := by decide +kernel
theorem dX3_itemAt_21 : decode cX3_itemAt 21 = .ok (.isub, 1) := by decide +kernel
theorem dX3_itemAt_22 : decode cX3_itemAt 22 = .ok (.invokestatic 68, 3) := by decide +kernel
theorem dX3_itemAt_25 : decode cX3_itemAt 25 = .ok (.ifCond .ne 11, 3) := by decide +kernel
theorem dX3_itemAt_28 : decode cX3_itemAt 28 = .ok (.aload_n 0, 1) := by decide +kernel
theorem dX3_itemAt_29 : decode cX3_itemAt 29 = .ok (.iconst 2, 1) := by decide +kernel
theorem dX3_itemAt_30 : decode cX3_itemAt 30 = .ok (.iload_n 3, 1) := by decide +kernel
theorem dX3_itemAt_31 : decode cX3_itemAt 31 = .ok (.invokevirtual 85, 3) := by decide +kernel
theorem dX3_itemAt_34 : decode cX3_itemAt 34 = .ok (.iconst 0, 1) := by decide +kernel
theorem dX3_itemAt_35 : decode cX3_itemAt 35 = .ok (.ireturn, 1) := by decide +kernel
theorem dX3_itemAt_36 : decode cX3_itemAt 36 = .ok (.aload_n 0, 1) := by decide +kernel
theorem dX3_itemAt_37 : decode cX3_itemAt 37 = .ok (.getfield 19, 3) := by decide +kernel
theorem dX3_itemAt_40 : decode cX3_itemAt 40 = .ok (.bipush 10, 2) := by decide +kernel
theorem dX3_itemAt_42 : decode cX3_itemAt 42 = .ok (.iload_n 1, 1) := by decide +kernel
theorem dX3_itemAt_43 : decode cX3_itemAt 43 = .ok (.imul, 1) := by decide +kernel
theorem dX3_itemAt_44 : decode cX3_itemAt 44 = .ok (.iload_n 2, 1) := by decide +kernel
theorem dX3_itemAt_45 : decode cX3_itemAt 45 = .ok (.iadd, 1) := by decide +kernel
theorem dX3_itemAt_46 : decode cX3_itemAt 46 = .ok (.iaload, 1) := by decide +kernel
theorem dX3_itemAt_47 : decode cX3_itemAt 47 = .ok (.ireturn, 1) := by decide +kernel
set_option maxRecDepth 20000 in
theorem ggX3_goesOn_X3_begins : GoodIn wsX3_goesOn wsX3_begins := goodIn_r _ [14, 15, 16, 2, 1, 3, 4, 17, 18, 19, 13, 20, 21, 22, 23, 24, 25, 26, 27, 28, 29, 30, 31, 32, 33, 34, 35, 36, 37, 38, 39, 40, 41, 42, 43, 44, 45, 46, 47, 48, 49, 50, 51, 52] (by decide +kernel) (by decide +kernel)
set_option maxRecDepth 20000 in
theorem gX3_goesOn_X3_begins : GoodIn wsX3_goesOn (wsV RX3 105 RX3 yX3_begins wsX3_begins) := goodIn_app (goodIn_of _ (by decide +kernel)) ggX3_goesOn_X3_begins
theorem dX3_goesOn_0 : decode cX3_goesOn 0 = .ok (.aload_n 0, 1) := by decide +kernel
theorem dX3_goesOn_1 : decode cX3_goesOn 1 = .ok (.getfield 92, 3) := by decide +kernel
theorem dX3_goesOn_4 : decode cX3_goesOn 4 = .ok (.iconst 1, 1) := by decide +kernel
theorem dX3_goesOn_5 : decode cX3_goesOn 5 = .ok (.isub, 1) := by decide +kernel
theorem dX3_goesOn_6 : decode cX3_goesOn 6 = .ok (.istore_n 2, 1) := by decide +kernel
theorem dX3_goesOn_7 : decode cX3_goesOn 7 = .ok (.aload_n 0, 1) := by decide +kernel
theorem dX3_goesOn_8 : decode cX3_goesOn 8 = .ok (.getfield 40, 3) := by decide +kernel
theorem dX3_goesOn_11 : decode cX3_goesOn 11 = .ok (.iload_n 2, 1) := by decide +kernel
theorem dX3_goesOn_12 : decode cX3_goesOn 12 = .ok (.iaload, 1) := by decide +kernel
theorem dX3_goesOn_13 : decode cX3_goesOn 13 = .ok (.istore_n 3, 1) := by decide +kernel
theorem dX3_goesOn_14 : decode cX3_goesOn 14 = .ok (.aload_n 0, 1) := by decide +kernel
theorem dX3_goesOn_15 : decode cX3_goesOn 15 = .ok (.getfield 43, 3) := by decide +kernel
theorem dX3_goesOn_18 : decode cX3_goesOn 18 = .ok (.iload_n 2, 1) := by decide +kernel
theorem dX3_goesOn_19 : decode cX3_goesOn 19 = .ok (.iaload, 1) := by decide +kernel
theorem dX3_goesOn_20 : decode cX3_goesOn 20 = .ok (.istore 4, 2) := by decide +kernel
theorem dX3_goesOn_22 : decode cX3_goesOn 22 = .ok (.aload_n 0, 1) := by decide +kernel
theorem dX3_goesOn_23 : decode cX3_goesOn 23 = .ok (.getfield 46, 3) := by decide +kernel
theorem dX3_goesOn_26 : decode cX3_goesOn 26 = .ok (.iload_n 2, 1) := by decide +kernel
theorem dX3_goesOn_27 : decode cX3_goesOn 27 = .ok (.iaload, 1) := by decide +kernel
theorem dX3_goesOn_28 : decode cX3_goesOn 28 = .ok (.istore 5, 2) := by decide +kernel
theorem dX3_goesOn_30 : decode cX3_goesOn 30 = .ok (.aload_n 0, 1) := by decide +kernel
theorem dX3_goesOn_31 : decode cX3_goesOn 31 = .ok (.getfield 46, 3) := by decide +kernel
theorem dX3_goesOn_34 : decode cX3_goesOn 34 = .ok (.iload_n 2, 1) := by decide +kernel
theorem dX3_goesOn_35 : decode cX3_goesOn 35 = .ok (.dup2, 1) := by decide +kernel
theorem dX3_goesOn_36 : decode cX3_goesOn 36 = .ok (.iaload, 1) := by decide +kernel
theorem dX3_goesOn_37 : decode cX3_goesOn 37 = .ok (.iconst 1, 1) := by decide +kernel
theorem dX3_goesOn_38 : decode cX3_goesOn 38 = .ok (.iadd, 1) := by decide +kernel
theorem dX3_goesOn_39 : decode cX3_goesOn 39 = .ok (.iastore, 1) := by decide +kernel
theorem dX3_goesOn_40 : decode cX3_goesOn 40 = .ok (.iload 5, 2) := by decide +kernel
theorem dX3_goesOn_42 : decode cX3_goesOn 42 = .ok (.ifCond .ne 19, 3) := by decide +kernel
theorem dX3_goesOn_45 : decode cX3_goesOn 45 = .ok (.aload_n 0, 1) := by decide +kernel
theorem dX3_goesOn_46 : decode cX3_goesOn 46 = .ok (.aload_n 0, 1) := by decide +kernel
theorem dX3_goesOn_47 : decode cX3_goesOn 47 = .ok (.getfield 25, 3) := by decide +kernel
theorem dX3_goesOn_50 : decode cX3_goesOn 50 = .ok (.iload_n 3, 1) := by decide +kernel
theorem dX3_goesOn_51 : decode cX3_goesOn 51 = .ok (.iaload, 1) := by decide +kernel
theorem dX3_goesOn_52 : decode cX3_goesOn 52 = .ok (.iload 4, 2) := by decide +kernel
theorem dX3_goesOn_54 : decode cX3_goesOn 54 = .ok (.invokevirtual 105, 3) := by decide +kernel
theorem dX3_goesOn_57 : decode cX3_goesOn 57 = .ok (.istore 6, 2) := by decide +kernel
theorem dX3_goesOn_59 : decode cX3_goesOn 59 = .ok (.iconst 0, 1) := by decide +kernel
theorem dX3_goesOn_60 : decode cX3_goesOn 60 = .ok (.ireturn, 1) := by decide +kernel
theorem dX3_goesOn_61 : decode cX3_goesOn 61 = .ok (.aload_n 0, 1) := by decide +kernel
theorem dX3_goesOn_62 : decode cX3_goesOn 62 = .ok (.getfield 22, 3) := by decide +kernel
theorem dX3_goesOn_65 : decode cX3_goesOn 65 = .ok (.iload_n 3, 1) := by decide +kernel
theorem dX3_goesOn_66 : decode cX3_goesOn 66 = .ok (.iaload, 1) := by decide +kernel
theorem dX3_goesOn_67 : decode cX3_goesOn 67 = .ok (.istore 6, 2) := by decide +kernel
theorem dX3_goesOn_69 : decode cX3_goesOn 69 = .ok (.iload 5, 2) := by decide +kernel
theorem dX3_goesOn_71 : decode cX3_goesOn 71 = .ok (.iconst 1, 1) := by decide +kernel
theorem dX3_goesOn_72 : decode cX3_goesOn 72 = .ok (.if_icmp .ne 39, 3) := by decide +kernel
theorem dX3_goesOn_75 : decode cX3_goesOn 75 = .ok (.iload 6, 2) := by decide +kernel
theorem dX3_goesOn_77 : decode cX3_goesOn 77 = .ok (.bipush 8, 2) := by decide +kernel
theorem dX3_goesOn_79 : decode cX3_goesOn 79 = .ok (.if_icmp .eq 28, 3) := by decide +kernel
theorem dX3_goesOn_82 : decode cX3_goesOn 82 = .ok (.iload 6, 2) := by decide +kernel
theorem dX3_goesOn_84 : decode cX3_goesOn 84 = .ok (.bipush 9, 2) := by decide +kernel
theorem dX3_goesOn_86 : decode cX3_goesOn 86 = .ok (.if_icmp .eq 21, 3) := by decide +kernel
theorem dX3_goesOn_89 : decode cX3_goesOn 89 = .ok (.iload 6, 2) := by decide +kernel
theorem dX3_goesOn_91 : decode cX3_goesOn 91 = .ok (.bipush 16, 2) := by decide +kernel
theorem dX3_goesOn_93 : decode cX3_goesOn 93 = .ok (.if_icmp .eq 14, 3) := by decide +kernel
theorem dX3_goesOn_96 : decode cX3_goesOn 96 = .ok (.iload 6, 2) := by decide +kernel
theorem dX3_goesOn_98 : decode cX3_goesOn 98 = .ok (.bipush 10, 2) := by decide +kernel
theorem dX3_goesOn_100 : decode cX3_goesOn 100 = .ok (.if_icmp .ne 11, 3) := by decide +kernel
theorem dX3_goesOn_103 : decode cX3_goesOn 103 = .ok (.iload_n 1, 1) := by decide +kernel
theorem dX3_goesOn_104 : decode cX3_goesOn 104 = .ok (.ifCond .eq 7, 3) := by decide +kernel
theorem dX3_goesOn_107 : decode cX3_goesOn 107 = .ok (.iconst 1, 1) := by decide +kernel
theorem dX3_goesOn_108 : decode cX3_goesOn 108 = .ok (.goto 4, 3) := by decide +kernel
theorem dX3_goesOn_111 : decode cX3_goesOn 111 = .ok (.iconst 0, 1) := by decide +kernel
theorem dX3_goesOn_112 : decode cX3_goesOn 112 = .ok (.istore 7, 2) := by decide +kernel
theorem dX3_goesOn_114 : decode cX3_goesOn 114 = .ok (.iload 7, 2) := by decide +kernel
theorem dX3_goesOn_116 : decode cX3_goesOn 116 = .ok (.ifCond .eq 60, 3) := by decide +kernel
theorem dX3_goesOn_119 : decode cX3_goesOn 119 = .ok (.aload_n 0, 1) := by decide +kernel
theorem dX3_goesOn_120 : decode cX3_goesOn 120 = .ok (.getfield 49, 3) := by decide +kernel
theorem dX3_goesOn_123 : decode cX3_goesOn 123 = .ok (.iload_n 2, 1) := by decide +kernel
theorem dX3_goesOn_124 : decode cX3_goesOn 124 = .ok (.iload_n 1, 1) := by decide +kernel
theorem dX3_goesOn_125 : decode cX3_goesOn 125 = .ok (.iastore, 1) := by decide +kernel
theorem dX3_goesOn_126 : decode cX3_goesOn 126 = .ok (.aload_n 0, 1) := by decide +kernel
theorem dX3_goesOn_127 : decode cX3_goesOn 127 = .ok (.iload 6, 2) := by decide +kernel
theorem dX3_goesOn_129 : decode cX3_goesOn 129 = .ok (.bipush 9, 2) := by decide +kernel
theorem dX3_goesOn_131 : decode cX3_goesOn 131 = .ok (.if_icmp .ne 12, 3) := by decide +kernel
theorem dX3_goesOn_134 : decode cX3_goesOn 134 = .ok (.aload_n 0, 1) := by decide +kernel
theorem dX3_goesOn_135 : decode cX3_goesOn 135 = .ok (.getfield 25, 3) := by decide +kernel
theorem dX3_goesOn_138 : decode cX3_goesOn 138 = .ok (.iload_n 3, 1) := by decide +kernel
theorem dX3_goesOn_139 : decode cX3_goesOn 139 = .ok (.iaload, 1) := by decide +kernel
theorem dX3_goesOn_140 : decode cX3_goesOn 140 = .ok (.goto 9, 3) := by decide +kernel
theorem dX3_goesOn_143 : decode cX3_goesOn 143 = .ok (.aload_n 0, 1) := by decide +kernel
theorem dX3_goesOn_144 : decode cX3_goesOn 144 = .ok (.getfield 28, 3) := by decide +kernel
theorem dX3_goesOn_147 : decode cX3_goesOn 147 = .ok (.iload_n 3, 1) := by decide +kernel
theorem dX3_goesOn_148 : decode cX3_goesOn 148 = .ok (.iaload, 1) := by decide +kernel
theorem dX3_goesOn_149 : decode cX3_goesOn 149 = .ok (.iload 6, 2) := by decide +kernel
theorem dX3_goesOn_151 : decode cX3_goesOn 151 = .ok (.bipush 8, 2) := by decide +kernel
theorem dX3_goesOn_153 : decode cX3_goesOn 153 = .ok (.if_icmp .eq 10, 3) := by decide +kernel
theorem dX3_goesOn_156 : decode cX3_goesOn 156 = .ok (.iload 6, 2) := by decide +kernel
theorem dX3_goesOn_158 : decode cX3_goesOn 158 = .ok (.bipush 9, 2) := by decide +kernel
theorem dX3_goesOn_160 : decode cX3_goesOn 160 = .ok (.if_icmp .ne 7, 3) := by decide +kernel
theorem dX3_goesOn_163 : decode cX3_goesOn 163 = .ok (.iload_n 1, 1) := by decide +kernel
theorem dX3_goesOn_164 : decode cX3_goesOn 164 = .ok (.goto 5, 3) := by decide +kernel
theorem dX3_goesOn_167 : decode cX3_goesOn 167 = .ok (.iload 4, 2) := by decide +kernel
theorem dX3_goesOn_169 : decode cX3_goesOn 169 = .ok (.invokevirtual 105, 3) := by decide +kernel
theorem dX3_goesOn_172 : decode cX3_goesOn 172 = .ok (.istore 8, 2) := by decide +kernel
theorem dX3_goesOn_174 : decode cX3_goesOn 174 = .ok (.iconst 0, 1) := by decide +kernel
theorem dX3_goesOn_175 : decode cX3_goesOn 175 = .ok (.ireturn, 1) := by decide +kernel
theorem dX3_goesOn_176 : decode cX3_goesOn 176 = .ok (.aload_n 0, 1) := by decide +kernel
theorem dX3_goesOn_177 : decode cX3_goesOn 177 = .ok (.iload 6, 2) := by decide +kernel
theorem dX3_goesOn_179 : decode cX3_goesOn 179 = .ok (.bipush 10, 2) := by decide +kernel
theorem dX3_goesOn_181 : decode cX3_goesOn 181 = .ok (.if_icmp .ne 14, 3) := by decide +kernel
theorem dX3_goesOn_184 : decode cX3_goesOn 184 = .ok (.iload 5, 2) := by decide +kernel
theorem dX3_goesOn_186 : decode cX3_goesOn 186 = .ok (.iconst 1, 1) := by decide +kernel
theorem dX3_goesOn_187 : decode cX3_goesOn 187 = .ok (.if_icmp .ne 8, 3) := by decide +kernel
theorem dX3_goesOn_190 : decode cX3_goesOn 190 = .ok (.iload 4, 2) := by decide +kernel
theorem dX3_goesOn_192 : decode cX3_goesOn 192 = .ok (.goto 34, 3) := by decide +kernel
theorem dX3_goesOn_195 : decode cX3_goesOn 195 = .ok (.iload 6, 2) := by decide +kernel
theorem dX3_goesOn_197 : decode cX3_goesOn 197 = .ok (.bipush 16, 2) := by decide +kernel
theorem dX3_goesOn_199 : decode cX3_goesOn 199 = .ok (.if_icmp .ne 26, 3) := by decide +kernel
theorem dX3_goesOn_202 : decode cX3_goesOn 202 = .ok (.aload_n 0, 1) := by decide +kernel
theorem dX3_goesOn_203 : decode cX3_goesOn 203 = .ok (.getfield 49, 3) := by decide +kernel
theorem dX3_goesOn_206 : decode cX3_goesOn 206 = .ok (.iload_n 2, 1) := by decide +kernel
theorem dX3_goesOn_207 : decode cX3_goesOn 207 = .ok (.iaload, 1) := by decide +kernel
theorem dX3_goesOn_208 : decode cX3_goesOn 208 = .ok (.iload_n 1, 1) := by decide +kernel
theorem dX3_goesOn_209 : decode cX3_goesOn 209 = .ok (.if_icmp .ge 12, 3) := by decide +kernel
theorem dX3_goesOn_212 : decode cX3_goesOn 212 = .ok (.aload_n 0, 1) := by decide +kernel
theorem dX3_goesOn_213 : decode cX3_goesOn 213 = .ok (.getfield 49, 3) := by decide +kernel
theorem dX3_goesOn_216 : decode cX3_goesOn 216 = .ok (.iload_n 2, 1) := by decide +kernel
theorem dX3_goesOn_217 : decode cX3_goesOn 217 = .ok (.iaload, 1) := by decide +kernel
theorem dX3_goesOn_218 : decode cX3_goesOn 218 = .ok (.goto 8, 3) := by decide +kernel
theorem dX3_goesOn_221 : decode cX3_goesOn 221 = .ok (.iload_n 1, 1) := by decide +kernel
theorem dX3_goesOn_222 : decode cX3_goesOn 222 = .ok (.goto 4, 3) := by decide +kernel
theorem dX3_goesOn_225 : decode cX3_goesOn 225 = .ok (.iload_n 1, 1) := by decide +kernel
theorem dX3_goesOn_226 : decode cX3_goesOn 226 = .ok (.putfield 109, 3) := by decide +kernel
theorem dX3_goesOn_229 : decode cX3_goesOn 229 = .ok (.iconst 1, 1) := by decide +kernel
theorem dX3_goesOn_230 : decode cX3_goesOn 230 = .ok (.ireturn, 1) := by decide +kernel
set_option maxRecDepth 20000 in
theorem ggX3_recovers_X3_begins : GoodIn wsX3_recovers wsX3_begins := goodIn_r _ [13, 14, 15, 4, 1, 8, 5, 16, 17, 18, 12, 19, 2, 20, 21, 22, 23, 24, 25, 26, 27, 28, 29, 30, 31, 32, 33, 34, 35, 36, 37, 38, 39, 40, 41, 42, 43, 44, 45, 46, 47, 48, 49, 50] (by decide +kernel) (by decide +kernel)
set_option maxRecDepth 20000 in
theorem gX3_recovers_X3_begins : GoodIn wsX3_recovers (wsV RX3 105 RX3 yX3_begins wsX3_begins) := goodIn_app (goodIn_of _ (by decide +kernel)) ggX3_recovers_X3_begins
theorem dX3_recovers_0 : decode cX3_recovers 0 = .ok (.iconst 0, 1) := by decide +kernel
theorem dX3_recovers_1 : decode cX3_recovers 1 = .ok (.istore_n 1, 1) := by decide +kernel
theorem dX3_recovers_2 : decode cX3_recovers 2 = .ok (.aload_n 0, 1) := by decide +kernel
theorem dX3_recovers_3 : decode cX3_recovers 3 = .ok (.getfield 92, 3) := by decide +kernel
theorem dX3_recovers_6 : decode cX3_recovers 6 = .ok (.ifCond .le 131, 3) := by decide +kernel
theorem dX3_recovers_9 : decode cX3_recovers 9 = .ok (.iload_n 1, 1) := by decide +kernel
theorem dX3_recovers_10 : decode cX3_recovers 10 = .ok (.ifCond .ne 127, 3) := by decide +kernel
theorem dX3_recovers_13 : decode cX3_recovers 13 = .ok (.aload_n 0, 1) := by decide +kernel
theorem dX3_recovers_14 : decode cX3_recovers 14 = .ok (.getfield 92, 3) := by decide +kernel
theorem dX3_recovers_17 : decode cX3_recovers 17 = .ok (.iconst 1, 1) := by decide +kernel
theorem dX3_recovers_18 : decode cX3_recovers 18 = .ok (.isub, 1) := by decide +kernel
theorem dX3_recovers_19 : decode cX3_recovers 19 = .ok (.istore_n 2, 1) := by decide +kernel
theorem dX3_recovers_20 : decode cX3_recovers 20 = .ok (.aload_n 0, 1) := by decide +kernel
theorem dX3_recovers_21 : decode cX3_recovers 21 = .ok (.getfield 95, 3) := by decide +kernel
theorem dX3_recovers_24 : decode cX3_recovers 24 = .ok (.iconst 5, 1) := by decide +kernel
theorem dX3_recovers_25 : decode cX3_recovers 25 = .ok (.if_icmp .eq 33, 3) := by decide +kernel
theorem dX3_recovers_28 : decode cX3_recovers 28 = .ok (.aload_n 0, 1) := by decide +kernel
theorem dX3_recovers_29 : decode cX3_recovers 29 = .ok (.getfield 22, 3) := by decide +kernel
theorem dX3_recovers_32 : decode cX3_recovers 32 = .ok (.aload_n 0, 1) := by decide +kernel
theorem dX3_recovers_33 : decode cX3_recovers 33 = .ok (.getfield 40, 3) := by decide +kernel
theorem dX3_recovers_36 : decode cX3_recovers 36 = .ok (.iload_n 2, 1) := by decide +kernel
theorem dX3_recovers_37 : decode cX3_recovers 37 = .ok (.iaload, 1) := by decide +kernel
theorem dX3_recovers_38 : decode cX3_recovers 38 = .ok (.iaload, 1) := by decide +kernel
theorem dX3_recovers_39 : decode cX3_recovers 39 = .ok (.bipush 11, 2) := by decide +kernel
theorem dX3_recovers_41 : decode cX3_recovers 41 = .ok (.if_icmp .ne 17, 3) := by decide +kernel
theorem dX3_recovers_44 : decode cX3_recovers 44 = .ok (.aload_n 0, 1) := by decide +kernel
theorem dX3_recovers_45 : decode cX3_recovers 45 = .ok (.getfield 46, 3) := by decide +kernel
theorem dX3_recovers_48 : decode cX3_recovers 48 = .ok (.iload_n 2, 1) := by decide +kernel
theorem dX3_recovers_49 : decode cX3_recovers 49 = .ok (.iaload, 1) := by decide +kernel
theorem dX3_recovers_50 : decode cX3_recovers 50 = .ok (.iconst 1, 1) := by decide +kernel
theorem dX3_recovers_51 : decode cX3_recovers 51 = .ok (.if_icmp .ne 7, 3) := by decide +kernel
theorem dX3_recovers_54 : decode cX3_recovers 54 = .ok (.iconst 1, 1) := by decide +kernel
theorem dX3_recovers_55 : decode cX3_recovers 55 = .ok (.goto 4, 3) := by decide +kernel
theorem dX3_recovers_58 : decode cX3_recovers 58 = .ok (.iconst 0, 1) := by decide +kernel
theorem dX3_recovers_59 : decode cX3_recovers 59 = .ok (.istore_n 1, 1) := by decide +kernel
theorem dX3_recovers_60 : decode cX3_recovers 60 = .ok (.iload_n 1, 1) := by decide +kernel
theorem dX3_recovers_61 : decode cX3_recovers 61 = .ok (.ifCond .eq 63, 3) := by decide +kernel
theorem dX3_recovers_64 : decode cX3_recovers 64 = .ok (.aload_n 0, 1) := by decide +kernel
theorem dX3_recovers_65 : decode cX3_recovers 65 = .ok (.iconst 0, 1) := by decide +kernel
theorem dX3_recovers_66 : decode cX3_recovers 66 = .ok (.putfield 95, 3) := by decide +kernel
theorem dX3_recovers_69 : decode cX3_recovers 69 = .ok (.aload_n 0, 1) := by decide +kernel
theorem dX3_recovers_70 : decode cX3_recovers 70 = .ok (.dup, 1) := by decide +kernel
theorem dX3_recovers_71 : decode cX3_recovers 71 = .ok (.getfield 112, 3) := by decide +kernel
theorem dX3_recovers_74 : decode cX3_recovers 74 = .ok (.iconst 1, 1) := by decide +kernel
theorem dX3_recovers_75 : decode cX3_recovers 75 = .ok (.iadd, 1) := by decide +kernel
theorem dX3_recovers_76 : decode cX3_recovers 76 = .ok (.putfield 112, 3) := by decide +kernel
theorem dX3_recovers_79 : decode cX3_recovers 79 = .ok (.aload_n 0, 1) := by decide +kernel
theorem dX3_recovers_80 : decode cX3_recovers 80 = .ok (.getfield 46, 3) := by decide +kernel
theorem dX3_recovers_83 : decode cX3_recovers 83 = .ok (.iload_n 2, 1) := by decide +kernel
theorem dX3_recovers_84 : decode cX3_recovers 84 = .ok (.iconst 2, 1) := by decide +kernel
theorem dX3_recovers_85 : decode cX3_recovers 85 = .ok (.iastore, 1) := by decide +kernel
theorem dX3_recovers_86 : decode cX3_recovers 86 = .ok (.aload_n 0, 1) := by decide +kernel
theorem dX3_recovers_87 : decode cX3_recovers 87 = .ok (.aload_n 0, 1) := by decide +kernel
theorem dX3_recovers_88 : decode cX3_recovers 88 = .ok (.getfield 28, 3) := by decide +kernel
theorem dX3_recovers_91 : decode cX3_recovers 91 = .ok (.aload_n 0, 1) := by decide +kernel
theorem dX3_recovers_92 : decode cX3_recovers 92 = .ok (.getfield 40, 3) := by decide +kernel
theorem dX3_recovers_95 : decode cX3_recovers 95 = .ok (.iload_n 2, 1) := by decide +kernel
theorem dX3_recovers_96 : decode cX3_recovers 96 = .ok (.iaload, 1) := by decide +kernel
theorem dX3_recovers_97 : decode cX3_recovers 97 = .ok (.iaload, 1) := by decide +kernel
theorem dX3_recovers_98 : decode cX3_recovers 98 = .ok (.aload_n 0, 1) := by decide +kernel
theorem dX3_recovers_99 : decode cX3_recovers 99 = .ok (.getfield 43, 3) := by decide +kernel
theorem dX3_recovers_102 : decode cX3_recovers 102 = .ok (.iload_n 2, 1) := by decide +kernel
theorem dX3_recovers_103 : decode cX3_recovers 103 = .ok (.iaload, 1) := by decide +kernel
theorem dX3_recovers_104 : decode cX3_recovers 104 = .ok (.invokevirtual 105, 3) := by decide +kernel
theorem dX3_recovers_107 : decode cX3_recovers 107 = .ok (.istore_n 3, 1) := by decide +kernel
theorem dX3_recovers_108 : decode cX3_recovers 108 = .ok (.aload_n 0, 1) := by decide +kernel
theorem dX3_recovers_109 : decode cX3_recovers 109 = .ok (.getfield 95, 3) := by decide +kernel
theorem dX3_recovers_112 : decode cX3_recovers 112 = .ok (.ifCond .ne 7, 3) := by decide +kernel
theorem dX3_recovers_115 : decode cX3_recovers 115 = .ok (.iconst 1, 1) := by decide +kernel
theorem dX3_recovers_116 : decode cX3_recovers 116 = .ok (.goto 4, 3) := by decide +kernel
theorem dX3_recovers_119 : decode cX3_recovers 119 = .ok (.iconst 0, 1) := by decide +kernel
theorem dX3_recovers_120 : decode cX3_recovers 120 = .ok (.istore_n 1, 1) := by decide +kernel
theorem dX3_recovers_121 : decode cX3_recovers 121 = .ok (.goto 13, 3) := by decide +kernel
theorem dX3_recovers_124 : decode cX3_recovers 124 = .ok (.aload_n 0, 1) := by decide +kernel
theorem dX3_recovers_125 : decode cX3_recovers 125 = .ok (.dup, 1) := by decide +kernel
theorem dX3_recovers_126 : decode cX3_recovers 126 = .ok (.getfield 92, 3) := by decide +kernel
theorem dX3_recovers_129 : decode cX3_recovers 129 = .ok (.iconst 1, 1) := by decide +kernel
theorem dX3_recovers_130 : decode cX3_recovers 130 = .ok (.isub, 1) := by decide +kernel
theorem dX3_recovers_131 : decode cX3_recovers 131 = .ok (.putfield 92, 3) := by decide +kernel
theorem dX3_recovers_134 : decode cX3_recovers 134 = .ok (.goto (-132), 3) := by decide +kernel
theorem dX3_recovers_137 : decode cX3_recovers 137 = .ok (.return_, 1) := by decide +kernel
set_option maxRecDepth 20000 in
theorem ggX3_gives_X3_begins : GoodIn wsX3_gives wsX3_begins := goodIn_r _ [11, 12, 13, 3, 1, 6, 14, 15, 16, 17, 10, 18, 2, 19, 53, 54, 55, 56, 57, 58, 59, 60, 61, 62, 63, 64, 65, 66, 67, 68, 69, 70, 71, 72, 73, 74, 75, 76, 77, 78, 79, 80, 81, 82] (by decide +kernel) (by decide +kernel)
set_option maxRecDepth 20000 in
theorem gX3_gives_X3_begins : GoodIn wsX3_gives (wsV RX3 105 RX3 yX3_begins wsX3_begins) := goodIn_app (goodIn_of _ (by decide +kernel)) ggX3_gives_X3_begins
set_option maxRecDepth 20000 in
theorem ggX3_gives_X3_recovers : GoodIn wsX3_gives wsX3_recovers := goodIn_r _ [23, 1, 2, 4, 3, 14, 24, 25, 6, 7, 8, 9, 10, 11, 12, 13, 15, 16, 17, 18, 19, 53, 54, 55, 56, 57, 58, 59, 60, 61, 62, 63, 64, 65, 66, 67, 68, 69, 70, 71, 72, 73, 74, 75, 76, 77, 78, 79, 80, 81, 82] (by decide +kernel) (by decide +kernel)
set_option maxRecDepth 20000 in
theorem gX3_gives_X3_recovers : GoodIn wsX3_gives (wsV RX3 115 RX3 yX3_recovers wsX3_recovers) := goodIn_app (goodIn_of _ (by decide +kernel)) ggX3_gives_X3_recovers
set_option maxRecDepth 20000 in
theorem ggX3_gives_X3_asks : GoodIn wsX3_gives wsX3_asks := goodIn_r _ [28, 29, 30, 10, 31] (by decide +kernel) (by decide +kernel)
set_option maxRecDepth 20000 in
theorem gX3_gives_X3_asks : GoodIn wsX3_gives (va_wsS RX3 118 yX3_asks wsX3_asks) := goodIn_app (goodIn_of _ (by decide +kernel)) ggX3_gives_X3_asks
set_option maxRecDepth 20000 in
theorem ggX3_gives_X3_goesOn : GoodIn wsX3_gives wsX3_goesOn := goodIn_r _ [35, 1, 3, 6, 14, 36, 4, 37, 25, 5, 7, 8, 9, 10, 11, 12, 13, 15, 16, 17, 18, 2, 19, 53, 54, 55, 56, 57, 58, 59, 60, 61, 62, 63, 64, 65, 66, 67, 68, 69, 70, 71, 72, 73, 74, 75, 76, 77, 78, 79, 80, 81, 82] (by decide +kernel) (by decide +kernel)
set_option maxRecDepth 20000 in
theorem gX3_gives_X3_goesOn : GoodIn wsX3_gives (wsV RX3 121 RX3 yX3_goesOn wsX3_goesOn) := goodIn_app (goodIn_of _ (by decide +kernel)) ggX3_gives_X3_goesOn
set_option maxRecDepth 20000 in
theorem ggX3_gives_X3_given : GoodIn wsX3_gives wsX3_given := goodIn_r _ [41, 36, 4, 42, 43, 44, 45, 46, 15, 16, 17, 10, 18, 2, 19, 47, 48, 49, 50, 51, 52, 29, 30, 31, 53, 54, 55, 56, 57, 58, 59, 60, 61, 62, 63, 64, 65, 66, 67, 68, 69, 70, 71, 72, 73, 74, 75, 76, 77, 78, 79, 80, 81, 82] (by decide +kernel) (by decide +kernel)
set_option maxRecDepth 20000 in
theorem gX3_gives_X3_given : GoodIn wsX3_gives (wsV RX3 124 RX3 yX3_given wsX3_given) := goodIn_app (goodIn_of _ (by decide +kernel)) ggX3_gives_X3_given
theorem dX3_gives_0 : decode cX3_gives 0 = .ok (.aload_n 0, 1) := by decide +kernel
theorem dX3_gives_1 : decode cX3_gives 1 = .ok (.iconst 0, 1) := by decide +kernel
theorem dX3_gives_2 : decode cX3_gives 2 = .ok (.putfield 92, 3) := by decide +kernel
theorem dX3_gives_5 : decode cX3_gives 5 = .ok (.aload_n 0, 1) := by decide +kernel
theorem dX3_gives_6 : decode cX3_gives 6 = .ok (.iconst 0, 1) := by decide +kernel
theorem dX3_gives_7 : decode cX3_gives 7 = .ok (.putfield 95, 3) := by decide +kernel
theorem dX3_gives_10 : decode cX3_gives 10 = .ok (.aload_n 0, 1) := by decide +kernel
theorem dX3_gives_11 : decode cX3_gives 11 = .ok (.iload_n 1, 1) := by decide +kernel
theorem dX3_gives_12 : decode cX3_gives 12 = .ok (.iload_n 2, 1) := by decide +kernel
theorem dX3_gives_13 : decode cX3_gives 13 = .ok (.invokevirtual 105, 3) := by decide +kernel
theorem dX3_gives_16 : decode cX3_gives 16 = .ok (.istore_n 3, 1) := by decide +kernel
theorem dX3_gives_17 : decode cX3_gives 17 = .ok (.aload_n 0, 1) := by decide +kernel
theorem dX3_gives_18 : decode cX3_gives 18 = .ok (.getfield 92, 3) := by decide +kernel
theorem dX3_gives_21 : decode cX3_gives 21 = .ok (.ifCond .gt 10, 3) := by decide +kernel
theorem dX3_gives_24 : decode cX3_gives 24 = .ok (.aload_n 0, 1) := by decide +kernel
theorem dX3_gives_25 : decode cX3_gives 25 = .ok (.getfield 95, 3) := by decide +kernel
theorem dX3_gives_28 : decode cX3_gives 28 = .ok (.ifCond .le 111, 3) := by decide +kernel
theorem dX3_gives_31 : decode cX3_gives 31 = .ok (.aload_n 0, 1) := by decide +kernel
theorem dX3_gives_32 : decode cX3_gives 32 = .ok (.getfield 95, 3) := by decide +kernel
theorem dX3_gives_35 : decode cX3_gives 35 = .ok (.ifCond .le 16, 3) := by decide +kernel
theorem dX3_gives_38 : decode cX3_gives 38 = .ok (.aload_n 0, 1) := by decide +kernel
theorem dX3_gives_39 : decode cX3_gives 39 = .ok (.invokevirtual 115, 3) := by decide +kernel
theorem dX3_gives_42 : decode cX3_gives 42 = .ok (.aload_n 0, 1) := by decide +kernel
theorem dX3_gives_43 : decode cX3_gives 43 = .ok (.getfield 95, 3) := by decide +kernel
theorem dX3_gives_46 : decode cX3_gives 46 = .ok (.ifCond .le 5, 3) := by decide +kernel
theorem dX3_gives_49 : decode cX3_gives 49 = .ok (.iconst 0, 1) := by decide +kernel
theorem dX3_gives_50 : decode cX3_gives 50 = .ok (.ireturn, 1) := by decide +kernel
theorem dX3_gives_51 : decode cX3_gives 51 = .ok (.aload_n 0, 1) := by decide +kernel
theorem dX3_gives_52 : decode cX3_gives 52 = .ok (.getfield 40, 3) := by decide +kernel
theorem dX3_gives_55 : decode cX3_gives 55 = .ok (.aload_n 0, 1) := by decide +kernel
theorem dX3_gives_56 : decode cX3_gives 56 = .ok (.getfield 92, 3) := by decide +kernel
theorem dX3_gives_59 : decode cX3_gives 59 = .ok (.iconst 1, 1) := by decide +kernel
theorem dX3_gives_60 : decode cX3_gives 60 = .ok (.isub, 1) := by decide +kernel
theorem dX3_gives_61 : decode cX3_gives 61 = .ok (.iaload, 1) := by decide +kernel
theorem dX3_gives_62 : decode cX3_gives 62 = .ok (.istore 4, 2) := by decide +kernel
theorem dX3_gives_64 : decode cX3_gives 64 = .ok (.iconst 1, 1) := by decide +kernel
theorem dX3_gives_65 : decode cX3_gives 65 = .ok (.istore 5, 2) := by decide +kernel
theorem dX3_gives_67 : decode cX3_gives 67 = .ok (.aload_n 0, 1) := by decide +kernel
theorem dX3_gives_68 : decode cX3_gives 68 = .ok (.getfield 22, 3) := by decide +kernel
theorem dX3_gives_71 : decode cX3_gives 71 = .ok (.iload 4, 2) := by decide +kernel
theorem dX3_gives_73 : decode cX3_gives 73 = .ok (.iaload, 1) := by decide +kernel
theorem dX3_gives_74 : decode cX3_gives 74 = .ok (.invokestatic 118, 3) := by decide +kernel
theorem dX3_gives_77 : decode cX3_gives 77 = .ok (.ifCond .eq 16, 3) := by decide +kernel
theorem dX3_gives_80 : decode cX3_gives 80 = .ok (.aload_n 0, 1) := by decide +kernel
theorem dX3_gives_81 : decode cX3_gives 81 = .ok (.aload_n 0, 1) := by decide +kernel
theorem dX3_gives_82 : decode cX3_gives 82 = .ok (.getfield 109, 3) := by decide +kernel
theorem dX3_gives_85 : decode cX3_gives 85 = .ok (.invokevirtual 121, 3) := by decide +kernel
theorem dX3_gives_88 : decode cX3_gives 88 = .ok (.istore 5, 2) := by decide +kernel
theorem dX3_gives_90 : decode cX3_gives 90 = .ok (.goto 24, 3) := by decide +kernel
theorem dX3_gives_93 : decode cX3_gives 93 = .ok (.aload_n 0, 1) := by decide +kernel
theorem dX3_gives_94 : decode cX3_gives 94 = .ok (.aload_n 0, 1) := by decide +kernel
theorem dX3_gives_95 : decode cX3_gives 95 = .ok (.iload 4, 2) := by decide +kernel
theorem dX3_gives_97 : decode cX3_gives 97 = .ok (.aload_n 0, 1) := by decide +kernel
theorem dX3_gives_98 : decode cX3_gives 98 = .ok (.getfield 43, 3) := by decide +kernel
theorem dX3_gives_101 : decode cX3_gives 101 = .ok (.aload_n 0, 1) := by decide +kernel
theorem dX3_gives_102 : decode cX3_gives 102 = .ok (.getfield 92, 3) := by decide +kernel
theorem dX3_gives_105 : decode cX3_gives 105 = .ok (.iconst 1, 1) := by decide +kernel
theorem dX3_gives_106 : decode cX3_gives 106 = .ok (.isub, 1) := by decide +kernel
theorem dX3_gives_107 : decode cX3_gives 107 = .ok (.iaload, 1) := by decide +kernel
theorem dX3_gives_108 : decode cX3_gives 108 = .ok (.invokevirtual 124, 3) := by decide +kernel
theorem dX3_gives_111 : decode cX3_gives 111 = .ok (.putfield 109, 3) := by decide +kernel
theorem dX3_gives_114 : decode cX3_gives 114 = .ok (.aload_n 0, 1) := by decide +kernel
theorem dX3_gives_115 : decode cX3_gives 115 = .ok (.getfield 95, 3) := by decide +kernel
theorem dX3_gives_118 : decode cX3_gives 118 = .ok (.ifCond .ne 18, 3) := by decide +kernel
theorem dX3_gives_121 : decode cX3_gives 121 = .ok (.iload 5, 2) := by decide +kernel
theorem dX3_gives_123 : decode cX3_gives 123 = .ok (.ifCond .eq 13, 3) := by decide +kernel
theorem dX3_gives_126 : decode cX3_gives 126 = .ok (.aload_n 0, 1) := by decide +kernel
theorem dX3_gives_127 : decode cX3_gives 127 = .ok (.dup, 1) := by decide +kernel
theorem dX3_gives_128 : decode cX3_gives 128 = .ok (.getfield 92, 3) := by decide +kernel
theorem dX3_gives_131 : decode cX3_gives 131 = .ok (.iconst 1, 1) := by decide +kernel
theorem dX3_gives_132 : decode cX3_gives 132 = .ok (.isub, 1) := by decide +kernel
theorem dX3_gives_133 : decode cX3_gives 133 = .ok (.putfield 92, 3) := by decide +kernel
theorem dX3_gives_136 : decode cX3_gives 136 = .ok (.goto (-119), 3) := by decide +kernel
theorem dX3_gives_139 : decode cX3_gives 139 = .ok (.iconst 1, 1) := by decide +kernel
theorem dX3_gives_140 : decode cX3_gives 140 = .ok (.ireturn, 1) := by decide +kernel
theorem dX3_startsCall_0 : decode cX3_startsCall 0 = .ok (.aload_n 0, 1) := by decide +kernel
theorem dX3_startsCall_1 : decode cX3_startsCall 1 = .ok (.iconst 0, 1) := by decide +kernel
theorem dX3_startsCall_2 : decode cX3_startsCall 2 = .ok (.putfield 82, 3) := by decide +kernel
theorem dX3_startsCall_5 : decode cX3_startsCall 5 = .ok (.aload_n 0, 1) := by decide +kernel
theorem dX3_startsCall_6 : decode cX3_startsCall 6 = .ok (.iconst 0, 1) := by decide +kernel
theorem dX3_startsCall_7 : decode cX3_startsCall 7 = .ok (.putfield 95, 3) := by decide +kernel
theorem dX3_startsCall_10 : decode cX3_startsCall 10 = .ok (.return_, 1) := by decide +kernel
set_option maxRecDepth 20000 in
theorem ggX3_ends_X3_failed : GoodIn wsX3_ends wsX3_failed := goodIn_r _ [9, 10, 11, 12, 13, 14, 15, 16, 17, 18, 19, 20, 21, 22, 23, 24, 25, 26, 27, 28, 29, 30, 31, 32, 33, 34, 35, 36, 37, 38, 39, 40, 41, 42] (by decide +kernel) (by decide +kernel)
set_option maxRecDepth 20000 in
theorem gX3_ends_X3_failed : GoodIn wsX3_ends (wsV RX3 131 RX3 yX3_failed wsX3_failed) := goodIn_app (goodIn_of _ (by decide +kernel)) ggX3_ends_X3_failed
theorem dX3_ends_0 : decode cX3_ends 0 = .ok (.aload_n 0, 1) := by decide +kernel
theorem dX3_ends_1 : decode cX3_ends 1 = .ok (.aload_n 0, 1) := by decide +kernel
theorem dX3_ends_2 : decode cX3_ends 2 = .ok (.getfield 82, 3) := by decide +kernel
theorem dX3_ends_5 : decode cX3_ends 5 = .ok (.putfield 128, 3) := by decide +kernel
theorem dX3_ends_8 : decode cX3_ends 8 = .ok (.aload_n 0, 1) := by decide +kernel
theorem dX3_ends_9 : decode cX3_ends 9 = .ok (.getfield 95, 3) := by decide +kernel
theorem dX3_ends_12 : decode cX3_ends 12 = .ok (.ifCond .le 19, 3) := by decide +kernel
theorem dX3_ends_15 : decode cX3_ends 15 = .ok (.aload_n 0, 1) := by decide +kernel
theorem dX3_ends_16 : decode cX3_ends 16 = .ok (.aload_n 0, 1) := by decide +kernel
theorem dX3_ends_17 : decode cX3_ends 17 = .ok (.getfield 95, 3) := by decide +kernel
theorem dX3_ends_20 : decode cX3_ends 20 = .ok (.aload_n 0, 1) := by decide +kernel
theorem dX3_ends_21 : decode cX3_ends 21 = .ok (.getfield 98, 3) := by decide +kernel
theorem dX3_ends_24 : decode cX3_ends 24 = .ok (.iconst 0, 1) := by decide +kernel
theorem dX3_ends_25 : decode cX3_ends 25 = .ok (.invokevirtual 131, 3) := by decide +kernel
theorem dX3_ends_28 : decode cX3_ends 28 = .ok (.goto 4, 3) := by decide +kernel
theorem dX3_ends_31 : decode cX3_ends 31 = .ok (.iload_n 1, 1) := by decide +kernel
theorem dX3_ends_32 : decode cX3_ends 32 = .ok (.ireturn, 1) := by decide +kernel
theorem dX3_failed_0 : decode cX3_failed 0 = .ok (.aload_n 0, 1) := by decide +kernel
theorem dX3_failed_1 : decode cX3_failed 1 = .ok (.iload_n 1, 1) := by decide +kernel
theorem dX3_failed_2 : decode cX3_failed 2 = .ok (.putfield 134, 3) := by decide +kernel
theorem dX3_failed_5 : decode cX3_failed 5 = .ok (.aload_n 0, 1) := by decide +kernel
theorem dX3_failed_6 : decode cX3_failed 6 = .ok (.iload_n 2, 1) := by decide +kernel
theorem dX3_failed_7 : decode cX3_failed 7 = .ok (.putfield 52, 3) := by decide +kernel
theorem dX3_failed_10 : decode cX3_failed 10 = .ok (.aload_n 0, 1) := by decide +kernel
theorem dX3_failed_11 : decode cX3_failed 11 = .ok (.dup, 1) := by decide +kernel
theorem dX3_failed_12 : decode cX3_failed 12 = .ok (.getfield 137, 3) := by decide +kernel
theorem dX3_failed_15 : decode cX3_failed 15 = .ok (.iconst 1, 1) := by decide +kernel
theorem dX3_failed_16 : decode cX3_failed 16 = .ok (.iadd, 1) := by decide +kernel
theorem dX3_failed_17 : decode cX3_failed 17 = .ok (.putfield 137, 3) := by decide +kernel
theorem dX3_failed_20 : decode cX3_failed 20 = .ok (.bipush (-10), 2) := by decide +kernel
theorem dX3_failed_22 : decode cX3_failed 22 = .ok (.iload_n 1, 1) := by decide +kernel
theorem dX3_failed_23 : decode cX3_failed 23 = .ok (.isub, 1) := by decide +kernel
theorem dX3_failed_24 : decode cX3_failed 24 = .ok (.ireturn, 1) := by decide +kernel
set_option maxRecDepth 20000 in
theorem ggX3_rule_X3_in : GoodIn wsX3_rule wsX3_in := goodIn_r _ [14] (by decide +kernel) (by decide +kernel)
set_option maxRecDepth 20000 in
theorem gX3_rule_X3_in : GoodIn wsX3_rule (va_wsS RX3 68 yX3_in wsX3_in) := goodIn_app (goodIn_of _ (by decide +kernel)) ggX3_rule_X3_in
set_option maxRecDepth 20000 in
theorem ggX3_rule_X3_asks : GoodIn wsX3_rule wsX3_asks := goodIn_r _ [17, 11, 12, 13, 14] (by decide +kernel) (by decide +kernel)
set_option maxRecDepth 20000 in
theorem gX3_rule_X3_asks : GoodIn wsX3_rule (va_wsS RX3 118 yX3_asks wsX3_asks) := goodIn_app (goodIn_of _ (by decide +kernel)) ggX3_rule_X3_asks
set_option maxRecDepth 20000 in
theorem ggX3_rule_X3_isRule : GoodIn wsX3_rule wsX3_isRule := goodIn_r _ [21, 1, 11, 12, 13, 14, 78, 79, 80, 81, 82, 83, 84, 85, 86, 87, 88, 89, 90, 91, 92, 93, 94, 95, 96, 97, 98, 99, 100, 101, 102, 103, 104, 105, 106, 107] (by decide +kernel) (by decide +kernel)
set_option maxRecDepth 20000 in
theorem gX3_rule_X3_isRule : GoodIn wsX3_rule (wsV RX3 140 RX3 yX3_isRule wsX3_isRule) := goodIn_app (goodIn_of _ (by decide +kernel)) ggX3_rule_X3_isRule
set_option maxRecDepth 20000 in
theorem ggX3_rule_X3_startsCall : GoodIn wsX3_rule wsX3_startsCall := goodIn_r _ [25, 26, 27, 78, 79, 80, 81, 82, 83, 84, 85, 86, 87, 88, 89, 90, 91, 92, 93, 94, 95, 96, 97, 98, 99, 100, 101, 102, 103, 104, 105, 106, 107] (by decide +kernel) (by decide +kernel)
set_option maxRecDepth 20000 in
theorem gX3_rule_X3_startsCall : GoodIn wsX3_rule (wsV RX3 143 RX3 yX3_startsCall wsX3_startsCall) := goodIn_app (goodIn_of _ (by decide +kernel)) ggX3_rule_X3_startsCall
set_option maxRecDepth 20000 in
theorem ggX3_rule_X3_gives : GoodIn wsX3_rule wsX3_gives := goodIn_r _ [31, 32, 27, 33, 4, 3, 34, 35, 36, 37, 13, 38, 26, 39, 40, 41, 42, 43, 44, 45, 46, 47, 48, 49, 50, 6, 15, 16, 17, 11, 12, 14, 51, 52, 53, 54, 5, 55, 56, 57, 58, 59, 7, 2, 8, 9, 10, 60, 61, 62, 63, 64, 65, 78, 79, 80, 81, 82, 83, 84, 85, 86, 87, 88, 89, 90, 91, 92, 93, 94, 95, 96, 97, 98, 99, 100, 101, 102, 103, 104, 105, 106, 107] (by decide +kernel) (by decide +kernel)
set_option maxRecDepth 20000 in
theorem gX3_rule_X3_gives : GoodIn wsX3_rule (wsV RX3 146 RX3 yX3_gives wsX3_gives) := goodIn_app (goodIn_of _ (by decide +kernel)) ggX3_rule_X3_gives
set_option maxRecDepth 20000 in
theorem ggX3_rule_X3_ends : GoodIn wsX3_rule wsX3_ends := goodIn_r _ [69, 26, 70, 27, 45, 71, 72, 73, 13, 74, 75, 76, 77, 78, 79, 80, 81, 82, 83, 84, 85, 86, 87, 88, 89, 90, 91, 92, 93, 94, 95, 96, 97, 98, 99, 100, 101, 102, 103, 104, 105, 106, 107] (by decide +kernel) (by decide +kernel)
set_option maxRecDepth 20000 in
theorem gX3_rule_X3_ends : GoodIn wsX3_rule (wsV RX3 149 RX3 yX3_ends wsX3_ends) := goodIn_app (goodIn_of _ (by decide +kernel)) ggX3_rule_X3_ends
theorem dX3_rule_0 : decode cX3_rule 0 = .ok (.iload_n 1, 1) := by decide +kernel
theorem dX3_rule_1 : decode cX3_rule 1 = .ok (.iconst 0, 1) := by decide +kernel
theorem dX3_rule_2 : decode cX3_rule 2 = .ok (.bipush 17, 2) := by decide +kernel
theorem dX3_rule_4 : decode cX3_rule 4 = .ok (.invokestatic 68, 3) := by decide +kernel
theorem dX3_rule_7 : decode cX3_rule 7 = .ok (.ifCond .eq 96, 3) := by decide +kernel
theorem dX3_rule_10 : decode cX3_rule 10 = .ok (.iload_n 1, 1) := by decide +kernel
theorem dX3_rule_11 : decode cX3_rule 11 = .ok (.invokestatic 118, 3) := by decide +kernel
theorem dX3_rule_14 : decode cX3_rule 14 = .ok (.ifCond .ne 9, 3) := by decide +kernel
theorem dX3_rule_17 : decode cX3_rule 17 = .ok (.iload_n 1, 1) := by decide +kernel
theorem dX3_rule_18 : decode cX3_rule 18 = .ok (.bipush 14, 2) := by decide +kernel
theorem dX3_rule_20 : decode cX3_rule 20 = .ok (.if_icmp .ne 11, 3) := by decide +kernel
theorem dX3_rule_23 : decode cX3_rule 23 = .ok (.aload_n 0, 1) := by decide +kernel
theorem dX3_rule_24 : decode cX3_rule 24 = .ok (.iload_n 2, 1) := by decide +kernel
theorem dX3_rule_25 : decode cX3_rule 25 = .ok (.invokevirtual 140, 3) := by decide +kernel
theorem dX3_rule_28 : decode cX3_rule 28 = .ok (.ifCond .eq 75, 3) := by decide +kernel
theorem dX3_rule_31 : decode cX3_rule 31 = .ok (.iload_n 1, 1) := by decide +kernel
theorem dX3_rule_32 : decode cX3_rule 32 = .ok (.iconst 4, 1) := by decide +kernel
theorem dX3_rule_33 : decode cX3_rule 33 = .ok (.if_icmp .eq 14, 3) := by decide +kernel
theorem dX3_rule_36 : decode cX3_rule 36 = .ok (.iload_n 1, 1) := by decide +kernel
theorem dX3_rule_37 : decode cX3_rule 37 = .ok (.iconst 5, 1) := by decide +kernel
theorem dX3_rule_38 : decode cX3_rule 38 = .ok (.if_icmp .eq 9, 3) := by decide +kernel
theorem dX3_rule_41 : decode cX3_rule 41 = .ok (.iload_n 1, 1) := by decide +kernel
theorem dX3_rule_42 : decode cX3_rule 42 = .ok (.bipush 12, 2) := by decide +kernel
theorem dX3_rule_44 : decode cX3_rule 44 = .ok (.if_icmp .ne 13, 3) := by decide +kernel
theorem dX3_rule_47 : decode cX3_rule 47 = .ok (.iload_n 2, 1) := by decide +kernel
theorem dX3_rule_48 : decode cX3_rule 48 = .ok (.iconst 0, 1) := by decide +kernel
theorem dX3_rule_49 : decode cX3_rule 49 = .ok (.bipush 7, 2) := by decide +kernel
theorem dX3_rule_51 : decode cX3_rule 51 = .ok (.invokestatic 68, 3) := by decide +kernel
theorem dX3_rule_54 : decode cX3_rule 54 = .ok (.ifCond .eq 49, 3) := by decide +kernel
theorem dX3_rule_57 : decode cX3_rule 57 = .ok (.iload_n 1, 1) := by decide +kernel
theorem dX3_rule_58 : decode cX3_rule 58 = .ok (.bipush 6, 2) := by decide +kernel
theorem dX3_rule_60 : decode cX3_rule 60 = .ok (.if_icmp .eq 9, 3) := by decide +kernel
theorem dX3_rule_63 : decode cX3_rule 63 = .ok (.iload_n 1, 1) := by decide +kernel
theorem dX3_rule_64 : decode cX3_rule 64 = .ok (.bipush 7, 2) := by decide +kernel
theorem dX3_rule_66 : decode cX3_rule 66 = .ok (.if_icmp .ne 12, 3) := by decide +kernel
theorem dX3_rule_69 : decode cX3_rule 69 = .ok (.iload_n 2, 1) := by decide +kernel
theorem dX3_rule_70 : decode cX3_rule 70 = .ok (.iconst 0, 1) := by decide +kernel
theorem dX3_rule_71 : decode cX3_rule 71 = .ok (.iconst 3, 1) := by decide +kernel
theorem dX3_rule_72 : decode cX3_rule 72 = .ok (.invokestatic 68, 3) := by decide +kernel
theorem dX3_rule_75 : decode cX3_rule 75 = .ok (.ifCond .eq 28, 3) := by decide +kernel
theorem dX3_rule_78 : decode cX3_rule 78 = .ok (.iload_n 1, 1) := by decide +kernel
theorem dX3_rule_79 : decode cX3_rule 79 = .ok (.invokestatic 118, 3) := by decide +kernel
theorem dX3_rule_82 : decode cX3_rule 82 = .ok (.ifCond .eq 17, 3) := by decide +kernel
theorem dX3_rule_85 : decode cX3_rule 85 = .ok (.iload_n 1, 1) := by decide +kernel
theorem dX3_rule_86 : decode cX3_rule 86 = .ok (.bipush 9, 2) := by decide +kernel
theorem dX3_rule_88 : decode cX3_rule 88 = .ok (.if_icmp .eq 11, 3) := by decide +kernel
theorem dX3_rule_91 : decode cX3_rule 91 = .ok (.aload_n 0, 1) := by decide +kernel
theorem dX3_rule_92 : decode cX3_rule 92 = .ok (.iload_n 3, 1) := by decide +kernel
theorem dX3_rule_93 : decode cX3_rule 93 = .ok (.invokevirtual 140, 3) := by decide +kernel
theorem dX3_rule_96 : decode cX3_rule 96 = .ok (.ifCond .eq 7, 3) := by decide +kernel
theorem dX3_rule_99 : decode cX3_rule 99 = .ok (.iconst 1, 1) := by decide +kernel
theorem dX3_rule_100 : decode cX3_rule 100 = .ok (.goto 4, 3) := by decide +kernel
theorem dX3_rule_103 : decode cX3_rule 103 = .ok (.iconst 0, 1) := by decide +kernel
theorem dX3_rule_104 : decode cX3_rule 104 = .ok (.istore 4, 2) := by decide +kernel
theorem dX3_rule_106 : decode cX3_rule 106 = .ok (.iload 4, 2) := by decide +kernel
theorem dX3_rule_108 : decode cX3_rule 108 = .ok (.ifCond .ne 5, 3) := by decide +kernel
theorem dX3_rule_111 : decode cX3_rule 111 = .ok (.iconst (-1), 1) := by decide +kernel
theorem dX3_rule_112 : decode cX3_rule 112 = .ok (.ireturn, 1) := by decide +kernel
theorem dX3_rule_113 : decode cX3_rule 113 = .ok (.aload_n 0, 1) := by decide +kernel
theorem dX3_rule_114 : decode cX3_rule 114 = .ok (.getfield 65, 3) := by decide +kernel
theorem dX3_rule_117 : decode cX3_rule 117 = .ok (.bipush 40, 2) := by decide +kernel
theorem dX3_rule_119 : decode cX3_rule 119 = .ok (.if_icmp .ne 6, 3) := by decide +kernel
theorem dX3_rule_122 : decode cX3_rule 122 = .ok (.bipush (-2), 2) := by decide +kernel
theorem dX3_rule_124 : decode cX3_rule 124 = .ok (.ireturn, 1) := by decide +kernel
theorem dX3_rule_125 : decode cX3_rule 125 = .ok (.iload_n 1, 1) := by decide +kernel
theorem dX3_rule_126 : decode cX3_rule 126 = .ok (.iconst 4, 1) := by decide +kernel
theorem dX3_rule_127 : decode cX3_rule 127 = .ok (.if_icmp .ne 12, 3) := by decide +kernel
theorem dX3_rule_130 : decode cX3_rule 130 = .ok (.aload_n 0, 1) := by decide +kernel
theorem dX3_rule_131 : decode cX3_rule 131 = .ok (.getfield 7, 3) := by decide +kernel
theorem dX3_rule_134 : decode cX3_rule 134 = .ok (.iload_n 2, 1) := by decide +kernel
theorem dX3_rule_135 : decode cX3_rule 135 = .ok (.iaload, 1) := by decide +kernel
theorem dX3_rule_136 : decode cX3_rule 136 = .ok (.goto 4, 3) := by decide +kernel
theorem dX3_rule_139 : decode cX3_rule 139 = .ok (.iconst 0, 1) := by decide +kernel
theorem dX3_rule_140 : decode cX3_rule 140 = .ok (.istore 5, 2) := by decide +kernel
theorem dX3_rule_142 : decode cX3_rule 142 = .ok (.iload_n 1, 1) := by decide +kernel
theorem dX3_rule_143 : decode cX3_rule 143 = .ok (.bipush 14, 2) := by decide +kernel
theorem dX3_rule_145 : decode cX3_rule 145 = .ok (.if_icmp .ne 36, 3) := by decide +kernel
theorem dX3_rule_148 : decode cX3_rule 148 = .ok (.aload_n 0, 1) := by decide +kernel
theorem dX3_rule_149 : decode cX3_rule 149 = .ok (.invokevirtual 143, 3) := by decide +kernel
theorem dX3_rule_152 : decode cX3_rule 152 = .ok (.aload_n 0, 1) := by decide +kernel
theorem dX3_rule_153 : decode cX3_rule 153 = .ok (.iload_n 2, 1) := by decide +kernel
theorem dX3_rule_154 : decode cX3_rule 154 = .ok (.iload_n 3, 1) := by decide +kernel
theorem dX3_rule_155 : decode cX3_rule 155 = .ok (.invokevirtual 146, 3) := by decide +kernel
theorem dX3_rule_158 : decode cX3_rule 158 = .ok (.istore 6, 2) := by decide +kernel
theorem dX3_rule_160 : decode cX3_rule 160 = .ok (.aload_n 0, 1) := by decide +kernel
theorem dX3_rule_161 : decode cX3_rule 161 = .ok (.iconst 1, 1) := by decide +kernel
theorem dX3_rule_162 : decode cX3_rule 162 = .ok (.invokevirtual 149, 3) := by decide +kernel
theorem dX3_rule_165 : decode cX3_rule 165 = .ok (.istore 7, 2) := by decide +kernel
theorem dX3_rule_167 : decode cX3_rule 167 = .ok (.iload 7, 2) := by decide +kernel
theorem dX3_rule_169 : decode cX3_rule 169 = .ok (.ifCond .ge 6, 3) := by decide +kernel
theorem dX3_rule_172 : decode cX3_rule 172 = .ok (.iload 7, 2) := by decide +kernel
theorem dX3_rule_174 : decode cX3_rule 174 = .ok (.ireturn, 1) := by decide +kernel
theorem dX3_rule_175 : decode cX3_rule 175 = .ok (.aload_n 0, 1) := by decide +kernel
theorem dX3_rule_176 : decode cX3_rule 176 = .ok (.getfield 109, 3) := by decide +kernel
theorem dX3_rule_179 : decode cX3_rule 179 = .ok (.istore 5, 2) := by decide +kernel
theorem dX3_rule_181 : decode cX3_rule 181 = .ok (.aload_n 0, 1) := by decide +kernel
theorem dX3_rule_182 : decode cX3_rule 182 = .ok (.getfield 22, 3) := by decide +kernel
theorem dX3_rule_185 : decode cX3_rule 185 = .ok (.aload_n 0, 1) := by decide +kernel
theorem dX3_rule_186 : decode cX3_rule 186 = .ok (.getfield 65, 3) := by decide +kernel
theorem dX3_rule_189 : decode cX3_rule 189 = .ok (.iload_n 1, 1) := by decide +kernel
theorem dX3_rule_190 : decode cX3_rule 190 = .ok (.iastore, 1) := by decide +kernel
theorem dX3_rule_191 : decode cX3_rule 191 = .ok (.aload_n 0, 1) := by decide +kernel
theorem dX3_rule_192 : decode cX3_rule 192 = .ok (.getfield 25, 3) := by decide +kernel
theorem dX3_rule_195 : decode cX3_rule 195 = .ok (.aload_n 0, 1) := by decide +kernel
theorem dX3_rule_196 : decode cX3_rule 196 = .ok (.getfield 65, 3) := by decide +kernel
theorem dX3_rule_199 : decode cX3_rule 199 = .ok (.iload_n 2, 1) := by decide +kernel
theorem dX3_rule_200 : decode cX3_rule 200 = .ok (.iastore, 1) := by decide +kernel
theorem dX3_rule_201 : decode cX3_rule 201 = .ok (.aload_n 0, 1) := by decide +kernel
theorem dX3_rule_202 : decode cX3_rule 202 = .ok (.getfield 28, 3) := by decide +kernel
theorem dX3_rule_205 : decode cX3_rule 205 = .ok (.aload_n 0, 1) := by decide +kernel
theorem dX3_rule_206 : decode cX3_rule 206 = .ok (.getfield 65, 3) := by decide +kernel
theorem dX3_rule_209 : decode cX3_rule 209 = .ok (.iload_n 3, 1) := by decide +kernel
theorem dX3_rule_210 : decode cX3_rule 210 = .ok (.iastore, 1) := by decide +kernel
theorem dX3_rule_211 : decode cX3_rule 211 = .ok (.aload_n 0, 1) := by decide +kernel
theorem dX3_rule_212 : decode cX3_rule 212 = .ok (.getfield 31, 3) := by decide +kernel
theorem dX3_rule_215 : decode cX3_rule 215 = .ok (.aload_n 0, 1) := by decide +kernel
theorem dX3_rule_216 : decode cX3_rule 216 = .ok (.getfield 65, 3) := by decide +kernel
theorem dX3_rule_219 : decode cX3_rule 219 = .ok (.iload 5, 2) := by decide +kernel
theorem dX3_rule_221 : decode cX3_rule 221 = .ok (.iastore, 1) := by decide +kernel
theorem dX3_rule_222 : decode cX3_rule 222 = .ok (.aload_n 0, 1) := by decide +kernel
theorem dX3_rule_223 : decode cX3_rule 223 = .ok (.getfield 34, 3) := by decide +kernel
theorem dX3_rule_226 : decode cX3_rule 226 = .ok (.aload_n 0, 1) := by decide +kernel
theorem dX3_rule_227 : decode cX3_rule 227 = .ok (.getfield 65, 3) := by decide +kernel
theorem dX3_rule_230 : decode cX3_rule 230 = .ok (.iload_n 1, 1) := by decide +kernel
theorem dX3_rule_231 : decode cX3_rule 231 = .ok (.bipush 6, 2) := by decide +kernel
theorem dX3_rule_233 : decode cX3_rule 233 = .ok (.if_icmp .ne 12, 3) := by decide +kernel
theorem dX3_rule_236 : decode cX3_rule 236 = .ok (.aload_n 0, 1) := by decide +kernel
theorem dX3_rule_237 : decode cX3_rule 237 = .ok (.getfield 13, 3) := by decide +kernel
theorem dX3_rule_240 : decode cX3_rule 240 = .ok (.iload_n 2, 1) := by decide +kernel
theorem dX3_rule_241 : decode cX3_rule 241 = .ok (.iaload, 1) := by decide +kernel
theorem dX3_rule_242 : decode cX3_rule 242 = .ok (.goto 4, 3) := by decide +kernel
theorem dX3_rule_245 : decode cX3_rule 245 = .ok (.iconst (-1), 1) := by decide +kernel
theorem dX3_rule_246 : decode cX3_rule 246 = .ok (.iastore, 1) := by decide +kernel
theorem dX3_rule_247 : decode cX3_rule 247 = .ok (.aload_n 0, 1) := by decide +kernel
theorem dX3_rule_248 : decode cX3_rule 248 = .ok (.getfield 37, 3) := by decide +kernel
theorem dX3_rule_251 : decode cX3_rule 251 = .ok (.aload_n 0, 1) := by decide +kernel
theorem dX3_rule_252 : decode cX3_rule 252 = .ok (.getfield 65, 3) := by decide +kernel
theorem dX3_rule_255 : decode cX3_rule 255 = .ok (.iconst 0, 1) := by decide +kernel
theorem dX3_rule_256 : decode cX3_rule 256 = .ok (.iastore, 1) := by decide +kernel
theorem dX3_rule_257 : decode cX3_rule 257 = .ok (.aload_n 0, 1) := by decide +kernel
theorem dX3_rule_258 : decode cX3_rule 258 = .ok (.dup, 1) := by decide +kernel
theorem dX3_rule_259 : decode cX3_rule 259 = .ok (.getfield 65, 3) := by decide +kernel
theorem dX3_rule_262 : decode cX3_rule 262 = .ok (.iconst 1, 1) := by decide +kernel
theorem dX3_rule_263 : decode cX3_rule 263 = .ok (.iadd, 1) := by decide +kernel
theorem dX3_rule_264 : decode cX3_rule 264 = .ok (.putfield 65, 3) := by decide +kernel
theorem dX3_rule_267 : decode cX3_rule 267 = .ok (.aload_n 0, 1) := by decide +kernel
theorem dX3_rule_268 : decode cX3_rule 268 = .ok (.getfield 65, 3) := by decide +kernel
theorem dX3_rule_271 : decode cX3_rule 271 = .ok (.iconst 1, 1) := by decide +kernel
theorem dX3_rule_272 : decode cX3_rule 272 = .ok (.isub, 1) := by decide +kernel
theorem dX3_rule_273 : decode cX3_rule 273 = .ok (.ireturn, 1) := by decide +kernel
set_option maxRecDepth 20000 in
theorem ggX3_apply_X3_isRule : GoodIn wsX3_apply wsX3_isRule := goodIn_r _ [7, 8, 9, 10, 6, 11, 79, 80, 81, 82, 83, 84, 85, 86, 87, 88, 89, 90, 91, 92, 93, 94, 95, 96, 97, 98, 99, 100, 101, 102, 103, 104, 105, 106, 107, 108] (by decide +kernel) (by decide +kernel)
set_option maxRecDepth 20000 in
theorem gX3_apply_X3_isRule : GoodIn wsX3_apply (wsV RX3 140 RX3 yX3_isRule wsX3_isRule) := goodIn_app (goodIn_of _ (by decide +kernel)) ggX3_apply_X3_isRule
set_option maxRecDepth 20000 in
theorem ggX3_apply_X3_startsCall : GoodIn wsX3_apply wsX3_startsCall := goodIn_r _ [15, 16, 17, 79, 80, 81, 82, 83, 84, 85, 86, 87, 88, 89, 90, 91, 92, 93, 94, 95, 96, 97, 98, 99, 100, 101, 102, 103, 104, 105, 106, 107, 108] (by decide +kernel) (by decide +kernel)
set_option maxRecDepth 20000 in
theorem gX3_apply_X3_startsCall : GoodIn wsX3_apply (wsV RX3 143 RX3 yX3_startsCall wsX3_startsCall) := goodIn_app (goodIn_of _ (by decide +kernel)) ggX3_apply_X3_startsCall
set_option maxRecDepth 20000 in
theorem ggX3_apply_X3_gives : GoodIn wsX3_apply wsX3_gives := goodIn_r _ [21, 22, 17, 23, 24, 1, 25, 26, 27, 28, 6, 29, 16, 30, 31, 32, 33, 34, 35, 36, 37, 38, 39, 40, 41, 42, 43, 44, 45, 9, 10, 11, 46, 47, 48, 49, 50, 51, 52, 53, 54, 55, 56, 57, 58, 59, 60, 61, 62, 63, 64, 65, 66, 79, 80, 81, 82, 83, 84, 85, 86, 87, 88, 89, 90, 91, 92, 93, 94, 95, 96, 97, 98, 99, 100, 101, 102, 103, 104, 105, 106, 107, 108] (by decide +kernel) (by decide +kernel)
set_option maxRecDepth 20000 in
theorem gX3_apply_X3_gives : GoodIn wsX3_apply (wsV RX3 146 RX3 yX3_gives wsX3_gives) := goodIn_app (goodIn_of _ (by decide +kernel)) ggX3_apply_X3_gives
set_option maxRecDepth 20000 in
theorem ggX3_apply_X3_ends : GoodIn wsX3_apply wsX3_ends := goodIn_r _ [70, 16, 71, 17, 36, 72, 73, 74, 6, 75, 76, 77, 78, 79, 80, 81, 82, 83, 84, 85, 86, 87, 88, 89, 90, 91, 92, 93, 94, 95, 96, 97, 98, 99, 100, 101, 102, 103, 104, 105, 106, 107, 108] (by decide +kernel) (by decide +kernel)
set_option maxRecDepth 20000 in
theorem gX3_apply_X3_ends : GoodIn wsX3_apply (wsV RX3 149 RX3 yX3_ends wsX3_ends) := goodIn_app (goodIn_of _ (by decide +kernel)) ggX3_apply_X3_ends
theorem dX3_apply_0 : decode cX3_apply 0 = .ok (.aload_n 0, 1) := by decide +kernel
theorem dX3_apply_1 : decode cX3_apply 1 = .ok (.iload_n 1, 1) := by decide +kernel
theorem dX3_apply_2 : decode cX3_apply 2 = .ok (.invokevirtual 140, 3) := by decide +kernel
theorem dX3_apply_5 : decode cX3_apply 5 = .ok (.ifCond .ne 5, 3) := by decide +kernel
theorem dX3_apply_8 : decode cX3_apply 8 = .ok (.iconst (-1), 1) := by decide +kernel
theorem dX3_apply_9 : decode cX3_apply 9 = .ok (.ireturn, 1) := by decide +kernel
theorem dX3_apply_10 : decode cX3_apply 10 = .ok (.aload_n 0, 1) := by decide +kernel
theorem dX3_apply_11 : decode cX3_apply 11 = .ok (.invokevirtual 143, 3) := by decide +kernel
theorem dX3_apply_14 : decode cX3_apply 14 = .ok (.aload_n 0, 1) := by decide +kernel
theorem dX3_apply_15 : decode cX3_apply 15 = .ok (.iload_n 1, 1) := by decide +kernel
theorem dX3_apply_16 : decode cX3_apply 16 = .ok (.iload_n 2, 1) := by decide +kernel
theorem dX3_apply_17 : decode cX3_apply 17 = .ok (.invokevirtual 146, 3) := by decide +kernel
theorem dX3_apply_20 : decode cX3_apply 20 = .ok (.istore_n 3, 1) := by decide +kernel
theorem dX3_apply_21 : decode cX3_apply 21 = .ok (.aload_n 0, 1) := by decide +kernel
theorem dX3_apply_22 : decode cX3_apply 22 = .ok (.iload_n 3, 1) := by decide +kernel
theorem dX3_apply_23 : decode cX3_apply 23 = .ok (.ifCond .eq 10, 3) := by decide +kernel
theorem dX3_apply_26 : decode cX3_apply 26 = .ok (.aload_n 0, 1) := by decide +kernel
theorem dX3_apply_27 : decode cX3_apply 27 = .ok (.getfield 109, 3) := by decide +kernel
theorem dX3_apply_30 : decode cX3_apply 30 = .ok (.goto 7, 3) := by decide +kernel
theorem dX3_apply_33 : decode cX3_apply 33 = .ok (.aload_n 0, 1) := by decide +kernel
theorem dX3_apply_34 : decode cX3_apply 34 = .ok (.getfield 152, 3) := by decide +kernel
theorem dX3_apply_37 : decode cX3_apply 37 = .ok (.putfield 152, 3) := by decide +kernel
theorem dX3_apply_40 : decode cX3_apply 40 = .ok (.aload_n 0, 1) := by decide +kernel
theorem dX3_apply_41 : decode cX3_apply 41 = .ok (.iconst 1, 1) := by decide +kernel
theorem dX3_apply_42 : decode cX3_apply 42 = .ok (.invokevirtual 149, 3) := by decide +kernel
theorem dX3_apply_45 : decode cX3_apply 45 = .ok (.ireturn, 1) := by decide +kernel
set_option maxRecDepth 20000 in
theorem ggX3_each_X3_isRule : GoodIn wsX3_each wsX3_isRule := goodIn_r _ [9, 10, 11, 12, 8, 13, 78, 79, 80, 81, 82, 83, 84, 85, 86, 87, 88, 89, 90, 91, 92, 93, 94, 95, 96, 97, 98, 99, 100, 101, 102, 103, 104, 105, 106, 107] (by decide +kernel) (by decide +kernel)
set_option maxRecDepth 20000 in
theorem gX3_each_X3_isRule : GoodIn wsX3_each (wsV RX3 140 RX3 yX3_isRule wsX3_isRule) := goodIn_app (goodIn_of _ (by decide +kernel)) ggX3_each_X3_isRule
set_option maxRecDepth 20000 in
theorem ggX3_each_X3_in : GoodIn wsX3_each wsX3_in := goodIn_r _ [13] (by decide +kernel) (by decide +kernel)
set_option maxRecDepth 20000 in
theorem gX3_each_X3_in : GoodIn wsX3_each (va_wsS RX3 68 yX3_in wsX3_in) := goodIn_app (goodIn_of _ (by decide +kernel)) ggX3_each_X3_in
set_option maxRecDepth 20000 in
theorem ggX3_each_X3_startsCall : GoodIn wsX3_each wsX3_startsCall := goodIn_r _ [17, 18, 19, 78, 79, 80, 81, 82, 83, 84, 85, 86, 87, 88, 89, 90, 91, 92, 93, 94, 95, 96, 97, 98, 99, 100, 101, 102, 103, 104, 105, 106, 107] (by decide +kernel) (by decide +kernel)
set_option maxRecDepth 20000 in
theorem gX3_each_X3_startsCall : GoodIn wsX3_each (wsV RX3 143 RX3 yX3_startsCall wsX3_startsCall) := goodIn_app (goodIn_of _ (by decide +kernel)) ggX3_each_X3_startsCall
set_option maxRecDepth 20000 in
theorem ggX3_each_X3_gives : GoodIn wsX3_each wsX3_gives := goodIn_r _ [23, 24, 19, 25, 26, 4, 27, 28, 29, 30, 8, 31, 18, 32, 33, 34, 35, 36, 37, 38, 39, 40, 41, 42, 43, 44, 45, 46, 47, 11, 12, 13, 48, 49, 50, 51, 52, 53, 54, 55, 56, 57, 58, 59, 60, 1, 61, 62, 63, 64, 65, 2, 3, 78, 79, 80, 81, 82, 83, 84, 85, 86, 87, 88, 89, 90, 91, 92, 93, 94, 95, 96, 97, 98, 99, 100, 101, 102, 103, 104, 105, 106, 107] (by decide +kernel) (by decide +kernel)
set_option maxRecDepth 20000 in
theorem gX3_each_X3_gives : GoodIn wsX3_each (wsV RX3 146 RX3 yX3_gives wsX3_gives) := goodIn_app (goodIn_of _ (by decide +kernel)) ggX3_each_X3_gives
set_option maxRecDepth 20000 in
theorem ggX3_each_X3_ends : GoodIn wsX3_each wsX3_ends := goodIn_r _ [69, 18, 70, 19, 38, 71, 72, 73, 8, 74, 75, 76, 77, 78, 79, 80, 81, 82, 83, 84, 85, 86, 87, 88, 89, 90, 91, 92, 93, 94, 95, 96, 97, 98, 99, 100, 101, 102, 103, 104, 105, 106, 107] (by decide +kernel) (by decide +kernel)
set_option maxRecDepth 20000 in
theorem gX3_each_X3_ends : GoodIn wsX3_each (wsV RX3 149 RX3 yX3_ends wsX3_ends) := goodIn_app (goodIn_of _ (by decide +kernel)) ggX3_each_X3_ends
theorem dX3_each_0 : decode cX3_each 0 = .ok (.aload_n 0, 1) := by decide +kernel
theorem dX3_each_1 : decode cX3_each 1 = .ok (.iload_n 1, 1) := by decide +kernel
theorem dX3_each_2 : decode cX3_each 2 = .ok (.invokevirtual 140, 3) := by decide +kernel
theorem dX3_each_5 : decode cX3_each 5 = .ok (.ifCond .eq 12, 3) := by decide +kernel
theorem dX3_each_8 : decode cX3_each 8 = .ok (.iload_n 2, 1) := by decide +kernel
theorem dX3_each_9 : decode cX3_each 9 = .ok (.iconst 0, 1) := by decide +kernel
theorem dX3_each_10 : decode cX3_each 10 = .ok (.iconst 3, 1) := by decide +kernel
theorem dX3_each_11 : decode cX3_each 11 = .ok (.invokestatic 68, 3) := by decide +kernel
theorem dX3_each_14 : decode cX3_each 14 = .ok (.ifCond .ne 5, 3) := by decide +kernel
theorem dX3_each_17 : decode cX3_each 17 = .ok (.iconst (-1), 1) := by decide +kernel
theorem dX3_each_18 : decode cX3_each 18 = .ok (.ireturn, 1) := by decide +kernel
theorem dX3_each_19 : decode cX3_each 19 = .ok (.aload_n 0, 1) := by decide +kernel
theorem dX3_each_20 : decode cX3_each 20 = .ok (.getfield 13, 3) := by decide +kernel
theorem dX3_each_23 : decode cX3_each 23 = .ok (.iload_n 2, 1) := by decide +kernel
theorem dX3_each_24 : decode cX3_each 24 = .ok (.iaload, 1) := by decide +kernel
theorem dX3_each_25 : decode cX3_each 25 = .ok (.ifCond .ge 6, 3) := by decide +kernel
theorem dX3_each_28 : decode cX3_each 28 = .ok (.bipush (-13), 2) := by decide +kernel
theorem dX3_each_30 : decode cX3_each 30 = .ok (.ireturn, 1) := by decide +kernel
theorem dX3_each_31 : decode cX3_each 31 = .ok (.aload_n 0, 1) := by decide +kernel
theorem dX3_each_32 : decode cX3_each 32 = .ok (.getfield 13, 3) := by decide +kernel
theorem dX3_each_35 : decode cX3_each 35 = .ok (.iload_n 2, 1) := by decide +kernel
theorem dX3_each_36 : decode cX3_each 36 = .ok (.iaload, 1) := by decide +kernel
theorem dX3_each_37 : decode cX3_each 37 = .ok (.istore_n 3, 1) := by decide +kernel
theorem dX3_each_38 : decode cX3_each 38 = .ok (.aload_n 0, 1) := by decide +kernel
theorem dX3_each_39 : decode cX3_each 39 = .ok (.invokevirtual 143, 3) := by decide +kernel
theorem dX3_each_42 : decode cX3_each 42 = .ok (.iconst 0, 1) := by decide +kernel
theorem dX3_each_43 : decode cX3_each 43 = .ok (.istore 4, 2) := by decide +kernel
theorem dX3_each_45 : decode cX3_each 45 = .ok (.iload 4, 2) := by decide +kernel
theorem dX3_each_47 : decode cX3_each 47 = .ok (.aload_n 0, 1) := by decide +kernel
theorem dX3_each_48 : decode cX3_each 48 = .ok (.getfield 16, 3) := by decide +kernel
theorem dX3_each_51 : decode cX3_each 51 = .ok (.iload_n 3, 1) := by decide +kernel
theorem dX3_each_52 : decode cX3_each 52 = .ok (.iaload, 1) := by decide +kernel
theorem dX3_each_53 : decode cX3_each 53 = .ok (.if_icmp .ge 45, 3) := by decide +kernel
theorem dX3_each_56 : decode cX3_each 56 = .ok (.aload_n 0, 1) := by decide +kernel
theorem dX3_each_57 : decode cX3_each 57 = .ok (.iload_n 1, 1) := by decide +kernel
theorem dX3_each_58 : decode cX3_each 58 = .ok (.aload_n 0, 1) := by decide +kernel
theorem dX3_each_59 : decode cX3_each 59 = .ok (.getfield 19, 3) := by decide +kernel
theorem dX3_each_62 : decode cX3_each 62 = .ok (.bipush 10, 2) := by decide +kernel
theorem dX3_each_64 : decode cX3_each 64 = .ok (.iload_n 3, 1) := by decide +kernel
theorem dX3_each_65 : decode cX3_each 65 = .ok (.imul, 1) := by decide +kernel
theorem dX3_each_66 : decode cX3_each 66 = .ok (.iload 4, 2) := by decide +kernel
theorem dX3_each_68 : decode cX3_each 68 = .ok (.iadd, 1) := by decide +kernel
theorem dX3_each_69 : decode cX3_each 69 = .ok (.iaload, 1) := by decide +kernel
theorem dX3_each_70 : decode cX3_each 70 = .ok (.invokevirtual 146, 3) := by decide +kernel
theorem dX3_each_73 : decode cX3_each 73 = .ok (.ifCond .eq 25, 3) := by decide +kernel
theorem dX3_each_76 : decode cX3_each 76 = .ok (.aload_n 0, 1) := by decide +kernel
theorem dX3_each_77 : decode cX3_each 77 = .ok (.getfield 19, 3) := by decide +kernel
theorem dX3_each_80 : decode cX3_each 80 = .ok (.bipush 10, 2) := by decide +kernel
theorem dX3_each_82 : decode cX3_each 82 = .ok (.iload_n 3, 1) := by decide +kernel
theorem dX3_each_83 : decode cX3_each 83 = .ok (.imul, 1) := by decide +kernel
theorem dX3_each_84 : decode cX3_each 84 = .ok (.iload 4, 2) := by decide +kernel
theorem dX3_each_86 : decode cX3_each 86 = .ok (.iadd, 1) := by decide +kernel
theorem dX3_each_87 : decode cX3_each 87 = .ok (.aload_n 0, 1) := by decide +kernel
theorem dX3_each_88 : decode cX3_each 88 = .ok (.getfield 109, 3) := by decide +kernel
theorem dX3_each_91 : decode cX3_each 91 = .ok (.iastore, 1) := by decide +kernel
theorem dX3_each_92 : decode cX3_each 92 = .ok (.iinc 4 1, 3) := by decide +kernel
theorem dX3_each_95 : decode cX3_each 95 = .ok (.goto (-50), 3) := by decide +kernel
theorem dX3_each_98 : decode cX3_each 98 = .ok (.aload_n 0, 1) := by decide +kernel
theorem dX3_each_99 : decode cX3_each 99 = .ok (.iload 4, 2) := by decide +kernel
theorem dX3_each_101 : decode cX3_each 101 = .ok (.invokevirtual 149, 3) := by decide +kernel
theorem dX3_each_104 : decode cX3_each 104 = .ok (.ireturn, 1) := by decide +kernel
set_option maxRecDepth 20000 in
theorem ggX3_asksEach_X3_startsCall : GoodIn wsX3_asksEach wsX3_startsCall := goodIn_r _ [9, 10, 11, 62, 63, 64, 65, 66, 67, 68, 69, 70, 71, 72, 73, 74, 75, 76, 77, 78, 79, 80, 81, 82, 83, 84, 85, 86, 87, 88, 89, 90, 91] (by decide +kernel) (by decide +kernel)
set_option maxRecDepth 20000 in
theorem gX3_asksEach_X3_startsCall : GoodIn wsX3_asksEach (wsV RX3 143 RX3 yX3_startsCall wsX3_startsCall) := goodIn_app (goodIn_of _ (by decide +kernel)) ggX3_asksEach_X3_startsCall
set_option maxRecDepth 20000 in
theorem ggX3_asksEach_X3_gives : GoodIn wsX3_asksEach wsX3_gives := goodIn_r _ [15, 16, 11, 17, 18, 4, 19, 20, 21, 22, 8, 23, 10, 24, 25, 26, 27, 28, 29, 30, 31, 32, 33, 34, 35, 36, 37, 38, 39, 40, 41, 42, 43, 44, 45, 46, 47, 48, 49, 50, 51, 52, 53, 54, 55, 56, 57, 58, 59, 60, 61, 1, 2, 62, 63, 64, 65, 66, 67, 68, 69, 70, 71, 72, 73, 74, 75, 76, 77, 78, 79, 80, 81, 82, 83, 84, 85, 86, 87, 88, 89, 90, 91] (by decide +kernel) (by decide +kernel)
set_option maxRecDepth 20000 in
theorem gX3_asksEach_X3_gives : GoodIn wsX3_asksEach (wsV RX3 146 RX3 yX3_gives wsX3_gives) := goodIn_app (goodIn_of _ (by decide +kernel)) ggX3_asksEach_X3_gives
theorem dX3_asksEach_0 : decode cX3_asksEach 0 = .ok (.aload_n 0, 1) := by decide +kernel
theorem dX3_asksEach_1 : decode cX3_asksEach 1 = .ok (.invokevirtual 143, 3) := by decide +kernel
theorem dX3_asksEach_4 : decode cX3_asksEach 4 = .ok (.iconst 0, 1) := by decide +kernel
theorem dX3_asksEach_5 : decode cX3_asksEach 5 = .ok (.istore_n 3, 1) := by decide +kernel
theorem dX3_asksEach_6 : decode cX3_asksEach 6 = .ok (.iload_n 3, 1) := by decide +kernel
theorem dX3_asksEach_7 : decode cX3_asksEach 7 = .ok (.aload_n 0, 1) := by decide +kernel
theorem dX3_asksEach_8 : decode cX3_asksEach 8 = .ok (.getfield 16, 3) := by decide +kernel
theorem dX3_asksEach_11 : decode cX3_asksEach 11 = .ok (.iload_n 2, 1) := by decide +kernel
theorem dX3_asksEach_12 : decode cX3_asksEach 12 = .ok (.iaload, 1) := by decide +kernel
theorem dX3_asksEach_13 : decode cX3_asksEach 13 = .ok (.if_icmp .ge 40, 3) := by decide +kernel
theorem dX3_asksEach_16 : decode cX3_asksEach 16 = .ok (.aload_n 0, 1) := by decide +kernel
theorem dX3_asksEach_17 : decode cX3_asksEach 17 = .ok (.iload_n 1, 1) := by decide +kernel
theorem dX3_asksEach_18 : decode cX3_asksEach 18 = .ok (.aload_n 0, 1) := by decide +kernel
theorem dX3_asksEach_19 : decode cX3_asksEach 19 = .ok (.getfield 19, 3) := by decide +kernel
theorem dX3_asksEach_22 : decode cX3_asksEach 22 = .ok (.bipush 10, 2) := by decide +kernel
theorem dX3_asksEach_24 : decode cX3_asksEach 24 = .ok (.iload_n 2, 1) := by decide +kernel
theorem dX3_asksEach_25 : decode cX3_asksEach 25 = .ok (.imul, 1) := by decide +kernel
theorem dX3_asksEach_26 : decode cX3_asksEach 26 = .ok (.iload_n 3, 1) := by decide +kernel
theorem dX3_asksEach_27 : decode cX3_asksEach 27 = .ok (.iadd, 1) := by decide +kernel
theorem dX3_asksEach_28 : decode cX3_asksEach 28 = .ok (.iaload, 1) := by decide +kernel
theorem dX3_asksEach_29 : decode cX3_asksEach 29 = .ok (.invokevirtual 146, 3) := by decide +kernel
theorem dX3_asksEach_32 : decode cX3_asksEach 32 = .ok (.ifCond .ne 5, 3) := by decide +kernel
theorem dX3_asksEach_35 : decode cX3_asksEach 35 = .ok (.iconst 0, 1) := by decide +kernel
theorem dX3_asksEach_36 : decode cX3_asksEach 36 = .ok (.ireturn, 1) := by decide +kernel
theorem dX3_asksEach_37 : decode cX3_asksEach 37 = .ok (.aload_n 0, 1) := by decide +kernel
theorem dX3_asksEach_38 : decode cX3_asksEach 38 = .ok (.getfield 56, 3) := by decide +kernel
theorem dX3_asksEach_41 : decode cX3_asksEach 41 = .ok (.iload_n 3, 1) := by decide +kernel
theorem dX3_asksEach_42 : decode cX3_asksEach 42 = .ok (.aload_n 0, 1) := by decide +kernel
theorem dX3_asksEach_43 : decode cX3_asksEach 43 = .ok (.getfield 109, 3) := by decide +kernel
theorem dX3_asksEach_46 : decode cX3_asksEach 46 = .ok (.iastore, 1) := by decide +kernel
theorem dX3_asksEach_47 : decode cX3_asksEach 47 = .ok (.iinc 3 1, 3) := by decide +kernel
theorem dX3_asksEach_50 : decode cX3_asksEach 50 = .ok (.goto (-44), 3) := by decide +kernel
theorem dX3_asksEach_53 : decode cX3_asksEach 53 = .ok (.iconst 1, 1) := by decide +kernel
theorem dX3_asksEach_54 : decode cX3_asksEach 54 = .ok (.ireturn, 1) := by decide +kernel
set_option maxRecDepth 20000 in
theorem ggX3_keep_X3_isRule : GoodIn wsX3_keep wsX3_isRule := goodIn_r _ [10, 11, 12, 13, 9, 14, 92, 93, 94, 95, 96, 97, 98, 99, 100, 101, 102, 103, 104, 105, 106, 107, 108, 109, 110, 111, 112, 113, 114, 115, 116, 117, 118, 119, 120, 121] (by decide +kernel) (by decide +kernel)
set_option maxRecDepth 20000 in
theorem gX3_keep_X3_isRule : GoodIn wsX3_keep (wsV RX3 140 RX3 yX3_isRule wsX3_isRule) := goodIn_app (goodIn_of _ (by decide +kernel)) ggX3_keep_X3_isRule
set_option maxRecDepth 20000 in
theorem ggX3_keep_X3_in : GoodIn wsX3_keep wsX3_in := goodIn_r _ [14] (by decide +kernel) (by decide +kernel)
set_option maxRecDepth 20000 in
theorem gX3_keep_X3_in : GoodIn wsX3_keep (va_wsS RX3 68 yX3_in wsX3_in) := goodIn_app (goodIn_of _ (by decide +kernel)) ggX3_keep_X3_in
set_option maxRecDepth 20000 in
theorem ggX3_keep_X3_asksEach : GoodIn wsX3_keep wsX3_asksEach := goodIn_r _ [18, 2, 5, 3, 19, 20, 21, 22, 9, 23, 24, 25, 26, 27, 28, 29, 30, 31, 32, 33, 34, 35, 36, 37, 38, 39, 40, 41, 42, 43, 44, 45, 46, 47, 48, 49, 50, 51, 52, 53, 12, 13, 14, 54, 55, 56, 57, 58, 59, 60, 61, 62, 63, 64, 65, 66, 1, 67, 68, 69, 70, 71, 92, 93, 94, 95, 96, 97, 98, 99, 100, 101, 102, 103, 104, 105, 106, 107, 108, 109, 110, 111, 112, 113, 114, 115, 116, 117, 118, 119, 120, 121] (by decide +kernel) (by decide +kernel)
set_option maxRecDepth 20000 in
theorem gX3_keep_X3_asksEach : GoodIn wsX3_keep (wsV RX3 155 RX3 yX3_asksEach wsX3_asksEach) := goodIn_app (goodIn_of _ (by decide +kernel)) ggX3_keep_X3_asksEach
set_option maxRecDepth 20000 in
theorem ggX3_keep_X3_newRow : GoodIn wsX3_keep wsX3_newRow := goodIn_r _ [75, 2, 5, 76, 77, 78, 9, 79, 1, 11, 32, 66, 92, 93, 94, 95, 96, 97, 98, 99, 100, 101, 102, 103, 104, 105, 106, 107, 108, 109, 110, 111, 112, 113, 114, 115, 116, 117, 118, 119, 120, 121] (by decide +kernel) (by decide +kernel)
set_option maxRecDepth 20000 in
theorem gX3_keep_X3_newRow : GoodIn wsX3_keep (wsV RX3 78 RX3 yX3_newRow wsX3_newRow) := goodIn_app (goodIn_of _ (by decide +kernel)) ggX3_keep_X3_newRow
set_option maxRecDepth 20000 in
theorem ggX3_keep_X3_ends : GoodIn wsX3_keep wsX3_ends := goodIn_r _ [83, 24, 84, 25, 44, 85, 86, 87, 9, 88, 89, 90, 91, 92, 93, 94, 95, 96, 97, 98, 99, 100, 101, 102, 103, 104, 105, 106, 107, 108, 109, 110, 111, 112, 113, 114, 115, 116, 117, 118, 119, 120, 121] (by decide +kernel) (by decide +kernel)
set_option maxRecDepth 20000 in
theorem gX3_keep_X3_ends : GoodIn wsX3_keep (wsV RX3 149 RX3 yX3_ends wsX3_ends) := goodIn_app (goodIn_of _ (by decide +kernel)) ggX3_keep_X3_ends
theorem dX3_keep_0 : decode cX3_keep 0 = .ok (.aload_n 0, 1) := by decide +kernel
theorem dX3_keep_1 : decode cX3_keep 1 = .ok (.iload_n 1, 1) := by decide +kernel
theorem dX3_keep_2 : decode cX3_keep 2 = .ok (.invokevirtual 140, 3) := by decide +kernel
theorem dX3_keep_5 : decode cX3_keep 5 = .ok (.ifCond .eq 12, 3) := by decide +kernel
theorem dX3_keep_8 : decode cX3_keep 8 = .ok (.iload_n 2, 1) := by decide +kernel
theorem dX3_keep_9 : decode cX3_keep 9 = .ok (.iconst 0, 1) := by decide +kernel
theorem dX3_keep_10 : decode cX3_keep 10 = .ok (.iconst 3, 1) := by decide +kernel
theorem dX3_keep_11 : decode cX3_keep 11 = .ok (.invokestatic 68, 3) := by decide +kernel
theorem dX3_keep_14 : decode cX3_keep 14 = .ok (.ifCond .ne 5, 3) := by decide +kernel
theorem dX3_keep_17 : decode cX3_keep 17 = .ok (.iconst (-1), 1) := by decide +kernel
theorem dX3_keep_18 : decode cX3_keep 18 = .ok (.ireturn, 1) := by decide +kernel
theorem dX3_keep_19 : decode cX3_keep 19 = .ok (.aload_n 0, 1) := by decide +kernel
theorem dX3_keep_20 : decode cX3_keep 20 = .ok (.getfield 13, 3) := by decide +kernel
theorem dX3_keep_23 : decode cX3_keep 23 = .ok (.iload_n 2, 1) := by decide +kernel
theorem dX3_keep_24 : decode cX3_keep 24 = .ok (.iaload, 1) := by decide +kernel
theorem dX3_keep_25 : decode cX3_keep 25 = .ok (.ifCond .ge 6, 3) := by decide +kernel
theorem dX3_keep_28 : decode cX3_keep 28 = .ok (.bipush (-13), 2) := by decide +kernel
theorem dX3_keep_30 : decode cX3_keep 30 = .ok (.ireturn, 1) := by decide +kernel
theorem dX3_keep_31 : decode cX3_keep 31 = .ok (.aload_n 0, 1) := by decide +kernel
theorem dX3_keep_32 : decode cX3_keep 32 = .ok (.getfield 13, 3) := by decide +kernel
theorem dX3_keep_35 : decode cX3_keep 35 = .ok (.iload_n 2, 1) := by decide +kernel
theorem dX3_keep_36 : decode cX3_keep 36 = .ok (.iaload, 1) := by decide +kernel
theorem dX3_keep_37 : decode cX3_keep 37 = .ok (.istore_n 3, 1) := by decide +kernel
theorem dX3_keep_38 : decode cX3_keep 38 = .ok (.iconst 0, 1) := by decide +kernel
theorem dX3_keep_39 : decode cX3_keep 39 = .ok (.istore 4, 2) := by decide +kernel
theorem dX3_keep_41 : decode cX3_keep 41 = .ok (.aload_n 0, 1) := by decide +kernel
theorem dX3_keep_42 : decode cX3_keep 42 = .ok (.iload_n 1, 1) := by decide +kernel
theorem dX3_keep_43 : decode cX3_keep 43 = .ok (.iload_n 3, 1) := by decide +kernel
theorem dX3_keep_44 : decode cX3_keep 44 = .ok (.invokevirtual 155, 3) := by decide +kernel
theorem dX3_keep_47 : decode cX3_keep 47 = .ok (.ifCond .eq 107, 3) := by decide +kernel
theorem dX3_keep_50 : decode cX3_keep 50 = .ok (.iconst 0, 1) := by decide +kernel
theorem dX3_keep_51 : decode cX3_keep 51 = .ok (.istore 5, 2) := by decide +kernel
theorem dX3_keep_53 : decode cX3_keep 53 = .ok (.iload 5, 2) := by decide +kernel
theorem dX3_keep_55 : decode cX3_keep 55 = .ok (.aload_n 0, 1) := by decide +kernel
theorem dX3_keep_56 : decode cX3_keep 56 = .ok (.getfield 16, 3) := by decide +kernel
theorem dX3_keep_59 : decode cX3_keep 59 = .ok (.iload_n 3, 1) := by decide +kernel
theorem dX3_keep_60 : decode cX3_keep 60 = .ok (.iaload, 1) := by decide +kernel
theorem dX3_keep_61 : decode cX3_keep 61 = .ok (.if_icmp .ge 41, 3) := by decide +kernel
theorem dX3_keep_64 : decode cX3_keep 64 = .ok (.aload_n 0, 1) := by decide +kernel
theorem dX3_keep_65 : decode cX3_keep 65 = .ok (.getfield 56, 3) := by decide +kernel
theorem dX3_keep_68 : decode cX3_keep 68 = .ok (.iload 5, 2) := by decide +kernel
theorem dX3_keep_70 : decode cX3_keep 70 = .ok (.iaload, 1) := by decide +kernel
theorem dX3_keep_71 : decode cX3_keep 71 = .ok (.ifCond .eq 25, 3) := by decide +kernel
theorem dX3_keep_74 : decode cX3_keep 74 = .ok (.aload_n 0, 1) := by decide +kernel
theorem dX3_keep_75 : decode cX3_keep 75 = .ok (.getfield 59, 3) := by decide +kernel
theorem dX3_keep_78 : decode cX3_keep 78 = .ok (.iload 4, 2) := by decide +kernel
theorem dX3_keep_80 : decode cX3_keep 80 = .ok (.aload_n 0, 1) := by decide +kernel
theorem dX3_keep_81 : decode cX3_keep 81 = .ok (.getfield 19, 3) := by decide +kernel
theorem dX3_keep_84 : decode cX3_keep 84 = .ok (.bipush 10, 2) := by decide +kernel
theorem dX3_keep_86 : decode cX3_keep 86 = .ok (.iload_n 3, 1) := by decide +kernel
theorem dX3_keep_87 : decode cX3_keep 87 = .ok (.imul, 1) := by decide +kernel
theorem dX3_keep_88 : decode cX3_keep 88 = .ok (.iload 5, 2) := by decide +kernel
theorem dX3_keep_90 : decode cX3_keep 90 = .ok (.iadd, 1) := by decide +kernel
theorem dX3_keep_91 : decode cX3_keep 91 = .ok (.iaload, 1) := by decide +kernel
theorem dX3_keep_92 : decode cX3_keep 92 = .ok (.iastore, 1) := by decide +kernel
theorem dX3_keep_93 : decode cX3_keep 93 = .ok (.iinc 4 1, 3) := by decide +kernel
theorem dX3_keep_96 : decode cX3_keep 96 = .ok (.iinc 5 1, 3) := by decide +kernel
theorem dX3_keep_99 : decode cX3_keep 99 = .ok (.goto (-46), 3) := by decide +kernel
theorem dX3_keep_102 : decode cX3_keep 102 = .ok (.aload_n 0, 1) := by decide +kernel
theorem dX3_keep_103 : decode cX3_keep 103 = .ok (.iload 4, 2) := by decide +kernel
theorem dX3_keep_105 : decode cX3_keep 105 = .ok (.invokevirtual 78, 3) := by decide +kernel
theorem dX3_keep_108 : decode cX3_keep 108 = .ok (.istore 5, 2) := by decide +kernel
theorem dX3_keep_110 : decode cX3_keep 110 = .ok (.iconst 0, 1) := by decide +kernel
theorem dX3_keep_111 : decode cX3_keep 111 = .ok (.istore 6, 2) := by decide +kernel
theorem dX3_keep_113 : decode cX3_keep 113 = .ok (.iload 6, 2) := by decide +kernel
theorem dX3_keep_115 : decode cX3_keep 115 = .ok (.iload 4, 2) := by decide +kernel
theorem dX3_keep_117 : decode cX3_keep 117 = .ok (.if_icmp .ge 29, 3) := by decide +kernel
theorem dX3_keep_120 : decode cX3_keep 120 = .ok (.aload_n 0, 1) := by decide +kernel
theorem dX3_keep_121 : decode cX3_keep 121 = .ok (.getfield 19, 3) := by decide +kernel
theorem dX3_keep_124 : decode cX3_keep 124 = .ok (.bipush 10, 2) := by decide +kernel
theorem dX3_keep_126 : decode cX3_keep 126 = .ok (.iload 5, 2) := by decide +kernel
theorem dX3_keep_128 : decode cX3_keep 128 = .ok (.imul, 1) := by decide +kernel
theorem dX3_keep_129 : decode cX3_keep 129 = .ok (.iload 6, 2) := by decide +kernel
theorem dX3_keep_131 : decode cX3_keep 131 = .ok (.iadd, 1) := by decide +kernel
theorem dX3_keep_132 : decode cX3_keep 132 = .ok (.aload_n 0, 1) := by decide +kernel
theorem dX3_keep_133 : decode cX3_keep 133 = .ok (.getfield 59, 3) := by decide +kernel
theorem dX3_keep_136 : decode cX3_keep 136 = .ok (.iload 6, 2) := by decide +kernel
theorem dX3_keep_138 : decode cX3_keep 138 = .ok (.iaload, 1) := by decide +kernel
theorem dX3_keep_139 : decode cX3_keep 139 = .ok (.iastore, 1) := by decide +kernel
theorem dX3_keep_140 : decode cX3_keep 140 = .ok (.iinc 6 1, 3) := by decide +kernel
theorem dX3_keep_143 : decode cX3_keep 143 = .ok (.goto (-30), 3) := by decide +kernel
theorem dX3_keep_146 : decode cX3_keep 146 = .ok (.aload_n 0, 1) := by decide +kernel
theorem dX3_keep_147 : decode cX3_keep 147 = .ok (.getfield 13, 3) := by decide +kernel
theorem dX3_keep_150 : decode cX3_keep 150 = .ok (.iload_n 2, 1) := by decide +kernel
theorem dX3_keep_151 : decode cX3_keep 151 = .ok (.iload 5, 2) := by decide +kernel
theorem dX3_keep_153 : decode cX3_keep 153 = .ok (.iastore, 1) := by decide +kernel
theorem dX3_keep_154 : decode cX3_keep 154 = .ok (.aload_n 0, 1) := by decide +kernel
theorem dX3_keep_155 : decode cX3_keep 155 = .ok (.iload 4, 2) := by decide +kernel
theorem dX3_keep_157 : decode cX3_keep 157 = .ok (.invokevirtual 149, 3) := by decide +kernel
theorem dX3_keep_160 : decode cX3_keep 160 = .ok (.ireturn, 1) := by decide +kernel
set_option maxRecDepth 20000 in
theorem ggX3_order_X3_isRule : GoodIn wsX3_order wsX3_isRule := goodIn_r _ [10, 11, 12, 13, 9, 14, 84, 85, 86, 87, 88, 89, 90, 91, 92, 93, 94, 95, 96, 97, 98, 99, 100, 101, 102, 103, 104, 105, 106, 107, 108, 109, 110, 111, 112, 113] (by decide +kernel) (by decide +kernel)
set_option maxRecDepth 20000 in
theorem gX3_order_X3_isRule : GoodIn wsX3_order (wsV RX3 140 RX3 yX3_isRule wsX3_isRule) := goodIn_app (goodIn_of _ (by decide +kernel)) ggX3_order_X3_isRule
set_option maxRecDepth 20000 in
theorem ggX3_order_X3_in : GoodIn wsX3_order wsX3_in := goodIn_r _ [14] (by decide +kernel) (by decide +kernel)
end
section
set_option maxRecDepth 20000 in
theorem gX3_order_X3_in : GoodIn wsX3_order (va_wsS RX3 68 yX3_in wsX3_in) := goodIn_app (goodIn_of _ (by decide +kernel)) ggX3_order_X3_in
set_option maxRecDepth 20000 in
theorem ggX3_order_X3_asksEach : GoodIn wsX3_order wsX3_asksEach := goodIn_r _ [18, 2, 5, 3, 19, 20, 21, 22, 9, 23, 24, 25, 26, 27, 28, 29, 30, 31, 32, 33, 34, 35, 36, 37, 38, 39, 40, 41, 42, 43, 44, 45, 46, 47, 48, 49, 50, 51, 52, 53, 12, 13, 14, 54, 55, 56, 57, 58, 59, 60, 61, 62, 63, 64, 65, 66, 1, 67, 68, 69, 70, 71, 84, 85, 86, 87, 88, 89, 90, 91, 92, 93, 94, 95, 96, 97, 98, 99, 100, 101, 102, 103, 104, 105, 106, 107, 108, 109, 110, 111, 112, 113] (by decide +kernel) (by decide +kernel)
set_option maxRecDepth 20000 in
theorem gX3_order_X3_asksEach : GoodIn wsX3_order (wsV RX3 155 RX3 yX3_asksEach wsX3_asksEach) := goodIn_app (goodIn_of _ (by decide +kernel)) ggX3_order_X3_asksEach
set_option maxRecDepth 20000 in
theorem ggX3_order_X3_ends : GoodIn wsX3_order wsX3_ends := goodIn_r _ [75, 24, 76, 25, 44, 77, 78, 79, 9, 80, 81, 82, 83, 84, 85, 86, 87, 88, 89, 90, 91, 92, 93, 94, 95, 96, 97, 98, 99, 100, 101, 102, 103, 104, 105, 106, 107, 108, 109, 110, 111, 112, 113] (by decide +kernel) (by decide +kernel)
set_option maxRecDepth 20000 in
theorem gX3_order_X3_ends : GoodIn wsX3_order (wsV RX3 149 RX3 yX3_ends wsX3_ends) := goodIn_app (goodIn_of _ (by decide +kernel)) ggX3_order_X3_ends
theorem dX3_order_0 : decode cX3_order 0 = .ok (.aload_n 0, 1) := by decide +kernel
theorem dX3_order_1 : decode cX3_order 1 = .ok (.iload_n 1, 1) := by decide +kernel
theorem dX3_order_2 : decode cX3_order 2 = .ok (.invokevirtual 140, 3) := by decide +kernel
theorem dX3_order_5 : decode cX3_order 5 = .ok (.ifCond .eq 12, 3) := by decide +kernel
theorem dX3_order_8 : decode cX3_order 8 = .ok (.iload_n 2, 1) := by decide +kernel
theorem dX3_order_9 : decode cX3_order 9 = .ok (.iconst 0, 1) := by decide +kernel
theorem dX3_order_10 : decode cX3_order 10 = .ok (.iconst 3, 1) := by decide +kernel
theorem dX3_order_11 : decode cX3_order 11 = .ok (.invokestatic 68, 3) := by decide +kernel
theorem dX3_order_14 : decode cX3_order 14 = .ok (.ifCond .ne 5, 3) := by decide +kernel
theorem dX3_order_17 : decode cX3_order 17 = .ok (.iconst (-1), 1) := by decide +kernel
theorem dX3_order_18 : decode cX3_order 18 = .ok (.ireturn, 1) := by decide +kernel
theorem dX3_order_19 : decode cX3_order 19 = .ok (.aload_n 0, 1) := by decide +kernel
theorem dX3_order_20 : decode cX3_order 20 = .ok (.getfield 13, 3) := by decide +kernel
theorem dX3_order_23 : decode cX3_order 23 = .ok (.iload_n 2, 1) := by decide +kernel
theorem dX3_order_24 : decode cX3_order 24 = .ok (.iaload, 1) := by decide +kernel
theorem dX3_order_25 : decode cX3_order 25 = .ok (.ifCond .ge 6, 3) := by decide +kernel
theorem dX3_order_28 : decode cX3_order 28 = .ok (.bipush (-13), 2) := by decide +kernel
theorem dX3_order_30 : decode cX3_order 30 = .ok (.ireturn, 1) := by decide +kernel
theorem dX3_order_31 : decode cX3_order 31 = .ok (.aload_n 0, 1) := by decide +kernel
theorem dX3_order_32 : decode cX3_order 32 = .ok (.getfield 13, 3) := by decide +kernel
theorem dX3_order_35 : decode cX3_order 35 = .ok (.iload_n 2, 1) := by decide +kernel
theorem dX3_order_36 : decode cX3_order 36 = .ok (.iaload, 1) := by decide +kernel
theorem dX3_order_37 : decode cX3_order 37 = .ok (.istore_n 3, 1) := by decide +kernel
theorem dX3_order_38 : decode cX3_order 38 = .ok (.iconst 0, 1) := by decide +kernel
theorem dX3_order_39 : decode cX3_order 39 = .ok (.istore 4, 2) := by decide +kernel
theorem dX3_order_41 : decode cX3_order 41 = .ok (.aload_n 0, 1) := by decide +kernel
theorem dX3_order_42 : decode cX3_order 42 = .ok (.iload_n 1, 1) := by decide +kernel
theorem dX3_order_43 : decode cX3_order 43 = .ok (.iload_n 3, 1) := by decide +kernel
theorem dX3_order_44 : decode cX3_order 44 = .ok (.invokevirtual 155, 3) := by decide +kernel
theorem dX3_order_47 : decode cX3_order 47 = .ok (.ifCond .eq 172, 3) := by decide +kernel
theorem dX3_order_50 : decode cX3_order 50 = .ok (.iconst 0, 1) := by decide +kernel
theorem dX3_order_51 : decode cX3_order 51 = .ok (.istore 5, 2) := by decide +kernel
theorem dX3_order_53 : decode cX3_order 53 = .ok (.iload 5, 2) := by decide +kernel
theorem dX3_order_55 : decode cX3_order 55 = .ok (.aload_n 0, 1) := by decide +kernel
theorem dX3_order_56 : decode cX3_order 56 = .ok (.getfield 16, 3) := by decide +kernel
theorem dX3_order_59 : decode cX3_order 59 = .ok (.iload_n 3, 1) := by decide +kernel
theorem dX3_order_60 : decode cX3_order 60 = .ok (.iaload, 1) := by decide +kernel
theorem dX3_order_61 : decode cX3_order 61 = .ok (.if_icmp .ge 119, 3) := by decide +kernel
theorem dX3_order_64 : decode cX3_order 64 = .ok (.iconst 0, 1) := by decide +kernel
theorem dX3_order_65 : decode cX3_order 65 = .ok (.istore 6, 2) := by decide +kernel
theorem dX3_order_67 : decode cX3_order 67 = .ok (.iconst 0, 1) := by decide +kernel
theorem dX3_order_68 : decode cX3_order 68 = .ok (.istore 7, 2) := by decide +kernel
theorem dX3_order_70 : decode cX3_order 70 = .ok (.iload 7, 2) := by decide +kernel
theorem dX3_order_72 : decode cX3_order 72 = .ok (.aload_n 0, 1) := by decide +kernel
theorem dX3_order_73 : decode cX3_order 73 = .ok (.getfield 16, 3) := by decide +kernel
theorem dX3_order_76 : decode cX3_order 76 = .ok (.iload_n 3, 1) := by decide +kernel
theorem dX3_order_77 : decode cX3_order 77 = .ok (.iaload, 1) := by decide +kernel
theorem dX3_order_78 : decode cX3_order 78 = .ok (.if_icmp .ge 60, 3) := by decide +kernel
theorem dX3_order_81 : decode cX3_order 81 = .ok (.iload 6, 2) := by decide +kernel
theorem dX3_order_83 : decode cX3_order 83 = .ok (.aload_n 0, 1) := by decide +kernel
theorem dX3_order_84 : decode cX3_order 84 = .ok (.getfield 56, 3) := by decide +kernel
theorem dX3_order_87 : decode cX3_order 87 = .ok (.iload 7, 2) := by decide +kernel
theorem dX3_order_89 : decode cX3_order 89 = .ok (.iaload, 1) := by decide +kernel
theorem dX3_order_90 : decode cX3_order 90 = .ok (.aload_n 0, 1) := by decide +kernel
theorem dX3_order_91 : decode cX3_order 91 = .ok (.getfield 56, 3) := by decide +kernel
theorem dX3_order_94 : decode cX3_order 94 = .ok (.iload 5, 2) := by decide +kernel
theorem dX3_order_96 : decode cX3_order 96 = .ok (.iaload, 1) := by decide +kernel
theorem dX3_order_97 : decode cX3_order 97 = .ok (.if_icmp .lt 27, 3) := by decide +kernel
theorem dX3_order_100 : decode cX3_order 100 = .ok (.aload_n 0, 1) := by decide +kernel
theorem dX3_order_101 : decode cX3_order 101 = .ok (.getfield 56, 3) := by decide +kernel
theorem dX3_order_104 : decode cX3_order 104 = .ok (.iload 7, 2) := by decide +kernel
theorem dX3_order_106 : decode cX3_order 106 = .ok (.iaload, 1) := by decide +kernel
theorem dX3_order_107 : decode cX3_order 107 = .ok (.aload_n 0, 1) := by decide +kernel
theorem dX3_order_108 : decode cX3_order 108 = .ok (.getfield 56, 3) := by decide +kernel
theorem dX3_order_111 : decode cX3_order 111 = .ok (.iload 5, 2) := by decide +kernel
theorem dX3_order_113 : decode cX3_order 113 = .ok (.iaload, 1) := by decide +kernel
theorem dX3_order_114 : decode cX3_order 114 = .ok (.if_icmp .ne 14, 3) := by decide +kernel
theorem dX3_order_117 : decode cX3_order 117 = .ok (.iload 7, 2) := by decide +kernel
theorem dX3_order_119 : decode cX3_order 119 = .ok (.iload 5, 2) := by decide +kernel
theorem dX3_order_121 : decode cX3_order 121 = .ok (.if_icmp .ge 7, 3) := by decide +kernel
theorem dX3_order_124 : decode cX3_order 124 = .ok (.iconst 1, 1) := by decide +kernel
theorem dX3_order_125 : decode cX3_order 125 = .ok (.goto 4, 3) := by decide +kernel
theorem dX3_order_128 : decode cX3_order 128 = .ok (.iconst 0, 1) := by decide +kernel
theorem dX3_order_129 : decode cX3_order 129 = .ok (.iadd, 1) := by decide +kernel
theorem dX3_order_130 : decode cX3_order 130 = .ok (.istore 6, 2) := by decide +kernel
theorem dX3_order_132 : decode cX3_order 132 = .ok (.iinc 7 1, 3) := by decide +kernel
theorem dX3_order_135 : decode cX3_order 135 = .ok (.goto (-65), 3) := by decide +kernel
theorem dX3_order_138 : decode cX3_order 138 = .ok (.aload_n 0, 1) := by decide +kernel
theorem dX3_order_139 : decode cX3_order 139 = .ok (.getfield 62, 3) := by decide +kernel
theorem dX3_order_142 : decode cX3_order 142 = .ok (.iload 6, 2) := by decide +kernel
theorem dX3_order_144 : decode cX3_order 144 = .ok (.aload_n 0, 1) := by decide +kernel
theorem dX3_order_145 : decode cX3_order 145 = .ok (.getfield 19, 3) := by decide +kernel
theorem dX3_order_148 : decode cX3_order 148 = .ok (.bipush 10, 2) := by decide +kernel
theorem dX3_order_150 : decode cX3_order 150 = .ok (.iload_n 3, 1) := by decide +kernel
theorem dX3_order_151 : decode cX3_order 151 = .ok (.imul, 1) := by decide +kernel
theorem dX3_order_152 : decode cX3_order 152 = .ok (.iload 5, 2) := by decide +kernel
theorem dX3_order_154 : decode cX3_order 154 = .ok (.iadd, 1) := by decide +kernel
theorem dX3_order_155 : decode cX3_order 155 = .ok (.iaload, 1) := by decide +kernel
theorem dX3_order_156 : decode cX3_order 156 = .ok (.iastore, 1) := by decide +kernel
theorem dX3_order_157 : decode cX3_order 157 = .ok (.iload 4, 2) := by decide +kernel
theorem dX3_order_159 : decode cX3_order 159 = .ok (.iload 6, 2) := by decide +kernel
theorem dX3_order_161 : decode cX3_order 161 = .ok (.iload 5, 2) := by decide +kernel
theorem dX3_order_163 : decode cX3_order 163 = .ok (.if_icmp .ne 7, 3) := by decide +kernel
theorem dX3_order_166 : decode cX3_order 166 = .ok (.iconst 0, 1) := by decide +kernel
theorem dX3_order_167 : decode cX3_order 167 = .ok (.goto 4, 3) := by decide +kernel
theorem dX3_order_170 : decode cX3_order 170 = .ok (.iconst 1, 1) := by decide +kernel
theorem dX3_order_171 : decode cX3_order 171 = .ok (.iadd, 1) := by decide +kernel
theorem dX3_order_172 : decode cX3_order 172 = .ok (.istore 4, 2) := by decide +kernel
theorem dX3_order_174 : decode cX3_order 174 = .ok (.iinc 5 1, 3) := by decide +kernel
theorem dX3_order_177 : decode cX3_order 177 = .ok (.goto (-124), 3) := by decide +kernel
theorem dX3_order_180 : decode cX3_order 180 = .ok (.iconst 0, 1) := by decide +kernel
theorem dX3_order_181 : decode cX3_order 181 = .ok (.istore 5, 2) := by decide +kernel
theorem dX3_order_183 : decode cX3_order 183 = .ok (.iload 5, 2) := by decide +kernel
theorem dX3_order_185 : decode cX3_order 185 = .ok (.aload_n 0, 1) := by decide +kernel
theorem dX3_order_186 : decode cX3_order 186 = .ok (.getfield 16, 3) := by decide +kernel
theorem dX3_order_189 : decode cX3_order 189 = .ok (.iload_n 3, 1) := by decide +kernel
theorem dX3_order_190 : decode cX3_order 190 = .ok (.iaload, 1) := by decide +kernel
theorem dX3_order_191 : decode cX3_order 191 = .ok (.if_icmp .ge 28, 3) := by decide +kernel
theorem dX3_order_194 : decode cX3_order 194 = .ok (.aload_n 0, 1) := by decide +kernel
theorem dX3_order_195 : decode cX3_order 195 = .ok (.getfield 19, 3) := by decide +kernel
theorem dX3_order_198 : decode cX3_order 198 = .ok (.bipush 10, 2) := by decide +kernel
theorem dX3_order_200 : decode cX3_order 200 = .ok (.iload_n 3, 1) := by decide +kernel
theorem dX3_order_201 : decode cX3_order 201 = .ok (.imul, 1) := by decide +kernel
theorem dX3_order_202 : decode cX3_order 202 = .ok (.iload 5, 2) := by decide +kernel
theorem dX3_order_204 : decode cX3_order 204 = .ok (.iadd, 1) := by decide +kernel
theorem dX3_order_205 : decode cX3_order 205 = .ok (.aload_n 0, 1) := by decide +kernel
theorem dX3_order_206 : decode cX3_order 206 = .ok (.getfield 62, 3) := by decide +kernel
theorem dX3_order_209 : decode cX3_order 209 = .ok (.iload 5, 2) := by decide +kernel
theorem dX3_order_211 : decode cX3_order 211 = .ok (.iaload, 1) := by decide +kernel
theorem dX3_order_212 : decode cX3_order 212 = .ok (.iastore, 1) := by decide +kernel
theorem dX3_order_213 : decode cX3_order 213 = .ok (.iinc 5 1, 3) := by decide +kernel
theorem dX3_order_216 : decode cX3_order 216 = .ok (.goto (-33), 3) := by decide +kernel
theorem dX3_order_219 : decode cX3_order 219 = .ok (.aload_n 0, 1) := by decide +kernel
theorem dX3_order_220 : decode cX3_order 220 = .ok (.iload 4, 2) := by decide +kernel
theorem dX3_order_222 : decode cX3_order 222 = .ok (.invokevirtual 149, 3) := by decide +kernel
theorem dX3_order_225 : decode cX3_order 225 = .ok (.ireturn, 1) := by decide +kernel
set_option maxRecDepth 20000 in
theorem ggX3_fold_X3_in : GoodIn wsX3_fold wsX3_in := goodIn_r _ [8] (by decide +kernel) (by decide +kernel)
set_option maxRecDepth 20000 in
theorem gX3_fold_X3_in : GoodIn wsX3_fold (va_wsS RX3 68 yX3_in wsX3_in) := goodIn_app (goodIn_of _ (by decide +kernel)) ggX3_fold_X3_in
set_option maxRecDepth 20000 in
theorem ggX3_fold_X3_failed : GoodIn wsX3_fold wsX3_failed := goodIn_r _ [12, 13, 14, 15, 16, 17, 18, 19, 20, 21, 22, 23, 24, 25, 26, 27, 28, 29, 30, 31, 32, 33, 34, 35, 36, 37, 38, 39, 40, 41, 42, 43, 44, 45] (by decide +kernel) (by decide +kernel)
set_option maxRecDepth 20000 in
theorem gX3_fold_X3_failed : GoodIn wsX3_fold (wsV RX3 131 RX3 yX3_failed wsX3_failed) := goodIn_app (goodIn_of _ (by decide +kernel)) ggX3_fold_X3_failed
theorem dX3_fold_0 : decode cX3_fold 0 = .ok (.iload_n 1, 1) := by decide +kernel
theorem dX3_fold_1 : decode cX3_fold 1 = .ok (.iconst 0, 1) := by decide +kernel
theorem dX3_fold_2 : decode cX3_fold 2 = .ok (.iconst 4, 1) := by decide +kernel
theorem dX3_fold_3 : decode cX3_fold 3 = .ok (.invokestatic 68, 3) := by decide +kernel
theorem dX3_fold_6 : decode cX3_fold 6 = .ok (.ifCond .eq 12, 3) := by decide +kernel
theorem dX3_fold_9 : decode cX3_fold 9 = .ok (.iload_n 2, 1) := by decide +kernel
theorem dX3_fold_10 : decode cX3_fold 10 = .ok (.iconst 0, 1) := by decide +kernel
theorem dX3_fold_11 : decode cX3_fold 11 = .ok (.iconst 3, 1) := by decide +kernel
theorem dX3_fold_12 : decode cX3_fold 12 = .ok (.invokestatic 68, 3) := by decide +kernel
theorem dX3_fold_15 : decode cX3_fold 15 = .ok (.ifCond .ne 5, 3) := by decide +kernel
theorem dX3_fold_18 : decode cX3_fold 18 = .ok (.iconst (-1), 1) := by decide +kernel
theorem dX3_fold_19 : decode cX3_fold 19 = .ok (.ireturn, 1) := by decide +kernel
theorem dX3_fold_20 : decode cX3_fold 20 = .ok (.aload_n 0, 1) := by decide +kernel
theorem dX3_fold_21 : decode cX3_fold 21 = .ok (.getfield 13, 3) := by decide +kernel
theorem dX3_fold_24 : decode cX3_fold 24 = .ok (.iload_n 2, 1) := by decide +kernel
theorem dX3_fold_25 : decode cX3_fold 25 = .ok (.iaload, 1) := by decide +kernel
theorem dX3_fold_26 : decode cX3_fold 26 = .ok (.ifCond .ge 6, 3) := by decide +kernel
theorem dX3_fold_29 : decode cX3_fold 29 = .ok (.bipush (-13), 2) := by decide +kernel
theorem dX3_fold_31 : decode cX3_fold 31 = .ok (.ireturn, 1) := by decide +kernel
theorem dX3_fold_32 : decode cX3_fold 32 = .ok (.aload_n 0, 1) := by decide +kernel
theorem dX3_fold_33 : decode cX3_fold 33 = .ok (.getfield 13, 3) := by decide +kernel
theorem dX3_fold_36 : decode cX3_fold 36 = .ok (.iload_n 2, 1) := by decide +kernel
theorem dX3_fold_37 : decode cX3_fold 37 = .ok (.iaload, 1) := by decide +kernel
theorem dX3_fold_38 : decode cX3_fold 38 = .ok (.istore 4, 2) := by decide +kernel
theorem dX3_fold_40 : decode cX3_fold 40 = .ok (.iload_n 3, 1) := by decide +kernel
theorem dX3_fold_41 : decode cX3_fold 41 = .ok (.istore 5, 2) := by decide +kernel
theorem dX3_fold_43 : decode cX3_fold 43 = .ok (.iconst 0, 1) := by decide +kernel
theorem dX3_fold_44 : decode cX3_fold 44 = .ok (.istore 6, 2) := by decide +kernel
theorem dX3_fold_46 : decode cX3_fold 46 = .ok (.iload 6, 2) := by decide +kernel
theorem dX3_fold_48 : decode cX3_fold 48 = .ok (.aload_n 0, 1) := by decide +kernel
theorem dX3_fold_49 : decode cX3_fold 49 = .ok (.getfield 16, 3) := by decide +kernel
theorem dX3_fold_52 : decode cX3_fold 52 = .ok (.iload 4, 2) := by decide +kernel
theorem dX3_fold_54 : decode cX3_fold 54 = .ok (.iaload, 1) := by decide +kernel
theorem dX3_fold_55 : decode cX3_fold 55 = .ok (.if_icmp .ge 112, 3) := by decide +kernel
theorem dX3_fold_58 : decode cX3_fold 58 = .ok (.aload_n 0, 1) := by decide +kernel
theorem dX3_fold_59 : decode cX3_fold 59 = .ok (.getfield 19, 3) := by decide +kernel
theorem dX3_fold_62 : decode cX3_fold 62 = .ok (.bipush 10, 2) := by decide +kernel
theorem dX3_fold_64 : decode cX3_fold 64 = .ok (.iload 4, 2) := by decide +kernel
theorem dX3_fold_66 : decode cX3_fold 66 = .ok (.imul, 1) := by decide +kernel
theorem dX3_fold_67 : decode cX3_fold 67 = .ok (.iload 6, 2) := by decide +kernel
theorem dX3_fold_69 : decode cX3_fold 69 = .ok (.iadd, 1) := by decide +kernel
theorem dX3_fold_70 : decode cX3_fold 70 = .ok (.iaload, 1) := by decide +kernel
theorem dX3_fold_71 : decode cX3_fold 71 = .ok (.istore 7, 2) := by decide +kernel
theorem dX3_fold_73 : decode cX3_fold 73 = .ok (.iload_n 1, 1) := by decide +kernel
theorem dX3_fold_74 : decode cX3_fold 74 = .ok (.iconst 4, 1) := by decide +kernel
theorem dX3_fold_75 : decode cX3_fold 75 = .ok (.if_icmp .ne 16, 3) := by decide +kernel
theorem dX3_fold_78 : decode cX3_fold 78 = .ok (.iload 7, 2) := by decide +kernel
theorem dX3_fold_80 : decode cX3_fold 80 = .ok (.ifCond .ne 11, 3) := by decide +kernel
theorem dX3_fold_83 : decode cX3_fold 83 = .ok (.aload_n 0, 1) := by decide +kernel
theorem dX3_fold_84 : decode cX3_fold 84 = .ok (.iconst 1, 1) := by decide +kernel
theorem dX3_fold_85 : decode cX3_fold 85 = .ok (.iconst (-1), 1) := by decide +kernel
theorem dX3_fold_86 : decode cX3_fold 86 = .ok (.iconst 0, 1) := by decide +kernel
theorem dX3_fold_87 : decode cX3_fold 87 = .ok (.invokevirtual 131, 3) := by decide +kernel
theorem dX3_fold_90 : decode cX3_fold 90 = .ok (.ireturn, 1) := by decide +kernel
theorem dX3_fold_91 : decode cX3_fold 91 = .ok (.iload_n 1, 1) := by decide +kernel
theorem dX3_fold_92 : decode cX3_fold 92 = .ok (.ifCond .ne 11, 3) := by decide +kernel
theorem dX3_fold_95 : decode cX3_fold 95 = .ok (.iload 5, 2) := by decide +kernel
theorem dX3_fold_97 : decode cX3_fold 97 = .ok (.iload 7, 2) := by decide +kernel
theorem dX3_fold_99 : decode cX3_fold 99 = .ok (.iadd, 1) := by decide +kernel
theorem dX3_fold_100 : decode cX3_fold 100 = .ok (.goto 59, 3) := by decide +kernel
theorem dX3_fold_103 : decode cX3_fold 103 = .ok (.iload_n 1, 1) := by decide +kernel
theorem dX3_fold_104 : decode cX3_fold 104 = .ok (.iconst 1, 1) := by decide +kernel
theorem dX3_fold_105 : decode cX3_fold 105 = .ok (.if_icmp .ne 20, 3) := by decide +kernel
theorem dX3_fold_108 : decode cX3_fold 108 = .ok (.iload 5, 2) := by decide +kernel
theorem dX3_fold_110 : decode cX3_fold 110 = .ok (.iload 7, 2) := by decide +kernel
theorem dX3_fold_112 : decode cX3_fold 112 = .ok (.if_icmp .le 8, 3) := by decide +kernel
theorem dX3_fold_115 : decode cX3_fold 115 = .ok (.iload 5, 2) := by decide +kernel
theorem dX3_fold_117 : decode cX3_fold 117 = .ok (.goto 42, 3) := by decide +kernel
theorem dX3_fold_120 : decode cX3_fold 120 = .ok (.iload 7, 2) := by decide +kernel
theorem dX3_fold_122 : decode cX3_fold 122 = .ok (.goto 37, 3) := by decide +kernel
theorem dX3_fold_125 : decode cX3_fold 125 = .ok (.iload_n 1, 1) := by decide +kernel
theorem dX3_fold_126 : decode cX3_fold 126 = .ok (.iconst 2, 1) := by decide +kernel
theorem dX3_fold_127 : decode cX3_fold 127 = .ok (.if_icmp .ne 14, 3) := by decide +kernel
theorem dX3_fold_130 : decode cX3_fold 130 = .ok (.bipush 31, 2) := by decide +kernel
theorem dX3_fold_132 : decode cX3_fold 132 = .ok (.iload 5, 2) := by decide +kernel
theorem dX3_fold_134 : decode cX3_fold 134 = .ok (.imul, 1) := by decide +kernel
theorem dX3_fold_135 : decode cX3_fold 135 = .ok (.iload 7, 2) := by decide +kernel
theorem dX3_fold_137 : decode cX3_fold 137 = .ok (.iadd, 1) := by decide +kernel
theorem dX3_fold_138 : decode cX3_fold 138 = .ok (.goto 21, 3) := by decide +kernel
theorem dX3_fold_141 : decode cX3_fold 141 = .ok (.iload_n 1, 1) := by decide +kernel
theorem dX3_fold_142 : decode cX3_fold 142 = .ok (.iconst 3, 1) := by decide +kernel
theorem dX3_fold_143 : decode cX3_fold 143 = .ok (.if_icmp .ne 11, 3) := by decide +kernel
theorem dX3_fold_146 : decode cX3_fold 146 = .ok (.iload 7, 2) := by decide +kernel
theorem dX3_fold_148 : decode cX3_fold 148 = .ok (.iload 5, 2) := by decide +kernel
theorem dX3_fold_150 : decode cX3_fold 150 = .ok (.isub, 1) := by decide +kernel
theorem dX3_fold_151 : decode cX3_fold 151 = .ok (.goto 8, 3) := by decide +kernel
theorem dX3_fold_154 : decode cX3_fold 154 = .ok (.iload 5, 2) := by decide +kernel
theorem dX3_fold_156 : decode cX3_fold 156 = .ok (.iload 7, 2) := by decide +kernel
theorem dX3_fold_158 : decode cX3_fold 158 = .ok (.idiv, 1) := by decide +kernel
theorem dX3_fold_159 : decode cX3_fold 159 = .ok (.istore 5, 2) := by decide +kernel
theorem dX3_fold_161 : decode cX3_fold 161 = .ok (.iinc 6 1, 3) := by decide +kernel
theorem dX3_fold_164 : decode cX3_fold 164 = .ok (.goto (-118), 3) := by decide +kernel
theorem dX3_fold_167 : decode cX3_fold 167 = .ok (.aload_n 0, 1) := by decide +kernel
theorem dX3_fold_168 : decode cX3_fold 168 = .ok (.iload 5, 2) := by decide +kernel
theorem dX3_fold_170 : decode cX3_fold 170 = .ok (.putfield 152, 3) := by decide +kernel
theorem dX3_fold_173 : decode cX3_fold 173 = .ok (.iconst 1, 1) := by decide +kernel
theorem dX3_fold_174 : decode cX3_fold 174 = .ok (.ireturn, 1) := by decide +kernel
set_option maxRecDepth 20000 in
theorem ggX3_until_X3_isRule : GoodIn wsX3_until wsX3_isRule := goodIn_r _ [8, 9, 10, 11, 7, 12, 79, 80, 81, 82, 83, 84, 85, 86, 87, 88, 89, 90, 91, 92, 93, 94, 95, 96, 97, 98, 99, 100, 101, 102, 103, 104, 105, 106, 107, 108] (by decide +kernel) (by decide +kernel)
set_option maxRecDepth 20000 in
theorem gX3_until_X3_isRule : GoodIn wsX3_until (wsV RX3 140 RX3 yX3_isRule wsX3_isRule) := goodIn_app (goodIn_of _ (by decide +kernel)) ggX3_until_X3_isRule
set_option maxRecDepth 20000 in
theorem ggX3_until_X3_in : GoodIn wsX3_until wsX3_in := goodIn_r _ [12] (by decide +kernel) (by decide +kernel)
set_option maxRecDepth 20000 in
theorem gX3_until_X3_in : GoodIn wsX3_until (va_wsS RX3 68 yX3_in wsX3_in) := goodIn_app (goodIn_of _ (by decide +kernel)) ggX3_until_X3_in
set_option maxRecDepth 20000 in
theorem ggX3_until_X3_startsCall : GoodIn wsX3_until wsX3_startsCall := goodIn_r _ [16, 17, 2, 79, 80, 81, 82, 83, 84, 85, 86, 87, 88, 89, 90, 91, 92, 93, 94, 95, 96, 97, 98, 99, 100, 101, 102, 103, 104, 105, 106, 107, 108] (by decide +kernel) (by decide +kernel)
set_option maxRecDepth 20000 in
theorem gX3_until_X3_startsCall : GoodIn wsX3_until (wsV RX3 143 RX3 yX3_startsCall wsX3_startsCall) := goodIn_app (goodIn_of _ (by decide +kernel)) ggX3_until_X3_startsCall
set_option maxRecDepth 20000 in
theorem ggX3_until_X3_gives : GoodIn wsX3_until wsX3_gives := goodIn_r _ [21, 22, 2, 23, 24, 1, 25, 26, 27, 28, 7, 29, 17, 30, 31, 32, 33, 34, 35, 36, 37, 38, 39, 40, 41, 42, 43, 44, 45, 10, 11, 12, 46, 47, 48, 49, 50, 51, 52, 53, 54, 55, 56, 57, 58, 59, 60, 61, 62, 63, 64, 65, 66, 79, 80, 81, 82, 83, 84, 85, 86, 87, 88, 89, 90, 91, 92, 93, 94, 95, 96, 97, 98, 99, 100, 101, 102, 103, 104, 105, 106, 107, 108] (by decide +kernel) (by decide +kernel)
set_option maxRecDepth 20000 in
theorem gX3_until_X3_gives : GoodIn wsX3_until (wsV RX3 146 RX3 yX3_gives wsX3_gives) := goodIn_app (goodIn_of _ (by decide +kernel)) ggX3_until_X3_gives
set_option maxRecDepth 20000 in
theorem ggX3_until_X3_ends : GoodIn wsX3_until wsX3_ends := goodIn_r _ [70, 17, 71, 2, 36, 72, 73, 74, 7, 75, 76, 77, 78, 79, 80, 81, 82, 83, 84, 85, 86, 87, 88, 89, 90, 91, 92, 93, 94, 95, 96, 97, 98, 99, 100, 101, 102, 103, 104, 105, 106, 107, 108] (by decide +kernel) (by decide +kernel)
set_option maxRecDepth 20000 in
theorem gX3_until_X3_ends : GoodIn wsX3_until (wsV RX3 149 RX3 yX3_ends wsX3_ends) := goodIn_app (goodIn_of _ (by decide +kernel)) ggX3_until_X3_ends
theorem dX3_until_0 : decode cX3_until 0 = .ok (.aload_n 0, 1) := by decide +kernel
theorem dX3_until_1 : decode cX3_until 1 = .ok (.iload_n 1, 1) := by decide +kernel
theorem dX3_until_2 : decode cX3_until 2 = .ok (.invokevirtual 140, 3) := by decide +kernel
theorem dX3_until_5 : decode cX3_until 5 = .ok (.ifCond .eq 22, 3) := by decide +kernel
theorem dX3_until_8 : decode cX3_until 8 = .ok (.aload_n 0, 1) := by decide +kernel
theorem dX3_until_9 : decode cX3_until 9 = .ok (.iload_n 2, 1) := by decide +kernel
theorem dX3_until_10 : decode cX3_until 10 = .ok (.invokevirtual 140, 3) := by decide +kernel
theorem dX3_until_13 : decode cX3_until 13 = .ok (.ifCond .eq 14, 3) := by decide +kernel
theorem dX3_until_16 : decode cX3_until 16 = .ok (.iload 4, 2) := by decide +kernel
theorem dX3_until_18 : decode cX3_until 18 = .ok (.iconst 1, 1) := by decide +kernel
theorem dX3_until_19 : decode cX3_until 19 = .ok (.bipush 30, 2) := by decide +kernel
theorem dX3_until_21 : decode cX3_until 21 = .ok (.invokestatic 68, 3) := by decide +kernel
theorem dX3_until_24 : decode cX3_until 24 = .ok (.ifCond .ne 5, 3) := by decide +kernel
theorem dX3_until_27 : decode cX3_until 27 = .ok (.iconst (-1), 1) := by decide +kernel
theorem dX3_until_28 : decode cX3_until 28 = .ok (.ireturn, 1) := by decide +kernel
theorem dX3_until_29 : decode cX3_until 29 = .ok (.aload_n 0, 1) := by decide +kernel
theorem dX3_until_30 : decode cX3_until 30 = .ok (.invokevirtual 143, 3) := by decide +kernel
theorem dX3_until_33 : decode cX3_until 33 = .ok (.iload_n 3, 1) := by decide +kernel
theorem dX3_until_34 : decode cX3_until 34 = .ok (.istore 5, 2) := by decide +kernel
theorem dX3_until_36 : decode cX3_until 36 = .ok (.iconst 0, 1) := by decide +kernel
theorem dX3_until_37 : decode cX3_until 37 = .ok (.istore 6, 2) := by decide +kernel
theorem dX3_until_39 : decode cX3_until 39 = .ok (.iconst 1, 1) := by decide +kernel
theorem dX3_until_40 : decode cX3_until 40 = .ok (.istore 7, 2) := by decide +kernel
theorem dX3_until_42 : decode cX3_until 42 = .ok (.iload 7, 2) := by decide +kernel
theorem dX3_until_44 : decode cX3_until 44 = .ok (.ifCond .eq 60, 3) := by decide +kernel
theorem dX3_until_47 : decode cX3_until 47 = .ok (.iload 6, 2) := by decide +kernel
theorem dX3_until_49 : decode cX3_until 49 = .ok (.iload 4, 2) := by decide +kernel
theorem dX3_until_51 : decode cX3_until 51 = .ok (.if_icmp .ge 53, 3) := by decide +kernel
theorem dX3_until_54 : decode cX3_until 54 = .ok (.aload_n 0, 1) := by decide +kernel
theorem dX3_until_55 : decode cX3_until 55 = .ok (.iload_n 1, 1) := by decide +kernel
theorem dX3_until_56 : decode cX3_until 56 = .ok (.iload 5, 2) := by decide +kernel
theorem dX3_until_58 : decode cX3_until 58 = .ok (.invokevirtual 146, 3) := by decide +kernel
theorem dX3_until_61 : decode cX3_until 61 = .ok (.istore 7, 2) := by decide +kernel
theorem dX3_until_63 : decode cX3_until 63 = .ok (.iload 7, 2) := by decide +kernel
theorem dX3_until_65 : decode cX3_until 65 = .ok (.ifCond .eq (-23), 3) := by decide +kernel
theorem dX3_until_68 : decode cX3_until 68 = .ok (.aload_n 0, 1) := by decide +kernel
theorem dX3_until_69 : decode cX3_until 69 = .ok (.getfield 109, 3) := by decide +kernel
theorem dX3_until_72 : decode cX3_until 72 = .ok (.istore 5, 2) := by decide +kernel
theorem dX3_until_74 : decode cX3_until 74 = .ok (.iinc 6 1, 3) := by decide +kernel
theorem dX3_until_77 : decode cX3_until 77 = .ok (.aload_n 0, 1) := by decide +kernel
theorem dX3_until_78 : decode cX3_until 78 = .ok (.iload_n 2, 1) := by decide +kernel
theorem dX3_until_79 : decode cX3_until 79 = .ok (.iload 5, 2) := by decide +kernel
theorem dX3_until_81 : decode cX3_until 81 = .ok (.invokevirtual 146, 3) := by decide +kernel
theorem dX3_until_84 : decode cX3_until 84 = .ok (.ifCond .eq 14, 3) := by decide +kernel
theorem dX3_until_87 : decode cX3_until 87 = .ok (.aload_n 0, 1) := by decide +kernel
theorem dX3_until_88 : decode cX3_until 88 = .ok (.getfield 109, 3) := by decide +kernel
theorem dX3_until_91 : decode cX3_until 91 = .ok (.ifCond .eq 7, 3) := by decide +kernel
theorem dX3_until_94 : decode cX3_until 94 = .ok (.iconst 1, 1) := by decide +kernel
theorem dX3_until_95 : decode cX3_until 95 = .ok (.goto 4, 3) := by decide +kernel
theorem dX3_until_98 : decode cX3_until 98 = .ok (.iconst 0, 1) := by decide +kernel
theorem dX3_until_99 : decode cX3_until 99 = .ok (.istore 7, 2) := by decide +kernel
theorem dX3_until_101 : decode cX3_until 101 = .ok (.goto (-59), 3) := by decide +kernel
theorem dX3_until_104 : decode cX3_until 104 = .ok (.aload_n 0, 1) := by decide +kernel
theorem dX3_until_105 : decode cX3_until 105 = .ok (.getfield 95, 3) := by decide +kernel
theorem dX3_until_108 : decode cX3_until 108 = .ok (.ifCond .ne 9, 3) := by decide +kernel
theorem dX3_until_111 : decode cX3_until 111 = .ok (.aload_n 0, 1) := by decide +kernel
theorem dX3_until_112 : decode cX3_until 112 = .ok (.iload 5, 2) := by decide +kernel
theorem dX3_until_114 : decode cX3_until 114 = .ok (.putfield 152, 3) := by decide +kernel
theorem dX3_until_117 : decode cX3_until 117 = .ok (.aload_n 0, 1) := by decide +kernel
theorem dX3_until_118 : decode cX3_until 118 = .ok (.iload 6, 2) := by decide +kernel
theorem dX3_until_120 : decode cX3_until 120 = .ok (.invokevirtual 149, 3) := by decide +kernel
theorem dX3_until_123 : decode cX3_until 123 = .ok (.ireturn, 1) := by decide +kernel
theorem dX3_result_0 : decode cX3_result 0 = .ok (.aload_n 0, 1) := by decide +kernel
theorem dX3_result_1 : decode cX3_result 1 = .ok (.getfield 152, 3) := by decide +kernel
theorem dX3_result_4 : decode cX3_result 4 = .ok (.ireturn, 1) := by decide +kernel
theorem dX3_steps_0 : decode cX3_steps 0 = .ok (.aload_n 0, 1) := by decide +kernel
theorem dX3_steps_1 : decode cX3_steps 1 = .ok (.getfield 128, 3) := by decide +kernel
theorem dX3_steps_4 : decode cX3_steps 4 = .ok (.ireturn, 1) := by decide +kernel
theorem dX3_failed__0 : decode cX3_failed_ 0 = .ok (.iload_n 1, 1) := by decide +kernel
theorem dX3_failed__1 : decode cX3_failed_ 1 = .ok (.ifCond .ne 10, 3) := by decide +kernel
theorem dX3_failed__4 : decode cX3_failed_ 4 = .ok (.aload_n 0, 1) := by decide +kernel
theorem dX3_failed__5 : decode cX3_failed_ 5 = .ok (.getfield 134, 3) := by decide +kernel
theorem dX3_failed__8 : decode cX3_failed_ 8 = .ok (.goto 16, 3) := by decide +kernel
theorem dX3_failed__11 : decode cX3_failed_ 11 = .ok (.iload_n 1, 1) := by decide +kernel
theorem dX3_failed__12 : decode cX3_failed_ 12 = .ok (.iconst 1, 1) := by decide +kernel
theorem dX3_failed__13 : decode cX3_failed_ 13 = .ok (.if_icmp .ne 10, 3) := by decide +kernel
theorem dX3_failed__16 : decode cX3_failed_ 16 = .ok (.aload_n 0, 1) := by decide +kernel
theorem dX3_failed__17 : decode cX3_failed_ 17 = .ok (.getfield 52, 3) := by decide +kernel
theorem dX3_failed__20 : decode cX3_failed_ 20 = .ok (.goto 4, 3) := by decide +kernel
theorem dX3_failed__23 : decode cX3_failed_ 23 = .ok (.iconst (-1), 1) := by decide +kernel
theorem dX3_failed__24 : decode cX3_failed_ 24 = .ok (.ireturn, 1) := by decide +kernel
theorem dX3_count_0 : decode cX3_count 0 = .ok (.iconst 0, 1) := by decide +kernel
theorem dX3_count_1 : decode cX3_count 1 = .ok (.istore_n 2, 1) := by decide +kernel
theorem dX3_count_2 : decode cX3_count 2 = .ok (.iconst 0, 1) := by decide +kernel
theorem dX3_count_3 : decode cX3_count 3 = .ok (.istore_n 3, 1) := by decide +kernel
theorem dX3_count_4 : decode cX3_count 4 = .ok (.iload_n 3, 1) := by decide +kernel
theorem dX3_count_5 : decode cX3_count 5 = .ok (.iconst 4, 1) := by decide +kernel
theorem dX3_count_6 : decode cX3_count 6 = .ok (.if_icmp .ge 26, 3) := by decide +kernel
theorem dX3_count_9 : decode cX3_count 9 = .ok (.iload_n 2, 1) := by decide +kernel
theorem dX3_count_10 : decode cX3_count 10 = .ok (.aload_n 0, 1) := by decide +kernel
theorem dX3_count_11 : decode cX3_count 11 = .ok (.getfield 13, 3) := by decide +kernel
theorem dX3_count_14 : decode cX3_count 14 = .ok (.iload_n 3, 1) := by decide +kernel
theorem dX3_count_15 : decode cX3_count 15 = .ok (.iaload, 1) := by decide +kernel
theorem dX3_count_16 : decode cX3_count 16 = .ok (.ifCond .ge 7, 3) := by decide +kernel
theorem dX3_count_19 : decode cX3_count 19 = .ok (.iconst 1, 1) := by decide +kernel
theorem dX3_count_20 : decode cX3_count 20 = .ok (.goto 4, 3) := by decide +kernel
theorem dX3_count_23 : decode cX3_count 23 = .ok (.iconst 0, 1) := by decide +kernel
theorem dX3_count_24 : decode cX3_count 24 = .ok (.iadd, 1) := by decide +kernel
theorem dX3_count_25 : decode cX3_count 25 = .ok (.istore_n 2, 1) := by decide +kernel
theorem dX3_count_26 : decode cX3_count 26 = .ok (.iinc 3 1, 3) := by decide +kernel
theorem dX3_count_29 : decode cX3_count 29 = .ok (.goto (-25), 3) := by decide +kernel
theorem dX3_count_32 : decode cX3_count 32 = .ok (.iload_n 1, 1) := by decide +kernel
theorem dX3_count_33 : decode cX3_count 33 = .ok (.tableswitch 57 0 4 #[35, 40, 45, 50, 55], 35) := by decide +kernel
theorem dX3_count_68 : decode cX3_count 68 = .ok (.aload_n 0, 1) := by decide +kernel
theorem dX3_count_69 : decode cX3_count 69 = .ok (.getfield 65, 3) := by decide +kernel
theorem dX3_count_72 : decode cX3_count 72 = .ok (.ireturn, 1) := by decide +kernel
theorem dX3_count_73 : decode cX3_count 73 = .ok (.aload_n 0, 1) := by decide +kernel
theorem dX3_count_74 : decode cX3_count 74 = .ok (.getfield 89, 3) := by decide +kernel
theorem dX3_count_77 : decode cX3_count 77 = .ok (.ireturn, 1) := by decide +kernel
theorem dX3_count_78 : decode cX3_count 78 = .ok (.aload_n 0, 1) := by decide +kernel
theorem dX3_count_79 : decode cX3_count 79 = .ok (.getfield 137, 3) := by decide +kernel
theorem dX3_count_82 : decode cX3_count 82 = .ok (.ireturn, 1) := by decide +kernel
theorem dX3_count_83 : decode cX3_count 83 = .ok (.aload_n 0, 1) := by decide +kernel
theorem dX3_count_84 : decode cX3_count 84 = .ok (.getfield 112, 3) := by decide +kernel
theorem dX3_count_87 : decode cX3_count 87 = .ok (.ireturn, 1) := by decide +kernel
theorem dX3_count_88 : decode cX3_count 88 = .ok (.iload_n 2, 1) := by decide +kernel
theorem dX3_count_89 : decode cX3_count 89 = .ok (.ireturn, 1) := by decide +kernel
theorem dX3_count_90 : decode cX3_count 90 = .ok (.iconst (-1), 1) := by decide +kernel
theorem dX3_count_91 : decode cX3_count 91 = .ok (.ireturn, 1) := by decide +kernel
theorem dJ9_max_7cf53_0 : decode cJ9_max_7cf53 0 = .ok (.iload_n 0, 1) := by decide +kernel
theorem dJ9_max_7cf53_1 : decode cJ9_max_7cf53 1 = .ok (.iload_n 1, 1) := by decide +kernel
theorem dJ9_max_7cf53_2 : decode cJ9_max_7cf53 2 = .ok (.if_icmp .lt 7, 3) := by decide +kernel
theorem dJ9_max_7cf53_5 : decode cJ9_max_7cf53 5 = .ok (.iload_n 0, 1) := by decide +kernel
theorem dJ9_max_7cf53_6 : decode cJ9_max_7cf53 6 = .ok (.goto 4, 3) := by decide +kernel
theorem dJ9_max_7cf53_9 : decode cJ9_max_7cf53 9 = .ok (.iload_n 1, 1) := by decide +kernel
theorem dJ9_max_7cf53_10 : decode cJ9_max_7cf53 10 = .ok (.ireturn, 1) := by decide +kernel
theorem dJ9_min_7cf53_0 : decode cJ9_min_7cf53 0 = .ok (.iload_n 0, 1) := by decide +kernel
theorem dJ9_min_7cf53_1 : decode cJ9_min_7cf53 1 = .ok (.iload_n 1, 1) := by decide +kernel
theorem dJ9_min_7cf53_2 : decode cJ9_min_7cf53 2 = .ok (.if_icmp .gt 7, 3) := by decide +kernel
theorem dJ9_min_7cf53_5 : decode cJ9_min_7cf53 5 = .ok (.iload_n 0, 1) := by decide +kernel
theorem dJ9_min_7cf53_6 : decode cJ9_min_7cf53 6 = .ok (.goto 4, 3) := by decide +kernel
theorem dJ9_min_7cf53_9 : decode cJ9_min_7cf53 9 = .ok (.iload_n 1, 1) := by decide +kernel
theorem dJ9_min_7cf53_10 : decode cJ9_min_7cf53 10 = .ok (.ireturn, 1) := by decide +kernel
theorem dJ7_copyOf_59c91_0 : decode cJ7_copyOf_59c91 0 = .ok (.iload_n 1, 1) := by decide +kernel
theorem dJ7_copyOf_59c91_1 : decode cJ7_copyOf_59c91 1 = .ok (.aload_n 0, 1) := by decide +kernel
theorem dJ7_copyOf_59c91_2 : decode cJ7_copyOf_59c91 2 = .ok (.arraylength, 1) := by decide +kernel
theorem dJ7_copyOf_59c91_3 : decode cJ7_copyOf_59c91 3 = .ok (.if_icmp .ne 11, 3) := by decide +kernel
theorem dJ7_copyOf_59c91_6 : decode cJ7_copyOf_59c91 6 = .ok (.aload_n 0, 1) := by decide +kernel
theorem dJ7_copyOf_59c91_7 : decode cJ7_copyOf_59c91 7 = .ok (.invokevirtual 316, 3) := by decide +kernel
theorem dJ7_copyOf_59c91_10 : decode cJ7_copyOf_59c91 10 = .ok (.checkcast 317, 3) := by decide +kernel
theorem dJ7_copyOf_59c91_13 : decode cJ7_copyOf_59c91 13 = .ok (.areturn, 1) := by decide +kernel
theorem dJ7_copyOf_59c91_14 : decode cJ7_copyOf_59c91 14 = .ok (.iload_n 1, 1) := by decide +kernel
theorem dJ7_copyOf_59c91_15 : decode cJ7_copyOf_59c91 15 = .ok (.newarray .int, 2) := by decide +kernel
theorem dJ7_copyOf_59c91_17 : decode cJ7_copyOf_59c91 17 = .ok (.astore_n 2, 1) := by decide +kernel
theorem dJ7_copyOf_59c91_18 : decode cJ7_copyOf_59c91 18 = .ok (.aload_n 0, 1) := by decide +kernel
theorem dJ7_copyOf_59c91_19 : decode cJ7_copyOf_59c91 19 = .ok (.iconst 0, 1) := by decide +kernel
theorem dJ7_copyOf_59c91_20 : decode cJ7_copyOf_59c91 20 = .ok (.aload_n 2, 1) := by decide +kernel
theorem dJ7_copyOf_59c91_21 : decode cJ7_copyOf_59c91 21 = .ok (.iconst 0, 1) := by decide +kernel
theorem dJ7_copyOf_59c91_22 : decode cJ7_copyOf_59c91 22 = .ok (.aload_n 0, 1) := by decide +kernel
theorem dJ7_copyOf_59c91_23 : decode cJ7_copyOf_59c91 23 = .ok (.arraylength, 1) := by decide +kernel
theorem dJ7_copyOf_59c91_24 : decode cJ7_copyOf_59c91 24 = .ok (.iload_n 1, 1) := by decide +kernel
theorem dJ7_copyOf_59c91_25 : decode cJ7_copyOf_59c91 25 = .ok (.invokestatic 304, 3) := by decide +kernel
theorem dJ7_copyOf_59c91_28 : decode cJ7_copyOf_59c91 28 = .ok (.invokestatic 150, 3) := by decide +kernel
theorem dJ7_copyOf_59c91_31 : decode cJ7_copyOf_59c91 31 = .ok (.aload_n 2, 1) := by decide +kernel
theorem dJ7_copyOf_59c91_32 : decode cJ7_copyOf_59c91 32 = .ok (.areturn, 1) := by decide +kernel
abbrev vwCl : List vw_C := [(RX0, TX0, 1), (RX1, TX1, 6), (RX2, TX2, 16), (RX3, TX3, 30)]
end
section
/-! the common state: the scalars and the int arrays of the reference's object, by the numbers of its fields -/
abbrev tr_S : Type := (Nat → Int32) × (Nat → Nat → Int32)
def sF (S : tr_S) (k : Nat) (v : Int32) : tr_S := (upd S.1 k v, S.2)
def sA (S : tr_S) (k i : Nat) (v : Int32) : tr_S := (S.1, va_up S.2 k (upd (S.2 k) i v))
theorem sF_F (S : tr_S) (k : Nat) (v : Int32) (j : Nat) : (sF S k v).1 j = if j = k then v else S.1 j := rfl
theorem sF_A (S : tr_S) (k : Nat) (v : Int32) : (sF S k v).2 = S.2 := rfl
theorem sA_F (S : tr_S) (k i : Nat) (v : Int32) : (sA S k i v).1 = S.1 := rfl
theorem sA_A (S : tr_S) (k i : Nat) (v : Int32) (q j : Nat) : (sA S k i v).2 q j = if q = k then (if j = i then v else S.2 k j) else S.2 q j := by
  show va_up S.2 k (upd (S.2 k) i v) q j = _
  unfold va_up upd
  by_cases h : q = k
  · simp [h]
  · simp [h]
/-! the reference's world: its object and its arrays -/
def m_F (ad : Nat → Nat) (S : tr_S) : List Value := [.ref (ad 0), .ref (ad 1), .ref (ad 2), .ref (ad 3), .int (S.1 4), .ref (ad 5), .ref (ad 6), .ref (ad 7), .ref (ad 8), .ref (ad 9), .ref (ad 10), .int (S.1 11), .ref (ad 12), .ref (ad 13), .ref (ad 14), .ref (ad 15), .int (S.1 16), .int (S.1 17), .int (S.1 18), .int (S.1 19), .int (S.1 20), .int (S.1 21), .int (S.1 22), .int (S.1 23), .int (S.1 24), .int (S.1 25), .int (S.1 26), .ref (ad 27), .ref (ad 28), .ref (ad 29)]
def m_W (o : Nat) (ad : Nat → Nat) (cA : ClassId) (S : tr_S) : va_W := [(o, .inr (3, m_F ad S)), (ad 0, .inl (cA, 8, .inl (S.2 0))), (ad 1, .inl (cA, 4, .inl (S.2 1))), (ad 2, .inl (cA, 48, .inl (S.2 2))), (ad 3, .inl (cA, 480, .inl (S.2 3))), (ad 5, .inl (cA, 40, .inl (S.2 5))), (ad 6, .inl (cA, 40, .inl (S.2 6))), (ad 7, .inl (cA, 40, .inl (S.2 7))), (ad 8, .inl (cA, 40, .inl (S.2 8))), (ad 9, .inl (cA, 40, .inl (S.2 9))), (ad 10, .inl (cA, 40, .inl (S.2 10))), (ad 12, .inl (cA, 65, .inl (S.2 12))), (ad 13, .inl (cA, 65, .inl (S.2 13))), (ad 14, .inl (cA, 65, .inl (S.2 14))), (ad 15, .inl (cA, 65, .inl (S.2 15))), (ad 27, .inl (cA, 10, .inl (S.2 27))), (ad 28, .inl (cA, 10, .inl (S.2 28))), (ad 29, .inl (cA, 10, .inl (S.2 29)))]
def m_A (o : Nat) (ad : Nat → Nat) : Nat → Prop := fun q => q = o ∨ ∃ k, q = ad k
def m_B (D : va_G) (o : Nat) (ad : Nat → Nat) (cA : ClassId) (S : tr_S) (U : State) : Prop := va_P D vwCl (m_W o ad cA S) U.heap ∧ va_K D vwCl [(cA, .int)] U ∧ va_D (m_A o ad) (m_W o ad cA S)
def m_I (D : va_G) (o : Nat) (ad : Nat → Nat) (cA : ClassId) (S : tr_S) (s : State) (H0 H : Heap) (locs : List Loc) : Prop := va_P D vwCl (m_W o ad cA S) H ∧ va_K D vwCl [(cA, .int)] s ∧ va_D (m_A o ad) (m_W o ad cA S) ∧ va_S (m_A o ad) H0 H locs
theorem m_I.of {D : va_G} {o : Nat} {ad : Nat → Nat} {cA : ClassId} {S : tr_S} {s : State} (h : m_B D o ad cA S s) : m_I D o ad cA S s s.heap s.heap [] := ⟨h.1, h.2.1, h.2.2, va_S.rf⟩
theorem m_I.to {D : va_G} {o : Nat} {ad : Nat → Nat} {cA : ClassId} {S : tr_S} {s t : State} {H0 H : Heap} {locs : List Loc} (h : m_I D o ad cA S s H0 H locs) (ht : t.heap = H) (hW : s.WarmedH t.vm) : m_B D o ad cA S t := ⟨by rw [ht]; exact h.1, va_K.moved hW.alike h.2.1, h.2.2.1⟩
theorem m_B.blind {D : va_G} {o : Nat} {ad : Nat → Nat} {cA : ClassId} {S : tr_S} {av : List Value} : FrameBlind (va_Pc av (m_B D o ad cA S)) := fun a U g mk q => by
  obtain ⟨q0, qP, qK, qD⟩ := q
  exact ⟨q0, qP, va_K.moved (u := U) (U := U.calling g mk a) (Vm.Alike.refl U.vm) qK, qD⟩
abbrev m_Mi (l : Launch) (y : MethodName) (ws : List Cond) (rm : Room) (av : List Value) (D : va_G) (o : Nat) (ad : Nat → Nat) (cA : ClassId) (S : tr_S) (post : Int32 → tr_S → Prop) : Prop := Met l y ws rm (va_Pc (.ref o :: av) (m_B D o ad cA S)) (va_Qi post (m_B D o ad cA) (m_A o ad)) 0 0 (m_A o ad)
abbrev m_Ml (l : Launch) (y : MethodName) (ws : List Cond) (rm : Room) (av : List Value) (D : va_G) (o : Nat) (ad : Nat → Nat) (cA : ClassId) (S : tr_S) (post : Int64 → tr_S → Prop) : Prop := Met l y ws rm (va_Pc (.ref o :: av) (m_B D o ad cA S)) (va_Ql post (m_B D o ad cA) (m_A o ad)) 0 0 (m_A o ad)
abbrev m_Mv (l : Launch) (y : MethodName) (ws : List Cond) (rm : Room) (av : List Value) (D : va_G) (o : Nat) (ad : Nat → Nat) (cA : ClassId) (S : tr_S) (post : tr_S → Prop) : Prop := Met l y ws rm (va_Pc (.ref o :: av) (m_B D o ad cA S)) (va_Qv post (m_B D o ad cA) (m_A o ad)) 0 0 (m_A o ad)
section MR
variable {p : Program} {l : Launch} {e : Env} {R : Room} {s : State} {m : MethodId} {args : Array Value} {below : List Frame} {meth : Method} {c : Code} {H H0 : Heap} {locs : List Loc} {cells slots : Nat} {Q : State → Prop}
variable {cc : ByteArray} {pc : Nat} {ls : Array Slot} {rest st0 : List Value} {D : va_G} {o : Nat} {ad : Nat → Nat} {cA : ClassId} {S : tr_S} {Ts : List Cond} {index : Nat}
theorem m_get (hx : p.tables.exec = Jvm.exec) (hb : c.code = cc) (hts : ∀ w ∈ Ts, w.before args s = true) (hin : ∀ w ∈ wsX30, w ∈ Ts) (hown : s.vm.findClass RX3 = some m.cls) (I : m_I D o ad cA S s H0 H locs) (k : Nat) (hk : k < 30) (hT : (TX3 k).1 = RX3) {v : Value} (hv : (m_F ad S)[k]? = some v) (hlink : (Cond.fieldLink RX3 index RX3 (TX3 k).2.1 (TX3 k).2.2.1).before args s = true) (hdg : decode cc pc = .ok (.getfield index, 3))
    (kk : W p l e R s m args below meth c H locs cells slots Q (F0 m (pc + 3) ls (v :: rest))) : W p l e R s m args below meth c H locs cells slots Q (F0 m pc ls (.ref o :: rest)) :=
  va_get (D := D) (cl := vwCl) (C := RX3) (T := TX3) (N := 30) (ci := 3) hx hb hts hin hown I.2.1 I.1 0 rfl rfl k hk hlink (fun _ h => hT ▸ h) hv hdg kk
theorem m_put (hx : p.tables.exec = Jvm.exec) (hb : c.code = cc) (hts : ∀ w ∈ Ts, w.before args s = true) (hin : ∀ w ∈ wsX30, w ∈ Ts) (hown : s.vm.findClass RX3 = some m.cls) (I : m_I D o ad cA S s H0 H locs) (k : Nat) (hk : k < 30) (hT : (TX3 k).1 = RX3) (hfin : (TX3 k).2.2.2 = false) (hd : parseFieldDescriptor (TX3 k).2.2.1 = some .int) {x : Int32}
    (hset : (m_W o ad cA S).set 0 (o, .inr (3, (m_F ad S).set k (.int x))) = m_W o ad cA (sF S k x)) (hlink : (Cond.fieldLink RX3 index RX3 (TX3 k).2.1 (TX3 k).2.2.1).before args s = true) (hdg : decode cc pc = .ok (.putfield index, 3))
    (kk : ∀ (H1 : Heap) (locs1 : List Loc), m_I D o ad cA (sF S k x) s H0 H1 locs1 → W p l e R s m args below meth c H1 locs1 cells slots Q (F0 m (pc + 3) ls rest)) : W p l e R s m args below meth c H locs cells slots Q (F0 m pc ls (.int x :: .ref o :: rest)) :=
  va_put (D := D) (cl := vwCl) (C := RX3) (T := TX3) (N := 30) (ci := 3) hx hb hts hin tyX3 tyX3_ok nmX3 hown I.2.1 I.1 I.2.2.1 I.2.2.2 0 rfl rfl k hk hlink (fun _ h => hT ▸ h) hfin hd rfl rfl hk hdg (fun H1 locs1 hP hD hS => kk H1 locs1 ⟨hset ▸ hP, I.2.1, hset ▸ hD, hS⟩)
theorem m_ald (hx : p.tables.exec = Jvm.exec) (hb : c.code = cc) (I : m_I D o ad cA S s H0 H locs) (k q0 : Nat) {n : Nat} {f : Nat → Int32} (ha : (m_W o ad cA S)[q0]? = some (ad k, .inl (cA, n, .inl f))) {i : Int32} (hi : vp_in i n) (hdg : decode cc pc = .ok (.iaload, 1))
    (kk : W p l e R s m args below meth c H locs cells slots Q (F0 m (pc + 1) ls (.int (f i.toNatClampNeg) :: rest))) : W p l e R s m args below meth c H locs cells slots Q (F0 m pc ls (.int i :: .ref (ad k) :: rest)) :=
  va_iald hx hb I.2.1 I.1 q0 0 ha rfl hi hdg kk
theorem m_ast (hx : p.tables.exec = Jvm.exec) (hb : c.code = cc) (I : m_I D o ad cA S s H0 H locs) (k q0 : Nat) {n : Nat} (ha : (m_W o ad cA S)[q0]? = some (ad k, .inl (cA, n, .inl (S.2 k)))) {i x : Int32}
    (hset : (m_W o ad cA S).set q0 (ad k, .inl (cA, n, .inl (upd (S.2 k) i.toNatClampNeg x))) = m_W o ad cA (sA S k i.toNatClampNeg x)) (hi : vp_in i n) (hdg : decode cc pc = .ok (.iastore, 1))
    (kk : ∀ (H1 : Heap) (locs1 : List Loc), m_I D o ad cA (sA S k i.toNatClampNeg x) s H0 H1 locs1 → W p l e R s m args below meth c H1 locs1 cells slots Q (F0 m (pc + 1) ls rest)) : W p l e R s m args below meth c H locs cells slots Q (F0 m pc ls (.int x :: .int i :: .ref (ad k) :: rest)) :=
  va_iast hx hb I.2.1 I.1 I.2.2.1 I.2.2.2 q0 0 ha rfl hi hdg (fun H1 locs1 hP hD hS => kk H1 locs1 ⟨hset ▸ hP, I.2.1, hset ▸ hD, hS⟩)
theorem m_iret (hx : p.tables.exec = Jvm.exec) (hb : c.code = cc) (hr : meth.sig.returnType = some .int) (hlocks : meth.locks = false) (I : m_I D o ad cA S s s.heap H locs) {post : Int32 → tr_S → Prop} {v : Int32} (hdg : decode cc pc = .ok (.ireturn, 1)) (hp : post v S) :
    W p l e R s m args below meth c H locs cells slots (MQ below (va_Qi post (m_B D o ad cA) (m_A o ad)) args s cells slots (m_A o ad)) (F0 m pc ls [.int v]) :=
  W.iret hx hb hr (fun t ht hW => ⟨⟨v, S, rfl, hp, I.to ht hW⟩, I.2.2.2.F ht⟩) I.2.2.2.2.2 hdg hlocks
theorem m_zret (hx : p.tables.exec = Jvm.exec) (hb : c.code = cc) (hr : meth.sig.returnType = some .boolean) (hlocks : meth.locks = false) (I : m_I D o ad cA S s s.heap H locs) {post : Int32 → tr_S → Prop} {v : Int32} (hv : narrow .boolean (.int v) = .int v) (hdg : decode cc pc = .ok (.ireturn, 1)) (hp : post v S) :
    W p l e R s m args below meth c H locs cells slots (MQ below (va_Qi post (m_B D o ad cA) (m_A o ad)) args s cells slots (m_A o ad)) (F0 m pc ls [.int v]) :=
  W.zret hx hb hr hv (fun t ht hW => ⟨⟨v, S, rfl, hp, I.to ht hW⟩, I.2.2.2.F ht⟩) I.2.2.2.2.2 hdg hlocks
theorem m_lret (hx : p.tables.exec = Jvm.exec) (hb : c.code = cc) (hr : meth.sig.returnType = some .long) (hlocks : meth.locks = false) (I : m_I D o ad cA S s s.heap H locs) {post : Int64 → tr_S → Prop} {v : Int64} (hdg : decode cc pc = .ok (.lreturn, 1)) (hp : post v S) :
    W p l e R s m args below meth c H locs cells slots (MQ below (va_Ql post (m_B D o ad cA) (m_A o ad)) args s cells slots (m_A o ad)) (F0 m pc ls [.long v]) :=
  W.lret hx hb hr (fun t ht hW => ⟨⟨v, S, rfl, hp, I.to ht hW⟩, I.2.2.2.F ht⟩) I.2.2.2.2.2 hdg hlocks
theorem m_vret (hx : p.tables.exec = Jvm.exec) (hb : c.code = cc) (hr : meth.sig.returnType = none) (hlocks : meth.locks = false) (I : m_I D o ad cA S s s.heap H locs) {post : tr_S → Prop} (hdg : decode cc pc = .ok (.return_, 1)) (hp : post S) :
    W p l e R s m args below meth c H locs cells slots (MQ below (va_Qv post (m_B D o ad cA) (m_A o ad)) args s cells slots (m_A o ad)) (F0 m pc ls []) :=
  W.vret hx hb hr (fun t ht hW => ⟨⟨S, rfl, hp, I.to ht hW⟩, I.2.2.2.F ht⟩) I.2.2.2.2.2 hdg hlocks
variable {y : MethodName} {bytes : ByteArray} {maxL nL n : Nat} {ret : Option FieldType} {ws : List Cond} {rm : Room} {own : String} {av : List Value}
theorem m_calli {post : Int32 → tr_S → Prop} (X : CallFix p m c cc nL s args Ts own) (hM : m_Mi l y ws rm av D o ad cA S post) (cw : CallW R s args own RX3 index y bytes maxL ret ws rm 0 0 n) (I : m_I D o ad cA S s H0 H locs) (hn : av.length = n) (hsize : ls.size = nL) (hst : st0 = av.reverse ++ .ref o :: rest) (hroom : (rest.map fun v => v.category).sum ≤ 8) (hdg : decode cc pc = .ok (.invokevirtual index, 3)) (hf : cells ≤ R.cells ∧ slots ≤ R.slots)
    (kk : ∀ (r : Int32) (S1 : tr_S) (H1 : Heap) (locs1 : List Loc), post r S1 → m_I D o ad cA S1 s H0 H1 locs1 → W p l e R s m args below meth c H1 locs1 cells slots Q (F0 m (pc + 3) ls (.int r :: rest))) : W p l e R s m args below meth c H locs cells slots Q (F0 m pc ls st0) := by
  refine va_calli (va_runV X hM cw ⟨m_B.blind, va_recv I.2.1 I.1 (ci := 3) (q0 := 0) rfl rfl, fun U hU hW => ⟨rfl, by rw [hU]; exact I.1, va_K.moved hW.alike I.2.1, I.2.2.1⟩⟩ rfl hn hsize hst (lv_room hroom) hdg hf) I.2.2.2 (fun q _ h => h) (fun q h => h) (fun r u t H1 locs1 ht hvm hp hB _ _ hS => ?_)
  subst ht
  exact kk r u _ locs1 hp ⟨hB.1, va_K.moved hvm.symm hB.2.1, hB.2.2, hS⟩
theorem m_calll {post : Int64 → tr_S → Prop} (X : CallFix p m c cc nL s args Ts own) (hM : m_Ml l y ws rm av D o ad cA S post) (cw : CallW R s args own RX3 index y bytes maxL ret ws rm 0 0 n) (I : m_I D o ad cA S s H0 H locs) (hn : av.length = n) (hsize : ls.size = nL) (hst : st0 = av.reverse ++ .ref o :: rest) (hroom : (rest.map fun v => v.category).sum ≤ 8) (hdg : decode cc pc = .ok (.invokevirtual index, 3)) (hf : cells ≤ R.cells ∧ slots ≤ R.slots)
    (kk : ∀ (r : Int64) (S1 : tr_S) (H1 : Heap) (locs1 : List Loc), post r S1 → m_I D o ad cA S1 s H0 H1 locs1 → W p l e R s m args below meth c H1 locs1 cells slots Q (F0 m (pc + 3) ls (.long r :: rest))) : W p l e R s m args below meth c H locs cells slots Q (F0 m pc ls st0) := by
  refine va_calll (va_runV X hM cw ⟨m_B.blind, va_recv I.2.1 I.1 (ci := 3) (q0 := 0) rfl rfl, fun U hU hW => ⟨rfl, by rw [hU]; exact I.1, va_K.moved hW.alike I.2.1, I.2.2.1⟩⟩ rfl hn hsize hst (lv_room hroom) hdg hf) I.2.2.2 (fun q _ h => h) (fun q h => h) (fun r u t H1 locs1 ht hvm hp hB _ _ hS => ?_)
  subst ht
  exact kk r u _ locs1 hp ⟨hB.1, va_K.moved hvm.symm hB.2.1, hB.2.2, hS⟩
theorem m_callv {post : tr_S → Prop} (X : CallFix p m c cc nL s args Ts own) (hM : m_Mv l y ws rm av D o ad cA S post) (cw : CallW R s args own RX3 index y bytes maxL ret ws rm 0 0 n) (I : m_I D o ad cA S s H0 H locs) (hn : av.length = n) (hsize : ls.size = nL) (hst : st0 = av.reverse ++ .ref o :: rest) (hroom : (rest.map fun v => v.category).sum ≤ 8) (hdg : decode cc pc = .ok (.invokevirtual index, 3)) (hf : cells ≤ R.cells ∧ slots ≤ R.slots)
    (kk : ∀ (S1 : tr_S) (H1 : Heap) (locs1 : List Loc), post S1 → m_I D o ad cA S1 s H0 H1 locs1 → W p l e R s m args below meth c H1 locs1 cells slots Q (F0 m (pc + 3) ls rest)) : W p l e R s m args below meth c H locs cells slots Q (F0 m pc ls st0) := by
  refine va_callv (va_runV X hM cw ⟨m_B.blind, va_recv I.2.1 I.1 (ci := 3) (q0 := 0) rfl rfl, fun U hU hW => ⟨rfl, by rw [hU]; exact I.1, va_K.moved hW.alike I.2.1, I.2.2.1⟩⟩ rfl hn hsize hst (lv_room hroom) hdg hf) I.2.2.2 (fun q _ h => h) (fun q h => h) (fun u t H1 locs1 ht hvm hp hB _ _ hS => ?_)
  subst ht
  exact kk u _ locs1 hp ⟨hB.1, va_K.moved hvm.symm hB.2.1, hB.2.2, hS⟩
theorem m_get4 (hx : p.tables.exec = Jvm.exec) (hb : c.code = cc) (hts : ∀ w ∈ Ts, w.before args s = true) (hin : ∀ w ∈ wsX30, w ∈ Ts) (hown : s.vm.findClass RX3 = some m.cls) (I : m_I D o ad cA S s H0 H locs) (hlink : (Cond.fieldLink RX3 index RX3 (TX3 4).2.1 (TX3 4).2.2.1).before args s = true) (hdg : decode cc pc = .ok (.getfield index, 3)) {x : Int32} (hv : S.1 4 = x) (kk : W p l e R s m args below meth c H locs cells slots Q (F0 m (pc + 3) ls (.int x :: rest))) : W p l e R s m args below meth c H locs cells slots Q (F0 m pc ls (.ref o :: rest)) := by
  subst hv
  exact m_get hx hb hts hin hown I 4 (by decide) rfl rfl hlink hdg kk
theorem m_set4 {x : Int32} : (m_W o ad cA S).set 0 (o, .inr (3, (m_F ad S).set 4 (.int x))) = m_W o ad cA (sF S 4 x) := rfl
theorem m_put4 (hx : p.tables.exec = Jvm.exec) (hb : c.code = cc) (hts : ∀ w ∈ Ts, w.before args s = true) (hin : ∀ w ∈ wsX30, w ∈ Ts) (hown : s.vm.findClass RX3 = some m.cls) (I : m_I D o ad cA S s H0 H locs) (hlink : (Cond.fieldLink RX3 index RX3 (TX3 4).2.1 (TX3 4).2.2.1).before args s = true) (hdg : decode cc pc = .ok (.putfield index, 3)) {x : Int32} (kk : ∀ (H1 : Heap) (locs1 : List Loc), m_I D o ad cA (sF S 4 x) s H0 H1 locs1 → W p l e R s m args below meth c H1 locs1 cells slots Q (F0 m (pc + 3) ls rest)) : W p l e R s m args below meth c H locs cells slots Q (F0 m pc ls (.int x :: .ref o :: rest)) :=
  m_put hx hb hts hin hown I 4 (by decide) rfl rfl (by decide +kernel) m_set4 hlink hdg kk
theorem m_get11 (hx : p.tables.exec = Jvm.exec) (hb : c.code = cc) (hts : ∀ w ∈ Ts, w.before args s = true) (hin : ∀ w ∈ wsX30, w ∈ Ts) (hown : s.vm.findClass RX3 = some m.cls) (I : m_I D o ad cA S s H0 H locs) (hlink : (Cond.fieldLink RX3 index RX3 (TX3 11).2.1 (TX3 11).2.2.1).before args s = true) (hdg : decode cc pc = .ok (.getfield index, 3)) {x : Int32} (hv : S.1 11 = x) (kk : W p l e R s m args below meth c H locs cells slots Q (F0 m (pc + 3) ls (.int x :: rest))) : W p l e R s m args below meth c H locs cells slots Q (F0 m pc ls (.ref o :: rest)) := by
  subst hv
  exact m_get hx hb hts hin hown I 11 (by decide) rfl rfl hlink hdg kk
theorem m_set11 {x : Int32} : (m_W o ad cA S).set 0 (o, .inr (3, (m_F ad S).set 11 (.int x))) = m_W o ad cA (sF S 11 x) := rfl
theorem m_put11 (hx : p.tables.exec = Jvm.exec) (hb : c.code = cc) (hts : ∀ w ∈ Ts, w.before args s = true) (hin : ∀ w ∈ wsX30, w ∈ Ts) (hown : s.vm.findClass RX3 = some m.cls) (I : m_I D o ad cA S s H0 H locs) (hlink : (Cond.fieldLink RX3 index RX3 (TX3 11).2.1 (TX3 11).2.2.1).before args s = true) (hdg : decode cc pc = .ok (.putfield index, 3)) {x : Int32} (kk : ∀ (H1 : Heap) (locs1 : List Loc), m_I D o ad cA (sF S 11 x) s H0 H1 locs1 → W p l e R s m args below meth c H1 locs1 cells slots Q (F0 m (pc + 3) ls rest)) : W p l e R s m args below meth c H locs cells slots Q (F0 m pc ls (.int x :: .ref o :: rest)) :=
  m_put hx hb hts hin hown I 11 (by decide) rfl rfl (by decide +kernel) m_set11 hlink hdg kk
theorem m_get16 (hx : p.tables.exec = Jvm.exec) (hb : c.code = cc) (hts : ∀ w ∈ Ts, w.before args s = true) (hin : ∀ w ∈ wsX30, w ∈ Ts) (hown : s.vm.findClass RX3 = some m.cls) (I : m_I D o ad cA S s H0 H locs) (hlink : (Cond.fieldLink RX3 index RX3 (TX3 16).2.1 (TX3 16).2.2.1).before args s = true) (hdg : decode cc pc = .ok (.getfield index, 3)) {x : Int32} (hv : S.1 16 = x) (kk : W p l e R s m args below meth c H locs cells slots Q (F0 m (pc + 3) ls (.int x :: rest))) : W p l e R s m args below meth c H locs cells slots Q (F0 m pc ls (.ref o :: rest)) := by
  subst hv
  exact m_get hx hb hts hin hown I 16 (by decide) rfl rfl hlink hdg kk
theorem m_set16 {x : Int32} : (m_W o ad cA S).set 0 (o, .inr (3, (m_F ad S).set 16 (.int x))) = m_W o ad cA (sF S 16 x) := rfl
theorem m_put16 (hx : p.tables.exec = Jvm.exec) (hb : c.code = cc) (hts : ∀ w ∈ Ts, w.before args s = true) (hin : ∀ w ∈ wsX30, w ∈ Ts) (hown : s.vm.findClass RX3 = some m.cls) (I : m_I D o ad cA S s H0 H locs) (hlink : (Cond.fieldLink RX3 index RX3 (TX3 16).2.1 (TX3 16).2.2.1).before args s = true) (hdg : decode cc pc = .ok (.putfield index, 3)) {x : Int32} (kk : ∀ (H1 : Heap) (locs1 : List Loc), m_I D o ad cA (sF S 16 x) s H0 H1 locs1 → W p l e R s m args below meth c H1 locs1 cells slots Q (F0 m (pc + 3) ls rest)) : W p l e R s m args below meth c H locs cells slots Q (F0 m pc ls (.int x :: .ref o :: rest)) :=
  m_put hx hb hts hin hown I 16 (by decide) rfl rfl (by decide +kernel) m_set16 hlink hdg kk
theorem m_get17 (hx : p.tables.exec = Jvm.exec) (hb : c.code = cc) (hts : ∀ w ∈ Ts, w.before args s = true) (hin : ∀ w ∈ wsX30, w ∈ Ts) (hown : s.vm.findClass RX3 = some m.cls) (I : m_I D o ad cA S s H0 H locs) (hlink : (Cond.fieldLink RX3 index RX3 (TX3 17).2.1 (TX3 17).2.2.1).before args s = true) (hdg : decode cc pc = .ok (.getfield index, 3)) {x : Int32} (hv : S.1 17 = x) (kk : W p l e R s m args below meth c H locs cells slots Q (F0 m (pc + 3) ls (.int x :: rest))) : W p l e R s m args below meth c H locs cells slots Q (F0 m pc ls (.ref o :: rest)) := by
  subst hv
  exact m_get hx hb hts hin hown I 17 (by decide) rfl rfl hlink hdg kk
theorem m_set17 {x : Int32} : (m_W o ad cA S).set 0 (o, .inr (3, (m_F ad S).set 17 (.int x))) = m_W o ad cA (sF S 17 x) := rfl
theorem m_put17 (hx : p.tables.exec = Jvm.exec) (hb : c.code = cc) (hts : ∀ w ∈ Ts, w.before args s = true) (hin : ∀ w ∈ wsX30, w ∈ Ts) (hown : s.vm.findClass RX3 = some m.cls) (I : m_I D o ad cA S s H0 H locs) (hlink : (Cond.fieldLink RX3 index RX3 (TX3 17).2.1 (TX3 17).2.2.1).before args s = true) (hdg : decode cc pc = .ok (.putfield index, 3)) {x : Int32} (kk : ∀ (H1 : Heap) (locs1 : List Loc), m_I D o ad cA (sF S 17 x) s H0 H1 locs1 → W p l e R s m args below meth c H1 locs1 cells slots Q (F0 m (pc + 3) ls rest)) : W p l e R s m args below meth c H locs cells slots Q (F0 m pc ls (.int x :: .ref o :: rest)) :=
  m_put hx hb hts hin hown I 17 (by decide) rfl rfl (by decide +kernel) m_set17 hlink hdg kk
theorem m_get18 (hx : p.tables.exec = Jvm.exec) (hb : c.code = cc) (hts : ∀ w ∈ Ts, w.before args s = true) (hin : ∀ w ∈ wsX30, w ∈ Ts) (hown : s.vm.findClass RX3 = some m.cls) (I : m_I D o ad cA S s H0 H locs) (hlink : (Cond.fieldLink RX3 index RX3 (TX3 18).2.1 (TX3 18).2.2.1).before args s = true) (hdg : decode cc pc = .ok (.getfield index, 3)) {x : Int32} (hv : S.1 18 = x) (kk : W p l e R s m args below meth c H locs cells slots Q (F0 m (pc + 3) ls (.int x :: rest))) : W p l e R s m args below meth c H locs cells slots Q (F0 m pc ls (.ref o :: rest)) := by
  subst hv
  exact m_get hx hb hts hin hown I 18 (by decide) rfl rfl hlink hdg kk
theorem m_set18 {x : Int32} : (m_W o ad cA S).set 0 (o, .inr (3, (m_F ad S).set 18 (.int x))) = m_W o ad cA (sF S 18 x) := rfl
theorem m_put18 (hx : p.tables.exec = Jvm.exec) (hb : c.code = cc) (hts : ∀ w ∈ Ts, w.before args s = true) (hin : ∀ w ∈ wsX30, w ∈ Ts) (hown : s.vm.findClass RX3 = some m.cls) (I : m_I D o ad cA S s H0 H locs) (hlink : (Cond.fieldLink RX3 index RX3 (TX3 18).2.1 (TX3 18).2.2.1).before args s = true) (hdg : decode cc pc = .ok (.putfield index, 3)) {x : Int32} (kk : ∀ (H1 : Heap) (locs1 : List Loc), m_I D o ad cA (sF S 18 x) s H0 H1 locs1 → W p l e R s m args below meth c H1 locs1 cells slots Q (F0 m (pc + 3) ls rest)) : W p l e R s m args below meth c H locs cells slots Q (F0 m pc ls (.int x :: .ref o :: rest)) :=
  m_put hx hb hts hin hown I 18 (by decide) rfl rfl (by decide +kernel) m_set18 hlink hdg kk
theorem m_get19 (hx : p.tables.exec = Jvm.exec) (hb : c.code = cc) (hts : ∀ w ∈ Ts, w.before args s = true) (hin : ∀ w ∈ wsX30, w ∈ Ts) (hown : s.vm.findClass RX3 = some m.cls) (I : m_I D o ad cA S s H0 H locs) (hlink : (Cond.fieldLink RX3 index RX3 (TX3 19).2.1 (TX3 19).2.2.1).before args s = true) (hdg : decode cc pc = .ok (.getfield index, 3)) {x : Int32} (hv : S.1 19 = x) (kk : W p l e R s m args below meth c H locs cells slots Q (F0 m (pc + 3) ls (.int x :: rest))) : W p l e R s m args below meth c H locs cells slots Q (F0 m pc ls (.ref o :: rest)) := by
  subst hv
  exact m_get hx hb hts hin hown I 19 (by decide) rfl rfl hlink hdg kk
theorem m_set19 {x : Int32} : (m_W o ad cA S).set 0 (o, .inr (3, (m_F ad S).set 19 (.int x))) = m_W o ad cA (sF S 19 x) := rfl
theorem m_put19 (hx : p.tables.exec = Jvm.exec) (hb : c.code = cc) (hts : ∀ w ∈ Ts, w.before args s = true) (hin : ∀ w ∈ wsX30, w ∈ Ts) (hown : s.vm.findClass RX3 = some m.cls) (I : m_I D o ad cA S s H0 H locs) (hlink : (Cond.fieldLink RX3 index RX3 (TX3 19).2.1 (TX3 19).2.2.1).before args s = true) (hdg : decode cc pc = .ok (.putfield index, 3)) {x : Int32} (kk : ∀ (H1 : Heap) (locs1 : List Loc), m_I D o ad cA (sF S 19 x) s H0 H1 locs1 → W p l e R s m args below meth c H1 locs1 cells slots Q (F0 m (pc + 3) ls rest)) : W p l e R s m args below meth c H locs cells slots Q (F0 m pc ls (.int x :: .ref o :: rest)) :=
  m_put hx hb hts hin hown I 19 (by decide) rfl rfl (by decide +kernel) m_set19 hlink hdg kk
theorem m_get20 (hx : p.tables.exec = Jvm.exec) (hb : c.code = cc) (hts : ∀ w ∈ Ts, w.before args s = true) (hin : ∀ w ∈ wsX30, w ∈ Ts) (hown : s.vm.findClass RX3 = some m.cls) (I : m_I D o ad cA S s H0 H locs) (hlink : (Cond.fieldLink RX3 index RX3 (TX3 20).2.1 (TX3 20).2.2.1).before args s = true) (hdg : decode cc pc = .ok (.getfield index, 3)) {x : Int32} (hv : S.1 20 = x) (kk : W p l e R s m args below meth c H locs cells slots Q (F0 m (pc + 3) ls (.int x :: rest))) : W p l e R s m args below meth c H locs cells slots Q (F0 m pc ls (.ref o :: rest)) := by
  subst hv
  exact m_get hx hb hts hin hown I 20 (by decide) rfl rfl hlink hdg kk
theorem m_set20 {x : Int32} : (m_W o ad cA S).set 0 (o, .inr (3, (m_F ad S).set 20 (.int x))) = m_W o ad cA (sF S 20 x) := rfl
theorem m_put20 (hx : p.tables.exec = Jvm.exec) (hb : c.code = cc) (hts : ∀ w ∈ Ts, w.before args s = true) (hin : ∀ w ∈ wsX30, w ∈ Ts) (hown : s.vm.findClass RX3 = some m.cls) (I : m_I D o ad cA S s H0 H locs) (hlink : (Cond.fieldLink RX3 index RX3 (TX3 20).2.1 (TX3 20).2.2.1).before args s = true) (hdg : decode cc pc = .ok (.putfield index, 3)) {x : Int32} (kk : ∀ (H1 : Heap) (locs1 : List Loc), m_I D o ad cA (sF S 20 x) s H0 H1 locs1 → W p l e R s m args below meth c H1 locs1 cells slots Q (F0 m (pc + 3) ls rest)) : W p l e R s m args below meth c H locs cells slots Q (F0 m pc ls (.int x :: .ref o :: rest)) :=
  m_put hx hb hts hin hown I 20 (by decide) rfl rfl (by decide +kernel) m_set20 hlink hdg kk
theorem m_get21 (hx : p.tables.exec = Jvm.exec) (hb : c.code = cc) (hts : ∀ w ∈ Ts, w.before args s = true) (hin : ∀ w ∈ wsX30, w ∈ Ts) (hown : s.vm.findClass RX3 = some m.cls) (I : m_I D o ad cA S s H0 H locs) (hlink : (Cond.fieldLink RX3 index RX3 (TX3 21).2.1 (TX3 21).2.2.1).before args s = true) (hdg : decode cc pc = .ok (.getfield index, 3)) {x : Int32} (hv : S.1 21 = x) (kk : W p l e R s m args below meth c H locs cells slots Q (F0 m (pc + 3) ls (.int x :: rest))) : W p l e R s m args below meth c H locs cells slots Q (F0 m pc ls (.ref o :: rest)) := by
  subst hv
  exact m_get hx hb hts hin hown I 21 (by decide) rfl rfl hlink hdg kk
theorem m_set21 {x : Int32} : (m_W o ad cA S).set 0 (o, .inr (3, (m_F ad S).set 21 (.int x))) = m_W o ad cA (sF S 21 x) := rfl
theorem m_put21 (hx : p.tables.exec = Jvm.exec) (hb : c.code = cc) (hts : ∀ w ∈ Ts, w.before args s = true) (hin : ∀ w ∈ wsX30, w ∈ Ts) (hown : s.vm.findClass RX3 = some m.cls) (I : m_I D o ad cA S s H0 H locs) (hlink : (Cond.fieldLink RX3 index RX3 (TX3 21).2.1 (TX3 21).2.2.1).before args s = true) (hdg : decode cc pc = .ok (.putfield index, 3)) {x : Int32} (kk : ∀ (H1 : Heap) (locs1 : List Loc), m_I D o ad cA (sF S 21 x) s H0 H1 locs1 → W p l e R s m args below meth c H1 locs1 cells slots Q (F0 m (pc + 3) ls rest)) : W p l e R s m args below meth c H locs cells slots Q (F0 m pc ls (.int x :: .ref o :: rest)) :=
  m_put hx hb hts hin hown I 21 (by decide) rfl rfl (by decide +kernel) m_set21 hlink hdg kk
theorem m_get22 (hx : p.tables.exec = Jvm.exec) (hb : c.code = cc) (hts : ∀ w ∈ Ts, w.before args s = true) (hin : ∀ w ∈ wsX30, w ∈ Ts) (hown : s.vm.findClass RX3 = some m.cls) (I : m_I D o ad cA S s H0 H locs) (hlink : (Cond.fieldLink RX3 index RX3 (TX3 22).2.1 (TX3 22).2.2.1).before args s = true) (hdg : decode cc pc = .ok (.getfield index, 3)) {x : Int32} (hv : S.1 22 = x) (kk : W p l e R s m args below meth c H locs cells slots Q (F0 m (pc + 3) ls (.int x :: rest))) : W p l e R s m args below meth c H locs cells slots Q (F0 m pc ls (.ref o :: rest)) := by
  subst hv
  exact m_get hx hb hts hin hown I 22 (by decide) rfl rfl hlink hdg kk
theorem m_set22 {x : Int32} : (m_W o ad cA S).set 0 (o, .inr (3, (m_F ad S).set 22 (.int x))) = m_W o ad cA (sF S 22 x) := rfl
theorem m_put22 (hx : p.tables.exec = Jvm.exec) (hb : c.code = cc) (hts : ∀ w ∈ Ts, w.before args s = true) (hin : ∀ w ∈ wsX30, w ∈ Ts) (hown : s.vm.findClass RX3 = some m.cls) (I : m_I D o ad cA S s H0 H locs) (hlink : (Cond.fieldLink RX3 index RX3 (TX3 22).2.1 (TX3 22).2.2.1).before args s = true) (hdg : decode cc pc = .ok (.putfield index, 3)) {x : Int32} (kk : ∀ (H1 : Heap) (locs1 : List Loc), m_I D o ad cA (sF S 22 x) s H0 H1 locs1 → W p l e R s m args below meth c H1 locs1 cells slots Q (F0 m (pc + 3) ls rest)) : W p l e R s m args below meth c H locs cells slots Q (F0 m pc ls (.int x :: .ref o :: rest)) :=
  m_put hx hb hts hin hown I 22 (by decide) rfl rfl (by decide +kernel) m_set22 hlink hdg kk
theorem m_get23 (hx : p.tables.exec = Jvm.exec) (hb : c.code = cc) (hts : ∀ w ∈ Ts, w.before args s = true) (hin : ∀ w ∈ wsX30, w ∈ Ts) (hown : s.vm.findClass RX3 = some m.cls) (I : m_I D o ad cA S s H0 H locs) (hlink : (Cond.fieldLink RX3 index RX3 (TX3 23).2.1 (TX3 23).2.2.1).before args s = true) (hdg : decode cc pc = .ok (.getfield index, 3)) {x : Int32} (hv : S.1 23 = x) (kk : W p l e R s m args below meth c H locs cells slots Q (F0 m (pc + 3) ls (.int x :: rest))) : W p l e R s m args below meth c H locs cells slots Q (F0 m pc ls (.ref o :: rest)) := by
  subst hv
  exact m_get hx hb hts hin hown I 23 (by decide) rfl rfl hlink hdg kk
theorem m_set23 {x : Int32} : (m_W o ad cA S).set 0 (o, .inr (3, (m_F ad S).set 23 (.int x))) = m_W o ad cA (sF S 23 x) := rfl
theorem m_put23 (hx : p.tables.exec = Jvm.exec) (hb : c.code = cc) (hts : ∀ w ∈ Ts, w.before args s = true) (hin : ∀ w ∈ wsX30, w ∈ Ts) (hown : s.vm.findClass RX3 = some m.cls) (I : m_I D o ad cA S s H0 H locs) (hlink : (Cond.fieldLink RX3 index RX3 (TX3 23).2.1 (TX3 23).2.2.1).before args s = true) (hdg : decode cc pc = .ok (.putfield index, 3)) {x : Int32} (kk : ∀ (H1 : Heap) (locs1 : List Loc), m_I D o ad cA (sF S 23 x) s H0 H1 locs1 → W p l e R s m args below meth c H1 locs1 cells slots Q (F0 m (pc + 3) ls rest)) : W p l e R s m args below meth c H locs cells slots Q (F0 m pc ls (.int x :: .ref o :: rest)) :=
  m_put hx hb hts hin hown I 23 (by decide) rfl rfl (by decide +kernel) m_set23 hlink hdg kk
theorem m_get24 (hx : p.tables.exec = Jvm.exec) (hb : c.code = cc) (hts : ∀ w ∈ Ts, w.before args s = true) (hin : ∀ w ∈ wsX30, w ∈ Ts) (hown : s.vm.findClass RX3 = some m.cls) (I : m_I D o ad cA S s H0 H locs) (hlink : (Cond.fieldLink RX3 index RX3 (TX3 24).2.1 (TX3 24).2.2.1).before args s = true) (hdg : decode cc pc = .ok (.getfield index, 3)) {x : Int32} (hv : S.1 24 = x) (kk : W p l e R s m args below meth c H locs cells slots Q (F0 m (pc + 3) ls (.int x :: rest))) : W p l e R s m args below meth c H locs cells slots Q (F0 m pc ls (.ref o :: rest)) := by
  subst hv
  exact m_get hx hb hts hin hown I 24 (by decide) rfl rfl hlink hdg kk
theorem m_set24 {x : Int32} : (m_W o ad cA S).set 0 (o, .inr (3, (m_F ad S).set 24 (.int x))) = m_W o ad cA (sF S 24 x) := rfl
theorem m_put24 (hx : p.tables.exec = Jvm.exec) (hb : c.code = cc) (hts : ∀ w ∈ Ts, w.before args s = true) (hin : ∀ w ∈ wsX30, w ∈ Ts) (hown : s.vm.findClass RX3 = some m.cls) (I : m_I D o ad cA S s H0 H locs) (hlink : (Cond.fieldLink RX3 index RX3 (TX3 24).2.1 (TX3 24).2.2.1).before args s = true) (hdg : decode cc pc = .ok (.putfield index, 3)) {x : Int32} (kk : ∀ (H1 : Heap) (locs1 : List Loc), m_I D o ad cA (sF S 24 x) s H0 H1 locs1 → W p l e R s m args below meth c H1 locs1 cells slots Q (F0 m (pc + 3) ls rest)) : W p l e R s m args below meth c H locs cells slots Q (F0 m pc ls (.int x :: .ref o :: rest)) :=
  m_put hx hb hts hin hown I 24 (by decide) rfl rfl (by decide +kernel) m_set24 hlink hdg kk
theorem m_get25 (hx : p.tables.exec = Jvm.exec) (hb : c.code = cc) (hts : ∀ w ∈ Ts, w.before args s = true) (hin : ∀ w ∈ wsX30, w ∈ Ts) (hown : s.vm.findClass RX3 = some m.cls) (I : m_I D o ad cA S s H0 H locs) (hlink : (Cond.fieldLink RX3 index RX3 (TX3 25).2.1 (TX3 25).2.2.1).before args s = true) (hdg : decode cc pc = .ok (.getfield index, 3)) {x : Int32} (hv : S.1 25 = x) (kk : W p l e R s m args below meth c H locs cells slots Q (F0 m (pc + 3) ls (.int x :: rest))) : W p l e R s m args below meth c H locs cells slots Q (F0 m pc ls (.ref o :: rest)) := by
  subst hv
  exact m_get hx hb hts hin hown I 25 (by decide) rfl rfl hlink hdg kk
theorem m_set25 {x : Int32} : (m_W o ad cA S).set 0 (o, .inr (3, (m_F ad S).set 25 (.int x))) = m_W o ad cA (sF S 25 x) := rfl
theorem m_put25 (hx : p.tables.exec = Jvm.exec) (hb : c.code = cc) (hts : ∀ w ∈ Ts, w.before args s = true) (hin : ∀ w ∈ wsX30, w ∈ Ts) (hown : s.vm.findClass RX3 = some m.cls) (I : m_I D o ad cA S s H0 H locs) (hlink : (Cond.fieldLink RX3 index RX3 (TX3 25).2.1 (TX3 25).2.2.1).before args s = true) (hdg : decode cc pc = .ok (.putfield index, 3)) {x : Int32} (kk : ∀ (H1 : Heap) (locs1 : List Loc), m_I D o ad cA (sF S 25 x) s H0 H1 locs1 → W p l e R s m args below meth c H1 locs1 cells slots Q (F0 m (pc + 3) ls rest)) : W p l e R s m args below meth c H locs cells slots Q (F0 m pc ls (.int x :: .ref o :: rest)) :=
  m_put hx hb hts hin hown I 25 (by decide) rfl rfl (by decide +kernel) m_set25 hlink hdg kk
theorem m_get26 (hx : p.tables.exec = Jvm.exec) (hb : c.code = cc) (hts : ∀ w ∈ Ts, w.before args s = true) (hin : ∀ w ∈ wsX30, w ∈ Ts) (hown : s.vm.findClass RX3 = some m.cls) (I : m_I D o ad cA S s H0 H locs) (hlink : (Cond.fieldLink RX3 index RX3 (TX3 26).2.1 (TX3 26).2.2.1).before args s = true) (hdg : decode cc pc = .ok (.getfield index, 3)) {x : Int32} (hv : S.1 26 = x) (kk : W p l e R s m args below meth c H locs cells slots Q (F0 m (pc + 3) ls (.int x :: rest))) : W p l e R s m args below meth c H locs cells slots Q (F0 m pc ls (.ref o :: rest)) := by
  subst hv
  exact m_get hx hb hts hin hown I 26 (by decide) rfl rfl hlink hdg kk
theorem m_set26 {x : Int32} : (m_W o ad cA S).set 0 (o, .inr (3, (m_F ad S).set 26 (.int x))) = m_W o ad cA (sF S 26 x) := rfl
theorem m_put26 (hx : p.tables.exec = Jvm.exec) (hb : c.code = cc) (hts : ∀ w ∈ Ts, w.before args s = true) (hin : ∀ w ∈ wsX30, w ∈ Ts) (hown : s.vm.findClass RX3 = some m.cls) (I : m_I D o ad cA S s H0 H locs) (hlink : (Cond.fieldLink RX3 index RX3 (TX3 26).2.1 (TX3 26).2.2.1).before args s = true) (hdg : decode cc pc = .ok (.putfield index, 3)) {x : Int32} (kk : ∀ (H1 : Heap) (locs1 : List Loc), m_I D o ad cA (sF S 26 x) s H0 H1 locs1 → W p l e R s m args below meth c H1 locs1 cells slots Q (F0 m (pc + 3) ls rest)) : W p l e R s m args below meth c H locs cells slots Q (F0 m pc ls (.int x :: .ref o :: rest)) :=
  m_put hx hb hts hin hown I 26 (by decide) rfl rfl (by decide +kernel) m_set26 hlink hdg kk
theorem m_get0 (hx : p.tables.exec = Jvm.exec) (hb : c.code = cc) (hts : ∀ w ∈ Ts, w.before args s = true) (hin : ∀ w ∈ wsX30, w ∈ Ts) (hown : s.vm.findClass RX3 = some m.cls) (I : m_I D o ad cA S s H0 H locs) (hlink : (Cond.fieldLink RX3 index RX3 (TX3 0).2.1 (TX3 0).2.2.1).before args s = true) (hdg : decode cc pc = .ok (.getfield index, 3)) (kk : W p l e R s m args below meth c H locs cells slots Q (F0 m (pc + 3) ls (.ref (ad 0) :: rest))) : W p l e R s m args below meth c H locs cells slots Q (F0 m pc ls (.ref o :: rest)) :=
  m_get hx hb hts hin hown I 0 (by decide) rfl rfl hlink hdg kk
theorem m_ald0 (hx : p.tables.exec = Jvm.exec) (hb : c.code = cc) (I : m_I D o ad cA S s H0 H locs) {i : Int32} (hi : vp_in i 8) (hdg : decode cc pc = .ok (.iaload, 1)) {x : Int32} (hv : S.2 0 i.toNatClampNeg = x) (kk : W p l e R s m args below meth c H locs cells slots Q (F0 m (pc + 1) ls (.int x :: rest))) : W p l e R s m args below meth c H locs cells slots Q (F0 m pc ls (.int i :: .ref (ad 0) :: rest)) := by
  subst hv
  exact m_ald hx hb I 0 1 rfl hi hdg kk
theorem m_ast0 (hx : p.tables.exec = Jvm.exec) (hb : c.code = cc) (I : m_I D o ad cA S s H0 H locs) {i x : Int32} (hi : vp_in i 8) (hdg : decode cc pc = .ok (.iastore, 1)) (kk : ∀ (H1 : Heap) (locs1 : List Loc), m_I D o ad cA (sA S 0 i.toNatClampNeg x) s H0 H1 locs1 → W p l e R s m args below meth c H1 locs1 cells slots Q (F0 m (pc + 1) ls rest)) : W p l e R s m args below meth c H locs cells slots Q (F0 m pc ls (.int x :: .int i :: .ref (ad 0) :: rest)) :=
  m_ast hx hb I 0 1 rfl rfl hi hdg kk
theorem m_get1 (hx : p.tables.exec = Jvm.exec) (hb : c.code = cc) (hts : ∀ w ∈ Ts, w.before args s = true) (hin : ∀ w ∈ wsX30, w ∈ Ts) (hown : s.vm.findClass RX3 = some m.cls) (I : m_I D o ad cA S s H0 H locs) (hlink : (Cond.fieldLink RX3 index RX3 (TX3 1).2.1 (TX3 1).2.2.1).before args s = true) (hdg : decode cc pc = .ok (.getfield index, 3)) (kk : W p l e R s m args below meth c H locs cells slots Q (F0 m (pc + 3) ls (.ref (ad 1) :: rest))) : W p l e R s m args below meth c H locs cells slots Q (F0 m pc ls (.ref o :: rest)) :=
  m_get hx hb hts hin hown I 1 (by decide) rfl rfl hlink hdg kk
theorem m_ald1 (hx : p.tables.exec = Jvm.exec) (hb : c.code = cc) (I : m_I D o ad cA S s H0 H locs) {i : Int32} (hi : vp_in i 4) (hdg : decode cc pc = .ok (.iaload, 1)) {x : Int32} (hv : S.2 1 i.toNatClampNeg = x) (kk : W p l e R s m args below meth c H locs cells slots Q (F0 m (pc + 1) ls (.int x :: rest))) : W p l e R s m args below meth c H locs cells slots Q (F0 m pc ls (.int i :: .ref (ad 1) :: rest)) := by
  subst hv
  exact m_ald hx hb I 1 2 rfl hi hdg kk
theorem m_ast1 (hx : p.tables.exec = Jvm.exec) (hb : c.code = cc) (I : m_I D o ad cA S s H0 H locs) {i x : Int32} (hi : vp_in i 4) (hdg : decode cc pc = .ok (.iastore, 1)) (kk : ∀ (H1 : Heap) (locs1 : List Loc), m_I D o ad cA (sA S 1 i.toNatClampNeg x) s H0 H1 locs1 → W p l e R s m args below meth c H1 locs1 cells slots Q (F0 m (pc + 1) ls rest)) : W p l e R s m args below meth c H locs cells slots Q (F0 m pc ls (.int x :: .int i :: .ref (ad 1) :: rest)) :=
  m_ast hx hb I 1 2 rfl rfl hi hdg kk
theorem m_get2 (hx : p.tables.exec = Jvm.exec) (hb : c.code = cc) (hts : ∀ w ∈ Ts, w.before args s = true) (hin : ∀ w ∈ wsX30, w ∈ Ts) (hown : s.vm.findClass RX3 = some m.cls) (I : m_I D o ad cA S s H0 H locs) (hlink : (Cond.fieldLink RX3 index RX3 (TX3 2).2.1 (TX3 2).2.2.1).before args s = true) (hdg : decode cc pc = .ok (.getfield index, 3)) (kk : W p l e R s m args below meth c H locs cells slots Q (F0 m (pc + 3) ls (.ref (ad 2) :: rest))) : W p l e R s m args below meth c H locs cells slots Q (F0 m pc ls (.ref o :: rest)) :=
  m_get hx hb hts hin hown I 2 (by decide) rfl rfl hlink hdg kk
theorem m_ald2 (hx : p.tables.exec = Jvm.exec) (hb : c.code = cc) (I : m_I D o ad cA S s H0 H locs) {i : Int32} (hi : vp_in i 48) (hdg : decode cc pc = .ok (.iaload, 1)) {x : Int32} (hv : S.2 2 i.toNatClampNeg = x) (kk : W p l e R s m args below meth c H locs cells slots Q (F0 m (pc + 1) ls (.int x :: rest))) : W p l e R s m args below meth c H locs cells slots Q (F0 m pc ls (.int i :: .ref (ad 2) :: rest)) := by
  subst hv
  exact m_ald hx hb I 2 3 rfl hi hdg kk
theorem m_ast2 (hx : p.tables.exec = Jvm.exec) (hb : c.code = cc) (I : m_I D o ad cA S s H0 H locs) {i x : Int32} (hi : vp_in i 48) (hdg : decode cc pc = .ok (.iastore, 1)) (kk : ∀ (H1 : Heap) (locs1 : List Loc), m_I D o ad cA (sA S 2 i.toNatClampNeg x) s H0 H1 locs1 → W p l e R s m args below meth c H1 locs1 cells slots Q (F0 m (pc + 1) ls rest)) : W p l e R s m args below meth c H locs cells slots Q (F0 m pc ls (.int x :: .int i :: .ref (ad 2) :: rest)) :=
  m_ast hx hb I 2 3 rfl rfl hi hdg kk
theorem m_get3 (hx : p.tables.exec = Jvm.exec) (hb : c.code = cc) (hts : ∀ w ∈ Ts, w.before args s = true) (hin : ∀ w ∈ wsX30, w ∈ Ts) (hown : s.vm.findClass RX3 = some m.cls) (I : m_I D o ad cA S s H0 H locs) (hlink : (Cond.fieldLink RX3 index RX3 (TX3 3).2.1 (TX3 3).2.2.1).before args s = true) (hdg : decode cc pc = .ok (.getfield index, 3)) (kk : W p l e R s m args below meth c H locs cells slots Q (F0 m (pc + 3) ls (.ref (ad 3) :: rest))) : W p l e R s m args below meth c H locs cells slots Q (F0 m pc ls (.ref o :: rest)) :=
  m_get hx hb hts hin hown I 3 (by decide) rfl rfl hlink hdg kk
theorem m_ald3 (hx : p.tables.exec = Jvm.exec) (hb : c.code = cc) (I : m_I D o ad cA S s H0 H locs) {i : Int32} (hi : vp_in i 480) (hdg : decode cc pc = .ok (.iaload, 1)) {x : Int32} (hv : S.2 3 i.toNatClampNeg = x) (kk : W p l e R s m args below meth c H locs cells slots Q (F0 m (pc + 1) ls (.int x :: rest))) : W p l e R s m args below meth c H locs cells slots Q (F0 m pc ls (.int i :: .ref (ad 3) :: rest)) := by
  subst hv
  exact m_ald hx hb I 3 4 rfl hi hdg kk
theorem m_ast3 (hx : p.tables.exec = Jvm.exec) (hb : c.code = cc) (I : m_I D o ad cA S s H0 H locs) {i x : Int32} (hi : vp_in i 480) (hdg : decode cc pc = .ok (.iastore, 1)) (kk : ∀ (H1 : Heap) (locs1 : List Loc), m_I D o ad cA (sA S 3 i.toNatClampNeg x) s H0 H1 locs1 → W p l e R s m args below meth c H1 locs1 cells slots Q (F0 m (pc + 1) ls rest)) : W p l e R s m args below meth c H locs cells slots Q (F0 m pc ls (.int x :: .int i :: .ref (ad 3) :: rest)) :=
  m_ast hx hb I 3 4 rfl rfl hi hdg kk
theorem m_get5 (hx : p.tables.exec = Jvm.exec) (hb : c.code = cc) (hts : ∀ w ∈ Ts, w.before args s = true) (hin : ∀ w ∈ wsX30, w ∈ Ts) (hown : s.vm.findClass RX3 = some m.cls) (I : m_I D o ad cA S s H0 H locs) (hlink : (Cond.fieldLink RX3 index RX3 (TX3 5).2.1 (TX3 5).2.2.1).before args s = true) (hdg : decode cc pc = .ok (.getfield index, 3)) (kk : W p l e R s m args below meth c H locs cells slots Q (F0 m (pc + 3) ls (.ref (ad 5) :: rest))) : W p l e R s m args below meth c H locs cells slots Q (F0 m pc ls (.ref o :: rest)) :=
  m_get hx hb hts hin hown I 5 (by decide) rfl rfl hlink hdg kk
theorem m_ald5 (hx : p.tables.exec = Jvm.exec) (hb : c.code = cc) (I : m_I D o ad cA S s H0 H locs) {i : Int32} (hi : vp_in i 40) (hdg : decode cc pc = .ok (.iaload, 1)) {x : Int32} (hv : S.2 5 i.toNatClampNeg = x) (kk : W p l e R s m args below meth c H locs cells slots Q (F0 m (pc + 1) ls (.int x :: rest))) : W p l e R s m args below meth c H locs cells slots Q (F0 m pc ls (.int i :: .ref (ad 5) :: rest)) := by
  subst hv
  exact m_ald hx hb I 5 5 rfl hi hdg kk
theorem m_ast5 (hx : p.tables.exec = Jvm.exec) (hb : c.code = cc) (I : m_I D o ad cA S s H0 H locs) {i x : Int32} (hi : vp_in i 40) (hdg : decode cc pc = .ok (.iastore, 1)) (kk : ∀ (H1 : Heap) (locs1 : List Loc), m_I D o ad cA (sA S 5 i.toNatClampNeg x) s H0 H1 locs1 → W p l e R s m args below meth c H1 locs1 cells slots Q (F0 m (pc + 1) ls rest)) : W p l e R s m args below meth c H locs cells slots Q (F0 m pc ls (.int x :: .int i :: .ref (ad 5) :: rest)) :=
  m_ast hx hb I 5 5 rfl rfl hi hdg kk
theorem m_get6 (hx : p.tables.exec = Jvm.exec) (hb : c.code = cc) (hts : ∀ w ∈ Ts, w.before args s = true) (hin : ∀ w ∈ wsX30, w ∈ Ts) (hown : s.vm.findClass RX3 = some m.cls) (I : m_I D o ad cA S s H0 H locs) (hlink : (Cond.fieldLink RX3 index RX3 (TX3 6).2.1 (TX3 6).2.2.1).before args s = true) (hdg : decode cc pc = .ok (.getfield index, 3)) (kk : W p l e R s m args below meth c H locs cells slots Q (F0 m (pc + 3) ls (.ref (ad 6) :: rest))) : W p l e R s m args below meth c H locs cells slots Q (F0 m pc ls (.ref o :: rest)) :=
  m_get hx hb hts hin hown I 6 (by decide) rfl rfl hlink hdg kk
theorem m_ald6 (hx : p.tables.exec = Jvm.exec) (hb : c.code = cc) (I : m_I D o ad cA S s H0 H locs) {i : Int32} (hi : vp_in i 40) (hdg : decode cc pc = .ok (.iaload, 1)) {x : Int32} (hv : S.2 6 i.toNatClampNeg = x) (kk : W p l e R s m args below meth c H locs cells slots Q (F0 m (pc + 1) ls (.int x :: rest))) : W p l e R s m args below meth c H locs cells slots Q (F0 m pc ls (.int i :: .ref (ad 6) :: rest)) := by
  subst hv
  exact m_ald hx hb I 6 6 rfl hi hdg kk
theorem m_ast6 (hx : p.tables.exec = Jvm.exec) (hb : c.code = cc) (I : m_I D o ad cA S s H0 H locs) {i x : Int32} (hi : vp_in i 40) (hdg : decode cc pc = .ok (.iastore, 1)) (kk : ∀ (H1 : Heap) (locs1 : List Loc), m_I D o ad cA (sA S 6 i.toNatClampNeg x) s H0 H1 locs1 → W p l e R s m args below meth c H1 locs1 cells slots Q (F0 m (pc + 1) ls rest)) : W p l e R s m args below meth c H locs cells slots Q (F0 m pc ls (.int x :: .int i :: .ref (ad 6) :: rest)) :=
  m_ast hx hb I 6 6 rfl rfl hi hdg kk
theorem m_get7 (hx : p.tables.exec = Jvm.exec) (hb : c.code = cc) (hts : ∀ w ∈ Ts, w.before args s = true) (hin : ∀ w ∈ wsX30, w ∈ Ts) (hown : s.vm.findClass RX3 = some m.cls) (I : m_I D o ad cA S s H0 H locs) (hlink : (Cond.fieldLink RX3 index RX3 (TX3 7).2.1 (TX3 7).2.2.1).before args s = true) (hdg : decode cc pc = .ok (.getfield index, 3)) (kk : W p l e R s m args below meth c H locs cells slots Q (F0 m (pc + 3) ls (.ref (ad 7) :: rest))) : W p l e R s m args below meth c H locs cells slots Q (F0 m pc ls (.ref o :: rest)) :=
  m_get hx hb hts hin hown I 7 (by decide) rfl rfl hlink hdg kk
theorem m_ald7 (hx : p.tables.exec = Jvm.exec) (hb : c.code = cc) (I : m_I D o ad cA S s H0 H locs) {i : Int32} (hi : vp_in i 40) (hdg : decode cc pc = .ok (.iaload, 1)) {x : Int32} (hv : S.2 7 i.toNatClampNeg = x) (kk : W p l e R s m args below meth c H locs cells slots Q (F0 m (pc + 1) ls (.int x :: rest))) : W p l e R s m args below meth c H locs cells slots Q (F0 m pc ls (.int i :: .ref (ad 7) :: rest)) := by
  subst hv
  exact m_ald hx hb I 7 7 rfl hi hdg kk
theorem m_ast7 (hx : p.tables.exec = Jvm.exec) (hb : c.code = cc) (I : m_I D o ad cA S s H0 H locs) {i x : Int32} (hi : vp_in i 40) (hdg : decode cc pc = .ok (.iastore, 1)) (kk : ∀ (H1 : Heap) (locs1 : List Loc), m_I D o ad cA (sA S 7 i.toNatClampNeg x) s H0 H1 locs1 → W p l e R s m args below meth c H1 locs1 cells slots Q (F0 m (pc + 1) ls rest)) : W p l e R s m args below meth c H locs cells slots Q (F0 m pc ls (.int x :: .int i :: .ref (ad 7) :: rest)) :=
  m_ast hx hb I 7 7 rfl rfl hi hdg kk
theorem m_get8 (hx : p.tables.exec = Jvm.exec) (hb : c.code = cc) (hts : ∀ w ∈ Ts, w.before args s = true) (hin : ∀ w ∈ wsX30, w ∈ Ts) (hown : s.vm.findClass RX3 = some m.cls) (I : m_I D o ad cA S s H0 H locs) (hlink : (Cond.fieldLink RX3 index RX3 (TX3 8).2.1 (TX3 8).2.2.1).before args s = true) (hdg : decode cc pc = .ok (.getfield index, 3)) (kk : W p l e R s m args below meth c H locs cells slots Q (F0 m (pc + 3) ls (.ref (ad 8) :: rest))) : W p l e R s m args below meth c H locs cells slots Q (F0 m pc ls (.ref o :: rest)) :=
  m_get hx hb hts hin hown I 8 (by decide) rfl rfl hlink hdg kk
theorem m_ald8 (hx : p.tables.exec = Jvm.exec) (hb : c.code = cc) (I : m_I D o ad cA S s H0 H locs) {i : Int32} (hi : vp_in i 40) (hdg : decode cc pc = .ok (.iaload, 1)) {x : Int32} (hv : S.2 8 i.toNatClampNeg = x) (kk : W p l e R s m args below meth c H locs cells slots Q (F0 m (pc + 1) ls (.int x :: rest))) : W p l e R s m args below meth c H locs cells slots Q (F0 m pc ls (.int i :: .ref (ad 8) :: rest)) := by
  subst hv
  exact m_ald hx hb I 8 8 rfl hi hdg kk
theorem m_ast8 (hx : p.tables.exec = Jvm.exec) (hb : c.code = cc) (I : m_I D o ad cA S s H0 H locs) {i x : Int32} (hi : vp_in i 40) (hdg : decode cc pc = .ok (.iastore, 1)) (kk : ∀ (H1 : Heap) (locs1 : List Loc), m_I D o ad cA (sA S 8 i.toNatClampNeg x) s H0 H1 locs1 → W p l e R s m args below meth c H1 locs1 cells slots Q (F0 m (pc + 1) ls rest)) : W p l e R s m args below meth c H locs cells slots Q (F0 m pc ls (.int x :: .int i :: .ref (ad 8) :: rest)) :=
  m_ast hx hb I 8 8 rfl rfl hi hdg kk
theorem m_get9 (hx : p.tables.exec = Jvm.exec) (hb : c.code = cc) (hts : ∀ w ∈ Ts, w.before args s = true) (hin : ∀ w ∈ wsX30, w ∈ Ts) (hown : s.vm.findClass RX3 = some m.cls) (I : m_I D o ad cA S s H0 H locs) (hlink : (Cond.fieldLink RX3 index RX3 (TX3 9).2.1 (TX3 9).2.2.1).before args s = true) (hdg : decode cc pc = .ok (.getfield index, 3)) (kk : W p l e R s m args below meth c H locs cells slots Q (F0 m (pc + 3) ls (.ref (ad 9) :: rest))) : W p l e R s m args below meth c H locs cells slots Q (F0 m pc ls (.ref o :: rest)) :=
  m_get hx hb hts hin hown I 9 (by decide) rfl rfl hlink hdg kk
theorem m_ald9 (hx : p.tables.exec = Jvm.exec) (hb : c.code = cc) (I : m_I D o ad cA S s H0 H locs) {i : Int32} (hi : vp_in i 40) (hdg : decode cc pc = .ok (.iaload, 1)) {x : Int32} (hv : S.2 9 i.toNatClampNeg = x) (kk : W p l e R s m args below meth c H locs cells slots Q (F0 m (pc + 1) ls (.int x :: rest))) : W p l e R s m args below meth c H locs cells slots Q (F0 m pc ls (.int i :: .ref (ad 9) :: rest)) := by
  subst hv
  exact m_ald hx hb I 9 9 rfl hi hdg kk
theorem m_ast9 (hx : p.tables.exec = Jvm.exec) (hb : c.code = cc) (I : m_I D o ad cA S s H0 H locs) {i x : Int32} (hi : vp_in i 40) (hdg : decode cc pc = .ok (.iastore, 1)) (kk : ∀ (H1 : Heap) (locs1 : List Loc), m_I D o ad cA (sA S 9 i.toNatClampNeg x) s H0 H1 locs1 → W p l e R s m args below meth c H1 locs1 cells slots Q (F0 m (pc + 1) ls rest)) : W p l e R s m args below meth c H locs cells slots Q (F0 m pc ls (.int x :: .int i :: .ref (ad 9) :: rest)) :=
  m_ast hx hb I 9 9 rfl rfl hi hdg kk
theorem m_get10 (hx : p.tables.exec = Jvm.exec) (hb : c.code = cc) (hts : ∀ w ∈ Ts, w.before args s = true) (hin : ∀ w ∈ wsX30, w ∈ Ts) (hown : s.vm.findClass RX3 = some m.cls) (I : m_I D o ad cA S s H0 H locs) (hlink : (Cond.fieldLink RX3 index RX3 (TX3 10).2.1 (TX3 10).2.2.1).before args s = true) (hdg : decode cc pc = .ok (.getfield index, 3)) (kk : W p l e R s m args below meth c H locs cells slots Q (F0 m (pc + 3) ls (.ref (ad 10) :: rest))) : W p l e R s m args below meth c H locs cells slots Q (F0 m pc ls (.ref o :: rest)) :=
  m_get hx hb hts hin hown I 10 (by decide) rfl rfl hlink hdg kk
theorem m_ald10 (hx : p.tables.exec = Jvm.exec) (hb : c.code = cc) (I : m_I D o ad cA S s H0 H locs) {i : Int32} (hi : vp_in i 40) (hdg : decode cc pc = .ok (.iaload, 1)) {x : Int32} (hv : S.2 10 i.toNatClampNeg = x) (kk : W p l e R s m args below meth c H locs cells slots Q (F0 m (pc + 1) ls (.int x :: rest))) : W p l e R s m args below meth c H locs cells slots Q (F0 m pc ls (.int i :: .ref (ad 10) :: rest)) := by
  subst hv
  exact m_ald hx hb I 10 10 rfl hi hdg kk
theorem m_ast10 (hx : p.tables.exec = Jvm.exec) (hb : c.code = cc) (I : m_I D o ad cA S s H0 H locs) {i x : Int32} (hi : vp_in i 40) (hdg : decode cc pc = .ok (.iastore, 1)) (kk : ∀ (H1 : Heap) (locs1 : List Loc), m_I D o ad cA (sA S 10 i.toNatClampNeg x) s H0 H1 locs1 → W p l e R s m args below meth c H1 locs1 cells slots Q (F0 m (pc + 1) ls rest)) : W p l e R s m args below meth c H locs cells slots Q (F0 m pc ls (.int x :: .int i :: .ref (ad 10) :: rest)) :=
  m_ast hx hb I 10 10 rfl rfl hi hdg kk
theorem m_get12 (hx : p.tables.exec = Jvm.exec) (hb : c.code = cc) (hts : ∀ w ∈ Ts, w.before args s = true) (hin : ∀ w ∈ wsX30, w ∈ Ts) (hown : s.vm.findClass RX3 = some m.cls) (I : m_I D o ad cA S s H0 H locs) (hlink : (Cond.fieldLink RX3 index RX3 (TX3 12).2.1 (TX3 12).2.2.1).before args s = true) (hdg : decode cc pc = .ok (.getfield index, 3)) (kk : W p l e R s m args below meth c H locs cells slots Q (F0 m (pc + 3) ls (.ref (ad 12) :: rest))) : W p l e R s m args below meth c H locs cells slots Q (F0 m pc ls (.ref o :: rest)) :=
  m_get hx hb hts hin hown I 12 (by decide) rfl rfl hlink hdg kk
theorem m_ald12 (hx : p.tables.exec = Jvm.exec) (hb : c.code = cc) (I : m_I D o ad cA S s H0 H locs) {i : Int32} (hi : vp_in i 65) (hdg : decode cc pc = .ok (.iaload, 1)) {x : Int32} (hv : S.2 12 i.toNatClampNeg = x) (kk : W p l e R s m args below meth c H locs cells slots Q (F0 m (pc + 1) ls (.int x :: rest))) : W p l e R s m args below meth c H locs cells slots Q (F0 m pc ls (.int i :: .ref (ad 12) :: rest)) := by
  subst hv
  exact m_ald hx hb I 12 11 rfl hi hdg kk
theorem m_ast12 (hx : p.tables.exec = Jvm.exec) (hb : c.code = cc) (I : m_I D o ad cA S s H0 H locs) {i x : Int32} (hi : vp_in i 65) (hdg : decode cc pc = .ok (.iastore, 1)) (kk : ∀ (H1 : Heap) (locs1 : List Loc), m_I D o ad cA (sA S 12 i.toNatClampNeg x) s H0 H1 locs1 → W p l e R s m args below meth c H1 locs1 cells slots Q (F0 m (pc + 1) ls rest)) : W p l e R s m args below meth c H locs cells slots Q (F0 m pc ls (.int x :: .int i :: .ref (ad 12) :: rest)) :=
  m_ast hx hb I 12 11 rfl rfl hi hdg kk
theorem m_get13 (hx : p.tables.exec = Jvm.exec) (hb : c.code = cc) (hts : ∀ w ∈ Ts, w.before args s = true) (hin : ∀ w ∈ wsX30, w ∈ Ts) (hown : s.vm.findClass RX3 = some m.cls) (I : m_I D o ad cA S s H0 H locs) (hlink : (Cond.fieldLink RX3 index RX3 (TX3 13).2.1 (TX3 13).2.2.1).before args s = true) (hdg : decode cc pc = .ok (.getfield index, 3)) (kk : W p l e R s m args below meth c H locs cells slots Q (F0 m (pc + 3) ls (.ref (ad 13) :: rest))) : W p l e R s m args below meth c H locs cells slots Q (F0 m pc ls (.ref o :: rest)) :=
  m_get hx hb hts hin hown I 13 (by decide) rfl rfl hlink hdg kk
theorem m_ald13 (hx : p.tables.exec = Jvm.exec) (hb : c.code = cc) (I : m_I D o ad cA S s H0 H locs) {i : Int32} (hi : vp_in i 65) (hdg : decode cc pc = .ok (.iaload, 1)) {x : Int32} (hv : S.2 13 i.toNatClampNeg = x) (kk : W p l e R s m args below meth c H locs cells slots Q (F0 m (pc + 1) ls (.int x :: rest))) : W p l e R s m args below meth c H locs cells slots Q (F0 m pc ls (.int i :: .ref (ad 13) :: rest)) := by
  subst hv
  exact m_ald hx hb I 13 12 rfl hi hdg kk
theorem m_ast13 (hx : p.tables.exec = Jvm.exec) (hb : c.code = cc) (I : m_I D o ad cA S s H0 H locs) {i x : Int32} (hi : vp_in i 65) (hdg : decode cc pc = .ok (.iastore, 1)) (kk : ∀ (H1 : Heap) (locs1 : List Loc), m_I D o ad cA (sA S 13 i.toNatClampNeg x) s H0 H1 locs1 → W p l e R s m args below meth c H1 locs1 cells slots Q (F0 m (pc + 1) ls rest)) : W p l e R s m args below meth c H locs cells slots Q (F0 m pc ls (.int x :: .int i :: .ref (ad 13) :: rest)) :=
  m_ast hx hb I 13 12 rfl rfl hi hdg kk
theorem m_get14 (hx : p.tables.exec = Jvm.exec) (hb : c.code = cc) (hts : ∀ w ∈ Ts, w.before args s = true) (hin : ∀ w ∈ wsX30, w ∈ Ts) (hown : s.vm.findClass RX3 = some m.cls) (I : m_I D o ad cA S s H0 H locs) (hlink : (Cond.fieldLink RX3 index RX3 (TX3 14).2.1 (TX3 14).2.2.1).before args s = true) (hdg : decode cc pc = .ok (.getfield index, 3)) (kk : W p l e R s m args below meth c H locs cells slots Q (F0 m (pc + 3) ls (.ref (ad 14) :: rest))) : W p l e R s m args below meth c H locs cells slots Q (F0 m pc ls (.ref o :: rest)) :=
  m_get hx hb hts hin hown I 14 (by decide) rfl rfl hlink hdg kk
theorem m_ald14 (hx : p.tables.exec = Jvm.exec) (hb : c.code = cc) (I : m_I D o ad cA S s H0 H locs) {i : Int32} (hi : vp_in i 65) (hdg : decode cc pc = .ok (.iaload, 1)) {x : Int32} (hv : S.2 14 i.toNatClampNeg = x) (kk : W p l e R s m args below meth c H locs cells slots Q (F0 m (pc + 1) ls (.int x :: rest))) : W p l e R s m args below meth c H locs cells slots Q (F0 m pc ls (.int i :: .ref (ad 14) :: rest)) := by
  subst hv
  exact m_ald hx hb I 14 13 rfl hi hdg kk
theorem m_ast14 (hx : p.tables.exec = Jvm.exec) (hb : c.code = cc) (I : m_I D o ad cA S s H0 H locs) {i x : Int32} (hi : vp_in i 65) (hdg : decode cc pc = .ok (.iastore, 1)) (kk : ∀ (H1 : Heap) (locs1 : List Loc), m_I D o ad cA (sA S 14 i.toNatClampNeg x) s H0 H1 locs1 → W p l e R s m args below meth c H1 locs1 cells slots Q (F0 m (pc + 1) ls rest)) : W p l e R s m args below meth c H locs cells slots Q (F0 m pc ls (.int x :: .int i :: .ref (ad 14) :: rest)) :=
  m_ast hx hb I 14 13 rfl rfl hi hdg kk
theorem m_get15 (hx : p.tables.exec = Jvm.exec) (hb : c.code = cc) (hts : ∀ w ∈ Ts, w.before args s = true) (hin : ∀ w ∈ wsX30, w ∈ Ts) (hown : s.vm.findClass RX3 = some m.cls) (I : m_I D o ad cA S s H0 H locs) (hlink : (Cond.fieldLink RX3 index RX3 (TX3 15).2.1 (TX3 15).2.2.1).before args s = true) (hdg : decode cc pc = .ok (.getfield index, 3)) (kk : W p l e R s m args below meth c H locs cells slots Q (F0 m (pc + 3) ls (.ref (ad 15) :: rest))) : W p l e R s m args below meth c H locs cells slots Q (F0 m pc ls (.ref o :: rest)) :=
  m_get hx hb hts hin hown I 15 (by decide) rfl rfl hlink hdg kk
theorem m_ald15 (hx : p.tables.exec = Jvm.exec) (hb : c.code = cc) (I : m_I D o ad cA S s H0 H locs) {i : Int32} (hi : vp_in i 65) (hdg : decode cc pc = .ok (.iaload, 1)) {x : Int32} (hv : S.2 15 i.toNatClampNeg = x) (kk : W p l e R s m args below meth c H locs cells slots Q (F0 m (pc + 1) ls (.int x :: rest))) : W p l e R s m args below meth c H locs cells slots Q (F0 m pc ls (.int i :: .ref (ad 15) :: rest)) := by
  subst hv
  exact m_ald hx hb I 15 14 rfl hi hdg kk
theorem m_ast15 (hx : p.tables.exec = Jvm.exec) (hb : c.code = cc) (I : m_I D o ad cA S s H0 H locs) {i x : Int32} (hi : vp_in i 65) (hdg : decode cc pc = .ok (.iastore, 1)) (kk : ∀ (H1 : Heap) (locs1 : List Loc), m_I D o ad cA (sA S 15 i.toNatClampNeg x) s H0 H1 locs1 → W p l e R s m args below meth c H1 locs1 cells slots Q (F0 m (pc + 1) ls rest)) : W p l e R s m args below meth c H locs cells slots Q (F0 m pc ls (.int x :: .int i :: .ref (ad 15) :: rest)) :=
  m_ast hx hb I 15 14 rfl rfl hi hdg kk
theorem m_get27 (hx : p.tables.exec = Jvm.exec) (hb : c.code = cc) (hts : ∀ w ∈ Ts, w.before args s = true) (hin : ∀ w ∈ wsX30, w ∈ Ts) (hown : s.vm.findClass RX3 = some m.cls) (I : m_I D o ad cA S s H0 H locs) (hlink : (Cond.fieldLink RX3 index RX3 (TX3 27).2.1 (TX3 27).2.2.1).before args s = true) (hdg : decode cc pc = .ok (.getfield index, 3)) (kk : W p l e R s m args below meth c H locs cells slots Q (F0 m (pc + 3) ls (.ref (ad 27) :: rest))) : W p l e R s m args below meth c H locs cells slots Q (F0 m pc ls (.ref o :: rest)) :=
  m_get hx hb hts hin hown I 27 (by decide) rfl rfl hlink hdg kk
theorem m_ald27 (hx : p.tables.exec = Jvm.exec) (hb : c.code = cc) (I : m_I D o ad cA S s H0 H locs) {i : Int32} (hi : vp_in i 10) (hdg : decode cc pc = .ok (.iaload, 1)) {x : Int32} (hv : S.2 27 i.toNatClampNeg = x) (kk : W p l e R s m args below meth c H locs cells slots Q (F0 m (pc + 1) ls (.int x :: rest))) : W p l e R s m args below meth c H locs cells slots Q (F0 m pc ls (.int i :: .ref (ad 27) :: rest)) := by
  subst hv
  exact m_ald hx hb I 27 15 rfl hi hdg kk
theorem m_ast27 (hx : p.tables.exec = Jvm.exec) (hb : c.code = cc) (I : m_I D o ad cA S s H0 H locs) {i x : Int32} (hi : vp_in i 10) (hdg : decode cc pc = .ok (.iastore, 1)) (kk : ∀ (H1 : Heap) (locs1 : List Loc), m_I D o ad cA (sA S 27 i.toNatClampNeg x) s H0 H1 locs1 → W p l e R s m args below meth c H1 locs1 cells slots Q (F0 m (pc + 1) ls rest)) : W p l e R s m args below meth c H locs cells slots Q (F0 m pc ls (.int x :: .int i :: .ref (ad 27) :: rest)) :=
  m_ast hx hb I 27 15 rfl rfl hi hdg kk
theorem m_get28 (hx : p.tables.exec = Jvm.exec) (hb : c.code = cc) (hts : ∀ w ∈ Ts, w.before args s = true) (hin : ∀ w ∈ wsX30, w ∈ Ts) (hown : s.vm.findClass RX3 = some m.cls) (I : m_I D o ad cA S s H0 H locs) (hlink : (Cond.fieldLink RX3 index RX3 (TX3 28).2.1 (TX3 28).2.2.1).before args s = true) (hdg : decode cc pc = .ok (.getfield index, 3)) (kk : W p l e R s m args below meth c H locs cells slots Q (F0 m (pc + 3) ls (.ref (ad 28) :: rest))) : W p l e R s m args below meth c H locs cells slots Q (F0 m pc ls (.ref o :: rest)) :=
  m_get hx hb hts hin hown I 28 (by decide) rfl rfl hlink hdg kk
theorem m_ald28 (hx : p.tables.exec = Jvm.exec) (hb : c.code = cc) (I : m_I D o ad cA S s H0 H locs) {i : Int32} (hi : vp_in i 10) (hdg : decode cc pc = .ok (.iaload, 1)) {x : Int32} (hv : S.2 28 i.toNatClampNeg = x) (kk : W p l e R s m args below meth c H locs cells slots Q (F0 m (pc + 1) ls (.int x :: rest))) : W p l e R s m args below meth c H locs cells slots Q (F0 m pc ls (.int i :: .ref (ad 28) :: rest)) := by
  subst hv
  exact m_ald hx hb I 28 16 rfl hi hdg kk
theorem m_ast28 (hx : p.tables.exec = Jvm.exec) (hb : c.code = cc) (I : m_I D o ad cA S s H0 H locs) {i x : Int32} (hi : vp_in i 10) (hdg : decode cc pc = .ok (.iastore, 1)) (kk : ∀ (H1 : Heap) (locs1 : List Loc), m_I D o ad cA (sA S 28 i.toNatClampNeg x) s H0 H1 locs1 → W p l e R s m args below meth c H1 locs1 cells slots Q (F0 m (pc + 1) ls rest)) : W p l e R s m args below meth c H locs cells slots Q (F0 m pc ls (.int x :: .int i :: .ref (ad 28) :: rest)) :=
  m_ast hx hb I 28 16 rfl rfl hi hdg kk
theorem m_get29 (hx : p.tables.exec = Jvm.exec) (hb : c.code = cc) (hts : ∀ w ∈ Ts, w.before args s = true) (hin : ∀ w ∈ wsX30, w ∈ Ts) (hown : s.vm.findClass RX3 = some m.cls) (I : m_I D o ad cA S s H0 H locs) (hlink : (Cond.fieldLink RX3 index RX3 (TX3 29).2.1 (TX3 29).2.2.1).before args s = true) (hdg : decode cc pc = .ok (.getfield index, 3)) (kk : W p l e R s m args below meth c H locs cells slots Q (F0 m (pc + 3) ls (.ref (ad 29) :: rest))) : W p l e R s m args below meth c H locs cells slots Q (F0 m pc ls (.ref o :: rest)) :=
  m_get hx hb hts hin hown I 29 (by decide) rfl rfl hlink hdg kk
theorem m_ald29 (hx : p.tables.exec = Jvm.exec) (hb : c.code = cc) (I : m_I D o ad cA S s H0 H locs) {i : Int32} (hi : vp_in i 10) (hdg : decode cc pc = .ok (.iaload, 1)) {x : Int32} (hv : S.2 29 i.toNatClampNeg = x) (kk : W p l e R s m args below meth c H locs cells slots Q (F0 m (pc + 1) ls (.int x :: rest))) : W p l e R s m args below meth c H locs cells slots Q (F0 m pc ls (.int i :: .ref (ad 29) :: rest)) := by
  subst hv
  exact m_ald hx hb I 29 17 rfl hi hdg kk
theorem m_ast29 (hx : p.tables.exec = Jvm.exec) (hb : c.code = cc) (I : m_I D o ad cA S s H0 H locs) {i x : Int32} (hi : vp_in i 10) (hdg : decode cc pc = .ok (.iastore, 1)) (kk : ∀ (H1 : Heap) (locs1 : List Loc), m_I D o ad cA (sA S 29 i.toNatClampNeg x) s H0 H1 locs1 → W p l e R s m args below meth c H1 locs1 cells slots Q (F0 m (pc + 1) ls rest)) : W p l e R s m args below meth c H locs cells slots Q (F0 m pc ls (.int x :: .int i :: .ref (ad 29) :: rest)) :=
  m_ast hx hb I 29 17 rfl rfl hi hdg kk
end MR
end
section
/-! indices -/
theorem ix_of {x lo hi : Int32} {n : Nat} (h : lo ≤ x ∧ x ≤ hi) (h0 : (0 : Int) ≤ lo.toInt) (hn : hi.toInt < (n : Int)) : vp_in x n := by
  rw [vp_in_iff]
  have h1 := Int32.le_iff_toInt_le.mp h.1
  have h2 := Int32.le_iff_toInt_le.mp h.2
  omega
/-! the reference's small methods: static ones -/
set_option maxHeartbeats 4000000 in
set_option maxRecDepth 100000 in
theorem c_X3_in (l : Launch) (v lo hi : Int32) : Met l yX3_in wsX3_in { frames := 0, cells := 0, slots := 0, locals := 0 } (va_Pc [.int v, .int lo, .int hi] (fun _ => True)) (vp_Si (fun r => ((lo ≤ v ∧ v ≤ hi) ∧ r = 1) ∨ (¬ (lo ≤ v ∧ v ≤ hi) ∧ r = 0))) 0 0 (fun _ => False) := by
  refine Met.ofW (cc := cX3_in) (maxL := 3) (ret := (some .boolean)) (by decide) rfl ?_
  intro p e s m args below meth c s₁ B hml hv
  obtain ⟨rfl, -⟩ := hv
  have hx := B.exec
  have hb := B.bytes
  have hr := B.returns
  have hts := atoms_spec (ws := wsX3_in) B.pre
  have hown : s.vm.findClass RX3 = some m.cls := findClass_of_methodNamed B.named
  have hlocks := B.notSynchronized
  have hl := lv_entry ([.int v, .int lo, .int hi]) (n := 3) (Nat.le_of_ble_eq_true rfl)
  rw [lg_entry_eq]
  generalize (lg_sl ([.int v, .int lo, .int hi]) ++ List.replicate (3 - (lg_sl ([.int v, .int lo, .int hi])).length) Slot.unset).toArray = ls at hl ⊢
  have hl : lv_has ls 3 [(0, .int v), (1, .int lo), (2, .int hi)] := hl
  refine lv_iload_n hx hb dX3_in_0 rfl (lv_at hl 0 rfl) ?_
  refine lv_iload_n hx hb dX3_in_1 rfl (lv_at hl 1 rfl) ?_
  refine lv_icmp_lt (tgt := 14) hx hb dX3_in_2 (by decide) (fun c2 => ?_) (fun c2 => ?_)
  · refine lv_iconst (v := 0) hx hb dX3_in_14 (by decide) ?_
    exact W.zret hx hb hr rfl (fun t ht hW => ⟨_, rfl, Or.inr ⟨fun h => absurd c2 (Int32.not_lt.mpr h.1), rfl⟩, ht⟩) (fun q h => by cases h) dX3_in_15 hlocks
  · refine lv_iload_n hx hb dX3_in_5 rfl (lv_at hl 0 rfl) ?_
    refine lv_iload_n hx hb dX3_in_6 rfl (lv_at hl 2 rfl) ?_
    refine lv_icmp_gt (tgt := 14) hx hb dX3_in_7 (by decide) (fun c7 => ?_) (fun c7 => ?_)
    · refine lv_iconst (v := 0) hx hb dX3_in_14 (by decide) ?_
      exact W.zret hx hb hr rfl (fun t ht hW => ⟨_, rfl, Or.inr ⟨fun h => absurd c7 (Int32.not_lt.mpr h.2), rfl⟩, ht⟩) (fun q h => by cases h) dX3_in_15 hlocks
    · refine lv_iconst (v := 1) hx hb dX3_in_10 (by decide) ?_
      refine lv_goto (tgt := 15) hx hb dX3_in_11 (by decide) ?_
      exact W.zret hx hb hr rfl (fun t ht hW => ⟨_, rfl, Or.inl ⟨⟨Int32.not_lt.mp c2, Int32.not_lt.mp c7⟩, rfl⟩, ht⟩) (fun q h => by cases h) dX3_in_15 hlocks

section MI1
variable {p : Program} {l : Launch} {e : Env} {R : Room} {s : State} {m : MethodId} {args : Array Value} {below : List Frame} {meth : Method} {c : Code} {H H0 : Heap} {locs : List Loc} {cells slots : Nat} {Q : State → Prop}
variable {cc : ByteArray} {pc : Nat} {ls : Array Slot} {rest st0 : List Value} {Ts : List Cond} {index nL : Nat} {own : String}
theorem m_in (X : CallFix p m c cc nL s args Ts own) (hG : GoodIn Ts (va_wsS own index yX3_in wsX3_in)) (hR : 0 + 1 ≤ R.frames ∧ 8 + (3 + 11) + 0 ≤ R.locals) (hf : cells ≤ R.cells ∧ slots ≤ R.slots) (hsize : ls.size = nL) (hroom : (rest.map fun v => v.category).sum ≤ 8) {v lo hi : Int32} (hdg : decode cc pc = .ok (.invokestatic index, 3))
    (kt : lo ≤ v ∧ v ≤ hi → W p l e R s m args below meth c H locs cells slots Q (F0 m (pc + 3) ls (.int 1 :: rest))) (kf : ¬ (lo ≤ v ∧ v ≤ hi) → W p l e R s m args below meth c H locs cells slots Q (F0 m (pc + 3) ls (.int 0 :: rest))) : W p l e R s m args below meth c H locs cells slots Q (F0 m pc ls (.int hi :: .int lo :: .int v :: rest)) := by
  refine vp_callSi (W.runS X (c_X3_in l v lo hi) (va_cwS 3 X.2.2.2.2 hG rfl rfl rfl (by decide +kernel) hR) ⟨fun a U g mk q => q, fun U _ _ => ⟨rfl, trivial⟩⟩ rfl rfl hsize rfl (lv_room hroom) hdg hf) (fun r hr => ?_)
  rcases hr with ⟨h, rfl⟩ | ⟨h, rfl⟩
  · exact kt h
  · exact kf h
end MI1
set_option maxHeartbeats 4000000 in
set_option maxRecDepth 100000 in
theorem c_X3_asks (l : Launch) (k : Int32) : Met l yX3_asks wsX3_asks { frames := 1, cells := 0, slots := 0, locals := 22 } (va_Pc [.int k] (fun _ => True)) (vp_Si (fun r => (((8 ≤ k ∧ k ≤ 11) ∨ k = 16) ∧ r = 1) ∨ (¬ ((8 ≤ k ∧ k ≤ 11) ∨ k = 16) ∧ r = 0))) 0 0 (fun _ => False) := by
  refine Met.ofW (cc := cX3_asks) (maxL := 1) (ret := (some .boolean)) (by decide) rfl ?_
  intro p e s m args below meth c s₁ B hml hv
  obtain ⟨rfl, -⟩ := hv
  have hx := B.exec
  have hb := B.bytes
  have hr := B.returns
  have hts := atoms_spec (ws := wsX3_asks) B.pre
  have hown : s.vm.findClass RX3 = some m.cls := findClass_of_methodNamed B.named
  have hlocks := B.notSynchronized
  have hl := lv_entry ([.int k]) (n := 1) (Nat.le_of_ble_eq_true rfl)
  rw [lg_entry_eq]
  generalize (lg_sl ([.int k]) ++ List.replicate (1 - (lg_sl ([.int k])).length) Slot.unset).toArray = ls at hl ⊢
  have hl : lv_has ls 1 [(0, .int k)] := hl
  refine lv_iload_n hx hb dX3_asks_0 rfl (lv_at hl 0 rfl) ?_
  refine lv_bipush (v := 8) hx hb dX3_asks_1 (by decide) ?_
  refine lv_bipush (v := 11) hx hb dX3_asks_3 (by decide) ?_
  refine m_in ⟨hx, hb, hml, hown, hts⟩ gX3_asks_X3_in ⟨Nat.le_of_ble_eq_true rfl, Nat.le_of_ble_eq_true rfl⟩ ⟨Nat.le_refl _, Nat.le_refl _⟩ hl.1 (Nat.le_of_ble_eq_true rfl) dX3_asks_5 (fun h5 => ?_) (fun h5 => ?_)
  · refine lv_if_ne (tgt := 17) hx hb dX3_asks_8 (by decide) (fun _ => ?_) (fun h => absurd h (by decide))
    refine lv_iconst (v := 1) hx hb dX3_asks_17 (by decide) ?_
    refine lv_goto (tgt := 22) hx hb dX3_asks_18 (by decide) ?_
    exact W.zret hx hb hr rfl (fun t ht hW => ⟨_, rfl, Or.inl ⟨Or.inl h5, rfl⟩, ht⟩) (fun q h => by cases h) dX3_asks_22 hlocks
  · refine lv_if_ne (tgt := 17) hx hb dX3_asks_8 (by decide) (fun h => absurd h (by decide)) (fun _ => ?_)
    refine lv_iload_n hx hb dX3_asks_11 rfl (lv_at hl 0 rfl) ?_
    refine lv_bipush (v := 16) hx hb dX3_asks_12 (by decide) ?_
    refine lv_icmp_ne (tgt := 21) hx hb dX3_asks_14 (by decide) (fun c14 => ?_) (fun c14 => ?_)
    · refine lv_iconst (v := 0) hx hb dX3_asks_21 (by decide) ?_
      exact W.zret hx hb hr rfl (fun t ht hW => ⟨_, rfl, Or.inr ⟨fun h => h.elim h5 c14, rfl⟩, ht⟩) (fun q h => by cases h) dX3_asks_22 hlocks
    · refine lv_iconst (v := 1) hx hb dX3_asks_17 (by decide) ?_
      refine lv_goto (tgt := 22) hx hb dX3_asks_18 (by decide) ?_
      exact W.zret hx hb hr rfl (fun t ht hW => ⟨_, rfl, Or.inl ⟨Or.inr c14, rfl⟩, ht⟩) (fun q h => by cases h) dX3_asks_22 hlocks

section MI2
variable {p : Program} {l : Launch} {e : Env} {R : Room} {s : State} {m : MethodId} {args : Array Value} {below : List Frame} {meth : Method} {c : Code} {H H0 : Heap} {locs : List Loc} {cells slots : Nat} {Q : State → Prop}
variable {cc : ByteArray} {pc : Nat} {ls : Array Slot} {rest st0 : List Value} {Ts : List Cond} {index nL : Nat} {own : String} {D : va_G} {o : Nat} {ad : Nat → Nat} {cA : ClassId} {S : tr_S}
theorem m_asks (X : CallFix p m c cc nL s args Ts own) (hG : GoodIn Ts (va_wsS own index yX3_asks wsX3_asks)) (hR : 1 + 1 ≤ R.frames ∧ 8 + (1 + 11) + 22 ≤ R.locals) (hf : cells ≤ R.cells ∧ slots ≤ R.slots) (hsize : ls.size = nL) (hroom : (rest.map fun v => v.category).sum ≤ 8) {k : Int32} (hdg : decode cc pc = .ok (.invokestatic index, 3))
    (kt : (8 ≤ k ∧ k ≤ 11) ∨ k = 16 → W p l e R s m args below meth c H locs cells slots Q (F0 m (pc + 3) ls (.int 1 :: rest))) (kf : ¬ ((8 ≤ k ∧ k ≤ 11) ∨ k = 16) → W p l e R s m args below meth c H locs cells slots Q (F0 m (pc + 3) ls (.int 0 :: rest))) : W p l e R s m args below meth c H locs cells slots Q (F0 m pc ls (.int k :: rest)) := by
  refine vp_callSi (W.runS X (c_X3_asks l k) (va_cwS 1 X.2.2.2.2 hG rfl rfl rfl (by decide +kernel) hR) ⟨fun a U g mk q => q, fun U _ _ => ⟨rfl, trivial⟩⟩ rfl rfl hsize rfl (lv_room hroom) hdg hf) (fun r hr => ?_)
  rcases hr with ⟨h, rfl⟩ | ⟨h, rfl⟩
  · exact kt h
  · exact kf h
end MI2
set_option maxHeartbeats 4000000 in
set_option maxRecDepth 100000 in
theorem c_X3_isRule (l : Launch) (D : va_G) (o : Nat) (ad : Nat → Nat) (cA : ClassId) (S0 : tr_S) (r : Int32) : m_Mi l yX3_isRule wsX3_isRule { frames := 1, cells := 0, slots := 0, locals := 22 } [.int r] D o ad cA S0 (fun x S => S = S0 ∧ (((0 ≤ r ∧ r ≤ S0.1 4 - 1) ∧ x = 1) ∨ (¬ (0 ≤ r ∧ r ≤ S0.1 4 - 1) ∧ x = 0))) := by
  refine Met.ofW (cc := cX3_isRule) (maxL := 2) (ret := (some .boolean)) (by decide) rfl ?_
  intro p e s m args below meth c s₁ B hml hv
  obtain ⟨rfl, hB⟩ := hv
  have hx := B.exec
  have hb := B.bytes
  have hr := B.returns
  have hts := atoms_spec (ws := wsX3_isRule) B.pre
  have hown : s.vm.findClass RX3 = some m.cls := findClass_of_methodNamed B.named
  have hlocks := B.notSynchronized
  have I := m_I.of hB
  have hin : ∀ w ∈ wsX30, w ∈ wsX3_isRule := fun _ h => List.mem_cons_of_mem _ (List.mem_append_right _ h)
  have L65 := hts (.fieldLink RX3 65 "TollRulesModel" "rules" "I") (by decide +kernel)
  have hl := lv_entry ([.ref o, .int r]) (n := 2) (Nat.le_of_ble_eq_true rfl)
  rw [lg_entry_eq]
  generalize (lg_sl ([.ref o, .int r]) ++ List.replicate (2 - (lg_sl ([.ref o, .int r])).length) Slot.unset).toArray = ls at hl ⊢
  have hl : lv_has ls 2 [(0, .ref o), (1, .int r)] := hl
  refine lv_iload_n hx hb dX3_isRule_0 rfl (lv_at hl 1 rfl) ?_
  refine lv_iconst (v := 0) hx hb dX3_isRule_1 (by decide) ?_
  refine lv_aload_n hx hb dX3_isRule_2 rfl (lv_at hl 0 rfl) ?_
  refine m_get4 hx hb hts hin hown I L65 dX3_isRule_3 (x := S0.1 4) rfl ?_
  refine lv_iconst (v := 1) hx hb dX3_isRule_6 (by decide) ?_
  refine lv_isub hx hb dX3_isRule_7 ?_
  refine m_in ⟨hx, hb, hml, hown, hts⟩ gX3_isRule_X3_in ⟨Nat.le_of_ble_eq_true rfl, Nat.le_of_ble_eq_true rfl⟩ ⟨Nat.le_refl _, Nat.le_refl _⟩ hl.1 (Nat.le_of_ble_eq_true rfl) dX3_isRule_8 (fun h8 => ?_) (fun h8 => ?_)
  · exact m_zret hx hb hr hlocks I rfl dX3_isRule_11 (⟨rfl, Or.inl ⟨h8, rfl⟩⟩)
  · exact m_zret hx hb hr hlocks I rfl dX3_isRule_11 (⟨rfl, Or.inr ⟨h8, rfl⟩⟩)

section MI3
variable {p : Program} {l : Launch} {e : Env} {R : Room} {s : State} {m : MethodId} {args : Array Value} {below : List Frame} {meth : Method} {c : Code} {H H0 : Heap} {locs : List Loc} {cells slots : Nat} {Q : State → Prop}
variable {cc : ByteArray} {pc : Nat} {ls : Array Slot} {rest st0 : List Value} {Ts : List Cond} {index nL : Nat} {own : String} {D : va_G} {o : Nat} {ad : Nat → Nat} {cA : ClassId} {S : tr_S}
theorem m_isRule (X : CallFix p m c cc nL s args Ts own) (hG : GoodIn Ts (wsV own index RX3 yX3_isRule wsX3_isRule)) (hR : 1 + 1 ≤ R.frames ∧ 8 + (2 + 11) + 22 ≤ R.locals) (hf : cells ≤ R.cells ∧ slots ≤ R.slots) (I : m_I D o ad cA S s H0 H locs) (hsize : ls.size = nL) (hroom : (rest.map fun v => v.category).sum ≤ 8) {r : Int32} (hdg : decode cc pc = .ok (.invokevirtual index, 3))
    (kt : 0 ≤ r ∧ r ≤ S.1 4 - 1 → ∀ (H1 : Heap) (locs1 : List Loc), m_I D o ad cA S s H0 H1 locs1 → W p l e R s m args below meth c H1 locs1 cells slots Q (F0 m (pc + 3) ls (.int 1 :: rest))) (kf : ¬ (0 ≤ r ∧ r ≤ S.1 4 - 1) → ∀ (H1 : Heap) (locs1 : List Loc), m_I D o ad cA S s H0 H1 locs1 → W p l e R s m args below meth c H1 locs1 cells slots Q (F0 m (pc + 3) ls (.int 0 :: rest))) : W p l e R s m args below meth c H locs cells slots Q (F0 m pc ls (.int r :: .ref o :: rest)) := by
  refine m_calli (rest := rest) X (c_X3_isRule l D o ad cA S r) (cwV 1 X.2.2.2.2 hG rfl rfl rfl (by decide +kernel) hR) I rfl hsize rfl hroom hdg hf (fun x S1 H1 locs1 hp I1 => ?_)
  obtain ⟨rfl, ⟨h, rfl⟩ | ⟨h, rfl⟩⟩ := hp
  · exact kt h H1 locs1 I1
  · exact kf h H1 locs1 I1
end MI3
/-! the reference's steps -/
def f_fails (w a : Int32) (S : tr_S) : tr_S := sF (sF S 16 w) 17 a
def f_tick (S : tr_S) : tr_S := sF (sF S 18 (S.1 18 + 1)) 20 (S.1 20 + 1)
def f_push (r x : Int32) (S : tr_S) : tr_S := sF (sA (sA (sA S 12 (S.1 11).toNatClampNeg r) 13 (S.1 11).toNatClampNeg x) 14 (S.1 11).toNatClampNeg 0) 11 (S.1 11 + 1)
def f_begins (r x : Int32) (S : tr_S) : Int32 × tr_S := if S.1 18 = 64 then (0, f_fails 5 r S) else (1, f_push r x (f_tick S))
set_option maxHeartbeats 4000000 in
set_option maxRecDepth 100000 in
theorem c_X3_fails (l : Launch) (D : va_G) (o : Nat) (ad : Nat → Nat) (cA : ClassId) (S0 : tr_S) (w a : Int32) : m_Mv l yX3_fails wsX3_fails { frames := 0, cells := 0, slots := 0, locals := 0 } [.int w, .int a] D o ad cA S0 (fun S => S = f_fails w a S0) := by
  refine Met.ofW (cc := cX3_fails) (maxL := 3) (ret := none) (by decide) rfl ?_
  intro p e s m args below meth c s₁ B hml hv
  obtain ⟨rfl, hB⟩ := hv
  have hx := B.exec
  have hb := B.bytes
  have hr := B.returns
  have hts := atoms_spec (ws := wsX3_fails) B.pre
  have hown : s.vm.findClass RX3 = some m.cls := findClass_of_methodNamed B.named
  have hlocks := B.notSynchronized
  have I := m_I.of hB
  have hin : ∀ w ∈ wsX30, w ∈ wsX3_fails := fun _ h => List.mem_cons_of_mem _ (List.mem_append_right _ h)
  have L95 := hts (.fieldLink RX3 95 "TollRulesModel" "failure" "I") (by decide +kernel)
  have L98 := hts (.fieldLink RX3 98 "TollRulesModel" "failureAt" "I") (by decide +kernel)
  have hl := lv_entry ([.ref o, .int w, .int a]) (n := 3) (Nat.le_of_ble_eq_true rfl)
  rw [lg_entry_eq]
  generalize (lg_sl ([.ref o, .int w, .int a]) ++ List.replicate (3 - (lg_sl ([.ref o, .int w, .int a])).length) Slot.unset).toArray = ls at hl ⊢
  have hl : lv_has ls 3 [(0, .ref o), (1, .int w), (2, .int a)] := hl
  refine lv_aload_n hx hb dX3_fails_0 rfl (lv_at hl 0 rfl) ?_
  refine lv_iload_n hx hb dX3_fails_1 rfl (lv_at hl 1 rfl) ?_
  refine m_put16 hx hb hts hin hown I L95 dX3_fails_2 (fun H locs I => ?_)
  refine lv_aload_n hx hb dX3_fails_5 rfl (lv_at hl 0 rfl) ?_
  refine lv_iload_n hx hb dX3_fails_6 rfl (lv_at hl 2 rfl) ?_
  refine m_put17 hx hb hts hin hown I L98 dX3_fails_7 (fun H locs I => ?_)
  exact m_vret hx hb hr hlocks I dX3_fails_10 (rfl)

set_option maxHeartbeats 4000000 in
set_option maxRecDepth 100000 in
theorem c_X3_startsCall (l : Launch) (D : va_G) (o : Nat) (ad : Nat → Nat) (cA : ClassId) (S0 : tr_S)  : m_Mv l yX3_startsCall wsX3_startsCall { frames := 0, cells := 0, slots := 0, locals := 0 } [] D o ad cA S0 (fun S => S = sF (sF S0 18 0) 16 0) := by
  refine Met.ofW (cc := cX3_startsCall) (maxL := 1) (ret := none) (by decide) rfl ?_
  intro p e s m args below meth c s₁ B hml hv
  obtain ⟨rfl, hB⟩ := hv
  have hx := B.exec
  have hb := B.bytes
  have hr := B.returns
  have hts := atoms_spec (ws := wsX3_startsCall) B.pre
  have hown : s.vm.findClass RX3 = some m.cls := findClass_of_methodNamed B.named
  have hlocks := B.notSynchronized
  have I := m_I.of hB
  have hin : ∀ w ∈ wsX30, w ∈ wsX3_startsCall := fun _ h => List.mem_cons_of_mem _ (List.mem_append_right _ h)
  have L82 := hts (.fieldLink RX3 82 "TollRulesModel" "steps" "I") (by decide +kernel)
  have L95 := hts (.fieldLink RX3 95 "TollRulesModel" "failure" "I") (by decide +kernel)
  have hl := lv_entry ([.ref o]) (n := 1) (Nat.le_of_ble_eq_true rfl)
  rw [lg_entry_eq]
  generalize (lg_sl ([.ref o]) ++ List.replicate (1 - (lg_sl ([.ref o])).length) Slot.unset).toArray = ls at hl ⊢
  have hl : lv_has ls 1 [(0, .ref o)] := hl
  refine lv_aload_n hx hb dX3_startsCall_0 rfl (lv_at hl 0 rfl) ?_
  refine lv_iconst (v := 0) hx hb dX3_startsCall_1 (by decide) ?_
  refine m_put18 hx hb hts hin hown I L82 dX3_startsCall_2 (fun H locs I => ?_)
  refine lv_aload_n hx hb dX3_startsCall_5 rfl (lv_at hl 0 rfl) ?_
  refine lv_iconst (v := 0) hx hb dX3_startsCall_6 (by decide) ?_
  refine m_put16 hx hb hts hin hown I L95 dX3_startsCall_7 (fun H locs I => ?_)
  exact m_vret hx hb hr hlocks I dX3_startsCall_10 (rfl)

set_option maxHeartbeats 4000000 in
set_option maxRecDepth 100000 in
theorem c_X3_begins (l : Launch) (D : va_G) (o : Nat) (ad : Nat → Nat) (cA : ClassId) (S0 : tr_S) (r x : Int32) (hw : vp_in (S0.1 11) 65) : m_Mi l yX3_begins wsX3_begins { frames := 1, cells := 0, slots := 0, locals := 22 } [.int r, .int x] D o ad cA S0 (fun v S => (v, S) = f_begins r x S0) := by
  refine Met.ofW (cc := cX3_begins) (maxL := 3) (ret := (some .boolean)) (by decide) rfl ?_
  intro p e s m args below meth c s₁ B hml hv
  obtain ⟨rfl, hB⟩ := hv
  have hx := B.exec
  have hb := B.bytes
  have hr := B.returns
  have hts := atoms_spec (ws := wsX3_begins) B.pre
  have hown : s.vm.findClass RX3 = some m.cls := findClass_of_methodNamed B.named
  have hlocks := B.notSynchronized
  have I := m_I.of hB
  have hin : ∀ w ∈ wsX30, w ∈ wsX3_begins := fun _ h => List.mem_cons_of_mem _ (List.mem_append_right _ h)
  have L40 := hts (.fieldLink RX3 40 "TollRulesModel" "waitRule" "[I") (by decide +kernel)
  have L43 := hts (.fieldLink RX3 43 "TollRulesModel" "waitValue" "[I") (by decide +kernel)
  have L46 := hts (.fieldLink RX3 46 "TollRulesModel" "waitPhase" "[I") (by decide +kernel)
  have L82 := hts (.fieldLink RX3 82 "TollRulesModel" "steps" "I") (by decide +kernel)
  have L89 := hts (.fieldLink RX3 89 "TollRulesModel" "stepsEver" "I") (by decide +kernel)
  have L92 := hts (.fieldLink RX3 92 "TollRulesModel" "waiting" "I") (by decide +kernel)
  have hl := lv_entry ([.ref o, .int r, .int x]) (n := 3) (Nat.le_of_ble_eq_true rfl)
  rw [lg_entry_eq]
  generalize (lg_sl ([.ref o, .int r, .int x]) ++ List.replicate (3 - (lg_sl ([.ref o, .int r, .int x])).length) Slot.unset).toArray = ls at hl ⊢
  have hl : lv_has ls 3 [(0, .ref o), (1, .int r), (2, .int x)] := hl
  refine lv_aload_n hx hb dX3_begins_0 rfl (lv_at hl 0 rfl) ?_
  refine m_get18 hx hb hts hin hown I L82 dX3_begins_1 (x := S0.1 18) rfl ?_
  refine lv_bipush (v := 64) hx hb dX3_begins_4 (by decide) ?_
  refine lv_icmp_ne (tgt := 17) hx hb dX3_begins_6 (by decide) (fun c6 => ?_) (fun c6 => ?_)
  · refine lv_aload_n hx hb dX3_begins_17 rfl (lv_at hl 0 rfl) ?_
    refine lv_dup hx hb dX3_begins_18 rfl ?_
    refine m_get18 hx hb hts hin hown I L82 dX3_begins_19 (x := S0.1 18) rfl ?_
    refine lv_iconst (v := 1) hx hb dX3_begins_22 (by decide) ?_
    refine lv_iadd hx hb dX3_begins_23 ?_
    refine m_put18 hx hb hts hin hown I L82 dX3_begins_24 (fun H locs I => ?_)
    refine lv_aload_n hx hb dX3_begins_27 rfl (lv_at hl 0 rfl) ?_
    refine lv_dup hx hb dX3_begins_28 rfl ?_
    refine m_get20 hx hb hts hin hown I L89 dX3_begins_29 (x := S0.1 20) rfl ?_
    refine lv_iconst (v := 1) hx hb dX3_begins_32 (by decide) ?_
    refine lv_iadd hx hb dX3_begins_33 ?_
    refine m_put20 hx hb hts hin hown I L89 dX3_begins_34 (fun H locs I => ?_)
    refine lv_aload_n hx hb dX3_begins_37 rfl (lv_at hl 0 rfl) ?_
    refine m_get12 hx hb hts hin hown I L40 dX3_begins_38 ?_
    refine lv_aload_n hx hb dX3_begins_41 rfl (lv_at hl 0 rfl) ?_
    refine m_get11 hx hb hts hin hown I L92 dX3_begins_42 (x := S0.1 11) rfl ?_
    refine lv_iload_n hx hb dX3_begins_45 rfl (lv_at hl 1 rfl) ?_
    refine m_ast12 hx hb I hw dX3_begins_46 (fun H locs I => ?_)
    refine lv_aload_n hx hb dX3_begins_47 rfl (lv_at hl 0 rfl) ?_
    refine m_get13 hx hb hts hin hown I L43 dX3_begins_48 ?_
    refine lv_aload_n hx hb dX3_begins_51 rfl (lv_at hl 0 rfl) ?_
    refine m_get11 hx hb hts hin hown I L92 dX3_begins_52 (x := S0.1 11) rfl ?_
    refine lv_iload_n hx hb dX3_begins_55 rfl (lv_at hl 2 rfl) ?_
    refine m_ast13 hx hb I hw dX3_begins_56 (fun H locs I => ?_)
    refine lv_aload_n hx hb dX3_begins_57 rfl (lv_at hl 0 rfl) ?_
    refine m_get14 hx hb hts hin hown I L46 dX3_begins_58 ?_
    refine lv_aload_n hx hb dX3_begins_61 rfl (lv_at hl 0 rfl) ?_
    refine m_get11 hx hb hts hin hown I L92 dX3_begins_62 (x := S0.1 11) rfl ?_
    refine lv_iconst (v := 0) hx hb dX3_begins_65 (by decide) ?_
    refine m_ast14 hx hb I hw dX3_begins_66 (fun H locs I => ?_)
    refine lv_aload_n hx hb dX3_begins_67 rfl (lv_at hl 0 rfl) ?_
    refine lv_dup hx hb dX3_begins_68 rfl ?_
    refine m_get11 hx hb hts hin hown I L92 dX3_begins_69 (x := S0.1 11) rfl ?_
    refine lv_iconst (v := 1) hx hb dX3_begins_72 (by decide) ?_
    refine lv_iadd hx hb dX3_begins_73 ?_
    refine m_put11 hx hb hts hin hown I L92 dX3_begins_74 (fun H locs I => ?_)
    refine lv_iconst (v := 1) hx hb dX3_begins_77 (by decide) ?_
    exact m_zret hx hb hr hlocks I rfl dX3_begins_78 ((if_neg c6).symm)
  · refine lv_aload_n hx hb dX3_begins_9 rfl (lv_at hl 0 rfl) ?_
    refine lv_iconst (v := 5) hx hb dX3_begins_10 (by decide) ?_
    refine lv_iload_n hx hb dX3_begins_11 rfl (lv_at hl 1 rfl) ?_
    refine m_callv (rest := []) ⟨hx, hb, hml, hown, hts⟩ (c_X3_fails l D o ad cA S0 5 r) (cwV 2 hts gX3_begins_X3_fails rfl rfl rfl (by decide +kernel) ⟨Nat.le_of_ble_eq_true rfl, Nat.le_of_ble_eq_true rfl⟩) I rfl hl.1 rfl (Nat.le_of_ble_eq_true rfl) dX3_begins_12 ⟨Nat.le_refl _, Nat.le_refl _⟩ (fun S12 H locs p12 I => ?_)
    refine lv_iconst (v := 0) hx hb dX3_begins_15 (by decide) ?_
    exact m_zret hx hb hr hlocks I rfl dX3_begins_16 (by rw [p12]; exact (if_pos c6).symm)

set_option maxHeartbeats 4000000 in
set_option maxRecDepth 100000 in
theorem c_X3_result (l : Launch) (D : va_G) (o : Nat) (ad : Nat → Nat) (cA : ClassId) (S0 : tr_S)  : m_Mi l yX3_result wsX3_result { frames := 0, cells := 0, slots := 0, locals := 0 } [] D o ad cA S0 (fun v S => v = S0.1 25 ∧ S = S0) := by
  refine Met.ofW (cc := cX3_result) (maxL := 1) (ret := (some .int)) (by decide) rfl ?_
  intro p e s m args below meth c s₁ B hml hv
  obtain ⟨rfl, hB⟩ := hv
  have hx := B.exec
  have hb := B.bytes
  have hr := B.returns
  have hts := atoms_spec (ws := wsX3_result) B.pre
  have hown : s.vm.findClass RX3 = some m.cls := findClass_of_methodNamed B.named
  have hlocks := B.notSynchronized
  have I := m_I.of hB
  have hin : ∀ w ∈ wsX30, w ∈ wsX3_result := fun _ h => List.mem_cons_of_mem _ (List.mem_append_right _ h)
  have L152 := hts (.fieldLink RX3 152 "TollRulesModel" "result" "I") (by decide +kernel)
  have hl := lv_entry ([.ref o]) (n := 1) (Nat.le_of_ble_eq_true rfl)
  rw [lg_entry_eq]
  generalize (lg_sl ([.ref o]) ++ List.replicate (1 - (lg_sl ([.ref o])).length) Slot.unset).toArray = ls at hl ⊢
  have hl : lv_has ls 1 [(0, .ref o)] := hl
  refine lv_aload_n hx hb dX3_result_0 rfl (lv_at hl 0 rfl) ?_
  refine m_get25 hx hb hts hin hown I L152 dX3_result_1 (x := S0.1 25) rfl ?_
  exact m_iret hx hb hr hlocks I dX3_result_4 (⟨rfl, rfl⟩)

set_option maxHeartbeats 4000000 in
set_option maxRecDepth 100000 in
theorem c_X3_steps (l : Launch) (D : va_G) (o : Nat) (ad : Nat → Nat) (cA : ClassId) (S0 : tr_S)  : m_Mi l yX3_steps wsX3_steps { frames := 0, cells := 0, slots := 0, locals := 0 } [] D o ad cA S0 (fun v S => v = S0.1 19 ∧ S = S0) := by
  refine Met.ofW (cc := cX3_steps) (maxL := 1) (ret := (some .int)) (by decide) rfl ?_
  intro p e s m args below meth c s₁ B hml hv
  obtain ⟨rfl, hB⟩ := hv
  have hx := B.exec
  have hb := B.bytes
  have hr := B.returns
  have hts := atoms_spec (ws := wsX3_steps) B.pre
  have hown : s.vm.findClass RX3 = some m.cls := findClass_of_methodNamed B.named
  have hlocks := B.notSynchronized
  have I := m_I.of hB
  have hin : ∀ w ∈ wsX30, w ∈ wsX3_steps := fun _ h => List.mem_cons_of_mem _ (List.mem_append_right _ h)
  have L128 := hts (.fieldLink RX3 128 "TollRulesModel" "stepsTold" "I") (by decide +kernel)
  have hl := lv_entry ([.ref o]) (n := 1) (Nat.le_of_ble_eq_true rfl)
  rw [lg_entry_eq]
  generalize (lg_sl ([.ref o]) ++ List.replicate (1 - (lg_sl ([.ref o])).length) Slot.unset).toArray = ls at hl ⊢
  have hl : lv_has ls 1 [(0, .ref o)] := hl
  refine lv_aload_n hx hb dX3_steps_0 rfl (lv_at hl 0 rfl) ?_
  refine m_get19 hx hb hts hin hown I L128 dX3_steps_1 (x := S0.1 19) rfl ?_
  exact m_iret hx hb hr hlocks I dX3_steps_4 (⟨rfl, rfl⟩)

def f_failed (w : Int32) (S : tr_S) : Int32 := if w = 0 then S.1 21 else if w = 1 then S.1 22 else -1
set_option maxHeartbeats 4000000 in
set_option maxRecDepth 100000 in
theorem c_X3_failed_ (l : Launch) (D : va_G) (o : Nat) (ad : Nat → Nat) (cA : ClassId) (S0 : tr_S) (w : Int32) : m_Mi l yX3_failed_ wsX3_failed_ { frames := 0, cells := 0, slots := 0, locals := 0 } [.int w] D o ad cA S0 (fun v S => v = f_failed w S0 ∧ S = S0) := by
  refine Met.ofW (cc := cX3_failed_) (maxL := 2) (ret := (some .int)) (by decide) rfl ?_
  intro p e s m args below meth c s₁ B hml hv
  obtain ⟨rfl, hB⟩ := hv
  have hx := B.exec
  have hb := B.bytes
  have hr := B.returns
  have hts := atoms_spec (ws := wsX3_failed_) B.pre
  have hown : s.vm.findClass RX3 = some m.cls := findClass_of_methodNamed B.named
  have hlocks := B.notSynchronized
  have I := m_I.of hB
  have hin : ∀ w ∈ wsX30, w ∈ wsX3_failed_ := fun _ h => List.mem_cons_of_mem _ (List.mem_append_right _ h)
  have L52 := hts (.fieldLink RX3 52 "TollRulesModel" "failedRule" "I") (by decide +kernel)
  have L134 := hts (.fieldLink RX3 134 "TollRulesModel" "failedKind" "I") (by decide +kernel)
  have hl := lv_entry ([.ref o, .int w]) (n := 2) (Nat.le_of_ble_eq_true rfl)
  rw [lg_entry_eq]
  generalize (lg_sl ([.ref o, .int w]) ++ List.replicate (2 - (lg_sl ([.ref o, .int w])).length) Slot.unset).toArray = ls at hl ⊢
  have hl : lv_has ls 2 [(0, .ref o), (1, .int w)] := hl
  refine lv_iload_n hx hb dX3_failed__0 rfl (lv_at hl 1 rfl) ?_
  refine lv_if_ne (tgt := 11) hx hb dX3_failed__1 (by decide) (fun c1 => ?_) (fun c1 => ?_)
  · refine lv_iload_n hx hb dX3_failed__11 rfl (lv_at hl 1 rfl) ?_
    refine lv_iconst (v := 1) hx hb dX3_failed__12 (by decide) ?_
    refine lv_icmp_ne (tgt := 23) hx hb dX3_failed__13 (by decide) (fun c13 => ?_) (fun c13 => ?_)
    · refine lv_iconst (v := (-1)) hx hb dX3_failed__23 (by decide) ?_
      exact m_iret hx hb hr hlocks I dX3_failed__24 (⟨by simp [f_failed, c1, c13], rfl⟩)
    · refine lv_aload_n hx hb dX3_failed__16 rfl (lv_at hl 0 rfl) ?_
      refine m_get22 hx hb hts hin hown I L52 dX3_failed__17 (x := S0.1 22) rfl ?_
      refine lv_goto (tgt := 24) hx hb dX3_failed__20 (by decide) ?_
      exact m_iret hx hb hr hlocks I dX3_failed__24 (⟨by simp [f_failed, c1, c13], rfl⟩)
  · refine lv_aload_n hx hb dX3_failed__4 rfl (lv_at hl 0 rfl) ?_
    refine m_get21 hx hb hts hin hown I L134 dX3_failed__5 (x := S0.1 21) rfl ?_
    refine lv_goto (tgt := 24) hx hb dX3_failed__8 (by decide) ?_
    exact m_iret hx hb hr hlocks I dX3_failed__24 (⟨by simp [f_failed, c1], rfl⟩)

def f_fail (w a : Int32) (S : tr_S) : Int32 × tr_S := (-10 - w, sF (sF (sF S 21 w) 22 a) 23 (S.1 23 + 1))
set_option maxHeartbeats 4000000 in
set_option maxRecDepth 100000 in
theorem c_X3_failed (l : Launch) (D : va_G) (o : Nat) (ad : Nat → Nat) (cA : ClassId) (S0 : tr_S) (w a n : Int32) : m_Mi l yX3_failed wsX3_failed { frames := 0, cells := 0, slots := 0, locals := 0 } [.int w, .int a, .int n] D o ad cA S0 (fun v S => (v, S) = f_fail w a S0) := by
  refine Met.ofW (cc := cX3_failed) (maxL := 4) (ret := (some .int)) (by decide) rfl ?_
  intro p e s m args below meth c s₁ B hml hv
  obtain ⟨rfl, hB⟩ := hv
  have hx := B.exec
  have hb := B.bytes
  have hr := B.returns
  have hts := atoms_spec (ws := wsX3_failed) B.pre
  have hown : s.vm.findClass RX3 = some m.cls := findClass_of_methodNamed B.named
  have hlocks := B.notSynchronized
  have I := m_I.of hB
  have hin : ∀ w ∈ wsX30, w ∈ wsX3_failed := fun _ h => List.mem_cons_of_mem _ (List.mem_append_right _ h)
  have L52 := hts (.fieldLink RX3 52 "TollRulesModel" "failedRule" "I") (by decide +kernel)
  have L134 := hts (.fieldLink RX3 134 "TollRulesModel" "failedKind" "I") (by decide +kernel)
  have L137 := hts (.fieldLink RX3 137 "TollRulesModel" "failedMany" "I") (by decide +kernel)
  have hl := lv_entry ([.ref o, .int w, .int a, .int n]) (n := 4) (Nat.le_of_ble_eq_true rfl)
  rw [lg_entry_eq]
  generalize (lg_sl ([.ref o, .int w, .int a, .int n]) ++ List.replicate (4 - (lg_sl ([.ref o, .int w, .int a, .int n])).length) Slot.unset).toArray = ls at hl ⊢
  have hl : lv_has ls 4 [(0, .ref o), (1, .int w), (2, .int a), (3, .int n)] := hl
  refine lv_aload_n hx hb dX3_failed_0 rfl (lv_at hl 0 rfl) ?_
  refine lv_iload_n hx hb dX3_failed_1 rfl (lv_at hl 1 rfl) ?_
  refine m_put21 hx hb hts hin hown I L134 dX3_failed_2 (fun H locs I => ?_)
  refine lv_aload_n hx hb dX3_failed_5 rfl (lv_at hl 0 rfl) ?_
  refine lv_iload_n hx hb dX3_failed_6 rfl (lv_at hl 2 rfl) ?_
  refine m_put22 hx hb hts hin hown I L52 dX3_failed_7 (fun H locs I => ?_)
  refine lv_aload_n hx hb dX3_failed_10 rfl (lv_at hl 0 rfl) ?_
  refine lv_dup hx hb dX3_failed_11 rfl ?_
  refine m_get23 hx hb hts hin hown I L137 dX3_failed_12 (x := S0.1 23) rfl ?_
  refine lv_iconst (v := 1) hx hb dX3_failed_15 (by decide) ?_
  refine lv_iadd hx hb dX3_failed_16 ?_
  refine m_put23 hx hb hts hin hown I L137 dX3_failed_17 (fun H locs I => ?_)
  refine lv_bipush (v := (-10)) hx hb dX3_failed_20 (by decide) ?_
  refine lv_iload_n hx hb dX3_failed_22 rfl (lv_at hl 1 rfl) ?_
  refine lv_isub hx hb dX3_failed_23 ?_
  exact m_iret hx hb hr hlocks I dX3_failed_24 (rfl)

def f_ends (v : Int32) (S : tr_S) : Int32 × tr_S := if S.1 16 ≤ 0 then (v, sF S 19 (S.1 18)) else f_fail (S.1 16) (S.1 17) (sF S 19 (S.1 18))
set_option maxHeartbeats 4000000 in
set_option maxRecDepth 100000 in
theorem c_X3_ends (l : Launch) (D : va_G) (o : Nat) (ad : Nat → Nat) (cA : ClassId) (S0 : tr_S) (v : Int32) : m_Mi l yX3_ends wsX3_ends { frames := 1, cells := 0, slots := 0, locals := 23 } [.int v] D o ad cA S0 (fun x S => (x, S) = f_ends v S0) := by
  refine Met.ofW (cc := cX3_ends) (maxL := 2) (ret := (some .int)) (by decide) rfl ?_
  intro p e s m args below meth c s₁ B hml hv
  obtain ⟨rfl, hB⟩ := hv
  have hx := B.exec
  have hb := B.bytes
  have hr := B.returns
  have hts := atoms_spec (ws := wsX3_ends) B.pre
  have hown : s.vm.findClass RX3 = some m.cls := findClass_of_methodNamed B.named
  have hlocks := B.notSynchronized
  have I := m_I.of hB
  have hin : ∀ w ∈ wsX30, w ∈ wsX3_ends := fun _ h => List.mem_cons_of_mem _ (List.mem_append_right _ h)
  have L82 := hts (.fieldLink RX3 82 "TollRulesModel" "steps" "I") (by decide +kernel)
  have L95 := hts (.fieldLink RX3 95 "TollRulesModel" "failure" "I") (by decide +kernel)
  have L98 := hts (.fieldLink RX3 98 "TollRulesModel" "failureAt" "I") (by decide +kernel)
  have L128 := hts (.fieldLink RX3 128 "TollRulesModel" "stepsTold" "I") (by decide +kernel)
  have hl := lv_entry ([.ref o, .int v]) (n := 2) (Nat.le_of_ble_eq_true rfl)
  rw [lg_entry_eq]
  generalize (lg_sl ([.ref o, .int v]) ++ List.replicate (2 - (lg_sl ([.ref o, .int v])).length) Slot.unset).toArray = ls at hl ⊢
  have hl : lv_has ls 2 [(0, .ref o), (1, .int v)] := hl
  refine lv_aload_n hx hb dX3_ends_0 rfl (lv_at hl 0 rfl) ?_
  refine lv_aload_n hx hb dX3_ends_1 rfl (lv_at hl 0 rfl) ?_
  refine m_get18 hx hb hts hin hown I L82 dX3_ends_2 (x := S0.1 18) rfl ?_
  refine m_put19 hx hb hts hin hown I L128 dX3_ends_5 (fun H locs I => ?_)
  refine lv_aload_n hx hb dX3_ends_8 rfl (lv_at hl 0 rfl) ?_
  refine m_get16 hx hb hts hin hown I L95 dX3_ends_9 (x := S0.1 16) rfl ?_
  refine lv_if_le (tgt := 31) hx hb dX3_ends_12 (by decide) (fun c12 => ?_) (fun c12 => ?_)
  · refine lv_iload_n hx hb dX3_ends_31 rfl (lv_at hl 1 rfl) ?_
    exact m_iret hx hb hr hlocks I dX3_ends_32 (by simp [f_ends, c12])
  · refine lv_aload_n hx hb dX3_ends_15 rfl (lv_at hl 0 rfl) ?_
    refine lv_aload_n hx hb dX3_ends_16 rfl (lv_at hl 0 rfl) ?_
    refine m_get16 hx hb hts hin hown I L95 dX3_ends_17 (x := S0.1 16) rfl ?_
    refine lv_aload_n hx hb dX3_ends_20 rfl (lv_at hl 0 rfl) ?_
    refine m_get17 hx hb hts hin hown I L98 dX3_ends_21 (x := S0.1 17) rfl ?_
    refine lv_iconst (v := 0) hx hb dX3_ends_24 (by decide) ?_
    refine m_calli (rest := []) ⟨hx, hb, hml, hown, hts⟩ (c_X3_failed l D o ad cA (sF S0 19 (S0.1 18)) (S0.1 16) (S0.1 17) 0) (cwV 3 hts gX3_ends_X3_failed rfl rfl rfl (by decide +kernel) ⟨Nat.le_of_ble_eq_true rfl, Nat.le_of_ble_eq_true rfl⟩) I rfl hl.1 rfl (Nat.le_of_ble_eq_true rfl) dX3_ends_25 ⟨Nat.le_refl _, Nat.le_refl _⟩ (fun r25 S25 H locs p25 I => ?_)
    refine lv_goto (tgt := 32) hx hb dX3_ends_28 (by decide) ?_
    exact m_iret hx hb hr hlocks I dX3_ends_32 (by rw [p25]; simp [f_ends, c12])

def f_place (p v : Int32) (S : tr_S) : Int64 × tr_S := if 0 ≤ p ∧ p ≤ 7 then ((S.2 0 p.toNatClampNeg).toInt64, sA S 0 p.toNatClampNeg v) else (-9223372036854775808, S)
def f_has (p : Int32) (S : tr_S) : Int64 := if 0 ≤ p ∧ p ≤ 7 then (S.2 0 p.toNatClampNeg).toInt64 else -9223372036854775808
set_option maxHeartbeats 4000000 in
set_option maxRecDepth 100000 in
theorem c_X3_place (l : Launch) (D : va_G) (o : Nat) (ad : Nat → Nat) (cA : ClassId) (S0 : tr_S) (a1 a2 : Int32) : m_Ml l yX3_place wsX3_place { frames := 1, cells := 0, slots := 0, locals := 22 } [.int a1, .int a2] D o ad cA S0 (fun x S => (x, S) = f_place a1 a2 S0) := by
  refine Met.ofW (cc := cX3_place) (maxL := 4) (ret := (some .long)) (by decide) rfl ?_
  intro p e s m args below meth c s₁ B hml hv
  obtain ⟨rfl, hB⟩ := hv
  have hx := B.exec
  have hb := B.bytes
  have hr := B.returns
  have hts := atoms_spec (ws := wsX3_place) B.pre
  have hown : s.vm.findClass RX3 = some m.cls := findClass_of_methodNamed B.named
  have hlocks := B.notSynchronized
  have I := m_I.of hB
  have hin : ∀ w ∈ wsX30, w ∈ wsX3_place := fun _ h => List.mem_cons_of_mem _ (List.mem_append_right _ h)
  have L7 := hts (.fieldLink RX3 7 "TollRulesModel" "places" "[I") (by decide +kernel)
  have hl := lv_entry ([.ref o, .int a1, .int a2]) (n := 4) (Nat.le_of_ble_eq_true rfl)
  rw [lg_entry_eq]
  generalize (lg_sl ([.ref o, .int a1, .int a2]) ++ List.replicate (4 - (lg_sl ([.ref o, .int a1, .int a2])).length) Slot.unset).toArray = ls at hl ⊢
  have hl : lv_has ls 4 [(0, .ref o), (1, .int a1), (2, .int a2)] := hl
  refine lv_iload_n hx hb dX3_place_0 rfl (lv_at hl 1 rfl) ?_
  refine lv_iconst (v := 0) hx hb dX3_place_1 (by decide) ?_
  refine lv_bipush (v := 7) hx hb dX3_place_2 (by decide) ?_
  refine m_in ⟨hx, hb, hml, hown, hts⟩ gX3_place_X3_in ⟨Nat.le_of_ble_eq_true rfl, Nat.le_of_ble_eq_true rfl⟩ ⟨Nat.le_refl _, Nat.le_refl _⟩ hl.1 (Nat.le_of_ble_eq_true rfl) dX3_place_4 (fun h4 => ?_) (fun h4 => ?_)
  · refine lv_if_ne (tgt := 14) hx hb dX3_place_7 (by decide) (fun _ => ?_) (fun h => absurd h (by decide))
    refine lv_aload_n hx hb dX3_place_14 rfl (lv_at hl 0 rfl) ?_
    refine m_get0 hx hb hts hin hown I L7 dX3_place_15 ?_
    refine lv_iload_n hx hb dX3_place_18 rfl (lv_at hl 1 rfl) ?_
    refine m_ald0 hx hb I (ix_of h4 (by decide) (by decide)) dX3_place_19 (x := S0.2 0 a1.toNatClampNeg) rfl ?_
    refine lv_istore_n (lv' := [(3, .int (S0.2 0 a1.toNatClampNeg)), (0, .ref o), (1, .int a1), (2, .int a2)]) hx hb dX3_place_20 rfl hl (by decide) rfl (fun ls hl => ?_)
    refine lv_aload_n hx hb dX3_place_21 rfl (lv_at hl 1 rfl) ?_
    refine m_get0 hx hb hts hin hown I L7 dX3_place_22 ?_
    refine lv_iload_n hx hb dX3_place_25 rfl (lv_at hl 2 rfl) ?_
    refine lv_iload_n hx hb dX3_place_26 rfl (lv_at hl 3 rfl) ?_
    refine m_ast0 hx hb I (ix_of h4 (by decide) (by decide)) dX3_place_27 (fun H locs I => ?_)
    refine lv_iload_n hx hb dX3_place_28 rfl (lv_at hl 0 rfl) ?_
    refine lv_i2l hx hb dX3_place_29 rfl ?_
    exact m_lret hx hb hr hlocks I dX3_place_30 (by simp [f_place, h4])
  · refine lv_if_ne (tgt := 14) hx hb dX3_place_7 (by decide) (fun h => absurd h (by decide)) (fun _ => ?_)
    refine lv_ldc2 hx hb hown (hts (.constantLong RX3 72 (-9223372036854775808)) (by decide +kernel)) dX3_place_10 ?_
    exact m_lret hx hb hr hlocks I dX3_place_13 (by simp [f_place, h4])

set_option maxHeartbeats 4000000 in
set_option maxRecDepth 100000 in
theorem c_X3_has (l : Launch) (D : va_G) (o : Nat) (ad : Nat → Nat) (cA : ClassId) (S0 : tr_S) (a1 : Int32) : m_Ml l yX3_has wsX3_has { frames := 1, cells := 0, slots := 0, locals := 22 } [.int a1] D o ad cA S0 (fun x S => x = f_has a1 S0 ∧ S = S0) := by
  refine Met.ofW (cc := cX3_has) (maxL := 2) (ret := (some .long)) (by decide) rfl ?_
  intro p e s m args below meth c s₁ B hml hv
  obtain ⟨rfl, hB⟩ := hv
  have hx := B.exec
  have hb := B.bytes
  have hr := B.returns
  have hts := atoms_spec (ws := wsX3_has) B.pre
  have hown : s.vm.findClass RX3 = some m.cls := findClass_of_methodNamed B.named
  have hlocks := B.notSynchronized
  have I := m_I.of hB
  have hin : ∀ w ∈ wsX30, w ∈ wsX3_has := fun _ h => List.mem_cons_of_mem _ (List.mem_append_right _ h)
  have L7 := hts (.fieldLink RX3 7 "TollRulesModel" "places" "[I") (by decide +kernel)
  have hl := lv_entry ([.ref o, .int a1]) (n := 2) (Nat.le_of_ble_eq_true rfl)
  rw [lg_entry_eq]
  generalize (lg_sl ([.ref o, .int a1]) ++ List.replicate (2 - (lg_sl ([.ref o, .int a1])).length) Slot.unset).toArray = ls at hl ⊢
  have hl : lv_has ls 2 [(0, .ref o), (1, .int a1)] := hl
  refine lv_iload_n hx hb dX3_has_0 rfl (lv_at hl 1 rfl) ?_
  refine lv_iconst (v := 0) hx hb dX3_has_1 (by decide) ?_
  refine lv_bipush (v := 7) hx hb dX3_has_2 (by decide) ?_
  refine m_in ⟨hx, hb, hml, hown, hts⟩ gX3_has_X3_in ⟨Nat.le_of_ble_eq_true rfl, Nat.le_of_ble_eq_true rfl⟩ ⟨Nat.le_refl _, Nat.le_refl _⟩ hl.1 (Nat.le_of_ble_eq_true rfl) dX3_has_4 (fun h4 => ?_) (fun h4 => ?_)
  · refine lv_if_eq (tgt := 20) hx hb dX3_has_7 (by decide) (fun h => absurd h (by decide)) (fun _ => ?_)
    refine lv_aload_n hx hb dX3_has_10 rfl (lv_at hl 0 rfl) ?_
    refine m_get0 hx hb hts hin hown I L7 dX3_has_11 ?_
    refine lv_iload_n hx hb dX3_has_14 rfl (lv_at hl 1 rfl) ?_
    refine m_ald0 hx hb I (ix_of h4 (by decide) (by decide)) dX3_has_15 (x := S0.2 0 a1.toNatClampNeg) rfl ?_
    refine lv_i2l hx hb dX3_has_16 rfl ?_
    refine lv_goto (tgt := 23) hx hb dX3_has_17 (by decide) ?_
    exact m_lret hx hb hr hlocks I dX3_has_23 (⟨by simp [f_has, h4], rfl⟩)
  · refine lv_if_eq (tgt := 20) hx hb dX3_has_7 (by decide) (fun _ => ?_) (fun h => absurd h (by decide))
    refine lv_ldc2 hx hb hown (hts (.constantLong RX3 72 (-9223372036854775808)) (by decide +kernel)) dX3_has_20 ?_
    exact m_lret hx hb hr hlocks I dX3_has_23 (⟨by simp [f_has, h4], rfl⟩)
end
section
theorem ix_nI {x : Int32} {n : Nat} (h : vp_in x n) (hn : n < 2 ^ 31) : x = nI x.toNatClampNeg ∧ x.toNatClampNeg < n := by
  obtain ⟨j, hj, rfl⟩ := vp_in_of h hn
  rw [nI_clamp (by omega)]
  exact ⟨rfl, hj⟩
theorem ix_item {a b : Int32} (ha : vp_in a 48) (hb : vp_in b 10) : vp_in (10 * a + b) 480 := by
  obtain ⟨j, hj, rfl⟩ := vp_in_of ha (by decide)
  obtain ⟨k, hk, rfl⟩ := vp_in_of hb (by decide)
  rw [show (10 : Int32) = nI 10 from rfl, pk_mul, nI_add]
  exact vp_in_nI (by omega) (by decide)
theorem ix_item_n {a b : Int32} (ha : vp_in a 48) (hb : vp_in b 10) : (10 * a + b).toNatClampNeg = 10 * a.toNatClampNeg + b.toNatClampNeg := by
  obtain ⟨j, hj, rfl⟩ := vp_in_of ha (by decide)
  obtain ⟨k, hk, rfl⟩ := vp_in_of hb (by decide)
  rw [show (10 : Int32) = nI 10 from rfl, pk_mul, nI_add, nI_clamp (by omega), nI_clamp (by omega), nI_clamp (by omega)]
theorem ix_size {i z : Int32} (h : 0 ≤ i ∧ i ≤ z - 1) (hz : ∃ n : Nat, n ≤ 10 ∧ z = nI n) : vp_in i 10 := by
  obtain ⟨n, hn, rfl⟩ := hz
  cases n with
  | zero =>
    have h2 := Int32.le_iff_toInt_le.mp h.1
    have h3 := Int32.le_iff_toInt_le.mp h.2
    have e1 : (0 : Int32).toInt = 0 := rfl
    have e2 : (nI 0 - 1).toInt = -1 := by decide +kernel
    omega
  | succ k =>
    rw [nI_pred] at h
    have h2 := Int32.le_iff_toInt_le.mp h.1
    have h3 := Int32.le_iff_toInt_le.mp h.2
    have e1 : (0 : Int32).toInt = 0 := rfl
    rw [nI_toInt (by omega)] at h3
    rw [vp_in_iff]
    omega
/-- a row's number, and how long it is -/
def s_ok (S : tr_S) (a : Int32) : Prop := vp_in a 48 ∧ ∃ n : Nat, n ≤ 10 ∧ S.2 2 a.toNatClampNeg = nI n
def g_ok (S : tr_S) (r : Int32) : Prop := vp_in r 40 ∧ (S.2 5 r.toNatClampNeg = 5 ∨ S.2 5 r.toNatClampNeg = 12 → vp_in (S.2 6 r.toNatClampNeg) 8) ∧ (S.2 5 r.toNatClampNeg = 7 → vp_in (S.2 6 r.toNatClampNeg) 4 ∧ (0 ≤ S.2 1 (S.2 6 r.toNatClampNeg).toNatClampNeg → s_ok S (S.2 1 (S.2 6 r.toNatClampNeg).toNatClampNeg))) ∧ (S.2 5 r.toNatClampNeg = 6 → 0 ≤ S.2 9 r.toNatClampNeg → s_ok S (S.2 9 r.toNatClampNeg))
def f_itemAt (a i r : Int32) (S : tr_S) : Int32 × tr_S := if 0 ≤ a then (if 0 ≤ i ∧ i ≤ S.2 2 a.toNatClampNeg - 1 then (S.2 3 (10 * a + i).toNatClampNeg, S) else (0, f_fails 2 r S)) else (0, f_fails 3 r S)
def f_given (r x : Int32) (S : tr_S) : Int32 × tr_S :=
  if S.2 5 r.toNatClampNeg = 0 then (x + S.2 6 r.toNatClampNeg, S)
  else if S.2 5 r.toNatClampNeg = 1 then (x * S.2 6 r.toNatClampNeg, S)
  else if S.2 5 r.toNatClampNeg = 2 then (if S.2 6 r.toNatClampNeg = 0 then (0, f_fails 1 r S) else (x / S.2 6 r.toNatClampNeg, S))
  else if S.2 5 r.toNatClampNeg = 3 then (if S.2 6 r.toNatClampNeg = 0 then (0, f_fails 1 r S) else (x - x / S.2 6 r.toNatClampNeg * S.2 6 r.toNatClampNeg, S))
  else if S.2 5 r.toNatClampNeg = 4 then (x + S.2 8 r.toNatClampNeg, S)
  else if S.2 5 r.toNatClampNeg = 5 then (x + S.2 0 (S.2 6 r.toNatClampNeg).toNatClampNeg, S)
  else if S.2 5 r.toNatClampNeg = 6 then f_itemAt (S.2 9 r.toNatClampNeg) x r S
  else if S.2 5 r.toNatClampNeg = 7 then f_itemAt (S.2 1 (S.2 6 r.toNatClampNeg).toNatClampNeg) x r S
  else if S.2 5 r.toNatClampNeg = 12 then (x + (S.2 0 (S.2 6 r.toNatClampNeg).toNatClampNeg + 1), sA S 0 (S.2 6 r.toNatClampNeg).toNatClampNeg (S.2 0 (S.2 6 r.toNatClampNeg).toNatClampNeg + 1))
  else if S.2 5 r.toNatClampNeg = 13 then (x + S.2 6 r.toNatClampNeg * (S.2 10 r.toNatClampNeg + 1), sA S 10 r.toNatClampNeg (S.2 10 r.toNatClampNeg + 1))
  else if S.2 5 r.toNatClampNeg = 14 then (S.2 8 r.toNatClampNeg, S)
  else if S.2 5 r.toNatClampNeg = 15 then (if 0 ≤ x - x / 50 * 50 then (x - x / 50 * 50, S) else (x - x / 50 * 50, f_fails 4 r S))
  else (0, f_fails 3 r S)
set_option maxHeartbeats 4000000 in
set_option maxRecDepth 100000 in
theorem c_X3_itemAt (l : Launch) (D : va_G) (o : Nat) (ad : Nat → Nat) (cA : ClassId) (S0 : tr_S) (a i r : Int32) (hs : 0 ≤ a → s_ok S0 a) : m_Mi l yX3_itemAt wsX3_itemAt { frames := 1, cells := 0, slots := 0, locals := 22 } [.int a, .int i, .int r] D o ad cA S0 (fun x S => (x, S) = f_itemAt a i r S0) := by
  refine Met.ofW (cc := cX3_itemAt) (maxL := 4) (ret := (some .int)) (by decide) rfl ?_
  intro p e s m args below meth c s₁ B hml hv
  obtain ⟨rfl, hB⟩ := hv
  have hx := B.exec
  have hb := B.bytes
  have hr := B.returns
  have hts := atoms_spec (ws := wsX3_itemAt) B.pre
  have hown : s.vm.findClass RX3 = some m.cls := findClass_of_methodNamed B.named
  have hlocks := B.notSynchronized
  have I := m_I.of hB
  have hin : ∀ w ∈ wsX30, w ∈ wsX3_itemAt := fun _ h => List.mem_cons_of_mem _ (List.mem_append_right _ h)
  have L16 := hts (.fieldLink RX3 16 "TollRulesModel" "size" "[I") (by decide +kernel)
  have L19 := hts (.fieldLink RX3 19 "TollRulesModel" "item" "[I") (by decide +kernel)
  have hl := lv_entry ([.ref o, .int a, .int i, .int r]) (n := 4) (Nat.le_of_ble_eq_true rfl)
  rw [lg_entry_eq]
  generalize (lg_sl ([.ref o, .int a, .int i, .int r]) ++ List.replicate (4 - (lg_sl ([.ref o, .int a, .int i, .int r])).length) Slot.unset).toArray = ls at hl ⊢
  have hl : lv_has ls 4 [(0, .ref o), (1, .int a), (2, .int i), (3, .int r)] := hl
  refine lv_iload_n hx hb dX3_itemAt_0 rfl (lv_at hl 1 rfl) ?_
  refine lv_if_ge (tgt := 12) hx hb dX3_itemAt_1 (by decide) (fun c1 => ?_) (fun c1 => ?_)
  · refine lv_iload_n hx hb dX3_itemAt_12 rfl (lv_at hl 2 rfl) ?_
    refine lv_iconst (v := 0) hx hb dX3_itemAt_13 (by decide) ?_
    refine lv_aload_n hx hb dX3_itemAt_14 rfl (lv_at hl 0 rfl) ?_
    refine m_get2 hx hb hts hin hown I L16 dX3_itemAt_15 ?_
    refine lv_iload_n hx hb dX3_itemAt_18 rfl (lv_at hl 1 rfl) ?_
    refine m_ald2 hx hb I (hs c1).1 dX3_itemAt_19 (x := S0.2 2 a.toNatClampNeg) rfl ?_
    refine lv_iconst (v := 1) hx hb dX3_itemAt_20 (by decide) ?_
    refine lv_isub hx hb dX3_itemAt_21 ?_
    refine m_in ⟨hx, hb, hml, hown, hts⟩ gX3_itemAt_X3_in ⟨Nat.le_of_ble_eq_true rfl, Nat.le_of_ble_eq_true rfl⟩ ⟨Nat.le_refl _, Nat.le_refl _⟩ hl.1 (Nat.le_of_ble_eq_true rfl) dX3_itemAt_22 (fun h22 => ?_) (fun h22 => ?_)
    · refine lv_if_ne (tgt := 36) hx hb dX3_itemAt_25 (by decide) (fun _ => ?_) (fun h => absurd h (by decide))
      refine lv_aload_n hx hb dX3_itemAt_36 rfl (lv_at hl 0 rfl) ?_
      refine m_get3 hx hb hts hin hown I L19 dX3_itemAt_37 ?_
      refine lv_bipush (v := 10) hx hb dX3_itemAt_40 (by decide) ?_
      refine lv_iload_n hx hb dX3_itemAt_42 rfl (lv_at hl 1 rfl) ?_
      refine lv_imul hx hb dX3_itemAt_43 ?_
      refine lv_iload_n hx hb dX3_itemAt_44 rfl (lv_at hl 2 rfl) ?_
      refine lv_iadd hx hb dX3_itemAt_45 ?_
      refine m_ald3 hx hb I (ix_item (hs c1).1 (ix_size h22 (hs c1).2)) dX3_itemAt_46 (x := S0.2 3 (((10 * a) + i).toNatClampNeg)) rfl ?_
      exact m_iret hx hb hr hlocks I dX3_itemAt_47 (by simp [f_itemAt, c1, h22])
    · refine lv_if_ne (tgt := 36) hx hb dX3_itemAt_25 (by decide) (fun h => absurd h (by decide)) (fun _ => ?_)
      refine lv_aload_n hx hb dX3_itemAt_28 rfl (lv_at hl 0 rfl) ?_
      refine lv_iconst (v := 2) hx hb dX3_itemAt_29 (by decide) ?_
      refine lv_iload_n hx hb dX3_itemAt_30 rfl (lv_at hl 3 rfl) ?_
      refine m_callv (rest := []) ⟨hx, hb, hml, hown, hts⟩ (c_X3_fails l D o ad cA S0 2 r) (cwV 2 hts gX3_itemAt_X3_fails rfl rfl rfl (by decide +kernel) ⟨Nat.le_of_ble_eq_true rfl, Nat.le_of_ble_eq_true rfl⟩) I rfl hl.1 rfl (Nat.le_of_ble_eq_true rfl) dX3_itemAt_31 ⟨Nat.le_refl _, Nat.le_refl _⟩ (fun S31 H locs p31 I => ?_)
      refine lv_iconst (v := 0) hx hb dX3_itemAt_34 (by decide) ?_
      exact m_iret hx hb hr hlocks I dX3_itemAt_35 (by rw [p31]; simp [f_itemAt, c1, h22])
  · refine lv_aload_n hx hb dX3_itemAt_4 rfl (lv_at hl 0 rfl) ?_
    refine lv_iconst (v := 3) hx hb dX3_itemAt_5 (by decide) ?_
    refine lv_iload_n hx hb dX3_itemAt_6 rfl (lv_at hl 3 rfl) ?_
    refine m_callv (rest := []) ⟨hx, hb, hml, hown, hts⟩ (c_X3_fails l D o ad cA S0 3 r) (cwV 2 hts gX3_itemAt_X3_fails rfl rfl rfl (by decide +kernel) ⟨Nat.le_of_ble_eq_true rfl, Nat.le_of_ble_eq_true rfl⟩) I rfl hl.1 rfl (Nat.le_of_ble_eq_true rfl) dX3_itemAt_7 ⟨Nat.le_refl _, Nat.le_refl _⟩ (fun S7 H locs p7 I => ?_)
    refine lv_iconst (v := 0) hx hb dX3_itemAt_10 (by decide) ?_
    exact m_iret hx hb hr hlocks I dX3_itemAt_11 (by rw [p7]; simp [f_itemAt, c1])

set_option maxHeartbeats 4000000 in
set_option maxRecDepth 100000 in
theorem c_X3_given (l : Launch) (D : va_G) (o : Nat) (ad : Nat → Nat) (cA : ClassId) (S0 : tr_S) (r x : Int32) (G : g_ok S0 r) : m_Mi l yX3_given wsX3_given { frames := 2, cells := 0, slots := 0, locals := 45 } [.int r, .int x] D o ad cA S0 (fun v S => (v, S) = f_given r x S0) := by
  refine Met.ofW (cc := cX3_given) (maxL := 4) (ret := (some .int)) (by decide) rfl ?_
  intro p e s m args below meth c s₁ B hml hv
  obtain ⟨rfl, hB⟩ := hv
  have hx := B.exec
  have hb := B.bytes
  have hr := B.returns
  have hts := atoms_spec (ws := wsX3_given) B.pre
  have hown : s.vm.findClass RX3 = some m.cls := findClass_of_methodNamed B.named
  have hlocks := B.notSynchronized
  have I := m_I.of hB
  have hin : ∀ w ∈ wsX30, w ∈ wsX3_given := fun _ h => List.mem_cons_of_mem _ (List.mem_append_right _ h)
  have L7 := hts (.fieldLink RX3 7 "TollRulesModel" "places" "[I") (by decide +kernel)
  have L13 := hts (.fieldLink RX3 13 "TollRulesModel" "rowOf" "[I") (by decide +kernel)
  have L22 := hts (.fieldLink RX3 22 "TollRulesModel" "kind" "[I") (by decide +kernel)
  have L25 := hts (.fieldLink RX3 25 "TollRulesModel" "first" "[I") (by decide +kernel)
  have L31 := hts (.fieldLink RX3 31 "TollRulesModel" "kept" "[I") (by decide +kernel)
  have L34 := hts (.fieldLink RX3 34 "TollRulesModel" "keptRow" "[I") (by decide +kernel)
  have L37 := hts (.fieldLink RX3 37 "TollRulesModel" "own" "[I") (by decide +kernel)
  have hl := lv_entry ([.ref o, .int r, .int x]) (n := 4) (Nat.le_of_ble_eq_true rfl)
  rw [lg_entry_eq]
  generalize (lg_sl ([.ref o, .int r, .int x]) ++ List.replicate (4 - (lg_sl ([.ref o, .int r, .int x])).length) Slot.unset).toArray = ls at hl ⊢
  have hl : lv_has ls 4 [(0, .ref o), (1, .int r), (2, .int x)] := hl
  refine lv_aload_n hx hb dX3_given_0 rfl (lv_at hl 0 rfl) ?_
  refine m_get6 hx hb hts hin hown I L25 dX3_given_1 ?_
  refine lv_iload_n hx hb dX3_given_4 rfl (lv_at hl 1 rfl) ?_
  refine m_ald6 hx hb I G.1 dX3_given_5 (x := S0.2 6 r.toNatClampNeg) rfl ?_
  refine lv_istore_n (lv' := [(3, .int (S0.2 6 r.toNatClampNeg)), (0, .ref o), (1, .int r), (2, .int x)]) hx hb dX3_given_6 rfl hl (by decide) rfl (fun ls hl => ?_)
  refine lv_aload_n hx hb dX3_given_7 rfl (lv_at hl 1 rfl) ?_
  refine m_get5 hx hb hts hin hown I L22 dX3_given_8 ?_
  refine lv_iload_n hx hb dX3_given_11 rfl (lv_at hl 2 rfl) ?_
  refine m_ald5 hx hb I G.1 dX3_given_12 (x := S0.2 5 r.toNatClampNeg) rfl ?_
  by_cases k13_0 : (S0.2 5 r.toNatClampNeg) = 0
  · refine lv_tableIn (tgt := 92) hx hb dX3_given_13 (by rw [k13_0]; decide) (by rw [k13_0]; decide) (off := 79) (by rw [k13_0]; rfl) (by decide) ?_
    refine lv_iload_n hx hb dX3_given_92 rfl (lv_at hl 3 rfl) ?_
    refine lv_iload_n hx hb dX3_given_93 rfl (lv_at hl 0 rfl) ?_
    refine lv_iadd hx hb dX3_given_94 ?_
    exact m_iret hx hb hr hlocks I dX3_given_95 (by simp (decide := true) [f_given, k13_0])
  by_cases k13_1 : (S0.2 5 r.toNatClampNeg) = 1
  · refine lv_tableIn (tgt := 96) hx hb dX3_given_13 (by rw [k13_1]; decide) (by rw [k13_1]; decide) (off := 83) (by rw [k13_1]; rfl) (by decide) ?_
    refine lv_iload_n hx hb dX3_given_96 rfl (lv_at hl 3 rfl) ?_
    refine lv_iload_n hx hb dX3_given_97 rfl (lv_at hl 0 rfl) ?_
    refine lv_imul hx hb dX3_given_98 ?_
    exact m_iret hx hb hr hlocks I dX3_given_99 (by simp (decide := true) [f_given, k13_1])
  by_cases k13_2 : (S0.2 5 r.toNatClampNeg) = 2
  · refine lv_tableIn (tgt := 100) hx hb dX3_given_13 (by rw [k13_2]; decide) (by rw [k13_2]; decide) (off := 87) (by rw [k13_2]; rfl) (by decide) ?_
    refine lv_iload_n hx hb dX3_given_100 rfl (lv_at hl 0 rfl) ?_
    refine lv_if_ne (tgt := 112) hx hb dX3_given_101 (by decide) (fun c101 => ?_) (fun c101 => ?_)
    · refine lv_aload_n hx hb dX3_given_112 rfl (lv_at hl 1 rfl) ?_
      refine m_get5 hx hb hts hin hown I L22 dX3_given_113 ?_
      refine lv_iload_n hx hb dX3_given_116 rfl (lv_at hl 2 rfl) ?_
      refine m_ald5 hx hb I G.1 dX3_given_117 (x := S0.2 5 r.toNatClampNeg) rfl ?_
      refine lv_iconst (v := 2) hx hb dX3_given_118 (by decide) ?_
      refine lv_icmp_ne (tgt := 128) hx hb dX3_given_119 (by decide) (fun h => absurd k13_2 h) (fun _ => ?_)
      refine lv_iload_n hx hb dX3_given_122 rfl (lv_at hl 3 rfl) ?_
      refine lv_iload_n hx hb dX3_given_123 rfl (lv_at hl 0 rfl) ?_
      refine lv_idiv hx hb dX3_given_124 c101 ?_
      refine lv_goto (tgt := 131) hx hb dX3_given_125 (by decide) ?_
      exact m_iret hx hb hr hlocks I dX3_given_131 (by simp (decide := true) [f_given, k13_2, c101])
    · refine lv_aload_n hx hb dX3_given_104 rfl (lv_at hl 1 rfl) ?_
      refine lv_iconst (v := 1) hx hb dX3_given_105 (by decide) ?_
      refine lv_iload_n hx hb dX3_given_106 rfl (lv_at hl 2 rfl) ?_
      refine m_callv (rest := []) ⟨hx, hb, hml, hown, hts⟩ (c_X3_fails l D o ad cA S0 1 r) (cwV 2 hts gX3_given_X3_fails rfl rfl rfl (by decide +kernel) ⟨Nat.le_of_ble_eq_true rfl, Nat.le_of_ble_eq_true rfl⟩) I rfl hl.1 rfl (Nat.le_of_ble_eq_true rfl) dX3_given_107 ⟨Nat.le_refl _, Nat.le_refl _⟩ (fun S107 H locs p107 I => ?_)
      refine lv_iconst (v := 0) hx hb dX3_given_110 (by decide) ?_
      exact m_iret hx hb hr hlocks I dX3_given_111 (by rw [p107]; simp (decide := true) [f_given, k13_2, c101])
  by_cases k13_3 : (S0.2 5 r.toNatClampNeg) = 3
  · refine lv_tableIn (tgt := 100) hx hb dX3_given_13 (by rw [k13_3]; decide) (by rw [k13_3]; decide) (off := 87) (by rw [k13_3]; rfl) (by decide) ?_
    refine lv_iload_n hx hb dX3_given_100 rfl (lv_at hl 0 rfl) ?_
    refine lv_if_ne (tgt := 112) hx hb dX3_given_101 (by decide) (fun c101 => ?_) (fun c101 => ?_)
    · refine lv_aload_n hx hb dX3_given_112 rfl (lv_at hl 1 rfl) ?_
      refine m_get5 hx hb hts hin hown I L22 dX3_given_113 ?_
      refine lv_iload_n hx hb dX3_given_116 rfl (lv_at hl 2 rfl) ?_
      refine m_ald5 hx hb I G.1 dX3_given_117 (x := S0.2 5 r.toNatClampNeg) rfl ?_
      refine lv_iconst (v := 2) hx hb dX3_given_118 (by decide) ?_
      refine lv_icmp_ne (tgt := 128) hx hb dX3_given_119 (by decide) (fun _ => ?_) (fun h => absurd (k13_3.symm.trans h) (by decide))
      refine lv_iload_n hx hb dX3_given_128 rfl (lv_at hl 3 rfl) ?_
      refine lv_iload_n hx hb dX3_given_129 rfl (lv_at hl 0 rfl) ?_
      refine lv_irem hx hb dX3_given_130 c101 ?_
      exact m_iret hx hb hr hlocks I dX3_given_131 (by simp (decide := true) [f_given, k13_3, c101])
    · refine lv_aload_n hx hb dX3_given_104 rfl (lv_at hl 1 rfl) ?_
      refine lv_iconst (v := 1) hx hb dX3_given_105 (by decide) ?_
      refine lv_iload_n hx hb dX3_given_106 rfl (lv_at hl 2 rfl) ?_
      refine m_callv (rest := []) ⟨hx, hb, hml, hown, hts⟩ (c_X3_fails l D o ad cA S0 1 r) (cwV 2 hts gX3_given_X3_fails rfl rfl rfl (by decide +kernel) ⟨Nat.le_of_ble_eq_true rfl, Nat.le_of_ble_eq_true rfl⟩) I rfl hl.1 rfl (Nat.le_of_ble_eq_true rfl) dX3_given_107 ⟨Nat.le_refl _, Nat.le_refl _⟩ (fun S107 H locs p107 I => ?_)
      refine lv_iconst (v := 0) hx hb dX3_given_110 (by decide) ?_
      exact m_iret hx hb hr hlocks I dX3_given_111 (by rw [p107]; simp (decide := true) [f_given, k13_3, c101])
  by_cases k13_4 : (S0.2 5 r.toNatClampNeg) = 4
  · refine lv_tableIn (tgt := 132) hx hb dX3_given_13 (by rw [k13_4]; decide) (by rw [k13_4]; decide) (off := 119) (by rw [k13_4]; rfl) (by decide) ?_
    refine lv_iload_n hx hb dX3_given_132 rfl (lv_at hl 3 rfl) ?_
    refine lv_aload_n hx hb dX3_given_133 rfl (lv_at hl 1 rfl) ?_
    refine m_get8 hx hb hts hin hown I L31 dX3_given_134 ?_
    refine lv_iload_n hx hb dX3_given_137 rfl (lv_at hl 2 rfl) ?_
    refine m_ald8 hx hb I G.1 dX3_given_138 (x := S0.2 8 r.toNatClampNeg) rfl ?_
    refine lv_iadd hx hb dX3_given_139 ?_
    exact m_iret hx hb hr hlocks I dX3_given_140 (by simp (decide := true) [f_given, k13_4])
  by_cases k13_5 : (S0.2 5 r.toNatClampNeg) = 5
  · refine lv_tableIn (tgt := 141) hx hb dX3_given_13 (by rw [k13_5]; decide) (by rw [k13_5]; decide) (off := 128) (by rw [k13_5]; rfl) (by decide) ?_
    refine lv_iload_n hx hb dX3_given_141 rfl (lv_at hl 3 rfl) ?_
    refine lv_aload_n hx hb dX3_given_142 rfl (lv_at hl 1 rfl) ?_
    refine m_get0 hx hb hts hin hown I L7 dX3_given_143 ?_
    refine lv_iload_n hx hb dX3_given_146 rfl (lv_at hl 0 rfl) ?_
    refine m_ald0 hx hb I (G.2.1 (Or.inl k13_5)) dX3_given_147 (x := S0.2 0 ((S0.2 6 r.toNatClampNeg).toNatClampNeg)) rfl ?_
    refine lv_iadd hx hb dX3_given_148 ?_
    exact m_iret hx hb hr hlocks I dX3_given_149 (by simp (decide := true) [f_given, k13_5])
  by_cases k13_6 : (S0.2 5 r.toNatClampNeg) = 6
  · refine lv_tableIn (tgt := 150) hx hb dX3_given_13 (by rw [k13_6]; decide) (by rw [k13_6]; decide) (off := 137) (by rw [k13_6]; rfl) (by decide) ?_
    refine lv_aload_n hx hb dX3_given_150 rfl (lv_at hl 1 rfl) ?_
    refine lv_aload_n hx hb dX3_given_151 rfl (lv_at hl 1 rfl) ?_
    refine m_get9 hx hb hts hin hown I L34 dX3_given_152 ?_
    refine lv_iload_n hx hb dX3_given_155 rfl (lv_at hl 2 rfl) ?_
    refine m_ald9 hx hb I G.1 dX3_given_156 (x := S0.2 9 r.toNatClampNeg) rfl ?_
    refine lv_iload_n hx hb dX3_given_157 rfl (lv_at hl 3 rfl) ?_
    refine lv_iload_n hx hb dX3_given_158 rfl (lv_at hl 2 rfl) ?_
    refine m_calli (rest := []) ⟨hx, hb, hml, hown, hts⟩ (c_X3_itemAt l D o ad cA S0 (S0.2 9 r.toNatClampNeg) x r (G.2.2.2 k13_6)) (cwV 3 hts gX3_given_X3_itemAt rfl rfl rfl (by decide +kernel) ⟨Nat.le_of_ble_eq_true rfl, Nat.le_of_ble_eq_true rfl⟩) I rfl hl.1 rfl (Nat.le_of_ble_eq_true rfl) dX3_given_159 ⟨Nat.le_refl _, Nat.le_refl _⟩ (fun r159 S159 H locs p159 I => ?_)
    exact m_iret hx hb hr hlocks I dX3_given_162 (by rw [p159]; simp (decide := true) [f_given, k13_6])
  by_cases k13_7 : (S0.2 5 r.toNatClampNeg) = 7
  · refine lv_tableIn (tgt := 163) hx hb dX3_given_13 (by rw [k13_7]; decide) (by rw [k13_7]; decide) (off := 150) (by rw [k13_7]; rfl) (by decide) ?_
    refine lv_aload_n hx hb dX3_given_163 rfl (lv_at hl 1 rfl) ?_
    refine lv_aload_n hx hb dX3_given_164 rfl (lv_at hl 1 rfl) ?_
    refine m_get1 hx hb hts hin hown I L13 dX3_given_165 ?_
    refine lv_iload_n hx hb dX3_given_168 rfl (lv_at hl 0 rfl) ?_
    refine m_ald1 hx hb I (G.2.2.1 k13_7).1 dX3_given_169 (x := S0.2 1 ((S0.2 6 r.toNatClampNeg).toNatClampNeg)) rfl ?_
    refine lv_iload_n hx hb dX3_given_170 rfl (lv_at hl 3 rfl) ?_
    refine lv_iload_n hx hb dX3_given_171 rfl (lv_at hl 2 rfl) ?_
    refine m_calli (rest := []) ⟨hx, hb, hml, hown, hts⟩ (c_X3_itemAt l D o ad cA S0 (S0.2 1 ((S0.2 6 r.toNatClampNeg).toNatClampNeg)) x r (G.2.2.1 k13_7).2) (cwV 3 hts gX3_given_X3_itemAt rfl rfl rfl (by decide +kernel) ⟨Nat.le_of_ble_eq_true rfl, Nat.le_of_ble_eq_true rfl⟩) I rfl hl.1 rfl (Nat.le_of_ble_eq_true rfl) dX3_given_172 ⟨Nat.le_refl _, Nat.le_refl _⟩ (fun r172 S172 H locs p172 I => ?_)
    exact m_iret hx hb hr hlocks I dX3_given_175 (by rw [p172]; simp (decide := true) [f_given, k13_7])
  by_cases k13_8 : (S0.2 5 r.toNatClampNeg) = 8
  · refine lv_tableIn (tgt := 241) hx hb dX3_given_13 (by rw [k13_8]; decide) (by rw [k13_8]; decide) (off := 228) (by rw [k13_8]; rfl) (by decide) ?_
    refine lv_aload_n hx hb dX3_given_241 rfl (lv_at hl 1 rfl) ?_
    refine lv_iconst (v := 3) hx hb dX3_given_242 (by decide) ?_
    refine lv_iload_n hx hb dX3_given_243 rfl (lv_at hl 2 rfl) ?_
    refine m_callv (rest := []) ⟨hx, hb, hml, hown, hts⟩ (c_X3_fails l D o ad cA S0 3 r) (cwV 2 hts gX3_given_X3_fails rfl rfl rfl (by decide +kernel) ⟨Nat.le_of_ble_eq_true rfl, Nat.le_of_ble_eq_true rfl⟩) I rfl hl.1 rfl (Nat.le_of_ble_eq_true rfl) dX3_given_244 ⟨Nat.le_refl _, Nat.le_refl _⟩ (fun S244 H locs p244 I => ?_)
    refine lv_iconst (v := 0) hx hb dX3_given_247 (by decide) ?_
    exact m_iret hx hb hr hlocks I dX3_given_248 (by rw [p244]; simp (decide := true) [f_given, k13_8])
  by_cases k13_9 : (S0.2 5 r.toNatClampNeg) = 9
  · refine lv_tableIn (tgt := 241) hx hb dX3_given_13 (by rw [k13_9]; decide) (by rw [k13_9]; decide) (off := 228) (by rw [k13_9]; rfl) (by decide) ?_
    refine lv_aload_n hx hb dX3_given_241 rfl (lv_at hl 1 rfl) ?_
    refine lv_iconst (v := 3) hx hb dX3_given_242 (by decide) ?_
    refine lv_iload_n hx hb dX3_given_243 rfl (lv_at hl 2 rfl) ?_
    refine m_callv (rest := []) ⟨hx, hb, hml, hown, hts⟩ (c_X3_fails l D o ad cA S0 3 r) (cwV 2 hts gX3_given_X3_fails rfl rfl rfl (by decide +kernel) ⟨Nat.le_of_ble_eq_true rfl, Nat.le_of_ble_eq_true rfl⟩) I rfl hl.1 rfl (Nat.le_of_ble_eq_true rfl) dX3_given_244 ⟨Nat.le_refl _, Nat.le_refl _⟩ (fun S244 H locs p244 I => ?_)
    refine lv_iconst (v := 0) hx hb dX3_given_247 (by decide) ?_
    exact m_iret hx hb hr hlocks I dX3_given_248 (by rw [p244]; simp (decide := true) [f_given, k13_9])
  by_cases k13_10 : (S0.2 5 r.toNatClampNeg) = 10
  · refine lv_tableIn (tgt := 241) hx hb dX3_given_13 (by rw [k13_10]; decide) (by rw [k13_10]; decide) (off := 228) (by rw [k13_10]; rfl) (by decide) ?_
    refine lv_aload_n hx hb dX3_given_241 rfl (lv_at hl 1 rfl) ?_
    refine lv_iconst (v := 3) hx hb dX3_given_242 (by decide) ?_
    refine lv_iload_n hx hb dX3_given_243 rfl (lv_at hl 2 rfl) ?_
    refine m_callv (rest := []) ⟨hx, hb, hml, hown, hts⟩ (c_X3_fails l D o ad cA S0 3 r) (cwV 2 hts gX3_given_X3_fails rfl rfl rfl (by decide +kernel) ⟨Nat.le_of_ble_eq_true rfl, Nat.le_of_ble_eq_true rfl⟩) I rfl hl.1 rfl (Nat.le_of_ble_eq_true rfl) dX3_given_244 ⟨Nat.le_refl _, Nat.le_refl _⟩ (fun S244 H locs p244 I => ?_)
    refine lv_iconst (v := 0) hx hb dX3_given_247 (by decide) ?_
    exact m_iret hx hb hr hlocks I dX3_given_248 (by rw [p244]; simp (decide := true) [f_given, k13_10])
  by_cases k13_11 : (S0.2 5 r.toNatClampNeg) = 11
  · refine lv_tableIn (tgt := 241) hx hb dX3_given_13 (by rw [k13_11]; decide) (by rw [k13_11]; decide) (off := 228) (by rw [k13_11]; rfl) (by decide) ?_
    refine lv_aload_n hx hb dX3_given_241 rfl (lv_at hl 1 rfl) ?_
    refine lv_iconst (v := 3) hx hb dX3_given_242 (by decide) ?_
    refine lv_iload_n hx hb dX3_given_243 rfl (lv_at hl 2 rfl) ?_
    refine m_callv (rest := []) ⟨hx, hb, hml, hown, hts⟩ (c_X3_fails l D o ad cA S0 3 r) (cwV 2 hts gX3_given_X3_fails rfl rfl rfl (by decide +kernel) ⟨Nat.le_of_ble_eq_true rfl, Nat.le_of_ble_eq_true rfl⟩) I rfl hl.1 rfl (Nat.le_of_ble_eq_true rfl) dX3_given_244 ⟨Nat.le_refl _, Nat.le_refl _⟩ (fun S244 H locs p244 I => ?_)
    refine lv_iconst (v := 0) hx hb dX3_given_247 (by decide) ?_
    exact m_iret hx hb hr hlocks I dX3_given_248 (by rw [p244]; simp (decide := true) [f_given, k13_11])
  by_cases k13_12 : (S0.2 5 r.toNatClampNeg) = 12
  · refine lv_tableIn (tgt := 176) hx hb dX3_given_13 (by rw [k13_12]; decide) (by rw [k13_12]; decide) (off := 163) (by rw [k13_12]; rfl) (by decide) ?_
    refine lv_aload_n hx hb dX3_given_176 rfl (lv_at hl 1 rfl) ?_
    refine m_get0 hx hb hts hin hown I L7 dX3_given_177 ?_
    refine lv_iload_n hx hb dX3_given_180 rfl (lv_at hl 0 rfl) ?_
    refine lv_dup2_11 hx hb dX3_given_181 rfl rfl ?_
    refine m_ald0 hx hb I (G.2.1 (Or.inr k13_12)) dX3_given_182 (x := S0.2 0 ((S0.2 6 r.toNatClampNeg).toNatClampNeg)) rfl ?_
    refine lv_iconst (v := 1) hx hb dX3_given_183 (by decide) ?_
    refine lv_iadd hx hb dX3_given_184 ?_
    refine m_ast0 hx hb I (G.2.1 (Or.inr k13_12)) dX3_given_185 (fun H locs I => ?_)
    refine lv_iload_n hx hb dX3_given_186 rfl (lv_at hl 3 rfl) ?_
    refine lv_aload_n hx hb dX3_given_187 rfl (lv_at hl 1 rfl) ?_
    refine m_get0 hx hb hts hin hown I L7 dX3_given_188 ?_
    refine lv_iload_n hx hb dX3_given_191 rfl (lv_at hl 0 rfl) ?_
    refine m_ald0 hx hb I (G.2.1 (Or.inr k13_12)) dX3_given_192 (x := (S0.2 0 ((S0.2 6 r.toNatClampNeg).toNatClampNeg)) + 1) (by simp [sA, sF, va_up, upd]) ?_
    refine lv_iadd hx hb dX3_given_193 ?_
    exact m_iret hx hb hr hlocks I dX3_given_194 (by simp (decide := true) [f_given, k13_12])
  by_cases k13_13 : (S0.2 5 r.toNatClampNeg) = 13
  · refine lv_tableIn (tgt := 195) hx hb dX3_given_13 (by rw [k13_13]; decide) (by rw [k13_13]; decide) (off := 182) (by rw [k13_13]; rfl) (by decide) ?_
    refine lv_aload_n hx hb dX3_given_195 rfl (lv_at hl 1 rfl) ?_
    refine m_get10 hx hb hts hin hown I L37 dX3_given_196 ?_
    refine lv_iload_n hx hb dX3_given_199 rfl (lv_at hl 2 rfl) ?_
    refine lv_dup2_11 hx hb dX3_given_200 rfl rfl ?_
    refine m_ald10 hx hb I G.1 dX3_given_201 (x := S0.2 10 r.toNatClampNeg) rfl ?_
    refine lv_iconst (v := 1) hx hb dX3_given_202 (by decide) ?_
    refine lv_iadd hx hb dX3_given_203 ?_
    refine m_ast10 hx hb I G.1 dX3_given_204 (fun H locs I => ?_)
    refine lv_iload_n hx hb dX3_given_205 rfl (lv_at hl 3 rfl) ?_
    refine lv_iload_n hx hb dX3_given_206 rfl (lv_at hl 0 rfl) ?_
    refine lv_aload_n hx hb dX3_given_207 rfl (lv_at hl 1 rfl) ?_
    refine m_get10 hx hb hts hin hown I L37 dX3_given_208 ?_
    refine lv_iload_n hx hb dX3_given_211 rfl (lv_at hl 2 rfl) ?_
    refine m_ald10 hx hb I G.1 dX3_given_212 (x := (S0.2 10 r.toNatClampNeg) + 1) (by simp [sA, sF, va_up, upd]) ?_
    refine lv_imul hx hb dX3_given_213 ?_
    refine lv_iadd hx hb dX3_given_214 ?_
    exact m_iret hx hb hr hlocks I dX3_given_215 (by simp (decide := true) [f_given, k13_13])
  by_cases k13_14 : (S0.2 5 r.toNatClampNeg) = 14
  · refine lv_tableIn (tgt := 216) hx hb dX3_given_13 (by rw [k13_14]; decide) (by rw [k13_14]; decide) (off := 203) (by rw [k13_14]; rfl) (by decide) ?_
    refine lv_aload_n hx hb dX3_given_216 rfl (lv_at hl 1 rfl) ?_
    refine m_get8 hx hb hts hin hown I L31 dX3_given_217 ?_
    refine lv_iload_n hx hb dX3_given_220 rfl (lv_at hl 2 rfl) ?_
    refine m_ald8 hx hb I G.1 dX3_given_221 (x := S0.2 8 r.toNatClampNeg) rfl ?_
    exact m_iret hx hb hr hlocks I dX3_given_222 (by simp (decide := true) [f_given, k13_14])
  by_cases k13_15 : (S0.2 5 r.toNatClampNeg) = 15
  · refine lv_tableIn (tgt := 223) hx hb dX3_given_13 (by rw [k13_15]; decide) (by rw [k13_15]; decide) (off := 210) (by rw [k13_15]; rfl) (by decide) ?_
    refine lv_iload_n hx hb dX3_given_223 rfl (lv_at hl 3 rfl) ?_
    refine lv_bipush (v := 50) hx hb dX3_given_224 (by decide) ?_
    refine lv_irem hx hb dX3_given_226 (by decide) ?_
    refine lv_if_ge (tgt := 236) hx hb dX3_given_227 (by decide) (fun c227 => ?_) (fun c227 => ?_)
    · refine lv_iload_n hx hb dX3_given_236 rfl (lv_at hl 3 rfl) ?_
      refine lv_bipush (v := 50) hx hb dX3_given_237 (by decide) ?_
      refine lv_irem hx hb dX3_given_239 (by decide) ?_
      exact m_iret hx hb hr hlocks I dX3_given_240 (by simp (decide := true) [f_given, k13_15, c227])
    · refine lv_aload_n hx hb dX3_given_230 rfl (lv_at hl 1 rfl) ?_
      refine lv_iconst (v := 4) hx hb dX3_given_231 (by decide) ?_
      refine lv_iload_n hx hb dX3_given_232 rfl (lv_at hl 2 rfl) ?_
      refine m_callv (rest := []) ⟨hx, hb, hml, hown, hts⟩ (c_X3_fails l D o ad cA S0 4 r) (cwV 2 hts gX3_given_X3_fails rfl rfl rfl (by decide +kernel) ⟨Nat.le_of_ble_eq_true rfl, Nat.le_of_ble_eq_true rfl⟩) I rfl hl.1 rfl (Nat.le_of_ble_eq_true rfl) dX3_given_233 ⟨Nat.le_refl _, Nat.le_refl _⟩ (fun S233 H locs p233 I => ?_)
      refine lv_iload_n hx hb dX3_given_236 rfl (lv_at hl 3 rfl) ?_
      refine lv_bipush (v := 50) hx hb dX3_given_237 (by decide) ?_
      refine lv_irem hx hb dX3_given_239 (by decide) ?_
      exact m_iret hx hb hr hlocks I dX3_given_240 (by rw [p233]; simp (decide := true) [f_given, k13_15, c227])
  refine lv_tableOut (tgt := 241) hx hb dX3_given_13 (by have t0 := lv_neT k13_0 (a := 0) rfl; have t1 := lv_neT k13_1 (a := 1) rfl; have t2 := lv_neT k13_2 (a := 2) rfl; have t3 := lv_neT k13_3 (a := 3) rfl; have t4 := lv_neT k13_4 (a := 4) rfl; have t5 := lv_neT k13_5 (a := 5) rfl; have t6 := lv_neT k13_6 (a := 6) rfl; have t7 := lv_neT k13_7 (a := 7) rfl; have t8 := lv_neT k13_8 (a := 8) rfl; have t9 := lv_neT k13_9 (a := 9) rfl; have t10 := lv_neT k13_10 (a := 10) rfl; have t11 := lv_neT k13_11 (a := 11) rfl; have t12 := lv_neT k13_12 (a := 12) rfl; have t13 := lv_neT k13_13 (a := 13) rfl; have t14 := lv_neT k13_14 (a := 14) rfl; have t15 := lv_neT k13_15 (a := 15) rfl; omega) (by decide) ?_
  refine lv_aload_n hx hb dX3_given_241 rfl (lv_at hl 1 rfl) ?_
  refine lv_iconst (v := 3) hx hb dX3_given_242 (by decide) ?_
  refine lv_iload_n hx hb dX3_given_243 rfl (lv_at hl 2 rfl) ?_
  refine m_callv (rest := []) ⟨hx, hb, hml, hown, hts⟩ (c_X3_fails l D o ad cA S0 3 r) (cwV 2 hts gX3_given_X3_fails rfl rfl rfl (by decide +kernel) ⟨Nat.le_of_ble_eq_true rfl, Nat.le_of_ble_eq_true rfl⟩) I rfl hl.1 rfl (Nat.le_of_ble_eq_true rfl) dX3_given_244 ⟨Nat.le_refl _, Nat.le_refl _⟩ (fun S244 H locs p244 I => ?_)
  refine lv_iconst (v := 0) hx hb dX3_given_247 (by decide) ?_
  exact m_iret hx hb hr hlocks I dX3_given_248 (by rw [p244]; simp (decide := true) [f_given, k13_0, k13_1, k13_2, k13_3, k13_4, k13_5, k13_6, k13_7, k13_8, k13_9, k13_10, k13_11, k13_12, k13_13, k13_14, k13_15])

def f_goesOn (v : Int32) (S : tr_S) : Int32 × tr_S :=
  if S.2 14 (S.1 11 - 1).toNatClampNeg = 0 then (0, (f_begins (S.2 6 (S.2 12 (S.1 11 - 1).toNatClampNeg).toNatClampNeg) (S.2 13 (S.1 11 - 1).toNatClampNeg) (sA S 14 (S.1 11 - 1).toNatClampNeg (S.2 14 (S.1 11 - 1).toNatClampNeg + 1))).2)
  else if S.2 14 (S.1 11 - 1).toNatClampNeg = 1 ∧ (S.2 5 (S.2 12 (S.1 11 - 1).toNatClampNeg).toNatClampNeg = 8 ∨ S.2 5 (S.2 12 (S.1 11 - 1).toNatClampNeg).toNatClampNeg = 9 ∨ S.2 5 (S.2 12 (S.1 11 - 1).toNatClampNeg).toNatClampNeg = 16 ∨ (S.2 5 (S.2 12 (S.1 11 - 1).toNatClampNeg).toNatClampNeg = 10 ∧ ¬ v = 0)) then
    (0, (f_begins (if S.2 5 (S.2 12 (S.1 11 - 1).toNatClampNeg).toNatClampNeg = 9 then S.2 6 (S.2 12 (S.1 11 - 1).toNatClampNeg).toNatClampNeg else S.2 7 (S.2 12 (S.1 11 - 1).toNatClampNeg).toNatClampNeg) (if S.2 5 (S.2 12 (S.1 11 - 1).toNatClampNeg).toNatClampNeg = 8 ∨ S.2 5 (S.2 12 (S.1 11 - 1).toNatClampNeg).toNatClampNeg = 9 then v else S.2 13 (S.1 11 - 1).toNatClampNeg) (sA (sA S 14 (S.1 11 - 1).toNatClampNeg (S.2 14 (S.1 11 - 1).toNatClampNeg + 1)) 15 (S.1 11 - 1).toNatClampNeg v)).2)
  else (1, sF (sA S 14 (S.1 11 - 1).toNatClampNeg (S.2 14 (S.1 11 - 1).toNatClampNeg + 1)) 26 (if S.2 5 (S.2 12 (S.1 11 - 1).toNatClampNeg).toNatClampNeg = 10 ∧ S.2 14 (S.1 11 - 1).toNatClampNeg = 1 then S.2 13 (S.1 11 - 1).toNatClampNeg else if S.2 5 (S.2 12 (S.1 11 - 1).toNatClampNeg).toNatClampNeg = 16 then (if v ≤ S.2 15 (S.1 11 - 1).toNatClampNeg then v else S.2 15 (S.1 11 - 1).toNatClampNeg) else v))
set_option maxHeartbeats 4000000 in
set_option maxRecDepth 100000 in
theorem c_X3_goesOn (l : Launch) (D : va_G) (o : Nat) (ad : Nat → Nat) (cA : ClassId) (S0 : tr_S) (v : Int32) (ht : vp_in (S0.1 11 - 1) 65) (hw : vp_in (S0.1 11) 65) (hq : vp_in (S0.2 12 (S0.1 11 - 1).toNatClampNeg) 40) : m_Mi l yX3_goesOn wsX3_goesOn { frames := 2, cells := 0, slots := 0, locals := 44 } [.int v] D o ad cA S0 (fun x S => (x, S) = f_goesOn v S0) := by
  refine Met.ofW (cc := cX3_goesOn) (maxL := 9) (ret := (some .boolean)) (by decide) rfl ?_
  intro p e s m args below meth c s₁ B hml hv
  obtain ⟨rfl, hB⟩ := hv
  have hx := B.exec
  have hb := B.bytes
  have hr := B.returns
  have hts := atoms_spec (ws := wsX3_goesOn) B.pre
  have hown : s.vm.findClass RX3 = some m.cls := findClass_of_methodNamed B.named
  have hlocks := B.notSynchronized
  have I := m_I.of hB
  have hin : ∀ w ∈ wsX30, w ∈ wsX3_goesOn := fun _ h => List.mem_cons_of_mem _ (List.mem_append_right _ h)
  have L22 := hts (.fieldLink RX3 22 "TollRulesModel" "kind" "[I") (by decide +kernel)
  have L25 := hts (.fieldLink RX3 25 "TollRulesModel" "first" "[I") (by decide +kernel)
  have L28 := hts (.fieldLink RX3 28 "TollRulesModel" "second" "[I") (by decide +kernel)
  have L40 := hts (.fieldLink RX3 40 "TollRulesModel" "waitRule" "[I") (by decide +kernel)
  have L43 := hts (.fieldLink RX3 43 "TollRulesModel" "waitValue" "[I") (by decide +kernel)
  have L46 := hts (.fieldLink RX3 46 "TollRulesModel" "waitPhase" "[I") (by decide +kernel)
  have L49 := hts (.fieldLink RX3 49 "TollRulesModel" "waitHad" "[I") (by decide +kernel)
  have L92 := hts (.fieldLink RX3 92 "TollRulesModel" "waiting" "I") (by decide +kernel)
  have L109 := hts (.fieldLink RX3 109 "TollRulesModel" "handed" "I") (by decide +kernel)
  have hl := lv_entry ([.ref o, .int v]) (n := 9) (Nat.le_of_ble_eq_true rfl)
  rw [lg_entry_eq]
  generalize (lg_sl ([.ref o, .int v]) ++ List.replicate (9 - (lg_sl ([.ref o, .int v])).length) Slot.unset).toArray = ls at hl ⊢
  have hl : lv_has ls 9 [(0, .ref o), (1, .int v)] := hl
  refine lv_aload_n hx hb dX3_goesOn_0 rfl (lv_at hl 0 rfl) ?_
  refine m_get11 hx hb hts hin hown I L92 dX3_goesOn_1 (x := S0.1 11) rfl ?_
  refine lv_iconst (v := 1) hx hb dX3_goesOn_4 (by decide) ?_
  refine lv_isub hx hb dX3_goesOn_5 ?_
  refine lv_istore_n (lv' := [(2, .int ((S0.1 11) - 1)), (0, .ref o), (1, .int v)]) hx hb dX3_goesOn_6 rfl hl (by decide) rfl (fun ls hl => ?_)
  refine lv_aload_n hx hb dX3_goesOn_7 rfl (lv_at hl 1 rfl) ?_
  refine m_get12 hx hb hts hin hown I L40 dX3_goesOn_8 ?_
  refine lv_iload_n hx hb dX3_goesOn_11 rfl (lv_at hl 0 rfl) ?_
  refine m_ald12 hx hb I ht dX3_goesOn_12 (x := S0.2 12 (((S0.1 11) - 1).toNatClampNeg)) rfl ?_
  refine lv_istore_n (lv' := [(3, .int (S0.2 12 (((S0.1 11) - 1).toNatClampNeg))), (2, .int ((S0.1 11) - 1)), (0, .ref o), (1, .int v)]) hx hb dX3_goesOn_13 rfl hl (by decide) rfl (fun ls hl => ?_)
  refine lv_aload_n hx hb dX3_goesOn_14 rfl (lv_at hl 2 rfl) ?_
  refine m_get13 hx hb hts hin hown I L43 dX3_goesOn_15 ?_
  refine lv_iload_n hx hb dX3_goesOn_18 rfl (lv_at hl 1 rfl) ?_
  refine m_ald13 hx hb I ht dX3_goesOn_19 (x := S0.2 13 (((S0.1 11) - 1).toNatClampNeg)) rfl ?_
  refine lv_istore (lv' := [(4, .int (S0.2 13 (((S0.1 11) - 1).toNatClampNeg))), (3, .int (S0.2 12 (((S0.1 11) - 1).toNatClampNeg))), (2, .int ((S0.1 11) - 1)), (0, .ref o), (1, .int v)]) hx hb dX3_goesOn_20 hl (by decide) rfl (fun ls hl => ?_)
  refine lv_aload_n hx hb dX3_goesOn_22 rfl (lv_at hl 3 rfl) ?_
  refine m_get14 hx hb hts hin hown I L46 dX3_goesOn_23 ?_
  refine lv_iload_n hx hb dX3_goesOn_26 rfl (lv_at hl 2 rfl) ?_
  refine m_ald14 hx hb I ht dX3_goesOn_27 (x := S0.2 14 (((S0.1 11) - 1).toNatClampNeg)) rfl ?_
  refine lv_istore (lv' := [(5, .int (S0.2 14 (((S0.1 11) - 1).toNatClampNeg))), (4, .int (S0.2 13 (((S0.1 11) - 1).toNatClampNeg))), (3, .int (S0.2 12 (((S0.1 11) - 1).toNatClampNeg))), (2, .int ((S0.1 11) - 1)), (0, .ref o), (1, .int v)]) hx hb dX3_goesOn_28 hl (by decide) rfl (fun ls hl => ?_)
  refine lv_aload_n hx hb dX3_goesOn_30 rfl (lv_at hl 4 rfl) ?_
  refine m_get14 hx hb hts hin hown I L46 dX3_goesOn_31 ?_
  refine lv_iload_n hx hb dX3_goesOn_34 rfl (lv_at hl 3 rfl) ?_
  refine lv_dup2_11 hx hb dX3_goesOn_35 rfl rfl ?_
  refine m_ald14 hx hb I ht dX3_goesOn_36 (x := S0.2 14 (((S0.1 11) - 1).toNatClampNeg)) rfl ?_
  refine lv_iconst (v := 1) hx hb dX3_goesOn_37 (by decide) ?_
  refine lv_iadd hx hb dX3_goesOn_38 ?_
  refine m_ast14 hx hb I ht dX3_goesOn_39 (fun H locs I => ?_)
  refine lv_iload hx hb dX3_goesOn_40 (lv_at hl 0 rfl) ?_
  refine lv_if_ne (tgt := 61) hx hb dX3_goesOn_42 (by decide) (fun c42 => ?_) (fun c42 => ?_)
  · refine lv_aload_n hx hb dX3_goesOn_61 rfl (lv_at hl 4 rfl) ?_
    refine m_get5 hx hb hts hin hown I L22 dX3_goesOn_62 ?_
    refine lv_iload_n hx hb dX3_goesOn_65 rfl (lv_at hl 2 rfl) ?_
    refine m_ald5 hx hb I hq dX3_goesOn_66 (x := S0.2 5 ((S0.2 12 (((S0.1 11) - 1).toNatClampNeg)).toNatClampNeg)) rfl ?_
    refine lv_istore (lv' := [(6, .int (S0.2 5 ((S0.2 12 (((S0.1 11) - 1).toNatClampNeg)).toNatClampNeg))), (5, .int (S0.2 14 (((S0.1 11) - 1).toNatClampNeg))), (4, .int (S0.2 13 (((S0.1 11) - 1).toNatClampNeg))), (3, .int (S0.2 12 (((S0.1 11) - 1).toNatClampNeg))), (2, .int ((S0.1 11) - 1)), (0, .ref o), (1, .int v)]) hx hb dX3_goesOn_67 hl (by decide) rfl (fun ls hl => ?_)
    refine lv_iload hx hb dX3_goesOn_69 (lv_at hl 1 rfl) ?_
    refine lv_iconst (v := 1) hx hb dX3_goesOn_71 (by decide) ?_
    refine lv_icmp_ne (tgt := 111) hx hb dX3_goesOn_72 (by decide) (fun c72 => ?_) (fun c72 => ?_)
    · refine lv_iconst (v := 0) hx hb dX3_goesOn_111 (by decide) ?_
      refine lv_istore (lv' := [(7, .int 0), (6, .int (S0.2 5 ((S0.2 12 (((S0.1 11) - 1).toNatClampNeg)).toNatClampNeg))), (5, .int (S0.2 14 (((S0.1 11) - 1).toNatClampNeg))), (4, .int (S0.2 13 (((S0.1 11) - 1).toNatClampNeg))), (3, .int (S0.2 12 (((S0.1 11) - 1).toNatClampNeg))), (2, .int ((S0.1 11) - 1)), (0, .ref o), (1, .int v)]) hx hb dX3_goesOn_112 hl (by decide) rfl (fun ls hl => ?_)
      refine lv_iload hx hb dX3_goesOn_114 (lv_at hl 0 rfl) ?_
      refine lv_if_eq (tgt := 176) hx hb dX3_goesOn_116 (by decide) (fun _ => ?_) (fun h => absurd h (by decide))
      refine lv_aload_n hx hb dX3_goesOn_176 rfl (lv_at hl 6 rfl) ?_
      refine lv_iload hx hb dX3_goesOn_177 (lv_at hl 1 rfl) ?_
      refine lv_bipush (v := 10) hx hb dX3_goesOn_179 (by decide) ?_
      refine lv_icmp_ne (tgt := 195) hx hb dX3_goesOn_181 (by decide) (fun c181 => ?_) (fun c181 => ?_)
      · refine lv_iload hx hb dX3_goesOn_195 (lv_at hl 1 rfl) ?_
        refine lv_bipush (v := 16) hx hb dX3_goesOn_197 (by decide) ?_
        refine lv_icmp_ne (tgt := 225) hx hb dX3_goesOn_199 (by decide) (fun c199 => ?_) (fun c199 => ?_)
        · refine lv_iload_n hx hb dX3_goesOn_225 rfl (lv_at hl 7 rfl) ?_
          refine m_put26 hx hb hts hin hown I L109 dX3_goesOn_226 (fun H locs I => ?_)
          refine lv_iconst (v := 1) hx hb dX3_goesOn_229 (by decide) ?_
          exact m_zret hx hb hr hlocks I rfl dX3_goesOn_230 (by simp (decide := true) [f_goesOn, c42, c72, c181, c199])
        · refine lv_aload_n hx hb dX3_goesOn_202 rfl (lv_at hl 6 rfl) ?_
          refine m_get15 hx hb hts hin hown I L49 dX3_goesOn_203 ?_
          refine lv_iload_n hx hb dX3_goesOn_206 rfl (lv_at hl 5 rfl) ?_
          refine m_ald15 hx hb I ht dX3_goesOn_207 (x := S0.2 15 (((S0.1 11) - 1).toNatClampNeg)) rfl ?_
          refine lv_iload_n hx hb dX3_goesOn_208 rfl (lv_at hl 7 rfl) ?_
          refine lv_icmp_ge (tgt := 221) hx hb dX3_goesOn_209 (by decide) (fun c209 => ?_) (fun c209 => ?_)
          · refine lv_iload_n hx hb dX3_goesOn_221 rfl (lv_at hl 7 rfl) ?_
            refine lv_goto (tgt := 226) hx hb dX3_goesOn_222 (by decide) ?_
            refine m_put26 hx hb hts hin hown I L109 dX3_goesOn_226 (fun H locs I => ?_)
            refine lv_iconst (v := 1) hx hb dX3_goesOn_229 (by decide) ?_
            exact m_zret hx hb hr hlocks I rfl dX3_goesOn_230 (by simp (decide := true) [f_goesOn, c42, c72, c181, c199, c209])
          · refine lv_aload_n hx hb dX3_goesOn_212 rfl (lv_at hl 6 rfl) ?_
            refine m_get15 hx hb hts hin hown I L49 dX3_goesOn_213 ?_
            refine lv_iload_n hx hb dX3_goesOn_216 rfl (lv_at hl 5 rfl) ?_
            refine m_ald15 hx hb I ht dX3_goesOn_217 (x := S0.2 15 (((S0.1 11) - 1).toNatClampNeg)) rfl ?_
            refine lv_goto (tgt := 226) hx hb dX3_goesOn_218 (by decide) ?_
            refine m_put26 hx hb hts hin hown I L109 dX3_goesOn_226 (fun H locs I => ?_)
            refine lv_iconst (v := 1) hx hb dX3_goesOn_229 (by decide) ?_
            exact m_zret hx hb hr hlocks I rfl dX3_goesOn_230 (by simp (decide := true) [f_goesOn, c42, c72, c181, c199, c209])
      · refine lv_iload hx hb dX3_goesOn_184 (lv_at hl 2 rfl) ?_
        refine lv_iconst (v := 1) hx hb dX3_goesOn_186 (by decide) ?_
        refine lv_icmp_ne (tgt := 195) hx hb dX3_goesOn_187 (by decide) (fun _ => ?_) (fun h => absurd h c72)
        refine lv_iload hx hb dX3_goesOn_195 (lv_at hl 1 rfl) ?_
        refine lv_bipush (v := 16) hx hb dX3_goesOn_197 (by decide) ?_
        refine lv_icmp_ne (tgt := 225) hx hb dX3_goesOn_199 (by decide) (fun _ => ?_) (fun h => absurd (c181.symm.trans h) (by decide))
        refine lv_iload_n hx hb dX3_goesOn_225 rfl (lv_at hl 7 rfl) ?_
        refine m_put26 hx hb hts hin hown I L109 dX3_goesOn_226 (fun H locs I => ?_)
        refine lv_iconst (v := 1) hx hb dX3_goesOn_229 (by decide) ?_
        exact m_zret hx hb hr hlocks I rfl dX3_goesOn_230 (by simp (decide := true) [f_goesOn, c42, c72, c181])
    · refine lv_iload hx hb dX3_goesOn_75 (lv_at hl 0 rfl) ?_
      refine lv_bipush (v := 8) hx hb dX3_goesOn_77 (by decide) ?_
      refine lv_icmp_eq (tgt := 107) hx hb dX3_goesOn_79 (by decide) (fun c79 => ?_) (fun c79 => ?_)
      · refine lv_iconst (v := 1) hx hb dX3_goesOn_107 (by decide) ?_
        refine lv_goto (tgt := 112) hx hb dX3_goesOn_108 (by decide) ?_
        refine lv_istore (lv' := [(7, .int 1), (6, .int (S0.2 5 ((S0.2 12 (((S0.1 11) - 1).toNatClampNeg)).toNatClampNeg))), (5, .int (S0.2 14 (((S0.1 11) - 1).toNatClampNeg))), (4, .int (S0.2 13 (((S0.1 11) - 1).toNatClampNeg))), (3, .int (S0.2 12 (((S0.1 11) - 1).toNatClampNeg))), (2, .int ((S0.1 11) - 1)), (0, .ref o), (1, .int v)]) hx hb dX3_goesOn_112 hl (by decide) rfl (fun ls hl => ?_)
        refine lv_iload hx hb dX3_goesOn_114 (lv_at hl 0 rfl) ?_
        refine lv_if_eq (tgt := 176) hx hb dX3_goesOn_116 (by decide) (fun h => absurd h (by decide)) (fun _ => ?_)
        refine lv_aload_n hx hb dX3_goesOn_119 rfl (lv_at hl 6 rfl) ?_
        refine m_get15 hx hb hts hin hown I L49 dX3_goesOn_120 ?_
        refine lv_iload_n hx hb dX3_goesOn_123 rfl (lv_at hl 5 rfl) ?_
        refine lv_iload_n hx hb dX3_goesOn_124 rfl (lv_at hl 7 rfl) ?_
        refine m_ast15 hx hb I ht dX3_goesOn_125 (fun H locs I => ?_)
        refine lv_aload_n hx hb dX3_goesOn_126 rfl (lv_at hl 6 rfl) ?_
        refine lv_iload hx hb dX3_goesOn_127 (lv_at hl 1 rfl) ?_
        refine lv_bipush (v := 9) hx hb dX3_goesOn_129 (by decide) ?_
        refine lv_icmp_ne (tgt := 143) hx hb dX3_goesOn_131 (by decide) (fun _ => ?_) (fun h => absurd (c79.symm.trans h) (by decide))
        refine lv_aload_n hx hb dX3_goesOn_143 rfl (lv_at hl 6 rfl) ?_
        refine m_get7 hx hb hts hin hown I L28 dX3_goesOn_144 ?_
        refine lv_iload_n hx hb dX3_goesOn_147 rfl (lv_at hl 4 rfl) ?_
        refine m_ald7 hx hb I hq dX3_goesOn_148 (x := S0.2 7 ((S0.2 12 (((S0.1 11) - 1).toNatClampNeg)).toNatClampNeg)) rfl ?_
        refine lv_iload hx hb dX3_goesOn_149 (lv_at hl 1 rfl) ?_
        refine lv_bipush (v := 8) hx hb dX3_goesOn_151 (by decide) ?_
        refine lv_icmp_eq (tgt := 163) hx hb dX3_goesOn_153 (by decide) (fun _ => ?_) (fun h => absurd c79 h)
        refine lv_iload_n hx hb dX3_goesOn_163 rfl (lv_at hl 7 rfl) ?_
        refine lv_goto (tgt := 169) hx hb dX3_goesOn_164 (by decide) ?_
        refine m_calli (rest := []) ⟨hx, hb, hml, hown, hts⟩ (c_X3_begins l D o ad cA (sA (sA S0 14 (((S0.1 11) - 1).toNatClampNeg) ((S0.2 14 (((S0.1 11) - 1).toNatClampNeg)) + 1)) 15 (((S0.1 11) - 1).toNatClampNeg) v) (S0.2 7 ((S0.2 12 (((S0.1 11) - 1).toNatClampNeg)).toNatClampNeg)) v (hw)) (cwV 2 hts gX3_goesOn_X3_begins rfl rfl rfl (by decide +kernel) ⟨Nat.le_of_ble_eq_true rfl, Nat.le_of_ble_eq_true rfl⟩) I rfl hl.1 rfl (Nat.le_of_ble_eq_true rfl) dX3_goesOn_169 ⟨Nat.le_refl _, Nat.le_refl _⟩ (fun r169 S169 H locs p169 I => ?_)
        refine lv_istore (lv' := [(8, .int r169), (7, .int 1), (6, .int (S0.2 5 ((S0.2 12 (((S0.1 11) - 1).toNatClampNeg)).toNatClampNeg))), (5, .int (S0.2 14 (((S0.1 11) - 1).toNatClampNeg))), (4, .int (S0.2 13 (((S0.1 11) - 1).toNatClampNeg))), (3, .int (S0.2 12 (((S0.1 11) - 1).toNatClampNeg))), (2, .int ((S0.1 11) - 1)), (0, .ref o), (1, .int v)]) hx hb dX3_goesOn_172 hl (by decide) rfl (fun ls hl => ?_)
        refine lv_iconst (v := 0) hx hb dX3_goesOn_174 (by decide) ?_
        exact m_zret hx hb hr hlocks I rfl dX3_goesOn_175 (by rw [show S169 = (f_begins _ _ _).2 from congrArg Prod.snd p169]; simp (decide := true) [f_goesOn, c42, c72, c79])
      · refine lv_iload hx hb dX3_goesOn_82 (lv_at hl 0 rfl) ?_
        refine lv_bipush (v := 9) hx hb dX3_goesOn_84 (by decide) ?_
        refine lv_icmp_eq (tgt := 107) hx hb dX3_goesOn_86 (by decide) (fun c86 => ?_) (fun c86 => ?_)
        · refine lv_iconst (v := 1) hx hb dX3_goesOn_107 (by decide) ?_
          refine lv_goto (tgt := 112) hx hb dX3_goesOn_108 (by decide) ?_
          refine lv_istore (lv' := [(7, .int 1), (6, .int (S0.2 5 ((S0.2 12 (((S0.1 11) - 1).toNatClampNeg)).toNatClampNeg))), (5, .int (S0.2 14 (((S0.1 11) - 1).toNatClampNeg))), (4, .int (S0.2 13 (((S0.1 11) - 1).toNatClampNeg))), (3, .int (S0.2 12 (((S0.1 11) - 1).toNatClampNeg))), (2, .int ((S0.1 11) - 1)), (0, .ref o), (1, .int v)]) hx hb dX3_goesOn_112 hl (by decide) rfl (fun ls hl => ?_)
          refine lv_iload hx hb dX3_goesOn_114 (lv_at hl 0 rfl) ?_
          refine lv_if_eq (tgt := 176) hx hb dX3_goesOn_116 (by decide) (fun h => absurd h (by decide)) (fun _ => ?_)
          refine lv_aload_n hx hb dX3_goesOn_119 rfl (lv_at hl 6 rfl) ?_
          refine m_get15 hx hb hts hin hown I L49 dX3_goesOn_120 ?_
          refine lv_iload_n hx hb dX3_goesOn_123 rfl (lv_at hl 5 rfl) ?_
          refine lv_iload_n hx hb dX3_goesOn_124 rfl (lv_at hl 7 rfl) ?_
          refine m_ast15 hx hb I ht dX3_goesOn_125 (fun H locs I => ?_)
          refine lv_aload_n hx hb dX3_goesOn_126 rfl (lv_at hl 6 rfl) ?_
          refine lv_iload hx hb dX3_goesOn_127 (lv_at hl 1 rfl) ?_
          refine lv_bipush (v := 9) hx hb dX3_goesOn_129 (by decide) ?_
          refine lv_icmp_ne (tgt := 143) hx hb dX3_goesOn_131 (by decide) (fun h => absurd c86 h) (fun _ => ?_)
          refine lv_aload_n hx hb dX3_goesOn_134 rfl (lv_at hl 6 rfl) ?_
          refine m_get6 hx hb hts hin hown I L25 dX3_goesOn_135 ?_
          refine lv_iload_n hx hb dX3_goesOn_138 rfl (lv_at hl 4 rfl) ?_
          refine m_ald6 hx hb I hq dX3_goesOn_139 (x := S0.2 6 ((S0.2 12 (((S0.1 11) - 1).toNatClampNeg)).toNatClampNeg)) rfl ?_
          refine lv_goto (tgt := 149) hx hb dX3_goesOn_140 (by decide) ?_
          refine lv_iload hx hb dX3_goesOn_149 (lv_at hl 1 rfl) ?_
          refine lv_bipush (v := 8) hx hb dX3_goesOn_151 (by decide) ?_
          refine lv_icmp_eq (tgt := 163) hx hb dX3_goesOn_153 (by decide) (fun h => absurd (c86.symm.trans h) (by decide)) (fun _ => ?_)
          refine lv_iload hx hb dX3_goesOn_156 (lv_at hl 1 rfl) ?_
          refine lv_bipush (v := 9) hx hb dX3_goesOn_158 (by decide) ?_
          refine lv_icmp_ne (tgt := 167) hx hb dX3_goesOn_160 (by decide) (fun h => absurd c86 h) (fun _ => ?_)
          refine lv_iload_n hx hb dX3_goesOn_163 rfl (lv_at hl 7 rfl) ?_
          refine lv_goto (tgt := 169) hx hb dX3_goesOn_164 (by decide) ?_
          refine m_calli (rest := []) ⟨hx, hb, hml, hown, hts⟩ (c_X3_begins l D o ad cA (sA (sA S0 14 (((S0.1 11) - 1).toNatClampNeg) ((S0.2 14 (((S0.1 11) - 1).toNatClampNeg)) + 1)) 15 (((S0.1 11) - 1).toNatClampNeg) v) (S0.2 6 ((S0.2 12 (((S0.1 11) - 1).toNatClampNeg)).toNatClampNeg)) v (hw)) (cwV 2 hts gX3_goesOn_X3_begins rfl rfl rfl (by decide +kernel) ⟨Nat.le_of_ble_eq_true rfl, Nat.le_of_ble_eq_true rfl⟩) I rfl hl.1 rfl (Nat.le_of_ble_eq_true rfl) dX3_goesOn_169 ⟨Nat.le_refl _, Nat.le_refl _⟩ (fun r169 S169 H locs p169 I => ?_)
          refine lv_istore (lv' := [(8, .int r169), (7, .int 1), (6, .int (S0.2 5 ((S0.2 12 (((S0.1 11) - 1).toNatClampNeg)).toNatClampNeg))), (5, .int (S0.2 14 (((S0.1 11) - 1).toNatClampNeg))), (4, .int (S0.2 13 (((S0.1 11) - 1).toNatClampNeg))), (3, .int (S0.2 12 (((S0.1 11) - 1).toNatClampNeg))), (2, .int ((S0.1 11) - 1)), (0, .ref o), (1, .int v)]) hx hb dX3_goesOn_172 hl (by decide) rfl (fun ls hl => ?_)
          refine lv_iconst (v := 0) hx hb dX3_goesOn_174 (by decide) ?_
          exact m_zret hx hb hr hlocks I rfl dX3_goesOn_175 (by rw [show S169 = (f_begins _ _ _).2 from congrArg Prod.snd p169]; simp (decide := true) [f_goesOn, c42, c72, c79, c86])
        · refine lv_iload hx hb dX3_goesOn_89 (lv_at hl 0 rfl) ?_
          refine lv_bipush (v := 16) hx hb dX3_goesOn_91 (by decide) ?_
          refine lv_icmp_eq (tgt := 107) hx hb dX3_goesOn_93 (by decide) (fun c93 => ?_) (fun c93 => ?_)
          · refine lv_iconst (v := 1) hx hb dX3_goesOn_107 (by decide) ?_
            refine lv_goto (tgt := 112) hx hb dX3_goesOn_108 (by decide) ?_
            refine lv_istore (lv' := [(7, .int 1), (6, .int (S0.2 5 ((S0.2 12 (((S0.1 11) - 1).toNatClampNeg)).toNatClampNeg))), (5, .int (S0.2 14 (((S0.1 11) - 1).toNatClampNeg))), (4, .int (S0.2 13 (((S0.1 11) - 1).toNatClampNeg))), (3, .int (S0.2 12 (((S0.1 11) - 1).toNatClampNeg))), (2, .int ((S0.1 11) - 1)), (0, .ref o), (1, .int v)]) hx hb dX3_goesOn_112 hl (by decide) rfl (fun ls hl => ?_)
            refine lv_iload hx hb dX3_goesOn_114 (lv_at hl 0 rfl) ?_
            refine lv_if_eq (tgt := 176) hx hb dX3_goesOn_116 (by decide) (fun h => absurd h (by decide)) (fun _ => ?_)
            refine lv_aload_n hx hb dX3_goesOn_119 rfl (lv_at hl 6 rfl) ?_
            refine m_get15 hx hb hts hin hown I L49 dX3_goesOn_120 ?_
            refine lv_iload_n hx hb dX3_goesOn_123 rfl (lv_at hl 5 rfl) ?_
            refine lv_iload_n hx hb dX3_goesOn_124 rfl (lv_at hl 7 rfl) ?_
            refine m_ast15 hx hb I ht dX3_goesOn_125 (fun H locs I => ?_)
            refine lv_aload_n hx hb dX3_goesOn_126 rfl (lv_at hl 6 rfl) ?_
            refine lv_iload hx hb dX3_goesOn_127 (lv_at hl 1 rfl) ?_
            refine lv_bipush (v := 9) hx hb dX3_goesOn_129 (by decide) ?_
            refine lv_icmp_ne (tgt := 143) hx hb dX3_goesOn_131 (by decide) (fun _ => ?_) (fun h => absurd (c93.symm.trans h) (by decide))
            refine lv_aload_n hx hb dX3_goesOn_143 rfl (lv_at hl 6 rfl) ?_
            refine m_get7 hx hb hts hin hown I L28 dX3_goesOn_144 ?_
            refine lv_iload_n hx hb dX3_goesOn_147 rfl (lv_at hl 4 rfl) ?_
            refine m_ald7 hx hb I hq dX3_goesOn_148 (x := S0.2 7 ((S0.2 12 (((S0.1 11) - 1).toNatClampNeg)).toNatClampNeg)) rfl ?_
            refine lv_iload hx hb dX3_goesOn_149 (lv_at hl 1 rfl) ?_
            refine lv_bipush (v := 8) hx hb dX3_goesOn_151 (by decide) ?_
            refine lv_icmp_eq (tgt := 163) hx hb dX3_goesOn_153 (by decide) (fun h => absurd (c93.symm.trans h) (by decide)) (fun _ => ?_)
            refine lv_iload hx hb dX3_goesOn_156 (lv_at hl 1 rfl) ?_
            refine lv_bipush (v := 9) hx hb dX3_goesOn_158 (by decide) ?_
            refine lv_icmp_ne (tgt := 167) hx hb dX3_goesOn_160 (by decide) (fun _ => ?_) (fun h => absurd (c93.symm.trans h) (by decide))
            refine lv_iload hx hb dX3_goesOn_167 (lv_at hl 3 rfl) ?_
            refine m_calli (rest := []) ⟨hx, hb, hml, hown, hts⟩ (c_X3_begins l D o ad cA (sA (sA S0 14 (((S0.1 11) - 1).toNatClampNeg) ((S0.2 14 (((S0.1 11) - 1).toNatClampNeg)) + 1)) 15 (((S0.1 11) - 1).toNatClampNeg) v) (S0.2 7 ((S0.2 12 (((S0.1 11) - 1).toNatClampNeg)).toNatClampNeg)) (S0.2 13 (((S0.1 11) - 1).toNatClampNeg)) (hw)) (cwV 2 hts gX3_goesOn_X3_begins rfl rfl rfl (by decide +kernel) ⟨Nat.le_of_ble_eq_true rfl, Nat.le_of_ble_eq_true rfl⟩) I rfl hl.1 rfl (Nat.le_of_ble_eq_true rfl) dX3_goesOn_169 ⟨Nat.le_refl _, Nat.le_refl _⟩ (fun r169 S169 H locs p169 I => ?_)
            refine lv_istore (lv' := [(8, .int r169), (7, .int 1), (6, .int (S0.2 5 ((S0.2 12 (((S0.1 11) - 1).toNatClampNeg)).toNatClampNeg))), (5, .int (S0.2 14 (((S0.1 11) - 1).toNatClampNeg))), (4, .int (S0.2 13 (((S0.1 11) - 1).toNatClampNeg))), (3, .int (S0.2 12 (((S0.1 11) - 1).toNatClampNeg))), (2, .int ((S0.1 11) - 1)), (0, .ref o), (1, .int v)]) hx hb dX3_goesOn_172 hl (by decide) rfl (fun ls hl => ?_)
            refine lv_iconst (v := 0) hx hb dX3_goesOn_174 (by decide) ?_
            exact m_zret hx hb hr hlocks I rfl dX3_goesOn_175 (by rw [show S169 = (f_begins _ _ _).2 from congrArg Prod.snd p169]; simp (decide := true) [f_goesOn, c42, c72, c79, c86, c93])
          · refine lv_iload hx hb dX3_goesOn_96 (lv_at hl 0 rfl) ?_
            refine lv_bipush (v := 10) hx hb dX3_goesOn_98 (by decide) ?_
            refine lv_icmp_ne (tgt := 111) hx hb dX3_goesOn_100 (by decide) (fun c100 => ?_) (fun c100 => ?_)
            · refine lv_iconst (v := 0) hx hb dX3_goesOn_111 (by decide) ?_
              refine lv_istore (lv' := [(7, .int 0), (6, .int (S0.2 5 ((S0.2 12 (((S0.1 11) - 1).toNatClampNeg)).toNatClampNeg))), (5, .int (S0.2 14 (((S0.1 11) - 1).toNatClampNeg))), (4, .int (S0.2 13 (((S0.1 11) - 1).toNatClampNeg))), (3, .int (S0.2 12 (((S0.1 11) - 1).toNatClampNeg))), (2, .int ((S0.1 11) - 1)), (0, .ref o), (1, .int v)]) hx hb dX3_goesOn_112 hl (by decide) rfl (fun ls hl => ?_)
              refine lv_iload hx hb dX3_goesOn_114 (lv_at hl 0 rfl) ?_
              refine lv_if_eq (tgt := 176) hx hb dX3_goesOn_116 (by decide) (fun _ => ?_) (fun h => absurd h (by decide))
              refine lv_aload_n hx hb dX3_goesOn_176 rfl (lv_at hl 6 rfl) ?_
              refine lv_iload hx hb dX3_goesOn_177 (lv_at hl 1 rfl) ?_
              refine lv_bipush (v := 10) hx hb dX3_goesOn_179 (by decide) ?_
              refine lv_icmp_ne (tgt := 195) hx hb dX3_goesOn_181 (by decide) (fun _ => ?_) (fun h => absurd h c100)
              refine lv_iload hx hb dX3_goesOn_195 (lv_at hl 1 rfl) ?_
              refine lv_bipush (v := 16) hx hb dX3_goesOn_197 (by decide) ?_
              refine lv_icmp_ne (tgt := 225) hx hb dX3_goesOn_199 (by decide) (fun _ => ?_) (fun h => absurd h c93)
              refine lv_iload_n hx hb dX3_goesOn_225 rfl (lv_at hl 7 rfl) ?_
              refine m_put26 hx hb hts hin hown I L109 dX3_goesOn_226 (fun H locs I => ?_)
              refine lv_iconst (v := 1) hx hb dX3_goesOn_229 (by decide) ?_
              exact m_zret hx hb hr hlocks I rfl dX3_goesOn_230 (by simp (decide := true) [f_goesOn, c42, c72, c79, c86, c93, c100])
            · refine lv_iload_n hx hb dX3_goesOn_103 rfl (lv_at hl 6 rfl) ?_
              refine lv_if_eq (tgt := 111) hx hb dX3_goesOn_104 (by decide) (fun c104 => ?_) (fun c104 => ?_)
              · refine lv_iconst (v := 0) hx hb dX3_goesOn_111 (by decide) ?_
                refine lv_istore (lv' := [(7, .int 0), (6, .int (S0.2 5 ((S0.2 12 (((S0.1 11) - 1).toNatClampNeg)).toNatClampNeg))), (5, .int (S0.2 14 (((S0.1 11) - 1).toNatClampNeg))), (4, .int (S0.2 13 (((S0.1 11) - 1).toNatClampNeg))), (3, .int (S0.2 12 (((S0.1 11) - 1).toNatClampNeg))), (2, .int ((S0.1 11) - 1)), (0, .ref o), (1, .int v)]) hx hb dX3_goesOn_112 hl (by decide) rfl (fun ls hl => ?_)
                refine lv_iload hx hb dX3_goesOn_114 (lv_at hl 0 rfl) ?_
                refine lv_if_eq (tgt := 176) hx hb dX3_goesOn_116 (by decide) (fun _ => ?_) (fun h => absurd h (by decide))
                refine lv_aload_n hx hb dX3_goesOn_176 rfl (lv_at hl 6 rfl) ?_
                refine lv_iload hx hb dX3_goesOn_177 (lv_at hl 1 rfl) ?_
                refine lv_bipush (v := 10) hx hb dX3_goesOn_179 (by decide) ?_
                refine lv_icmp_ne (tgt := 195) hx hb dX3_goesOn_181 (by decide) (fun h => absurd c100 h) (fun _ => ?_)
                refine lv_iload hx hb dX3_goesOn_184 (lv_at hl 2 rfl) ?_
                refine lv_iconst (v := 1) hx hb dX3_goesOn_186 (by decide) ?_
                refine lv_icmp_ne (tgt := 195) hx hb dX3_goesOn_187 (by decide) (fun h => absurd c72 h) (fun _ => ?_)
                refine lv_iload hx hb dX3_goesOn_190 (lv_at hl 3 rfl) ?_
                refine lv_goto (tgt := 226) hx hb dX3_goesOn_192 (by decide) ?_
                refine m_put26 hx hb hts hin hown I L109 dX3_goesOn_226 (fun H locs I => ?_)
                refine lv_iconst (v := 1) hx hb dX3_goesOn_229 (by decide) ?_
                exact m_zret hx hb hr hlocks I rfl dX3_goesOn_230 (by simp (decide := true) [f_goesOn, c42, c72, c79, c86, c93, c100, c104])
              · refine lv_iconst (v := 1) hx hb dX3_goesOn_107 (by decide) ?_
                refine lv_goto (tgt := 112) hx hb dX3_goesOn_108 (by decide) ?_
                refine lv_istore (lv' := [(7, .int 1), (6, .int (S0.2 5 ((S0.2 12 (((S0.1 11) - 1).toNatClampNeg)).toNatClampNeg))), (5, .int (S0.2 14 (((S0.1 11) - 1).toNatClampNeg))), (4, .int (S0.2 13 (((S0.1 11) - 1).toNatClampNeg))), (3, .int (S0.2 12 (((S0.1 11) - 1).toNatClampNeg))), (2, .int ((S0.1 11) - 1)), (0, .ref o), (1, .int v)]) hx hb dX3_goesOn_112 hl (by decide) rfl (fun ls hl => ?_)
                refine lv_iload hx hb dX3_goesOn_114 (lv_at hl 0 rfl) ?_
                refine lv_if_eq (tgt := 176) hx hb dX3_goesOn_116 (by decide) (fun h => absurd h (by decide)) (fun _ => ?_)
                refine lv_aload_n hx hb dX3_goesOn_119 rfl (lv_at hl 6 rfl) ?_
                refine m_get15 hx hb hts hin hown I L49 dX3_goesOn_120 ?_
                refine lv_iload_n hx hb dX3_goesOn_123 rfl (lv_at hl 5 rfl) ?_
                refine lv_iload_n hx hb dX3_goesOn_124 rfl (lv_at hl 7 rfl) ?_
                refine m_ast15 hx hb I ht dX3_goesOn_125 (fun H locs I => ?_)
                refine lv_aload_n hx hb dX3_goesOn_126 rfl (lv_at hl 6 rfl) ?_
                refine lv_iload hx hb dX3_goesOn_127 (lv_at hl 1 rfl) ?_
                refine lv_bipush (v := 9) hx hb dX3_goesOn_129 (by decide) ?_
                refine lv_icmp_ne (tgt := 143) hx hb dX3_goesOn_131 (by decide) (fun _ => ?_) (fun h => absurd (c100.symm.trans h) (by decide))
                refine lv_aload_n hx hb dX3_goesOn_143 rfl (lv_at hl 6 rfl) ?_
                refine m_get7 hx hb hts hin hown I L28 dX3_goesOn_144 ?_
                refine lv_iload_n hx hb dX3_goesOn_147 rfl (lv_at hl 4 rfl) ?_
                refine m_ald7 hx hb I hq dX3_goesOn_148 (x := S0.2 7 ((S0.2 12 (((S0.1 11) - 1).toNatClampNeg)).toNatClampNeg)) rfl ?_
                refine lv_iload hx hb dX3_goesOn_149 (lv_at hl 1 rfl) ?_
                refine lv_bipush (v := 8) hx hb dX3_goesOn_151 (by decide) ?_
                refine lv_icmp_eq (tgt := 163) hx hb dX3_goesOn_153 (by decide) (fun h => absurd (c100.symm.trans h) (by decide)) (fun _ => ?_)
                refine lv_iload hx hb dX3_goesOn_156 (lv_at hl 1 rfl) ?_
                refine lv_bipush (v := 9) hx hb dX3_goesOn_158 (by decide) ?_
                refine lv_icmp_ne (tgt := 167) hx hb dX3_goesOn_160 (by decide) (fun _ => ?_) (fun h => absurd (c100.symm.trans h) (by decide))
                refine lv_iload hx hb dX3_goesOn_167 (lv_at hl 3 rfl) ?_
                refine m_calli (rest := []) ⟨hx, hb, hml, hown, hts⟩ (c_X3_begins l D o ad cA (sA (sA S0 14 (((S0.1 11) - 1).toNatClampNeg) ((S0.2 14 (((S0.1 11) - 1).toNatClampNeg)) + 1)) 15 (((S0.1 11) - 1).toNatClampNeg) v) (S0.2 7 ((S0.2 12 (((S0.1 11) - 1).toNatClampNeg)).toNatClampNeg)) (S0.2 13 (((S0.1 11) - 1).toNatClampNeg)) (hw)) (cwV 2 hts gX3_goesOn_X3_begins rfl rfl rfl (by decide +kernel) ⟨Nat.le_of_ble_eq_true rfl, Nat.le_of_ble_eq_true rfl⟩) I rfl hl.1 rfl (Nat.le_of_ble_eq_true rfl) dX3_goesOn_169 ⟨Nat.le_refl _, Nat.le_refl _⟩ (fun r169 S169 H locs p169 I => ?_)
                refine lv_istore (lv' := [(8, .int r169), (7, .int 1), (6, .int (S0.2 5 ((S0.2 12 (((S0.1 11) - 1).toNatClampNeg)).toNatClampNeg))), (5, .int (S0.2 14 (((S0.1 11) - 1).toNatClampNeg))), (4, .int (S0.2 13 (((S0.1 11) - 1).toNatClampNeg))), (3, .int (S0.2 12 (((S0.1 11) - 1).toNatClampNeg))), (2, .int ((S0.1 11) - 1)), (0, .ref o), (1, .int v)]) hx hb dX3_goesOn_172 hl (by decide) rfl (fun ls hl => ?_)
                refine lv_iconst (v := 0) hx hb dX3_goesOn_174 (by decide) ?_
                exact m_zret hx hb hr hlocks I rfl dX3_goesOn_175 (by rw [show S169 = (f_begins _ _ _).2 from congrArg Prod.snd p169]; simp (decide := true) [f_goesOn, c42, c72, c79, c86, c93, c100, c104])
  · refine lv_aload_n hx hb dX3_goesOn_45 rfl (lv_at hl 4 rfl) ?_
    refine lv_aload_n hx hb dX3_goesOn_46 rfl (lv_at hl 4 rfl) ?_
    refine m_get6 hx hb hts hin hown I L25 dX3_goesOn_47 ?_
    refine lv_iload_n hx hb dX3_goesOn_50 rfl (lv_at hl 2 rfl) ?_
    refine m_ald6 hx hb I hq dX3_goesOn_51 (x := S0.2 6 ((S0.2 12 (((S0.1 11) - 1).toNatClampNeg)).toNatClampNeg)) rfl ?_
    refine lv_iload hx hb dX3_goesOn_52 (lv_at hl 1 rfl) ?_
    refine m_calli (rest := []) ⟨hx, hb, hml, hown, hts⟩ (c_X3_begins l D o ad cA (sA S0 14 (((S0.1 11) - 1).toNatClampNeg) ((S0.2 14 (((S0.1 11) - 1).toNatClampNeg)) + 1)) (S0.2 6 ((S0.2 12 (((S0.1 11) - 1).toNatClampNeg)).toNatClampNeg)) (S0.2 13 (((S0.1 11) - 1).toNatClampNeg)) (hw)) (cwV 2 hts gX3_goesOn_X3_begins rfl rfl rfl (by decide +kernel) ⟨Nat.le_of_ble_eq_true rfl, Nat.le_of_ble_eq_true rfl⟩) I rfl hl.1 rfl (Nat.le_of_ble_eq_true rfl) dX3_goesOn_54 ⟨Nat.le_refl _, Nat.le_refl _⟩ (fun r54 S54 H locs p54 I => ?_)
    refine lv_istore (lv' := [(6, .int r54), (5, .int (S0.2 14 (((S0.1 11) - 1).toNatClampNeg))), (4, .int (S0.2 13 (((S0.1 11) - 1).toNatClampNeg))), (3, .int (S0.2 12 (((S0.1 11) - 1).toNatClampNeg))), (2, .int ((S0.1 11) - 1)), (0, .ref o), (1, .int v)]) hx hb dX3_goesOn_57 hl (by decide) rfl (fun ls hl => ?_)
    refine lv_iconst (v := 0) hx hb dX3_goesOn_59 (by decide) ?_
    exact m_zret hx hb hr hlocks I rfl dX3_goesOn_60 (by rw [show S54 = (f_begins _ _ _).2 from congrArg Prod.snd p54]; simp (decide := true) [f_goesOn, c42])
end
section
theorem nI_ub {j n : Nat} (hj : j < 2 ^ 31) (hn : n < 2 ^ 31) (h : ¬ nI n ≤ nI j) : j < n := Nat.not_le.mp (fun q => h (nI_le q hj))
theorem nI_lb {j n : Nat} (hj : j < 2 ^ 31) (hn : n < 2 ^ 31) (h : nI n ≤ nI j) : n ≤ j := (nI_leI hn hj).mp h
/-- which of the 48 rows of the reference are held -/
def f_held1 (S : tr_S) (a : Int32) (j : Nat) : Prop := ∃ k, k < j ∧ S.2 1 k = a
def f_held2 (S : tr_S) (a : Int32) (j : Nat) : Prop := ∃ k, k < j ∧ S.2 5 k = 6 ∧ S.2 9 k = a
def f_held (S : tr_S) (a : Int32) : Prop := f_held1 S a 4 ∨ f_held2 S a (S.1 4).toNatClampNeg
set_option maxHeartbeats 4000000 in
set_option maxRecDepth 100000 in
theorem c_X3_isHeld (l : Launch) (D : va_G) (o : Nat) (ad : Nat → Nat) (cA : ClassId) (S0 : tr_S) (a : Int32) (n : Nat) (hn : S0.1 4 = nI n) (hn40 : n ≤ 40) : m_Mi l yX3_isHeld wsX3_isHeld { frames := 0, cells := 0, slots := 0, locals := 0 } [.int a] D o ad cA S0 (fun x S => S = S0 ∧ ((f_held S0 a ∧ x = 1) ∨ (¬ f_held S0 a ∧ x = 0))) := by
  refine Met.ofW (cc := cX3_isHeld) (maxL := 4) (ret := (some .boolean)) (by decide) rfl ?_
  intro p e s m args below meth c s₁ B hml hv
  obtain ⟨rfl, hB⟩ := hv
  have hx := B.exec
  have hb := B.bytes
  have hr := B.returns
  have hts := atoms_spec (ws := wsX3_isHeld) B.pre
  have hown : s.vm.findClass RX3 = some m.cls := findClass_of_methodNamed B.named
  have hlocks := B.notSynchronized
  have I := m_I.of hB
  have hin : ∀ w ∈ wsX30, w ∈ wsX3_isHeld := fun _ h => List.mem_cons_of_mem _ (List.mem_append_right _ h)
  have L13 := hts (.fieldLink RX3 13 "TollRulesModel" "rowOf" "[I") (by decide +kernel)
  have L22 := hts (.fieldLink RX3 22 "TollRulesModel" "kind" "[I") (by decide +kernel)
  have L34 := hts (.fieldLink RX3 34 "TollRulesModel" "keptRow" "[I") (by decide +kernel)
  have L65 := hts (.fieldLink RX3 65 "TollRulesModel" "rules" "I") (by decide +kernel)
  have hl := lv_entry ([.ref o, .int a]) (n := 4) (Nat.le_of_ble_eq_true rfl)
  rw [lg_entry_eq]
  generalize (lg_sl ([.ref o, .int a]) ++ List.replicate (4 - (lg_sl ([.ref o, .int a])).length) Slot.unset).toArray = ls at hl ⊢
  have hl : lv_has ls 4 [(0, .ref o), (1, .int a)] := hl
  have L2 : ∀ (d j : Nat) (b : Int32), n - j < d → j ≤ n → (((f_held1 S0 a 4 ∨ f_held2 S0 a j) ∧ b = 1) ∨ (¬ (f_held1 S0 a 4 ∨ f_held2 S0 a j) ∧ b = 0)) → ∀ (H : Heap) (locs : List Loc) (ls : Array Slot), m_I D o ad cA S0 s s.heap H locs → lv_has ls 4 [(3, .int (nI j)), (2, .int b), (0, .ref o), (1, .int a)] → W p l e (headSpec wsX3_isHeld { frames := 0, cells := 0, slots := 0, locals := 0 }).room s m (([.ref o, .int a] : List Value).toArray) below meth c H locs 0 0 (MQ below (va_Qi (fun x S => S = S0 ∧ ((f_held S0 a ∧ x = 1) ∨ (¬ f_held S0 a ∧ x = 0))) (m_B D o ad cA) (m_A o ad)) (([.ref o, .int a] : List Value).toArray) s 0 0 (m_A o ad)) (F0 m 37 ls []) := by
    intro d
    induction d with
    | zero => intro j b hj; omega
    | succ d ih =>
      intro j b hj hjn hb2 H locs ls I hl
      refine lv_iload_n hx hb dX3_isHeld_37 rfl (lv_at hl 0 rfl) ?_
      refine lv_aload_n hx hb dX3_isHeld_38 rfl (lv_at hl 2 rfl) ?_
      refine m_get4 hx hb hts hin hown I L65 dX3_isHeld_39 (x := S0.1 4) rfl ?_
      refine lv_icmp_ge (tgt := 82) hx hb dX3_isHeld_42 (by decide) (fun c42 => ?_) (fun c42 => ?_)
      · refine lv_iload_n hx hb dX3_isHeld_82 rfl (lv_at hl 1 rfl) ?_
        have hj := nI_lb (n := n) (by omega) (by omega) (hn ▸ c42)
        obtain rfl : j = n := by omega
        rcases hb2 with ⟨q, rfl⟩ | ⟨q, rfl⟩
        · exact m_zret hx hb hr hlocks I rfl dX3_isHeld_83 ⟨rfl, Or.inl ⟨by unfold f_held; rw [hn, nI_clamp (by omega)]; exact q, rfl⟩⟩
        · exact m_zret hx hb hr hlocks I rfl dX3_isHeld_83 ⟨rfl, Or.inr ⟨by unfold f_held; rw [hn, nI_clamp (by omega)]; exact q, rfl⟩⟩
      · refine lv_iload_n hx hb dX3_isHeld_45 rfl (lv_at hl 1 rfl) ?_
        refine lv_if_ne (tgt := 70) hx hb dX3_isHeld_46 (by decide) (fun c46 => ?_) (fun c46 => ?_)
        · refine lv_iconst (v := 1) hx hb dX3_isHeld_70 (by decide) ?_
          refine lv_goto (tgt := 75) hx hb dX3_isHeld_71 (by decide) ?_
          refine lv_istore_n (lv' := [(2, .int 1), (3, .int (nI j)), (0, .ref o), (1, .int a)]) hx hb dX3_isHeld_75 rfl hl (by decide) rfl (fun ls hl => ?_)
          refine lv_iinc (v := (nI j) + 1) (lv' := [(3, .int ((nI j) + 1)), (2, .int 1), (0, .ref o), (1, .int a)]) hx hb dX3_isHeld_76 hl (k := 1) rfl rfl (by decide) rfl (fun ls hl => ?_)
          refine lv_goto (tgt := 37) hx hb dX3_isHeld_79 (by decide) ?_
          have hj := nI_ub (n := n) (by omega) (by omega) (hn ▸ c42)
          have hl := lv_sub hl [0, 1, 2, 3] rfl
          rw [nI_1] at hl
          exact ih (j + 1) 1 (by omega) (by omega) (Or.inl ⟨by rcases hb2 with ⟨q, -⟩ | ⟨-, q⟩; exact Or.elim q Or.inl (fun ⟨i, h1, h2⟩ => Or.inr ⟨i, by omega, h2⟩); exact absurd q c46, rfl⟩) H locs ls I hl
        · refine lv_aload_n hx hb dX3_isHeld_49 rfl (lv_at hl 2 rfl) ?_
          refine m_get5 hx hb hts hin hown I L22 dX3_isHeld_50 ?_
          refine lv_iload_n hx hb dX3_isHeld_53 rfl (lv_at hl 0 rfl) ?_
          refine m_ald5 hx hb I (vp_in_nI (Nat.lt_of_lt_of_le (nI_ub (n := n) (by omega) (by omega) (hn ▸ c42)) hn40) (by decide)) dX3_isHeld_54 (x := S0.2 5 j) (by rw [nI_clamp (show j < 2 ^ 31 by omega)] <;> rfl) ?_
          refine lv_bipush (v := 6) hx hb dX3_isHeld_55 (by decide) ?_
          refine lv_icmp_ne (tgt := 74) hx hb dX3_isHeld_57 (by decide) (fun c57 => ?_) (fun c57 => ?_)
          · refine lv_iconst (v := 0) hx hb dX3_isHeld_74 (by decide) ?_
            refine lv_istore_n (lv' := [(2, .int 0), (3, .int (nI j)), (0, .ref o), (1, .int a)]) hx hb dX3_isHeld_75 rfl hl (by decide) rfl (fun ls hl => ?_)
            refine lv_iinc (v := (nI j) + 1) (lv' := [(3, .int ((nI j) + 1)), (2, .int 0), (0, .ref o), (1, .int a)]) hx hb dX3_isHeld_76 hl (k := 1) rfl rfl (by decide) rfl (fun ls hl => ?_)
            refine lv_goto (tgt := 37) hx hb dX3_isHeld_79 (by decide) ?_
            have hj := nI_ub (n := n) (by omega) (by omega) (hn ▸ c42)
            have hl := lv_sub hl [0, 1, 2, 3] rfl
            rw [nI_1] at hl
            exact ih (j + 1) 0 (by omega) (by omega) (Or.inr ⟨fun q => by rcases hb2 with ⟨-, h⟩ | ⟨h, -⟩; exact absurd (h.symm.trans c46) (by decide); exact q.elim (fun q => h (Or.inl q)) (fun ⟨i, h1, h2, h3⟩ => by by_cases hi : i = j; subst hi; exact absurd h2 c57; exact h (Or.inr ⟨i, by omega, h2, h3⟩)), rfl⟩) H locs ls I hl
          · refine lv_aload_n hx hb dX3_isHeld_60 rfl (lv_at hl 2 rfl) ?_
            refine m_get9 hx hb hts hin hown I L34 dX3_isHeld_61 ?_
            refine lv_iload_n hx hb dX3_isHeld_64 rfl (lv_at hl 0 rfl) ?_
            refine m_ald9 hx hb I (vp_in_nI (Nat.lt_of_lt_of_le (nI_ub (n := n) (by omega) (by omega) (hn ▸ c42)) hn40) (by decide)) dX3_isHeld_65 (x := S0.2 9 j) (by rw [nI_clamp (show j < 2 ^ 31 by omega)] <;> rfl) ?_
            refine lv_iload_n hx hb dX3_isHeld_66 rfl (lv_at hl 3 rfl) ?_
            refine lv_icmp_ne (tgt := 74) hx hb dX3_isHeld_67 (by decide) (fun c67 => ?_) (fun c67 => ?_)
            · refine lv_iconst (v := 0) hx hb dX3_isHeld_74 (by decide) ?_
              refine lv_istore_n (lv' := [(2, .int 0), (3, .int (nI j)), (0, .ref o), (1, .int a)]) hx hb dX3_isHeld_75 rfl hl (by decide) rfl (fun ls hl => ?_)
              refine lv_iinc (v := (nI j) + 1) (lv' := [(3, .int ((nI j) + 1)), (2, .int 0), (0, .ref o), (1, .int a)]) hx hb dX3_isHeld_76 hl (k := 1) rfl rfl (by decide) rfl (fun ls hl => ?_)
              refine lv_goto (tgt := 37) hx hb dX3_isHeld_79 (by decide) ?_
              have hj := nI_ub (n := n) (by omega) (by omega) (hn ▸ c42)
              have hl := lv_sub hl [0, 1, 2, 3] rfl
              rw [nI_1] at hl
              exact ih (j + 1) 0 (by omega) (by omega) (Or.inr ⟨fun q => by rcases hb2 with ⟨-, h⟩ | ⟨h, -⟩; exact absurd (h.symm.trans c46) (by decide); exact q.elim (fun q => h (Or.inl q)) (fun ⟨i, h1, h2, h3⟩ => by by_cases hi : i = j; subst hi; exact absurd h3 c67; exact h (Or.inr ⟨i, by omega, h2, h3⟩)), rfl⟩) H locs ls I hl
            · refine lv_iconst (v := 1) hx hb dX3_isHeld_70 (by decide) ?_
              refine lv_goto (tgt := 75) hx hb dX3_isHeld_71 (by decide) ?_
              refine lv_istore_n (lv' := [(2, .int 1), (3, .int (nI j)), (0, .ref o), (1, .int a)]) hx hb dX3_isHeld_75 rfl hl (by decide) rfl (fun ls hl => ?_)
              refine lv_iinc (v := (nI j) + 1) (lv' := [(3, .int ((nI j) + 1)), (2, .int 1), (0, .ref o), (1, .int a)]) hx hb dX3_isHeld_76 hl (k := 1) rfl rfl (by decide) rfl (fun ls hl => ?_)
              refine lv_goto (tgt := 37) hx hb dX3_isHeld_79 (by decide) ?_
              have hj := nI_ub (n := n) (by omega) (by omega) (hn ▸ c42)
              have hl := lv_sub hl [0, 1, 2, 3] rfl
              rw [nI_1] at hl
              exact ih (j + 1) 1 (by omega) (by omega) (Or.inl ⟨Or.inr ⟨j, by omega, c57, c67⟩, rfl⟩) H locs ls I hl
  have L1 : ∀ (d j : Nat) (b : Int32), 4 - j < d → j ≤ 4 → ((f_held1 S0 a j ∧ b = 1) ∨ (¬ f_held1 S0 a j ∧ b = 0)) → ∀ (H : Heap) (locs : List Loc) (ls : Array Slot), m_I D o ad cA S0 s s.heap H locs → lv_has ls 4 [(3, .int (nI j)), (2, .int b), (0, .ref o), (1, .int a)] → W p l e (headSpec wsX3_isHeld { frames := 0, cells := 0, slots := 0, locals := 0 }).room s m (([.ref o, .int a] : List Value).toArray) below meth c H locs 0 0 (MQ below (va_Qi (fun x S => S = S0 ∧ ((f_held S0 a ∧ x = 1) ∨ (¬ f_held S0 a ∧ x = 0))) (m_B D o ad cA) (m_A o ad)) (([.ref o, .int a] : List Value).toArray) s 0 0 (m_A o ad)) (F0 m 4 ls []) := by
    intro d
    induction d with
    | zero => intro j b hj; omega
    | succ d ih =>
      intro j b hj hjn hb1 H locs ls I hl
      refine lv_iload_n hx hb dX3_isHeld_4 rfl (lv_at hl 0 rfl) ?_
      refine lv_iconst (v := 4) hx hb dX3_isHeld_5 (by decide) ?_
      refine lv_icmp_ge (tgt := 35) hx hb dX3_isHeld_6 (by decide) (fun c6 => ?_) (fun c6 => ?_)
      · refine lv_iconst (v := 0) hx hb dX3_isHeld_35 (by decide) ?_
        refine lv_istore_n (lv' := [(3, .int 0), (2, .int b), (0, .ref o), (1, .int a)]) hx hb dX3_isHeld_36 rfl hl (by decide) rfl (fun ls hl => ?_)
        have hj := nI_lb (n := 4) (by omega) (by omega) c6
        rw [show j = 4 by omega] at hb1
        have hl := lv_sub hl [0, 1, 2, 3] rfl
        exact L2 (n + 1) 0 b (by omega) (by omega) (by rcases hb1 with ⟨q, rfl⟩ | ⟨q, rfl⟩; exact Or.inl ⟨Or.inl q, rfl⟩; exact Or.inr ⟨fun h => h.elim q (fun ⟨i, h1, _⟩ => by omega), rfl⟩) H locs ls I hl
      · refine lv_iload_n hx hb dX3_isHeld_9 rfl (lv_at hl 1 rfl) ?_
        refine lv_if_ne (tgt := 23) hx hb dX3_isHeld_10 (by decide) (fun c10 => ?_) (fun c10 => ?_)
        · refine lv_iconst (v := 1) hx hb dX3_isHeld_23 (by decide) ?_
          refine lv_goto (tgt := 28) hx hb dX3_isHeld_24 (by decide) ?_
          refine lv_istore_n (lv' := [(2, .int 1), (3, .int (nI j)), (0, .ref o), (1, .int a)]) hx hb dX3_isHeld_28 rfl hl (by decide) rfl (fun ls hl => ?_)
          refine lv_iinc (v := (nI j) + 1) (lv' := [(3, .int ((nI j) + 1)), (2, .int 1), (0, .ref o), (1, .int a)]) hx hb dX3_isHeld_29 hl (k := 1) rfl rfl (by decide) rfl (fun ls hl => ?_)
          refine lv_goto (tgt := 4) hx hb dX3_isHeld_32 (by decide) ?_
          have hj := nI_ub (n := 4) (by omega) (by omega) c6
          have hl := lv_sub hl [0, 1, 2, 3] rfl
          rw [nI_1] at hl
          exact ih (j + 1) 1 (by omega) (by omega) (Or.inl ⟨by rcases hb1 with ⟨⟨i, h1, h2⟩, -⟩ | ⟨-, q⟩; exact ⟨i, by omega, h2⟩; exact absurd q c10, rfl⟩) H locs ls I hl
        · refine lv_aload_n hx hb dX3_isHeld_13 rfl (lv_at hl 2 rfl) ?_
          refine m_get1 hx hb hts hin hown I L13 dX3_isHeld_14 ?_
          refine lv_iload_n hx hb dX3_isHeld_17 rfl (lv_at hl 0 rfl) ?_
          refine m_ald1 hx hb I (vp_in_nI (nI_ub (n := 4) (by omega) (by decide) c6) (by decide)) dX3_isHeld_18 (x := S0.2 1 j) (by rw [nI_clamp (show j < 2 ^ 31 by omega)] <;> rfl) ?_
          refine lv_iload_n hx hb dX3_isHeld_19 rfl (lv_at hl 3 rfl) ?_
          refine lv_icmp_ne (tgt := 27) hx hb dX3_isHeld_20 (by decide) (fun c20 => ?_) (fun c20 => ?_)
          · refine lv_iconst (v := 0) hx hb dX3_isHeld_27 (by decide) ?_
            refine lv_istore_n (lv' := [(2, .int 0), (3, .int (nI j)), (0, .ref o), (1, .int a)]) hx hb dX3_isHeld_28 rfl hl (by decide) rfl (fun ls hl => ?_)
            refine lv_iinc (v := (nI j) + 1) (lv' := [(3, .int ((nI j) + 1)), (2, .int 0), (0, .ref o), (1, .int a)]) hx hb dX3_isHeld_29 hl (k := 1) rfl rfl (by decide) rfl (fun ls hl => ?_)
            refine lv_goto (tgt := 4) hx hb dX3_isHeld_32 (by decide) ?_
            have hj := nI_ub (n := 4) (by omega) (by omega) c6
            have hl := lv_sub hl [0, 1, 2, 3] rfl
            rw [nI_1] at hl
            exact ih (j + 1) 0 (by omega) (by omega) (Or.inr ⟨fun ⟨i, h1, h2⟩ => by rcases hb1 with ⟨-, h⟩ | ⟨h, -⟩; exact absurd (h.symm.trans c10) (by decide); by_cases hi : i = j; subst hi; exact absurd h2 c20; exact h ⟨i, by omega, h2⟩, rfl⟩) H locs ls I hl
          · refine lv_iconst (v := 1) hx hb dX3_isHeld_23 (by decide) ?_
            refine lv_goto (tgt := 28) hx hb dX3_isHeld_24 (by decide) ?_
            refine lv_istore_n (lv' := [(2, .int 1), (3, .int (nI j)), (0, .ref o), (1, .int a)]) hx hb dX3_isHeld_28 rfl hl (by decide) rfl (fun ls hl => ?_)
            refine lv_iinc (v := (nI j) + 1) (lv' := [(3, .int ((nI j) + 1)), (2, .int 1), (0, .ref o), (1, .int a)]) hx hb dX3_isHeld_29 hl (k := 1) rfl rfl (by decide) rfl (fun ls hl => ?_)
            refine lv_goto (tgt := 4) hx hb dX3_isHeld_32 (by decide) ?_
            have hj := nI_ub (n := 4) (by omega) (by omega) c6
            have hl := lv_sub hl [0, 1, 2, 3] rfl
            rw [nI_1] at hl
            exact ih (j + 1) 1 (by omega) (by omega) (Or.inl ⟨⟨j, by omega, c20⟩, rfl⟩) H locs ls I hl
  refine lv_iconst (v := 0) hx hb dX3_isHeld_0 (by decide) ?_
  refine lv_istore_n (lv' := [(2, .int 0), (0, .ref o), (1, .int a)]) hx hb dX3_isHeld_1 rfl hl (by decide) rfl (fun ls hl => ?_)
  refine lv_iconst (v := 0) hx hb dX3_isHeld_2 (by decide) ?_
  refine lv_istore_n (lv' := [(3, .int 0), (2, .int 0), (0, .ref o), (1, .int a)]) hx hb dX3_isHeld_3 rfl hl (by decide) rfl (fun ls hl => ?_)
  exact L1 5 0 0 (by omega) (by omega) (Or.inr ⟨fun ⟨i, h1, _⟩ => by omega, rfl⟩) _ _ ls I (lv_sub hl [0, 1, 2, 3] rfl)

section MI5
variable {p : Program} {l : Launch} {e : Env} {R : Room} {s : State} {m : MethodId} {args : Array Value} {below : List Frame} {meth : Method} {c : Code} {H H0 : Heap} {locs : List Loc} {cells slots : Nat} {Q : State → Prop}
variable {cc : ByteArray} {pc : Nat} {ls : Array Slot} {rest st0 : List Value} {Ts : List Cond} {index nL : Nat} {own : String} {D : va_G} {o : Nat} {ad : Nat → Nat} {cA : ClassId} {S : tr_S}
theorem m_isHeld {n : Nat} (hn : S.1 4 = nI n) (hn40 : n ≤ 40) (X : CallFix p m c cc nL s args Ts own) (hG : GoodIn Ts (wsV own index RX3 yX3_isHeld wsX3_isHeld)) (hR : 0 + 1 ≤ R.frames ∧ 8 + (4 + 11) + 0 ≤ R.locals) (hf : cells ≤ R.cells ∧ slots ≤ R.slots) (I : m_I D o ad cA S s H0 H locs) (hsize : ls.size = nL) (hroom : (rest.map fun v => v.category).sum ≤ 8) {a : Int32} (hdg : decode cc pc = .ok (.invokevirtual index, 3))
    (kt : f_held S a → ∀ (H1 : Heap) (locs1 : List Loc), m_I D o ad cA S s H0 H1 locs1 → W p l e R s m args below meth c H1 locs1 cells slots Q (F0 m (pc + 3) ls (.int 1 :: rest))) (kf : ¬ f_held S a → ∀ (H1 : Heap) (locs1 : List Loc), m_I D o ad cA S s H0 H1 locs1 → W p l e R s m args below meth c H1 locs1 cells slots Q (F0 m (pc + 3) ls (.int 0 :: rest))) : W p l e R s m args below meth c H locs cells slots Q (F0 m pc ls (.int a :: .ref o :: rest)) := by
  refine m_calli (rest := rest) X (c_X3_isHeld l D o ad cA S a n hn hn40) (cwV 1 X.2.2.2.2 hG rfl rfl rfl (by decide +kernel) hR) I rfl hsize rfl hroom hdg hf (fun x S1 H1 locs1 hp I1 => ?_)
  obtain ⟨rfl, ⟨h, rfl⟩ | ⟨h, rfl⟩⟩ := hp
  · exact kt h H1 locs1 I1
  · exact kf h H1 locs1 I1
end MI5
theorem nI_10 {q k : Nat} (h : 10 * q + k < 2 ^ 31) : (10 * nI q + nI k).toNatClampNeg = 10 * q + k := by
  rw [show (10 : Int32) = nI 10 from rfl, pk_mul, nI_add, nI_clamp h]
def f_zero (q : Nat) : Nat → tr_S → tr_S
  | 0, S => S
  | n + 1, S => sA (f_zero q n S) 3 (10 * q + n) 0
def f_row (r z : Int32) (q : Nat) (S : tr_S) : Int32 × tr_S := if (0 ≤ r ∧ r ≤ 3) ∧ (-1 ≤ z ∧ z ≤ 10) then (if 0 ≤ z then (1, sA (f_zero q 10 (sA S 2 q z)) 1 r.toNatClampNeg (nI q)) else (1, sA S 1 r.toNatClampNeg (-1))) else (-1, S)
def f_share (r q : Int32) (S : tr_S) : Int32 × tr_S := if (0 ≤ r ∧ r ≤ 3) ∧ (0 ≤ q ∧ q ≤ 3) then (if 0 ≤ S.2 1 q.toNatClampNeg then 1 else 0, sA S 1 r.toNatClampNeg (S.2 1 q.toNatClampNeg)) else (-1, S)
def f_put (r i v : Int32) (S : tr_S) : Int32 × tr_S := if 0 ≤ r ∧ r ≤ 3 then (if 0 ≤ S.2 1 r.toNatClampNeg then (if 0 ≤ i ∧ i ≤ S.2 2 (S.2 1 r.toNatClampNeg).toNatClampNeg - 1 then (1, sA S 3 (10 * S.2 1 r.toNatClampNeg + i).toNatClampNeg v) else (-12, S)) else (-13, S)) else (-1, S)
def f_item (r i : Int32) (S : tr_S) : Int64 := if (0 ≤ r ∧ r ≤ 3) ∧ 0 ≤ S.2 1 r.toNatClampNeg ∧ (0 ≤ i ∧ i ≤ S.2 2 (S.2 1 r.toNatClampNeg).toNatClampNeg - 1) then (S.2 3 (10 * S.2 1 r.toNatClampNeg + i).toNatClampNeg).toInt64 else -9223372036854775808
/-- what is asked of the rows -/
def w_rows (S : tr_S) : Prop := ∀ k, k < 4 → 0 ≤ S.2 1 k → s_ok S (S.2 1 k)
/-- a row that none holds, the least -/
def w_new (S : tr_S) (q : Nat) : Prop := q < 48 ∧ ¬ f_held S (nI q) ∧ ∀ j, j < q → f_held S (nI j)
set_option maxHeartbeats 4000000 in
set_option maxRecDepth 100000 in
theorem c_X3_newRow (l : Launch) (D : va_G) (o : Nat) (ad : Nat → Nat) (cA : ClassId) (S0 : tr_S) (z : Int32) (q n : Nat) (hq : w_new S0 q) (hn : S0.1 4 = nI n) (hn40 : n ≤ 40) : m_Mi l yX3_newRow wsX3_newRow { frames := 1, cells := 0, slots := 0, locals := 23 } [.int z] D o ad cA S0 (fun x S => x = nI q ∧ S = f_zero q 10 (sA S0 2 q z)) := by
  refine Met.ofW (cc := cX3_newRow) (maxL := 4) (ret := (some .int)) (by decide) rfl ?_
  intro p e s m args below meth c s₁ B hml hv
  obtain ⟨rfl, hB⟩ := hv
  have hx := B.exec
  have hb := B.bytes
  have hr := B.returns
  have hts := atoms_spec (ws := wsX3_newRow) B.pre
  have hown : s.vm.findClass RX3 = some m.cls := findClass_of_methodNamed B.named
  have hlocks := B.notSynchronized
  have I := m_I.of hB
  have hin : ∀ w ∈ wsX30, w ∈ wsX3_newRow := fun _ h => List.mem_cons_of_mem _ (List.mem_append_right _ h)
  have L16 := hts (.fieldLink RX3 16 "TollRulesModel" "size" "[I") (by decide +kernel)
  have L19 := hts (.fieldLink RX3 19 "TollRulesModel" "item" "[I") (by decide +kernel)
  have hl := lv_entry ([.ref o, .int z]) (n := 4) (Nat.le_of_ble_eq_true rfl)
  rw [lg_entry_eq]
  generalize (lg_sl ([.ref o, .int z]) ++ List.replicate (4 - (lg_sl ([.ref o, .int z])).length) Slot.unset).toArray = ls at hl ⊢
  have hl : lv_has ls 4 [(0, .ref o), (1, .int z)] := hl
  have hq1 := hq.1
  have LB : ∀ (d k : Nat), 10 - k < d → k ≤ 10 → ∀ (H : Heap) (locs : List Loc) (ls : Array Slot), m_I D o ad cA (f_zero q k (sA S0 2 q z)) s s.heap H locs → lv_has ls 4 [(3, .int (nI k)), (2, .int (nI q)), (0, .ref o), (1, .int z)] → W p l e (headSpec wsX3_newRow { frames := 1, cells := 0, slots := 0, locals := 23 }).room s m (([.ref o, .int z] : List Value).toArray) below meth c H locs 0 0 (MQ below (va_Qi (fun x S => x = nI q ∧ S = f_zero q 10 (sA S0 2 q z)) (m_B D o ad cA) (m_A o ad)) (([.ref o, .int z] : List Value).toArray) s 0 0 (m_A o ad)) (F0 m 25 ls []) := by
    intro d
    induction d with
    | zero => intro k hk; omega
    | succ d ih =>
      intro k hk hk10 H locs ls I hl
      refine lv_iload_n hx hb dX3_newRow_25 rfl (lv_at hl 0 rfl) ?_
      refine lv_bipush (v := 10) hx hb dX3_newRow_26 (by decide) ?_
      refine lv_icmp_ge (tgt := 49) hx hb dX3_newRow_28 (by decide) (fun c28 => ?_) (fun c28 => ?_)
      · refine lv_iload_n hx hb dX3_newRow_49 rfl (lv_at hl 1 rfl) ?_
        have hk9 := nI_lb (n := 10) (by omega) (by decide) c28
        obtain rfl : k = 10 := by omega
        exact m_iret hx hb hr hlocks I dX3_newRow_50 ⟨rfl, rfl⟩
      · refine lv_aload_n hx hb dX3_newRow_31 rfl (lv_at hl 2 rfl) ?_
        refine m_get3 hx hb hts hin hown I L19 dX3_newRow_32 ?_
        refine lv_bipush (v := 10) hx hb dX3_newRow_35 (by decide) ?_
        refine lv_iload_n hx hb dX3_newRow_37 rfl (lv_at hl 1 rfl) ?_
        refine lv_imul hx hb dX3_newRow_38 ?_
        refine lv_iload_n hx hb dX3_newRow_39 rfl (lv_at hl 0 rfl) ?_
        refine lv_iadd hx hb dX3_newRow_40 ?_
        refine lv_iconst (v := 0) hx hb dX3_newRow_41 (by decide) ?_
        refine m_ast3 hx hb I (by rw [show (10 : Int32) = nI 10 from rfl, pk_mul, nI_add]; exact vp_in_nI (by have := nI_ub (n := 10) (by omega) (by decide) c28; have := hq.1; omega) (by decide)) dX3_newRow_42 (fun H locs I => ?_)
        rw [nI_10 (q := q) (k := k) (by omega)] at I
        refine lv_iinc (v := (nI k) + 1) (lv' := [(3, .int ((nI k) + 1)), (2, .int (nI q)), (0, .ref o), (1, .int z)]) hx hb dX3_newRow_43 hl (k := 0) rfl rfl (by decide) rfl (fun ls hl => ?_)
        refine lv_goto (tgt := 25) hx hb dX3_newRow_46 (by decide) ?_
        have hk9 := nI_ub (n := 10) (by omega) (by decide) c28
        have hl := lv_sub hl [0, 1, 2, 3] rfl
        rw [nI_1] at hl
        exact ih (k + 1) (by omega) (by omega) H locs ls I hl
  have LA : ∀ (d j : Nat), q - j < d → j ≤ q → ∀ (H : Heap) (locs : List Loc) (ls : Array Slot), m_I D o ad cA S0 s s.heap H locs → lv_has ls 4 [(2, .int (nI j)), (0, .ref o), (1, .int z)] → W p l e (headSpec wsX3_newRow { frames := 1, cells := 0, slots := 0, locals := 23 }).room s m (([.ref o, .int z] : List Value).toArray) below meth c H locs 0 0 (MQ below (va_Qi (fun x S => x = nI q ∧ S = f_zero q 10 (sA S0 2 q z)) (m_B D o ad cA) (m_A o ad)) (([.ref o, .int z] : List Value).toArray) s 0 0 (m_A o ad)) (F0 m 2 ls []) := by
    intro d
    induction d with
    | zero => intro j hj; omega
    | succ d ih =>
      intro j hj hjq H locs ls I hl
      refine lv_aload_n hx hb dX3_newRow_2 rfl (lv_at hl 1 rfl) ?_
      refine lv_iload_n hx hb dX3_newRow_3 rfl (lv_at hl 0 rfl) ?_
      refine m_isHeld hn hn40 ⟨hx, hb, hml, hown, hts⟩ gX3_newRow_X3_isHeld ⟨Nat.le_of_ble_eq_true rfl, Nat.le_of_ble_eq_true rfl⟩ ⟨Nat.le_refl _, Nat.le_refl _⟩ I hl.1 (Nat.le_of_ble_eq_true rfl) dX3_newRow_4 (fun h4 H locs I => ?_) (fun h4 H locs I => ?_)
      · refine lv_if_eq (tgt := 16) hx hb dX3_newRow_7 (by decide) (fun h => absurd h (by decide)) (fun _ => ?_)
        refine lv_iinc (v := (nI j) + 1) (lv' := [(2, .int ((nI j) + 1)), (0, .ref o), (1, .int z)]) hx hb dX3_newRow_10 hl (k := 0) rfl rfl (by decide) rfl (fun ls hl => ?_)
        refine lv_goto (tgt := 2) hx hb dX3_newRow_13 (by decide) ?_
        have hne : j ≠ q := fun h => hq.2.1 (h ▸ h4)
        have hl := lv_sub hl [0, 1, 2] rfl
        rw [nI_1] at hl
        exact ih (j + 1) (by omega) (by omega) H locs ls I hl
      · refine lv_if_eq (tgt := 16) hx hb dX3_newRow_7 (by decide) (fun _ => ?_) (fun h => absurd h (by decide))
        rw [show j = q from Nat.le_antisymm hjq (Nat.not_lt.mp (fun h => h4 (hq.2.2 j h)))] at hl
        refine lv_aload_n hx hb dX3_newRow_16 rfl (lv_at hl 1 rfl) ?_
        refine m_get2 hx hb hts hin hown I L16 dX3_newRow_17 ?_
        refine lv_iload_n hx hb dX3_newRow_20 rfl (lv_at hl 0 rfl) ?_
        refine lv_iload_n hx hb dX3_newRow_21 rfl (lv_at hl 2 rfl) ?_
        refine m_ast2 hx hb I (vp_in_nI hq.1 (by decide)) dX3_newRow_22 (fun H locs I => ?_)
        rw [nI_clamp (show q < 2 ^ 31 by omega)] at I
        refine lv_iconst (v := 0) hx hb dX3_newRow_23 (by decide) ?_
        refine lv_istore_n (lv' := [(3, .int 0), (2, .int (nI q)), (0, .ref o), (1, .int z)]) hx hb dX3_newRow_24 rfl hl (by decide) rfl (fun ls hl => ?_)
        exact LB 11 0 (by omega) (by omega) H locs ls I (lv_sub hl [0, 1, 2, 3] rfl)
  refine lv_iconst (v := 0) hx hb dX3_newRow_0 (by decide) ?_
  refine lv_istore_n (lv' := [(2, .int 0), (0, .ref o), (1, .int z)]) hx hb dX3_newRow_1 rfl hl (by decide) rfl (fun ls hl => ?_)
  exact LA (q + 1) 0 (by omega) (by omega) _ _ ls I (lv_sub hl [0, 1, 2] rfl)

set_option maxHeartbeats 4000000 in
set_option maxRecDepth 100000 in
theorem c_X3_row (l : Launch) (D : va_G) (o : Nat) (ad : Nat → Nat) (cA : ClassId) (S0 : tr_S) (r z : Int32) (q n : Nat) (hq : w_new S0 q) (hn : S0.1 4 = nI n) (hn40 : n ≤ 40) : m_Mi l yX3_row wsX3_row { frames := 2, cells := 0, slots := 0, locals := 46 } [.int r, .int z] D o ad cA S0 (fun x S => (x, S) = f_row r z q S0) := by
  refine Met.ofW (cc := cX3_row) (maxL := 4) (ret := (some .int)) (by decide) rfl ?_
  intro p e s m args below meth c s₁ B hml hv
  obtain ⟨rfl, hB⟩ := hv
  have hx := B.exec
  have hb := B.bytes
  have hr := B.returns
  have hts := atoms_spec (ws := wsX3_row) B.pre
  have hown : s.vm.findClass RX3 = some m.cls := findClass_of_methodNamed B.named
  have hlocks := B.notSynchronized
  have I := m_I.of hB
  have hin : ∀ w ∈ wsX30, w ∈ wsX3_row := fun _ h => List.mem_cons_of_mem _ (List.mem_append_right _ h)
  have L13 := hts (.fieldLink RX3 13 "TollRulesModel" "rowOf" "[I") (by decide +kernel)
  have hl := lv_entry ([.ref o, .int r, .int z]) (n := 4) (Nat.le_of_ble_eq_true rfl)
  rw [lg_entry_eq]
  generalize (lg_sl ([.ref o, .int r, .int z]) ++ List.replicate (4 - (lg_sl ([.ref o, .int r, .int z])).length) Slot.unset).toArray = ls at hl ⊢
  have hl : lv_has ls 4 [(0, .ref o), (1, .int r), (2, .int z)] := hl
  refine lv_iload_n hx hb dX3_row_0 rfl (lv_at hl 1 rfl) ?_
  refine lv_iconst (v := 0) hx hb dX3_row_1 (by decide) ?_
  refine lv_iconst (v := 3) hx hb dX3_row_2 (by decide) ?_
  refine m_in ⟨hx, hb, hml, hown, hts⟩ gX3_row_X3_in ⟨Nat.le_of_ble_eq_true rfl, Nat.le_of_ble_eq_true rfl⟩ ⟨Nat.le_refl _, Nat.le_refl _⟩ hl.1 (Nat.le_of_ble_eq_true rfl) dX3_row_3 (fun h3 => ?_) (fun h3 => ?_)
  · refine lv_if_eq (tgt := 19) hx hb dX3_row_6 (by decide) (fun h => absurd h (by decide)) (fun _ => ?_)
    refine lv_iload_n hx hb dX3_row_9 rfl (lv_at hl 2 rfl) ?_
    refine lv_iconst (v := (-1)) hx hb dX3_row_10 (by decide) ?_
    refine lv_bipush (v := 10) hx hb dX3_row_11 (by decide) ?_
    refine m_in ⟨hx, hb, hml, hown, hts⟩ gX3_row_X3_in ⟨Nat.le_of_ble_eq_true rfl, Nat.le_of_ble_eq_true rfl⟩ ⟨Nat.le_refl _, Nat.le_refl _⟩ hl.1 (Nat.le_of_ble_eq_true rfl) dX3_row_13 (fun h13 => ?_) (fun h13 => ?_)
    · refine lv_if_ne (tgt := 21) hx hb dX3_row_16 (by decide) (fun _ => ?_) (fun h => absurd h (by decide))
      refine lv_iload_n hx hb dX3_row_21 rfl (lv_at hl 2 rfl) ?_
      refine lv_if_ge (tgt := 35) hx hb dX3_row_22 (by decide) (fun c22 => ?_) (fun c22 => ?_)
      · refine lv_aload_n hx hb dX3_row_35 rfl (lv_at hl 0 rfl) ?_
        refine lv_iload_n hx hb dX3_row_36 rfl (lv_at hl 2 rfl) ?_
        refine m_calli (rest := []) ⟨hx, hb, hml, hown, hts⟩ (c_X3_newRow l D o ad cA S0 z q n hq hn hn40) (cwV 1 hts gX3_row_X3_newRow rfl rfl rfl (by decide +kernel) ⟨Nat.le_of_ble_eq_true rfl, Nat.le_of_ble_eq_true rfl⟩) I rfl hl.1 rfl (Nat.le_of_ble_eq_true rfl) dX3_row_37 ⟨Nat.le_refl _, Nat.le_refl _⟩ (fun r37 S37 H locs p37 I => ?_)
        refine lv_istore_n (lv' := [(3, .int r37), (0, .ref o), (1, .int r), (2, .int z)]) hx hb dX3_row_40 rfl hl (by decide) rfl (fun ls hl => ?_)
        refine lv_aload_n hx hb dX3_row_41 rfl (lv_at hl 1 rfl) ?_
        refine m_get1 hx hb hts hin hown I L13 dX3_row_42 ?_
        refine lv_iload_n hx hb dX3_row_45 rfl (lv_at hl 2 rfl) ?_
        refine lv_iload_n hx hb dX3_row_46 rfl (lv_at hl 0 rfl) ?_
        refine m_ast1 hx hb I (ix_of h3 (by decide) (by decide)) dX3_row_47 (fun H locs I => ?_)
        refine lv_iconst (v := 1) hx hb dX3_row_48 (by decide) ?_
        obtain ⟨rfl, rfl⟩ := p37
        exact m_iret hx hb hr hlocks I dX3_row_49 (by simp [f_row, h3, h13, c22])
      · refine lv_aload_n hx hb dX3_row_25 rfl (lv_at hl 0 rfl) ?_
        refine m_get1 hx hb hts hin hown I L13 dX3_row_26 ?_
        refine lv_iload_n hx hb dX3_row_29 rfl (lv_at hl 1 rfl) ?_
        refine lv_iconst (v := (-1)) hx hb dX3_row_30 (by decide) ?_
        refine m_ast1 hx hb I (ix_of h3 (by decide) (by decide)) dX3_row_31 (fun H locs I => ?_)
        refine lv_goto (tgt := 48) hx hb dX3_row_32 (by decide) ?_
        refine lv_iconst (v := 1) hx hb dX3_row_48 (by decide) ?_
        exact m_iret hx hb hr hlocks I dX3_row_49 (by simp [f_row, h3, h13, c22])
    · refine lv_if_ne (tgt := 21) hx hb dX3_row_16 (by decide) (fun h => absurd h (by decide)) (fun _ => ?_)
      refine lv_iconst (v := (-1)) hx hb dX3_row_19 (by decide) ?_
      exact m_iret hx hb hr hlocks I dX3_row_20 (by simp [f_row, h3, h13])
  · refine lv_if_eq (tgt := 19) hx hb dX3_row_6 (by decide) (fun _ => ?_) (fun h => absurd h (by decide))
    refine lv_iconst (v := (-1)) hx hb dX3_row_19 (by decide) ?_
    exact m_iret hx hb hr hlocks I dX3_row_20 (by simp [f_row, h3])

set_option maxHeartbeats 4000000 in
set_option maxRecDepth 100000 in
theorem c_X3_share (l : Launch) (D : va_G) (o : Nat) (ad : Nat → Nat) (cA : ClassId) (S0 : tr_S) (r q : Int32) : m_Mi l yX3_share wsX3_share { frames := 1, cells := 0, slots := 0, locals := 22 } [.int r, .int q] D o ad cA S0 (fun x S => (x, S) = f_share r q S0) := by
  refine Met.ofW (cc := cX3_share) (maxL := 3) (ret := (some .int)) (by decide) rfl ?_
  intro p e s m args below meth c s₁ B hml hv
  obtain ⟨rfl, hB⟩ := hv
  have hx := B.exec
  have hb := B.bytes
  have hr := B.returns
  have hts := atoms_spec (ws := wsX3_share) B.pre
  have hown : s.vm.findClass RX3 = some m.cls := findClass_of_methodNamed B.named
  have hlocks := B.notSynchronized
  have I := m_I.of hB
  have hin : ∀ w ∈ wsX30, w ∈ wsX3_share := fun _ h => List.mem_cons_of_mem _ (List.mem_append_right _ h)
  have L13 := hts (.fieldLink RX3 13 "TollRulesModel" "rowOf" "[I") (by decide +kernel)
  have hl := lv_entry ([.ref o, .int r, .int q]) (n := 3) (Nat.le_of_ble_eq_true rfl)
  rw [lg_entry_eq]
  generalize (lg_sl ([.ref o, .int r, .int q]) ++ List.replicate (3 - (lg_sl ([.ref o, .int r, .int q])).length) Slot.unset).toArray = ls at hl ⊢
  have hl : lv_has ls 3 [(0, .ref o), (1, .int r), (2, .int q)] := hl
  refine lv_iload_n hx hb dX3_share_0 rfl (lv_at hl 1 rfl) ?_
  refine lv_iconst (v := 0) hx hb dX3_share_1 (by decide) ?_
  refine lv_iconst (v := 3) hx hb dX3_share_2 (by decide) ?_
  refine m_in ⟨hx, hb, hml, hown, hts⟩ gX3_share_X3_in ⟨Nat.le_of_ble_eq_true rfl, Nat.le_of_ble_eq_true rfl⟩ ⟨Nat.le_refl _, Nat.le_refl _⟩ hl.1 (Nat.le_of_ble_eq_true rfl) dX3_share_3 (fun h3 => ?_) (fun h3 => ?_)
  · refine lv_if_eq (tgt := 18) hx hb dX3_share_6 (by decide) (fun h => absurd h (by decide)) (fun _ => ?_)
    refine lv_iload_n hx hb dX3_share_9 rfl (lv_at hl 2 rfl) ?_
    refine lv_iconst (v := 0) hx hb dX3_share_10 (by decide) ?_
    refine lv_iconst (v := 3) hx hb dX3_share_11 (by decide) ?_
    refine m_in ⟨hx, hb, hml, hown, hts⟩ gX3_share_X3_in ⟨Nat.le_of_ble_eq_true rfl, Nat.le_of_ble_eq_true rfl⟩ ⟨Nat.le_refl _, Nat.le_refl _⟩ hl.1 (Nat.le_of_ble_eq_true rfl) dX3_share_12 (fun h12 => ?_) (fun h12 => ?_)
    · refine lv_if_ne (tgt := 20) hx hb dX3_share_15 (by decide) (fun _ => ?_) (fun h => absurd h (by decide))
      refine lv_aload_n hx hb dX3_share_20 rfl (lv_at hl 0 rfl) ?_
      refine m_get1 hx hb hts hin hown I L13 dX3_share_21 ?_
      refine lv_iload_n hx hb dX3_share_24 rfl (lv_at hl 1 rfl) ?_
      refine lv_aload_n hx hb dX3_share_25 rfl (lv_at hl 0 rfl) ?_
      refine m_get1 hx hb hts hin hown I L13 dX3_share_26 ?_
      refine lv_iload_n hx hb dX3_share_29 rfl (lv_at hl 2 rfl) ?_
      refine m_ald1 hx hb I (ix_of h12 (by decide) (by decide)) dX3_share_30 (x := S0.2 1 q.toNatClampNeg) rfl ?_
      refine m_ast1 hx hb I (ix_of h3 (by decide) (by decide)) dX3_share_31 (fun H locs I => ?_)
      refine lv_aload_n hx hb dX3_share_32 rfl (lv_at hl 0 rfl) ?_
      refine m_get1 hx hb hts hin hown I L13 dX3_share_33 ?_
      refine lv_iload_n hx hb dX3_share_36 rfl (lv_at hl 2 rfl) ?_
      refine m_ald1 hx hb I (ix_of h12 (by decide) (by decide)) dX3_share_37 (x := (sA S0 1 r.toNatClampNeg (S0.2 1 q.toNatClampNeg)).2 1 q.toNatClampNeg) rfl ?_
      refine lv_if_ge (tgt := 45) hx hb dX3_share_38 (by decide) (fun c38 => ?_) (fun c38 => ?_)
      · refine lv_iconst (v := 1) hx hb dX3_share_45 (by decide) ?_
        simp only [sA_A, ite_self, if_true] at c38
        exact m_iret hx hb hr hlocks I dX3_share_46 (by simp [f_share, h3, h12, c38])
      · refine lv_iconst (v := 0) hx hb dX3_share_41 (by decide) ?_
        refine lv_goto (tgt := 46) hx hb dX3_share_42 (by decide) ?_
        simp only [sA_A, ite_self, if_true] at c38
        exact m_iret hx hb hr hlocks I dX3_share_46 (by simp [f_share, h3, h12, c38])
    · refine lv_if_ne (tgt := 20) hx hb dX3_share_15 (by decide) (fun h => absurd h (by decide)) (fun _ => ?_)
      refine lv_iconst (v := (-1)) hx hb dX3_share_18 (by decide) ?_
      exact m_iret hx hb hr hlocks I dX3_share_19 (by simp [f_share, h3, h12])
  · refine lv_if_eq (tgt := 18) hx hb dX3_share_6 (by decide) (fun _ => ?_) (fun h => absurd h (by decide))
    refine lv_iconst (v := (-1)) hx hb dX3_share_18 (by decide) ?_
    exact m_iret hx hb hr hlocks I dX3_share_19 (by simp [f_share, h3])

set_option maxHeartbeats 4000000 in
set_option maxRecDepth 100000 in
theorem c_X3_put (l : Launch) (D : va_G) (o : Nat) (ad : Nat → Nat) (cA : ClassId) (S0 : tr_S) (r i v : Int32) (K : w_rows S0) : m_Mi l yX3_put wsX3_put { frames := 1, cells := 0, slots := 0, locals := 22 } [.int r, .int i, .int v] D o ad cA S0 (fun x S => (x, S) = f_put r i v S0) := by
  refine Met.ofW (cc := cX3_put) (maxL := 4) (ret := (some .int)) (by decide) rfl ?_
  intro p e s m args below meth c s₁ B hml hv
  obtain ⟨rfl, hB⟩ := hv
  have hx := B.exec
  have hb := B.bytes
  have hr := B.returns
  have hts := atoms_spec (ws := wsX3_put) B.pre
  have hown : s.vm.findClass RX3 = some m.cls := findClass_of_methodNamed B.named
  have hlocks := B.notSynchronized
  have I := m_I.of hB
  have hin : ∀ w ∈ wsX30, w ∈ wsX3_put := fun _ h => List.mem_cons_of_mem _ (List.mem_append_right _ h)
  have L13 := hts (.fieldLink RX3 13 "TollRulesModel" "rowOf" "[I") (by decide +kernel)
  have L16 := hts (.fieldLink RX3 16 "TollRulesModel" "size" "[I") (by decide +kernel)
  have L19 := hts (.fieldLink RX3 19 "TollRulesModel" "item" "[I") (by decide +kernel)
  have hl := lv_entry ([.ref o, .int r, .int i, .int v]) (n := 4) (Nat.le_of_ble_eq_true rfl)
  rw [lg_entry_eq]
  generalize (lg_sl ([.ref o, .int r, .int i, .int v]) ++ List.replicate (4 - (lg_sl ([.ref o, .int r, .int i, .int v])).length) Slot.unset).toArray = ls at hl ⊢
  have hl : lv_has ls 4 [(0, .ref o), (1, .int r), (2, .int i), (3, .int v)] := hl
  refine lv_iload_n hx hb dX3_put_0 rfl (lv_at hl 1 rfl) ?_
  refine lv_iconst (v := 0) hx hb dX3_put_1 (by decide) ?_
  refine lv_iconst (v := 3) hx hb dX3_put_2 (by decide) ?_
  refine m_in ⟨hx, hb, hml, hown, hts⟩ gX3_put_X3_in ⟨Nat.le_of_ble_eq_true rfl, Nat.le_of_ble_eq_true rfl⟩ ⟨Nat.le_refl _, Nat.le_refl _⟩ hl.1 (Nat.le_of_ble_eq_true rfl) dX3_put_3 (fun h3 => ?_) (fun h3 => ?_)
  · refine lv_if_ne (tgt := 11) hx hb dX3_put_6 (by decide) (fun _ => ?_) (fun h => absurd h (by decide))
    refine lv_aload_n hx hb dX3_put_11 rfl (lv_at hl 0 rfl) ?_
    refine m_get1 hx hb hts hin hown I L13 dX3_put_12 ?_
    refine lv_iload_n hx hb dX3_put_15 rfl (lv_at hl 1 rfl) ?_
    refine m_ald1 hx hb I (ix_of h3 (by decide) (by decide)) dX3_put_16 (x := S0.2 1 r.toNatClampNeg) rfl ?_
    refine lv_if_ge (tgt := 23) hx hb dX3_put_17 (by decide) (fun c17 => ?_) (fun c17 => ?_)
    · refine lv_iload_n hx hb dX3_put_23 rfl (lv_at hl 2 rfl) ?_
      refine lv_iconst (v := 0) hx hb dX3_put_24 (by decide) ?_
      refine lv_aload_n hx hb dX3_put_25 rfl (lv_at hl 0 rfl) ?_
      refine m_get2 hx hb hts hin hown I L16 dX3_put_26 ?_
      refine lv_aload_n hx hb dX3_put_29 rfl (lv_at hl 0 rfl) ?_
      refine m_get1 hx hb hts hin hown I L13 dX3_put_30 ?_
      refine lv_iload_n hx hb dX3_put_33 rfl (lv_at hl 1 rfl) ?_
      refine m_ald1 hx hb I (ix_of h3 (by decide) (by decide)) dX3_put_34 (x := S0.2 1 r.toNatClampNeg) rfl ?_
      refine m_ald2 hx hb I (K _ (ix_nI (ix_of h3 (by decide) (by decide)) (by decide)).2 c17).1 dX3_put_35 (x := S0.2 2 ((S0.2 1 r.toNatClampNeg).toNatClampNeg)) rfl ?_
      refine lv_iconst (v := 1) hx hb dX3_put_36 (by decide) ?_
      refine lv_isub hx hb dX3_put_37 ?_
      refine m_in ⟨hx, hb, hml, hown, hts⟩ gX3_put_X3_in ⟨Nat.le_of_ble_eq_true rfl, Nat.le_of_ble_eq_true rfl⟩ ⟨Nat.le_refl _, Nat.le_refl _⟩ hl.1 (Nat.le_of_ble_eq_true rfl) dX3_put_38 (fun h38 => ?_) (fun h38 => ?_)
      · refine lv_if_ne (tgt := 47) hx hb dX3_put_41 (by decide) (fun _ => ?_) (fun h => absurd h (by decide))
        refine lv_aload_n hx hb dX3_put_47 rfl (lv_at hl 0 rfl) ?_
        refine m_get3 hx hb hts hin hown I L19 dX3_put_48 ?_
        refine lv_bipush (v := 10) hx hb dX3_put_51 (by decide) ?_
        refine lv_aload_n hx hb dX3_put_53 rfl (lv_at hl 0 rfl) ?_
        refine m_get1 hx hb hts hin hown I L13 dX3_put_54 ?_
        refine lv_iload_n hx hb dX3_put_57 rfl (lv_at hl 1 rfl) ?_
        refine m_ald1 hx hb I (ix_of h3 (by decide) (by decide)) dX3_put_58 (x := S0.2 1 r.toNatClampNeg) rfl ?_
        refine lv_imul hx hb dX3_put_59 ?_
        refine lv_iload_n hx hb dX3_put_60 rfl (lv_at hl 2 rfl) ?_
        refine lv_iadd hx hb dX3_put_61 ?_
        refine lv_iload_n hx hb dX3_put_62 rfl (lv_at hl 3 rfl) ?_
        refine m_ast3 hx hb I (ix_item (K _ (ix_nI (ix_of h3 (by decide) (by decide)) (by decide)).2 c17).1 (ix_size h38 (K _ (ix_nI (ix_of h3 (by decide) (by decide)) (by decide)).2 c17).2)) dX3_put_63 (fun H locs I => ?_)
        refine lv_iconst (v := 1) hx hb dX3_put_64 (by decide) ?_
        exact m_iret hx hb hr hlocks I dX3_put_65 (by simp [f_put, h3, c17, h38])
      · refine lv_if_ne (tgt := 47) hx hb dX3_put_41 (by decide) (fun h => absurd h (by decide)) (fun _ => ?_)
        refine lv_bipush (v := (-12)) hx hb dX3_put_44 (by decide) ?_
        exact m_iret hx hb hr hlocks I dX3_put_46 (by simp [f_put, h3, c17, h38])
    · refine lv_bipush (v := (-13)) hx hb dX3_put_20 (by decide) ?_
      exact m_iret hx hb hr hlocks I dX3_put_22 (by simp [f_put, h3, c17])
  · refine lv_if_ne (tgt := 11) hx hb dX3_put_6 (by decide) (fun h => absurd h (by decide)) (fun _ => ?_)
    refine lv_iconst (v := (-1)) hx hb dX3_put_9 (by decide) ?_
    exact m_iret hx hb hr hlocks I dX3_put_10 (by simp [f_put, h3])

set_option maxHeartbeats 4000000 in
set_option maxRecDepth 100000 in
theorem c_X3_item (l : Launch) (D : va_G) (o : Nat) (ad : Nat → Nat) (cA : ClassId) (S0 : tr_S) (r i : Int32) (K : w_rows S0) : m_Ml l yX3_item wsX3_item { frames := 1, cells := 0, slots := 0, locals := 22 } [.int r, .int i] D o ad cA S0 (fun x S => x = f_item r i S0 ∧ S = S0) := by
  refine Met.ofW (cc := cX3_item) (maxL := 3) (ret := (some .long)) (by decide) rfl ?_
  intro p e s m args below meth c s₁ B hml hv
  obtain ⟨rfl, hB⟩ := hv
  have hx := B.exec
  have hb := B.bytes
  have hr := B.returns
  have hts := atoms_spec (ws := wsX3_item) B.pre
  have hown : s.vm.findClass RX3 = some m.cls := findClass_of_methodNamed B.named
  have hlocks := B.notSynchronized
  have I := m_I.of hB
  have hin : ∀ w ∈ wsX30, w ∈ wsX3_item := fun _ h => List.mem_cons_of_mem _ (List.mem_append_right _ h)
  have L13 := hts (.fieldLink RX3 13 "TollRulesModel" "rowOf" "[I") (by decide +kernel)
  have L16 := hts (.fieldLink RX3 16 "TollRulesModel" "size" "[I") (by decide +kernel)
  have L19 := hts (.fieldLink RX3 19 "TollRulesModel" "item" "[I") (by decide +kernel)
  have hl := lv_entry ([.ref o, .int r, .int i]) (n := 3) (Nat.le_of_ble_eq_true rfl)
  rw [lg_entry_eq]
  generalize (lg_sl ([.ref o, .int r, .int i]) ++ List.replicate (3 - (lg_sl ([.ref o, .int r, .int i])).length) Slot.unset).toArray = ls at hl ⊢
  have hl : lv_has ls 3 [(0, .ref o), (1, .int r), (2, .int i)] := hl
  refine lv_iload_n hx hb dX3_item_0 rfl (lv_at hl 1 rfl) ?_
  refine lv_iconst (v := 0) hx hb dX3_item_1 (by decide) ?_
  refine lv_iconst (v := 3) hx hb dX3_item_2 (by decide) ?_
  refine m_in ⟨hx, hb, hml, hown, hts⟩ gX3_item_X3_in ⟨Nat.le_of_ble_eq_true rfl, Nat.le_of_ble_eq_true rfl⟩ ⟨Nat.le_refl _, Nat.le_refl _⟩ hl.1 (Nat.le_of_ble_eq_true rfl) dX3_item_3 (fun h3 => ?_) (fun h3 => ?_)
  · refine lv_if_eq (tgt := 59) hx hb dX3_item_6 (by decide) (fun h => absurd h (by decide)) (fun _ => ?_)
    refine lv_aload_n hx hb dX3_item_9 rfl (lv_at hl 0 rfl) ?_
    refine m_get1 hx hb hts hin hown I L13 dX3_item_10 ?_
    refine lv_iload_n hx hb dX3_item_13 rfl (lv_at hl 1 rfl) ?_
    refine m_ald1 hx hb I (ix_of h3 (by decide) (by decide)) dX3_item_14 (x := S0.2 1 r.toNatClampNeg) rfl ?_
    refine lv_if_lt (tgt := 59) hx hb dX3_item_15 (by decide) (fun c15 => ?_) (fun c15 => ?_)
    · refine lv_ldc2 hx hb hown (hts (.constantLong RX3 72 (-9223372036854775808)) (by decide +kernel)) dX3_item_59 ?_
      rw [← Int32.not_le] at c15
      exact m_lret hx hb hr hlocks I dX3_item_62 (⟨by simp [f_item, h3, c15], rfl⟩)
    · refine lv_iload_n hx hb dX3_item_18 rfl (lv_at hl 2 rfl) ?_
      refine lv_iconst (v := 0) hx hb dX3_item_19 (by decide) ?_
      refine lv_aload_n hx hb dX3_item_20 rfl (lv_at hl 0 rfl) ?_
      refine m_get2 hx hb hts hin hown I L16 dX3_item_21 ?_
      refine lv_aload_n hx hb dX3_item_24 rfl (lv_at hl 0 rfl) ?_
      refine m_get1 hx hb hts hin hown I L13 dX3_item_25 ?_
      refine lv_iload_n hx hb dX3_item_28 rfl (lv_at hl 1 rfl) ?_
      refine m_ald1 hx hb I (ix_of h3 (by decide) (by decide)) dX3_item_29 (x := S0.2 1 r.toNatClampNeg) rfl ?_
      refine m_ald2 hx hb I (K _ (ix_nI (ix_of h3 (by decide) (by decide)) (by decide)).2 (Int32.not_lt.mp c15)).1 dX3_item_30 (x := S0.2 2 ((S0.2 1 r.toNatClampNeg).toNatClampNeg)) rfl ?_
      refine lv_iconst (v := 1) hx hb dX3_item_31 (by decide) ?_
      refine lv_isub hx hb dX3_item_32 ?_
      refine m_in ⟨hx, hb, hml, hown, hts⟩ gX3_item_X3_in ⟨Nat.le_of_ble_eq_true rfl, Nat.le_of_ble_eq_true rfl⟩ ⟨Nat.le_refl _, Nat.le_refl _⟩ hl.1 (Nat.le_of_ble_eq_true rfl) dX3_item_33 (fun h33 => ?_) (fun h33 => ?_)
      · refine lv_if_eq (tgt := 59) hx hb dX3_item_36 (by decide) (fun h => absurd h (by decide)) (fun _ => ?_)
        refine lv_aload_n hx hb dX3_item_39 rfl (lv_at hl 0 rfl) ?_
        refine m_get3 hx hb hts hin hown I L19 dX3_item_40 ?_
        refine lv_bipush (v := 10) hx hb dX3_item_43 (by decide) ?_
        refine lv_aload_n hx hb dX3_item_45 rfl (lv_at hl 0 rfl) ?_
        refine m_get1 hx hb hts hin hown I L13 dX3_item_46 ?_
        refine lv_iload_n hx hb dX3_item_49 rfl (lv_at hl 1 rfl) ?_
        refine m_ald1 hx hb I (ix_of h3 (by decide) (by decide)) dX3_item_50 (x := S0.2 1 r.toNatClampNeg) rfl ?_
        refine lv_imul hx hb dX3_item_51 ?_
        refine lv_iload_n hx hb dX3_item_52 rfl (lv_at hl 2 rfl) ?_
        refine lv_iadd hx hb dX3_item_53 ?_
        refine m_ald3 hx hb I (ix_item (K _ (ix_nI (ix_of h3 (by decide) (by decide)) (by decide)).2 (Int32.not_lt.mp c15)).1 (ix_size h33 (K _ (ix_nI (ix_of h3 (by decide) (by decide)) (by decide)).2 (Int32.not_lt.mp c15)).2)) dX3_item_54 (x := S0.2 3 (((10 * (S0.2 1 r.toNatClampNeg)) + i).toNatClampNeg)) rfl ?_
        refine lv_i2l hx hb dX3_item_55 rfl ?_
        refine lv_goto (tgt := 62) hx hb dX3_item_56 (by decide) ?_
        rw [Int32.not_lt] at c15
        exact m_lret hx hb hr hlocks I dX3_item_62 (⟨by simp [f_item, h3, c15, h33], rfl⟩)
      · refine lv_if_eq (tgt := 59) hx hb dX3_item_36 (by decide) (fun _ => ?_) (fun h => absurd h (by decide))
        refine lv_ldc2 hx hb hown (hts (.constantLong RX3 72 (-9223372036854775808)) (by decide +kernel)) dX3_item_59 ?_
        rw [Int32.not_lt] at c15
        exact m_lret hx hb hr hlocks I dX3_item_62 (⟨by simp [f_item, h3, c15, h33], rfl⟩)
  · refine lv_if_eq (tgt := 59) hx hb dX3_item_6 (by decide) (fun _ => ?_) (fun h => absurd h (by decide))
    refine lv_ldc2 hx hb hown (hts (.constantLong RX3 72 (-9223372036854775808)) (by decide +kernel)) dX3_item_59 ?_
    exact m_lret hx hb hr hlocks I dX3_item_62 (⟨by simp [f_item, h3], rfl⟩)

def f_none (S : tr_S) : Nat → Int32
  | 0 => 0
  | k + 1 => f_none S k + (if 0 ≤ S.2 1 k then 0 else 1)
def f_count (a : Int32) (S : tr_S) : Int32 := if a = 0 then S.1 4 else if a = 1 then S.1 20 else if a = 2 then S.1 23 else if a = 3 then S.1 24 else if a = 4 then f_none S 4 else -1
set_option maxHeartbeats 4000000 in
set_option maxRecDepth 100000 in
theorem c_X3_count (l : Launch) (D : va_G) (o : Nat) (ad : Nat → Nat) (cA : ClassId) (S0 : tr_S) (a : Int32) : m_Mi l yX3_count wsX3_count { frames := 0, cells := 0, slots := 0, locals := 0 } [.int a] D o ad cA S0 (fun x S => x = f_count a S0 ∧ S = S0) := by
  refine Met.ofW (cc := cX3_count) (maxL := 4) (ret := (some .int)) (by decide) rfl ?_
  intro p e s m args below meth c s₁ B hml hv
  obtain ⟨rfl, hB⟩ := hv
  have hx := B.exec
  have hb := B.bytes
  have hr := B.returns
  have hts := atoms_spec (ws := wsX3_count) B.pre
  have hown : s.vm.findClass RX3 = some m.cls := findClass_of_methodNamed B.named
  have hlocks := B.notSynchronized
  have I := m_I.of hB
  have hin : ∀ w ∈ wsX30, w ∈ wsX3_count := fun _ h => List.mem_cons_of_mem _ (List.mem_append_right _ h)
  have L13 := hts (.fieldLink RX3 13 "TollRulesModel" "rowOf" "[I") (by decide +kernel)
  have L65 := hts (.fieldLink RX3 65 "TollRulesModel" "rules" "I") (by decide +kernel)
  have L89 := hts (.fieldLink RX3 89 "TollRulesModel" "stepsEver" "I") (by decide +kernel)
  have L112 := hts (.fieldLink RX3 112 "TollRulesModel" "elses" "I") (by decide +kernel)
  have L137 := hts (.fieldLink RX3 137 "TollRulesModel" "failedMany" "I") (by decide +kernel)
  have hl := lv_entry ([.ref o, .int a]) (n := 4) (Nat.le_of_ble_eq_true rfl)
  rw [lg_entry_eq]
  generalize (lg_sl ([.ref o, .int a]) ++ List.replicate (4 - (lg_sl ([.ref o, .int a])).length) Slot.unset).toArray = ls at hl ⊢
  have hl : lv_has ls 4 [(0, .ref o), (1, .int a)] := hl
  have LC : ∀ (d j : Nat), 4 - j < d → j ≤ 4 → ∀ (H : Heap) (locs : List Loc) (ls : Array Slot), m_I D o ad cA S0 s s.heap H locs → lv_has ls 4 [(3, .int (nI j)), (2, .int (f_none S0 j)), (0, .ref o), (1, .int a)] → W p l e (headSpec wsX3_count { frames := 0, cells := 0, slots := 0, locals := 0 }).room s m (([.ref o, .int a] : List Value).toArray) below meth c H locs 0 0 (MQ below (va_Qi (fun x S => x = f_count a S0 ∧ S = S0) (m_B D o ad cA) (m_A o ad)) (([.ref o, .int a] : List Value).toArray) s 0 0 (m_A o ad)) (F0 m 4 ls []) := by
    intro d
    induction d with
    | zero => intro j hj; omega
    | succ d ih =>
      intro j hj hj4 H locs ls I hl
      refine lv_iload_n hx hb dX3_count_4 rfl (lv_at hl 0 rfl) ?_
      refine lv_iconst (v := 4) hx hb dX3_count_5 (by decide) ?_
      refine lv_icmp_ge (tgt := 32) hx hb dX3_count_6 (by decide) (fun c6 => ?_) (fun c6 => ?_)
      · refine lv_iload_n hx hb dX3_count_32 rfl (lv_at hl 3 rfl) ?_
        by_cases k33_0 : a = 0
        · refine lv_tableIn (tgt := 68) hx hb dX3_count_33 (by rw [k33_0]; decide) (by rw [k33_0]; decide) (off := 35) (by rw [k33_0]; rfl) (by decide) ?_
          refine lv_aload_n hx hb dX3_count_68 rfl (lv_at hl 2 rfl) ?_
          refine m_get4 hx hb hts hin hown I L65 dX3_count_69 (x := S0.1 4) rfl ?_
          have hj4 := nI_lb (n := 4) (by omega) (by decide) c6
          obtain rfl : j = 4 := by omega
          exact m_iret hx hb hr hlocks I dX3_count_72 ⟨by simp (decide := true) [f_count, k33_0], rfl⟩
        by_cases k33_1 : a = 1
        · refine lv_tableIn (tgt := 73) hx hb dX3_count_33 (by rw [k33_1]; decide) (by rw [k33_1]; decide) (off := 40) (by rw [k33_1]; rfl) (by decide) ?_
          refine lv_aload_n hx hb dX3_count_73 rfl (lv_at hl 2 rfl) ?_
          refine m_get20 hx hb hts hin hown I L89 dX3_count_74 (x := S0.1 20) rfl ?_
          have hj4 := nI_lb (n := 4) (by omega) (by decide) c6
          obtain rfl : j = 4 := by omega
          exact m_iret hx hb hr hlocks I dX3_count_77 ⟨by simp (decide := true) [f_count, k33_1], rfl⟩
        by_cases k33_2 : a = 2
        · refine lv_tableIn (tgt := 78) hx hb dX3_count_33 (by rw [k33_2]; decide) (by rw [k33_2]; decide) (off := 45) (by rw [k33_2]; rfl) (by decide) ?_
          refine lv_aload_n hx hb dX3_count_78 rfl (lv_at hl 2 rfl) ?_
          refine m_get23 hx hb hts hin hown I L137 dX3_count_79 (x := S0.1 23) rfl ?_
          have hj4 := nI_lb (n := 4) (by omega) (by decide) c6
          obtain rfl : j = 4 := by omega
          exact m_iret hx hb hr hlocks I dX3_count_82 ⟨by simp (decide := true) [f_count, k33_2], rfl⟩
        by_cases k33_3 : a = 3
        · refine lv_tableIn (tgt := 83) hx hb dX3_count_33 (by rw [k33_3]; decide) (by rw [k33_3]; decide) (off := 50) (by rw [k33_3]; rfl) (by decide) ?_
          refine lv_aload_n hx hb dX3_count_83 rfl (lv_at hl 2 rfl) ?_
          refine m_get24 hx hb hts hin hown I L112 dX3_count_84 (x := S0.1 24) rfl ?_
          have hj4 := nI_lb (n := 4) (by omega) (by decide) c6
          obtain rfl : j = 4 := by omega
          exact m_iret hx hb hr hlocks I dX3_count_87 ⟨by simp (decide := true) [f_count, k33_3], rfl⟩
        by_cases k33_4 : a = 4
        · refine lv_tableIn (tgt := 88) hx hb dX3_count_33 (by rw [k33_4]; decide) (by rw [k33_4]; decide) (off := 55) (by rw [k33_4]; rfl) (by decide) ?_
          refine lv_iload_n hx hb dX3_count_88 rfl (lv_at hl 1 rfl) ?_
          have hj4 := nI_lb (n := 4) (by omega) (by decide) c6
          obtain rfl : j = 4 := by omega
          exact m_iret hx hb hr hlocks I dX3_count_89 ⟨by simp (decide := true) [f_count, k33_4], rfl⟩
        refine lv_tableOut (tgt := 90) hx hb dX3_count_33 (by have t0 := lv_neT k33_0 (a := 0) rfl; have t1 := lv_neT k33_1 (a := 1) rfl; have t2 := lv_neT k33_2 (a := 2) rfl; have t3 := lv_neT k33_3 (a := 3) rfl; have t4 := lv_neT k33_4 (a := 4) rfl; omega) (by decide) ?_
        refine lv_iconst (v := (-1)) hx hb dX3_count_90 (by decide) ?_
        have hj4 := nI_lb (n := 4) (by omega) (by decide) c6
        obtain rfl : j = 4 := by omega
        exact m_iret hx hb hr hlocks I dX3_count_91 ⟨by simp (decide := true) [f_count, k33_0, k33_1, k33_2, k33_3, k33_4], rfl⟩
      · refine lv_iload_n hx hb dX3_count_9 rfl (lv_at hl 1 rfl) ?_
        refine lv_aload_n hx hb dX3_count_10 rfl (lv_at hl 2 rfl) ?_
        refine m_get1 hx hb hts hin hown I L13 dX3_count_11 ?_
        refine lv_iload_n hx hb dX3_count_14 rfl (lv_at hl 0 rfl) ?_
        refine m_ald1 hx hb I (vp_in_nI (nI_ub (n := 4) (by omega) (by decide) c6) (by decide)) dX3_count_15 (x := S0.2 1 j) (by rw [nI_clamp (show j < 2 ^ 31 by omega)] <;> rfl) ?_
        refine lv_if_ge (tgt := 23) hx hb dX3_count_16 (by decide) (fun c16 => ?_) (fun c16 => ?_)
        · refine lv_iconst (v := 0) hx hb dX3_count_23 (by decide) ?_
          refine lv_iadd hx hb dX3_count_24 ?_
          refine lv_istore_n (lv' := [(2, .int ((f_none S0 j) + 0)), (3, .int (nI j)), (0, .ref o), (1, .int a)]) hx hb dX3_count_25 rfl hl (by decide) rfl (fun ls hl => ?_)
          refine lv_iinc (v := (nI j) + 1) (lv' := [(3, .int ((nI j) + 1)), (2, .int ((f_none S0 j) + 0)), (0, .ref o), (1, .int a)]) hx hb dX3_count_26 hl (k := 1) rfl rfl (by decide) rfl (fun ls hl => ?_)
          refine lv_goto (tgt := 4) hx hb dX3_count_29 (by decide) ?_
          have hj4 := nI_ub (n := 4) (by omega) (by decide) c6
          have hl := lv_sub hl [0, 1, 2, 3] rfl
          rw [nI_1, show f_none S0 j + 0 = f_none S0 (j + 1) by simp [f_none, c16]] at hl
          exact ih (j + 1) (by omega) (by omega) H locs ls I hl
        · refine lv_iconst (v := 1) hx hb dX3_count_19 (by decide) ?_
          refine lv_goto (tgt := 24) hx hb dX3_count_20 (by decide) ?_
          refine lv_iadd hx hb dX3_count_24 ?_
          refine lv_istore_n (lv' := [(2, .int ((f_none S0 j) + 1)), (3, .int (nI j)), (0, .ref o), (1, .int a)]) hx hb dX3_count_25 rfl hl (by decide) rfl (fun ls hl => ?_)
          refine lv_iinc (v := (nI j) + 1) (lv' := [(3, .int ((nI j) + 1)), (2, .int ((f_none S0 j) + 1)), (0, .ref o), (1, .int a)]) hx hb dX3_count_26 hl (k := 1) rfl rfl (by decide) rfl (fun ls hl => ?_)
          refine lv_goto (tgt := 4) hx hb dX3_count_29 (by decide) ?_
          have hj4 := nI_ub (n := 4) (by omega) (by decide) c6
          have hl := lv_sub hl [0, 1, 2, 3] rfl
          rw [nI_1, show f_none S0 j + 1 = f_none S0 (j + 1) by simp [f_none, c16]] at hl
          exact ih (j + 1) (by omega) (by omega) H locs ls I hl
  refine lv_iconst (v := 0) hx hb dX3_count_0 (by decide) ?_
  refine lv_istore_n (lv' := [(2, .int 0), (0, .ref o), (1, .int a)]) hx hb dX3_count_1 rfl hl (by decide) rfl (fun ls hl => ?_)
  refine lv_iconst (v := 0) hx hb dX3_count_2 (by decide) ?_
  refine lv_istore_n (lv' := [(3, .int 0), (2, .int 0), (0, .ref o), (1, .int a)]) hx hb dX3_count_3 rfl hl (by decide) rfl (fun ls hl => ?_)
  exact LC 5 0 (by omega) (by omega) _ _ ls I (lv_sub hl [0, 1, 2, 3] rfl)
end
section
/-! what is well made: the rules and rows of a state; the stack of the rules that wait -/
def rl_ok (S : tr_S) (k : Nat) : Prop :=
  (∃ d : Nat, d ≤ 17 ∧ S.2 5 k = nI d) ∧
  (S.2 5 k = 4 ∨ S.2 5 k = 5 ∨ S.2 5 k = 12 → vp_in (S.2 6 k) 8) ∧
  (S.2 5 k = 6 ∨ S.2 5 k = 7 → vp_in (S.2 6 k) 4) ∧
  ((8 ≤ S.2 5 k ∧ S.2 5 k ≤ 11) ∨ S.2 5 k = 16 ∨ S.2 5 k = 14 → ∃ a, a < k ∧ S.2 6 k = nI a) ∧
  (S.2 5 k = 8 ∨ S.2 5 k = 10 ∨ S.2 5 k = 11 ∨ S.2 5 k = 16 → ∃ b, b < k ∧ S.2 7 k = nI b) ∧
  (S.2 9 k = -1 ∨ ∃ q, q < 48 ∧ S.2 9 k = nI q) ∧ (¬ S.2 5 k = 6 → S.2 9 k = -1)
def wf (S : tr_S) (n : Nat) : Prop := n ≤ 40 ∧ S.1 4 = nI n ∧ (∀ k, k < n → rl_ok S k) ∧ (∀ r, r < 4 → S.2 1 r = -1 ∨ ∃ q, q < 48 ∧ S.2 1 r = nI q) ∧ (∀ q, q < 48 → ∃ z, z ≤ 10 ∧ S.2 2 q = nI z)
/-- what applying rules leaves as it is -/
def e_sm (S T : tr_S) : Prop := T.1 4 = S.1 4 ∧ T.2 1 = S.2 1 ∧ T.2 2 = S.2 2 ∧ T.2 5 = S.2 5 ∧ T.2 6 = S.2 6 ∧ T.2 7 = S.2 7 ∧ T.2 9 = S.2 9 ∧ T.2 3 = S.2 3 ∧ T.2 8 = S.2 8
theorem e_sm.rf (S : tr_S) : e_sm S S := ⟨rfl, rfl, rfl, rfl, rfl, rfl, rfl, rfl, rfl⟩
theorem e_sm.tr {S T U : tr_S} (h : e_sm S T) (g : e_sm T U) : e_sm S U := by
  obtain ⟨a1, a2, a3, a4, a5, a6, a7, a8, a9⟩ := h
  obtain ⟨b1, b2, b3, b4, b5, b6, b7, b8, b9⟩ := g
  exact ⟨b1.trans a1, b2.trans a2, b3.trans a3, b4.trans a4, b5.trans a5, b6.trans a6, b7.trans a7, b8.trans a8, b9.trans a9⟩
theorem wf.sm {S T : tr_S} {n : Nat} (h : wf S n) (g : e_sm S T) : wf T n := by
  obtain ⟨b1, b2, b3, b4, b5, b6, b7, -, -⟩ := g
  obtain ⟨h1, h2, h3, h4, h5⟩ := h
  refine ⟨h1, b1.trans h2, fun k hk => ?_, ?_, ?_⟩
  · have := h3 k hk
    unfold rl_ok at this ⊢
    rw [b4, b5, b6, b7]
    exact this
  · rw [b2]; exact h4
  · rw [b3]; exact h5
theorem nI_m1 {q : Nat} (h : q < 2 ^ 31) : ¬ nI q = -1 := by
  intro e
  have h1 := nI_toInt h
  rw [e] at h1
  have : (-1 : Int32).toInt = -1 := by decide +kernel
  omega
theorem wf.row {S : tr_S} {n : Nat} (h : wf S n) {a : Int32} (ha : a = -1 ∨ ∃ q, q < 48 ∧ a = nI q) (h0 : 0 ≤ a) : s_ok S a := by
  rcases ha with rfl | ⟨q, hq, rfl⟩
  · exact absurd h0 (by decide)
  · refine ⟨vp_in_nI hq (by decide), ?_⟩
    rw [nI_clamp (by omega)]
    exact h.2.2.2.2 q hq
theorem wf.rows {S : tr_S} {n : Nat} (h : wf S n) : w_rows S := fun k hk h0 => h.row (h.2.2.2.1 k hk) h0
theorem wf.g {S : tr_S} {n k : Nat} (h : wf S n) (hk : k < n) : g_ok S (nI k) := by
  have hn := h.1
  have hr := h.2.2.1 k hk
  unfold rl_ok at hr
  obtain ⟨r1, r2, r3, r4, r5, r6, r7⟩ := hr
  unfold g_ok
  rw [nI_clamp (by omega)]
  refine ⟨vp_in_nI (by omega) (by decide), fun q => r2 (q.elim (fun z => Or.inr (Or.inl z)) (fun z => Or.inr (Or.inr z))), fun q => ⟨r3 (Or.inr q), fun h0 => ?_⟩, fun q h0 => h.row r6 h0⟩
  have hi := ix_nI (r3 (Or.inr q)) (by decide)
  exact h.row (h.2.2.2.1 _ hi.2) h0
def j_st (S : tr_S) (w n : Nat) : Prop := S.1 11 = nI w ∧ (∃ st : Nat, st ≤ 64 ∧ w ≤ st ∧ S.1 18 = nI st) ∧ ∀ t, t < w → ∃ k, k < n ∧ S.2 12 t = nI k
theorem j_top {S : tr_S} {w n : Nat} (h : j_st S w n) (hn : n ≤ 40) (hw : ¬ S.1 11 ≤ 0) : ∃ u, w = u + 1 ∧ (S.1 11 - 1).toNatClampNeg = u ∧ S.1 11 - 1 = nI u ∧ vp_in (S.1 11 - 1) 65 ∧ vp_in (S.1 11) 65 ∧ u < 64 ∧ ∃ k, k < n ∧ S.2 12 u = nI k ∧ k < 40 := by
  obtain ⟨h1, ⟨st, h2, h3, h4⟩, h5⟩ := h
  cases w with
  | zero => exact absurd (by rw [h1]; exact nI_0 ▸ Int32.le_refl _) hw
  | succ u =>
    have e : S.1 11 - 1 = nI u := by rw [h1, nI_pred]
    obtain ⟨k, hk, ek⟩ := h5 u (by omega)
    exact ⟨u, rfl, by rw [e, nI_clamp (by omega)], e, by rw [e]; exact vp_in_nI (by omega) (by decide), by rw [h1]; exact vp_in_nI (by omega) (by decide), by omega, k, hk, ek, by omega⟩
def f_pop (S : tr_S) : tr_S := sF S 11 (S.1 11 - 1)
def f_else (u k : Nat) (S : tr_S) : tr_S := (f_begins (S.2 7 k) (S.2 13 u) (sA (sF (sF S 16 0) 24 (S.1 24 + 1)) 14 u 2)).2
def f_top (S : tr_S) : Nat := (S.1 11 - 1).toNatClampNeg
def f_rul (S : tr_S) : Nat := (S.2 12 (f_top S)).toNatClampNeg
def f_rec : Nat → tr_S → tr_S
  | 0, S => S
  | n + 1, S => if S.1 11 ≤ 0 then S else if ¬ S.1 16 = 5 ∧ S.2 5 (f_rul S) = 11 ∧ S.2 14 (f_top S) = 1 then (if (f_else (f_top S) (f_rul S) S).1 16 = 0 then f_else (f_top S) (f_rul S) S else f_rec n (f_else (f_top S) (f_rul S) S)) else f_rec n (f_pop S)
theorem f_begins_sm (r x : Int32) (S : tr_S) : e_sm S (f_begins r x S).2 := by
  unfold f_begins
  split
  · exact ⟨rfl, rfl, rfl, rfl, rfl, rfl, rfl, rfl, rfl⟩
  · exact ⟨rfl, rfl, rfl, rfl, rfl, rfl, rfl, rfl, rfl⟩
theorem f_else_sm (u k : Nat) (S : tr_S) : e_sm S (f_else u k S) := e_sm.tr ⟨rfl, rfl, rfl, rfl, rfl, rfl, rfl, rfl, rfl⟩ (f_begins_sm _ _ _)
theorem f_pop_sm (S : tr_S) : e_sm S (f_pop S) := ⟨rfl, rfl, rfl, rfl, rfl, rfl, rfl, rfl, rfl⟩
theorem f_rec_sm : ∀ (n : Nat) (S : tr_S), e_sm S (f_rec n S)
  | 0, S => e_sm.rf S
  | n + 1, S => by
    unfold f_rec
    split
    · exact e_sm.rf S
    · split
      · split
        · exact f_else_sm _ _ S
        · exact (f_else_sm _ _ S).tr (f_rec_sm n _)
      · exact (f_pop_sm S).tr (f_rec_sm n _)
theorem j_pop {S : tr_S} {u n : Nat} (h : j_st S (u + 1) n) : j_st (f_pop S) u n := by
  obtain ⟨h1, ⟨st, h2, h3, h4⟩, h5⟩ := h
  refine ⟨?_, ⟨st, h2, by omega, h4⟩, fun t ht => h5 t (by omega)⟩
  show S.1 11 - 1 = nI u
  rw [h1, nI_pred]
/-- a state that differs in what the stack's form doesn't show -/
theorem j_like {S T : tr_S} {w n : Nat} (h : j_st S w n) (h1 : T.1 11 = S.1 11) (h2 : T.1 18 = S.1 18) (h3 : T.2 12 = S.2 12) : j_st T w n := by
  unfold j_st at h ⊢
  rw [h1, h2, h3]
  exact h
/-- a rule is begun: it isn't, or it waits at the stack's top -/
theorem j_begins {S : tr_S} {w n : Nat} (h : j_st S w n) {r x : Int32} (hr : ∃ k, k < n ∧ r = nI k) : (S.1 18 = 64 ∧ f_begins r x S = (0, f_fails 5 r S) ∧ j_st (f_begins r x S).2 w n) ∨ (¬ S.1 18 = 64 ∧ f_begins r x S = (1, f_push r x (f_tick S)) ∧ j_st (f_begins r x S).2 (w + 1) n) := by
  by_cases hs : S.1 18 = 64
  · refine Or.inl ⟨hs, if_pos hs, ?_⟩
    unfold f_begins
    rw [if_pos hs]
    exact j_like h rfl rfl rfl
  · refine Or.inr ⟨hs, if_neg hs, ?_⟩
    unfold f_begins
    rw [if_neg hs]
    obtain ⟨h1, ⟨st, h2, h3, h4⟩, h5⟩ := h
    have hne : st ≠ 64 := fun q => hs (by rw [h4, q]; rfl)
    have ew : (S.1 11).toNatClampNeg = w := by rw [h1, nI_clamp (by omega)]
    refine ⟨?_, ⟨st + 1, by omega, by omega, ?_⟩, fun t ht => ?_⟩
    · show S.1 11 + 1 = nI (w + 1)
      rw [h1, nI_1]
    · show S.1 18 + 1 = nI (st + 1)
      rw [h4, nI_1]
    · show ∃ k, k < n ∧ upd (S.2 12) (S.1 11).toNatClampNeg r t = nI k
      rw [ew]
      unfold upd
      by_cases q : t = w
      · rw [if_pos q]; exact hr
      · rw [if_neg q]; exact h5 t (by omega)

theorem rl_snd {S : tr_S} {n k : Nat} (h : wf S n) (hk : k < n) (q : S.2 5 k = 8 ∨ S.2 5 k = 10 ∨ S.2 5 k = 11 ∨ S.2 5 k = 16) : ∃ b, b < n ∧ S.2 7 k = nI b := by
  obtain ⟨b, h1, h2⟩ := (h.2.2.1 k hk).2.2.2.2.1 q
  exact ⟨b, by omega, h2⟩
theorem rl_fst {S : tr_S} {n k : Nat} (h : wf S n) (hk : k < n) (q : (8 ≤ S.2 5 k ∧ S.2 5 k ≤ 11) ∨ S.2 5 k = 16) : ∃ b, b < n ∧ S.2 6 k = nI b := by
  obtain ⟨b, h1, h2⟩ := (h.2.2.1 k hk).2.2.2.1 (q.elim Or.inl (fun z => Or.inr (Or.inl z)))
  exact ⟨b, by omega, h2⟩
set_option maxHeartbeats 4000000 in
set_option maxRecDepth 100000 in
theorem c_X3_recovers (l : Launch) (D : va_G) (o : Nat) (ad : Nat → Nat) (cA : ClassId) (S0 : tr_S) (N u0 n : Nat) (hN0 : wf S0 N) (hj0 : j_st S0 u0 N) (hn : 2 * u0 + (if S0.1 16 = 5 then 0 else 1) < n) : m_Mv l yX3_recovers wsX3_recovers { frames := 2, cells := 0, slots := 0, locals := 44 } [] D o ad cA S0 (fun S => S = f_rec n S0) := by
  refine Met.ofW (cc := cX3_recovers) (maxL := 4) (ret := none) (by decide) rfl ?_
  intro p e s m args below meth c s₁ B hml hv
  obtain ⟨rfl, hB⟩ := hv
  have hx := B.exec
  have hb := B.bytes
  have hr := B.returns
  have hts := atoms_spec (ws := wsX3_recovers) B.pre
  have hown : s.vm.findClass RX3 = some m.cls := findClass_of_methodNamed B.named
  have hlocks := B.notSynchronized
  have I := m_I.of hB
  have hin : ∀ w ∈ wsX30, w ∈ wsX3_recovers := fun _ h => List.mem_cons_of_mem _ (List.mem_append_right _ h)
  have L22 := hts (.fieldLink RX3 22 "TollRulesModel" "kind" "[I") (by decide +kernel)
  have L28 := hts (.fieldLink RX3 28 "TollRulesModel" "second" "[I") (by decide +kernel)
  have L40 := hts (.fieldLink RX3 40 "TollRulesModel" "waitRule" "[I") (by decide +kernel)
  have L43 := hts (.fieldLink RX3 43 "TollRulesModel" "waitValue" "[I") (by decide +kernel)
  have L46 := hts (.fieldLink RX3 46 "TollRulesModel" "waitPhase" "[I") (by decide +kernel)
  have L92 := hts (.fieldLink RX3 92 "TollRulesModel" "waiting" "I") (by decide +kernel)
  have L95 := hts (.fieldLink RX3 95 "TollRulesModel" "failure" "I") (by decide +kernel)
  have L112 := hts (.fieldLink RX3 112 "TollRulesModel" "elses" "I") (by decide +kernel)
  have hl := lv_entry ([.ref o]) (n := 4) (Nat.le_of_ble_eq_true rfl)
  rw [lg_entry_eq]
  generalize (lg_sl ([.ref o]) ++ List.replicate (4 - (lg_sl ([.ref o])).length) Slot.unset).toArray = ls at hl ⊢
  have hl : lv_has ls 4 [(0, .ref o)] := hl
  have LR : ∀ (d : Nat) (S : tr_S) (w : Nat), wf S N → j_st S w N → 2 * w + (if S.1 16 = 5 then 0 else 1) < d → f_rec d S = f_rec n S0 → ∀ (H : Heap) (locs : List Loc) (ls : Array Slot), m_I D o ad cA S s s.heap H locs → lv_has ls 4 [(1, .int 0), (0, .ref o)] → W p l e (headSpec wsX3_recovers { frames := 2, cells := 0, slots := 0, locals := 44 }).room s m (([.ref o] : List Value).toArray) below meth c H locs 0 0 (MQ below (va_Qv (fun S => S = f_rec n S0) (m_B D o ad cA) (m_A o ad)) (([.ref o] : List Value).toArray) s 0 0 (m_A o ad)) (F0 m 2 ls []) := by
    intro d
    induction d with
    | zero => intro S w _ _ hd; omega
    | succ d ih =>
      intro S w hN hj hd hT H locs ls I hl
      refine lv_aload_n hx hb dX3_recovers_2 rfl (lv_at hl 1 rfl) ?_
      refine m_get11 hx hb hts hin hown I L92 dX3_recovers_3 (x := S.1 11) rfl ?_
      refine lv_if_le (tgt := 137) hx hb dX3_recovers_6 (by decide) (fun c6 => ?_) (fun c6 => ?_)
      · exact m_vret hx hb hr hlocks I dX3_recovers_137 (by rw [← hT]; unfold f_rec; rw [if_pos c6])
      · refine lv_iload_n hx hb dX3_recovers_9 rfl (lv_at hl 0 rfl) ?_
        refine lv_if_ne (tgt := 137) hx hb dX3_recovers_10 (by decide) (fun h => absurd h (by decide)) (fun _ => ?_)
        obtain ⟨u, rfl, et, eu, hu, hu1, hu64, k, hk, ek, hk40⟩ := j_top hj hN.1 c6
        have ef : f_top S = u := et
        have er : f_rul S = k := by unfold f_rul; rw [ef, ek, nI_clamp (by omega)]
        refine lv_aload_n hx hb dX3_recovers_13 rfl (lv_at hl 1 rfl) ?_
        refine m_get11 hx hb hts hin hown I L92 dX3_recovers_14 (x := S.1 11) rfl ?_
        refine lv_iconst (v := 1) hx hb dX3_recovers_17 (by decide) ?_
        refine lv_isub hx hb dX3_recovers_18 ?_
        refine lv_istore_n (lv' := [(2, .int ((S.1 11) - 1)), (1, .int 0), (0, .ref o)]) hx hb dX3_recovers_19 rfl hl (by decide) rfl (fun ls hl => ?_)
        refine lv_aload_n hx hb dX3_recovers_20 rfl (lv_at hl 2 rfl) ?_
        refine m_get16 hx hb hts hin hown I L95 dX3_recovers_21 (x := S.1 16) rfl ?_
        refine lv_iconst (v := 5) hx hb dX3_recovers_24 (by decide) ?_
        refine lv_icmp_eq (tgt := 58) hx hb dX3_recovers_25 (by decide) (fun c25 => ?_) (fun c25 => ?_)
        · refine lv_iconst (v := 0) hx hb dX3_recovers_58 (by decide) ?_
          refine lv_istore_n (lv' := [(1, .int 0), (2, .int ((S.1 11) - 1)), (0, .ref o)]) hx hb dX3_recovers_59 rfl hl (by decide) rfl (fun ls hl => ?_)
          refine lv_iload_n hx hb dX3_recovers_60 rfl (lv_at hl 0 rfl) ?_
          refine lv_if_eq (tgt := 124) hx hb dX3_recovers_61 (by decide) (fun _ => ?_) (fun h => absurd h (by decide))
          refine lv_aload_n hx hb dX3_recovers_124 rfl (lv_at hl 2 rfl) ?_
          refine lv_dup hx hb dX3_recovers_125 rfl ?_
          refine m_get11 hx hb hts hin hown I L92 dX3_recovers_126 (x := S.1 11) rfl ?_
          refine lv_iconst (v := 1) hx hb dX3_recovers_129 (by decide) ?_
          refine lv_isub hx hb dX3_recovers_130 ?_
          refine m_put11 hx hb hts hin hown I L92 dX3_recovers_131 (fun H locs I => ?_)
          refine lv_goto (tgt := 2) hx hb dX3_recovers_134 (by decide) ?_
          refine ih (f_pop S) u (hN.sm (f_pop_sm S)) (j_pop hj) (by show 2 * u + (if S.1 16 = 5 then 0 else 1) < d; omega) ?_ H locs ls I (lv_sub hl [0, 2] rfl)
          rw [← hT]
          conv => rhs; unfold f_rec
          rw [ef, er, if_neg c6, if_neg (fun q => q.1 c25)]
        · refine lv_aload_n hx hb dX3_recovers_28 rfl (lv_at hl 2 rfl) ?_
          refine m_get5 hx hb hts hin hown I L22 dX3_recovers_29 ?_
          refine lv_aload_n hx hb dX3_recovers_32 rfl (lv_at hl 2 rfl) ?_
          refine m_get12 hx hb hts hin hown I L40 dX3_recovers_33 ?_
          refine lv_iload_n hx hb dX3_recovers_36 rfl (lv_at hl 0 rfl) ?_
          refine m_ald12 hx hb I hu dX3_recovers_37 (x := S.2 12 u) (by rw [et] <;> rfl) ?_
          refine m_ald5 hx hb I (by rw [ek]; exact vp_in_nI hk40 (by decide)) dX3_recovers_38 (x := S.2 5 k) (by rw [ek, nI_clamp (show k < 2 ^ 31 by omega)] <;> rfl) ?_
          refine lv_bipush (v := 11) hx hb dX3_recovers_39 (by decide) ?_
          refine lv_icmp_ne (tgt := 58) hx hb dX3_recovers_41 (by decide) (fun c41 => ?_) (fun c41 => ?_)
          · refine lv_iconst (v := 0) hx hb dX3_recovers_58 (by decide) ?_
            refine lv_istore_n (lv' := [(1, .int 0), (2, .int ((S.1 11) - 1)), (0, .ref o)]) hx hb dX3_recovers_59 rfl hl (by decide) rfl (fun ls hl => ?_)
            refine lv_iload_n hx hb dX3_recovers_60 rfl (lv_at hl 0 rfl) ?_
            refine lv_if_eq (tgt := 124) hx hb dX3_recovers_61 (by decide) (fun _ => ?_) (fun h => absurd h (by decide))
            refine lv_aload_n hx hb dX3_recovers_124 rfl (lv_at hl 2 rfl) ?_
            refine lv_dup hx hb dX3_recovers_125 rfl ?_
            refine m_get11 hx hb hts hin hown I L92 dX3_recovers_126 (x := S.1 11) rfl ?_
            refine lv_iconst (v := 1) hx hb dX3_recovers_129 (by decide) ?_
            refine lv_isub hx hb dX3_recovers_130 ?_
            refine m_put11 hx hb hts hin hown I L92 dX3_recovers_131 (fun H locs I => ?_)
            refine lv_goto (tgt := 2) hx hb dX3_recovers_134 (by decide) ?_
            refine ih (f_pop S) u (hN.sm (f_pop_sm S)) (j_pop hj) (by show 2 * u + (if S.1 16 = 5 then 0 else 1) < d; omega) ?_ H locs ls I (lv_sub hl [0, 2] rfl)
            rw [← hT]
            conv => rhs; unfold f_rec
            rw [ef, er, if_neg c6, if_neg (fun q => c41 q.2.1)]
          · refine lv_aload_n hx hb dX3_recovers_44 rfl (lv_at hl 2 rfl) ?_
            refine m_get14 hx hb hts hin hown I L46 dX3_recovers_45 ?_
            refine lv_iload_n hx hb dX3_recovers_48 rfl (lv_at hl 0 rfl) ?_
            refine m_ald14 hx hb I hu dX3_recovers_49 (x := S.2 14 u) (by rw [et] <;> rfl) ?_
            refine lv_iconst (v := 1) hx hb dX3_recovers_50 (by decide) ?_
            refine lv_icmp_ne (tgt := 58) hx hb dX3_recovers_51 (by decide) (fun c51 => ?_) (fun c51 => ?_)
            · refine lv_iconst (v := 0) hx hb dX3_recovers_58 (by decide) ?_
              refine lv_istore_n (lv' := [(1, .int 0), (2, .int ((S.1 11) - 1)), (0, .ref o)]) hx hb dX3_recovers_59 rfl hl (by decide) rfl (fun ls hl => ?_)
              refine lv_iload_n hx hb dX3_recovers_60 rfl (lv_at hl 0 rfl) ?_
              refine lv_if_eq (tgt := 124) hx hb dX3_recovers_61 (by decide) (fun _ => ?_) (fun h => absurd h (by decide))
              refine lv_aload_n hx hb dX3_recovers_124 rfl (lv_at hl 2 rfl) ?_
              refine lv_dup hx hb dX3_recovers_125 rfl ?_
              refine m_get11 hx hb hts hin hown I L92 dX3_recovers_126 (x := S.1 11) rfl ?_
              refine lv_iconst (v := 1) hx hb dX3_recovers_129 (by decide) ?_
              refine lv_isub hx hb dX3_recovers_130 ?_
              refine m_put11 hx hb hts hin hown I L92 dX3_recovers_131 (fun H locs I => ?_)
              refine lv_goto (tgt := 2) hx hb dX3_recovers_134 (by decide) ?_
              refine ih (f_pop S) u (hN.sm (f_pop_sm S)) (j_pop hj) (by show 2 * u + (if S.1 16 = 5 then 0 else 1) < d; omega) ?_ H locs ls I (lv_sub hl [0, 2] rfl)
              rw [← hT]
              conv => rhs; unfold f_rec
              rw [ef, er, if_neg c6, if_neg (fun q => c51 q.2.2)]
            · refine lv_iconst (v := 1) hx hb dX3_recovers_54 (by decide) ?_
              refine lv_goto (tgt := 59) hx hb dX3_recovers_55 (by decide) ?_
              refine lv_istore_n (lv' := [(1, .int 1), (2, .int ((S.1 11) - 1)), (0, .ref o)]) hx hb dX3_recovers_59 rfl hl (by decide) rfl (fun ls hl => ?_)
              refine lv_iload_n hx hb dX3_recovers_60 rfl (lv_at hl 0 rfl) ?_
              refine lv_if_eq (tgt := 124) hx hb dX3_recovers_61 (by decide) (fun h => absurd h (by decide)) (fun _ => ?_)
              refine lv_aload_n hx hb dX3_recovers_64 rfl (lv_at hl 2 rfl) ?_
              refine lv_iconst (v := 0) hx hb dX3_recovers_65 (by decide) ?_
              refine m_put16 hx hb hts hin hown I L95 dX3_recovers_66 (fun H locs I => ?_)
              refine lv_aload_n hx hb dX3_recovers_69 rfl (lv_at hl 2 rfl) ?_
              refine lv_dup hx hb dX3_recovers_70 rfl ?_
              refine m_get24 hx hb hts hin hown I L112 dX3_recovers_71 (x := S.1 24) rfl ?_
              refine lv_iconst (v := 1) hx hb dX3_recovers_74 (by decide) ?_
              refine lv_iadd hx hb dX3_recovers_75 ?_
              refine m_put24 hx hb hts hin hown I L112 dX3_recovers_76 (fun H locs I => ?_)
              refine lv_aload_n hx hb dX3_recovers_79 rfl (lv_at hl 2 rfl) ?_
              refine m_get14 hx hb hts hin hown I L46 dX3_recovers_80 ?_
              refine lv_iload_n hx hb dX3_recovers_83 rfl (lv_at hl 1 rfl) ?_
              refine lv_iconst (v := 2) hx hb dX3_recovers_84 (by decide) ?_
              refine m_ast14 hx hb I hu dX3_recovers_85 (fun H locs I => ?_)
              rw [et] at I
              refine lv_aload_n hx hb dX3_recovers_86 rfl (lv_at hl 2 rfl) ?_
              refine lv_aload_n hx hb dX3_recovers_87 rfl (lv_at hl 2 rfl) ?_
              refine m_get7 hx hb hts hin hown I L28 dX3_recovers_88 ?_
              refine lv_aload_n hx hb dX3_recovers_91 rfl (lv_at hl 2 rfl) ?_
              refine m_get12 hx hb hts hin hown I L40 dX3_recovers_92 ?_
              refine lv_iload_n hx hb dX3_recovers_95 rfl (lv_at hl 1 rfl) ?_
              refine m_ald12 hx hb I hu dX3_recovers_96 (x := S.2 12 u) (by rw [et] <;> rfl) ?_
              refine m_ald7 hx hb I (by rw [ek]; exact vp_in_nI hk40 (by decide)) dX3_recovers_97 (x := S.2 7 k) (by rw [ek, nI_clamp (show k < 2 ^ 31 by omega)] <;> rfl) ?_
              refine lv_aload_n hx hb dX3_recovers_98 rfl (lv_at hl 2 rfl) ?_
              refine m_get13 hx hb hts hin hown I L43 dX3_recovers_99 ?_
              refine lv_iload_n hx hb dX3_recovers_102 rfl (lv_at hl 1 rfl) ?_
              refine m_ald13 hx hb I hu dX3_recovers_103 (x := S.2 13 u) (by rw [et] <;> rfl) ?_
              refine m_calli (rest := []) ⟨hx, hb, hml, hown, hts⟩ (c_X3_begins l D o ad cA (sA (sF (sF S 16 0) 24 ((S.1 24) + 1)) 14 u 2) (S.2 7 k) (S.2 13 u) (hu1)) (cwV 2 hts gX3_recovers_X3_begins rfl rfl rfl (by decide +kernel) ⟨Nat.le_of_ble_eq_true rfl, Nat.le_of_ble_eq_true rfl⟩) I rfl hl.1 rfl (Nat.le_of_ble_eq_true rfl) dX3_recovers_104 ⟨Nat.le_refl _, Nat.le_refl _⟩ (fun r104 S104 H locs p104 I => ?_)
              refine lv_istore_n (lv' := [(3, .int r104), (1, .int 1), (2, .int ((S.1 11) - 1)), (0, .ref o)]) hx hb dX3_recovers_107 rfl hl (by decide) rfl (fun ls hl => ?_)
              refine lv_aload_n hx hb dX3_recovers_108 rfl (lv_at hl 3 rfl) ?_
              refine m_get16 hx hb hts hin hown I L95 dX3_recovers_109 (x := S104.1 16) rfl ?_
              refine lv_if_ne (tgt := 119) hx hb dX3_recovers_112 (by decide) (fun c112 => ?_) (fun c112 => ?_)
              · refine lv_iconst (v := 0) hx hb dX3_recovers_119 (by decide) ?_
                refine lv_istore_n (lv' := [(1, .int 0), (3, .int r104), (2, .int ((S.1 11) - 1)), (0, .ref o)]) hx hb dX3_recovers_120 rfl hl (by decide) rfl (fun ls hl => ?_)
                refine lv_goto (tgt := 134) hx hb dX3_recovers_121 (by decide) ?_
                refine lv_goto (tgt := 2) hx hb dX3_recovers_134 (by decide) ?_
                have eS : S104 = f_else u k S := congrArg Prod.snd p104
                rcases j_begins (S := (sA (sF (sF S 16 0) 24 (S.1 24 + 1)) 14 u 2)) (x := S.2 13 u) (j_like hj rfl rfl rfl) (rl_snd hN hk (Or.inr (Or.inr (Or.inl c41)))) with ⟨-, eb, jb⟩ | ⟨-, eb, jb⟩
                · have e5 : S104 = f_fails 5 (S.2 7 k) (sA (sF (sF S 16 0) 24 (S.1 24 + 1)) 14 u 2) := by rw [eS]; unfold f_else; rw [eb]
                  refine ih S104 (u + 1) (hN.sm (by rw [eS]; exact f_else_sm u k S)) (by rw [eS]; exact jb) (by rw [if_neg c25] at hd; rw [if_pos (show S104.1 16 = 5 by rw [e5]; rfl)]; omega) ?_ H locs ls I (lv_sub hl [0, 3] rfl)
                  rw [← hT, eS]
                  rw [eS] at c112
                  conv => rhs; unfold f_rec
                  rw [ef, er, if_neg c6, if_pos ⟨c25, c41, c51⟩, if_neg c112]
                · exact absurd (by rw [eS]; unfold f_else; rw [eb]; rfl) c112
              · refine lv_iconst (v := 1) hx hb dX3_recovers_115 (by decide) ?_
                refine lv_goto (tgt := 120) hx hb dX3_recovers_116 (by decide) ?_
                refine lv_istore_n (lv' := [(1, .int 1), (3, .int r104), (2, .int ((S.1 11) - 1)), (0, .ref o)]) hx hb dX3_recovers_120 rfl hl (by decide) rfl (fun ls hl => ?_)
                refine lv_goto (tgt := 134) hx hb dX3_recovers_121 (by decide) ?_
                refine lv_goto (tgt := 2) hx hb dX3_recovers_134 (by decide) ?_
                have eS : S104 = f_else u k S := congrArg Prod.snd p104
                have c6x := c6
                refine lv_aload_n hx hb dX3_recovers_2 rfl (lv_at hl 3 rfl) ?_
                refine m_get11 hx hb hts hin hown I L92 dX3_recovers_3 (x := S104.1 11) rfl ?_
                refine lv_if_le (tgt := 137) hx hb dX3_recovers_6 (by decide) (fun c6 => ?_) (fun c6 => ?_)
                · refine m_vret hx hb hr hlocks I dX3_recovers_137 ?_
                  rw [← hT, eS]
                  rw [eS] at c112
                  unfold f_rec
                  rw [ef, er, if_neg c6x, if_pos ⟨c25, c41, c51⟩, if_pos c112]
                · refine lv_iload_n hx hb dX3_recovers_9 rfl (lv_at hl 0 rfl) ?_
                  refine lv_if_ne (tgt := 137) hx hb dX3_recovers_10 (by decide) (fun _ => ?_) (fun h => absurd h (by decide))
                  refine m_vret hx hb hr hlocks I dX3_recovers_137 ?_
                  rw [← hT, eS]
                  rw [eS] at c112
                  unfold f_rec
                  rw [ef, er, if_neg c6x, if_pos ⟨c25, c41, c51⟩, if_pos c112]
  refine lv_iconst (v := 0) hx hb dX3_recovers_0 (by decide) ?_
  refine lv_istore_n (lv' := [(1, .int 0), (0, .ref o)]) hx hb dX3_recovers_1 rfl hl (by decide) rfl (fun ls hl => ?_)
  exact LR n S0 u0 hN0 hj0 hn rfl _ _ ls I (lv_sub hl [0, 1] rfl)

/-! the reference's loop over the rules that wait -/
def f_asks (k : Int32) : Prop := (8 ≤ k ∧ k ≤ 11) ∨ k = 16
def f_turn1 (S : tr_S) : tr_S := if (f_goesOn (S.1 26) S).2.1 16 = 0 ∧ ¬ (f_goesOn (S.1 26) S).1 = 0 then f_pop (f_goesOn (S.1 26) S).2 else (f_goesOn (S.1 26) S).2
def f_leaf (S : tr_S) : tr_S := sF (f_given (S.2 12 (f_top S)) (S.2 13 (f_top S)) S).2 26 (f_given (S.2 12 (f_top S)) (S.2 13 (f_top S)) S).1
def f_turn2 (S : tr_S) : tr_S := if (f_leaf S).1 16 = 0 then f_pop (f_leaf S) else f_leaf S
def f_turn (S : tr_S) : tr_S := if (8 ≤ S.2 5 (f_rul S) ∧ S.2 5 (f_rul S) ≤ 11) ∨ S.2 5 (f_rul S) = 16 then f_turn1 S else f_turn2 S
def f_loop : Nat → tr_S → Option (Int32 × tr_S)
  | 0, _ => none
  | n + 1, S => if ¬ 0 < S.1 11 ∧ S.1 16 ≤ 0 then some (1, S) else if S.1 16 ≤ 0 then f_loop n (f_turn S) else if (f_rec 140 S).1 16 ≤ 0 then f_loop n (f_turn (f_rec 140 S)) else some (0, f_rec 140 S)
end
section
theorem f_rec_j {N : Nat} : ∀ (n : Nat) (S : tr_S) (w : Nat), wf S N → j_st S w N → ∃ w2, j_st (f_rec n S) w2 N ∧ (¬ S.1 16 ≤ 0 → 2 * w + (if S.1 16 = 5 then 0 else 1) < n → (f_rec n S).1 16 ≤ 0 → ¬ (f_rec n S).1 11 ≤ 0 ∧ (f_rec n S).1 16 = 0)
  | 0, S, w, _, hj => ⟨w, hj, fun _ h => by omega⟩
  | n + 1, S, w, hN, hj => by
    by_cases c6 : S.1 11 ≤ 0
    · have e : f_rec (n + 1) S = S := by unfold f_rec; rw [if_pos c6]
      rw [e]
      exact ⟨w, hj, fun h _ q => absurd q h⟩
    · obtain ⟨u, rfl, et, eu, hu, hu1, hu64, k, hk, ek, hk40⟩ := j_top hj hN.1 c6
      have ef : f_top S = u := et
      have er : f_rul S = k := by unfold f_rul; rw [ef, ek, nI_clamp (by omega)]
      by_cases cc : ¬ S.1 16 = 5 ∧ S.2 5 k = 11 ∧ S.2 14 u = 1
      · rcases j_begins (S := (sA (sF (sF S 16 0) 24 (S.1 24 + 1)) 14 u 2)) (x := S.2 13 u) (j_like hj rfl rfl rfl) (rl_snd hN hk (Or.inr (Or.inr (Or.inl cc.2.1)))) with ⟨-, eb, jb⟩ | ⟨-, eb, jb⟩
        · have e5 : f_else u k S = f_fails 5 (S.2 7 k) (sA (sF (sF S 16 0) 24 (S.1 24 + 1)) 14 u 2) := by unfold f_else; rw [eb]
          have h5 : (f_else u k S).1 16 = 5 := by rw [e5]; rfl
          have e : f_rec (n + 1) S = f_rec n (f_else u k S) := by
            conv => lhs; unfold f_rec
            rw [ef, er, if_neg c6, if_pos cc, if_neg (by rw [h5]; decide)]
          obtain ⟨w2, hj2, g⟩ := f_rec_j n (f_else u k S) (u + 1) (hN.sm (f_else_sm u k S)) jb
          rw [e]
          refine ⟨w2, hj2, fun _ hm => g (by rw [h5]; decide) ?_⟩
          rw [if_neg cc.1] at hm
          rw [if_pos h5]
          omega
        · have e1 : f_else u k S = f_push (S.2 7 k) (S.2 13 u) (f_tick (sA (sF (sF S 16 0) 24 (S.1 24 + 1)) 14 u 2)) := by unfold f_else; rw [eb]
          have h0 : (f_else u k S).1 16 = 0 := by rw [e1]; rfl
          have e : f_rec (n + 1) S = f_else u k S := by
            unfold f_rec
            rw [ef, er, if_neg c6, if_pos cc, if_pos h0]
          rw [e]
          refine ⟨u + 1 + 1, jb, fun _ _ _ => ⟨?_, h0⟩⟩
          have : (f_else u k S).1 11 = nI (u + 1 + 1) := jb.1
          rw [this]
          exact nI_nle (by omega) (by omega)
      · have e : f_rec (n + 1) S = f_rec n (f_pop S) := by
          conv => lhs; unfold f_rec
          rw [ef, er, if_neg c6, if_neg cc]
        obtain ⟨w2, hj2, g⟩ := f_rec_j n (f_pop S) u (hN.sm (f_pop_sm S)) (j_pop hj)
        rw [e]
        refine ⟨w2, hj2, fun h hm => g h ?_⟩
        show 2 * u + (if S.1 16 = 5 then 0 else 1) < n
        omega
theorem ite_P {α : Type} {c : Prop} [Decidable c] {P : α → Prop} {a b : α} (ha : P a) (hb : P b) : P (if c then a else b) := by
  by_cases h : c
  · rw [if_pos h]; exact ha
  · rw [if_neg h]; exact hb
theorem f_given_P {P : Int32 × tr_S → Prop} {S : tr_S} {r x : Int32} (h0 : ∀ v, P (v, S)) (hF : ∀ v a, 0 < a → a ≤ 5 → P (v, f_fails a r S)) (hA : ∀ v i u, P (v, sA S 0 i u)) (hB : ∀ v i u, P (v, sA S 10 i u)) : P (f_given r x S) := by
  have hI : ∀ a, P (f_itemAt a x r S) := by
    intro a
    unfold f_itemAt
    exact ite_P (P := P) (ite_P (P := P) (h0 _) (hF _ _ (by decide) (by decide))) (hF _ _ (by decide) (by decide))
  unfold f_given
  exact ite_P (P := P) (h0 _) (ite_P (P := P) (h0 _) (ite_P (P := P) (ite_P (P := P) (hF _ _ (by decide) (by decide)) (h0 _)) (ite_P (P := P) (ite_P (P := P) (hF _ _ (by decide) (by decide)) (h0 _)) (ite_P (P := P) (h0 _) (ite_P (P := P) (h0 _) (ite_P (P := P) (hI _) (ite_P (P := P) (hI _) (ite_P (P := P) (hA _ _ _) (ite_P (P := P) (hB _ _ _) (ite_P (P := P) (h0 _) (ite_P (P := P) (ite_P (P := P) (h0 _) (hF _ _ (by decide) (by decide))) (hF _ _ (by decide) (by decide)))))))))))))
theorem f_given_sm (r x : Int32) (S : tr_S) : e_sm S (f_given r x S).2 ∧ (f_given r x S).2.1 11 = S.1 11 ∧ (f_given r x S).2.1 18 = S.1 18 ∧ (f_given r x S).2.2 12 = S.2 12 :=
  f_given_P (P := fun q => e_sm S q.2 ∧ q.2.1 11 = S.1 11 ∧ q.2.1 18 = S.1 18 ∧ q.2.2 12 = S.2 12) (fun _ => ⟨e_sm.rf S, rfl, rfl, rfl⟩) (fun _ _ _ _ => ⟨⟨rfl, rfl, rfl, rfl, rfl, rfl, rfl, rfl, rfl⟩, rfl, rfl, rfl⟩) (fun _ _ _ => ⟨⟨rfl, rfl, rfl, rfl, rfl, rfl, rfl, rfl, rfl⟩, rfl, rfl, rfl⟩) (fun _ _ _ => ⟨⟨rfl, rfl, rfl, rfl, rfl, rfl, rfl, rfl, rfl⟩, rfl, rfl, rfl⟩)
theorem f_turn_j {N : Nat} {S : tr_S} {w : Nat} (hN : wf S N) (hj : j_st S w N) (hw : ¬ S.1 11 ≤ 0) : e_sm S (f_turn S) ∧ ∃ w2, j_st (f_turn S) w2 N := by
  obtain ⟨u, rfl, et, eu, hu, hu1, hu64, k, hk, ek, hk40⟩ := j_top hj hN.1 hw
  have ef : f_top S = u := et
  have er : f_rul S = k := by unfold f_rul; rw [ef, ek, nI_clamp (by omega)]
  have popj : ∀ {T : tr_S} {v : Nat}, j_st T (v + 1) N → j_st (f_pop T) v N := fun h => j_pop h
  unfold f_turn
  rw [er]
  by_cases ha : (8 ≤ S.2 5 k ∧ S.2 5 k ≤ 11) ∨ S.2 5 k = 16
  · rw [if_pos ha]
    unfold f_turn1
    have hg : e_sm S (f_goesOn (S.1 26) S).2 ∧ ((∃ w2, j_st (f_goesOn (S.1 26) S).2 w2 N ∧ (f_goesOn (S.1 26) S).1 = 0) ∨ (j_st (f_goesOn (S.1 26) S).2 (u + 1) N ∧ (f_goesOn (S.1 26) S).1 = 1)) := by
      unfold f_goesOn
      rw [et, ek, nI_clamp (show k < 2 ^ 31 by omega)]
      split
      · refine ⟨e_sm.tr ⟨rfl, rfl, rfl, rfl, rfl, rfl, rfl, rfl, rfl⟩ (f_begins_sm _ _ _), Or.inl ?_⟩
        rcases j_begins (S := sA S 14 u (S.2 14 u + 1)) (x := S.2 13 u) (j_like hj rfl rfl rfl) (rl_fst hN hk ha) with ⟨-, -, jb⟩ | ⟨-, -, jb⟩
        · exact ⟨_, jb, rfl⟩
        · exact ⟨_, jb, rfl⟩
      · split
        · rename_i hph hq
          refine ⟨e_sm.tr ⟨rfl, rfl, rfl, rfl, rfl, rfl, rfl, rfl, rfl⟩ (f_begins_sm _ _ _), Or.inl ?_⟩
          have hrr : ∃ b, b < N ∧ (if S.2 5 k = 9 then S.2 6 k else S.2 7 k) = nI b := by
            by_cases h9 : S.2 5 k = 9
            · rw [if_pos h9]; exact rl_fst hN hk ha
            · rw [if_neg h9]
              refine rl_snd hN hk ?_
              rcases hq.2 with h | h | h | h
              · exact Or.inl h
              · exact absurd h h9
              · exact Or.inr (Or.inr (Or.inr h))
              · exact Or.inr (Or.inl h.1)
          rcases j_begins (S := sA (sA S 14 u (S.2 14 u + 1)) 15 u (S.1 26)) (x := if S.2 5 k = 8 ∨ S.2 5 k = 9 then S.1 26 else S.2 13 u) (j_like hj rfl rfl rfl) hrr with ⟨-, -, jb⟩ | ⟨-, -, jb⟩
          · exact ⟨_, jb, rfl⟩
          · exact ⟨_, jb, rfl⟩
        · exact ⟨⟨rfl, rfl, rfl, rfl, rfl, rfl, rfl, rfl, rfl⟩, Or.inr ⟨j_like hj rfl rfl rfl, rfl⟩⟩
    obtain ⟨g1, g2⟩ := hg
    split
    · rename_i hh
      rcases g2 with ⟨w2, -, h0⟩ | ⟨h1, -⟩
      · exact absurd h0 hh.2
      · exact ⟨g1.tr (f_pop_sm _), u, popj h1⟩
    · rcases g2 with ⟨w2, h1, -⟩ | ⟨h1, -⟩
      · exact ⟨g1, w2, h1⟩
      · exact ⟨g1, _, h1⟩
  · rw [if_neg ha]
    unfold f_turn2 f_leaf
    obtain ⟨g1, g2, g3, g4⟩ := f_given_sm (S.2 12 (f_top S)) (S.2 13 (f_top S)) S
    have hjl : j_st (sF (f_given (S.2 12 (f_top S)) (S.2 13 (f_top S)) S).2 26 (f_given (S.2 12 (f_top S)) (S.2 13 (f_top S)) S).1) (u + 1) N := j_like hj g2 g3 g4
    have hsm : e_sm S (sF (f_given (S.2 12 (f_top S)) (S.2 13 (f_top S)) S).2 26 (f_given (S.2 12 (f_top S)) (S.2 13 (f_top S)) S).1) := g1.tr ⟨rfl, rfl, rfl, rfl, rfl, rfl, rfl, rfl, rfl⟩
    split
    · exact ⟨hsm.tr (f_pop_sm _), u, popj hjl⟩
    · exact ⟨hsm, _, hjl⟩
/-- the failure's number is 0, or above it -/
theorem f_given_f (r x : Int32) (S : tr_S) (h : S.1 16 = 0) : (f_given r x S).2.1 16 = 0 ∨ 0 < (f_given r x S).2.1 16 :=
  f_given_P (P := fun q => q.2.1 16 = 0 ∨ 0 < q.2.1 16) (fun _ => Or.inl h) (fun _ _ ha _ => Or.inr ha) (fun _ _ _ => Or.inl h) (fun _ _ _ => Or.inl h)
theorem f_begins_f (r x : Int32) (S : tr_S) (h : S.1 16 = 0) : (f_begins r x S).2.1 16 = 0 ∨ 0 < (f_begins r x S).2.1 16 := by
  unfold f_begins
  split
  · exact Or.inr (by show (0 : Int32) < 5; decide)
  · exact Or.inl h
theorem f_turn_f {S : tr_S} {N w : Nat} (h : S.1 16 = 0) (hf0 : wf S N) (hj : j_st S w N) (hw : ¬ S.1 11 ≤ 0) : (f_turn S).1 16 = 0 ∨ 0 < (f_turn S).1 16 := by
  have hg : (f_goesOn (S.1 26) S).2.1 16 = 0 ∨ 0 < (f_goesOn (S.1 26) S).2.1 16 := by
    unfold f_goesOn
    split
    · exact f_begins_f _ _ _ h
    · split
      · exact f_begins_f _ _ _ h
      · exact Or.inl h
  have hl : (f_leaf S).1 16 = 0 ∨ 0 < (f_leaf S).1 16 := f_given_f _ _ S h
  unfold f_turn f_turn1 f_turn2
  split
  · split
    · exact hg
    · exact hg
  · split
    · exact hl
    · exact hl
set_option maxHeartbeats 4000000 in
set_option maxRecDepth 100000 in
theorem c_X3_gives (l : Launch) (D : va_G) (o : Nat) (ad : Nat → Nat) (cA : ClassId) (S0 : tr_S) (r x : Int32) (N n : Nat) (b : Int32) (T : tr_S) (hN0 : wf S0 N) (hr0 : ∃ k, k < N ∧ r = nI k) (hst : ∃ st : Nat, st ≤ 64 ∧ 0 ≤ st ∧ S0.1 18 = nI st) (hT : f_loop n (f_begins r x (sF (sF S0 11 0) 16 0)).2 = some (b, T)) : m_Mi l yX3_gives wsX3_gives { frames := 3, cells := 0, slots := 0, locals := 72 } [.int r, .int x] D o ad cA S0 (fun v S => v = b ∧ S = T) := by
  refine Met.ofW (cc := cX3_gives) (maxL := 6) (ret := (some .boolean)) (by decide) rfl ?_
  intro p e s m args below meth c s₁ B hml hv
  obtain ⟨rfl, hB⟩ := hv
  have hx := B.exec
  have hb := B.bytes
  have hr := B.returns
  have hts := atoms_spec (ws := wsX3_gives) B.pre
  have hown : s.vm.findClass RX3 = some m.cls := findClass_of_methodNamed B.named
  have hlocks := B.notSynchronized
  have I := m_I.of hB
  have hin : ∀ w ∈ wsX30, w ∈ wsX3_gives := fun _ h => List.mem_cons_of_mem _ (List.mem_append_right _ h)
  have L22 := hts (.fieldLink RX3 22 "TollRulesModel" "kind" "[I") (by decide +kernel)
  have L40 := hts (.fieldLink RX3 40 "TollRulesModel" "waitRule" "[I") (by decide +kernel)
  have L43 := hts (.fieldLink RX3 43 "TollRulesModel" "waitValue" "[I") (by decide +kernel)
  have L92 := hts (.fieldLink RX3 92 "TollRulesModel" "waiting" "I") (by decide +kernel)
  have L95 := hts (.fieldLink RX3 95 "TollRulesModel" "failure" "I") (by decide +kernel)
  have L109 := hts (.fieldLink RX3 109 "TollRulesModel" "handed" "I") (by decide +kernel)
  have hl := lv_entry ([.ref o, .int r, .int x]) (n := 6) (Nat.le_of_ble_eq_true rfl)
  rw [lg_entry_eq]
  generalize (lg_sl ([.ref o, .int r, .int x]) ++ List.replicate (6 - (lg_sl ([.ref o, .int r, .int x])).length) Slot.unset).toArray = ls at hl ⊢
  have hl : lv_has ls 6 [(0, .ref o), (1, .int r), (2, .int x)] := hl
  have LG : ∀ (d : Nat) (S : tr_S) (w : Nat) (y : Int32), wf S N → j_st S w N → (S.1 16 = 0 ∨ 0 < S.1 16) → f_loop d S = some (b, T) → ∀ (H : Heap) (locs : List Loc) (ls : Array Slot), m_I D o ad cA S s s.heap H locs → lv_has ls 6 [(3, .int y), (0, .ref o), (1, .int r), (2, .int x)] → W p l e (headSpec wsX3_gives { frames := 3, cells := 0, slots := 0, locals := 72 }).room s m (([.ref o, .int r, .int x] : List Value).toArray) below meth c H locs 0 0 (MQ below (va_Qi (fun v S => v = b ∧ S = T) (m_B D o ad cA) (m_A o ad)) (([.ref o, .int r, .int x] : List Value).toArray) s 0 0 (m_A o ad)) (F0 m 17 ls []) := by
    intro d
    induction d with
    | zero => intro S w y _ _ _ hT; exact absurd hT (by unfold f_loop; exact fun h => by cases h)
    | succ d ih =>
      intro S w y hN hj hf hT H locs ls I hl
      refine lv_aload_n hx hb dX3_gives_17 rfl (lv_at hl 1 rfl) ?_
      refine m_get11 hx hb hts hin hown I L92 dX3_gives_18 (x := S.1 11) rfl ?_
      refine lv_if_gt (tgt := 31) hx hb dX3_gives_21 (by decide) (fun c21 => ?_) (fun c21 => ?_)
      · refine lv_aload_n hx hb dX3_gives_31 rfl (lv_at hl 1 rfl) ?_
        refine m_get16 hx hb hts hin hown I L95 dX3_gives_32 (x := S.1 16) rfl ?_
        refine lv_if_le (tgt := 51) hx hb dX3_gives_35 (by decide) (fun c35 => ?_) (fun c35 => ?_)
        · have hNB := hN
          have hjB := hj
          have hnn : ¬ S.1 11 ≤ 0 := Int32.not_le.mpr c21
          have f0 : S.1 16 = 0 := hf.elim id (fun q => absurd c35 (Int32.not_le.mpr q))
          obtain ⟨u, rfl, et, eu, hu, hu1, hu64, k, hk, ek, hk40⟩ := j_top hjB hNB.1 hnn
          have ef : f_top S = u := et
          have er : f_rul S = k := by unfold f_rul; rw [ef, ek, nI_clamp (by omega)]
          refine lv_aload_n hx hb dX3_gives_51 rfl (lv_at hl 1 rfl) ?_
          refine m_get12 hx hb hts hin hown I L40 dX3_gives_52 ?_
          refine lv_aload_n hx hb dX3_gives_55 rfl (lv_at hl 1 rfl) ?_
          refine m_get11 hx hb hts hin hown I L92 dX3_gives_56 (x := S.1 11) rfl ?_
          refine lv_iconst (v := 1) hx hb dX3_gives_59 (by decide) ?_
          refine lv_isub hx hb dX3_gives_60 ?_
          refine m_ald12 hx hb I hu dX3_gives_61 (x := S.2 12 u) (by rw [et] <;> rfl) ?_
          refine lv_istore (lv' := [(4, .int (S.2 12 u)), (3, .int y), (0, .ref o), (1, .int r), (2, .int x)]) hx hb dX3_gives_62 hl (by decide) rfl (fun ls hl => ?_)
          refine lv_iconst (v := 1) hx hb dX3_gives_64 (by decide) ?_
          refine lv_istore (lv' := [(5, .int 1), (4, .int (S.2 12 u)), (3, .int y), (0, .ref o), (1, .int r), (2, .int x)]) hx hb dX3_gives_65 hl (by decide) rfl (fun ls hl => ?_)
          refine lv_aload_n hx hb dX3_gives_67 rfl (lv_at hl 3 rfl) ?_
          refine m_get5 hx hb hts hin hown I L22 dX3_gives_68 ?_
          refine lv_iload hx hb dX3_gives_71 (lv_at hl 1 rfl) ?_
          refine m_ald5 hx hb I (by rw [ek]; exact vp_in_nI hk40 (by decide)) dX3_gives_73 (x := S.2 5 k) (by rw [ek, nI_clamp (show k < 2 ^ 31 by omega)] <;> rfl) ?_
          refine m_asks ⟨hx, hb, hml, hown, hts⟩ gX3_gives_X3_asks ⟨Nat.le_of_ble_eq_true rfl, Nat.le_of_ble_eq_true rfl⟩ ⟨Nat.le_refl _, Nat.le_refl _⟩ hl.1 (Nat.le_of_ble_eq_true rfl) dX3_gives_74 (fun h74 => ?_) (fun h74 => ?_)
          · refine lv_if_eq (tgt := 93) hx hb dX3_gives_77 (by decide) (fun h => absurd h (by decide)) (fun _ => ?_)
            refine lv_aload_n hx hb dX3_gives_80 rfl (lv_at hl 3 rfl) ?_
            refine lv_aload_n hx hb dX3_gives_81 rfl (lv_at hl 3 rfl) ?_
            refine m_get26 hx hb hts hin hown I L109 dX3_gives_82 (x := S.1 26) rfl ?_
            refine m_calli (rest := []) ⟨hx, hb, hml, hown, hts⟩ (c_X3_goesOn l D o ad cA S (S.1 26) hu hu1 (by rw [et, ek]; exact vp_in_nI hk40 (by decide))) (cwV 1 hts gX3_gives_X3_goesOn rfl rfl rfl (by decide +kernel) ⟨Nat.le_of_ble_eq_true rfl, Nat.le_of_ble_eq_true rfl⟩) I rfl hl.1 rfl (Nat.le_of_ble_eq_true rfl) dX3_gives_85 ⟨Nat.le_refl _, Nat.le_refl _⟩ (fun r85 S85 H locs p85 I => ?_)
            refine lv_istore (lv' := [(5, .int r85), (4, .int (S.2 12 u)), (3, .int y), (0, .ref o), (1, .int r), (2, .int x)]) hx hb dX3_gives_88 hl (by decide) rfl (fun ls hl => ?_)
            refine lv_goto (tgt := 114) hx hb dX3_gives_90 (by decide) ?_
            refine lv_aload_n hx hb dX3_gives_114 rfl (lv_at hl 3 rfl) ?_
            refine m_get16 hx hb hts hin hown I L95 dX3_gives_115 (x := S85.1 16) rfl ?_
            refine lv_if_ne (tgt := 136) hx hb dX3_gives_118 (by decide) (fun c118 => ?_) (fun c118 => ?_)
            · refine lv_goto (tgt := 17) hx hb dX3_gives_136 (by decide) ?_
              have eT : S85 = f_turn S := by unfold f_turn; rw [er, if_pos h74]; unfold f_turn1; rw [← p85]; exact (if_neg (fun q => c118 q.1)).symm
              obtain ⟨hsm, w2, hj2⟩ := f_turn_j hNB hjB hnn
              have hf2 := f_turn_f f0 (hf0 := hNB) hjB hnn
              rw [eT] at I
              unfold f_loop at hT
              rw [if_neg (fun q => q.1 c21), if_pos c35] at hT
              exact ih (f_turn S) w2 y (hNB.sm hsm) hj2 hf2 hT H locs ls I (lv_sub hl [2, 3, 4, 5] rfl)
            · refine lv_iload hx hb dX3_gives_121 (lv_at hl 0 rfl) ?_
              refine lv_if_eq (tgt := 136) hx hb dX3_gives_123 (by decide) (fun c123 => ?_) (fun c123 => ?_)
              · refine lv_goto (tgt := 17) hx hb dX3_gives_136 (by decide) ?_
                have eT : S85 = f_turn S := by unfold f_turn; rw [er, if_pos h74]; unfold f_turn1; rw [← p85]; exact (if_neg (fun q => q.2 c123)).symm
                obtain ⟨hsm, w2, hj2⟩ := f_turn_j hNB hjB hnn
                have hf2 := f_turn_f f0 (hf0 := hNB) hjB hnn
                rw [eT] at I
                unfold f_loop at hT
                rw [if_neg (fun q => q.1 c21), if_pos c35] at hT
                exact ih (f_turn S) w2 y (hNB.sm hsm) hj2 hf2 hT H locs ls I (lv_sub hl [2, 3, 4, 5] rfl)
              · refine lv_aload_n hx hb dX3_gives_126 rfl (lv_at hl 3 rfl) ?_
                refine lv_dup hx hb dX3_gives_127 rfl ?_
                refine m_get11 hx hb hts hin hown I L92 dX3_gives_128 (x := S85.1 11) rfl ?_
                refine lv_iconst (v := 1) hx hb dX3_gives_131 (by decide) ?_
                refine lv_isub hx hb dX3_gives_132 ?_
                refine m_put11 hx hb hts hin hown I L92 dX3_gives_133 (fun H locs I => ?_)
                refine lv_goto (tgt := 17) hx hb dX3_gives_136 (by decide) ?_
                have eT : (sF S85 11 ((S85.1 11) - 1)) = f_turn S := by unfold f_turn; rw [er, if_pos h74]; unfold f_turn1; rw [← p85]; exact (if_pos ⟨c118, c123⟩).symm
                obtain ⟨hsm, w2, hj2⟩ := f_turn_j hNB hjB hnn
                have hf2 := f_turn_f f0 (hf0 := hNB) hjB hnn
                rw [eT] at I
                unfold f_loop at hT
                rw [if_neg (fun q => q.1 c21), if_pos c35] at hT
                exact ih (f_turn S) w2 y (hNB.sm hsm) hj2 hf2 hT H locs ls I (lv_sub hl [2, 3, 4, 5] rfl)
          · refine lv_if_eq (tgt := 93) hx hb dX3_gives_77 (by decide) (fun _ => ?_) (fun h => absurd h (by decide))
            refine lv_aload_n hx hb dX3_gives_93 rfl (lv_at hl 3 rfl) ?_
            refine lv_aload_n hx hb dX3_gives_94 rfl (lv_at hl 3 rfl) ?_
            refine lv_iload hx hb dX3_gives_95 (lv_at hl 1 rfl) ?_
            refine lv_aload_n hx hb dX3_gives_97 rfl (lv_at hl 3 rfl) ?_
            refine m_get13 hx hb hts hin hown I L43 dX3_gives_98 ?_
            refine lv_aload_n hx hb dX3_gives_101 rfl (lv_at hl 3 rfl) ?_
            refine m_get11 hx hb hts hin hown I L92 dX3_gives_102 (x := S.1 11) rfl ?_
            refine lv_iconst (v := 1) hx hb dX3_gives_105 (by decide) ?_
            refine lv_isub hx hb dX3_gives_106 ?_
            refine m_ald13 hx hb I hu dX3_gives_107 (x := S.2 13 u) (by rw [et] <;> rfl) ?_
            refine m_calli (rest := [.ref o]) ⟨hx, hb, hml, hown, hts⟩ (c_X3_given l D o ad cA S (S.2 12 u) (S.2 13 u) (by rw [ek]; exact hNB.g hk)) (cwV 2 hts gX3_gives_X3_given rfl rfl rfl (by decide +kernel) ⟨Nat.le_of_ble_eq_true rfl, Nat.le_of_ble_eq_true rfl⟩) I rfl hl.1 rfl (Nat.le_of_ble_eq_true rfl) dX3_gives_108 ⟨Nat.le_refl _, Nat.le_refl _⟩ (fun r108 S108 H locs p108 I => ?_)
            refine m_put26 hx hb hts hin hown I L109 dX3_gives_111 (fun H locs I => ?_)
            refine lv_aload_n hx hb dX3_gives_114 rfl (lv_at hl 3 rfl) ?_
            refine m_get16 hx hb hts hin hown I L95 dX3_gives_115 (x := S108.1 16) rfl ?_
            refine lv_if_ne (tgt := 136) hx hb dX3_gives_118 (by decide) (fun c118 => ?_) (fun c118 => ?_)
            · refine lv_goto (tgt := 17) hx hb dX3_gives_136 (by decide) ?_
              have eL : f_leaf S = sF S108 26 r108 := by unfold f_leaf; rw [ef, ← p108]
              have eT : (sF S108 26 r108) = f_turn S := by unfold f_turn; rw [er, if_neg h74]; unfold f_turn2; rw [eL]; exact (if_neg c118).symm
              obtain ⟨hsm, w2, hj2⟩ := f_turn_j hNB hjB hnn
              have hf2 := f_turn_f f0 (hf0 := hNB) hjB hnn
              rw [eT] at I
              unfold f_loop at hT
              rw [if_neg (fun q => q.1 c21), if_pos c35] at hT
              exact ih (f_turn S) w2 y (hNB.sm hsm) hj2 hf2 hT H locs ls I (lv_sub hl [2, 3, 4, 5] rfl)
            · refine lv_iload hx hb dX3_gives_121 (lv_at hl 0 rfl) ?_
              refine lv_if_eq (tgt := 136) hx hb dX3_gives_123 (by decide) (fun h => absurd h (by decide)) (fun _ => ?_)
              refine lv_aload_n hx hb dX3_gives_126 rfl (lv_at hl 3 rfl) ?_
              refine lv_dup hx hb dX3_gives_127 rfl ?_
              refine m_get11 hx hb hts hin hown I L92 dX3_gives_128 (x := S108.1 11) rfl ?_
              refine lv_iconst (v := 1) hx hb dX3_gives_131 (by decide) ?_
              refine lv_isub hx hb dX3_gives_132 ?_
              refine m_put11 hx hb hts hin hown I L92 dX3_gives_133 (fun H locs I => ?_)
              refine lv_goto (tgt := 17) hx hb dX3_gives_136 (by decide) ?_
              have eL : f_leaf S = sF S108 26 r108 := by unfold f_leaf; rw [ef, ← p108]
              have eT : (sF (sF S108 26 r108) 11 ((S108.1 11) - 1)) = f_turn S := by unfold f_turn; rw [er, if_neg h74]; unfold f_turn2; rw [eL]; exact (if_pos c118).symm
              obtain ⟨hsm, w2, hj2⟩ := f_turn_j hNB hjB hnn
              have hf2 := f_turn_f f0 (hf0 := hNB) hjB hnn
              rw [eT] at I
              unfold f_loop at hT
              rw [if_neg (fun q => q.1 c21), if_pos c35] at hT
              exact ih (f_turn S) w2 y (hNB.sm hsm) hj2 hf2 hT H locs ls I (lv_sub hl [2, 3, 4, 5] rfl)
        · refine lv_aload_n hx hb dX3_gives_38 rfl (lv_at hl 1 rfl) ?_
          refine m_callv (rest := []) ⟨hx, hb, hml, hown, hts⟩ (c_X3_recovers l D o ad cA S N w 140 hN hj (by have := hj.2.1.choose_spec; split <;> omega)) (cwV 0 hts gX3_gives_X3_recovers rfl rfl rfl (by decide +kernel) ⟨Nat.le_of_ble_eq_true rfl, Nat.le_of_ble_eq_true rfl⟩) I rfl hl.1 rfl (Nat.le_of_ble_eq_true rfl) dX3_gives_39 ⟨Nat.le_refl _, Nat.le_refl _⟩ (fun S39 H locs p39 I => ?_)
          refine lv_aload_n hx hb dX3_gives_42 rfl (lv_at hl 1 rfl) ?_
          refine m_get16 hx hb hts hin hown I L95 dX3_gives_43 (x := S39.1 16) rfl ?_
          refine lv_if_le (tgt := 51) hx hb dX3_gives_46 (by decide) (fun c46 => ?_) (fun c46 => ?_)
          · obtain ⟨w9, hjB, gB⟩ := f_rec_j 140 S w hN hj
            have gB := gB c35 (by have := hj.2.1.choose_spec; split <;> omega)
            rw [← p39] at hjB gB
            have hNB : wf S39 N := by rw [p39]; exact hN.sm (f_rec_sm 140 S)
            have gB := gB c46
            have hnn := gB.1
            have f0 := gB.2
            obtain ⟨u, rfl, et, eu, hu, hu1, hu64, k, hk, ek, hk40⟩ := j_top hjB hNB.1 hnn
            have ef : f_top S39 = u := et
            have er : f_rul S39 = k := by unfold f_rul; rw [ef, ek, nI_clamp (by omega)]
            refine lv_aload_n hx hb dX3_gives_51 rfl (lv_at hl 1 rfl) ?_
            refine m_get12 hx hb hts hin hown I L40 dX3_gives_52 ?_
            refine lv_aload_n hx hb dX3_gives_55 rfl (lv_at hl 1 rfl) ?_
            refine m_get11 hx hb hts hin hown I L92 dX3_gives_56 (x := S39.1 11) rfl ?_
            refine lv_iconst (v := 1) hx hb dX3_gives_59 (by decide) ?_
            refine lv_isub hx hb dX3_gives_60 ?_
            refine m_ald12 hx hb I hu dX3_gives_61 (x := S39.2 12 u) (by rw [et] <;> rfl) ?_
            refine lv_istore (lv' := [(4, .int (S39.2 12 u)), (3, .int y), (0, .ref o), (1, .int r), (2, .int x)]) hx hb dX3_gives_62 hl (by decide) rfl (fun ls hl => ?_)
            refine lv_iconst (v := 1) hx hb dX3_gives_64 (by decide) ?_
            refine lv_istore (lv' := [(5, .int 1), (4, .int (S39.2 12 u)), (3, .int y), (0, .ref o), (1, .int r), (2, .int x)]) hx hb dX3_gives_65 hl (by decide) rfl (fun ls hl => ?_)
            refine lv_aload_n hx hb dX3_gives_67 rfl (lv_at hl 3 rfl) ?_
            refine m_get5 hx hb hts hin hown I L22 dX3_gives_68 ?_
            refine lv_iload hx hb dX3_gives_71 (lv_at hl 1 rfl) ?_
            refine m_ald5 hx hb I (by rw [ek]; exact vp_in_nI hk40 (by decide)) dX3_gives_73 (x := S39.2 5 k) (by rw [ek, nI_clamp (show k < 2 ^ 31 by omega)] <;> rfl) ?_
            refine m_asks ⟨hx, hb, hml, hown, hts⟩ gX3_gives_X3_asks ⟨Nat.le_of_ble_eq_true rfl, Nat.le_of_ble_eq_true rfl⟩ ⟨Nat.le_refl _, Nat.le_refl _⟩ hl.1 (Nat.le_of_ble_eq_true rfl) dX3_gives_74 (fun h74 => ?_) (fun h74 => ?_)
            · refine lv_if_eq (tgt := 93) hx hb dX3_gives_77 (by decide) (fun h => absurd h (by decide)) (fun _ => ?_)
              refine lv_aload_n hx hb dX3_gives_80 rfl (lv_at hl 3 rfl) ?_
              refine lv_aload_n hx hb dX3_gives_81 rfl (lv_at hl 3 rfl) ?_
              refine m_get26 hx hb hts hin hown I L109 dX3_gives_82 (x := S39.1 26) rfl ?_
              refine m_calli (rest := []) ⟨hx, hb, hml, hown, hts⟩ (c_X3_goesOn l D o ad cA S39 (S39.1 26) hu hu1 (by rw [et, ek]; exact vp_in_nI hk40 (by decide))) (cwV 1 hts gX3_gives_X3_goesOn rfl rfl rfl (by decide +kernel) ⟨Nat.le_of_ble_eq_true rfl, Nat.le_of_ble_eq_true rfl⟩) I rfl hl.1 rfl (Nat.le_of_ble_eq_true rfl) dX3_gives_85 ⟨Nat.le_refl _, Nat.le_refl _⟩ (fun r85 S85 H locs p85 I => ?_)
              refine lv_istore (lv' := [(5, .int r85), (4, .int (S39.2 12 u)), (3, .int y), (0, .ref o), (1, .int r), (2, .int x)]) hx hb dX3_gives_88 hl (by decide) rfl (fun ls hl => ?_)
              refine lv_goto (tgt := 114) hx hb dX3_gives_90 (by decide) ?_
              refine lv_aload_n hx hb dX3_gives_114 rfl (lv_at hl 3 rfl) ?_
              refine m_get16 hx hb hts hin hown I L95 dX3_gives_115 (x := S85.1 16) rfl ?_
              refine lv_if_ne (tgt := 136) hx hb dX3_gives_118 (by decide) (fun c118 => ?_) (fun c118 => ?_)
              · refine lv_goto (tgt := 17) hx hb dX3_gives_136 (by decide) ?_
                have eT : S85 = f_turn S39 := by unfold f_turn; rw [er, if_pos h74]; unfold f_turn1; rw [← p85]; exact (if_neg (fun q => c118 q.1)).symm
                obtain ⟨hsm, w2, hj2⟩ := f_turn_j hNB hjB hnn
                have hf2 := f_turn_f f0 (hf0 := hNB) hjB hnn
                rw [eT] at I
                unfold f_loop at hT
                rw [if_neg (fun q => c35 q.2), if_neg c35, ← p39, if_pos c46] at hT
                exact ih (f_turn S39) w2 y (hNB.sm hsm) hj2 hf2 hT H locs ls I (lv_sub hl [2, 3, 4, 5] rfl)
              · refine lv_iload hx hb dX3_gives_121 (lv_at hl 0 rfl) ?_
                refine lv_if_eq (tgt := 136) hx hb dX3_gives_123 (by decide) (fun c123 => ?_) (fun c123 => ?_)
                · refine lv_goto (tgt := 17) hx hb dX3_gives_136 (by decide) ?_
                  have eT : S85 = f_turn S39 := by unfold f_turn; rw [er, if_pos h74]; unfold f_turn1; rw [← p85]; exact (if_neg (fun q => q.2 c123)).symm
                  obtain ⟨hsm, w2, hj2⟩ := f_turn_j hNB hjB hnn
                  have hf2 := f_turn_f f0 (hf0 := hNB) hjB hnn
                  rw [eT] at I
                  unfold f_loop at hT
                  rw [if_neg (fun q => c35 q.2), if_neg c35, ← p39, if_pos c46] at hT
                  exact ih (f_turn S39) w2 y (hNB.sm hsm) hj2 hf2 hT H locs ls I (lv_sub hl [2, 3, 4, 5] rfl)
                · refine lv_aload_n hx hb dX3_gives_126 rfl (lv_at hl 3 rfl) ?_
                  refine lv_dup hx hb dX3_gives_127 rfl ?_
                  refine m_get11 hx hb hts hin hown I L92 dX3_gives_128 (x := S85.1 11) rfl ?_
                  refine lv_iconst (v := 1) hx hb dX3_gives_131 (by decide) ?_
                  refine lv_isub hx hb dX3_gives_132 ?_
                  refine m_put11 hx hb hts hin hown I L92 dX3_gives_133 (fun H locs I => ?_)
                  refine lv_goto (tgt := 17) hx hb dX3_gives_136 (by decide) ?_
                  have eT : (sF S85 11 ((S85.1 11) - 1)) = f_turn S39 := by unfold f_turn; rw [er, if_pos h74]; unfold f_turn1; rw [← p85]; exact (if_pos ⟨c118, c123⟩).symm
                  obtain ⟨hsm, w2, hj2⟩ := f_turn_j hNB hjB hnn
                  have hf2 := f_turn_f f0 (hf0 := hNB) hjB hnn
                  rw [eT] at I
                  unfold f_loop at hT
                  rw [if_neg (fun q => c35 q.2), if_neg c35, ← p39, if_pos c46] at hT
                  exact ih (f_turn S39) w2 y (hNB.sm hsm) hj2 hf2 hT H locs ls I (lv_sub hl [2, 3, 4, 5] rfl)
            · refine lv_if_eq (tgt := 93) hx hb dX3_gives_77 (by decide) (fun _ => ?_) (fun h => absurd h (by decide))
              refine lv_aload_n hx hb dX3_gives_93 rfl (lv_at hl 3 rfl) ?_
              refine lv_aload_n hx hb dX3_gives_94 rfl (lv_at hl 3 rfl) ?_
              refine lv_iload hx hb dX3_gives_95 (lv_at hl 1 rfl) ?_
              refine lv_aload_n hx hb dX3_gives_97 rfl (lv_at hl 3 rfl) ?_
              refine m_get13 hx hb hts hin hown I L43 dX3_gives_98 ?_
              refine lv_aload_n hx hb dX3_gives_101 rfl (lv_at hl 3 rfl) ?_
              refine m_get11 hx hb hts hin hown I L92 dX3_gives_102 (x := S39.1 11) rfl ?_
              refine lv_iconst (v := 1) hx hb dX3_gives_105 (by decide) ?_
              refine lv_isub hx hb dX3_gives_106 ?_
              refine m_ald13 hx hb I hu dX3_gives_107 (x := S39.2 13 u) (by rw [et] <;> rfl) ?_
              refine m_calli (rest := [.ref o]) ⟨hx, hb, hml, hown, hts⟩ (c_X3_given l D o ad cA S39 (S39.2 12 u) (S39.2 13 u) (by rw [ek]; exact hNB.g hk)) (cwV 2 hts gX3_gives_X3_given rfl rfl rfl (by decide +kernel) ⟨Nat.le_of_ble_eq_true rfl, Nat.le_of_ble_eq_true rfl⟩) I rfl hl.1 rfl (Nat.le_of_ble_eq_true rfl) dX3_gives_108 ⟨Nat.le_refl _, Nat.le_refl _⟩ (fun r108 S108 H locs p108 I => ?_)
              refine m_put26 hx hb hts hin hown I L109 dX3_gives_111 (fun H locs I => ?_)
              refine lv_aload_n hx hb dX3_gives_114 rfl (lv_at hl 3 rfl) ?_
              refine m_get16 hx hb hts hin hown I L95 dX3_gives_115 (x := S108.1 16) rfl ?_
              refine lv_if_ne (tgt := 136) hx hb dX3_gives_118 (by decide) (fun c118 => ?_) (fun c118 => ?_)
              · refine lv_goto (tgt := 17) hx hb dX3_gives_136 (by decide) ?_
                have eL : f_leaf S39 = sF S108 26 r108 := by unfold f_leaf; rw [ef, ← p108]
                have eT : (sF S108 26 r108) = f_turn S39 := by unfold f_turn; rw [er, if_neg h74]; unfold f_turn2; rw [eL]; exact (if_neg c118).symm
                obtain ⟨hsm, w2, hj2⟩ := f_turn_j hNB hjB hnn
                have hf2 := f_turn_f f0 (hf0 := hNB) hjB hnn
                rw [eT] at I
                unfold f_loop at hT
                rw [if_neg (fun q => c35 q.2), if_neg c35, ← p39, if_pos c46] at hT
                exact ih (f_turn S39) w2 y (hNB.sm hsm) hj2 hf2 hT H locs ls I (lv_sub hl [2, 3, 4, 5] rfl)
              · refine lv_iload hx hb dX3_gives_121 (lv_at hl 0 rfl) ?_
                refine lv_if_eq (tgt := 136) hx hb dX3_gives_123 (by decide) (fun h => absurd h (by decide)) (fun _ => ?_)
                refine lv_aload_n hx hb dX3_gives_126 rfl (lv_at hl 3 rfl) ?_
                refine lv_dup hx hb dX3_gives_127 rfl ?_
                refine m_get11 hx hb hts hin hown I L92 dX3_gives_128 (x := S108.1 11) rfl ?_
                refine lv_iconst (v := 1) hx hb dX3_gives_131 (by decide) ?_
                refine lv_isub hx hb dX3_gives_132 ?_
                refine m_put11 hx hb hts hin hown I L92 dX3_gives_133 (fun H locs I => ?_)
                refine lv_goto (tgt := 17) hx hb dX3_gives_136 (by decide) ?_
                have eL : f_leaf S39 = sF S108 26 r108 := by unfold f_leaf; rw [ef, ← p108]
                have eT : (sF (sF S108 26 r108) 11 ((S108.1 11) - 1)) = f_turn S39 := by unfold f_turn; rw [er, if_neg h74]; unfold f_turn2; rw [eL]; exact (if_pos c118).symm
                obtain ⟨hsm, w2, hj2⟩ := f_turn_j hNB hjB hnn
                have hf2 := f_turn_f f0 (hf0 := hNB) hjB hnn
                rw [eT] at I
                unfold f_loop at hT
                rw [if_neg (fun q => c35 q.2), if_neg c35, ← p39, if_pos c46] at hT
                exact ih (f_turn S39) w2 y (hNB.sm hsm) hj2 hf2 hT H locs ls I (lv_sub hl [2, 3, 4, 5] rfl)
          · refine lv_iconst (v := 0) hx hb dX3_gives_49 (by decide) ?_
            unfold f_loop at hT
            rw [if_neg (fun q => c35 q.2), if_neg c35, ← p39, if_neg c46] at hT
            exact m_zret hx hb hr hlocks I rfl dX3_gives_50 ⟨congrArg Prod.fst (Option.some.inj hT), congrArg Prod.snd (Option.some.inj hT)⟩
      · refine lv_aload_n hx hb dX3_gives_24 rfl (lv_at hl 1 rfl) ?_
        refine m_get16 hx hb hts hin hown I L95 dX3_gives_25 (x := S.1 16) rfl ?_
        refine lv_if_le (tgt := 139) hx hb dX3_gives_28 (by decide) (fun c28 => ?_) (fun c28 => ?_)
        · refine lv_iconst (v := 1) hx hb dX3_gives_139 (by decide) ?_
          unfold f_loop at hT
          rw [if_pos ⟨c21, c28⟩] at hT
          exact m_zret hx hb hr hlocks I rfl dX3_gives_140 ⟨congrArg Prod.fst (Option.some.inj hT), congrArg Prod.snd (Option.some.inj hT)⟩
        · refine lv_aload_n hx hb dX3_gives_31 rfl (lv_at hl 1 rfl) ?_
          refine m_get16 hx hb hts hin hown I L95 dX3_gives_32 (x := S.1 16) rfl ?_
          refine lv_if_le (tgt := 51) hx hb dX3_gives_35 (by decide) (fun h => absurd h c28) (fun _ => ?_)
          refine lv_aload_n hx hb dX3_gives_38 rfl (lv_at hl 1 rfl) ?_
          refine m_callv (rest := []) ⟨hx, hb, hml, hown, hts⟩ (c_X3_recovers l D o ad cA S N w 140 hN hj (by have := hj.2.1.choose_spec; split <;> omega)) (cwV 0 hts gX3_gives_X3_recovers rfl rfl rfl (by decide +kernel) ⟨Nat.le_of_ble_eq_true rfl, Nat.le_of_ble_eq_true rfl⟩) I rfl hl.1 rfl (Nat.le_of_ble_eq_true rfl) dX3_gives_39 ⟨Nat.le_refl _, Nat.le_refl _⟩ (fun S39 H locs p39 I => ?_)
          refine lv_aload_n hx hb dX3_gives_42 rfl (lv_at hl 1 rfl) ?_
          refine m_get16 hx hb hts hin hown I L95 dX3_gives_43 (x := S39.1 16) rfl ?_
          refine lv_if_le (tgt := 51) hx hb dX3_gives_46 (by decide) (fun c46 => ?_) (fun c46 => ?_)
          · obtain ⟨w9, hjB, gB⟩ := f_rec_j 140 S w hN hj
            have gB := gB c28 (by have := hj.2.1.choose_spec; split <;> omega)
            rw [← p39] at hjB gB
            have hNB : wf S39 N := by rw [p39]; exact hN.sm (f_rec_sm 140 S)
            have gB := gB c46
            have hnn := gB.1
            have f0 := gB.2
            obtain ⟨u, rfl, et, eu, hu, hu1, hu64, k, hk, ek, hk40⟩ := j_top hjB hNB.1 hnn
            have ef : f_top S39 = u := et
            have er : f_rul S39 = k := by unfold f_rul; rw [ef, ek, nI_clamp (by omega)]
            refine lv_aload_n hx hb dX3_gives_51 rfl (lv_at hl 1 rfl) ?_
            refine m_get12 hx hb hts hin hown I L40 dX3_gives_52 ?_
            refine lv_aload_n hx hb dX3_gives_55 rfl (lv_at hl 1 rfl) ?_
            refine m_get11 hx hb hts hin hown I L92 dX3_gives_56 (x := S39.1 11) rfl ?_
            refine lv_iconst (v := 1) hx hb dX3_gives_59 (by decide) ?_
            refine lv_isub hx hb dX3_gives_60 ?_
            refine m_ald12 hx hb I hu dX3_gives_61 (x := S39.2 12 u) (by rw [et] <;> rfl) ?_
            refine lv_istore (lv' := [(4, .int (S39.2 12 u)), (3, .int y), (0, .ref o), (1, .int r), (2, .int x)]) hx hb dX3_gives_62 hl (by decide) rfl (fun ls hl => ?_)
            refine lv_iconst (v := 1) hx hb dX3_gives_64 (by decide) ?_
            refine lv_istore (lv' := [(5, .int 1), (4, .int (S39.2 12 u)), (3, .int y), (0, .ref o), (1, .int r), (2, .int x)]) hx hb dX3_gives_65 hl (by decide) rfl (fun ls hl => ?_)
            refine lv_aload_n hx hb dX3_gives_67 rfl (lv_at hl 3 rfl) ?_
            refine m_get5 hx hb hts hin hown I L22 dX3_gives_68 ?_
            refine lv_iload hx hb dX3_gives_71 (lv_at hl 1 rfl) ?_
            refine m_ald5 hx hb I (by rw [ek]; exact vp_in_nI hk40 (by decide)) dX3_gives_73 (x := S39.2 5 k) (by rw [ek, nI_clamp (show k < 2 ^ 31 by omega)] <;> rfl) ?_
            refine m_asks ⟨hx, hb, hml, hown, hts⟩ gX3_gives_X3_asks ⟨Nat.le_of_ble_eq_true rfl, Nat.le_of_ble_eq_true rfl⟩ ⟨Nat.le_refl _, Nat.le_refl _⟩ hl.1 (Nat.le_of_ble_eq_true rfl) dX3_gives_74 (fun h74 => ?_) (fun h74 => ?_)
            · refine lv_if_eq (tgt := 93) hx hb dX3_gives_77 (by decide) (fun h => absurd h (by decide)) (fun _ => ?_)
              refine lv_aload_n hx hb dX3_gives_80 rfl (lv_at hl 3 rfl) ?_
              refine lv_aload_n hx hb dX3_gives_81 rfl (lv_at hl 3 rfl) ?_
              refine m_get26 hx hb hts hin hown I L109 dX3_gives_82 (x := S39.1 26) rfl ?_
              refine m_calli (rest := []) ⟨hx, hb, hml, hown, hts⟩ (c_X3_goesOn l D o ad cA S39 (S39.1 26) hu hu1 (by rw [et, ek]; exact vp_in_nI hk40 (by decide))) (cwV 1 hts gX3_gives_X3_goesOn rfl rfl rfl (by decide +kernel) ⟨Nat.le_of_ble_eq_true rfl, Nat.le_of_ble_eq_true rfl⟩) I rfl hl.1 rfl (Nat.le_of_ble_eq_true rfl) dX3_gives_85 ⟨Nat.le_refl _, Nat.le_refl _⟩ (fun r85 S85 H locs p85 I => ?_)
              refine lv_istore (lv' := [(5, .int r85), (4, .int (S39.2 12 u)), (3, .int y), (0, .ref o), (1, .int r), (2, .int x)]) hx hb dX3_gives_88 hl (by decide) rfl (fun ls hl => ?_)
              refine lv_goto (tgt := 114) hx hb dX3_gives_90 (by decide) ?_
              refine lv_aload_n hx hb dX3_gives_114 rfl (lv_at hl 3 rfl) ?_
              refine m_get16 hx hb hts hin hown I L95 dX3_gives_115 (x := S85.1 16) rfl ?_
              refine lv_if_ne (tgt := 136) hx hb dX3_gives_118 (by decide) (fun c118 => ?_) (fun c118 => ?_)
              · refine lv_goto (tgt := 17) hx hb dX3_gives_136 (by decide) ?_
                have eT : S85 = f_turn S39 := by unfold f_turn; rw [er, if_pos h74]; unfold f_turn1; rw [← p85]; exact (if_neg (fun q => c118 q.1)).symm
                obtain ⟨hsm, w2, hj2⟩ := f_turn_j hNB hjB hnn
                have hf2 := f_turn_f f0 (hf0 := hNB) hjB hnn
                rw [eT] at I
                unfold f_loop at hT
                rw [if_neg (fun q => c28 q.2), if_neg c28, ← p39, if_pos c46] at hT
                exact ih (f_turn S39) w2 y (hNB.sm hsm) hj2 hf2 hT H locs ls I (lv_sub hl [2, 3, 4, 5] rfl)
              · refine lv_iload hx hb dX3_gives_121 (lv_at hl 0 rfl) ?_
                refine lv_if_eq (tgt := 136) hx hb dX3_gives_123 (by decide) (fun c123 => ?_) (fun c123 => ?_)
                · refine lv_goto (tgt := 17) hx hb dX3_gives_136 (by decide) ?_
                  have eT : S85 = f_turn S39 := by unfold f_turn; rw [er, if_pos h74]; unfold f_turn1; rw [← p85]; exact (if_neg (fun q => q.2 c123)).symm
                  obtain ⟨hsm, w2, hj2⟩ := f_turn_j hNB hjB hnn
                  have hf2 := f_turn_f f0 (hf0 := hNB) hjB hnn
                  rw [eT] at I
                  unfold f_loop at hT
                  rw [if_neg (fun q => c28 q.2), if_neg c28, ← p39, if_pos c46] at hT
                  exact ih (f_turn S39) w2 y (hNB.sm hsm) hj2 hf2 hT H locs ls I (lv_sub hl [2, 3, 4, 5] rfl)
                · refine lv_aload_n hx hb dX3_gives_126 rfl (lv_at hl 3 rfl) ?_
                  refine lv_dup hx hb dX3_gives_127 rfl ?_
                  refine m_get11 hx hb hts hin hown I L92 dX3_gives_128 (x := S85.1 11) rfl ?_
                  refine lv_iconst (v := 1) hx hb dX3_gives_131 (by decide) ?_
                  refine lv_isub hx hb dX3_gives_132 ?_
                  refine m_put11 hx hb hts hin hown I L92 dX3_gives_133 (fun H locs I => ?_)
                  refine lv_goto (tgt := 17) hx hb dX3_gives_136 (by decide) ?_
                  have eT : (sF S85 11 ((S85.1 11) - 1)) = f_turn S39 := by unfold f_turn; rw [er, if_pos h74]; unfold f_turn1; rw [← p85]; exact (if_pos ⟨c118, c123⟩).symm
                  obtain ⟨hsm, w2, hj2⟩ := f_turn_j hNB hjB hnn
                  have hf2 := f_turn_f f0 (hf0 := hNB) hjB hnn
                  rw [eT] at I
                  unfold f_loop at hT
                  rw [if_neg (fun q => c28 q.2), if_neg c28, ← p39, if_pos c46] at hT
                  exact ih (f_turn S39) w2 y (hNB.sm hsm) hj2 hf2 hT H locs ls I (lv_sub hl [2, 3, 4, 5] rfl)
            · refine lv_if_eq (tgt := 93) hx hb dX3_gives_77 (by decide) (fun _ => ?_) (fun h => absurd h (by decide))
              refine lv_aload_n hx hb dX3_gives_93 rfl (lv_at hl 3 rfl) ?_
              refine lv_aload_n hx hb dX3_gives_94 rfl (lv_at hl 3 rfl) ?_
              refine lv_iload hx hb dX3_gives_95 (lv_at hl 1 rfl) ?_
              refine lv_aload_n hx hb dX3_gives_97 rfl (lv_at hl 3 rfl) ?_
              refine m_get13 hx hb hts hin hown I L43 dX3_gives_98 ?_
              refine lv_aload_n hx hb dX3_gives_101 rfl (lv_at hl 3 rfl) ?_
              refine m_get11 hx hb hts hin hown I L92 dX3_gives_102 (x := S39.1 11) rfl ?_
              refine lv_iconst (v := 1) hx hb dX3_gives_105 (by decide) ?_
              refine lv_isub hx hb dX3_gives_106 ?_
              refine m_ald13 hx hb I hu dX3_gives_107 (x := S39.2 13 u) (by rw [et] <;> rfl) ?_
              refine m_calli (rest := [.ref o]) ⟨hx, hb, hml, hown, hts⟩ (c_X3_given l D o ad cA S39 (S39.2 12 u) (S39.2 13 u) (by rw [ek]; exact hNB.g hk)) (cwV 2 hts gX3_gives_X3_given rfl rfl rfl (by decide +kernel) ⟨Nat.le_of_ble_eq_true rfl, Nat.le_of_ble_eq_true rfl⟩) I rfl hl.1 rfl (Nat.le_of_ble_eq_true rfl) dX3_gives_108 ⟨Nat.le_refl _, Nat.le_refl _⟩ (fun r108 S108 H locs p108 I => ?_)
              refine m_put26 hx hb hts hin hown I L109 dX3_gives_111 (fun H locs I => ?_)
              refine lv_aload_n hx hb dX3_gives_114 rfl (lv_at hl 3 rfl) ?_
              refine m_get16 hx hb hts hin hown I L95 dX3_gives_115 (x := S108.1 16) rfl ?_
              refine lv_if_ne (tgt := 136) hx hb dX3_gives_118 (by decide) (fun c118 => ?_) (fun c118 => ?_)
              · refine lv_goto (tgt := 17) hx hb dX3_gives_136 (by decide) ?_
                have eL : f_leaf S39 = sF S108 26 r108 := by unfold f_leaf; rw [ef, ← p108]
                have eT : (sF S108 26 r108) = f_turn S39 := by unfold f_turn; rw [er, if_neg h74]; unfold f_turn2; rw [eL]; exact (if_neg c118).symm
                obtain ⟨hsm, w2, hj2⟩ := f_turn_j hNB hjB hnn
                have hf2 := f_turn_f f0 (hf0 := hNB) hjB hnn
                rw [eT] at I
                unfold f_loop at hT
                rw [if_neg (fun q => c28 q.2), if_neg c28, ← p39, if_pos c46] at hT
                exact ih (f_turn S39) w2 y (hNB.sm hsm) hj2 hf2 hT H locs ls I (lv_sub hl [2, 3, 4, 5] rfl)
              · refine lv_iload hx hb dX3_gives_121 (lv_at hl 0 rfl) ?_
                refine lv_if_eq (tgt := 136) hx hb dX3_gives_123 (by decide) (fun h => absurd h (by decide)) (fun _ => ?_)
                refine lv_aload_n hx hb dX3_gives_126 rfl (lv_at hl 3 rfl) ?_
                refine lv_dup hx hb dX3_gives_127 rfl ?_
                refine m_get11 hx hb hts hin hown I L92 dX3_gives_128 (x := S108.1 11) rfl ?_
                refine lv_iconst (v := 1) hx hb dX3_gives_131 (by decide) ?_
                refine lv_isub hx hb dX3_gives_132 ?_
                refine m_put11 hx hb hts hin hown I L92 dX3_gives_133 (fun H locs I => ?_)
                refine lv_goto (tgt := 17) hx hb dX3_gives_136 (by decide) ?_
                have eL : f_leaf S39 = sF S108 26 r108 := by unfold f_leaf; rw [ef, ← p108]
                have eT : (sF (sF S108 26 r108) 11 ((S108.1 11) - 1)) = f_turn S39 := by unfold f_turn; rw [er, if_neg h74]; unfold f_turn2; rw [eL]; exact (if_pos c118).symm
                obtain ⟨hsm, w2, hj2⟩ := f_turn_j hNB hjB hnn
                have hf2 := f_turn_f f0 (hf0 := hNB) hjB hnn
                rw [eT] at I
                unfold f_loop at hT
                rw [if_neg (fun q => c28 q.2), if_neg c28, ← p39, if_pos c46] at hT
                exact ih (f_turn S39) w2 y (hNB.sm hsm) hj2 hf2 hT H locs ls I (lv_sub hl [2, 3, 4, 5] rfl)
          · refine lv_iconst (v := 0) hx hb dX3_gives_49 (by decide) ?_
            unfold f_loop at hT
            rw [if_neg (fun q => c28 q.2), if_neg c28, ← p39, if_neg c46] at hT
            exact m_zret hx hb hr hlocks I rfl dX3_gives_50 ⟨congrArg Prod.fst (Option.some.inj hT), congrArg Prod.snd (Option.some.inj hT)⟩
  refine lv_aload_n hx hb dX3_gives_0 rfl (lv_at hl 0 rfl) ?_
  refine lv_iconst (v := 0) hx hb dX3_gives_1 (by decide) ?_
  refine m_put11 hx hb hts hin hown I L92 dX3_gives_2 (fun H locs I => ?_)
  refine lv_aload_n hx hb dX3_gives_5 rfl (lv_at hl 0 rfl) ?_
  refine lv_iconst (v := 0) hx hb dX3_gives_6 (by decide) ?_
  refine m_put16 hx hb hts hin hown I L95 dX3_gives_7 (fun H locs I => ?_)
  refine lv_aload_n hx hb dX3_gives_10 rfl (lv_at hl 0 rfl) ?_
  refine lv_iload_n hx hb dX3_gives_11 rfl (lv_at hl 1 rfl) ?_
  refine lv_iload_n hx hb dX3_gives_12 rfl (lv_at hl 2 rfl) ?_
  refine m_calli (rest := []) ⟨hx, hb, hml, hown, hts⟩ (c_X3_begins l D o ad cA (sF (sF S0 11 0) 16 0) r x ((vp_in_nI (n := 0) (by decide) (by decide)))) (cwV 2 hts gX3_gives_X3_begins rfl rfl rfl (by decide +kernel) ⟨Nat.le_of_ble_eq_true rfl, Nat.le_of_ble_eq_true rfl⟩) I rfl hl.1 rfl (Nat.le_of_ble_eq_true rfl) dX3_gives_13 ⟨Nat.le_refl _, Nat.le_refl _⟩ (fun r13 S13 H locs p13 I => ?_)
  refine lv_istore_n (lv' := [(3, .int r13), (0, .ref o), (1, .int r), (2, .int x)]) hx hb dX3_gives_16 rfl hl (by decide) rfl (fun ls hl => ?_)
  have e13 : S13 = (f_begins r x (sF (sF S0 11 0) 16 0)).2 := congrArg Prod.snd p13
  rw [← e13] at hT
  obtain ⟨w2, hj2⟩ : ∃ w2, j_st S13 w2 N := by rcases j_begins (S := sF (sF S0 11 0) 16 0) (x := x) (w := 0) (n := N) ⟨rfl, hst, fun t ht => by omega⟩ hr0 with ⟨-, -, jb⟩ | ⟨-, -, jb⟩ <;> exact ⟨_, by rw [e13]; exact jb⟩
  exact LG n S13 w2 r13 (by rw [e13]; exact hN0.sm (e_sm.tr ⟨rfl, rfl, rfl, rfl, rfl, rfl, rfl, rfl, rfl⟩ (f_begins_sm _ _ _))) hj2 (by rw [e13]; exact f_begins_f _ _ _ rfl) hT _ _ ls I (lv_sub hl [0, 1, 2, 3] rfl)
end
section
/-! applying a rule, as a function -/
def ev_min (u : Int32) (q : Int32 × tr_S) : Int32 × tr_S := (if q.1 ≤ u then q.1 else u, q.2)
def ev_then (g : Int32 → Int32 → tr_S → Int32 × tr_S) (k a b x : Int32) (q : Int32 × tr_S) : Int32 × tr_S :=
  if q.2.1 16 = 0 then
    (if k = 8 then g b q.1 q.2 else if k = 9 then g a q.1 q.2 else if k = 10 then (if q.1 = 0 then (x, q.2) else g b x q.2) else if k = 16 then ev_min q.1 (g b x q.2) else q)
  else if k = 11 ∧ ¬ q.2.1 16 = 5 then g b x (sF (sF q.2 16 0) 24 (q.2.1 24 + 1)) else (0, q.2)
def ev_step (g : Int32 → Int32 → tr_S → Int32 × tr_S) (r x : Int32) (S : tr_S) : Int32 × tr_S :=
  if S.1 18 = 64 then (0, f_fails 5 r S)
  else if (8 ≤ S.2 5 r.toNatClampNeg ∧ S.2 5 r.toNatClampNeg ≤ 11) ∨ S.2 5 r.toNatClampNeg = 16 then
    ev_then g (S.2 5 r.toNatClampNeg) (S.2 6 r.toNatClampNeg) (S.2 7 r.toNatClampNeg) x (g (S.2 6 r.toNatClampNeg) x (f_tick S))
  else f_given r x (f_tick S)
def ev : Nat → Int32 → Int32 → tr_S → Int32 × tr_S
  | 0 => fun r _ S => (0, f_fails 5 r S)
  | n + 1 => ev_step (ev n)
theorem ev_s (n : Nat) (r x : Int32) (S : tr_S) : ev (n + 1) r x S = ev_step (ev n) r x S := rfl
/-- what each step keeps, applying keeps -/
theorem ev_ind {R : tr_S → tr_S → Prop} (tr : ∀ {S T U}, R S T → R T U → R S U) (rf : ∀ S, R S S) (tick : ∀ S, ¬ S.1 18 = 64 → R S (f_tick S)) (giv : ∀ r x S, R S (f_given r x S).2) (fl : ∀ r S, R S (f_fails 5 r S)) (el : ∀ S, R S (sF (sF S 16 0) 24 (S.1 24 + 1))) : ∀ (n : Nat) (r x : Int32) (S : tr_S), R S (ev n r x S).2
  | 0, r, x, S => fl r S
  | n + 1, r, x, S => by
    rw [ev_s]
    unfold ev_step
    by_cases h1 : S.1 18 = 64
    · rw [if_pos h1]; exact fl r S
    · rw [if_neg h1]
      refine ite_P (P := fun q : Int32 × tr_S => R S q.2) ?_ (tr (tick S h1) (giv r x _))
      have ih := ev_ind (R := R) tr rf tick giv fl el n
      generalize S.2 6 r.toNatClampNeg = a
      generalize S.2 7 r.toNatClampNeg = b
      generalize S.2 5 r.toNatClampNeg = k
      have hq : R S (ev n a x (f_tick S)).2 := tr (tick S h1) (ih a x _)
      generalize ev n a x (f_tick S) = q at hq
      unfold ev_then
      exact ite_P (P := fun q : Int32 × tr_S => R S q.2) (ite_P (P := fun q : Int32 × tr_S => R S q.2) (tr hq (ih _ _ _)) (ite_P (P := fun q : Int32 × tr_S => R S q.2) (tr hq (ih _ _ _)) (ite_P (P := fun q : Int32 × tr_S => R S q.2) (ite_P (P := fun q : Int32 × tr_S => R S q.2) hq (tr hq (ih _ _ _))) (ite_P (P := fun q : Int32 × tr_S => R S q.2) (tr hq (ih _ _ _)) hq)))) (ite_P (P := fun q : Int32 × tr_S => R S q.2) (tr (tr hq (el _)) (ih _ _ _)) hq)
theorem ev_sm (n : Nat) (r x : Int32) (S : tr_S) : e_sm S (ev n r x S).2 :=
  ev_ind (R := e_sm) e_sm.tr e_sm.rf (fun _ _ => ⟨rfl, rfl, rfl, rfl, rfl, rfl, rfl, rfl, rfl⟩) (fun r x S => (f_given_sm r x S).1) (fun _ _ => ⟨rfl, rfl, rfl, rfl, rfl, rfl, rfl, rfl, rfl⟩) (fun _ => ⟨rfl, rfl, rfl, rfl, rfl, rfl, rfl, rfl, rfl⟩) n r x S
def e_pos (S : tr_S) : Prop := S.1 16 = 0 ∨ 0 < S.1 16
theorem ev_pos (n : Nat) (r x : Int32) (S : tr_S) (h : e_pos S) : e_pos (ev n r x S).2 :=
  ev_ind (R := fun S T => e_pos S → e_pos T) (fun f g h => g (f h)) (fun _ h => h) (fun _ _ h => h) (fun r x S h => f_given_P (P := fun q => e_pos q.2) (fun _ => h) (fun _ _ ha _ => Or.inr ha) (fun _ _ _ => h) (fun _ _ _ => h)) (fun _ _ _ => Or.inr (by show (0 : Int32) < 5; decide)) (fun _ _ => Or.inl rfl) n r x S h
def e_le (S : tr_S) : Prop := 0 ≤ S.1 16 ∧ S.1 16 ≤ 5
theorem ev_le (n : Nat) (r x : Int32) (S : tr_S) (h : e_le S) : e_le (ev n r x S).2 :=
  ev_ind (R := fun S T => e_le S → e_le T) (fun f g h => g (f h)) (fun _ h => h) (fun _ _ h => h) (fun r x S h => f_given_P (P := fun q => e_le q.2) (fun _ => h) (fun _ _ ha hb => ⟨Int32.le_of_lt ha, hb⟩) (fun _ _ _ => h) (fun _ _ _ => h)) (fun _ _ _ => ⟨by show (0 : Int32) ≤ 5; decide, by show (5 : Int32) ≤ 5; decide⟩) (fun _ _ => ⟨by show (0 : Int32) ≤ 0; decide, by show (0 : Int32) ≤ 5; decide⟩) n r x S h
def e_st (S T : tr_S) : Prop := ∀ st : Nat, st ≤ 64 → S.1 18 = nI st → ∃ st2 : Nat, st ≤ st2 ∧ st2 ≤ 64 ∧ T.1 18 = nI st2
theorem ev_st (n : Nat) (r x : Int32) (S : tr_S) : e_st S (ev n r x S).2 := by
  refine ev_ind (R := e_st) (fun f g st h1 h2 => ?_) (fun _ st h1 h2 => ⟨st, Nat.le_refl _, h1, h2⟩) (fun S hs st h1 h2 => ⟨st + 1, by omega, ?_, ?_⟩) (fun r x S st h1 h2 => ⟨st, Nat.le_refl _, h1, by rw [(f_given_sm r x S).2.2.1]; exact h2⟩) (fun _ _ st h1 h2 => ⟨st, Nat.le_refl _, h1, h2⟩) (fun _ st h1 h2 => ⟨st, Nat.le_refl _, h1, h2⟩) n r x S
  · obtain ⟨s1, a1, a2, a3⟩ := f st h1 h2
    obtain ⟨s2, b1, b2, b3⟩ := g s1 a2 a3
    exact ⟨s2, by omega, b2, b3⟩
  · have : st ≠ 64 := fun q => hs (by rw [h2, q]; rfl)
    omega
  · show S.1 18 + 1 = nI (st + 1)
    rw [h2, nI_1]
/-! two states that differ in the reference's own scratch alone -/
def e_eq (S T : tr_S) : Prop := (∀ k, k ≠ 11 → k ≠ 26 → T.1 k = S.1 k) ∧ ∀ k, k < 12 → T.2 k = S.2 k
theorem e_eq.rf (S : tr_S) : e_eq S S := ⟨fun _ _ _ => rfl, fun _ _ => rfl⟩
theorem e_eq.tr {S T U : tr_S} (h : e_eq S T) (g : e_eq T U) : e_eq S U := ⟨fun k a b => (g.1 k a b).trans (h.1 k a b), fun k a => (g.2 k a).trans (h.2 k a)⟩
theorem e_eq_F {S T : tr_S} (h : e_eq S T) (k : Nat) {v u : Int32} (e : u = v) : e_eq (sF S k v) (sF T k u) := by
  refine ⟨fun j a b => ?_, h.2⟩
  rw [sF_F, sF_F, e, h.1 j a b]
theorem e_eq_A {S T : tr_S} (h : e_eq S T) (k i : Nat) {v u : Int32} (hk : k < 12) (e : u = v) : e_eq (sA S k i v) (sA T k i u) := by
  refine ⟨h.1, fun q a => ?_⟩
  funext j
  rw [sA_A, sA_A, e, h.2 q a, h.2 k hk]
theorem e_eq_lF {S T : tr_S} (h : e_eq S T) {k : Nat} (hk : k = 11 ∨ k = 26) (v : Int32) : e_eq S (sF T k v) := by
  refine ⟨fun j a b => ?_, h.2⟩
  rw [sF_F, if_neg (by omega), h.1 j a b]
theorem e_eq_lA {S T : tr_S} (h : e_eq S T) {k : Nat} (hk : 12 ≤ k) (i : Nat) (v : Int32) : e_eq S (sA T k i v) := by
  refine ⟨h.1, fun q a => ?_⟩
  funext j
  rw [sA_A, if_neg (by omega), h.2 q a]
theorem e_eq_fails {S T : tr_S} (h : e_eq S T) (a r : Int32) : e_eq (f_fails a r S) (f_fails a r T) := e_eq_F (e_eq_F h 16 rfl) 17 rfl
theorem e_eq_tick {S T : tr_S} (h : e_eq S T) : e_eq (f_tick S) (f_tick T) := by
  unfold f_tick
  exact e_eq_F (e_eq_F h 18 (by rw [h.1 18 (by decide) (by decide)])) 20 (by rw [h.1 20 (by decide) (by decide)])
theorem ite_R {α β : Type} {c : Prop} [Decidable c] {R : α → β → Prop} {a b : α} {a' b' : β} (ha : R a a') (hb : R b b') : R (if c then a else b) (if c then a' else b') := by
  by_cases h : c
  · rw [if_pos h, if_pos h]; exact ha
  · rw [if_neg h, if_neg h]; exact hb
def e_R (p q : Int32 × tr_S) : Prop := q.1 = p.1 ∧ e_eq p.2 q.2
theorem f_itemAt_eq {S T : tr_S} (h : e_eq S T) (a i r : Int32) : e_R (f_itemAt a i r S) (f_itemAt a i r T) := by
  unfold f_itemAt
  rw [h.2 2 (by decide), h.2 3 (by decide)]
  exact ite_R (R := e_R) (ite_R (R := e_R) ⟨rfl, h⟩ ⟨rfl, e_eq_fails h _ _⟩) ⟨rfl, e_eq_fails h _ _⟩
theorem f_given_eq {S T : tr_S} (h : e_eq S T) (r x : Int32) : e_R (f_given r x S) (f_given r x T) := by
  have hF : ∀ v a, e_R (v, f_fails a r S) (v, f_fails a r T) := fun v a => ⟨rfl, e_eq_fails h _ _⟩
  have h0 : ∀ v, e_R (v, S) (v, T) := fun v => ⟨rfl, h⟩
  unfold f_given
  rw [h.2 0 (by decide), h.2 1 (by decide), h.2 5 (by decide), h.2 6 (by decide), h.2 8 (by decide), h.2 9 (by decide), h.2 10 (by decide)]
  exact ite_R (R := e_R) (h0 _) (ite_R (R := e_R) (h0 _) (ite_R (R := e_R) (ite_R (R := e_R) (hF _ _) (h0 _)) (ite_R (R := e_R) (ite_R (R := e_R) (hF _ _) (h0 _)) (ite_R (R := e_R) (h0 _) (ite_R (R := e_R) (h0 _) (ite_R (R := e_R) (f_itemAt_eq h _ _ _) (ite_R (R := e_R) (f_itemAt_eq h _ _ _) (ite_R (R := e_R) ⟨rfl, e_eq_A h 0 _ (by decide) rfl⟩ (ite_R (R := e_R) ⟨rfl, e_eq_A h 10 _ (by decide) rfl⟩ (ite_R (R := e_R) (h0 _) (ite_R (R := e_R) (ite_R (R := e_R) (h0 _) (hF _ _)) (hF _ _))))))))))))
theorem ev_eq : ∀ (n : Nat) (r x : Int32) {S T : tr_S}, e_eq S T → e_R (ev n r x S) (ev n r x T)
  | 0, r, x, S, T, h => ⟨rfl, e_eq_fails h _ _⟩
  | n + 1, r, x, S, T, h => by
    rw [ev_s, ev_s]
    unfold ev_step
    rw [h.1 18 (by decide) (by decide), h.2 5 (by decide), h.2 6 (by decide), h.2 7 (by decide)]
    refine ite_R (R := e_R) ⟨rfl, e_eq_fails h _ _⟩ (ite_R (R := e_R) ?_ (f_given_eq (e_eq_tick h) r x))
    have ih := fun (a x : Int32) {S T : tr_S} (h : e_eq S T) => ev_eq n a x h
    generalize S.2 6 r.toNatClampNeg = a
    generalize S.2 7 r.toNatClampNeg = b
    generalize S.2 5 r.toNatClampNeg = k
    have hq := ih a x (e_eq_tick h)
    generalize ev n a x (f_tick S) = q at hq
    generalize ev n a x (f_tick T) = q' at hq
    obtain ⟨v, U⟩ := q
    obtain ⟨v', U'⟩ := q'
    obtain ⟨rfl, hu⟩ := hq
    have hu : e_eq U U' := hu
    unfold ev_then
    show e_R (if U.1 16 = 0 then _ else _) (if U'.1 16 = 0 then _ else _)
    rw [hu.1 16 (by decide) (by decide), hu.1 24 (by decide) (by decide)]
    refine ite_R (R := e_R) (ite_R (R := e_R) (ih _ _ hu) (ite_R (R := e_R) (ih _ _ hu) (ite_R (R := e_R) (ite_R (R := e_R) ⟨rfl, hu⟩ (ih _ _ hu)) (ite_R (R := e_R) ?_ ⟨rfl, hu⟩)))) (ite_R (R := e_R) (ih _ _ (e_eq_F (e_eq_F hu 16 rfl) 24 rfl)) ⟨rfl, hu⟩)
    obtain ⟨e1, e2⟩ := ih b x hu
    exact ⟨by show (if _ then _ else _) = (if _ then _ else _); rw [e1], e2⟩
theorem sF_self {S : tr_S} {k : Nat} {v : Int32} (h : S.1 k = v) : sF S k v = S := by
  unfold sF
  refine Prod.ext ?_ rfl
  funext j
  show upd S.1 k v j = S.1 j
  unfold upd
  by_cases q : j = k
  · rw [if_pos q, q, h]
  · rw [if_neg q]
theorem sF_sF (S : tr_S) (k : Nat) (v u : Int32) : sF (sF S k v) k u = sF S k u := by
  unfold sF
  refine Prod.ext ?_ rfl
  funext j
  show upd (upd S.1 k v) k u j = upd S.1 k u j
  unfold upd
  by_cases q : j = k
  · rw [if_pos q, if_pos q]
  · rw [if_neg q, if_neg q, if_neg q]
/-! the reference's loop does what ev says -/
def r_dead (S : tr_S) (v w : Nat) : Prop := ∀ t, v ≤ t → t < w → ¬ (¬ S.1 16 = 5 ∧ S.2 5 (S.2 12 t).toNatClampNeg = 11 ∧ S.2 14 t = 1)
theorem rec_pop : ∀ (j n : Nat) (S : tr_S) (v : Nat), S.1 11 = nI (v + j) → v + j ≤ 64 → r_dead S v (v + j) → f_rec (n + j) S = f_rec n (sF S 11 (nI v))
  | 0, n, S, v, h1, _, _ => by rw [sF_self (show S.1 11 = nI v from h1)]; rfl
  | j + 1, n, S, v, h1, h2, h3 => by
    have et : f_top S = v + j := by
      unfold f_top
      rw [h1, show v + (j + 1) = v + j + 1 by omega, nI_pred, nI_clamp (by omega)]
    have c6 : ¬ S.1 11 ≤ 0 := by rw [h1]; exact nI_nle (by omega) (by omega)
    have e : f_rec (n + j + 1) S = f_rec (n + j) (f_pop S) := by
      conv => lhs; unfold f_rec
      rw [if_neg c6, if_neg (by unfold f_rul; rw [et]; exact h3 (v + j) (by omega) (by omega))]
    have ep : (f_pop S).1 11 = nI (v + j) := by
      show S.1 11 - 1 = _
      rw [h1, show v + (j + 1) = v + j + 1 by omega, nI_pred]
    rw [show n + (j + 1) = n + j + 1 by omega, e, rec_pop j n (f_pop S) v ep (by omega) (fun t a b => h3 t a (by omega))]
    unfold f_pop
    rw [sF_sF]
theorem rec_nil (n : Nat) (S : tr_S) (h : S.1 11 ≤ 0) : f_rec n S = S := by
  cases n with
  | zero => rfl
  | succ n => unfold f_rec; rw [if_pos h]
/-- refused for want of steps: all that waits goes -/
theorem rec_spent {S : tr_S} {w : Nat} (h1 : S.1 11 = nI w) (hw : w ≤ 64) (h5 : S.1 16 = 5) : f_rec 140 S = sF S 11 (nI 0) := by
  have h := rec_pop w (140 - w) S 0 (by rw [h1, Nat.zero_add]) (by omega) (fun t _ _ q => q.1 h5)
  rw [show 140 - w + w = 140 by omega] at h
  rw [h, rec_nil]
  show (nI 0 : Int32) ≤ 0
  exact nI_0 ▸ Int32.le_refl _
theorem loop_turn {S : tr_S} {w : Nat} (m : Nat) (h1 : S.1 11 = nI (w + 1)) (hw : w < 64) (h0 : S.1 16 = 0) : f_loop (m + 1) S = f_loop m (f_turn S) := by
  conv => lhs; unfold f_loop
  have hp : 0 < S.1 11 := by rw [h1]; exact nI_0 ▸ nI_lt (by omega) (by omega)
  rw [if_neg (fun q => q.1 hp), if_pos (by rw [h0]; exact Int32.le_refl _)]
theorem loop_fail {S : tr_S} (m : Nat) (h0 : 0 < S.1 16) : f_loop (m + 1) S = if (f_rec 140 S).1 16 ≤ 0 then f_loop m (f_turn (f_rec 140 S)) else some (0, f_rec 140 S) := by
  conv => lhs; unfold f_loop
  rw [if_neg (fun q => absurd q.2 (Int32.not_le.mpr h0)), if_neg (Int32.not_le.mpr h0)]
theorem loop_spent {S : tr_S} {w : Nat} (m : Nat) (h1 : S.1 11 = nI w) (hw : w ≤ 64) (h5 : S.1 16 = 5) : f_loop (m + 1) S = some (0, sF S 11 (nI 0)) := by
  rw [loop_fail m (by rw [h5]; decide), rec_spent h1 hw h5, if_neg]
  show ¬ S.1 16 ≤ 0
  rw [h5]; decide
def r_below (w : Nat) (S T : tr_S) : Prop := ∀ t, t < w → T.2 12 t = S.2 12 t ∧ T.2 13 t = S.2 13 t ∧ T.2 14 t = S.2 14 t ∧ T.2 15 t = S.2 15 t
theorem r_below.tr {w : Nat} {S T U : tr_S} (h : r_below w S T) (g : r_below w T U) : r_below w S U := fun t ht => by
  obtain ⟨a1, a2, a3, a4⟩ := h t ht
  obtain ⟨b1, b2, b3, b4⟩ := g t ht
  exact ⟨b1.trans a1, b2.trans a2, b3.trans a3, b4.trans a4⟩
theorem r_below.le {w v : Nat} {S T : tr_S} (h : r_below w S T) (hv : v ≤ w) : r_below v S T := fun t ht => h t (by omega)
theorem r_below_sA {w : Nat} {S : tr_S} (k i : Nat) (v : Int32) (hi : w ≤ i) : r_below w S (sA S k i v) := fun t ht => by
  have hne : t ≠ i := by omega
  refine ⟨?_, ?_, ?_, ?_⟩
  all_goals
    rw [sA_A]
    split
    · rename_i h
      rw [← h]
    · rfl
def ev_out (w : Nat) (S B : tr_S) (v : Int32) (E : tr_S) : Prop :=
  ∃ (d : Nat) (T : tr_S), e_eq E T ∧ (
    (E.1 16 = 0 ∧ (∀ m, f_loop (m + (d + 1)) B = f_loop m T) ∧ T.1 11 = nI w ∧ T.1 26 = v ∧ r_below w S T) ∨
    (E.1 16 = 5 ∧ ∀ m, f_loop (m + (d + 1)) B = some (0, T)) ∨
    (¬ E.1 16 = 0 ∧ ¬ E.1 16 = 5 ∧ (∀ m, f_loop (m + (d + 1)) B = f_loop m T) ∧ r_below w S T ∧ ∃ w2, w ≤ w2 ∧ w2 ≤ 64 ∧ T.1 11 = nI w2 ∧ r_dead T w w2))
end
section
theorem out_chain {w d : Nat} {S B T E : tr_S} {v : Int32} (h : ∀ m, f_loop (m + d) B = f_loop m T) (o : ev_out w S T v E) : ev_out w S B v E := by
  obtain ⟨d2, U, he, o⟩ := o
  have hc : ∀ m, f_loop (m + (d2 + d + 1)) B = f_loop (m + (d2 + 1)) T := fun m => by rw [← h (m + (d2 + 1))]; congr 1; omega
  refine ⟨d2 + d, U, he, ?_⟩
  rcases o with ⟨a, b, c⟩ | ⟨a, b⟩ | ⟨a, b, c, e⟩
  · exact Or.inl ⟨a, fun m => (hc m).trans (b m), c⟩
  · exact Or.inr (Or.inl ⟨a, fun m => (hc m).trans (b m)⟩)
  · exact Or.inr (Or.inr ⟨a, b, fun m => (hc m).trans (c m), e⟩)
theorem out_below {w : Nat} {S S2 B E : tr_S} {v : Int32} (h : r_below w S S2) (o : ev_out w S2 B v E) : ev_out w S B v E := by
  obtain ⟨d, U, he, o⟩ := o
  refine ⟨d, U, he, ?_⟩
  rcases o with ⟨a, b, c, e, f⟩ | o | ⟨a, b, c, e, f⟩
  · exact Or.inl ⟨a, b, c, e, h.tr f⟩
  · exact Or.inr (Or.inl o)
  · exact Or.inr (Or.inr ⟨a, b, c, h.tr e, f⟩)
theorem out_eq {w : Nat} {S B E E0 : tr_S} {v : Int32} (h : e_eq E0 E) (o : ev_out w S B v E) : ev_out w S B v E0 := by
  obtain ⟨d, U, he, o⟩ := o
  refine ⟨d, U, h.tr he, ?_⟩
  rw [h.1 16 (by decide) (by decide)] at o
  exact o
theorem e_eq.sm {S T : tr_S} (h : e_eq S T) : e_sm S T := ⟨h.1 4 (by decide) (by decide), h.2 1 (by decide), h.2 2 (by decide), h.2 5 (by decide), h.2 6 (by decide), h.2 7 (by decide), h.2 9 (by decide), h.2 3 (by decide), h.2 8 (by decide)⟩
section TURN
variable {S : tr_S} {w k : Nat}
theorem turn_at (h1 : S.1 11 = nI (w + 1)) (hw : w < 64) (hr : S.2 12 w = nI k) (hk : k < 40) : (S.1 11 - 1).toNatClampNeg = w ∧ f_rul S = k := by
  have e : (S.1 11 - 1).toNatClampNeg = w := by rw [h1, nI_pred, nI_clamp (by omega)]
  refine ⟨e, ?_⟩
  unfold f_rul f_top
  rw [e, hr, nI_clamp (by omega)]
theorem turn_leaf (h1 : S.1 11 = nI (w + 1)) (hw : w < 64) (hr : S.2 12 w = nI k) (hk : k < 40) (ha : ¬ ((8 ≤ S.2 5 k ∧ S.2 5 k ≤ 11) ∨ S.2 5 k = 16)) : f_turn S = if (f_given (nI k) (S.2 13 w) S).2.1 16 = 0 then f_pop (sF (f_given (nI k) (S.2 13 w) S).2 26 (f_given (nI k) (S.2 13 w) S).1) else sF (f_given (nI k) (S.2 13 w) S).2 26 (f_given (nI k) (S.2 13 w) S).1 := by
  obtain ⟨e1, e2⟩ := turn_at h1 hw hr hk
  have eL : f_leaf S = sF (f_given (nI k) (S.2 13 w) S).2 26 (f_given (nI k) (S.2 13 w) S).1 := by unfold f_leaf f_top; rw [e1, hr]
  unfold f_turn
  rw [e2, if_neg ha]
  unfold f_turn2
  rw [eL]
  rfl
theorem turn_0 (h1 : S.1 11 = nI (w + 1)) (hw : w < 64) (hr : S.2 12 w = nI k) (hk : k < 40) (ha : (8 ≤ S.2 5 k ∧ S.2 5 k ≤ 11) ∨ S.2 5 k = 16) (hp : S.2 14 w = 0) : f_turn S = (f_begins (S.2 6 k) (S.2 13 w) (sA S 14 w 1)).2 := by
  obtain ⟨e1, e2⟩ := turn_at h1 hw hr hk
  have eG : f_goesOn (S.1 26) S = (0, (f_begins (S.2 6 k) (S.2 13 w) (sA S 14 w 1)).2) := by
    unfold f_goesOn
    rw [e1, hr, nI_clamp (by omega), if_pos hp, hp]
    rfl
  unfold f_turn
  rw [e2, if_pos ha]
  unfold f_turn1
  rw [eG]
  exact if_neg (fun q => q.2 rfl)
theorem turn_1 (h1 : S.1 11 = nI (w + 1)) (hw : w < 64) (hr : S.2 12 w = nI k) (hk : k < 40) (ha : (8 ≤ S.2 5 k ∧ S.2 5 k ≤ 11) ∨ S.2 5 k = 16) (hp : S.2 14 w = 1) (hq : S.2 5 k = 8 ∨ S.2 5 k = 9 ∨ S.2 5 k = 16 ∨ (S.2 5 k = 10 ∧ ¬ S.1 26 = 0)) : f_turn S = (f_begins (if S.2 5 k = 9 then S.2 6 k else S.2 7 k) (if S.2 5 k = 8 ∨ S.2 5 k = 9 then S.1 26 else S.2 13 w) (sA (sA S 14 w 2) 15 w (S.1 26))).2 := by
  obtain ⟨e1, e2⟩ := turn_at h1 hw hr hk
  have eG : f_goesOn (S.1 26) S = (0, (f_begins (if S.2 5 k = 9 then S.2 6 k else S.2 7 k) (if S.2 5 k = 8 ∨ S.2 5 k = 9 then S.1 26 else S.2 13 w) (sA (sA S 14 w 2) 15 w (S.1 26))).2) := by
    unfold f_goesOn
    rw [e1, hr, nI_clamp (by omega), if_neg (by rw [hp]; decide), if_pos ⟨hp, hq⟩, hp]
    rfl
  unfold f_turn
  rw [e2, if_pos ha]
  unfold f_turn1
  rw [eG]
  exact if_neg (fun q => q.2 rfl)
theorem turn_2 (h1 : S.1 11 = nI (w + 1)) (hw : w < 64) (hr : S.2 12 w = nI k) (hk : k < 40) (ha : (8 ≤ S.2 5 k ∧ S.2 5 k ≤ 11) ∨ S.2 5 k = 16) (h0 : S.1 16 = 0) (hp : ¬ S.2 14 w = 0) (hq : ¬ (S.2 14 w = 1 ∧ (S.2 5 k = 8 ∨ S.2 5 k = 9 ∨ S.2 5 k = 16 ∨ (S.2 5 k = 10 ∧ ¬ S.1 26 = 0)))) : f_turn S = f_pop (sF (sA S 14 w (S.2 14 w + 1)) 26 (if S.2 5 k = 10 ∧ S.2 14 w = 1 then S.2 13 w else if S.2 5 k = 16 then (if S.1 26 ≤ S.2 15 w then S.1 26 else S.2 15 w) else S.1 26)) := by
  obtain ⟨e1, e2⟩ := turn_at h1 hw hr hk
  have eG : f_goesOn (S.1 26) S = (1, sF (sA S 14 w (S.2 14 w + 1)) 26 (if S.2 5 k = 10 ∧ S.2 14 w = 1 then S.2 13 w else if S.2 5 k = 16 then (if S.1 26 ≤ S.2 15 w then S.1 26 else S.2 15 w) else S.1 26)) := by
    unfold f_goesOn
    rw [e1, hr, nI_clamp (by omega), if_neg hp, if_neg hq]
  unfold f_turn
  rw [e2, if_pos ha]
  unfold f_turn1
  rw [eG]
  exact if_pos ⟨h0, fun q : (1 : Int32) = 0 => absurd q (by decide)⟩
/-- the top's own end -/
theorem out_fin {v : Int32} (h1 : S.1 11 = nI (w + 1)) (hw : w < 64) (hr : S.2 12 w = nI k) (hk : k < 40) (ha : (8 ≤ S.2 5 k ∧ S.2 5 k ≤ 11) ∨ S.2 5 k = 16) (h0 : S.1 16 = 0) (hp : ¬ S.2 14 w = 0) (hq : ¬ (S.2 14 w = 1 ∧ (S.2 5 k = 8 ∨ S.2 5 k = 9 ∨ S.2 5 k = 16 ∨ (S.2 5 k = 10 ∧ ¬ S.1 26 = 0)))) (hv : v = (if S.2 5 k = 10 ∧ S.2 14 w = 1 then S.2 13 w else if S.2 5 k = 16 then (if S.1 26 ≤ S.2 15 w then S.1 26 else S.2 15 w) else S.1 26)) : ev_out w S S v S := by
  refine ⟨0, _, ?_, Or.inl ⟨h0, fun m => (loop_turn m h1 hw h0).trans (congrArg (f_loop m) (turn_2 h1 hw hr hk ha h0 hp hq)), ?_, hv.symm, ?_⟩⟩
  · exact e_eq_lF (e_eq_lF (e_eq_lA (e_eq.rf S) (by decide) _ _) (Or.inr rfl) _) (Or.inl rfl) _
  · show S.1 11 - 1 = nI w
    rw [h1, nI_pred]
  · exact r_below_sA (S := S) 14 w (S.2 14 w + 1) (Nat.le_refl w)
end TURN
/-- from above the top's frame (its second rule asked, or its other way) to below it -/
theorem out_lift {w k : Nat} {C D E : tr_S} {v u : Int32} (hw : w < 64) (hk : k < 40) (hr : C.2 12 w = nI k) (hp : C.2 14 w = 2) (hh : C.2 15 w = u) (ha : (8 ≤ E.2 5 k ∧ E.2 5 k ≤ 11) ∨ E.2 5 k = 16) (o : ev_out (w + 1) C D v E) : ev_out w C D (if E.2 5 k = 16 then (if v ≤ u then v else u) else v) E := by
  obtain ⟨d, T, he, o⟩ := o
  have e5 : T.2 5 = E.2 5 := he.2 5 (by decide)
  have e16 : T.1 16 = E.1 16 := he.1 16 (by decide) (by decide)
  rcases o with ⟨a, b, c, e, f⟩ | ⟨a, b⟩ | ⟨a, b, c, e, w2, h2, h3, h4, h5⟩
  · obtain ⟨f1, f2, f3, f4⟩ := f w (by omega)
    have hp2 : T.2 14 w = 2 := f3.trans hp
    refine out_chain b (out_eq he (out_below (f.le (by omega)) (out_fin c hw (f1.trans hr) hk (by rw [e5]; exact ha) (e16.trans a) (by rw [hp2]; decide) (fun q => absurd (hp2.symm.trans q.1) (by decide)) ?_)))
    rw [e5, e, f4, hh, if_neg (c := E.2 5 k = 10 ∧ T.2 14 w = 1) (fun q => absurd (hp2.symm.trans q.2) (by decide))]
  · exact ⟨d, T, he, Or.inr (Or.inl ⟨a, b⟩)⟩
  · refine ⟨d, T, he, Or.inr (Or.inr ⟨a, b, c, e.le (by omega), w2, by omega, h3, h4, fun t t1 t2 => ?_⟩)⟩
    by_cases ht : t = w
    · subst ht
      obtain ⟨f1, f2, f3, f4⟩ := e t (by omega)
      exact fun q => absurd ((f3.trans hp).symm.trans q.2.2) (by decide)
    · exact h5 t (by omega) t2
theorem j_after {C E T : tr_S} {v N : Nat} (hj : j_st C v N) (hs : e_st C E) (he : e_eq E T) (h11 : T.1 11 = nI v) (hb : r_below v C T) : j_st T v N := by
  obtain ⟨j1, ⟨st, j2, j3, j4⟩, j5⟩ := hj
  obtain ⟨s2, a1, a2, a3⟩ := hs st j2 j4
  exact ⟨h11, ⟨s2, a2, by omega, (he.1 18 (by decide) (by decide)).trans a3⟩, fun t ht => by rw [(hb t ht).1]; exact j5 t ht⟩
/-- a rule is begun above what waits -/
theorem sub_run {n N : Nat} (IH : ∀ (k : Nat) (x : Int32) (S : tr_S) (w : Nat), k < n → k < N → wf S N → j_st S w N → S.1 16 = 0 → ¬ S.1 18 = 64 → ev_out w S (f_push (nI k) x (f_tick S)) (ev n (nI k) x S).1 (ev n (nI k) x S).2) {kb w : Nat} {y : Int32} {C : tr_S} (hb : kb < n) (hbN : kb < N) (hN : wf C N) (hj : j_st C w N) (h0 : C.1 16 = 0) : ev_out w C (f_begins (nI kb) y C).2 (ev n (nI kb) y C).1 (ev n (nI kb) y C).2 := by
  by_cases hs : C.1 18 = 64
  · have e1 : f_begins (nI kb) y C = (0, f_fails 5 (nI kb) C) := if_pos hs
    have e2 : ev n (nI kb) y C = (0, f_fails 5 (nI kb) C) := by
      cases n with
      | zero => omega
      | succ n => exact if_pos hs
    rw [e1, e2]
    obtain ⟨st, j2, j3, j4⟩ := hj.2.1
    exact ⟨0, _, e_eq_lF (e_eq.rf _) (Or.inl rfl) _, Or.inr (Or.inl ⟨rfl, fun m => loop_spent m (S := f_fails 5 (nI kb) C) hj.1 (by omega) rfl⟩)⟩
  · have e1 : f_begins (nI kb) y C = (1, f_push (nI kb) y (f_tick C)) := if_neg hs
    rw [e1]
    exact IH kb y C w hb hbN hN hj h0 hs
end
section
/-- a frame that was just begun -/
theorem push_at {S : tr_S} {w : Nat} (r x : Int32) (h1 : S.1 11 = nI w) (hw : w < 64) : (f_push r x S).1 11 = nI (w + 1) ∧ (f_push r x S).2 12 w = r ∧ (f_push r x S).2 13 w = x ∧ (f_push r x S).2 14 w = 0 ∧ r_below w S (f_push r x S) ∧ e_eq S (f_push r x S) := by
  have ew : (S.1 11).toNatClampNeg = w := by rw [h1, nI_clamp (by omega)]
  unfold f_push
  rw [ew]
  refine ⟨?_, ?_, ?_, ?_, ?_, ?_⟩
  · show S.1 11 + 1 = _
    rw [h1, nI_1]
  · show upd (S.2 12) w r w = r
    exact if_pos rfl
  · show upd (S.2 13) w x w = x
    exact if_pos rfl
  · show upd (S.2 14) w 0 w = 0
    exact if_pos rfl
  · exact fun t ht => (((r_below_sA (S := S) 12 w r (Nat.le_refl w)).tr (r_below_sA (S := sA S 12 w r) 13 w x (Nat.le_refl w))).tr (r_below_sA (S := sA (sA S 12 w r) 13 w x) 14 w 0 (Nat.le_refl w))) t ht
  · exact e_eq_lF (e_eq_lA (e_eq_lA (e_eq_lA (e_eq.rf S) (by decide) _ _) (by decide) _ _) (by decide) _ _) (Or.inl rfl) _
theorem f_given_15 (r x : Int32) (S : tr_S) (h : S.1 16 = 0) : ¬ (f_given r x S).2.1 16 = 5 := by
  have h0 : ∀ v : Int32, ¬ ((v, S) : Int32 × tr_S).2.1 16 = 5 := fun v q => absurd (h.symm.trans q) (by decide)
  have hI : ∀ a, ¬ (f_itemAt a x r S).2.1 16 = 5 := by
    intro a
    unfold f_itemAt
    exact ite_P (P := fun q : Int32 × tr_S => ¬ q.2.1 16 = 5) (ite_P (P := fun q : Int32 × tr_S => ¬ q.2.1 16 = 5) (h0 _) (by show ¬ (2 : Int32) = 5; decide)) (by show ¬ (3 : Int32) = 5; decide)
  have k1 : ¬ (1 : Int32) = 5 := by decide
  have k3 : ¬ (3 : Int32) = 5 := by decide
  have k4 : ¬ (4 : Int32) = 5 := by decide
  have hs : ¬ S.1 16 = 5 := fun q => absurd (h.symm.trans q) (by decide)
  unfold f_given
  exact ite_P (P := fun q : Int32 × tr_S => ¬ q.2.1 16 = 5) hs (ite_P (P := fun q : Int32 × tr_S => ¬ q.2.1 16 = 5) hs (ite_P (P := fun q : Int32 × tr_S => ¬ q.2.1 16 = 5) (ite_P (P := fun q : Int32 × tr_S => ¬ q.2.1 16 = 5) k1 hs) (ite_P (P := fun q : Int32 × tr_S => ¬ q.2.1 16 = 5) (ite_P (P := fun q : Int32 × tr_S => ¬ q.2.1 16 = 5) k1 hs) (ite_P (P := fun q : Int32 × tr_S => ¬ q.2.1 16 = 5) hs (ite_P (P := fun q : Int32 × tr_S => ¬ q.2.1 16 = 5) hs (ite_P (P := fun q : Int32 × tr_S => ¬ q.2.1 16 = 5) (hI _) (ite_P (P := fun q : Int32 × tr_S => ¬ q.2.1 16 = 5) (hI _) (ite_P (P := fun q : Int32 × tr_S => ¬ q.2.1 16 = 5) hs (ite_P (P := fun q : Int32 × tr_S => ¬ q.2.1 16 = 5) hs (ite_P (P := fun q : Int32 × tr_S => ¬ q.2.1 16 = 5) hs (ite_P (P := fun q : Int32 × tr_S => ¬ q.2.1 16 = 5) (ite_P (P := fun q : Int32 × tr_S => ¬ q.2.1 16 = 5) hs k4) k3)))))))))))
theorem f_given_st (r x : Int32) (S : tr_S) : (f_given r x S).2.1 11 = S.1 11 ∧ ∀ a, (a = 12 ∨ a = 13 ∨ a = 14 ∨ a = 15) → (f_given r x S).2.2 a = S.2 a := by
  refine f_given_P (P := fun q => q.2.1 11 = S.1 11 ∧ ∀ a, (a = 12 ∨ a = 13 ∨ a = 14 ∨ a = 15) → q.2.2 a = S.2 a) (fun _ => ⟨rfl, fun _ _ => rfl⟩) (fun _ _ _ _ => ⟨rfl, fun _ _ => rfl⟩) (fun _ i u => ⟨rfl, fun a h => ?_⟩) (fun _ i u => ⟨rfl, fun a h => ?_⟩)
  · rcases h with rfl | rfl | rfl | rfl <;> rfl
  · rcases h with rfl | rfl | rfl | rfl <;> rfl
theorem asks_of {k : Int32} (h : k = 8 ∨ k = 9 ∨ k = 10 ∨ k = 11 ∨ k = 16) : (8 ≤ k ∧ k ≤ 11) ∨ k = 16 := by
  rcases h with rfl | rfl | rfl | rfl | rfl <;> decide
theorem asks_to {S : tr_S} {n k : Nat} (h : wf S n) (hk : k < n) (ha : (8 ≤ S.2 5 k ∧ S.2 5 k ≤ 11) ∨ S.2 5 k = 16) : S.2 5 k = 8 ∨ S.2 5 k = 9 ∨ S.2 5 k = 10 ∨ S.2 5 k = 11 ∨ S.2 5 k = 16 := by
  obtain ⟨d, hd, e⟩ := (h.2.2.1 k hk).1
  rw [e] at ha ⊢
  have key : ∀ d, d < 18 → ((8 ≤ nI d ∧ nI d ≤ 11) ∨ nI d = 16) → (nI d = 8 ∨ nI d = 9 ∨ nI d = 10 ∨ nI d = 11 ∨ nI d = 16) := by decide +kernel
  exact key d (by omega) ha
set_option maxHeartbeats 1000000 in
theorem ev_run (N : Nat) : ∀ (n k : Nat) (x : Int32) (S : tr_S) (w : Nat), k < n → k < N → wf S N → j_st S w N → S.1 16 = 0 → ¬ S.1 18 = 64 → ev_out w S (f_push (nI k) x (f_tick S)) (ev n (nI k) x S).1 (ev n (nI k) x S).2
  | 0, k, x, S, w, h, _, _, _, _, _ => by omega
  | n + 1, k, x, S, w, hkn, hkN, hN, hj, h0, hs => by
    have IH := ev_run N n
    have hN40 := hN.1
    have hk40 : k < 40 := by omega
    have ek : (nI k).toNatClampNeg = k := nI_clamp (by omega)
    obtain ⟨st, hst1, hst2, hst3⟩ := hj.2.1
    have hst : st ≠ 64 := fun q => hs (by rw [hst3, q]; rfl)
    have hw : w < 64 := by omega
    have hj1 : (f_tick S).1 11 = nI w := hj.1
    obtain ⟨b1, b2, b3, b4, b5, b6⟩ := push_at (nI k) x hj1 hw
    have hjB : j_st (f_push (nI k) x (f_tick S)) (w + 1) N := by
      rcases j_begins hj (r := nI k) (x := x) ⟨k, hkN, rfl⟩ with ⟨q, -, -⟩ | ⟨-, e, jb⟩
      · exact absurd q hs
      · rw [e] at jb; exact jb
    have hNB : wf (f_push (nI k) x (f_tick S)) N := hN.sm (e_sm.tr ⟨rfl, rfl, rfl, rfl, rfl, rfl, rfl, rfl, rfl⟩ b6.sm)
    have hB0 : (f_push (nI k) x (f_tick S)).1 16 = 0 := h0
    have bS : r_below w S (f_push (nI k) x (f_tick S)) := b5
    have hB5 : (f_push (nI k) x (f_tick S)).2 5 = S.2 5 := rfl
    have hB6 : (f_push (nI k) x (f_tick S)).2 6 = S.2 6 := rfl
    rw [ev_s]
    unfold ev_step
    rw [if_neg hs, ek]
    generalize hB : f_push (nI k) x (f_tick S) = B at b1 b2 b3 b4 b5 b6 hjB hNB hB0 bS hB5 hB6 ⊢
    by_cases ha : (8 ≤ S.2 5 k ∧ S.2 5 k ≤ 11) ∨ S.2 5 k = 16
    · rw [if_pos ha]
      have haB : (8 ≤ B.2 5 k ∧ B.2 5 k ≤ 11) ∨ B.2 5 k = 16 := by rw [hB5]; exact ha
      obtain ⟨ka, hka, eka⟩ := (hN.2.2.1 k hkN).2.2.2.1 (ha.elim Or.inl (fun z => Or.inr (Or.inl z)))
      have stp : ∀ m, f_loop (m + 1) B = f_loop m (f_begins (nI ka) x (sA B 14 w 1)).2 := fun m => by
        rw [loop_turn m b1 hw hB0, turn_0 b1 hw b2 hk40 haB b4, hB6, eka, b3]
      have hC : e_eq (f_tick S) (sA B 14 w 1) := e_eq_lA b6 (by decide) _ _
      have hNC : wf (sA B 14 w 1) N := hNB.sm (e_eq_lA (e_eq.rf B) (by decide) _ _).sm
      have hjC : j_st (sA B 14 w 1) (w + 1) N := j_like hjB rfl rfl rfl
      have cr : (sA B 14 w 1).2 12 w = nI k := b2
      have cx : (sA B 14 w 1).2 13 w = x := b3
      have cp : (sA B 14 w 1).2 14 w = 1 := by rw [sA_A, if_pos rfl, if_pos rfl]
      have bC : r_below w S (sA B 14 w 1) := bS.tr (r_below_sA 14 w 1 (Nat.le_refl w))
      have hC0 : (sA B 14 w 1).1 16 = 0 := hB0
      generalize sA B 14 w 1 = C at stp hC hNC hjC cr cx cp bC hC0
      rw [eka]
      have o1 := sub_run IH (kb := ka) (y := x) (by omega) (by omega) hNC hjC hC0
      have hE := ev_eq n (nI ka) x hC
      have smE := ev_sm n (nI ka) x C
      have stE := ev_st n (nI ka) x C
      have posE := ev_pos n (nI ka) x C (Or.inl hC0)
      generalize (f_begins (nI ka) x C).2 = D1 at stp o1
      generalize ev n (nI ka) x (f_tick S) = q at hE
      generalize ev n (nI ka) x C = q1 at o1 hE smE stE posE
      obtain ⟨v1, E1⟩ := q1
      obtain ⟨v1', E0⟩ := q
      obtain ⟨hv, hE⟩ := hE
      have hv : v1 = v1' := hv
      subst hv
      have hE : e_eq E0 E1 := hE
      have smE : e_sm C E1 := smE
      have stE : e_st C E1 := stE
      have posE : e_pos E1 := posE
      have o1 : ev_out (w + 1) C D1 v1 E1 := o1
      have c5 : C.2 5 = S.2 5 := (hC.2 5 (by decide))
      have c7 : C.2 7 = S.2 7 := (hC.2 7 (by decide))
      have c6 : C.2 6 = S.2 6 := (hC.2 6 (by decide))
      have e16 : E1.1 16 = E0.1 16 := hE.1 16 (by decide) (by decide)
      refine out_chain stp (out_below bC ?_)
      unfold ev_then
      show ev_out w C D1 (if E0.1 16 = 0 then _ else _ : Int32 × tr_S).1 (if E0.1 16 = 0 then _ else _ : Int32 × tr_S).2
      obtain ⟨d1, T1, he1, o1⟩ := o1
      rcases o1 with ⟨z0, lp, t11, t26, tb⟩ | ⟨z5, lp⟩ | ⟨z0, z5, lp, tb, w2, w21, w22, w23, dd⟩
      · -- the first rule gave a number
        rw [if_pos (e16.symm.trans z0)]
        have hT : e_eq E0 T1 := hE.tr he1
        have hNT : wf T1 N := hNC.sm (smE.tr he1.sm)
        have hjT : j_st T1 (w + 1) N := j_after hjC stE he1 t11 tb
        obtain ⟨f1, f2, f3, f4⟩ := tb w (by omega)
        have tr := f1.trans cr
        have tx := f2.trans cx
        have tp := f3.trans cp
        have t16 : T1.1 16 = 0 := (he1.1 16 (by decide) (by decide)).trans z0
        have t5 : T1.2 5 = S.2 5 := (he1.2 5 (by decide)).trans (smE.2.2.2.1.trans c5)
        have t6 : T1.2 6 = S.2 6 := (he1.2 6 (by decide)).trans (smE.2.2.2.2.1.trans c6)
        have t7 : T1.2 7 = S.2 7 := (he1.2 7 (by decide)).trans (smE.2.2.2.2.2.1.trans c7)
        have haT : (8 ≤ T1.2 5 k ∧ T1.2 5 k ≤ 11) ∨ T1.2 5 k = 16 := by rw [t5]; exact ha
        refine out_chain lp (out_below (tb.le (by omega)) ?_)
        have second : ∀ (kb : Nat) (y : Int32), kb < n → kb < N → ev_out w T1 (f_begins (nI kb) y (sA (sA T1 14 w 2) 15 w v1)).2 (if S.2 5 k = 16 then (if (ev n (nI kb) y E0).1 ≤ v1 then (ev n (nI kb) y E0).1 else v1) else (ev n (nI kb) y E0).1) (ev n (nI kb) y E0).2 := by
          intro kb y hb hbN
          have hU : e_eq T1 (sA (sA T1 14 w 2) 15 w v1) := e_eq_lA (e_eq_lA (e_eq.rf T1) (by decide) _ _) (by decide) _ _
          have o2 := sub_run IH (kb := kb) (y := y) hb hbN (hNT.sm hU.sm) (j_like hjT rfl rfl rfl : j_st (sA (sA T1 14 w 2) 15 w v1) (w + 1) N) t16
          have h2 := ev_eq n (nI kb) y (hT.tr hU)
          have sm2 := ev_sm n (nI kb) y (sA (sA T1 14 w 2) 15 w v1)
          have a5 : (ev n (nI kb) y (sA (sA T1 14 w 2) 15 w v1)).2.2 5 = S.2 5 := sm2.2.2.2.1.trans t5
          have o3 := out_lift hw hk40 (C := sA (sA T1 14 w 2) 15 w v1) (u := v1) tr (by show (sA T1 14 w 2).2 14 w = 2; rw [sA_A, if_pos rfl, if_pos rfl]) (by rw [sA_A, if_pos rfl, if_pos rfl]) (by rw [a5]; exact ha) o2
          rw [a5, h2.1] at o3
          exact out_eq h2.2 (out_below ((r_below_sA 14 w 2 (Nat.le_refl w)).tr (r_below_sA 15 w v1 (Nat.le_refl w))) o3)
        have fin : ∀ v, (¬ (S.2 5 k = 8 ∨ S.2 5 k = 9 ∨ S.2 5 k = 16 ∨ (S.2 5 k = 10 ∧ ¬ v1 = 0))) → v = (if S.2 5 k = 10 then x else v1) → ev_out w T1 T1 v E0 := by
          intro v hq hv
          refine out_eq hT (out_fin t11 hw tr hk40 haT t16 (by rw [tp]; decide) (fun q => hq (by rw [t5, t26] at q; exact q.2)) ?_)
          rw [t5, tp, tx, t26, hv]
          by_cases h10 : S.2 5 k = 10
          · rw [if_pos h10, if_pos ⟨h10, rfl⟩]
          · rw [if_neg h10, if_neg (fun q => h10 q.1), if_neg (fun q => hq (Or.inr (Or.inr (Or.inl q))))]
        have turn : (S.2 5 k = 8 ∨ S.2 5 k = 9 ∨ S.2 5 k = 16 ∨ (S.2 5 k = 10 ∧ ¬ v1 = 0)) → ∀ m, f_loop (m + 1) T1 = f_loop m (f_begins (if S.2 5 k = 9 then S.2 6 k else S.2 7 k) (if S.2 5 k = 8 ∨ S.2 5 k = 9 then v1 else x) (sA (sA T1 14 w 2) 15 w v1)).2 := by
          intro hq m
          rw [loop_turn m t11 hw t16, turn_1 t11 hw tr hk40 haT tp (by rw [t5, t26]; exact hq), t5, t6, t7, t26, tx]
        rcases asks_to hN hkN ha with h | h | h | h | h
        · obtain ⟨kb, hkb, ekb⟩ := (hN.2.2.1 k hkN).2.2.2.2.1 (Or.inl h)
          have tt := turn (Or.inl h)
          rw [if_neg (by rw [h]; decide), if_pos (Or.inl h), ekb] at tt
          have sc := second kb v1 (by omega) (by omega)
          rw [if_neg (by rw [h]; decide)] at sc
          rw [if_pos h, ekb]
          exact out_chain tt sc
        · have tt := turn (Or.inr (Or.inl h))
          rw [if_pos h, if_pos (Or.inr h), eka] at tt
          have sc := second ka v1 (by omega) (by omega)
          rw [if_neg (by rw [h]; decide)] at sc
          rw [if_neg (by rw [h]; decide), if_pos h]
          exact out_chain tt sc
        · rw [if_neg (by rw [h]; decide), if_neg (by rw [h]; decide), if_pos h]
          by_cases hz : v1 = 0
          · rw [if_pos hz]
            exact fin x (by rw [h]; rintro (q | q | q | q); exact absurd q (by decide); exact absurd q (by decide); exact absurd q (by decide); exact q.2 hz) (by rw [if_pos h])
          · rw [if_neg hz]
            obtain ⟨kb, hkb, ekb⟩ := (hN.2.2.1 k hkN).2.2.2.2.1 (Or.inr (Or.inl h))
            have tt := turn (Or.inr (Or.inr (Or.inr ⟨h, hz⟩)))
            rw [if_neg (by rw [h]; decide), if_neg (by rw [h]; decide), ekb] at tt
            have sc := second kb x (by omega) (by omega)
            rw [if_neg (by rw [h]; decide)] at sc
            rw [ekb]
            exact out_chain tt sc
        · rw [if_neg (by rw [h]; decide), if_neg (by rw [h]; decide), if_neg (by rw [h]; decide), if_neg (by rw [h]; decide)]
          exact fin v1 (by rw [h]; rintro (q | q | q | q); exact absurd q (by decide); exact absurd q (by decide); exact absurd q (by decide); exact absurd q.1 (by decide)) (by rw [if_neg (by rw [h]; decide)])
        · rw [if_neg (by rw [h]; decide), if_neg (by rw [h]; decide), if_neg (by rw [h]; decide), if_pos h]
          obtain ⟨kb, hkb, ekb⟩ := (hN.2.2.1 k hkN).2.2.2.2.1 (Or.inr (Or.inr (Or.inr h)))
          have tt := turn (Or.inr (Or.inr (Or.inl h)))
          rw [if_neg (by rw [h]; decide), if_neg (by rw [h]; decide), ekb] at tt
          have sc := second kb x (by omega) (by omega)
          rw [if_pos h] at sc
          rw [ekb]
          exact out_chain tt sc
      · -- for want of steps
        rw [if_neg (by rw [← e16, z5]; decide), if_neg (fun q => q.2 (e16.symm.trans z5))]
        exact ⟨d1, T1, hE.tr he1, Or.inr (Or.inl ⟨e16.symm.trans z5, lp⟩)⟩
      · -- refused
        have z0' : ¬ E0.1 16 = 0 := fun q => z0 (e16.trans q)
        have z5' : ¬ E0.1 16 = 5 := fun q => z5 (e16.trans q)
        have t5 : T1.2 5 = S.2 5 := (he1.2 5 (by decide)).trans (smE.2.2.2.1.trans c5)
        have t7 : T1.2 7 = S.2 7 := (he1.2 7 (by decide)).trans (smE.2.2.2.2.2.1.trans c7)
        obtain ⟨f1, f2, f3, f4⟩ := tb w (by omega)
        have tr := f1.trans cr
        have tx := f2.trans cx
        have tp := f3.trans cp
        rw [if_neg z0']
        by_cases h11 : S.2 5 k = 11
        · rw [if_pos ⟨h11, z5'⟩]
          have hT16 : T1.1 16 = E1.1 16 := he1.1 16 (by decide) (by decide)
          have hpos : 0 < T1.1 16 := by rw [hT16]; exact posE.elim (fun q => absurd q z0) id
          obtain ⟨kb, hkb, ekb⟩ := (hN.2.2.1 k hkN).2.2.2.2.1 (Or.inr (Or.inr (Or.inl h11)))
          -- what the reference recovers to
          have hpop : f_rec 140 T1 = f_rec (140 - (w2 - (w + 1))) (sF T1 11 (nI (w + 1))) := by
            have := rec_pop (w2 - (w + 1)) (140 - (w2 - (w + 1))) T1 (w + 1) (by rw [w23]; congr 1; omega) (by omega) (by rw [show w + 1 + (w2 - (w + 1)) = w2 by omega]; exact dd)
            rw [← this]; congr 1; omega
          generalize hT2 : sF T1 11 (nI (w + 1)) = T2 at hpop
          have u11 : T2.1 11 = nI (w + 1) := by rw [← hT2]; rfl
          have u16 : T2.1 16 = T1.1 16 := by rw [← hT2]; rfl
          have u24 : T2.1 24 = T1.1 24 := by rw [← hT2]; rfl
          have u18 : T2.1 18 = T1.1 18 := by rw [← hT2]; rfl
          have uA : T2.2 = T1.2 := by rw [← hT2]; rfl
          have eT2 : e_eq T1 T2 := by rw [← hT2]; exact e_eq_lF (e_eq.rf T1) (Or.inl rfl) _
          obtain ⟨et, er⟩ := turn_at u11 hw (by rw [uA]; exact tr) hk40
          have catch_ : ¬ T2.1 16 = 5 ∧ T2.2 5 (f_rul T2) = 11 ∧ T2.2 14 (f_top T2) = 1 := by
            refine ⟨by rw [u16, hT16]; exact z5, by rw [er, uA, t5]; exact h11, ?_⟩
            show T2.2 14 (T2.1 11 - 1).toNatClampNeg = 1
            rw [et, uA]; exact tp
          have hU : e_eq (sF (sF E0 16 0) 24 (E0.1 24 + 1)) (sA (sF (sF T2 16 0) 24 (T2.1 24 + 1)) 14 w 2) := e_eq_lA (e_eq_F (e_eq_F (hE.tr (he1.tr eT2)) 16 rfl) 24 (by rw [(hE.tr (he1.tr eT2)).1 24 (by decide) (by decide)])) (by decide) _ _
          have hNU : wf (sA (sF (sF T2 16 0) 24 (T2.1 24 + 1)) 14 w 2) N := (hNC.sm (smE.tr (he1.tr eT2).sm)).sm ⟨rfl, rfl, rfl, rfl, rfl, rfl, rfl, rfl, rfl⟩
          have hjU : j_st (sA (sF (sF T2 16 0) 24 (T2.1 24 + 1)) 14 w 2) (w + 1) N := j_like (j_after hjC stE (he1.tr eT2) u11 (tb.tr (fun t _ => by rw [uA]; exact ⟨rfl, rfl, rfl, rfl⟩))) rfl rfl rfl
          have el : f_else (f_top T2) (f_rul T2) T2 = (f_begins (nI kb) x (sA (sF (sF T2 16 0) 24 (T2.1 24 + 1)) 14 w 2)).2 := by
            unfold f_else
            rw [er, show f_top T2 = w from et, show T2.2 7 k = nI kb by rw [uA, t7]; exact ekb, show T2.2 13 w = x by rw [uA]; exact tx]
          have ur : (sA (sF (sF T2 16 0) 24 (T2.1 24 + 1)) 14 w 2).2 12 w = nI k := by show T2.2 12 w = nI k; rw [uA]; exact tr
          have up : (sA (sF (sF T2 16 0) 24 (T2.1 24 + 1)) 14 w 2).2 14 w = 2 := by rw [sA_A, if_pos rfl, if_pos rfl]
          have u5 : (sA (sF (sF T2 16 0) 24 (T2.1 24 + 1)) 14 w 2).2 5 = S.2 5 := by show T2.2 5 = S.2 5; rw [uA]; exact t5
          have ub : r_below w C (sA (sF (sF T2 16 0) 24 (T2.1 24 + 1)) 14 w 2) := (tb.le (by omega)).tr (r_below.tr (T := T2) (fun t _ => by rw [uA]; exact ⟨rfl, rfl, rfl, rfl⟩) (r_below.tr (T := sF (sF T2 16 0) 24 (T2.1 24 + 1)) (fun t _ => ⟨rfl, rfl, rfl, rfl⟩) (r_below_sA 14 w 2 (Nat.le_refl w))))
          have uz : (sA (sF (sF T2 16 0) 24 (T2.1 24 + 1)) 14 w 2).1 16 = 0 := rfl
          generalize sA (sF (sF T2 16 0) 24 (T2.1 24 + 1)) 14 w 2 = U at hU hNU hjU el ur up u5 ub uz
          have h2 := ev_eq n (nI kb) x hU
          rw [ekb]
          have rec1 : f_rec 140 T1 = if (f_begins (nI kb) x U).2.1 16 = 0 then (f_begins (nI kb) x U).2 else f_rec (139 - (w2 - (w + 1))) (f_begins (nI kb) x U).2 := by
            rw [hpop, show 140 - (w2 - (w + 1)) = (139 - (w2 - (w + 1))) + 1 by omega]
            conv => lhs; unfold f_rec
            rw [if_neg (by rw [u11]; exact nI_nle (by omega) (by omega)), if_pos catch_, el]
          refine out_eq h2.2 ?_
          rw [← h2.1]
          by_cases hsp : U.1 18 = 64
          · have e1 : f_begins (nI kb) x U = (0, f_fails 5 (nI kb) U) := if_pos hsp
            have e2 : ev n (nI kb) x U = (0, f_fails 5 (nI kb) U) := by
              cases n with
              | zero => omega
              | succ n => exact if_pos hsp
            have e3 : f_rec 140 T1 = sF (f_fails 5 (nI kb) U) 11 (nI 0) := by
              rw [rec1, e1, if_neg (by show ¬ (5 : Int32) = 0; decide)]
              have := rec_pop (w + 1) (139 - (w2 - (w + 1)) - (w + 1)) (f_fails 5 (nI kb) U) 0 (by rw [Nat.zero_add]; exact hjU.1) (by omega) (fun t _ _ q => q.1 rfl)
              rw [show 139 - (w2 - (w + 1)) - (w + 1) + (w + 1) = 139 - (w2 - (w + 1)) by omega] at this
              show f_rec (139 - (w2 - (w + 1))) (f_fails 5 (nI kb) U) = _
              rw [this, rec_nil]
              show (nI 0 : Int32) ≤ 0
              exact nI_0 ▸ Int32.le_refl _
            rw [e2]
            refine ⟨d1 + 1, sF (f_fails 5 (nI kb) U) 11 (nI 0), e_eq_lF (e_eq.rf _) (Or.inl rfl) _, Or.inr (Or.inl ⟨rfl, fun m => ?_⟩)⟩
            rw [show m + (d1 + 1 + 1) = (m + 1) + (d1 + 1) by omega, lp, loop_fail m hpos, e3, if_neg (by show ¬ (5 : Int32) ≤ 0; decide)]
          · have e1 : f_begins (nI kb) x U = (1, f_push (nI kb) x (f_tick U)) := if_neg hsp
            have o2 := sub_run IH (kb := kb) (y := x) (by omega) (by omega) hNU hjU uz
            have sm2 := ev_sm n (nI kb) x U
            have a5 : (ev n (nI kb) x U).2.2 5 = S.2 5 := sm2.2.2.2.1.trans u5
            have o3 := out_lift hw hk40 ur up rfl (by rw [a5]; exact ha) o2
            rw [a5, if_neg (by rw [h11]; decide)] at o3
            have e3 : f_rec 140 T1 = f_push (nI kb) x (f_tick U) := by rw [rec1, e1, if_pos (show (f_push (nI kb) x (f_tick U)).1 16 = 0 from uz)]
            have q1 : (f_push (nI kb) x (f_tick U)).1 11 = nI (w + 1 + 1) := (push_at (nI kb) x (S := f_tick U) (show (f_tick U).1 11 = nI (w + 1) from hjU.1) (by obtain ⟨s2, g1, g2, g3⟩ := hjU.2.1; have : s2 ≠ 64 := fun q => hsp (by rw [g3, q]; rfl); omega)).1
            have hw1 : w + 1 < 64 := by obtain ⟨s2, g1, g2, g3⟩ := hjU.2.1; have : s2 ≠ 64 := fun q => hsp (by rw [g3, q]; rfl); omega
            rw [e1] at o3
            have o3 : ev_out w U (f_push (nI kb) x (f_tick U)) (ev n (nI kb) x U).1 (ev n (nI kb) x U).2 := o3
            have lk : ∀ m, f_loop (m + 1) T1 = f_loop (m + 1) (f_push (nI kb) x (f_tick U)) := fun m => by
              rw [loop_fail m hpos, e3, if_pos (by show U.1 16 ≤ 0; rw [uz]; exact Int32.le_refl _), loop_turn m q1 hw1 uz]
            obtain ⟨d2, T3, he3, o3⟩ := o3
            have lp2 : ∀ m, f_loop (m + (d2 + (d1 + 1) + 1)) D1 = f_loop (m + (d2 + 1)) (f_push (nI kb) x (f_tick U)) := fun m => by
              rw [show m + (d2 + (d1 + 1) + 1) = (m + d2 + 1) + (d1 + 1) by omega, lp, lk]; rfl
            refine ⟨d2 + (d1 + 1), T3, he3, ?_⟩
            rcases o3 with ⟨a, b, c, e, f⟩ | ⟨a, b⟩ | ⟨a, b, c, e, f⟩
            · exact Or.inl ⟨a, fun m => (lp2 m).trans (b m), c, e, ub.tr f⟩
            · exact Or.inr (Or.inl ⟨a, fun m => (lp2 m).trans (b m)⟩)
            · exact Or.inr (Or.inr ⟨a, b, fun m => (lp2 m).trans (c m), ub.tr e, f⟩)
        · rw [if_neg (fun q => h11 q.1)]
          refine ⟨d1, T1, hE.tr he1, Or.inr (Or.inr ⟨z0', z5', lp, tb.le (by omega), w2, by omega, w22, w23, fun t a b => ?_⟩)⟩
          by_cases ht : t = w
          · subst ht
            rw [t5, tr, nI_clamp (by omega)]
            exact fun q => h11 q.2.1
          · exact dd t (by omega) b
    · rw [if_neg ha]
      have haB : ¬ ((8 ≤ B.2 5 k ∧ B.2 5 k ≤ 11) ∨ B.2 5 k = 16) := by rw [hB5]; exact ha
      have tl := turn_leaf b1 hw b2 hk40 haB
      rw [b3] at tl
      obtain ⟨g1, g2⟩ := f_given_eq b6 (nI k) x
      obtain ⟨s1, s2⟩ := f_given_st (nI k) x B
      have g5 := f_given_15 (nI k) x B hB0
      have gsm := (f_given_sm (nI k) x B).1
      generalize f_given (nI k) x B = G at tl g1 g2 s1 s2 g5 gsm
      obtain ⟨gv, GS⟩ := G
      have bl : r_below w S GS := bS.tr (fun t _ => ⟨by rw [s2 12 (by decide)], by rw [s2 13 (by decide)], by rw [s2 14 (by decide)], by rw [s2 15 (by decide)]⟩)
      have g16 : GS.1 16 = (f_given (nI k) x (f_tick S)).2.1 16 := g2.1 16 (by decide) (by decide)
      by_cases hz : GS.1 16 = 0
      · have tl : f_turn B = f_pop (sF GS 26 gv) := tl.trans (if_pos hz)
        refine ⟨0, f_pop (sF GS 26 gv), ?_, Or.inl ⟨g16.symm.trans hz, fun m => (loop_turn m b1 hw hB0).trans (congrArg (f_loop m) tl), ?_, g1, bl⟩⟩
        · exact e_eq_lF (e_eq_lF g2 (Or.inr rfl) _) (Or.inl rfl) _
        · show GS.1 11 - 1 = nI w
          rw [show GS.1 11 = nI (w + 1) from s1.trans b1, nI_pred]
      · have tl : f_turn B = sF GS 26 gv := tl.trans (if_neg hz)
        refine ⟨0, sF GS 26 gv, e_eq_lF g2 (Or.inr rfl) _, Or.inr (Or.inr ⟨fun q => hz (g16.trans q), fun q => g5 (g16.trans q), fun m => (loop_turn m b1 hw hB0).trans (congrArg (f_loop m) tl), bl, w + 1, by omega, by omega, s1.trans b1, fun t a b => ?_⟩)⟩
        obtain rfl : t = w := by omega
        intro q
        have q2 : GS.2 5 (GS.2 12 t).toNatClampNeg = 11 := q.2.1
        rw [s2 12 (by decide), b2, nI_clamp (by omega), gsm.2.2.2.1, hB5] at q2
        exact ha (asks_of (Or.inr (Or.inr (Or.inr (Or.inl q2)))))
end
section
/-- what the reference's gives() does, by ev -/
theorem gives_ev {S0 : tr_S} {N k : Nat} {x : Int32} (hN : wf S0 N) (hk : k < N) (hst : ∃ st : Nat, st ≤ 64 ∧ 0 ≤ st ∧ S0.1 18 = nI st) (h0 : S0.1 16 = 0) : ∃ (n : Nat) (b : Int32) (T : tr_S), f_loop n (f_begins (nI k) x (sF (sF S0 11 0) 16 0)).2 = some (b, T) ∧ ((b = 1 ∧ (ev 40 (nI k) x S0).2.1 16 = 0 ∧ T.1 26 = (ev 40 (nI k) x S0).1) ∨ (b = 0 ∧ ¬ (ev 40 (nI k) x S0).2.1 16 = 0)) ∧ e_eq (ev 40 (nI k) x S0).2 T := by
  have hC : e_eq S0 (sF (sF S0 11 0) 16 0) := by
    refine ⟨fun j a b => ?_, fun _ _ => rfl⟩
    rw [sF_F, sF_F, if_neg a]
    by_cases q : j = 16
    · rw [if_pos q, q, h0]
    · rw [if_neg q]
  have hN40 := hN.1
  obtain ⟨hv, hE⟩ := ev_eq 40 (nI k) x hC
  have pos := ev_pos 40 (nI k) x (sF (sF S0 11 0) 16 0) (Or.inl rfl)
  have o := sub_run (ev_run N 40) (kb := k) (y := x) (w := 0) (C := sF (sF S0 11 0) 16 0) (by omega) hk (hN.sm hC.sm) ⟨rfl, hst, fun t ht => by omega⟩ rfl
  have e16 : (ev 40 (nI k) x (sF (sF S0 11 0) 16 0)).2.1 16 = (ev 40 (nI k) x S0).2.1 16 := hE.1 16 (by decide) (by decide)
  generalize ev 40 (nI k) x (sF (sF S0 11 0) 16 0) = q at hv hE o e16 pos
  obtain ⟨d, T, he, o⟩ := o
  have hT : e_eq (ev 40 (nI k) x S0).2 T := hE.tr he
  rcases o with ⟨z0, lp, t11, t26, -⟩ | ⟨z5, lp⟩ | ⟨z0, z5, lp, -, w2, -, w22, w23, dd⟩
  · refine ⟨1 + (d + 1), 1, T, ?_, Or.inl ⟨rfl, e16.symm.trans z0, t26.trans hv⟩, hT⟩
    rw [lp]
    unfold f_loop
    rw [if_pos ⟨by rw [t11, nI_0]; decide, by rw [he.1 16 (by decide) (by decide), z0]; decide⟩]
  · refine ⟨0 + (d + 1), 0, T, lp 0, Or.inr ⟨rfl, fun h => ?_⟩, hT⟩
    rw [← e16, z5] at h
    exact absurd h (by decide)
  · have t16 : T.1 16 = q.2.1 16 := he.1 16 (by decide) (by decide)
    have hp : 0 < T.1 16 := by rw [t16]; exact pos.elim (fun h => absurd h z0) id
    have er : f_rec 140 T = sF T 11 (nI 0) := by
      have h := rec_pop w2 (140 - w2) T 0 (by rw [w23, Nat.zero_add]) (by omega) (by rw [Nat.zero_add]; exact dd)
      rw [show 140 - w2 + w2 = 140 by omega] at h
      rw [h, rec_nil]
      show (nI 0 : Int32) ≤ 0
      exact nI_0 ▸ Int32.le_refl _
    refine ⟨1 + (d + 1), 0, sF T 11 (nI 0), ?_, Or.inr ⟨rfl, fun h => z0 (e16.trans h)⟩, e_eq_lF hT (Or.inl rfl) _⟩
    rw [lp, loop_fail 0 hp, er]
    exact if_neg (Int32.not_le.mpr hp)
/-- the arrays that only keep() and order() use -/
def e_hi (S T : tr_S) : Prop := ∀ k, 27 ≤ k → T.2 k = S.2 k
theorem e_hi.rf (S : tr_S) : e_hi S S := fun _ _ => rfl
theorem e_hi.tr {S T U : tr_S} (h : e_hi S T) (g : e_hi T U) : e_hi S U := fun k hk => (g k hk).trans (h k hk)
theorem e_hi_A {S T : tr_S} (h : e_hi S T) {k : Nat} (hk : k < 27) (i : Nat) (v : Int32) : e_hi S (sA T k i v) := fun q hq => by
  show va_up T.2 k (upd (T.2 k) i v) q = S.2 q
  unfold va_up
  rw [if_neg (by omega), h q hq]
theorem e_hi_F {S T : tr_S} (h : e_hi S T) (k : Nat) (v : Int32) : e_hi S (sF T k v) := h
theorem f_begins_hi (r x : Int32) (S : tr_S) : e_hi S (f_begins r x S).2 := by
  unfold f_begins
  split
  · exact e_hi.rf S
  · exact e_hi_A (e_hi_A (e_hi_A (e_hi.rf S) (by decide) _ _) (by decide) _ _) (by decide) _ _
theorem f_else_hi (u k : Nat) (S : tr_S) : e_hi S (f_else u k S) := (e_hi_A (T := sF (sF S 16 0) 24 (S.1 24 + 1)) (e_hi.rf S) (by decide) u 2).tr (f_begins_hi _ _ _)
theorem f_rec_hi : ∀ (n : Nat) (S : tr_S), e_hi S (f_rec n S)
  | 0, S => e_hi.rf S
  | n + 1, S => by
    unfold f_rec
    split
    · exact e_hi.rf S
    · split
      · split
        · exact f_else_hi _ _ S
        · exact (f_else_hi _ _ S).tr (f_rec_hi n _)
      · exact e_hi.tr (T := f_pop S) (e_hi.rf S) (f_rec_hi n _)
theorem f_given_hi (r x : Int32) (S : tr_S) : e_hi S (f_given r x S).2 :=
  f_given_P (P := fun q => e_hi S q.2) (fun _ => e_hi.rf S) (fun _ _ _ _ => e_hi.rf S) (fun _ _ _ => e_hi_A (e_hi.rf S) (by decide) _ _) (fun _ _ _ => e_hi_A (e_hi.rf S) (by decide) _ _)
theorem f_goesOn_hi (v : Int32) (S : tr_S) : e_hi S (f_goesOn v S).2 := by
  unfold f_goesOn
  split
  · exact (e_hi_A (e_hi.rf S) (by decide) _ _).tr (f_begins_hi _ _ _)
  · split
    · exact (e_hi_A (e_hi_A (e_hi.rf S) (by decide) _ _) (by decide) _ _).tr (f_begins_hi _ _ _)
    · exact e_hi_A (e_hi.rf S) (by decide) _ _
theorem f_turn_hi (S : tr_S) : e_hi S (f_turn S) := by
  unfold f_turn f_turn1 f_turn2
  split
  · split
    · exact f_goesOn_hi _ S
    · exact f_goesOn_hi _ S
  · split
    · exact f_given_hi _ _ S
    · exact f_given_hi _ _ S
theorem f_loop_hi {b : Int32} {T : tr_S} : ∀ (n : Nat) (S : tr_S), f_loop n S = some (b, T) → e_hi S T
  | 0, S, h => by unfold f_loop at h; cases h
  | n + 1, S, h => by
    unfold f_loop at h
    split at h
    · cases h; exact e_hi.rf _
    · split at h
      · exact (f_turn_hi S).tr (f_loop_hi n _ h)
      · split at h
        · exact ((f_rec_hi 140 S).tr (f_turn_hi _)).tr (f_loop_hi n _ h)
        · cases h; exact f_rec_hi 140 _

theorem Met_weak {l : Launch} {y : MethodName} {ws : List Cond} {rm : Room} {Pc : Array Value → State → Prop} {Qc Qd : Array Value → State → Outcome → State → Prop} {mc ms : Nat} {free : Addr → Prop} (h : Met l y ws rm Pc Qc mc ms free) (hQ : ∀ a st o t, Qc a st o t → Qd a st o t) : Met l y ws rm Pc Qd mc ms free := fun p e h1 h2 h3 s m args below hf ha hP hK => by
  obtain ⟨n, o, a1, a2, a3, a4, a5⟩ := h p e h1 h2 h3 s m args below hf ha hP hK
  exact ⟨n, o, a1, a2, a3, hQ _ _ _ _ a4, a5⟩
theorem m_weak {l : Launch} {y : MethodName} {ws : List Cond} {rm : Room} {av : List Value} {D : va_G} {o : Nat} {ad : Nat → Nat} {cA : ClassId} {S0 : tr_S} {post post2 : Int32 → tr_S → Prop} (h : m_Mi l y ws rm av D o ad cA S0 post) (hp : ∀ v S, post v S → post2 v S) : m_Mi l y ws rm av D o ad cA S0 post2 :=
  Met_weak h (fun a st oc t q => ⟨by obtain ⟨⟨r, u, e1, e2, e3⟩, -⟩ := q; exact ⟨r, u, e1, hp r u e2, e3⟩, q.2⟩)
theorem c_X3_gives2 (l : Launch) (D : va_G) (o : Nat) (ad : Nat → Nat) (cA : ClassId) (S0 : tr_S) (r x : Int32) (N : Nat) (hN : wf S0 N) (hr : ∃ k, k < N ∧ r = nI k) (hst : ∃ st : Nat, st ≤ 64 ∧ 0 ≤ st ∧ S0.1 18 = nI st) (h0 : S0.1 16 = 0) : m_Mi l yX3_gives wsX3_gives { frames := 3, cells := 0, slots := 0, locals := 72 } [.int r, .int x] D o ad cA S0 (fun v S => ((v = 1 ∧ (ev 40 r x S0).2.1 16 = 0 ∧ S.1 26 = (ev 40 r x S0).1) ∨ (v = 0 ∧ ¬ (ev 40 r x S0).2.1 16 = 0)) ∧ e_eq (ev 40 r x S0).2 S ∧ e_hi S0 S) := by
  obtain ⟨k, hk, rfl⟩ := hr
  obtain ⟨n, b, T, h1, h2, h3⟩ := gives_ev hN hk hst h0 (x := x)
  have h := c_X3_gives l D o ad cA S0 (nI k) x N n b T hN ⟨k, hk, rfl⟩ hst h1
  exact m_weak h (fun v S q => by obtain ⟨rfl, rfl⟩ := q; exact ⟨h2, h3, (f_begins_hi (nI k) x (sF (sF S0 11 0) 16 0)).tr (f_loop_hi n _ h1)⟩)

section MI11
variable {p : Program} {l : Launch} {e : Env} {R : Room} {s : State} {m : MethodId} {args : Array Value} {below : List Frame} {meth : Method} {c : Code} {H H0 : Heap} {locs : List Loc} {cells slots : Nat} {Q : State → Prop}
variable {cc : ByteArray} {pc : Nat} {ls : Array Slot} {rest st0 : List Value} {Ts : List Cond} {index nL : Nat} {own : String} {D : va_G} {o : Nat} {ad : Nat → Nat} {cA : ClassId} {S : tr_S}
theorem m_gives {N : Nat} (hN : wf S N) {r x : Int32} (hr : ∃ k, k < N ∧ r = nI k) (hst : ∃ st : Nat, st ≤ 64 ∧ 0 ≤ st ∧ S.1 18 = nI st) (h0 : S.1 16 = 0) (X : CallFix p m c cc nL s args Ts own) (hG : GoodIn Ts (wsV own index RX3 yX3_gives wsX3_gives)) (hR : 3 + 1 ≤ R.frames ∧ 8 + (6 + 11) + 72 ≤ R.locals) (hf : cells ≤ R.cells ∧ slots ≤ R.slots) (I : m_I D o ad cA S s H0 H locs) (hsize : ls.size = nL) (hroom : (rest.map fun v => v.category).sum ≤ 8) (hdg : decode cc pc = .ok (.invokevirtual index, 3))
    (kt : (ev 40 r x S).2.1 16 = 0 → ∀ (S1 : tr_S) (H1 : Heap) (locs1 : List Loc), S1.1 26 = (ev 40 r x S).1 → e_eq (ev 40 r x S).2 S1 → e_hi S S1 → m_I D o ad cA S1 s H0 H1 locs1 → W p l e R s m args below meth c H1 locs1 cells slots Q (F0 m (pc + 3) ls (.int 1 :: rest))) (kf : ¬ (ev 40 r x S).2.1 16 = 0 → ∀ (S1 : tr_S) (H1 : Heap) (locs1 : List Loc), e_eq (ev 40 r x S).2 S1 → e_hi S S1 → m_I D o ad cA S1 s H0 H1 locs1 → W p l e R s m args below meth c H1 locs1 cells slots Q (F0 m (pc + 3) ls (.int 0 :: rest))) : W p l e R s m args below meth c H locs cells slots Q (F0 m pc ls (.int x :: .int r :: .ref o :: rest)) := by
  refine m_calli (rest := rest) X (c_X3_gives2 l D o ad cA S r x N hN hr hst h0) (cwV 2 X.2.2.2.2 hG rfl rfl rfl (by decide +kernel) hR) I rfl hsize rfl hroom hdg hf (fun v S1 H1 locs1 hp I1 => ?_)
  obtain ⟨⟨rfl, h1, h2⟩ | ⟨rfl, h1⟩, h3, h4⟩ := hp
  · exact kt h1 S1 H1 locs1 h2 h3 h4 I1
  · exact kf h1 S1 H1 locs1 h3 h4 I1
end MI11
def e_start (S : tr_S) : tr_S := sF (sF S 18 0) 16 0
theorem e_start_sm (S : tr_S) : e_sm S (e_start S) := ⟨rfl, rfl, rfl, rfl, rfl, rfl, rfl, rfl, rfl⟩
theorem e_start_st (S : tr_S) : ∃ st : Nat, st ≤ 64 ∧ 0 ≤ st ∧ (e_start S).1 18 = nI st := ⟨0, by decide, by decide, rfl⟩
theorem f_fail_eq {S T : tr_S} (h : e_eq S T) (a r : Int32) : e_R (f_fail a r S) (f_fail a r T) := by
  refine ⟨rfl, ?_⟩
  unfold f_fail
  exact e_eq_F (e_eq_F (e_eq_F h 21 rfl) 22 rfl) 23 (by rw [h.1 23 (by decide) (by decide)])
theorem f_ends_eq {S T : tr_S} (h : e_eq S T) (v : Int32) : e_R (f_ends v S) (f_ends v T) := by
  unfold f_ends
  rw [h.1 16 (by decide) (by decide), h.1 17 (by decide) (by decide), h.1 18 (by decide) (by decide)]
  exact ite_R (R := e_R) ⟨rfl, e_eq_F h 19 rfl⟩ (f_fail_eq (e_eq_F h 19 rfl) _ _)
/-- a rule's number is one of a rule -/
theorem rule_of {S : tr_S} {N : Nat} (h : wf S N) {r : Int32} (hr : 0 ≤ r ∧ r ≤ S.1 4 - 1) : ∃ k, k < N ∧ r = nI k := by
  obtain ⟨h1, h2, -⟩ := h
  rw [h2] at hr
  cases N with
  | zero =>
    have a := Int32.le_iff_toInt_le.mp hr.1
    have b := Int32.le_iff_toInt_le.mp hr.2
    have e1 : (0 : Int32).toInt = 0 := rfl
    have e2 : (nI 0 - 1).toInt = -1 := by decide +kernel
    omega
  | succ n =>
    rw [nI_pred] at hr
    obtain ⟨j, hj, e⟩ := nI_of2 (n := n) (M := nI n) (nI_toInt (by omega)) (Int32.not_lt.mpr hr.1) hr.2
    exact ⟨j, by omega, e⟩
def a_apply (r x : Int32) (S : tr_S) : Int32 × tr_S := if 0 ≤ r ∧ r ≤ S.1 4 - 1 then f_ends 1 (if (ev 40 r x (e_start S)).2.1 16 = 0 then sF (ev 40 r x (e_start S)).2 25 (ev 40 r x (e_start S)).1 else (ev 40 r x (e_start S)).2) else (-1, S)
set_option maxHeartbeats 4000000 in
set_option maxRecDepth 100000 in
theorem c_X3_apply (l : Launch) (D : va_G) (o : Nat) (ad : Nat → Nat) (cA : ClassId) (S0 : tr_S) (r x : Int32) (N : Nat) (hN : wf S0 N) : m_Mi l yX3_apply wsX3_apply { frames := 4, cells := 0, slots := 0, locals := 97 } [.int r, .int x] D o ad cA S0 (fun v S => e_R (a_apply r x S0) (v, S)) := by
  refine Met.ofW (cc := cX3_apply) (maxL := 4) (ret := (some .int)) (by decide) rfl ?_
  intro p e s m args below meth c s₁ B hml hv
  obtain ⟨rfl, hB⟩ := hv
  have hx := B.exec
  have hb := B.bytes
  have hr := B.returns
  have hts := atoms_spec (ws := wsX3_apply) B.pre
  have hown : s.vm.findClass RX3 = some m.cls := findClass_of_methodNamed B.named
  have hlocks := B.notSynchronized
  have I := m_I.of hB
  have hin : ∀ w ∈ wsX30, w ∈ wsX3_apply := fun _ h => List.mem_cons_of_mem _ (List.mem_append_right _ h)
  have L109 := hts (.fieldLink RX3 109 "TollRulesModel" "handed" "I") (by decide +kernel)
  have L152 := hts (.fieldLink RX3 152 "TollRulesModel" "result" "I") (by decide +kernel)
  have hl := lv_entry ([.ref o, .int r, .int x]) (n := 4) (Nat.le_of_ble_eq_true rfl)
  rw [lg_entry_eq]
  generalize (lg_sl ([.ref o, .int r, .int x]) ++ List.replicate (4 - (lg_sl ([.ref o, .int r, .int x])).length) Slot.unset).toArray = ls at hl ⊢
  have hl : lv_has ls 4 [(0, .ref o), (1, .int r), (2, .int x)] := hl
  refine lv_aload_n hx hb dX3_apply_0 rfl (lv_at hl 0 rfl) ?_
  refine lv_iload_n hx hb dX3_apply_1 rfl (lv_at hl 1 rfl) ?_
  refine m_isRule ⟨hx, hb, hml, hown, hts⟩ gX3_apply_X3_isRule ⟨Nat.le_of_ble_eq_true rfl, Nat.le_of_ble_eq_true rfl⟩ ⟨Nat.le_refl _, Nat.le_refl _⟩ I hl.1 (Nat.le_of_ble_eq_true rfl) dX3_apply_2 (fun h2 H locs I => ?_) (fun h2 H locs I => ?_)
  · refine lv_if_ne (tgt := 10) hx hb dX3_apply_5 (by decide) (fun _ => ?_) (fun h => absurd h (by decide))
    refine lv_aload_n hx hb dX3_apply_10 rfl (lv_at hl 0 rfl) ?_
    refine m_callv (rest := []) ⟨hx, hb, hml, hown, hts⟩ (c_X3_startsCall l D o ad cA S0) (cwV 0 hts gX3_apply_X3_startsCall rfl rfl rfl (by decide +kernel) ⟨Nat.le_of_ble_eq_true rfl, Nat.le_of_ble_eq_true rfl⟩) I rfl hl.1 rfl (Nat.le_of_ble_eq_true rfl) dX3_apply_11 ⟨Nat.le_refl _, Nat.le_refl _⟩ (fun S11 H locs p11 I => ?_)
    rw [show S11 = e_start S0 from p11] at I
    refine lv_aload_n hx hb dX3_apply_14 rfl (lv_at hl 0 rfl) ?_
    refine lv_iload_n hx hb dX3_apply_15 rfl (lv_at hl 1 rfl) ?_
    refine lv_iload_n hx hb dX3_apply_16 rfl (lv_at hl 2 rfl) ?_
    refine m_gives (hN.sm (e_start_sm S0)) (rule_of hN h2) (e_start_st S0) rfl ⟨hx, hb, hml, hown, hts⟩ gX3_apply_X3_gives ⟨Nat.le_of_ble_eq_true rfl, Nat.le_of_ble_eq_true rfl⟩ ⟨Nat.le_refl _, Nat.le_refl _⟩ I hl.1 (Nat.le_of_ble_eq_true rfl) dX3_apply_17 (fun h17 S17 H locs v17 e17 i17 I => ?_) (fun h17 S17 H locs e17 i17 I => ?_)
    · refine lv_istore_n (lv' := [(3, .int 1), (0, .ref o), (1, .int r), (2, .int x)]) hx hb dX3_apply_20 rfl hl (by decide) rfl (fun ls hl => ?_)
      refine lv_aload_n hx hb dX3_apply_21 rfl (lv_at hl 1 rfl) ?_
      refine lv_iload_n hx hb dX3_apply_22 rfl (lv_at hl 0 rfl) ?_
      refine lv_if_eq (tgt := 33) hx hb dX3_apply_23 (by decide) (fun h => absurd h (by decide)) (fun _ => ?_)
      refine lv_aload_n hx hb dX3_apply_26 rfl (lv_at hl 1 rfl) ?_
      refine m_get26 hx hb hts hin hown I L109 dX3_apply_27 (x := S17.1 26) rfl ?_
      refine lv_goto (tgt := 37) hx hb dX3_apply_30 (by decide) ?_
      refine m_put25 hx hb hts hin hown I L152 dX3_apply_37 (fun H locs I => ?_)
      refine lv_aload_n hx hb dX3_apply_40 rfl (lv_at hl 1 rfl) ?_
      refine lv_iconst (v := 1) hx hb dX3_apply_41 (by decide) ?_
      refine m_calli (rest := []) ⟨hx, hb, hml, hown, hts⟩ (c_X3_ends l D o ad cA (sF S17 25 (S17.1 26)) 1) (cwV 1 hts gX3_apply_X3_ends rfl rfl rfl (by decide +kernel) ⟨Nat.le_of_ble_eq_true rfl, Nat.le_of_ble_eq_true rfl⟩) I rfl hl.1 rfl (Nat.le_of_ble_eq_true rfl) dX3_apply_42 ⟨Nat.le_refl _, Nat.le_refl _⟩ (fun r42 S42 H locs p42 I => ?_)
      refine m_iret hx hb hr hlocks I dX3_apply_45 ?_
      unfold a_apply
      rw [if_pos h2, if_pos h17, p42]
      exact f_ends_eq (e_eq_F e17 25 v17) 1
    · refine lv_istore_n (lv' := [(3, .int 0), (0, .ref o), (1, .int r), (2, .int x)]) hx hb dX3_apply_20 rfl hl (by decide) rfl (fun ls hl => ?_)
      refine lv_aload_n hx hb dX3_apply_21 rfl (lv_at hl 1 rfl) ?_
      refine lv_iload_n hx hb dX3_apply_22 rfl (lv_at hl 0 rfl) ?_
      refine lv_if_eq (tgt := 33) hx hb dX3_apply_23 (by decide) (fun _ => ?_) (fun h => absurd h (by decide))
      refine lv_aload_n hx hb dX3_apply_33 rfl (lv_at hl 1 rfl) ?_
      refine m_get25 hx hb hts hin hown I L152 dX3_apply_34 (x := S17.1 25) rfl ?_
      refine m_put25 hx hb hts hin hown I L152 dX3_apply_37 (fun H locs I => ?_)
      refine lv_aload_n hx hb dX3_apply_40 rfl (lv_at hl 1 rfl) ?_
      refine lv_iconst (v := 1) hx hb dX3_apply_41 (by decide) ?_
      refine m_calli (rest := []) ⟨hx, hb, hml, hown, hts⟩ (c_X3_ends l D o ad cA (sF S17 25 (S17.1 25)) 1) (cwV 1 hts gX3_apply_X3_ends rfl rfl rfl (by decide +kernel) ⟨Nat.le_of_ble_eq_true rfl, Nat.le_of_ble_eq_true rfl⟩) I rfl hl.1 rfl (Nat.le_of_ble_eq_true rfl) dX3_apply_42 ⟨Nat.le_refl _, Nat.le_refl _⟩ (fun r42 S42 H locs p42 I => ?_)
      refine m_iret hx hb hr hlocks I dX3_apply_45 ?_
      unfold a_apply
      rw [if_pos h2, if_neg h17, p42, sF_self rfl]
      exact f_ends_eq e17 1
  · refine lv_if_ne (tgt := 10) hx hb dX3_apply_5 (by decide) (fun h => absurd h (by decide)) (fun _ => ?_)
    refine lv_iconst (v := (-1)) hx hb dX3_apply_8 (by decide) ?_
    exact m_iret hx hb hr hlocks I dX3_apply_9 (by unfold a_apply; rw [if_neg h2]; exact ⟨rfl, e_eq.rf _⟩)
end
section
def l_each (r : Int32) (q : Nat) : Nat → Nat → tr_S → Int32 × tr_S
  | 0, i, S => (nI i, S)
  | n + 1, i, S => if (ev 40 r (S.2 3 (10 * q + i)) S).2.1 16 = 0 then l_each r q n (i + 1) (sA (ev 40 r (S.2 3 (10 * q + i)) S).2 3 (10 * q + i) (ev 40 r (S.2 3 (10 * q + i)) S).1) else (nI i, (ev 40 r (S.2 3 (10 * q + i)) S).2)
def a_each (r y : Int32) (S : tr_S) : Int32 × tr_S := if (0 ≤ r ∧ r ≤ S.1 4 - 1) ∧ (0 ≤ y ∧ y ≤ 3) then (if 0 ≤ S.2 1 y.toNatClampNeg then f_ends (l_each r (S.2 1 y.toNatClampNeg).toNatClampNeg (S.2 2 (S.2 1 y.toNatClampNeg).toNatClampNeg).toNatClampNeg 0 (e_start S)).1 (l_each r (S.2 1 y.toNatClampNeg).toNatClampNeg (S.2 2 (S.2 1 y.toNatClampNeg).toNatClampNeg).toNatClampNeg 0 (e_start S)).2 else (-13, S)) else (-1, S)
/-- what holds between two rules of one call -/
def e_go (S : tr_S) (N : Nat) : Prop := wf S N ∧ S.1 16 = 0 ∧ ∃ st : Nat, st ≤ 64 ∧ 0 ≤ st ∧ S.1 18 = nI st
theorem e_go.of {S : tr_S} {N : Nat} (h : wf S N) : e_go (e_start S) N := ⟨h.sm (e_start_sm S), rfl, e_start_st S⟩
theorem e_go.eq {S T : tr_S} {N : Nat} (h : e_go S N) (e : e_eq S T) : e_go T N := ⟨h.1.sm e.sm, (e.1 16 (by decide) (by decide)).trans h.2.1, by rw [e.1 18 (by decide) (by decide)]; exact h.2.2⟩
theorem e_go.ev {S : tr_S} {N : Nat} (h : e_go S N) (n : Nat) (r x : Int32) (h0 : (ev n r x S).2.1 16 = 0) : e_go (ev n r x S).2 N := by
  obtain ⟨st, h1, h2, h3⟩ := h.2.2
  obtain ⟨s2, a1, a2, a3⟩ := ev_st n r x S st h1 h3
  exact ⟨h.1.sm (ev_sm n r x S), h0, s2, a2, by omega, a3⟩
theorem wf.set3 {S : tr_S} {N : Nat} (h : wf S N) (i : Nat) (v : Int32) : wf (sA S 3 i v) N := by
  obtain ⟨h1, h2, h3, h4, h5⟩ := h
  exact ⟨h1, h2, h3, h4, h5⟩
theorem e_go.set3 {S : tr_S} {N : Nat} (h : e_go S N) (i : Nat) (v : Int32) : e_go (sA S 3 i v) N := ⟨h.1.set3 i v, h.2.1, h.2.2⟩
theorem ix_480 {q i : Nat} (hq : q < 48) (hi : i < 10) : vp_in (10 * nI q + nI i) 480 := by
  rw [show (10 : Int32) = nI 10 from rfl, pk_mul, nI_add]
  exact vp_in_nI (by omega) (by decide)
set_option maxHeartbeats 4000000 in
set_option maxRecDepth 100000 in
theorem c_X3_each (l : Launch) (D : va_G) (o : Nat) (ad : Nat → Nat) (cA : ClassId) (S0 : tr_S) (r y : Int32) (N : Nat) (hN : wf S0 N) : m_Mi l yX3_each wsX3_each { frames := 4, cells := 0, slots := 0, locals := 97 } [.int r, .int y] D o ad cA S0 (fun v S => e_R (a_each r y S0) (v, S)) := by
  refine Met.ofW (cc := cX3_each) (maxL := 5) (ret := (some .int)) (by decide) rfl ?_
  intro p e s m args below meth c s₁ B hml hv
  obtain ⟨rfl, hB⟩ := hv
  have hx := B.exec
  have hb := B.bytes
  have hr := B.returns
  have hts := atoms_spec (ws := wsX3_each) B.pre
  have hown : s.vm.findClass RX3 = some m.cls := findClass_of_methodNamed B.named
  have hlocks := B.notSynchronized
  have I := m_I.of hB
  have hin : ∀ w ∈ wsX30, w ∈ wsX3_each := fun _ h => List.mem_cons_of_mem _ (List.mem_append_right _ h)
  have L13 := hts (.fieldLink RX3 13 "TollRulesModel" "rowOf" "[I") (by decide +kernel)
  have L16 := hts (.fieldLink RX3 16 "TollRulesModel" "size" "[I") (by decide +kernel)
  have L19 := hts (.fieldLink RX3 19 "TollRulesModel" "item" "[I") (by decide +kernel)
  have L109 := hts (.fieldLink RX3 109 "TollRulesModel" "handed" "I") (by decide +kernel)
  have hl := lv_entry ([.ref o, .int r, .int y]) (n := 5) (Nat.le_of_ble_eq_true rfl)
  rw [lg_entry_eq]
  generalize (lg_sl ([.ref o, .int r, .int y]) ++ List.replicate (5 - (lg_sl ([.ref o, .int r, .int y])).length) Slot.unset).toArray = ls at hl ⊢
  have hl : lv_has ls 5 [(0, .ref o), (1, .int r), (2, .int y)] := hl
  have LE : ∀ (d q z i rem : Nat) (SA S : tr_S), rem < d → q < 48 → z ≤ 10 → i + rem = z → e_go SA N → e_eq SA S → SA.2 2 q = nI z → (∃ k, k < N ∧ r = nI k) → a_each r y S0 = f_ends (l_each r q rem i SA).1 (l_each r q rem i SA).2 → ∀ (H : Heap) (locs : List Loc) (ls : Array Slot), m_I D o ad cA S s s.heap H locs → lv_has ls 5 [(4, .int (nI i)), (3, .int (nI q)), (0, .ref o), (1, .int r), (2, .int y)] → W p l e (headSpec wsX3_each { frames := 4, cells := 0, slots := 0, locals := 97 }).room s m (([.ref o, .int r, .int y] : List Value).toArray) below meth c H locs 0 0 (MQ below (va_Qi (fun v S => e_R (a_each r y S0) (v, S)) (m_B D o ad cA) (m_A o ad)) (([.ref o, .int r, .int y] : List Value).toArray) s 0 0 (m_A o ad)) (F0 m 45 ls []) := by
    intro d
    induction d with
    | zero => intro q z i rem _ _ h; omega
    | succ d ih =>
      intro q z i rem SA S hd hq hz10 hiz g hS hz hr2 hT H locs ls I hl
      have g2 := g.eq hS
      have hz2 : S.2 2 q = nI z := by rw [hS.2 2 (by decide)]; exact hz
      refine lv_iload hx hb dX3_each_45 (lv_at hl 0 rfl) ?_
      refine lv_aload_n hx hb dX3_each_47 rfl (lv_at hl 2 rfl) ?_
      refine m_get2 hx hb hts hin hown I L16 dX3_each_48 ?_
      refine lv_iload_n hx hb dX3_each_51 rfl (lv_at hl 1 rfl) ?_
      refine m_ald2 hx hb I (vp_in_nI hq (by decide)) dX3_each_52 (x := S.2 2 q) (by rw [nI_clamp (show q < 2 ^ 31 by omega)] <;> rfl) ?_
      refine lv_icmp_ge (tgt := 98) hx hb dX3_each_53 (by decide) (fun c53 => ?_) (fun c53 => ?_)
      · refine lv_aload_n hx hb dX3_each_98 rfl (lv_at hl 2 rfl) ?_
        refine lv_iload hx hb dX3_each_99 (lv_at hl 0 rfl) ?_
        refine m_calli (rest := []) ⟨hx, hb, hml, hown, hts⟩ (c_X3_ends l D o ad cA S (nI i)) (cwV 1 hts gX3_each_X3_ends rfl rfl rfl (by decide +kernel) ⟨Nat.le_of_ble_eq_true rfl, Nat.le_of_ble_eq_true rfl⟩) I rfl hl.1 rfl (Nat.le_of_ble_eq_true rfl) dX3_each_101 ⟨Nat.le_refl _, Nat.le_refl _⟩ (fun r101 S101 H locs p101 I => ?_)
        have hi : z ≤ i := nI_lb (by omega) (by omega) (by rw [← hz2]; exact c53)
        obtain rfl : rem = 0 := by omega
        refine m_iret hx hb hr hlocks I dX3_each_104 ?_
        rw [hT]
        unfold l_each
        rw [p101]
        exact f_ends_eq hS _
      · have hi : i < z := nI_ub (by omega) (by omega) (by rw [← hz2]; exact c53)
        obtain ⟨rm, rfl⟩ : ∃ k, rem = k + 1 := ⟨rem - 1, by omega⟩
        have e3 : S.2 3 = SA.2 3 := hS.2 3 (by decide)
        have hv := ev_eq 40 r (SA.2 3 (10 * q + i)) hS
        refine lv_aload_n hx hb dX3_each_56 rfl (lv_at hl 2 rfl) ?_
        refine lv_iload_n hx hb dX3_each_57 rfl (lv_at hl 3 rfl) ?_
        refine lv_aload_n hx hb dX3_each_58 rfl (lv_at hl 2 rfl) ?_
        refine m_get3 hx hb hts hin hown I L19 dX3_each_59 ?_
        refine lv_bipush (v := 10) hx hb dX3_each_62 (by decide) ?_
        refine lv_iload_n hx hb dX3_each_64 rfl (lv_at hl 1 rfl) ?_
        refine lv_imul hx hb dX3_each_65 ?_
        refine lv_iload hx hb dX3_each_66 (lv_at hl 0 rfl) ?_
        refine lv_iadd hx hb dX3_each_68 ?_
        refine m_ald3 hx hb I (ix_480 hq (by omega)) dX3_each_69 (x := S.2 3 (10 * q + i)) (by rw [nI_10 (q := q) (k := i) (by omega)] <;> rfl) ?_
        refine m_gives (g2.1) hr2 g2.2.2 g2.2.1 ⟨hx, hb, hml, hown, hts⟩ gX3_each_X3_gives ⟨Nat.le_of_ble_eq_true rfl, Nat.le_of_ble_eq_true rfl⟩ ⟨Nat.le_refl _, Nat.le_refl _⟩ I hl.1 (Nat.le_of_ble_eq_true rfl) dX3_each_70 (fun h70 S70 H locs v70 e70 i70 I => ?_) (fun h70 S70 H locs e70 i70 I => ?_)
        · refine lv_if_eq (tgt := 98) hx hb dX3_each_73 (by decide) (fun h => absurd h (by decide)) (fun _ => ?_)
          refine lv_aload_n hx hb dX3_each_76 rfl (lv_at hl 2 rfl) ?_
          refine m_get3 hx hb hts hin hown I L19 dX3_each_77 ?_
          refine lv_bipush (v := 10) hx hb dX3_each_80 (by decide) ?_
          refine lv_iload_n hx hb dX3_each_82 rfl (lv_at hl 1 rfl) ?_
          refine lv_imul hx hb dX3_each_83 ?_
          refine lv_iload hx hb dX3_each_84 (lv_at hl 0 rfl) ?_
          refine lv_iadd hx hb dX3_each_86 ?_
          refine lv_aload_n hx hb dX3_each_87 rfl (lv_at hl 2 rfl) ?_
          refine m_get26 hx hb hts hin hown I L109 dX3_each_88 (x := S70.1 26) rfl ?_
          refine m_ast3 hx hb I (ix_480 hq (by omega)) dX3_each_91 (fun H locs I => ?_)
          rw [nI_10 (q := q) (k := i) (by omega)] at I
          refine lv_iinc (v := (nI i) + 1) (lv' := [(4, .int ((nI i) + 1)), (3, .int (nI q)), (0, .ref o), (1, .int r), (2, .int y)]) hx hb dX3_each_92 hl (k := 0) rfl rfl (by decide) rfl (fun ls hl => ?_)
          refine lv_goto (tgt := 45) hx hb dX3_each_95 (by decide) ?_
          rw [e3] at h70 v70 e70
          have h70 : (ev 40 r (SA.2 3 (10 * q + i)) SA).2.1 16 = 0 := (hv.2.1 16 (by decide) (by decide)).symm.trans h70
          have hl := lv_sub hl [0, 1, 2, 3, 4] rfl
          rw [nI_1] at hl
          refine ih q z (i + 1) rm (sA (ev 40 r (SA.2 3 (10 * q + i)) SA).2 3 (10 * q + i) (ev 40 r (SA.2 3 (10 * q + i)) SA).1) _ (by omega) hq hz10 (by omega) ((g.ev 40 r _ h70).set3 _ _) (e_eq_A (hv.2.tr e70) 3 _ (by decide) (v70.trans hv.1)) ?_ hr2 ?_ H locs ls I hl
          · show (ev 40 r (SA.2 3 (10 * q + i)) SA).2.2 2 q = nI z
            rw [(ev_sm 40 r _ SA).2.2.1]; exact hz
          · rw [hT]
            conv => lhs; unfold l_each
            rw [if_pos h70]
        · refine lv_if_eq (tgt := 98) hx hb dX3_each_73 (by decide) (fun _ => ?_) (fun h => absurd h (by decide))
          refine lv_aload_n hx hb dX3_each_98 rfl (lv_at hl 2 rfl) ?_
          refine lv_iload hx hb dX3_each_99 (lv_at hl 0 rfl) ?_
          refine m_calli (rest := []) ⟨hx, hb, hml, hown, hts⟩ (c_X3_ends l D o ad cA S70 (nI i)) (cwV 1 hts gX3_each_X3_ends rfl rfl rfl (by decide +kernel) ⟨Nat.le_of_ble_eq_true rfl, Nat.le_of_ble_eq_true rfl⟩) I rfl hl.1 rfl (Nat.le_of_ble_eq_true rfl) dX3_each_101 ⟨Nat.le_refl _, Nat.le_refl _⟩ (fun r101 S101 H locs p101 I => ?_)
          rw [e3] at h70 e70
          have h70 : ¬ (ev 40 r (SA.2 3 (10 * q + i)) SA).2.1 16 = 0 := fun q => h70 ((hv.2.1 16 (by decide) (by decide)).trans q)
          refine m_iret hx hb hr hlocks I dX3_each_104 ?_
          rw [hT]
          unfold l_each
          rw [if_neg h70, p101]
          exact f_ends_eq (hv.2.tr e70) _
  refine lv_aload_n hx hb dX3_each_0 rfl (lv_at hl 0 rfl) ?_
  refine lv_iload_n hx hb dX3_each_1 rfl (lv_at hl 1 rfl) ?_
  refine m_isRule ⟨hx, hb, hml, hown, hts⟩ gX3_each_X3_isRule ⟨Nat.le_of_ble_eq_true rfl, Nat.le_of_ble_eq_true rfl⟩ ⟨Nat.le_refl _, Nat.le_refl _⟩ I hl.1 (Nat.le_of_ble_eq_true rfl) dX3_each_2 (fun h2 H locs I => ?_) (fun h2 H locs I => ?_)
  · refine lv_if_eq (tgt := 17) hx hb dX3_each_5 (by decide) (fun h => absurd h (by decide)) (fun _ => ?_)
    refine lv_iload_n hx hb dX3_each_8 rfl (lv_at hl 2 rfl) ?_
    refine lv_iconst (v := 0) hx hb dX3_each_9 (by decide) ?_
    refine lv_iconst (v := 3) hx hb dX3_each_10 (by decide) ?_
    refine m_in ⟨hx, hb, hml, hown, hts⟩ gX3_each_X3_in ⟨Nat.le_of_ble_eq_true rfl, Nat.le_of_ble_eq_true rfl⟩ ⟨Nat.le_refl _, Nat.le_refl _⟩ hl.1 (Nat.le_of_ble_eq_true rfl) dX3_each_11 (fun h11 => ?_) (fun h11 => ?_)
    · refine lv_if_ne (tgt := 19) hx hb dX3_each_14 (by decide) (fun _ => ?_) (fun h => absurd h (by decide))
      refine lv_aload_n hx hb dX3_each_19 rfl (lv_at hl 0 rfl) ?_
      refine m_get1 hx hb hts hin hown I L13 dX3_each_20 ?_
      refine lv_iload_n hx hb dX3_each_23 rfl (lv_at hl 2 rfl) ?_
      refine m_ald1 hx hb I (ix_of h11 (by decide) (by decide)) dX3_each_24 (x := S0.2 1 y.toNatClampNeg) rfl ?_
      refine lv_if_ge (tgt := 31) hx hb dX3_each_25 (by decide) (fun c25 => ?_) (fun c25 => ?_)
      · refine lv_aload_n hx hb dX3_each_31 rfl (lv_at hl 0 rfl) ?_
        refine m_get1 hx hb hts hin hown I L13 dX3_each_32 ?_
        refine lv_iload_n hx hb dX3_each_35 rfl (lv_at hl 2 rfl) ?_
        refine m_ald1 hx hb I (ix_of h11 (by decide) (by decide)) dX3_each_36 (x := S0.2 1 y.toNatClampNeg) rfl ?_
        refine lv_istore_n (lv' := [(3, .int (S0.2 1 y.toNatClampNeg)), (0, .ref o), (1, .int r), (2, .int y)]) hx hb dX3_each_37 rfl hl (by decide) rfl (fun ls hl => ?_)
        refine lv_aload_n hx hb dX3_each_38 rfl (lv_at hl 1 rfl) ?_
        refine m_callv (rest := []) ⟨hx, hb, hml, hown, hts⟩ (c_X3_startsCall l D o ad cA S0) (cwV 0 hts gX3_each_X3_startsCall rfl rfl rfl (by decide +kernel) ⟨Nat.le_of_ble_eq_true rfl, Nat.le_of_ble_eq_true rfl⟩) I rfl hl.1 rfl (Nat.le_of_ble_eq_true rfl) dX3_each_39 ⟨Nat.le_refl _, Nat.le_refl _⟩ (fun S39 H locs p39 I => ?_)
        rw [show S39 = e_start S0 from p39] at I
        refine lv_iconst (v := 0) hx hb dX3_each_42 (by decide) ?_
        refine lv_istore (lv' := [(4, .int 0), (3, .int (S0.2 1 y.toNatClampNeg)), (0, .ref o), (1, .int r), (2, .int y)]) hx hb dX3_each_43 hl (by decide) rfl (fun ls hl => ?_)
        obtain ⟨q, hq, eq⟩ : ∃ q, q < 48 ∧ S0.2 1 y.toNatClampNeg = nI q := by rcases hN.2.2.2.1 _ (ix_nI (ix_of h11 (by decide) (by decide)) (by decide)).2 with h | h; exact absurd c25 (by rw [h]; decide); exact h
        obtain ⟨z, hz10, hz⟩ := hN.2.2.2.2 q hq
        have hl := lv_sub hl [0, 1, 2, 3, 4] rfl
        rw [eq] at hl
        refine LE (z + 1) q z 0 z (e_start S0) _ (by omega) hq hz10 (by omega) (e_go.of hN) (e_eq.rf _) hz (rule_of hN h2) ?_ _ _ ls I hl
        unfold a_each
        rw [if_pos ⟨h2, h11⟩, if_pos c25, eq, nI_clamp (show q < 2 ^ 31 by omega), hz, nI_clamp (show z < 2 ^ 31 by omega)]
      · refine lv_bipush (v := (-13)) hx hb dX3_each_28 (by decide) ?_
        exact m_iret hx hb hr hlocks I dX3_each_30 (by unfold a_each; rw [if_pos ⟨h2, h11⟩, if_neg c25]; exact ⟨rfl, e_eq.rf _⟩)
    · refine lv_if_ne (tgt := 19) hx hb dX3_each_14 (by decide) (fun h => absurd h (by decide)) (fun _ => ?_)
      refine lv_iconst (v := (-1)) hx hb dX3_each_17 (by decide) ?_
      exact m_iret hx hb hr hlocks I dX3_each_18 (by unfold a_each; rw [if_neg (fun q => h11 q.2)]; exact ⟨rfl, e_eq.rf _⟩)
  · refine lv_if_eq (tgt := 17) hx hb dX3_each_5 (by decide) (fun _ => ?_) (fun h => absurd h (by decide))
    refine lv_iconst (v := (-1)) hx hb dX3_each_17 (by decide) ?_
    exact m_iret hx hb hr hlocks I dX3_each_18 (by unfold a_each; rw [if_neg (fun q => h2 q.1)]; exact ⟨rfl, e_eq.rf _⟩)

def l_keys (r : Int32) (q : Nat) : Nat → Nat → (Nat → Int32) → tr_S → (Nat → Int32) × tr_S
  | 0, _, K, S => (K, S)
  | n + 1, i, K, S => if (ev 40 r (S.2 3 (10 * q + i)) S).2.1 16 = 0 then l_keys r q n (i + 1) (upd K i (ev 40 r (S.2 3 (10 * q + i)) S).1) (ev 40 r (S.2 3 (10 * q + i)) S).2 else (K, (ev 40 r (S.2 3 (10 * q + i)) S).2)
set_option maxHeartbeats 4000000 in
set_option maxRecDepth 100000 in
theorem c_X3_asksEach (l : Launch) (D : va_G) (o : Nat) (ad : Nat → Nat) (cA : ClassId) (S0 : tr_S) (r : Int32) (q z N : Nat) (hN : wf S0 N) (hq : q < 48) (hz10 : z ≤ 10) (hz : S0.2 2 q = nI z) (hr2 : ∃ k, k < N ∧ r = nI k) : m_Mi l yX3_asksEach wsX3_asksEach { frames := 4, cells := 0, slots := 0, locals := 97 } [.int r, .int (nI q)] D o ad cA S0 (fun v S => ((v = 1 ∧ (l_keys r q z 0 (fun _ => 0) (e_start S0)).2.1 16 = 0 ∧ ∀ j, j < z → S.2 27 j = (l_keys r q z 0 (fun _ => 0) (e_start S0)).1 j) ∨ (v = 0 ∧ ¬ (l_keys r q z 0 (fun _ => 0) (e_start S0)).2.1 16 = 0)) ∧ e_eq (l_keys r q z 0 (fun _ => 0) (e_start S0)).2 S) := by
  refine Met.ofW (cc := cX3_asksEach) (maxL := 4) (ret := (some .boolean)) (by decide) rfl ?_
  intro p e s m args below meth c s₁ B hml hv
  obtain ⟨rfl, hB⟩ := hv
  have hx := B.exec
  have hb := B.bytes
  have hr := B.returns
  have hts := atoms_spec (ws := wsX3_asksEach) B.pre
  have hown : s.vm.findClass RX3 = some m.cls := findClass_of_methodNamed B.named
  have hlocks := B.notSynchronized
  have I := m_I.of hB
  have hin : ∀ w ∈ wsX30, w ∈ wsX3_asksEach := fun _ h => List.mem_cons_of_mem _ (List.mem_append_right _ h)
  have L16 := hts (.fieldLink RX3 16 "TollRulesModel" "size" "[I") (by decide +kernel)
  have L19 := hts (.fieldLink RX3 19 "TollRulesModel" "item" "[I") (by decide +kernel)
  have L56 := hts (.fieldLink RX3 56 "TollRulesModel" "keys" "[I") (by decide +kernel)
  have L109 := hts (.fieldLink RX3 109 "TollRulesModel" "handed" "I") (by decide +kernel)
  have hl := lv_entry ([.ref o, .int r, .int (nI q)]) (n := 4) (Nat.le_of_ble_eq_true rfl)
  rw [lg_entry_eq]
  generalize (lg_sl ([.ref o, .int r, .int (nI q)]) ++ List.replicate (4 - (lg_sl ([.ref o, .int r, .int (nI q)])).length) Slot.unset).toArray = ls at hl ⊢
  have hl : lv_has ls 4 [(0, .ref o), (1, .int r), (2, .int (nI q))] := hl
  have LK : ∀ (d i rem : Nat) (K : Nat → Int32) (SA S : tr_S), rem < d → i + rem = z → e_go SA N → e_eq SA S → SA.2 2 q = nI z → (∀ j, j < i → S.2 27 j = K j) → l_keys r q z 0 (fun _ => 0) (e_start S0) = l_keys r q rem i K SA → ∀ (H : Heap) (locs : List Loc) (ls : Array Slot), m_I D o ad cA S s s.heap H locs → lv_has ls 4 [(3, .int (nI i)), (0, .ref o), (1, .int r), (2, .int (nI q))] → W p l e (headSpec wsX3_asksEach { frames := 4, cells := 0, slots := 0, locals := 97 }).room s m (([.ref o, .int r, .int (nI q)] : List Value).toArray) below meth c H locs 0 0 (MQ below (va_Qi (fun v S => ((v = 1 ∧ (l_keys r q z 0 (fun _ => 0) (e_start S0)).2.1 16 = 0 ∧ ∀ j, j < z → S.2 27 j = (l_keys r q z 0 (fun _ => 0) (e_start S0)).1 j) ∨ (v = 0 ∧ ¬ (l_keys r q z 0 (fun _ => 0) (e_start S0)).2.1 16 = 0)) ∧ e_eq (l_keys r q z 0 (fun _ => 0) (e_start S0)).2 S) (m_B D o ad cA) (m_A o ad)) (([.ref o, .int r, .int (nI q)] : List Value).toArray) s 0 0 (m_A o ad)) (F0 m 6 ls []) := by
    intro d
    induction d with
    | zero => intro i rem _ _ _ h; omega
    | succ d ih =>
      intro i rem K SA S hd hiz g hS hzz hK hT H locs ls I hl
      have g2 := g.eq hS
      have hz2 : S.2 2 q = nI z := by rw [hS.2 2 (by decide)]; exact hzz
      refine lv_iload_n hx hb dX3_asksEach_6 rfl (lv_at hl 0 rfl) ?_
      refine lv_aload_n hx hb dX3_asksEach_7 rfl (lv_at hl 1 rfl) ?_
      refine m_get2 hx hb hts hin hown I L16 dX3_asksEach_8 ?_
      refine lv_iload_n hx hb dX3_asksEach_11 rfl (lv_at hl 3 rfl) ?_
      refine m_ald2 hx hb I (vp_in_nI hq (by decide)) dX3_asksEach_12 (x := S.2 2 q) (by rw [nI_clamp (show q < 2 ^ 31 by omega)] <;> rfl) ?_
      refine lv_icmp_ge (tgt := 53) hx hb dX3_asksEach_13 (by decide) (fun c13 => ?_) (fun c13 => ?_)
      · refine lv_iconst (v := 1) hx hb dX3_asksEach_53 (by decide) ?_
        have hi : z ≤ i := nI_lb (by omega) (by omega) (by rw [← hz2]; exact c13)
        obtain rfl : rem = 0 := by omega
        have eT : l_keys r q z 0 (fun _ => 0) (e_start S0) = (K, SA) := by rw [hT]; rfl
        exact m_zret hx hb hr hlocks I rfl dX3_asksEach_54 (by rw [eT]; exact ⟨Or.inl ⟨rfl, g.2.1, fun j hj => hK j (by omega)⟩, hS⟩)
      · have hi : i < z := nI_ub (by omega) (by omega) (by rw [← hz2]; exact c13)
        obtain ⟨rm, rfl⟩ : ∃ k, rem = k + 1 := ⟨rem - 1, by omega⟩
        have e3 : S.2 3 = SA.2 3 := hS.2 3 (by decide)
        have hv := ev_eq 40 r (SA.2 3 (10 * q + i)) hS
        refine lv_aload_n hx hb dX3_asksEach_16 rfl (lv_at hl 1 rfl) ?_
        refine lv_iload_n hx hb dX3_asksEach_17 rfl (lv_at hl 2 rfl) ?_
        refine lv_aload_n hx hb dX3_asksEach_18 rfl (lv_at hl 1 rfl) ?_
        refine m_get3 hx hb hts hin hown I L19 dX3_asksEach_19 ?_
        refine lv_bipush (v := 10) hx hb dX3_asksEach_22 (by decide) ?_
        refine lv_iload_n hx hb dX3_asksEach_24 rfl (lv_at hl 3 rfl) ?_
        refine lv_imul hx hb dX3_asksEach_25 ?_
        refine lv_iload_n hx hb dX3_asksEach_26 rfl (lv_at hl 0 rfl) ?_
        refine lv_iadd hx hb dX3_asksEach_27 ?_
        refine m_ald3 hx hb I (ix_480 hq (by omega)) dX3_asksEach_28 (x := S.2 3 (10 * q + i)) (by rw [nI_10 (q := q) (k := i) (by omega)] <;> rfl) ?_
        refine m_gives (g2.1) hr2 g2.2.2 g2.2.1 ⟨hx, hb, hml, hown, hts⟩ gX3_asksEach_X3_gives ⟨Nat.le_of_ble_eq_true rfl, Nat.le_of_ble_eq_true rfl⟩ ⟨Nat.le_refl _, Nat.le_refl _⟩ I hl.1 (Nat.le_of_ble_eq_true rfl) dX3_asksEach_29 (fun h29 S29 H locs v29 e29 i29 I => ?_) (fun h29 S29 H locs e29 i29 I => ?_)
        · refine lv_if_ne (tgt := 37) hx hb dX3_asksEach_32 (by decide) (fun _ => ?_) (fun h => absurd h (by decide))
          refine lv_aload_n hx hb dX3_asksEach_37 rfl (lv_at hl 1 rfl) ?_
          refine m_get27 hx hb hts hin hown I L56 dX3_asksEach_38 ?_
          refine lv_iload_n hx hb dX3_asksEach_41 rfl (lv_at hl 0 rfl) ?_
          refine lv_aload_n hx hb dX3_asksEach_42 rfl (lv_at hl 1 rfl) ?_
          refine m_get26 hx hb hts hin hown I L109 dX3_asksEach_43 (x := S29.1 26) rfl ?_
          refine m_ast27 hx hb I (vp_in_nI (by omega) (by decide)) dX3_asksEach_46 (fun H locs I => ?_)
          rw [nI_clamp (show i < 2 ^ 31 by omega)] at I
          refine lv_iinc (v := (nI i) + 1) (lv' := [(3, .int ((nI i) + 1)), (0, .ref o), (1, .int r), (2, .int (nI q))]) hx hb dX3_asksEach_47 hl (k := 0) rfl rfl (by decide) rfl (fun ls hl => ?_)
          refine lv_goto (tgt := 6) hx hb dX3_asksEach_50 (by decide) ?_
          rw [e3] at h29 v29 e29
          have h29 : (ev 40 r (SA.2 3 (10 * q + i)) SA).2.1 16 = 0 := (hv.2.1 16 (by decide) (by decide)).symm.trans h29
          have hl := lv_sub hl [0, 1, 2, 3] rfl
          rw [nI_1] at hl
          refine ih (i + 1) rm (upd K i (ev 40 r (SA.2 3 (10 * q + i)) SA).1) (ev 40 r (SA.2 3 (10 * q + i)) SA).2 _ (by omega) (by omega) (g.ev 40 r _ h29) (e_eq_lA (hv.2.tr e29) (by decide) _ _) ?_ ?_ ?_ H locs ls I hl
          · rw [(ev_sm 40 r _ SA).2.2.1]; exact hzz
          · intro j hj
            rw [sA_A, if_pos rfl, v29, hv.1]
            unfold upd
            by_cases hji : j = i
            · rw [if_pos hji, if_pos hji]
            · rw [if_neg hji, if_neg hji, i29 27 (by decide)]; exact hK j (by omega)
          · rw [hT]
            conv => lhs; unfold l_keys
            rw [if_pos h29]
        · refine lv_if_ne (tgt := 37) hx hb dX3_asksEach_32 (by decide) (fun h => absurd h (by decide)) (fun _ => ?_)
          refine lv_iconst (v := 0) hx hb dX3_asksEach_35 (by decide) ?_
          rw [e3] at h29 e29
          have h29 : ¬ (ev 40 r (SA.2 3 (10 * q + i)) SA).2.1 16 = 0 := fun q => h29 ((hv.2.1 16 (by decide) (by decide)).trans q)
          have eT : l_keys r q z 0 (fun _ => 0) (e_start S0) = (K, (ev 40 r (SA.2 3 (10 * q + i)) SA).2) := by rw [hT]; unfold l_keys; rw [if_neg h29]
          exact m_zret hx hb hr hlocks I rfl dX3_asksEach_36 (by rw [eT]; exact ⟨Or.inr ⟨rfl, h29⟩, hv.2.tr e29⟩)
  refine lv_aload_n hx hb dX3_asksEach_0 rfl (lv_at hl 0 rfl) ?_
  refine m_callv (rest := []) ⟨hx, hb, hml, hown, hts⟩ (c_X3_startsCall l D o ad cA S0) (cwV 0 hts gX3_asksEach_X3_startsCall rfl rfl rfl (by decide +kernel) ⟨Nat.le_of_ble_eq_true rfl, Nat.le_of_ble_eq_true rfl⟩) I rfl hl.1 rfl (Nat.le_of_ble_eq_true rfl) dX3_asksEach_1 ⟨Nat.le_refl _, Nat.le_refl _⟩ (fun S1 H locs p1 I => ?_)
  rw [show S1 = e_start S0 from p1] at I
  refine lv_iconst (v := 0) hx hb dX3_asksEach_4 (by decide) ?_
  refine lv_istore_n (lv' := [(3, .int 0), (0, .ref o), (1, .int r), (2, .int (nI q))]) hx hb dX3_asksEach_5 rfl hl (by decide) rfl (fun ls hl => ?_)
  exact LK (z + 1) 0 z (fun _ => 0) (e_start S0) _ (by omega) (by omega) (e_go.of hN) (e_eq.rf _) hz (fun j hj => by omega) rfl _ _ ls I (lv_sub hl [0, 1, 2, 3] rfl)
end
section
def f_fold1 (h v i : Int32) : Int32 := if h = 0 then v + i else if h = 1 then (if v ≤ i then i else v) else if h = 2 then 31 * v + i else if h = 3 then i - v else v / i
theorem fold_no {h : Int32} (h0 : ¬ h = 0) (h1 : ¬ h = 1) (h2 : ¬ h = 2) (h3 : ¬ h = 3) (h4 : ¬ h = 4) : ¬ (0 ≤ h ∧ h ≤ 4) := by
  intro q
  obtain ⟨j, hj, rfl⟩ := nI_of2 (M := 4) (n := 4) rfl (Int32.not_lt.mpr q.1) q.2
  have key : ∀ j, j < 5 → nI j = 0 ∨ nI j = 1 ∨ nI j = 2 ∨ nI j = 3 ∨ nI j = 4 := by decide +kernel
  rcases key j (by omega) with h | h | h | h | h
  · exact h0 h
  · exact h1 h
  · exact h2 h
  · exact h3 h
  · exact h4 h
def l_fold (h : Int32) (q : Nat) (S : tr_S) : Nat → Nat → Int32 → Option Int32
  | 0, _, v => some v
  | n + 1, i, v => if h = 4 ∧ S.2 3 (10 * q + i) = 0 then none else l_fold h q S n (i + 1) (f_fold1 h v (S.2 3 (10 * q + i)))
def f_foldEnd (a : Option Int32) (S : tr_S) : Int32 × tr_S := match a with
  | none => f_fail 1 (-1) S
  | some v => (1, sF S 25 v)
def a_fold (h y x : Int32) (S : tr_S) : Int32 × tr_S := if (0 ≤ h ∧ h ≤ 4) ∧ (0 ≤ y ∧ y ≤ 3) then (if 0 ≤ S.2 1 y.toNatClampNeg then f_foldEnd (l_fold h (S.2 1 y.toNatClampNeg).toNatClampNeg S (S.2 2 (S.2 1 y.toNatClampNeg).toNatClampNeg).toNatClampNeg 0 x) S else (-13, S)) else (-1, S)
set_option maxHeartbeats 4000000 in
set_option maxRecDepth 100000 in
theorem c_X3_fold (l : Launch) (D : va_G) (o : Nat) (ad : Nat → Nat) (cA : ClassId) (S0 : tr_S) (h y x : Int32) (N : Nat) (hN : wf S0 N) : m_Mi l yX3_fold wsX3_fold { frames := 1, cells := 0, slots := 0, locals := 23 } [.int h, .int y, .int x] D o ad cA S0 (fun v S => (v, S) = a_fold h y x S0) := by
  refine Met.ofW (cc := cX3_fold) (maxL := 8) (ret := (some .int)) (by decide) rfl ?_
  intro p e s m args below meth c s₁ B hml hv
  obtain ⟨rfl, hB⟩ := hv
  have hx := B.exec
  have hb := B.bytes
  have hr := B.returns
  have hts := atoms_spec (ws := wsX3_fold) B.pre
  have hown : s.vm.findClass RX3 = some m.cls := findClass_of_methodNamed B.named
  have hlocks := B.notSynchronized
  have I := m_I.of hB
  have hin : ∀ w ∈ wsX30, w ∈ wsX3_fold := fun _ h => List.mem_cons_of_mem _ (List.mem_append_right _ h)
  have L13 := hts (.fieldLink RX3 13 "TollRulesModel" "rowOf" "[I") (by decide +kernel)
  have L16 := hts (.fieldLink RX3 16 "TollRulesModel" "size" "[I") (by decide +kernel)
  have L19 := hts (.fieldLink RX3 19 "TollRulesModel" "item" "[I") (by decide +kernel)
  have L152 := hts (.fieldLink RX3 152 "TollRulesModel" "result" "I") (by decide +kernel)
  have hl := lv_entry ([.ref o, .int h, .int y, .int x]) (n := 8) (Nat.le_of_ble_eq_true rfl)
  rw [lg_entry_eq]
  generalize (lg_sl ([.ref o, .int h, .int y, .int x]) ++ List.replicate (8 - (lg_sl ([.ref o, .int h, .int y, .int x])).length) Slot.unset).toArray = ls at hl ⊢
  have hl : lv_has ls 8 [(0, .ref o), (1, .int h), (2, .int y), (3, .int x)] := hl
  have LF : ∀ (d q z i rem : Nat) (v : Int32), (0 ≤ h ∧ h ≤ 4) → rem < d → q < 48 → z ≤ 10 → i + rem = z → S0.2 2 q = nI z → a_fold h y x S0 = f_foldEnd (l_fold h q S0 rem i v) S0 → ∀ (H : Heap) (locs : List Loc) (ls : Array Slot), m_I D o ad cA S0 s s.heap H locs → lv_has ls 8 [(6, .int (nI i)), (5, .int v), (4, .int (nI q)), (0, .ref o), (1, .int h), (2, .int y), (3, .int x)] → W p l e (headSpec wsX3_fold { frames := 1, cells := 0, slots := 0, locals := 23 }).room s m (([.ref o, .int h, .int y, .int x] : List Value).toArray) below meth c H locs 0 0 (MQ below (va_Qi (fun v S => (v, S) = a_fold h y x S0) (m_B D o ad cA) (m_A o ad)) (([.ref o, .int h, .int y, .int x] : List Value).toArray) s 0 0 (m_A o ad)) (F0 m 46 ls []) := by
    intro d
    induction d with
    | zero => intro q z i rem _ _ hd; omega
    | succ d ih =>
      intro q z i rem v hh hd hq hz10 hiz hz hT H locs ls I hl
      refine lv_iload hx hb dX3_fold_46 (lv_at hl 0 rfl) ?_
      refine lv_aload_n hx hb dX3_fold_48 rfl (lv_at hl 3 rfl) ?_
      refine m_get2 hx hb hts hin hown I L16 dX3_fold_49 ?_
      refine lv_iload hx hb dX3_fold_52 (lv_at hl 2 rfl) ?_
      refine m_ald2 hx hb I (vp_in_nI hq (by decide)) dX3_fold_54 (x := S0.2 2 q) (by rw [nI_clamp (show q < 2 ^ 31 by omega)] <;> rfl) ?_
      refine lv_icmp_ge (tgt := 167) hx hb dX3_fold_55 (by decide) (fun c55 => ?_) (fun c55 => ?_)
      · refine lv_aload_n hx hb dX3_fold_167 rfl (lv_at hl 3 rfl) ?_
        refine lv_iload hx hb dX3_fold_168 (lv_at hl 1 rfl) ?_
        refine m_put25 hx hb hts hin hown I L152 dX3_fold_170 (fun H locs I => ?_)
        refine lv_iconst (v := 1) hx hb dX3_fold_173 (by decide) ?_
        have hi : z ≤ i := nI_lb (by omega) (by omega) (by rw [← hz]; exact c55)
        obtain rfl : rem = 0 := by omega
        refine m_iret hx hb hr hlocks I dX3_fold_174 ?_
        rw [hT]
        rfl
      · have hi : i < z := nI_ub (by omega) (by omega) (by rw [← hz]; exact c55)
        obtain ⟨rm, rfl⟩ : ∃ k, rem = k + 1 := ⟨rem - 1, by omega⟩
        refine lv_aload_n hx hb dX3_fold_58 rfl (lv_at hl 3 rfl) ?_
        refine m_get3 hx hb hts hin hown I L19 dX3_fold_59 ?_
        refine lv_bipush (v := 10) hx hb dX3_fold_62 (by decide) ?_
        refine lv_iload hx hb dX3_fold_64 (lv_at hl 2 rfl) ?_
        refine lv_imul hx hb dX3_fold_66 ?_
        refine lv_iload hx hb dX3_fold_67 (lv_at hl 0 rfl) ?_
        refine lv_iadd hx hb dX3_fold_69 ?_
        refine m_ald3 hx hb I (ix_480 hq (by omega)) dX3_fold_70 (x := S0.2 3 (10 * q + i)) (by rw [nI_10 (q := q) (k := i) (by omega)] <;> rfl) ?_
        refine lv_istore (lv' := [(7, .int (S0.2 3 (10 * q + i))), (6, .int (nI i)), (5, .int v), (4, .int (nI q)), (0, .ref o), (1, .int h), (2, .int y), (3, .int x)]) hx hb dX3_fold_71 hl (by decide) rfl (fun ls hl => ?_)
        refine lv_iload_n hx hb dX3_fold_73 rfl (lv_at hl 5 rfl) ?_
        refine lv_iconst (v := 4) hx hb dX3_fold_74 (by decide) ?_
        refine lv_icmp_ne (tgt := 91) hx hb dX3_fold_75 (by decide) (fun c75 => ?_) (fun c75 => ?_)
        · refine lv_iload_n hx hb dX3_fold_91 rfl (lv_at hl 5 rfl) ?_
          refine lv_if_ne (tgt := 103) hx hb dX3_fold_92 (by decide) (fun c92 => ?_) (fun c92 => ?_)
          · refine lv_iload_n hx hb dX3_fold_103 rfl (lv_at hl 5 rfl) ?_
            refine lv_iconst (v := 1) hx hb dX3_fold_104 (by decide) ?_
            refine lv_icmp_ne (tgt := 125) hx hb dX3_fold_105 (by decide) (fun c105 => ?_) (fun c105 => ?_)
            · refine lv_iload_n hx hb dX3_fold_125 rfl (lv_at hl 5 rfl) ?_
              refine lv_iconst (v := 2) hx hb dX3_fold_126 (by decide) ?_
              refine lv_icmp_ne (tgt := 141) hx hb dX3_fold_127 (by decide) (fun c127 => ?_) (fun c127 => ?_)
              · refine lv_iload_n hx hb dX3_fold_141 rfl (lv_at hl 5 rfl) ?_
                refine lv_iconst (v := 3) hx hb dX3_fold_142 (by decide) ?_
                refine lv_icmp_ne (tgt := 154) hx hb dX3_fold_143 (by decide) (fun c143 => ?_) (fun c143 => ?_)
                · refine lv_iload hx hb dX3_fold_154 (lv_at hl 2 rfl) ?_
                  refine lv_iload hx hb dX3_fold_156 (lv_at hl 0 rfl) ?_
                  refine lv_idiv hx hb dX3_fold_158 (absurd hh (fold_no c92 c105 c127 c143 c75)) ?_
                  refine lv_istore (lv' := [(5, .int (v / (S0.2 3 (10 * q + i)))), (7, .int (S0.2 3 (10 * q + i))), (6, .int (nI i)), (4, .int (nI q)), (0, .ref o), (1, .int h), (2, .int y), (3, .int x)]) hx hb dX3_fold_159 hl (by decide) rfl (fun ls hl => ?_)
                  refine lv_iinc (v := (nI i) + 1) (lv' := [(6, .int ((nI i) + 1)), (5, .int (v / (S0.2 3 (10 * q + i)))), (7, .int (S0.2 3 (10 * q + i))), (4, .int (nI q)), (0, .ref o), (1, .int h), (2, .int y), (3, .int x)]) hx hb dX3_fold_161 hl (k := 2) rfl rfl (by decide) rfl (fun ls hl => ?_)
                  refine lv_goto (tgt := 46) hx hb dX3_fold_164 (by decide) ?_
                  have hl := lv_sub hl [0, 1, 3, 4, 5, 6, 7] rfl
                  rw [nI_1] at hl
                  refine ih q z (i + 1) rm (v / (S0.2 3 (10 * q + i))) hh (by omega) hq hz10 (by omega) hz ?_ H locs ls I hl
                  rw [hT]
                  conv => lhs; unfold l_fold
                  rw [if_neg (fun q => c75 q.1)]
                  congr 2
                  unfold f_fold1
                  simp (decide := true) [c75, c92, c105, c127, c143]
                · refine lv_iload hx hb dX3_fold_146 (lv_at hl 0 rfl) ?_
                  refine lv_iload hx hb dX3_fold_148 (lv_at hl 2 rfl) ?_
                  refine lv_isub hx hb dX3_fold_150 ?_
                  refine lv_goto (tgt := 159) hx hb dX3_fold_151 (by decide) ?_
                  refine lv_istore (lv' := [(5, .int ((S0.2 3 (10 * q + i)) - v)), (7, .int (S0.2 3 (10 * q + i))), (6, .int (nI i)), (4, .int (nI q)), (0, .ref o), (1, .int h), (2, .int y), (3, .int x)]) hx hb dX3_fold_159 hl (by decide) rfl (fun ls hl => ?_)
                  refine lv_iinc (v := (nI i) + 1) (lv' := [(6, .int ((nI i) + 1)), (5, .int ((S0.2 3 (10 * q + i)) - v)), (7, .int (S0.2 3 (10 * q + i))), (4, .int (nI q)), (0, .ref o), (1, .int h), (2, .int y), (3, .int x)]) hx hb dX3_fold_161 hl (k := 2) rfl rfl (by decide) rfl (fun ls hl => ?_)
                  refine lv_goto (tgt := 46) hx hb dX3_fold_164 (by decide) ?_
                  have hl := lv_sub hl [0, 1, 3, 4, 5, 6, 7] rfl
                  rw [nI_1] at hl
                  refine ih q z (i + 1) rm ((S0.2 3 (10 * q + i)) - v) hh (by omega) hq hz10 (by omega) hz ?_ H locs ls I hl
                  rw [hT]
                  conv => lhs; unfold l_fold
                  rw [if_neg (fun q => c75 q.1)]
                  congr 2
                  unfold f_fold1
                  simp (decide := true) [c75, c92, c105, c127, c143]
              · refine lv_bipush (v := 31) hx hb dX3_fold_130 (by decide) ?_
                refine lv_iload hx hb dX3_fold_132 (lv_at hl 2 rfl) ?_
                refine lv_imul hx hb dX3_fold_134 ?_
                refine lv_iload hx hb dX3_fold_135 (lv_at hl 0 rfl) ?_
                refine lv_iadd hx hb dX3_fold_137 ?_
                refine lv_goto (tgt := 159) hx hb dX3_fold_138 (by decide) ?_
                refine lv_istore (lv' := [(5, .int ((31 * v) + (S0.2 3 (10 * q + i)))), (7, .int (S0.2 3 (10 * q + i))), (6, .int (nI i)), (4, .int (nI q)), (0, .ref o), (1, .int h), (2, .int y), (3, .int x)]) hx hb dX3_fold_159 hl (by decide) rfl (fun ls hl => ?_)
                refine lv_iinc (v := (nI i) + 1) (lv' := [(6, .int ((nI i) + 1)), (5, .int ((31 * v) + (S0.2 3 (10 * q + i)))), (7, .int (S0.2 3 (10 * q + i))), (4, .int (nI q)), (0, .ref o), (1, .int h), (2, .int y), (3, .int x)]) hx hb dX3_fold_161 hl (k := 2) rfl rfl (by decide) rfl (fun ls hl => ?_)
                refine lv_goto (tgt := 46) hx hb dX3_fold_164 (by decide) ?_
                have hl := lv_sub hl [0, 1, 3, 4, 5, 6, 7] rfl
                rw [nI_1] at hl
                refine ih q z (i + 1) rm ((31 * v) + (S0.2 3 (10 * q + i))) hh (by omega) hq hz10 (by omega) hz ?_ H locs ls I hl
                rw [hT]
                conv => lhs; unfold l_fold
                rw [if_neg (fun q => c75 q.1)]
                congr 2
                unfold f_fold1
                simp (decide := true) [c75, c92, c105, c127]
            · refine lv_iload hx hb dX3_fold_108 (lv_at hl 2 rfl) ?_
              refine lv_iload hx hb dX3_fold_110 (lv_at hl 0 rfl) ?_
              refine lv_icmp_le (tgt := 120) hx hb dX3_fold_112 (by decide) (fun c112 => ?_) (fun c112 => ?_)
              · refine lv_iload hx hb dX3_fold_120 (lv_at hl 0 rfl) ?_
                refine lv_goto (tgt := 159) hx hb dX3_fold_122 (by decide) ?_
                refine lv_istore (lv' := [(5, .int (S0.2 3 (10 * q + i))), (7, .int (S0.2 3 (10 * q + i))), (6, .int (nI i)), (4, .int (nI q)), (0, .ref o), (1, .int h), (2, .int y), (3, .int x)]) hx hb dX3_fold_159 hl (by decide) rfl (fun ls hl => ?_)
                refine lv_iinc (v := (nI i) + 1) (lv' := [(6, .int ((nI i) + 1)), (5, .int (S0.2 3 (10 * q + i))), (7, .int (S0.2 3 (10 * q + i))), (4, .int (nI q)), (0, .ref o), (1, .int h), (2, .int y), (3, .int x)]) hx hb dX3_fold_161 hl (k := 2) rfl rfl (by decide) rfl (fun ls hl => ?_)
                refine lv_goto (tgt := 46) hx hb dX3_fold_164 (by decide) ?_
                have hl := lv_sub hl [0, 1, 3, 4, 5, 6, 7] rfl
                rw [nI_1] at hl
                refine ih q z (i + 1) rm (S0.2 3 (10 * q + i)) hh (by omega) hq hz10 (by omega) hz ?_ H locs ls I hl
                rw [hT]
                conv => lhs; unfold l_fold
                rw [if_neg (fun q => c75 q.1)]
                congr 2
                unfold f_fold1
                simp (decide := true) [c75, c92, c105, c112]
              · refine lv_iload hx hb dX3_fold_115 (lv_at hl 2 rfl) ?_
                refine lv_goto (tgt := 159) hx hb dX3_fold_117 (by decide) ?_
                refine lv_istore (lv' := [(5, .int v), (7, .int (S0.2 3 (10 * q + i))), (6, .int (nI i)), (4, .int (nI q)), (0, .ref o), (1, .int h), (2, .int y), (3, .int x)]) hx hb dX3_fold_159 hl (by decide) rfl (fun ls hl => ?_)
                refine lv_iinc (v := (nI i) + 1) (lv' := [(6, .int ((nI i) + 1)), (5, .int v), (7, .int (S0.2 3 (10 * q + i))), (4, .int (nI q)), (0, .ref o), (1, .int h), (2, .int y), (3, .int x)]) hx hb dX3_fold_161 hl (k := 2) rfl rfl (by decide) rfl (fun ls hl => ?_)
                refine lv_goto (tgt := 46) hx hb dX3_fold_164 (by decide) ?_
                have hl := lv_sub hl [0, 1, 3, 4, 5, 6, 7] rfl
                rw [nI_1] at hl
                refine ih q z (i + 1) rm v hh (by omega) hq hz10 (by omega) hz ?_ H locs ls I hl
                rw [hT]
                conv => lhs; unfold l_fold
                rw [if_neg (fun q => c75 q.1)]
                congr 2
                unfold f_fold1
                simp (decide := true) [c75, c92, c105, c112]
          · refine lv_iload hx hb dX3_fold_95 (lv_at hl 2 rfl) ?_
            refine lv_iload hx hb dX3_fold_97 (lv_at hl 0 rfl) ?_
            refine lv_iadd hx hb dX3_fold_99 ?_
            refine lv_goto (tgt := 159) hx hb dX3_fold_100 (by decide) ?_
            refine lv_istore (lv' := [(5, .int (v + (S0.2 3 (10 * q + i)))), (7, .int (S0.2 3 (10 * q + i))), (6, .int (nI i)), (4, .int (nI q)), (0, .ref o), (1, .int h), (2, .int y), (3, .int x)]) hx hb dX3_fold_159 hl (by decide) rfl (fun ls hl => ?_)
            refine lv_iinc (v := (nI i) + 1) (lv' := [(6, .int ((nI i) + 1)), (5, .int (v + (S0.2 3 (10 * q + i)))), (7, .int (S0.2 3 (10 * q + i))), (4, .int (nI q)), (0, .ref o), (1, .int h), (2, .int y), (3, .int x)]) hx hb dX3_fold_161 hl (k := 2) rfl rfl (by decide) rfl (fun ls hl => ?_)
            refine lv_goto (tgt := 46) hx hb dX3_fold_164 (by decide) ?_
            have hl := lv_sub hl [0, 1, 3, 4, 5, 6, 7] rfl
            rw [nI_1] at hl
            refine ih q z (i + 1) rm (v + (S0.2 3 (10 * q + i))) hh (by omega) hq hz10 (by omega) hz ?_ H locs ls I hl
            rw [hT]
            conv => lhs; unfold l_fold
            rw [if_neg (fun q => c75 q.1)]
            congr 2
            unfold f_fold1
            simp (decide := true) [c75, c92]
        · refine lv_iload hx hb dX3_fold_78 (lv_at hl 0 rfl) ?_
          refine lv_if_ne (tgt := 91) hx hb dX3_fold_80 (by decide) (fun c80 => ?_) (fun c80 => ?_)
          · refine lv_iload_n hx hb dX3_fold_91 rfl (lv_at hl 5 rfl) ?_
            refine lv_if_ne (tgt := 103) hx hb dX3_fold_92 (by decide) (fun _ => ?_) (fun h => absurd (c75.symm.trans h) (by decide))
            refine lv_iload_n hx hb dX3_fold_103 rfl (lv_at hl 5 rfl) ?_
            refine lv_iconst (v := 1) hx hb dX3_fold_104 (by decide) ?_
            refine lv_icmp_ne (tgt := 125) hx hb dX3_fold_105 (by decide) (fun _ => ?_) (fun h => absurd (c75.symm.trans h) (by decide))
            refine lv_iload_n hx hb dX3_fold_125 rfl (lv_at hl 5 rfl) ?_
            refine lv_iconst (v := 2) hx hb dX3_fold_126 (by decide) ?_
            refine lv_icmp_ne (tgt := 141) hx hb dX3_fold_127 (by decide) (fun _ => ?_) (fun h => absurd (c75.symm.trans h) (by decide))
            refine lv_iload_n hx hb dX3_fold_141 rfl (lv_at hl 5 rfl) ?_
            refine lv_iconst (v := 3) hx hb dX3_fold_142 (by decide) ?_
            refine lv_icmp_ne (tgt := 154) hx hb dX3_fold_143 (by decide) (fun _ => ?_) (fun h => absurd (c75.symm.trans h) (by decide))
            refine lv_iload hx hb dX3_fold_154 (lv_at hl 2 rfl) ?_
            refine lv_iload hx hb dX3_fold_156 (lv_at hl 0 rfl) ?_
            refine lv_idiv hx hb dX3_fold_158 (fun z0 => c80 z0) ?_
            refine lv_istore (lv' := [(5, .int (v / (S0.2 3 (10 * q + i)))), (7, .int (S0.2 3 (10 * q + i))), (6, .int (nI i)), (4, .int (nI q)), (0, .ref o), (1, .int h), (2, .int y), (3, .int x)]) hx hb dX3_fold_159 hl (by decide) rfl (fun ls hl => ?_)
            refine lv_iinc (v := (nI i) + 1) (lv' := [(6, .int ((nI i) + 1)), (5, .int (v / (S0.2 3 (10 * q + i)))), (7, .int (S0.2 3 (10 * q + i))), (4, .int (nI q)), (0, .ref o), (1, .int h), (2, .int y), (3, .int x)]) hx hb dX3_fold_161 hl (k := 2) rfl rfl (by decide) rfl (fun ls hl => ?_)
            refine lv_goto (tgt := 46) hx hb dX3_fold_164 (by decide) ?_
            have hl := lv_sub hl [0, 1, 3, 4, 5, 6, 7] rfl
            rw [nI_1] at hl
            refine ih q z (i + 1) rm (v / (S0.2 3 (10 * q + i))) hh (by omega) hq hz10 (by omega) hz ?_ H locs ls I hl
            rw [hT]
            conv => lhs; unfold l_fold
            rw [if_neg (fun q => c80 q.2)]
            congr 2
            unfold f_fold1
            simp (decide := true) [c75, c80]
          · refine lv_aload_n hx hb dX3_fold_83 rfl (lv_at hl 4 rfl) ?_
            refine lv_iconst (v := 1) hx hb dX3_fold_84 (by decide) ?_
            refine lv_iconst (v := (-1)) hx hb dX3_fold_85 (by decide) ?_
            refine lv_iconst (v := 0) hx hb dX3_fold_86 (by decide) ?_
            refine m_calli (rest := []) ⟨hx, hb, hml, hown, hts⟩ (c_X3_failed l D o ad cA S0 1 (-1) 0) (cwV 3 hts gX3_fold_X3_failed rfl rfl rfl (by decide +kernel) ⟨Nat.le_of_ble_eq_true rfl, Nat.le_of_ble_eq_true rfl⟩) I rfl hl.1 rfl (Nat.le_of_ble_eq_true rfl) dX3_fold_87 ⟨Nat.le_refl _, Nat.le_refl _⟩ (fun r87 S87 H locs p87 I => ?_)
            refine m_iret hx hb hr hlocks I dX3_fold_90 ?_
            rw [hT]
            unfold l_fold
            rw [if_pos ⟨c75, c80⟩]
            exact p87
  refine lv_iload_n hx hb dX3_fold_0 rfl (lv_at hl 1 rfl) ?_
  refine lv_iconst (v := 0) hx hb dX3_fold_1 (by decide) ?_
  refine lv_iconst (v := 4) hx hb dX3_fold_2 (by decide) ?_
  refine m_in ⟨hx, hb, hml, hown, hts⟩ gX3_fold_X3_in ⟨Nat.le_of_ble_eq_true rfl, Nat.le_of_ble_eq_true rfl⟩ ⟨Nat.le_refl _, Nat.le_refl _⟩ hl.1 (Nat.le_of_ble_eq_true rfl) dX3_fold_3 (fun h3 => ?_) (fun h3 => ?_)
  · refine lv_if_eq (tgt := 18) hx hb dX3_fold_6 (by decide) (fun h => absurd h (by decide)) (fun _ => ?_)
    refine lv_iload_n hx hb dX3_fold_9 rfl (lv_at hl 2 rfl) ?_
    refine lv_iconst (v := 0) hx hb dX3_fold_10 (by decide) ?_
    refine lv_iconst (v := 3) hx hb dX3_fold_11 (by decide) ?_
    refine m_in ⟨hx, hb, hml, hown, hts⟩ gX3_fold_X3_in ⟨Nat.le_of_ble_eq_true rfl, Nat.le_of_ble_eq_true rfl⟩ ⟨Nat.le_refl _, Nat.le_refl _⟩ hl.1 (Nat.le_of_ble_eq_true rfl) dX3_fold_12 (fun h12 => ?_) (fun h12 => ?_)
    · refine lv_if_ne (tgt := 20) hx hb dX3_fold_15 (by decide) (fun _ => ?_) (fun h => absurd h (by decide))
      refine lv_aload_n hx hb dX3_fold_20 rfl (lv_at hl 0 rfl) ?_
      refine m_get1 hx hb hts hin hown I L13 dX3_fold_21 ?_
      refine lv_iload_n hx hb dX3_fold_24 rfl (lv_at hl 2 rfl) ?_
      refine m_ald1 hx hb I (ix_of h12 (by decide) (by decide)) dX3_fold_25 (x := S0.2 1 y.toNatClampNeg) rfl ?_
      refine lv_if_ge (tgt := 32) hx hb dX3_fold_26 (by decide) (fun c26 => ?_) (fun c26 => ?_)
      · refine lv_aload_n hx hb dX3_fold_32 rfl (lv_at hl 0 rfl) ?_
        refine m_get1 hx hb hts hin hown I L13 dX3_fold_33 ?_
        refine lv_iload_n hx hb dX3_fold_36 rfl (lv_at hl 2 rfl) ?_
        refine m_ald1 hx hb I (ix_of h12 (by decide) (by decide)) dX3_fold_37 (x := S0.2 1 y.toNatClampNeg) rfl ?_
        refine lv_istore (lv' := [(4, .int (S0.2 1 y.toNatClampNeg)), (0, .ref o), (1, .int h), (2, .int y), (3, .int x)]) hx hb dX3_fold_38 hl (by decide) rfl (fun ls hl => ?_)
        refine lv_iload_n hx hb dX3_fold_40 rfl (lv_at hl 4 rfl) ?_
        refine lv_istore (lv' := [(5, .int x), (4, .int (S0.2 1 y.toNatClampNeg)), (0, .ref o), (1, .int h), (2, .int y), (3, .int x)]) hx hb dX3_fold_41 hl (by decide) rfl (fun ls hl => ?_)
        refine lv_iconst (v := 0) hx hb dX3_fold_43 (by decide) ?_
        refine lv_istore (lv' := [(6, .int 0), (5, .int x), (4, .int (S0.2 1 y.toNatClampNeg)), (0, .ref o), (1, .int h), (2, .int y), (3, .int x)]) hx hb dX3_fold_44 hl (by decide) rfl (fun ls hl => ?_)
        obtain ⟨q, hq, eq⟩ : ∃ q, q < 48 ∧ S0.2 1 y.toNatClampNeg = nI q := by rcases hN.2.2.2.1 _ (ix_nI (ix_of h12 (by decide) (by decide)) (by decide)).2 with h | h; exact absurd c26 (by rw [h]; decide); exact h
        obtain ⟨z, hz10, hz⟩ := hN.2.2.2.2 q hq
        have hl := lv_sub hl [0, 1, 2, 3, 4, 5, 6] rfl
        rw [eq] at hl
        refine LF (z + 1) q z 0 z x h3 (by omega) hq hz10 (by omega) hz ?_ _ _ ls I hl
        unfold a_fold
        rw [if_pos ⟨h3, h12⟩, if_pos c26, eq, nI_clamp (show q < 2 ^ 31 by omega), hz, nI_clamp (show z < 2 ^ 31 by omega)]
      · refine lv_bipush (v := (-13)) hx hb dX3_fold_29 (by decide) ?_
        exact m_iret hx hb hr hlocks I dX3_fold_31 (by unfold a_fold; rw [if_pos ⟨h3, h12⟩, if_neg c26])
    · refine lv_if_ne (tgt := 20) hx hb dX3_fold_15 (by decide) (fun h => absurd h (by decide)) (fun _ => ?_)
      refine lv_iconst (v := (-1)) hx hb dX3_fold_18 (by decide) ?_
      exact m_iret hx hb hr hlocks I dX3_fold_19 (by unfold a_fold; rw [if_neg (fun q => h12 q.2)])
  · refine lv_if_eq (tgt := 18) hx hb dX3_fold_6 (by decide) (fun _ => ?_) (fun h => absurd h (by decide))
    refine lv_iconst (v := (-1)) hx hb dX3_fold_18 (by decide) ?_
    exact m_iret hx hb hr hlocks I dX3_fold_19 (by unfold a_fold; rw [if_neg (fun q => h3 q.1)])

def l_until (r u : Int32) : Nat → Nat → Int32 → tr_S → Nat × Int32 × tr_S
  | 0, n, v, S => (n, v, S)
  | k + 1, n, v, S => if (ev 40 r v S).2.1 16 = 0 then (if (ev 40 u (ev 40 r v S).1 (ev 40 r v S).2).2.1 16 = 0 ∧ ¬ (ev 40 u (ev 40 r v S).1 (ev 40 r v S).2).1 = 0 then l_until r u k (n + 1) (ev 40 r v S).1 (ev 40 u (ev 40 r v S).1 (ev 40 r v S).2).2 else (n + 1, (ev 40 r v S).1, (ev 40 u (ev 40 r v S).1 (ev 40 r v S).2).2)) else (n, v, (ev 40 r v S).2)
def f_untilEnd (a : Nat × Int32 × tr_S) : Int32 × tr_S := f_ends (nI a.1) (if a.2.2.1 16 = 0 then sF a.2.2 25 a.2.1 else a.2.2)
def a_until (r u x k : Int32) (S : tr_S) : Int32 × tr_S := if (0 ≤ r ∧ r ≤ S.1 4 - 1) ∧ (0 ≤ u ∧ u ≤ S.1 4 - 1) ∧ (1 ≤ k ∧ k ≤ 30) then f_untilEnd (l_until r u k.toNatClampNeg 0 x (e_start S)) else (-1, S)
theorem f_untilEnd_eq {S T : tr_S} (h : e_eq S T) (n : Nat) (v : Int32) : e_R (f_untilEnd (n, v, S)) (f_untilEnd (n, v, T)) := by
  unfold f_untilEnd
  show e_R (f_ends (nI n) (if S.1 16 = 0 then sF S 25 v else S)) (f_ends (nI n) (if T.1 16 = 0 then sF T 25 v else T))
  rw [h.1 16 (by decide) (by decide)]
  exact f_ends_eq (ite_R (R := e_eq) (e_eq_F h 25 rfl) h) _
set_option maxHeartbeats 4000000 in
set_option maxRecDepth 100000 in
theorem c_X3_until (l : Launch) (D : va_G) (o : Nat) (ad : Nat → Nat) (cA : ClassId) (S0 : tr_S) (r u x k : Int32) (N : Nat) (hN : wf S0 N) : m_Mi l yX3_until wsX3_until { frames := 4, cells := 0, slots := 0, locals := 97 } [.int r, .int u, .int x, .int k] D o ad cA S0 (fun v S => e_R (a_until r u x k S0) (v, S)) := by
  refine Met.ofW (cc := cX3_until) (maxL := 8) (ret := (some .int)) (by decide) rfl ?_
  intro p e s m args below meth c s₁ B hml hv
  obtain ⟨rfl, hB⟩ := hv
  have hx := B.exec
  have hb := B.bytes
  have hr := B.returns
  have hts := atoms_spec (ws := wsX3_until) B.pre
  have hown : s.vm.findClass RX3 = some m.cls := findClass_of_methodNamed B.named
  have hlocks := B.notSynchronized
  have I := m_I.of hB
  have hin : ∀ w ∈ wsX30, w ∈ wsX3_until := fun _ h => List.mem_cons_of_mem _ (List.mem_append_right _ h)
  have L95 := hts (.fieldLink RX3 95 "TollRulesModel" "failure" "I") (by decide +kernel)
  have L109 := hts (.fieldLink RX3 109 "TollRulesModel" "handed" "I") (by decide +kernel)
  have L152 := hts (.fieldLink RX3 152 "TollRulesModel" "result" "I") (by decide +kernel)
  have hl := lv_entry ([.ref o, .int r, .int u, .int x, .int k]) (n := 8) (Nat.le_of_ble_eq_true rfl)
  rw [lg_entry_eq]
  generalize (lg_sl ([.ref o, .int r, .int u, .int x, .int k]) ++ List.replicate (8 - (lg_sl ([.ref o, .int r, .int u, .int x, .int k])).length) Slot.unset).toArray = ls at hl ⊢
  have hl : lv_has ls 8 [(0, .ref o), (1, .int r), (2, .int u), (3, .int x), (4, .int k)] := hl
  by_cases hg : (0 ≤ r ∧ r ≤ S0.1 4 - 1) ∧ (0 ≤ u ∧ u ≤ S0.1 4 - 1) ∧ (1 ≤ k ∧ k ≤ 30)
  · have hr2 := rule_of hN hg.1
    have hu2 := rule_of hN hg.2.1
    obtain ⟨M, hM30, hk⟩ : ∃ M : Nat, M ≤ 30 ∧ k = nI M := nI_of2 (M := 30) rfl (Int32.not_lt.mpr (Int32.le_trans (by decide) hg.2.2.1)) hg.2.2.2
    have LU : ∀ (d n rem : Nat) (v : Int32) (SA S : tr_S), rem < d → n + rem = M → e_go SA N → e_eq SA S → a_until r u x k S0 = f_untilEnd (l_until r u rem n v SA) → ∀ (H : Heap) (locs : List Loc) (ls : Array Slot), m_I D o ad cA S s s.heap H locs → lv_has ls 8 [(7, .int 1), (6, .int (nI n)), (5, .int v), (0, .ref o), (1, .int r), (2, .int u), (3, .int x), (4, .int k)] → W p l e (headSpec wsX3_until { frames := 4, cells := 0, slots := 0, locals := 97 }).room s m (([.ref o, .int r, .int u, .int x, .int k] : List Value).toArray) below meth c H locs 0 0 (MQ below (va_Qi (fun v S => e_R (a_until r u x k S0) (v, S)) (m_B D o ad cA) (m_A o ad)) (([.ref o, .int r, .int u, .int x, .int k] : List Value).toArray) s 0 0 (m_A o ad)) (F0 m 42 ls []) := by
      intro d
      induction d with
      | zero => intro n rem v _ _ hd; omega
      | succ d ih =>
        intro n rem v SA S hd hnm g hS hT H locs ls I hl
        have g2 := g.eq hS
        refine lv_iload hx hb dX3_until_42 (lv_at hl 0 rfl) ?_
        refine lv_if_eq (tgt := 104) hx hb dX3_until_44 (by decide) (fun h => absurd h (by decide)) (fun _ => ?_)
        refine lv_iload hx hb dX3_until_47 (lv_at hl 1 rfl) ?_
        refine lv_iload hx hb dX3_until_49 (lv_at hl 7 rfl) ?_
        refine lv_icmp_ge (tgt := 104) hx hb dX3_until_51 (by decide) (fun c51 => ?_) (fun c51 => ?_)
        · refine lv_aload_n hx hb dX3_until_104 rfl (lv_at hl 3 rfl) ?_
          refine m_get16 hx hb hts hin hown I L95 dX3_until_105 (x := S.1 16) rfl ?_
          refine lv_if_ne (tgt := 117) hx hb dX3_until_108 (by decide) (fun c108 => ?_) (fun c108 => ?_)
          · refine lv_aload_n hx hb dX3_until_117 rfl (lv_at hl 3 rfl) ?_
            refine lv_iload hx hb dX3_until_118 (lv_at hl 1 rfl) ?_
            refine m_calli (rest := []) ⟨hx, hb, hml, hown, hts⟩ (c_X3_ends l D o ad cA S (nI n)) (cwV 1 hts gX3_until_X3_ends rfl rfl rfl (by decide +kernel) ⟨Nat.le_of_ble_eq_true rfl, Nat.le_of_ble_eq_true rfl⟩) I rfl hl.1 rfl (Nat.le_of_ble_eq_true rfl) dX3_until_120 ⟨Nat.le_refl _, Nat.le_refl _⟩ (fun r120 S120 H locs p120 I => ?_)
            have hn : M ≤ n := nI_lb (by omega) (by omega) (by rw [← hk]; exact c51)
            obtain rfl : rem = 0 := by omega
            have eL : l_until r u 0 n v SA = (n, v, SA) := rfl
            have eS := hS
            refine m_iret hx hb hr hlocks I dX3_until_123 ?_
            rw [hT, eL]
            have eF := f_untilEnd_eq eS n v
            rw [show f_untilEnd (n, v, S) = f_ends (nI (n)) S by unfold f_untilEnd; exact congrArg (f_ends _) (if_neg c108)] at eF
            rw [p120]
            exact eF
          · refine lv_aload_n hx hb dX3_until_111 rfl (lv_at hl 3 rfl) ?_
            refine lv_iload hx hb dX3_until_112 (lv_at hl 2 rfl) ?_
            refine m_put25 hx hb hts hin hown I L152 dX3_until_114 (fun H locs I => ?_)
            refine lv_aload_n hx hb dX3_until_117 rfl (lv_at hl 3 rfl) ?_
            refine lv_iload hx hb dX3_until_118 (lv_at hl 1 rfl) ?_
            refine m_calli (rest := []) ⟨hx, hb, hml, hown, hts⟩ (c_X3_ends l D o ad cA (sF S 25 v) (nI n)) (cwV 1 hts gX3_until_X3_ends rfl rfl rfl (by decide +kernel) ⟨Nat.le_of_ble_eq_true rfl, Nat.le_of_ble_eq_true rfl⟩) I rfl hl.1 rfl (Nat.le_of_ble_eq_true rfl) dX3_until_120 ⟨Nat.le_refl _, Nat.le_refl _⟩ (fun r120 S120 H locs p120 I => ?_)
            have hn : M ≤ n := nI_lb (by omega) (by omega) (by rw [← hk]; exact c51)
            obtain rfl : rem = 0 := by omega
            have eL : l_until r u 0 n v SA = (n, v, SA) := rfl
            have eS := hS
            refine m_iret hx hb hr hlocks I dX3_until_123 ?_
            rw [hT, eL]
            have eF := f_untilEnd_eq eS n v
            rw [show f_untilEnd (n, v, S) = f_ends (nI (n)) (sF S 25 v) by unfold f_untilEnd; exact congrArg (f_ends _) (if_pos c108)] at eF
            rw [p120]
            exact eF
        · have hn : n < M := nI_ub (by omega) (by omega) (by rw [← hk]; exact c51)
          obtain ⟨rm, rfl⟩ : ∃ k, rem = k + 1 := ⟨rem - 1, by omega⟩
          have hv := ev_eq 40 r v hS
          refine lv_aload_n hx hb dX3_until_54 rfl (lv_at hl 3 rfl) ?_
          refine lv_iload_n hx hb dX3_until_55 rfl (lv_at hl 4 rfl) ?_
          refine lv_iload hx hb dX3_until_56 (lv_at hl 2 rfl) ?_
          refine m_gives g2.1 hr2 g2.2.2 g2.2.1 ⟨hx, hb, hml, hown, hts⟩ gX3_until_X3_gives ⟨Nat.le_of_ble_eq_true rfl, Nat.le_of_ble_eq_true rfl⟩ ⟨Nat.le_refl _, Nat.le_refl _⟩ I hl.1 (Nat.le_of_ble_eq_true rfl) dX3_until_58 (fun h58 S58 H locs v58 e58 i58 I => ?_) (fun h58 S58 H locs e58 i58 I => ?_)
          · refine lv_istore (lv' := [(7, .int 1), (6, .int (nI n)), (5, .int v), (0, .ref o), (1, .int r), (2, .int u), (3, .int x), (4, .int k)]) hx hb dX3_until_61 hl (by decide) rfl (fun ls hl => ?_)
            have h58 : (ev 40 r v SA).2.1 16 = 0 := (hv.2.1 16 (by decide) (by decide)).symm.trans h58
            have e58 := hv.2.tr e58
            have v58 := v58.trans hv.1
            have g3 := (g.ev 40 r v h58).eq e58
            have hw := ev_eq 40 u (S58.1 26) e58
            rw [v58] at hw
            refine lv_iload hx hb dX3_until_63 (lv_at hl 0 rfl) ?_
            refine lv_if_eq (tgt := 42) hx hb dX3_until_65 (by decide) (fun h => absurd h (by decide)) (fun _ => ?_)
            refine lv_aload_n hx hb dX3_until_68 rfl (lv_at hl 3 rfl) ?_
            refine m_get26 hx hb hts hin hown I L109 dX3_until_69 (x := S58.1 26) rfl ?_
            refine lv_istore (lv' := [(5, .int (S58.1 26)), (7, .int 1), (6, .int (nI n)), (0, .ref o), (1, .int r), (2, .int u), (3, .int x), (4, .int k)]) hx hb dX3_until_72 hl (by decide) rfl (fun ls hl => ?_)
            refine lv_iinc (v := (nI n) + 1) (lv' := [(6, .int ((nI n) + 1)), (5, .int (S58.1 26)), (7, .int 1), (0, .ref o), (1, .int r), (2, .int u), (3, .int x), (4, .int k)]) hx hb dX3_until_74 hl (k := 2) rfl rfl (by decide) rfl (fun ls hl => ?_)
            refine lv_aload_n hx hb dX3_until_77 rfl (lv_at hl 3 rfl) ?_
            refine lv_iload_n hx hb dX3_until_78 rfl (lv_at hl 5 rfl) ?_
            refine lv_iload hx hb dX3_until_79 (lv_at hl 1 rfl) ?_
            refine m_gives g3.1 hu2 g3.2.2 g3.2.1 ⟨hx, hb, hml, hown, hts⟩ gX3_until_X3_gives ⟨Nat.le_of_ble_eq_true rfl, Nat.le_of_ble_eq_true rfl⟩ ⟨Nat.le_refl _, Nat.le_refl _⟩ I hl.1 (Nat.le_of_ble_eq_true rfl) dX3_until_81 (fun h81 S81 H locs v81 e81 i81 I => ?_) (fun h81 S81 H locs e81 i81 I => ?_)
            · refine lv_if_eq (tgt := 98) hx hb dX3_until_84 (by decide) (fun h => absurd h (by decide)) (fun _ => ?_)
              refine lv_aload_n hx hb dX3_until_87 rfl (lv_at hl 3 rfl) ?_
              refine m_get26 hx hb hts hin hown I L109 dX3_until_88 (x := S81.1 26) rfl ?_
              refine lv_if_eq (tgt := 98) hx hb dX3_until_91 (by decide) (fun c91 => ?_) (fun c91 => ?_)
              · refine lv_iconst (v := 0) hx hb dX3_until_98 (by decide) ?_
                refine lv_istore (lv' := [(7, .int 0), (6, .int ((nI n) + 1)), (5, .int (S58.1 26)), (0, .ref o), (1, .int r), (2, .int u), (3, .int x), (4, .int k)]) hx hb dX3_until_99 hl (by decide) rfl (fun ls hl => ?_)
                refine lv_goto (tgt := 42) hx hb dX3_until_101 (by decide) ?_
                refine lv_iload hx hb dX3_until_42 (lv_at hl 0 rfl) ?_
                refine lv_if_eq (tgt := 104) hx hb dX3_until_44 (by decide) (fun _ => ?_) (fun h => absurd h (by decide))
                rw [v58] at hl
                refine lv_aload_n hx hb dX3_until_104 rfl (lv_at hl 3 rfl) ?_
                refine m_get16 hx hb hts hin hown I L95 dX3_until_105 (x := S81.1 16) rfl ?_
                refine lv_if_ne (tgt := 117) hx hb dX3_until_108 (by decide) (fun c108 => ?_) (fun c108 => ?_)
                · refine lv_aload_n hx hb dX3_until_117 rfl (lv_at hl 3 rfl) ?_
                  refine lv_iload hx hb dX3_until_118 (lv_at hl 1 rfl) ?_
                  refine m_calli (rest := []) ⟨hx, hb, hml, hown, hts⟩ (c_X3_ends l D o ad cA S81 ((nI n) + 1)) (cwV 1 hts gX3_until_X3_ends rfl rfl rfl (by decide +kernel) ⟨Nat.le_of_ble_eq_true rfl, Nat.le_of_ble_eq_true rfl⟩) I rfl hl.1 rfl (Nat.le_of_ble_eq_true rfl) dX3_until_120 ⟨Nat.le_refl _, Nat.le_refl _⟩ (fun r120 S120 H locs p120 I => ?_)
                  rw [v58] at h81 v81 e81
                  have h81 : (ev 40 u (ev 40 r v SA).1 (ev 40 r v SA).2).2.1 16 = 0 := (hw.2.1 16 (by decide) (by decide)).symm.trans h81
                  have eL : l_until r u (rm + 1) n v SA = (n + 1, (ev 40 r v SA).1, (ev 40 u (ev 40 r v SA).1 (ev 40 r v SA).2).2) := by unfold l_until; rw [if_pos h58, if_neg (fun q => q.2 (by rw [← hw.1, ← v81]; exact c91))]
                  have eS := hw.2.tr e81
                  rw [nI_1] at p120
                  refine m_iret hx hb hr hlocks I dX3_until_123 ?_
                  rw [hT, eL]
                  have eF := f_untilEnd_eq eS (n + 1) ((ev 40 r v SA).1)
                  rw [show f_untilEnd (n + 1, (ev 40 r v SA).1, S81) = f_ends (nI (n + 1)) S81 by unfold f_untilEnd; exact congrArg (f_ends _) (if_neg c108)] at eF
                  rw [p120]
                  exact eF
                · refine lv_aload_n hx hb dX3_until_111 rfl (lv_at hl 3 rfl) ?_
                  refine lv_iload hx hb dX3_until_112 (lv_at hl 2 rfl) ?_
                  refine m_put25 hx hb hts hin hown I L152 dX3_until_114 (fun H locs I => ?_)
                  refine lv_aload_n hx hb dX3_until_117 rfl (lv_at hl 3 rfl) ?_
                  refine lv_iload hx hb dX3_until_118 (lv_at hl 1 rfl) ?_
                  refine m_calli (rest := []) ⟨hx, hb, hml, hown, hts⟩ (c_X3_ends l D o ad cA (sF S81 25 ((ev 40 r v SA).1)) ((nI n) + 1)) (cwV 1 hts gX3_until_X3_ends rfl rfl rfl (by decide +kernel) ⟨Nat.le_of_ble_eq_true rfl, Nat.le_of_ble_eq_true rfl⟩) I rfl hl.1 rfl (Nat.le_of_ble_eq_true rfl) dX3_until_120 ⟨Nat.le_refl _, Nat.le_refl _⟩ (fun r120 S120 H locs p120 I => ?_)
                  rw [v58] at h81 v81 e81
                  have h81 : (ev 40 u (ev 40 r v SA).1 (ev 40 r v SA).2).2.1 16 = 0 := (hw.2.1 16 (by decide) (by decide)).symm.trans h81
                  have eL : l_until r u (rm + 1) n v SA = (n + 1, (ev 40 r v SA).1, (ev 40 u (ev 40 r v SA).1 (ev 40 r v SA).2).2) := by unfold l_until; rw [if_pos h58, if_neg (fun q => q.2 (by rw [← hw.1, ← v81]; exact c91))]
                  have eS := hw.2.tr e81
                  rw [nI_1] at p120
                  refine m_iret hx hb hr hlocks I dX3_until_123 ?_
                  rw [hT, eL]
                  have eF := f_untilEnd_eq eS (n + 1) ((ev 40 r v SA).1)
                  rw [show f_untilEnd (n + 1, (ev 40 r v SA).1, S81) = f_ends (nI (n + 1)) (sF S81 25 ((ev 40 r v SA).1)) by unfold f_untilEnd; exact congrArg (f_ends _) (if_pos c108)] at eF
                  rw [p120]
                  exact eF
              · refine lv_iconst (v := 1) hx hb dX3_until_94 (by decide) ?_
                refine lv_goto (tgt := 99) hx hb dX3_until_95 (by decide) ?_
                refine lv_istore (lv' := [(7, .int 1), (6, .int ((nI n) + 1)), (5, .int (S58.1 26)), (0, .ref o), (1, .int r), (2, .int u), (3, .int x), (4, .int k)]) hx hb dX3_until_99 hl (by decide) rfl (fun ls hl => ?_)
                refine lv_goto (tgt := 42) hx hb dX3_until_101 (by decide) ?_
                rw [v58] at h81 v81 e81
                have h81 : (ev 40 u (ev 40 r v SA).1 (ev 40 r v SA).2).2.1 16 = 0 := (hw.2.1 16 (by decide) (by decide)).symm.trans h81
                have hl := lv_sub hl [0, 1, 2, 3, 4, 5, 6, 7] rfl
                rw [nI_1, v58] at hl
                refine ih (n + 1) rm (ev 40 r v SA).1 (ev 40 u (ev 40 r v SA).1 (ev 40 r v SA).2).2 _ (by omega) (by omega) ((g.ev 40 r v h58).ev 40 u _ h81) (hw.2.tr e81) ?_ H locs ls I hl
                rw [hT]
                conv => lhs; unfold l_until
                rw [if_pos h58, if_pos ⟨h81, fun q => c91 (by rw [v81, hw.1]; exact q)⟩]
            · refine lv_if_eq (tgt := 98) hx hb dX3_until_84 (by decide) (fun _ => ?_) (fun h => absurd h (by decide))
              refine lv_iconst (v := 0) hx hb dX3_until_98 (by decide) ?_
              refine lv_istore (lv' := [(7, .int 0), (6, .int ((nI n) + 1)), (5, .int (S58.1 26)), (0, .ref o), (1, .int r), (2, .int u), (3, .int x), (4, .int k)]) hx hb dX3_until_99 hl (by decide) rfl (fun ls hl => ?_)
              refine lv_goto (tgt := 42) hx hb dX3_until_101 (by decide) ?_
              refine lv_iload hx hb dX3_until_42 (lv_at hl 0 rfl) ?_
              refine lv_if_eq (tgt := 104) hx hb dX3_until_44 (by decide) (fun _ => ?_) (fun h => absurd h (by decide))
              rw [v58] at hl
              refine lv_aload_n hx hb dX3_until_104 rfl (lv_at hl 3 rfl) ?_
              refine m_get16 hx hb hts hin hown I L95 dX3_until_105 (x := S81.1 16) rfl ?_
              refine lv_if_ne (tgt := 117) hx hb dX3_until_108 (by decide) (fun c108 => ?_) (fun c108 => ?_)
              · refine lv_aload_n hx hb dX3_until_117 rfl (lv_at hl 3 rfl) ?_
                refine lv_iload hx hb dX3_until_118 (lv_at hl 1 rfl) ?_
                refine m_calli (rest := []) ⟨hx, hb, hml, hown, hts⟩ (c_X3_ends l D o ad cA S81 ((nI n) + 1)) (cwV 1 hts gX3_until_X3_ends rfl rfl rfl (by decide +kernel) ⟨Nat.le_of_ble_eq_true rfl, Nat.le_of_ble_eq_true rfl⟩) I rfl hl.1 rfl (Nat.le_of_ble_eq_true rfl) dX3_until_120 ⟨Nat.le_refl _, Nat.le_refl _⟩ (fun r120 S120 H locs p120 I => ?_)
                rw [v58] at h81 e81
                have h81 : ¬ (ev 40 u (ev 40 r v SA).1 (ev 40 r v SA).2).2.1 16 = 0 := fun q => h81 ((hw.2.1 16 (by decide) (by decide)).trans q)
                have eL : l_until r u (rm + 1) n v SA = (n + 1, (ev 40 r v SA).1, (ev 40 u (ev 40 r v SA).1 (ev 40 r v SA).2).2) := by unfold l_until; rw [if_pos h58, if_neg (fun q => h81 q.1)]
                have eS := hw.2.tr e81
                rw [nI_1] at p120
                refine m_iret hx hb hr hlocks I dX3_until_123 ?_
                rw [hT, eL]
                have eF := f_untilEnd_eq eS (n + 1) ((ev 40 r v SA).1)
                rw [show f_untilEnd (n + 1, (ev 40 r v SA).1, S81) = f_ends (nI (n + 1)) S81 by unfold f_untilEnd; exact congrArg (f_ends _) (if_neg c108)] at eF
                rw [p120]
                exact eF
              · refine lv_aload_n hx hb dX3_until_111 rfl (lv_at hl 3 rfl) ?_
                refine lv_iload hx hb dX3_until_112 (lv_at hl 2 rfl) ?_
                refine m_put25 hx hb hts hin hown I L152 dX3_until_114 (fun H locs I => ?_)
                refine lv_aload_n hx hb dX3_until_117 rfl (lv_at hl 3 rfl) ?_
                refine lv_iload hx hb dX3_until_118 (lv_at hl 1 rfl) ?_
                refine m_calli (rest := []) ⟨hx, hb, hml, hown, hts⟩ (c_X3_ends l D o ad cA (sF S81 25 ((ev 40 r v SA).1)) ((nI n) + 1)) (cwV 1 hts gX3_until_X3_ends rfl rfl rfl (by decide +kernel) ⟨Nat.le_of_ble_eq_true rfl, Nat.le_of_ble_eq_true rfl⟩) I rfl hl.1 rfl (Nat.le_of_ble_eq_true rfl) dX3_until_120 ⟨Nat.le_refl _, Nat.le_refl _⟩ (fun r120 S120 H locs p120 I => ?_)
                rw [v58] at h81 e81
                have h81 : ¬ (ev 40 u (ev 40 r v SA).1 (ev 40 r v SA).2).2.1 16 = 0 := fun q => h81 ((hw.2.1 16 (by decide) (by decide)).trans q)
                have eL : l_until r u (rm + 1) n v SA = (n + 1, (ev 40 r v SA).1, (ev 40 u (ev 40 r v SA).1 (ev 40 r v SA).2).2) := by unfold l_until; rw [if_pos h58, if_neg (fun q => h81 q.1)]
                have eS := hw.2.tr e81
                rw [nI_1] at p120
                refine m_iret hx hb hr hlocks I dX3_until_123 ?_
                rw [hT, eL]
                have eF := f_untilEnd_eq eS (n + 1) ((ev 40 r v SA).1)
                rw [show f_untilEnd (n + 1, (ev 40 r v SA).1, S81) = f_ends (nI (n + 1)) (sF S81 25 ((ev 40 r v SA).1)) by unfold f_untilEnd; exact congrArg (f_ends _) (if_pos c108)] at eF
                rw [p120]
                exact eF
          · refine lv_istore (lv' := [(7, .int 0), (6, .int (nI n)), (5, .int v), (0, .ref o), (1, .int r), (2, .int u), (3, .int x), (4, .int k)]) hx hb dX3_until_61 hl (by decide) rfl (fun ls hl => ?_)
            have h58 : ¬ (ev 40 r v SA).2.1 16 = 0 := fun q => h58 ((hv.2.1 16 (by decide) (by decide)).trans q)
            have e58 := hv.2.tr e58
            refine lv_iload hx hb dX3_until_63 (lv_at hl 0 rfl) ?_
            refine lv_if_eq (tgt := 42) hx hb dX3_until_65 (by decide) (fun _ => ?_) (fun h => absurd h (by decide))
            refine lv_iload hx hb dX3_until_42 (lv_at hl 0 rfl) ?_
            refine lv_if_eq (tgt := 104) hx hb dX3_until_44 (by decide) (fun _ => ?_) (fun h => absurd h (by decide))
            refine lv_aload_n hx hb dX3_until_104 rfl (lv_at hl 3 rfl) ?_
            refine m_get16 hx hb hts hin hown I L95 dX3_until_105 (x := S58.1 16) rfl ?_
            refine lv_if_ne (tgt := 117) hx hb dX3_until_108 (by decide) (fun c108 => ?_) (fun c108 => ?_)
            · refine lv_aload_n hx hb dX3_until_117 rfl (lv_at hl 3 rfl) ?_
              refine lv_iload hx hb dX3_until_118 (lv_at hl 1 rfl) ?_
              refine m_calli (rest := []) ⟨hx, hb, hml, hown, hts⟩ (c_X3_ends l D o ad cA S58 (nI n)) (cwV 1 hts gX3_until_X3_ends rfl rfl rfl (by decide +kernel) ⟨Nat.le_of_ble_eq_true rfl, Nat.le_of_ble_eq_true rfl⟩) I rfl hl.1 rfl (Nat.le_of_ble_eq_true rfl) dX3_until_120 ⟨Nat.le_refl _, Nat.le_refl _⟩ (fun r120 S120 H locs p120 I => ?_)
              have eL : l_until r u (rm + 1) n v SA = (n, v, (ev 40 r v SA).2) := by unfold l_until; rw [if_neg h58]
              have eS := e58
              refine m_iret hx hb hr hlocks I dX3_until_123 ?_
              rw [hT, eL]
              have eF := f_untilEnd_eq eS n v
              rw [show f_untilEnd (n, v, S58) = f_ends (nI (n)) S58 by unfold f_untilEnd; exact congrArg (f_ends _) (if_neg c108)] at eF
              rw [p120]
              exact eF
            · refine lv_aload_n hx hb dX3_until_111 rfl (lv_at hl 3 rfl) ?_
              refine lv_iload hx hb dX3_until_112 (lv_at hl 2 rfl) ?_
              refine m_put25 hx hb hts hin hown I L152 dX3_until_114 (fun H locs I => ?_)
              refine lv_aload_n hx hb dX3_until_117 rfl (lv_at hl 3 rfl) ?_
              refine lv_iload hx hb dX3_until_118 (lv_at hl 1 rfl) ?_
              refine m_calli (rest := []) ⟨hx, hb, hml, hown, hts⟩ (c_X3_ends l D o ad cA (sF S58 25 v) (nI n)) (cwV 1 hts gX3_until_X3_ends rfl rfl rfl (by decide +kernel) ⟨Nat.le_of_ble_eq_true rfl, Nat.le_of_ble_eq_true rfl⟩) I rfl hl.1 rfl (Nat.le_of_ble_eq_true rfl) dX3_until_120 ⟨Nat.le_refl _, Nat.le_refl _⟩ (fun r120 S120 H locs p120 I => ?_)
              have eL : l_until r u (rm + 1) n v SA = (n, v, (ev 40 r v SA).2) := by unfold l_until; rw [if_neg h58]
              have eS := e58
              refine m_iret hx hb hr hlocks I dX3_until_123 ?_
              rw [hT, eL]
              have eF := f_untilEnd_eq eS n v
              rw [show f_untilEnd (n, v, S58) = f_ends (nI (n)) (sF S58 25 v) by unfold f_untilEnd; exact congrArg (f_ends _) (if_pos c108)] at eF
              rw [p120]
              exact eF
    refine lv_aload_n hx hb dX3_until_0 rfl (lv_at hl 0 rfl) ?_
    refine lv_iload_n hx hb dX3_until_1 rfl (lv_at hl 1 rfl) ?_
    refine m_isRule ⟨hx, hb, hml, hown, hts⟩ gX3_until_X3_isRule ⟨Nat.le_of_ble_eq_true rfl, Nat.le_of_ble_eq_true rfl⟩ ⟨Nat.le_refl _, Nat.le_refl _⟩ I hl.1 (Nat.le_of_ble_eq_true rfl) dX3_until_2 (fun h2 H locs I => ?_) (fun h2 H locs I => ?_)
    · refine lv_if_eq (tgt := 27) hx hb dX3_until_5 (by decide) (fun h => absurd h (by decide)) (fun _ => ?_)
      refine lv_aload_n hx hb dX3_until_8 rfl (lv_at hl 0 rfl) ?_
      refine lv_iload_n hx hb dX3_until_9 rfl (lv_at hl 2 rfl) ?_
      refine m_isRule ⟨hx, hb, hml, hown, hts⟩ gX3_until_X3_isRule ⟨Nat.le_of_ble_eq_true rfl, Nat.le_of_ble_eq_true rfl⟩ ⟨Nat.le_refl _, Nat.le_refl _⟩ I hl.1 (Nat.le_of_ble_eq_true rfl) dX3_until_10 (fun h10 H locs I => ?_) (fun h10 H locs I => ?_)
      · refine lv_if_eq (tgt := 27) hx hb dX3_until_13 (by decide) (fun h => absurd h (by decide)) (fun _ => ?_)
        refine lv_iload hx hb dX3_until_16 (lv_at hl 4 rfl) ?_
        refine lv_iconst (v := 1) hx hb dX3_until_18 (by decide) ?_
        refine lv_bipush (v := 30) hx hb dX3_until_19 (by decide) ?_
        refine m_in ⟨hx, hb, hml, hown, hts⟩ gX3_until_X3_in ⟨Nat.le_of_ble_eq_true rfl, Nat.le_of_ble_eq_true rfl⟩ ⟨Nat.le_refl _, Nat.le_refl _⟩ hl.1 (Nat.le_of_ble_eq_true rfl) dX3_until_21 (fun h21 => ?_) (fun h21 => ?_)
        · refine lv_if_ne (tgt := 29) hx hb dX3_until_24 (by decide) (fun _ => ?_) (fun h => absurd h (by decide))
          refine lv_aload_n hx hb dX3_until_29 rfl (lv_at hl 0 rfl) ?_
          refine m_callv (rest := []) ⟨hx, hb, hml, hown, hts⟩ (c_X3_startsCall l D o ad cA S0) (cwV 0 hts gX3_until_X3_startsCall rfl rfl rfl (by decide +kernel) ⟨Nat.le_of_ble_eq_true rfl, Nat.le_of_ble_eq_true rfl⟩) I rfl hl.1 rfl (Nat.le_of_ble_eq_true rfl) dX3_until_30 ⟨Nat.le_refl _, Nat.le_refl _⟩ (fun S30 H locs p30 I => ?_)
          rw [show S30 = e_start S0 from p30] at I
          refine lv_iload_n hx hb dX3_until_33 rfl (lv_at hl 3 rfl) ?_
          refine lv_istore (lv' := [(5, .int x), (0, .ref o), (1, .int r), (2, .int u), (3, .int x), (4, .int k)]) hx hb dX3_until_34 hl (by decide) rfl (fun ls hl => ?_)
          refine lv_iconst (v := 0) hx hb dX3_until_36 (by decide) ?_
          refine lv_istore (lv' := [(6, .int 0), (5, .int x), (0, .ref o), (1, .int r), (2, .int u), (3, .int x), (4, .int k)]) hx hb dX3_until_37 hl (by decide) rfl (fun ls hl => ?_)
          refine lv_iconst (v := 1) hx hb dX3_until_39 (by decide) ?_
          refine lv_istore (lv' := [(7, .int 1), (6, .int 0), (5, .int x), (0, .ref o), (1, .int r), (2, .int u), (3, .int x), (4, .int k)]) hx hb dX3_until_40 hl (by decide) rfl (fun ls hl => ?_)
          exact LU (M + 1) 0 M x (e_start S0) _ (by omega) (by omega) (e_go.of hN) (e_eq.rf _) (by unfold a_until; rw [if_pos hg, hk, nI_clamp (show M < 2 ^ 31 by omega)]) _ _ ls I (lv_sub hl [0, 1, 2, 3, 4, 5, 6, 7] rfl)
        · refine lv_if_ne (tgt := 29) hx hb dX3_until_24 (by decide) (fun h => absurd h (by decide)) (fun _ => ?_)
          refine lv_iconst (v := (-1)) hx hb dX3_until_27 (by decide) ?_
          exact absurd hg (fun hg => h21 hg.2.2)
      · refine lv_if_eq (tgt := 27) hx hb dX3_until_13 (by decide) (fun _ => ?_) (fun h => absurd h (by decide))
        refine lv_iconst (v := (-1)) hx hb dX3_until_27 (by decide) ?_
        exact absurd hg (fun hg => h10 hg.2.1)
    · refine lv_if_eq (tgt := 27) hx hb dX3_until_5 (by decide) (fun _ => ?_) (fun h => absurd h (by decide))
      refine lv_iconst (v := (-1)) hx hb dX3_until_27 (by decide) ?_
      exact absurd hg (fun hg => h2 hg.1)
  · refine lv_aload_n hx hb dX3_until_0 rfl (lv_at hl 0 rfl) ?_
    refine lv_iload_n hx hb dX3_until_1 rfl (lv_at hl 1 rfl) ?_
    refine m_isRule ⟨hx, hb, hml, hown, hts⟩ gX3_until_X3_isRule ⟨Nat.le_of_ble_eq_true rfl, Nat.le_of_ble_eq_true rfl⟩ ⟨Nat.le_refl _, Nat.le_refl _⟩ I hl.1 (Nat.le_of_ble_eq_true rfl) dX3_until_2 (fun h2 H locs I => ?_) (fun h2 H locs I => ?_)
    · refine lv_if_eq (tgt := 27) hx hb dX3_until_5 (by decide) (fun h => absurd h (by decide)) (fun _ => ?_)
      refine lv_aload_n hx hb dX3_until_8 rfl (lv_at hl 0 rfl) ?_
      refine lv_iload_n hx hb dX3_until_9 rfl (lv_at hl 2 rfl) ?_
      refine m_isRule ⟨hx, hb, hml, hown, hts⟩ gX3_until_X3_isRule ⟨Nat.le_of_ble_eq_true rfl, Nat.le_of_ble_eq_true rfl⟩ ⟨Nat.le_refl _, Nat.le_refl _⟩ I hl.1 (Nat.le_of_ble_eq_true rfl) dX3_until_10 (fun h10 H locs I => ?_) (fun h10 H locs I => ?_)
      · refine lv_if_eq (tgt := 27) hx hb dX3_until_13 (by decide) (fun h => absurd h (by decide)) (fun _ => ?_)
        refine lv_iload hx hb dX3_until_16 (lv_at hl 4 rfl) ?_
        refine lv_iconst (v := 1) hx hb dX3_until_18 (by decide) ?_
        refine lv_bipush (v := 30) hx hb dX3_until_19 (by decide) ?_
        refine m_in ⟨hx, hb, hml, hown, hts⟩ gX3_until_X3_in ⟨Nat.le_of_ble_eq_true rfl, Nat.le_of_ble_eq_true rfl⟩ ⟨Nat.le_refl _, Nat.le_refl _⟩ hl.1 (Nat.le_of_ble_eq_true rfl) dX3_until_21 (fun h21 => ?_) (fun h21 => ?_)
        · refine lv_if_ne (tgt := 29) hx hb dX3_until_24 (by decide) (fun _ => ?_) (fun h => absurd h (by decide))
          exact absurd ⟨h2, h10, h21⟩ hg
        · refine lv_if_ne (tgt := 29) hx hb dX3_until_24 (by decide) (fun h => absurd h (by decide)) (fun _ => ?_)
          refine lv_iconst (v := (-1)) hx hb dX3_until_27 (by decide) ?_
          exact m_iret hx hb hr hlocks I dX3_until_28 (by unfold a_until; rw [if_neg hg]; exact ⟨rfl, e_eq.rf _⟩)
      · refine lv_if_eq (tgt := 27) hx hb dX3_until_13 (by decide) (fun _ => ?_) (fun h => absurd h (by decide))
        refine lv_iconst (v := (-1)) hx hb dX3_until_27 (by decide) ?_
        exact m_iret hx hb hr hlocks I dX3_until_28 (by unfold a_until; rw [if_neg hg]; exact ⟨rfl, e_eq.rf _⟩)
    · refine lv_if_eq (tgt := 27) hx hb dX3_until_5 (by decide) (fun _ => ?_) (fun h => absurd h (by decide))
      refine lv_iconst (v := (-1)) hx hb dX3_until_27 (by decide) ?_
      exact m_iret hx hb hr hlocks I dX3_until_28 (by unfold a_until; rw [if_neg hg]; exact ⟨rfl, e_eq.rf _⟩)
end
section
section MI14
variable {p : Program} {l : Launch} {e : Env} {R : Room} {s : State} {m : MethodId} {args : Array Value} {below : List Frame} {meth : Method} {c : Code} {H H0 : Heap} {locs : List Loc} {cells slots : Nat} {Q : State → Prop}
variable {cc : ByteArray} {pc : Nat} {ls : Array Slot} {rest st0 : List Value} {Ts : List Cond} {index nL : Nat} {own : String} {D : va_G} {o : Nat} {ad : Nat → Nat} {cA : ClassId} {S : tr_S}
theorem m_asksEach {N q z : Nat} {r : Int32} (hN : wf S N) (hq : q < 48) (hz10 : z ≤ 10) (hz : S.2 2 q = nI z) (hr2 : ∃ k, k < N ∧ r = nI k) (X : CallFix p m c cc nL s args Ts own) (hG : GoodIn Ts (wsV own index RX3 yX3_asksEach wsX3_asksEach)) (hR : 4 + 1 ≤ R.frames ∧ 8 + (4 + 11) + 97 ≤ R.locals) (hf : cells ≤ R.cells ∧ slots ≤ R.slots) (I : m_I D o ad cA S s H0 H locs) (hsize : ls.size = nL) (hroom : (rest.map fun v => v.category).sum ≤ 8) (hdg : decode cc pc = .ok (.invokevirtual index, 3))
    (kt : (l_keys r q z 0 (fun _ => 0) (e_start S)).2.1 16 = 0 → ∀ (S1 : tr_S) (H1 : Heap) (locs1 : List Loc), (∀ j, j < z → S1.2 27 j = (l_keys r q z 0 (fun _ => 0) (e_start S)).1 j) → e_eq (l_keys r q z 0 (fun _ => 0) (e_start S)).2 S1 → m_I D o ad cA S1 s H0 H1 locs1 → W p l e R s m args below meth c H1 locs1 cells slots Q (F0 m (pc + 3) ls (.int 1 :: rest)))
    (kf : ¬ (l_keys r q z 0 (fun _ => 0) (e_start S)).2.1 16 = 0 → ∀ (S1 : tr_S) (H1 : Heap) (locs1 : List Loc), e_eq (l_keys r q z 0 (fun _ => 0) (e_start S)).2 S1 → m_I D o ad cA S1 s H0 H1 locs1 → W p l e R s m args below meth c H1 locs1 cells slots Q (F0 m (pc + 3) ls (.int 0 :: rest))) : W p l e R s m args below meth c H locs cells slots Q (F0 m pc ls (.int (nI q) :: .int r :: .ref o :: rest)) := by
  refine m_calli (rest := rest) X (c_X3_asksEach l D o ad cA S r q z N hN hq hz10 hz hr2) (cwV 2 X.2.2.2.2 hG rfl rfl rfl (by decide +kernel) hR) I rfl hsize rfl hroom hdg hf (fun v S1 H1 locs1 hp I1 => ?_)
  obtain ⟨⟨rfl, h1, h2⟩ | ⟨rfl, h1⟩, h3⟩ := hp
  · exact kt h1 S1 H1 locs1 h2 h3 I1
  · exact kf h1 S1 H1 locs1 h3 I1
end MI14
theorem l_keys_ind {N : Nat} {r : Int32} {q : Nat} : ∀ (n i : Nat) (K : Nat → Int32) (S : tr_S), e_go S N → e_sm S (l_keys r q n i K S).2 ∧ ((l_keys r q n i K S).2.1 16 = 0 → e_go (l_keys r q n i K S).2 N)
  | 0, i, K, S, g => ⟨e_sm.rf S, fun _ => g⟩
  | n + 1, i, K, S, g => by
    unfold l_keys
    by_cases h : (ev 40 r (S.2 3 (10 * q + i)) S).2.1 16 = 0
    · rw [if_pos h]
      obtain ⟨a, b⟩ := l_keys_ind n (i + 1) (upd K i (ev 40 r (S.2 3 (10 * q + i)) S).1) _ (g.ev 40 r _ h)
      exact ⟨(ev_sm 40 r _ S).tr a, b⟩
    · rw [if_neg h]
      exact ⟨ev_sm 40 r _ S, fun q => absurd q h⟩
theorem w_new_sm {S T : tr_S} {k : Nat} (h : w_new S k) (g : e_sm S T) : w_new T k := by
  have e : ∀ a, f_held T a = f_held S a := fun a => by
    unfold f_held f_held1 f_held2
    rw [g.1, g.2.1, g.2.2.2.1, g.2.2.2.2.2.2.1]
  unfold w_new at h ⊢
  simp only [e]
  exact h
theorem getD_app_lt {l : List Int32} {v d : Int32} {j : Nat} (h : j < l.length) : (l ++ [v]).getD j d = l.getD j d := by simp [List.getD, List.getElem?_append_left h]
theorem getD_app_eq {l : List Int32} {v d : Int32} : (l ++ [v]).getD l.length d = v := by simp [List.getD]
def l_flt (K J : Nat → Int32) : Nat → List Int32
  | 0 => []
  | i + 1 => if K i = 0 then l_flt K J i else l_flt K J i ++ [J i]
theorem l_flt_len (K J : Nat → Int32) : ∀ i, (l_flt K J i).length ≤ i
  | 0 => Nat.le_refl 0
  | i + 1 => by
    have := l_flt_len K J i
    unfold l_flt
    split
    · omega
    · rw [List.length_append]; simp; omega
def l_fill (q : Nat) (L : List Int32) : Nat → tr_S → tr_S
  | 0, S => S
  | k + 1, S => sA (l_fill q L k S) 3 (10 * q + k) (L.getD k 0)
def f_keepEnd (y : Int32) (k : Nat) (L : List Int32) (S : tr_S) : Int32 × tr_S := f_ends (nI L.length) (sA (l_fill k L L.length (f_zero k 10 (sA S 2 k (nI L.length)))) 1 y.toNatClampNeg (nI k))
def f_keep (y : Int32) (q z k : Nat) (a : (Nat → Int32) × tr_S) : Int32 × tr_S := if a.2.1 16 = 0 then f_keepEnd y k (l_flt a.1 (fun i => a.2.2 3 (10 * q + i)) z) a.2 else f_ends 0 a.2
def a_keep (r y : Int32) (k : Nat) (S : tr_S) : Int32 × tr_S := if (0 ≤ r ∧ r ≤ S.1 4 - 1) ∧ (0 ≤ y ∧ y ≤ 3) then (if 0 ≤ S.2 1 y.toNatClampNeg then f_keep y (S.2 1 y.toNatClampNeg).toNatClampNeg (S.2 2 (S.2 1 y.toNatClampNeg).toNatClampNeg).toNatClampNeg k (l_keys r (S.2 1 y.toNatClampNeg).toNatClampNeg (S.2 2 (S.2 1 y.toNatClampNeg).toNatClampNeg).toNatClampNeg 0 (fun _ => 0) (e_start S)) else (-13, S)) else (-1, S)
theorem f_zero_eq {S T : tr_S} (h : e_eq S T) (q : Nat) : ∀ n, e_eq (f_zero q n S) (f_zero q n T)
  | 0 => h
  | n + 1 => e_eq_A (f_zero_eq h q n) 3 _ (by decide) rfl
theorem l_fill_eq {S T : tr_S} (h : e_eq S T) (q : Nat) (L : List Int32) : ∀ n, e_eq (l_fill q L n S) (l_fill q L n T)
  | 0 => h
  | n + 1 => e_eq_A (l_fill_eq h q L n) 3 _ (by decide) rfl
theorem f_keepEnd_eq {S T : tr_S} (h : e_eq S T) (y : Int32) (k : Nat) (L : List Int32) : e_R (f_keepEnd y k L S) (f_keepEnd y k L T) :=
  f_ends_eq (e_eq_A (l_fill_eq (f_zero_eq (e_eq_A h 2 k (by decide) rfl) k 10) k L L.length) 1 _ (by decide) rfl) _
/-- the arrays that only keep() and order() use stay as a row is filled -/
theorem f_zero_hi (q : Nat) (S : tr_S) : ∀ n, e_hi S (f_zero q n S)
  | 0 => e_hi.rf S
  | n + 1 => e_hi_A (f_zero_hi q S n) (by decide) _ _
theorem l_fill_hi (q : Nat) (L : List Int32) (S : tr_S) : ∀ n, e_hi S (l_fill q L n S)
  | 0 => e_hi.rf S
  | n + 1 => e_hi_A (l_fill_hi q L S n) (by decide) _ _
set_option maxHeartbeats 4000000 in
set_option maxRecDepth 100000 in
theorem c_X3_keep (l : Launch) (D : va_G) (o : Nat) (ad : Nat → Nat) (cA : ClassId) (S0 : tr_S) (r y : Int32) (N kn : Nat) (hN : wf S0 N) (hq : w_new S0 kn) : m_Mi l yX3_keep wsX3_keep { frames := 5, cells := 0, slots := 0, locals := 120 } [.int r, .int y] D o ad cA S0 (fun v S => e_R (a_keep r y kn S0) (v, S)) := by
  refine Met.ofW (cc := cX3_keep) (maxL := 7) (ret := (some .int)) (by decide) rfl ?_
  intro p e s m args below meth c s₁ B hml hv
  obtain ⟨rfl, hB⟩ := hv
  have hx := B.exec
  have hb := B.bytes
  have hr := B.returns
  have hts := atoms_spec (ws := wsX3_keep) B.pre
  have hown : s.vm.findClass RX3 = some m.cls := findClass_of_methodNamed B.named
  have hlocks := B.notSynchronized
  have I := m_I.of hB
  have hin : ∀ w ∈ wsX30, w ∈ wsX3_keep := fun _ h => List.mem_cons_of_mem _ (List.mem_append_right _ h)
  have L13 := hts (.fieldLink RX3 13 "TollRulesModel" "rowOf" "[I") (by decide +kernel)
  have L16 := hts (.fieldLink RX3 16 "TollRulesModel" "size" "[I") (by decide +kernel)
  have L19 := hts (.fieldLink RX3 19 "TollRulesModel" "item" "[I") (by decide +kernel)
  have L56 := hts (.fieldLink RX3 56 "TollRulesModel" "keys" "[I") (by decide +kernel)
  have L59 := hts (.fieldLink RX3 59 "TollRulesModel" "from" "[I") (by decide +kernel)
  have hl := lv_entry ([.ref o, .int r, .int y]) (n := 7) (Nat.le_of_ble_eq_true rfl)
  rw [lg_entry_eq]
  generalize (lg_sl ([.ref o, .int r, .int y]) ++ List.replicate (7 - (lg_sl ([.ref o, .int r, .int y])).length) Slot.unset).toArray = ls at hl ⊢
  have hl : lv_has ls 7 [(0, .ref o), (1, .int r), (2, .int y)] := hl
  have L2 : ∀ (q z : Nat) (K : Nat → Int32) (SA : tr_S), q < 48 → z ≤ 10 → SA.2 2 q = nI z → e_go SA N → e_sm S0 SA → a_keep r y kn S0 = f_keepEnd y kn (l_flt K (fun i => SA.2 3 (10 * q + i)) z) SA → (0 ≤ y ∧ y ≤ 3) → ∀ (S : tr_S), e_eq SA S → (∀ j, j < (l_flt K (fun i => SA.2 3 (10 * q + i)) z).length → S.2 28 j = (l_flt K (fun i => SA.2 3 (10 * q + i)) z).getD j 0) → ∀ (d i : Nat), (l_flt K (fun i => SA.2 3 (10 * q + i)) z).length - i < d → i ≤ (l_flt K (fun i => SA.2 3 (10 * q + i)) z).length → ∀ (H : Heap) (locs : List Loc) (ls : Array Slot), m_I D o ad cA (l_fill kn (l_flt K (fun i => SA.2 3 (10 * q + i)) z) i (f_zero kn 10 (sA S 2 kn (nI (l_flt K (fun i => SA.2 3 (10 * q + i)) z).length)))) s s.heap H locs → lv_has ls 7 [(6, .int (nI i)), (5, .int (nI kn)), (4, .int (nI (l_flt K (fun i => SA.2 3 (10 * q + i)) z).length)), (0, .ref o), (1, .int r), (2, .int y), (3, .int (nI q))] → W p l e (headSpec wsX3_keep { frames := 5, cells := 0, slots := 0, locals := 120 }).room s m (([.ref o, .int r, .int y] : List Value).toArray) below meth c H locs 0 0 (MQ below (va_Qi (fun v S => e_R (a_keep r y kn S0) (v, S)) (m_B D o ad cA) (m_A o ad)) (([.ref o, .int r, .int y] : List Value).toArray) s 0 0 (m_A o ad)) (F0 m 113 ls []) := by
    intro q z K SA hqq hz10 hz g sm hT hy S hS hF d
    have hlen := l_flt_len K (fun i => SA.2 3 (10 * q + i)) z
    have hq1 := hq.1
    induction d with
    | zero => intro i hi; omega
    | succ d ih =>
      intro i hd hi H locs ls I hl
      refine lv_iload hx hb dX3_keep_113 (lv_at hl 0 rfl) ?_
      refine lv_iload hx hb dX3_keep_115 (lv_at hl 2 rfl) ?_
      refine lv_icmp_ge (tgt := 146) hx hb dX3_keep_117 (by decide) (fun c117 => ?_) (fun c117 => ?_)
      · refine lv_aload_n hx hb dX3_keep_146 rfl (lv_at hl 3 rfl) ?_
        refine m_get1 hx hb hts hin hown I L13 dX3_keep_147 ?_
        refine lv_iload_n hx hb dX3_keep_150 rfl (lv_at hl 5 rfl) ?_
        refine lv_iload hx hb dX3_keep_151 (lv_at hl 1 rfl) ?_
        refine m_ast1 hx hb I (ix_of hy (by decide) (by decide)) dX3_keep_153 (fun H locs I => ?_)
        refine lv_aload_n hx hb dX3_keep_154 rfl (lv_at hl 3 rfl) ?_
        refine lv_iload hx hb dX3_keep_155 (lv_at hl 2 rfl) ?_
        refine m_calli (rest := []) ⟨hx, hb, hml, hown, hts⟩ (c_X3_ends l D o ad cA (sA (l_fill kn (l_flt K (fun i => SA.2 3 (10 * q + i)) z) i (f_zero kn 10 (sA S 2 kn (nI (l_flt K (fun i => SA.2 3 (10 * q + i)) z).length)))) 1 y.toNatClampNeg (nI kn)) (nI (l_flt K (fun i => SA.2 3 (10 * q + i)) z).length)) (cwV 1 hts gX3_keep_X3_ends rfl rfl rfl (by decide +kernel) ⟨Nat.le_of_ble_eq_true rfl, Nat.le_of_ble_eq_true rfl⟩) I rfl hl.1 rfl (Nat.le_of_ble_eq_true rfl) dX3_keep_157 ⟨Nat.le_refl _, Nat.le_refl _⟩ (fun r157 S157 H locs p157 I => ?_)
        have hi : (l_flt K (fun i => SA.2 3 (10 * q + i)) z).length ≤ i := nI_lb (by omega) (by omega) c117
        rw [show i = (l_flt K (fun i => SA.2 3 (10 * q + i)) z).length by omega] at p157
        refine m_iret hx hb hr hlocks I dX3_keep_160 ?_
        rw [hT, p157]
        exact f_keepEnd_eq hS y kn _
      · have hi : i < (l_flt K (fun i => SA.2 3 (10 * q + i)) z).length := nI_ub (by omega) (by omega) c117
        refine lv_aload_n hx hb dX3_keep_120 rfl (lv_at hl 3 rfl) ?_
        refine m_get3 hx hb hts hin hown I L19 dX3_keep_121 ?_
        refine lv_bipush (v := 10) hx hb dX3_keep_124 (by decide) ?_
        refine lv_iload hx hb dX3_keep_126 (lv_at hl 1 rfl) ?_
        refine lv_imul hx hb dX3_keep_128 ?_
        refine lv_iload hx hb dX3_keep_129 (lv_at hl 0 rfl) ?_
        refine lv_iadd hx hb dX3_keep_131 ?_
        refine lv_aload_n hx hb dX3_keep_132 rfl (lv_at hl 3 rfl) ?_
        refine m_get28 hx hb hts hin hown I L59 dX3_keep_133 ?_
        refine lv_iload hx hb dX3_keep_136 (lv_at hl 0 rfl) ?_
        refine m_ald28 hx hb I (vp_in_nI (by omega) (by decide)) dX3_keep_138 (x := (l_fill kn (l_flt K (fun i => SA.2 3 (10 * q + i)) z) i (f_zero kn 10 (sA S 2 kn (nI (l_flt K (fun i => SA.2 3 (10 * q + i)) z).length)))).2 28 i) (by rw [nI_clamp (show i < 2 ^ 31 by omega)] <;> rfl) ?_
        refine m_ast3 hx hb I (ix_480 hq.1 (by omega)) dX3_keep_139 (fun H locs I => ?_)
        rw [nI_10 (q := kn) (k := i) (by omega)] at I
        refine lv_iinc (v := (nI i) + 1) (lv' := [(6, .int ((nI i) + 1)), (5, .int (nI kn)), (4, .int (nI (l_flt K (fun i => SA.2 3 (10 * q + i)) z).length)), (0, .ref o), (1, .int r), (2, .int y), (3, .int (nI q))]) hx hb dX3_keep_140 hl (k := 0) rfl rfl (by decide) rfl (fun ls hl => ?_)
        refine lv_goto (tgt := 113) hx hb dX3_keep_143 (by decide) ?_
        have hl := lv_sub hl [0, 1, 2, 3, 4, 5, 6] rfl
        rw [nI_1] at hl
        rw [show ((l_fill kn (l_flt K (fun i => SA.2 3 (10 * q + i)) z) i (f_zero kn 10 (sA S 2 kn (nI (l_flt K (fun i => SA.2 3 (10 * q + i)) z).length))))).2 28 i = (l_flt K (fun i => SA.2 3 (10 * q + i)) z).getD i 0 by rw [((f_zero_hi kn (sA S 2 kn (nI (l_flt K (fun i => SA.2 3 (10 * q + i)) z).length)) 10).tr (l_fill_hi kn (l_flt K (fun i => SA.2 3 (10 * q + i)) z) _ i)) 28 (by decide)]; exact hF i hi] at I
        exact ih (i + 1) (by omega) (by omega) H locs ls I hl
  have L1 : ∀ (q z : Nat) (K : Nat → Int32) (SA : tr_S), q < 48 → z ≤ 10 → SA.2 2 q = nI z → e_go SA N → e_sm S0 SA → a_keep r y kn S0 = f_keepEnd y kn (l_flt K (fun i => SA.2 3 (10 * q + i)) z) SA → (0 ≤ y ∧ y ≤ 3) → ∀ (d i : Nat), z - i < d → i ≤ z → ∀ (S : tr_S), e_eq SA S → (∀ j, j < z → S.2 27 j = K j) → (∀ j, j < (l_flt K (fun i => SA.2 3 (10 * q + i)) i).length → S.2 28 j = (l_flt K (fun i => SA.2 3 (10 * q + i)) i).getD j 0) → ∀ (H : Heap) (locs : List Loc) (ls : Array Slot), m_I D o ad cA S s s.heap H locs → lv_has ls 7 [(5, .int (nI i)), (4, .int (nI (l_flt K (fun i => SA.2 3 (10 * q + i)) i).length)), (0, .ref o), (1, .int r), (2, .int y), (3, .int (nI q))] → W p l e (headSpec wsX3_keep { frames := 5, cells := 0, slots := 0, locals := 120 }).room s m (([.ref o, .int r, .int y] : List Value).toArray) below meth c H locs 0 0 (MQ below (va_Qi (fun v S => e_R (a_keep r y kn S0) (v, S)) (m_B D o ad cA) (m_A o ad)) (([.ref o, .int r, .int y] : List Value).toArray) s 0 0 (m_A o ad)) (F0 m 53 ls []) := by
    intro q z K SA hqq hz10 hz g sm hT hy d
    have hq1 := hq.1
    induction d with
    | zero => intro i hi; omega
    | succ d ih =>
      intro i hd hiz S hS hK hF H locs ls I hl
      have hlen := l_flt_len K (fun i => SA.2 3 (10 * q + i)) i
      have hz2 : S.2 2 q = nI z := by rw [hS.2 2 (by decide)]; exact hz
      refine lv_iload hx hb dX3_keep_53 (lv_at hl 0 rfl) ?_
      refine lv_aload_n hx hb dX3_keep_55 rfl (lv_at hl 2 rfl) ?_
      refine m_get2 hx hb hts hin hown I L16 dX3_keep_56 ?_
      refine lv_iload_n hx hb dX3_keep_59 rfl (lv_at hl 5 rfl) ?_
      refine m_ald2 hx hb I (vp_in_nI hqq (by decide)) dX3_keep_60 (x := S.2 2 q) (by rw [nI_clamp (show q < 2 ^ 31 by omega)] <;> rfl) ?_
      refine lv_icmp_ge (tgt := 102) hx hb dX3_keep_61 (by decide) (fun c61 => ?_) (fun c61 => ?_)
      · refine lv_aload_n hx hb dX3_keep_102 rfl (lv_at hl 2 rfl) ?_
        refine lv_iload hx hb dX3_keep_103 (lv_at hl 1 rfl) ?_
        have hi2 : z ≤ i := nI_lb (by omega) (by omega) (by rw [← hz2]; exact c61)
        have ei : i = z := by omega
        rw [ei] at hl hF ⊢
        have smS : e_sm S0 S := sm.tr hS.sm
        refine m_calli (rest := []) ⟨hx, hb, hml, hown, hts⟩ (c_X3_newRow l D o ad cA S (nI (l_flt K (fun i => SA.2 3 (10 * q + i)) z).length) kn N (w_new_sm hq smS) (smS.1.trans hN.2.1) hN.1) (cwV 1 hts gX3_keep_X3_newRow rfl rfl rfl (by decide +kernel) ⟨Nat.le_of_ble_eq_true rfl, Nat.le_of_ble_eq_true rfl⟩) I rfl hl.1 rfl (Nat.le_of_ble_eq_true rfl) dX3_keep_105 ⟨Nat.le_refl _, Nat.le_refl _⟩ (fun r105 S105 H locs p105 I => ?_)
        obtain ⟨rfl, rfl⟩ := p105
        refine lv_istore (lv' := [(5, .int (nI kn)), (4, .int (nI (l_flt K (fun i => SA.2 3 (10 * q + i)) z).length)), (0, .ref o), (1, .int r), (2, .int y), (3, .int (nI q))]) hx hb dX3_keep_108 hl (by decide) rfl (fun ls hl => ?_)
        refine lv_iconst (v := 0) hx hb dX3_keep_110 (by decide) ?_
        refine lv_istore (lv' := [(6, .int 0), (5, .int (nI kn)), (4, .int (nI (l_flt K (fun i => SA.2 3 (10 * q + i)) z).length)), (0, .ref o), (1, .int r), (2, .int y), (3, .int (nI q))]) hx hb dX3_keep_111 hl (by decide) rfl (fun ls hl => ?_)
        exact L2 q z K SA hqq hz10 hz g sm hT hy S hS hF ((l_flt K (fun i => SA.2 3 (10 * q + i)) z).length + 1) 0 (by omega) (by omega) H locs ls I (lv_sub hl [0, 1, 2, 3, 4, 5, 6] rfl)
      · have hi : i < z := nI_ub (by omega) (by omega) (by rw [← hz2]; exact c61)
        refine lv_aload_n hx hb dX3_keep_64 rfl (lv_at hl 2 rfl) ?_
        refine m_get27 hx hb hts hin hown I L56 dX3_keep_65 ?_
        refine lv_iload hx hb dX3_keep_68 (lv_at hl 0 rfl) ?_
        refine m_ald27 hx hb I (vp_in_nI (by omega) (by decide)) dX3_keep_70 (x := S.2 27 i) (by rw [nI_clamp (show i < 2 ^ 31 by omega)] <;> rfl) ?_
        refine lv_if_eq (tgt := 96) hx hb dX3_keep_71 (by decide) (fun c71 => ?_) (fun c71 => ?_)
        · refine lv_iinc (v := (nI i) + 1) (lv' := [(5, .int ((nI i) + 1)), (4, .int (nI (l_flt K (fun i => SA.2 3 (10 * q + i)) i).length)), (0, .ref o), (1, .int r), (2, .int y), (3, .int (nI q))]) hx hb dX3_keep_96 hl (k := 0) rfl rfl (by decide) rfl (fun ls hl => ?_)
          refine lv_goto (tgt := 53) hx hb dX3_keep_99 (by decide) ?_
          have hl := lv_sub hl [0, 1, 2, 3, 4, 5] rfl
          rw [hK i hi] at c71
          have eF : l_flt K (fun i => SA.2 3 (10 * q + i)) (i + 1) = (l_flt K (fun i => SA.2 3 (10 * q + i)) i) := by
            conv => lhs; unfold l_flt
            rw [if_pos c71]
          rw [nI_1, ← eF] at hl
          refine ih (i + 1) (by omega) (by omega) S hS hK ?_ H locs ls I hl
          rw [eF]
          exact hF
        · refine lv_aload_n hx hb dX3_keep_74 rfl (lv_at hl 2 rfl) ?_
          refine m_get28 hx hb hts hin hown I L59 dX3_keep_75 ?_
          refine lv_iload hx hb dX3_keep_78 (lv_at hl 1 rfl) ?_
          refine lv_aload_n hx hb dX3_keep_80 rfl (lv_at hl 2 rfl) ?_
          refine m_get3 hx hb hts hin hown I L19 dX3_keep_81 ?_
          refine lv_bipush (v := 10) hx hb dX3_keep_84 (by decide) ?_
          refine lv_iload_n hx hb dX3_keep_86 rfl (lv_at hl 5 rfl) ?_
          refine lv_imul hx hb dX3_keep_87 ?_
          refine lv_iload hx hb dX3_keep_88 (lv_at hl 0 rfl) ?_
          refine lv_iadd hx hb dX3_keep_90 ?_
          refine m_ald3 hx hb I (ix_480 hqq (by omega)) dX3_keep_91 (x := S.2 3 (10 * q + i)) (by rw [nI_10 (q := q) (k := i) (by omega)] <;> rfl) ?_
          refine m_ast28 hx hb I (vp_in_nI (by omega) (by decide)) dX3_keep_92 (fun H locs I => ?_)
          rw [nI_clamp (show (l_flt K (fun i => SA.2 3 (10 * q + i)) i).length < 2 ^ 31 by omega)] at I
          refine lv_iinc (v := (nI (l_flt K (fun i => SA.2 3 (10 * q + i)) i).length) + 1) (lv' := [(4, .int ((nI (l_flt K (fun i => SA.2 3 (10 * q + i)) i).length) + 1)), (5, .int (nI i)), (0, .ref o), (1, .int r), (2, .int y), (3, .int (nI q))]) hx hb dX3_keep_93 hl (k := 1) rfl rfl (by decide) rfl (fun ls hl => ?_)
          refine lv_iinc (v := (nI i) + 1) (lv' := [(5, .int ((nI i) + 1)), (4, .int ((nI (l_flt K (fun i => SA.2 3 (10 * q + i)) i).length) + 1)), (0, .ref o), (1, .int r), (2, .int y), (3, .int (nI q))]) hx hb dX3_keep_96 hl (k := 1) rfl rfl (by decide) rfl (fun ls hl => ?_)
          refine lv_goto (tgt := 53) hx hb dX3_keep_99 (by decide) ?_
          have hl := lv_sub hl [0, 1, 2, 3, 4, 5] rfl
          rw [hK i hi] at c71
          have eF : l_flt K (fun i => SA.2 3 (10 * q + i)) (i + 1) = (l_flt K (fun i => SA.2 3 (10 * q + i)) i) ++ [SA.2 3 (10 * q + i)] := by
            conv => lhs; unfold l_flt
            rw [if_neg c71]
          have eN : nI (l_flt K (fun i => SA.2 3 (10 * q + i)) (i + 1)).length = nI (l_flt K (fun i => SA.2 3 (10 * q + i)) i).length + 1 := by rw [eF, List.length_append]; exact (nI_1 _).symm
          rw [nI_1 i, ← eN] at hl
          refine ih (i + 1) (by omega) (by omega) (sA S 28 (l_flt K (fun i => SA.2 3 (10 * q + i)) i).length (S.2 3 (10 * q + i))) (e_eq_lA hS (by decide) _ _) (fun j hj => hK j hj) ?_ H locs ls I hl
          intro j hj
          rw [eF, List.length_append] at hj
          have hj : j < (l_flt K (fun i => SA.2 3 (10 * q + i)) i).length + 1 := hj
          rw [eF, sA_A, if_pos rfl]
          by_cases hjl : j = (l_flt K (fun i => SA.2 3 (10 * q + i)) i).length
          · rw [if_pos hjl, hS.2 3 (by decide), hjl, getD_app_eq]
          · rw [if_neg hjl, getD_app_lt (by omega)]; exact hF j (by omega)
  refine lv_aload_n hx hb dX3_keep_0 rfl (lv_at hl 0 rfl) ?_
  refine lv_iload_n hx hb dX3_keep_1 rfl (lv_at hl 1 rfl) ?_
  refine m_isRule ⟨hx, hb, hml, hown, hts⟩ gX3_keep_X3_isRule ⟨Nat.le_of_ble_eq_true rfl, Nat.le_of_ble_eq_true rfl⟩ ⟨Nat.le_refl _, Nat.le_refl _⟩ I hl.1 (Nat.le_of_ble_eq_true rfl) dX3_keep_2 (fun h2 H locs I => ?_) (fun h2 H locs I => ?_)
  · refine lv_if_eq (tgt := 17) hx hb dX3_keep_5 (by decide) (fun h => absurd h (by decide)) (fun _ => ?_)
    refine lv_iload_n hx hb dX3_keep_8 rfl (lv_at hl 2 rfl) ?_
    refine lv_iconst (v := 0) hx hb dX3_keep_9 (by decide) ?_
    refine lv_iconst (v := 3) hx hb dX3_keep_10 (by decide) ?_
    refine m_in ⟨hx, hb, hml, hown, hts⟩ gX3_keep_X3_in ⟨Nat.le_of_ble_eq_true rfl, Nat.le_of_ble_eq_true rfl⟩ ⟨Nat.le_refl _, Nat.le_refl _⟩ hl.1 (Nat.le_of_ble_eq_true rfl) dX3_keep_11 (fun h11 => ?_) (fun h11 => ?_)
    · refine lv_if_ne (tgt := 19) hx hb dX3_keep_14 (by decide) (fun _ => ?_) (fun h => absurd h (by decide))
      refine lv_aload_n hx hb dX3_keep_19 rfl (lv_at hl 0 rfl) ?_
      refine m_get1 hx hb hts hin hown I L13 dX3_keep_20 ?_
      refine lv_iload_n hx hb dX3_keep_23 rfl (lv_at hl 2 rfl) ?_
      refine m_ald1 hx hb I (ix_of h11 (by decide) (by decide)) dX3_keep_24 (x := S0.2 1 y.toNatClampNeg) rfl ?_
      refine lv_if_ge (tgt := 31) hx hb dX3_keep_25 (by decide) (fun c25 => ?_) (fun c25 => ?_)
      · refine lv_aload_n hx hb dX3_keep_31 rfl (lv_at hl 0 rfl) ?_
        refine m_get1 hx hb hts hin hown I L13 dX3_keep_32 ?_
        refine lv_iload_n hx hb dX3_keep_35 rfl (lv_at hl 2 rfl) ?_
        refine m_ald1 hx hb I (ix_of h11 (by decide) (by decide)) dX3_keep_36 (x := S0.2 1 y.toNatClampNeg) rfl ?_
        refine lv_istore_n (lv' := [(3, .int (S0.2 1 y.toNatClampNeg)), (0, .ref o), (1, .int r), (2, .int y)]) hx hb dX3_keep_37 rfl hl (by decide) rfl (fun ls hl => ?_)
        refine lv_iconst (v := 0) hx hb dX3_keep_38 (by decide) ?_
        refine lv_istore (lv' := [(4, .int 0), (3, .int (S0.2 1 y.toNatClampNeg)), (0, .ref o), (1, .int r), (2, .int y)]) hx hb dX3_keep_39 hl (by decide) rfl (fun ls hl => ?_)
        obtain ⟨q, hqq, eq⟩ : ∃ q, q < 48 ∧ S0.2 1 y.toNatClampNeg = nI q := by rcases hN.2.2.2.1 _ (ix_nI (ix_of h11 (by decide) (by decide)) (by decide)).2 with h | h; exact absurd c25 (by rw [h]; decide); exact h
        obtain ⟨z, hz10, hz⟩ := hN.2.2.2.2 q hqq
        rw [eq] at hl
        have li := l_keys_ind (r := r) (q := q) z 0 (fun _ => 0) (e_start S0) (e_go.of hN)
        have eA : a_keep r y kn S0 = f_keep y q z kn (l_keys r q z 0 (fun _ => 0) (e_start S0)) := by unfold a_keep; rw [if_pos ⟨h2, h11⟩, if_pos c25, eq, nI_clamp (show q < 2 ^ 31 by omega), hz, nI_clamp (show z < 2 ^ 31 by omega)]
        refine lv_aload_n hx hb dX3_keep_41 rfl (lv_at hl 2 rfl) ?_
        refine lv_iload_n hx hb dX3_keep_42 rfl (lv_at hl 3 rfl) ?_
        refine lv_iload_n hx hb dX3_keep_43 rfl (lv_at hl 1 rfl) ?_
        refine m_asksEach hN hqq hz10 hz (rule_of hN h2) ⟨hx, hb, hml, hown, hts⟩ gX3_keep_X3_asksEach ⟨Nat.le_of_ble_eq_true rfl, Nat.le_of_ble_eq_true rfl⟩ ⟨Nat.le_refl _, Nat.le_refl _⟩ I hl.1 (Nat.le_of_ble_eq_true rfl) dX3_keep_44 (fun h44 S44 H locs k44 e44 I => ?_) (fun h44 S44 H locs e44 I => ?_)
        · refine lv_if_eq (tgt := 154) hx hb dX3_keep_47 (by decide) (fun h => absurd h (by decide)) (fun _ => ?_)
          refine lv_iconst (v := 0) hx hb dX3_keep_50 (by decide) ?_
          refine lv_istore (lv' := [(5, .int 0), (4, .int 0), (3, .int (nI q)), (0, .ref o), (1, .int r), (2, .int y)]) hx hb dX3_keep_51 hl (by decide) rfl (fun ls hl => ?_)
          exact L1 q z _ _ hqq hz10 (by rw [li.1.2.2.1]; exact hz) (li.2 h44) ((e_start_sm S0).tr li.1) (by rw [eA]; unfold f_keep; rw [if_pos h44]) h11 (z + 1) 0 (by omega) (by omega) S44 e44 k44 (fun j hj => absurd hj (Nat.not_lt_zero j)) H locs ls I (lv_sub hl [0, 1, 3, 4, 5, 2] rfl)
        · refine lv_if_eq (tgt := 154) hx hb dX3_keep_47 (by decide) (fun _ => ?_) (fun h => absurd h (by decide))
          refine lv_aload_n hx hb dX3_keep_154 rfl (lv_at hl 2 rfl) ?_
          refine lv_iload hx hb dX3_keep_155 (lv_at hl 0 rfl) ?_
          refine m_calli (rest := []) ⟨hx, hb, hml, hown, hts⟩ (c_X3_ends l D o ad cA S44 0) (cwV 1 hts gX3_keep_X3_ends rfl rfl rfl (by decide +kernel) ⟨Nat.le_of_ble_eq_true rfl, Nat.le_of_ble_eq_true rfl⟩) I rfl hl.1 rfl (Nat.le_of_ble_eq_true rfl) dX3_keep_157 ⟨Nat.le_refl _, Nat.le_refl _⟩ (fun r157 S157 H locs p157 I => ?_)
          refine m_iret hx hb hr hlocks I dX3_keep_160 ?_
          rw [eA, p157]
          unfold f_keep
          rw [if_neg h44]
          exact f_ends_eq e44 0
      · refine lv_bipush (v := (-13)) hx hb dX3_keep_28 (by decide) ?_
        exact m_iret hx hb hr hlocks I dX3_keep_30 (by unfold a_keep; rw [if_pos ⟨h2, h11⟩, if_neg c25]; exact ⟨rfl, e_eq.rf _⟩)
    · refine lv_if_ne (tgt := 19) hx hb dX3_keep_14 (by decide) (fun h => absurd h (by decide)) (fun _ => ?_)
      refine lv_iconst (v := (-1)) hx hb dX3_keep_17 (by decide) ?_
      exact m_iret hx hb hr hlocks I dX3_keep_18 (by unfold a_keep; rw [if_neg (fun q => h11 q.2)]; exact ⟨rfl, e_eq.rf _⟩)
  · refine lv_if_eq (tgt := 17) hx hb dX3_keep_5 (by decide) (fun _ => ?_) (fun h => absurd h (by decide))
    refine lv_iconst (v := (-1)) hx hb dX3_keep_17 (by decide) ?_
    exact m_iret hx hb hr hlocks I dX3_keep_18 (by unfold a_keep; rw [if_neg (fun q => h2 q.1)]; exact ⟨rfl, e_eq.rf _⟩)
end
section
/-! the order of keys: how many stand before one -/
def k_lt (K : Nat → Int32) (i k : Nat) : Prop := K i < K k ∨ (K i = K k ∧ i < k)
def l_cnt (K : Nat → Int32) (k : Nat) : Nat → Nat
  | 0 => 0
  | i + 1 => l_cnt K k i + (if K i < K k ∨ (K i = K k ∧ i < k) then 1 else 0)
theorem l_cnt_le (K : Nat → Int32) (k : Nat) : ∀ n, l_cnt K k n ≤ n
  | 0 => Nat.le_refl 0
  | n + 1 => by
    have := l_cnt_le K k n
    unfold l_cnt
    split <;> omega
theorem l_cnt_lt (K : Nat → Int32) (k : Nat) : ∀ n, k < n → l_cnt K k n < n
  | 0, h => by omega
  | n + 1, h => by
    unfold l_cnt
    by_cases e : k = n
    · subst e
      rw [if_neg (by rintro (q | q); exact Int32.lt_irrefl q; omega)]
      have := l_cnt_le K k k
      omega
    · have := l_cnt_lt K k n (by omega)
      split <;> omega
theorem k_tri (K : Nat → Int32) {i k : Nat} (h : i ≠ k) : k_lt K i k ∨ k_lt K k i := by
  unfold k_lt
  rcases Int32.lt_or_le (K i) (K k) with q | q
  · exact Or.inl (Or.inl q)
  · rcases Int32.lt_or_eq_of_le q with q | q
    · exact Or.inr (Or.inl q)
    · rcases Nat.lt_or_gt_of_ne h with g | g
      · exact Or.inl (Or.inr ⟨q.symm, g⟩)
      · exact Or.inr (Or.inr ⟨q, g⟩)
theorem k_trans (K : Nat → Int32) {i j k : Nat} (h : k_lt K i j) (g : k_lt K j k) : k_lt K i k := by
  unfold k_lt at h g ⊢
  rcases h with h | ⟨h, h2⟩
  · rcases g with g | ⟨g, g2⟩
    · exact Or.inl (Int32.lt_trans h g)
    · exact Or.inl (g ▸ h)
  · rcases g with g | ⟨g, g2⟩
    · exact Or.inl (h ▸ g)
    · exact Or.inr ⟨h.trans g, by omega⟩
theorem k_irr (K : Nat → Int32) (k : Nat) : ¬ k_lt K k k := by
  rintro (q | q)
  · exact Int32.lt_irrefl q
  · omega
theorem l_cnt_mono (K : Nat → Int32) {a b : Nat} (h : k_lt K a b) : ∀ n, l_cnt K a n ≤ l_cnt K b n ∧ (a < n → l_cnt K a n < l_cnt K b n)
  | 0 => ⟨Nat.le_refl 0, fun h => by omega⟩
  | n + 1 => by
    obtain ⟨h1, h2⟩ := l_cnt_mono K h n
    unfold l_cnt
    by_cases c : k_lt K n a
    · rw [if_pos (show K n < K a ∨ (K n = K a ∧ n < a) from c), if_pos (show K n < K b ∨ (K n = K b ∧ n < b) from k_trans K c h)]
      refine ⟨by omega, fun q => ?_⟩
      have : a ≠ n := fun e => k_irr K n (e ▸ c)
      have := h2 (by omega)
      omega
    · rw [if_neg (show ¬ (K n < K a ∨ (K n = K a ∧ n < a)) from c)]
      by_cases e : a = n
      · subst e
        rw [if_pos (show K a < K b ∨ (K a = K b ∧ a < b) from h)]
        omega
      · refine ⟨by split <;> omega, fun q => ?_⟩
        have := h2 (by omega)
        split <;> omega
theorem l_cnt_inj (K : Nat → Int32) {a b n : Nat} (ha : a < n) (hb : b < n) (e : l_cnt K a n = l_cnt K b n) : a = b := by
  by_cases q : a = b
  · exact q
  · rcases k_tri K q with h | h
    · have := (l_cnt_mono K h n).2 ha
      omega
    · have := (l_cnt_mono K h n).2 hb
      omega
/-- numbers that stand in the keys' order -/
def k_srt (K : Nat → Int32) (Q : Nat → Nat) (n : Nat) : Prop := ∀ j, j < n → Q j < n ∧ l_cnt K (Q j) n = j
theorem k_srt_lt {K : Nat → Int32} {Q : Nat → Nat} {n i j : Nat} (h : k_srt K Q n) (hi : i < j) (hj : j < n) : k_lt K (Q i) (Q j) := by
  obtain ⟨a1, a2⟩ := h i (by omega)
  obtain ⟨b1, b2⟩ := h j hj
  have hne : Q i ≠ Q j := fun e => by rw [e] at a2; omega
  rcases k_tri K hne with q | q
  · exact q
  · have := (l_cnt_mono K q n).1
    omega
/-- a number more: those behind its place go up by one -/
theorem k_srt_ins {K : Nat → Int32} {Q Q2 : Nat → Nat} {n a : Nat} (h : k_srt K Q n) (ha : a ≤ n) (hlo : ∀ j, j < a → ¬ K n < K (Q j)) (hhi : ∀ j, a ≤ j → j < n → K n < K (Q j)) (e1 : ∀ j, j < a → Q2 j = Q j) (e2 : Q2 a = n) (e3 : ∀ j, a < j → j ≤ n → Q2 j = Q (j - 1)) : k_srt K Q2 (n + 1) := by
  have key : ∀ k, k < n → (k_lt K k n ↔ l_cnt K k n < a) := by
    intro k hk
    have hj := l_cnt_lt K k n hk
    have hQ : Q (l_cnt K k n) = k := l_cnt_inj K (h _ hj).1 hk (h _ hj).2
    by_cases c : l_cnt K k n < a
    · refine ⟨fun _ => c, fun _ => ?_⟩
      have := hlo _ c
      rw [hQ] at this
      rcases Int32.lt_or_eq_of_le (Int32.not_lt.mp this) with q | q
      · exact Or.inl q
      · exact Or.inr ⟨q, hk⟩
    · refine ⟨fun q => ?_, fun q => absurd q c⟩
      have := hhi _ (Nat.not_lt.mp c) hj
      rw [hQ] at this
      rcases q with q | ⟨q, -⟩
      · exact absurd (Int32.lt_trans this q) (fun z => Int32.lt_irrefl z)
      · exact absurd (q ▸ this) (fun z => Int32.lt_irrefl z)
  have cn : l_cnt K n (n + 1) = a := by
    have e0 : l_cnt K n (n + 1) = l_cnt K n n := by
      conv => lhs; unfold l_cnt
      rw [if_neg (show ¬ (K n < K n ∨ (K n = K n ∧ n < n)) from k_irr K n)]
      rfl
    rw [e0]
    -- against the ones at the places 0 .. a - 1
    have up : a ≤ l_cnt K n n := by
      by_cases a0 : a = 0
      · omega
      · have hk := h (a - 1) (by omega)
        have := (key _ hk.1).mpr (by rw [hk.2]; omega)
        have := (l_cnt_mono K this n).2 hk.1
        omega
    have dn : l_cnt K n n ≤ a := by
      by_cases an : a = n
      · rw [an]; exact l_cnt_le K n n
      · have hk := h a (by omega)
        have hn : ¬ k_lt K (Q a) n := fun q => by have := (key _ hk.1).mp q; omega
        have hne : Q a ≠ n := by omega
        rcases k_tri K hne with q | q
        · exact absurd q hn
        · have := (l_cnt_mono K q n).1
          omega
    omega
  have ck : ∀ k, k < n → l_cnt K k (n + 1) = l_cnt K k n + (if l_cnt K k n < a then 0 else 1) := by
    intro k hk
    conv => lhs; unfold l_cnt
    by_cases c : l_cnt K k n < a
    · have q := (key k hk).mpr c
      rw [if_pos c, if_neg (show ¬ (K n < K k ∨ (K n = K k ∧ n < k)) from fun z => k_irr K k (k_trans K q z))]
    · have hne : k ≠ n := by omega
      rcases k_tri K hne with q | q
      · exact absurd ((key k hk).mp q) c
      · rw [if_neg c, if_pos (show K n < K k ∨ (K n = K k ∧ n < k) from q)]
  intro j hj
  rcases Nat.lt_trichotomy j a with c | c | c
  · rw [e1 j c]
    obtain ⟨h1, h2⟩ := h j (by omega)
    refine ⟨by omega, ?_⟩
    rw [ck _ h1, h2, if_pos c]
    omega
  · subst c
    rw [e2]
    exact ⟨by omega, cn⟩
  · rw [e3 j c (by omega)]
    obtain ⟨h1, h2⟩ := h (j - 1) (by omega)
    refine ⟨by omega, ?_⟩
    rw [ck _ h1, h2, if_neg (by omega)]
    omega
/-- there is such an order -/
theorem k_srt_ex (K : Nat → Int32) : ∀ n, ∃ Q, k_srt K Q n
  | 0 => ⟨fun _ => 0, fun j hj => by omega⟩
  | n + 1 => by
    obtain ⟨Q, h⟩ := k_srt_ex K n
    obtain ⟨a, ⟨ha, hhi⟩, hmin⟩ := pk_least (fun a => a ≤ n ∧ ∀ j, a ≤ j → j < n → K n < K (Q j)) ⟨n, Nat.le_refl n, fun j h1 h2 => by omega⟩
    refine ⟨fun j => if j < a then Q j else if j = a then n else Q (j - 1), k_srt_ins h ha (fun j hj q => ?_) hhi (fun j hj => if_pos hj) ?_ (fun j hj _ => ?_)⟩
    · refine hmin j hj ⟨by omega, fun i h1 h2 => ?_⟩
      by_cases e : i = j
      · rw [e]; exact q
      · rcases k_srt_lt h (show j < i by omega) h2 with z | z
        · exact Int32.lt_trans q z
        · rw [← z.1]; exact q
    · show (if a < a then Q a else if a = a then n else Q (a - 1)) = n
      rw [if_neg (Nat.lt_irrefl a), if_pos rfl]
    · show (if j < a then Q j else if j = a then n else Q (j - 1)) = Q (j - 1)
      rw [if_neg (by omega), if_neg (by omega)]
/-- which one stands at a place -/
def l_find (K : Nat → Int32) (n j : Nat) : Nat → Nat
  | 0 => 0
  | i + 1 => if l_cnt K i n = j then i else l_find K n j i
theorem l_find_eq {K : Nat → Int32} {n k : Nat} (hk : k < n) : ∀ m, k < m → m ≤ n → l_find K n (l_cnt K k n) m = k
  | 0, h, _ => by omega
  | m + 1, h, hm => by
    unfold l_find
    by_cases e : m = k
    · rw [e, if_pos rfl]
    · rw [if_neg (fun q => e (l_cnt_inj K (by omega) hk q))]
      exact l_find_eq hk m (by omega) (by omega)
def l_mv (K : Nat → Int32) (n : Nat) : Nat → Int32
  | 0 => 0
  | k + 1 => l_mv K n k + (if l_cnt K k n = k then 0 else 1)
def l_put (q : Nat) (J : Nat → Int32) : Nat → tr_S → tr_S
  | 0, S => S
  | k + 1, S => sA (l_put q J k S) 3 (10 * q + k) (J k)
theorem l_put_eq {S T : tr_S} (h : e_eq S T) (q : Nat) (J : Nat → Int32) : ∀ n, e_eq (l_put q J n S) (l_put q J n T)
  | 0 => h
  | n + 1 => e_eq_A (l_put_eq h q J n) 3 _ (by decide) rfl
theorem l_put_hi (q : Nat) (J : Nat → Int32) (S : tr_S) : ∀ n, e_hi S (l_put q J n S)
  | 0 => e_hi.rf S
  | n + 1 => e_hi_A (l_put_hi q J S n) (by decide) _ _
def f_order (q z : Nat) (a : (Nat → Int32) × tr_S) : Int32 × tr_S := if a.2.1 16 = 0 then f_ends (l_mv a.1 z z) (l_put q (fun j => a.2.2 3 (10 * q + l_find a.1 z j z)) z a.2) else f_ends 0 a.2
def a_order (r y : Int32) (S : tr_S) : Int32 × tr_S := if (0 ≤ r ∧ r ≤ S.1 4 - 1) ∧ (0 ≤ y ∧ y ≤ 3) then (if 0 ≤ S.2 1 y.toNatClampNeg then f_order (S.2 1 y.toNatClampNeg).toNatClampNeg (S.2 2 (S.2 1 y.toNatClampNeg).toNatClampNeg).toNatClampNeg (l_keys r (S.2 1 y.toNatClampNeg).toNatClampNeg (S.2 2 (S.2 1 y.toNatClampNeg).toNatClampNeg).toNatClampNeg 0 (fun _ => 0) (e_start S)) else (-13, S)) else (-1, S)
end
section
theorem l_put_2 {S : tr_S} (q : Nat) (J : Nat → Int32) : ∀ n, (l_put q J n S).2 2 = S.2 2
  | 0 => rfl
  | n + 1 => by
    show (l_put q J n S).2 2 = S.2 2
    exact l_put_2 q J n
set_option maxHeartbeats 4000000 in
set_option maxRecDepth 100000 in
theorem c_X3_order (l : Launch) (D : va_G) (o : Nat) (ad : Nat → Nat) (cA : ClassId) (S0 : tr_S) (r y : Int32) (N : Nat) (hN : wf S0 N) : m_Mi l yX3_order wsX3_order { frames := 5, cells := 0, slots := 0, locals := 120 } [.int r, .int y] D o ad cA S0 (fun v S => e_R (a_order r y S0) (v, S)) := by
  refine Met.ofW (cc := cX3_order) (maxL := 8) (ret := (some .int)) (by decide) rfl ?_
  intro p e s m args below meth c s₁ B hml hv
  obtain ⟨rfl, hB⟩ := hv
  have hx := B.exec
  have hb := B.bytes
  have hr := B.returns
  have hts := atoms_spec (ws := wsX3_order) B.pre
  have hown : s.vm.findClass RX3 = some m.cls := findClass_of_methodNamed B.named
  have hlocks := B.notSynchronized
  have I := m_I.of hB
  have hin : ∀ w ∈ wsX30, w ∈ wsX3_order := fun _ h => List.mem_cons_of_mem _ (List.mem_append_right _ h)
  have L13 := hts (.fieldLink RX3 13 "TollRulesModel" "rowOf" "[I") (by decide +kernel)
  have L16 := hts (.fieldLink RX3 16 "TollRulesModel" "size" "[I") (by decide +kernel)
  have L19 := hts (.fieldLink RX3 19 "TollRulesModel" "item" "[I") (by decide +kernel)
  have L56 := hts (.fieldLink RX3 56 "TollRulesModel" "keys" "[I") (by decide +kernel)
  have L62 := hts (.fieldLink RX3 62 "TollRulesModel" "had" "[I") (by decide +kernel)
  have hl := lv_entry ([.ref o, .int r, .int y]) (n := 8) (Nat.le_of_ble_eq_true rfl)
  rw [lg_entry_eq]
  generalize (lg_sl ([.ref o, .int r, .int y]) ++ List.replicate (8 - (lg_sl ([.ref o, .int r, .int y])).length) Slot.unset).toArray = ls at hl ⊢
  have hl : lv_has ls 8 [(0, .ref o), (1, .int r), (2, .int y)] := hl
  have L3 : ∀ (q z : Nat) (K : Nat → Int32) (SA : tr_S), q < 48 → z ≤ 10 → SA.2 2 q = nI z → a_order r y S0 = f_ends (l_mv K z z) (l_put q (fun j => SA.2 3 (10 * q + l_find K z j z)) z SA) → ∀ (S : tr_S), e_eq SA S → (∀ j, j < z → S.2 29 j = (fun j => SA.2 3 (10 * q + l_find K z j z)) j) → ∀ (d k : Nat), z - k < d → k ≤ z → ∀ (H : Heap) (locs : List Loc) (ls : Array Slot), m_I D o ad cA (l_put q (fun j => SA.2 3 (10 * q + l_find K z j z)) k S) s s.heap H locs → lv_has ls 8 [(5, .int (nI k)), (4, .int (l_mv K z z)), (0, .ref o), (1, .int r), (2, .int y), (3, .int (nI q))] → W p l e (headSpec wsX3_order { frames := 5, cells := 0, slots := 0, locals := 120 }).room s m (([.ref o, .int r, .int y] : List Value).toArray) below meth c H locs 0 0 (MQ below (va_Qi (fun v S => e_R (a_order r y S0) (v, S)) (m_B D o ad cA) (m_A o ad)) (([.ref o, .int r, .int y] : List Value).toArray) s 0 0 (m_A o ad)) (F0 m 183 ls []) := by
    intro q z K SA hqq hz10 hz hT
    intro S hS hF d
    induction d with
    | zero => intro k hk; omega
    | succ d ih =>
      intro k hd hkz H locs ls I hl
      have hz2 : (l_put q (fun j => SA.2 3 (10 * q + l_find K z j z)) k S).2 2 q = nI z := by rw [(l_put_eq hS q (fun j => SA.2 3 (10 * q + l_find K z j z)) k).2 2 (by decide), l_put_2]; exact hz
      refine lv_iload hx hb dX3_order_183 (lv_at hl 0 rfl) ?_
      refine lv_aload_n hx hb dX3_order_185 rfl (lv_at hl 2 rfl) ?_
      refine m_get2 hx hb hts hin hown I L16 dX3_order_186 ?_
      refine lv_iload_n hx hb dX3_order_189 rfl (lv_at hl 5 rfl) ?_
      refine m_ald2 hx hb I (vp_in_nI hqq (by decide)) dX3_order_190 (x := (l_put q (fun j => SA.2 3 (10 * q + l_find K z j z)) k S).2 2 q) (by rw [nI_clamp (show q < 2 ^ 31 by omega)] <;> rfl) ?_
      refine lv_icmp_ge (tgt := 219) hx hb dX3_order_191 (by decide) (fun c191 => ?_) (fun c191 => ?_)
      · refine lv_aload_n hx hb dX3_order_219 rfl (lv_at hl 2 rfl) ?_
        refine lv_iload hx hb dX3_order_220 (lv_at hl 1 rfl) ?_
        refine m_calli (rest := []) ⟨hx, hb, hml, hown, hts⟩ (c_X3_ends l D o ad cA (l_put q (fun j => SA.2 3 (10 * q + l_find K z j z)) k S) (l_mv K z z)) (cwV 1 hts gX3_order_X3_ends rfl rfl rfl (by decide +kernel) ⟨Nat.le_of_ble_eq_true rfl, Nat.le_of_ble_eq_true rfl⟩) I rfl hl.1 rfl (Nat.le_of_ble_eq_true rfl) dX3_order_222 ⟨Nat.le_refl _, Nat.le_refl _⟩ (fun r222 S222 H locs p222 I => ?_)
        have hk : z ≤ k := nI_lb (by omega) (by omega) (by rw [← hz2]; exact c191)
        rw [show k = z by omega] at p222
        refine m_iret hx hb hr hlocks I dX3_order_225 ?_
        rw [hT, p222]
        exact f_ends_eq (l_put_eq hS q (fun j => SA.2 3 (10 * q + l_find K z j z)) z) _
      · have hk : k < z := nI_ub (by omega) (by omega) (by rw [← hz2]; exact c191)
        refine lv_aload_n hx hb dX3_order_194 rfl (lv_at hl 2 rfl) ?_
        refine m_get3 hx hb hts hin hown I L19 dX3_order_195 ?_
        refine lv_bipush (v := 10) hx hb dX3_order_198 (by decide) ?_
        refine lv_iload_n hx hb dX3_order_200 rfl (lv_at hl 5 rfl) ?_
        refine lv_imul hx hb dX3_order_201 ?_
        refine lv_iload hx hb dX3_order_202 (lv_at hl 0 rfl) ?_
        refine lv_iadd hx hb dX3_order_204 ?_
        refine lv_aload_n hx hb dX3_order_205 rfl (lv_at hl 2 rfl) ?_
        refine m_get29 hx hb hts hin hown I L62 dX3_order_206 ?_
        refine lv_iload hx hb dX3_order_209 (lv_at hl 0 rfl) ?_
        refine m_ald29 hx hb I (vp_in_nI (by omega) (by decide)) dX3_order_211 (x := (l_put q (fun j => SA.2 3 (10 * q + l_find K z j z)) k S).2 29 k) (by rw [nI_clamp (show k < 2 ^ 31 by omega)] <;> rfl) ?_
        refine m_ast3 hx hb I (ix_480 hqq (by omega)) dX3_order_212 (fun H locs I => ?_)
        rw [nI_10 (q := q) (k := k) (by omega)] at I
        refine lv_iinc (v := (nI k) + 1) (lv' := [(5, .int ((nI k) + 1)), (4, .int (l_mv K z z)), (0, .ref o), (1, .int r), (2, .int y), (3, .int (nI q))]) hx hb dX3_order_213 hl (k := 0) rfl rfl (by decide) rfl (fun ls hl => ?_)
        refine lv_goto (tgt := 183) hx hb dX3_order_216 (by decide) ?_
        have hl := lv_sub hl [0, 1, 2, 3, 4, 5] rfl
        rw [nI_1] at hl
        rw [show (l_put q (fun j => SA.2 3 (10 * q + l_find K z j z)) k S).2 29 k = (fun j => SA.2 3 (10 * q + l_find K z j z)) k by rw [l_put_hi q (fun j => SA.2 3 (10 * q + l_find K z j z)) S k 29 (by decide)]; exact hF k hk] at I
        exact ih (k + 1) (by omega) (by omega) H locs ls I hl
  have L2 : ∀ (q z : Nat) (K : Nat → Int32) (SA : tr_S), q < 48 → z ≤ 10 → SA.2 2 q = nI z → a_order r y S0 = f_ends (l_mv K z z) (l_put q (fun j => SA.2 3 (10 * q + l_find K z j z)) z SA) → ∀ (S : tr_S) (k : Nat) (mv : Int32), k < z → S.2 2 q = nI z → (∀ j, j < z → S.2 27 j = K j) → (∀ (H : Heap) (locs : List Loc) (ls : Array Slot), m_I D o ad cA S s s.heap H locs → lv_has ls 8 [(7, .int (nI z)), (6, .int (nI (l_cnt K k z))), (5, .int (nI k)), (4, .int mv), (0, .ref o), (1, .int r), (2, .int y), (3, .int (nI q))] → W p l e (headSpec wsX3_order { frames := 5, cells := 0, slots := 0, locals := 120 }).room s m (([.ref o, .int r, .int y] : List Value).toArray) below meth c H locs 0 0 (MQ below (va_Qi (fun v S => e_R (a_order r y S0) (v, S)) (m_B D o ad cA) (m_A o ad)) (([.ref o, .int r, .int y] : List Value).toArray) s 0 0 (m_A o ad)) (F0 m 138 ls [])) → ∀ (d i : Nat), z - i < d → i ≤ z → ∀ (H : Heap) (locs : List Loc) (ls : Array Slot), m_I D o ad cA S s s.heap H locs → lv_has ls 8 [(7, .int (nI i)), (6, .int (nI (l_cnt K k i))), (5, .int (nI k)), (4, .int mv), (0, .ref o), (1, .int r), (2, .int y), (3, .int (nI q))] → W p l e (headSpec wsX3_order { frames := 5, cells := 0, slots := 0, locals := 120 }).room s m (([.ref o, .int r, .int y] : List Value).toArray) below meth c H locs 0 0 (MQ below (va_Qi (fun v S => e_R (a_order r y S0) (v, S)) (m_B D o ad cA) (m_A o ad)) (([.ref o, .int r, .int y] : List Value).toArray) s 0 0 (m_A o ad)) (F0 m 70 ls []) := by
    intro q z K SA hqq hz10 hz hT
    intro S k mv hk hz2 hK K1 d
    induction d with
    | zero => intro i hi; omega
    | succ d ih =>
      intro i hd hiz H locs ls I hl
      refine lv_iload hx hb dX3_order_70 (lv_at hl 0 rfl) ?_
      refine lv_aload_n hx hb dX3_order_72 rfl (lv_at hl 4 rfl) ?_
      refine m_get2 hx hb hts hin hown I L16 dX3_order_73 ?_
      refine lv_iload_n hx hb dX3_order_76 rfl (lv_at hl 7 rfl) ?_
      refine m_ald2 hx hb I (vp_in_nI hqq (by decide)) dX3_order_77 (x := S.2 2 q) (by rw [nI_clamp (show q < 2 ^ 31 by omega)] <;> rfl) ?_
      refine lv_icmp_ge (tgt := 138) hx hb dX3_order_78 (by decide) (fun c78 => ?_) (fun c78 => ?_)
      · have hi : z ≤ i := nI_lb (by omega) (by omega) (by rw [← hz2]; exact c78)
        rw [show i = z by omega] at hl
        exact K1 H locs ls I hl
      · have hi : i < z := nI_ub (by omega) (by omega) (by rw [← hz2]; exact c78)
        refine lv_iload hx hb dX3_order_81 (lv_at hl 1 rfl) ?_
        refine lv_aload_n hx hb dX3_order_83 rfl (lv_at hl 4 rfl) ?_
        refine m_get27 hx hb hts hin hown I L56 dX3_order_84 ?_
        refine lv_iload hx hb dX3_order_87 (lv_at hl 0 rfl) ?_
        refine m_ald27 hx hb I (vp_in_nI (by omega) (by decide)) dX3_order_89 (x := S.2 27 i) (by rw [nI_clamp (show i < 2 ^ 31 by omega)] <;> rfl) ?_
        refine lv_aload_n hx hb dX3_order_90 rfl (lv_at hl 4 rfl) ?_
        refine m_get27 hx hb hts hin hown I L56 dX3_order_91 ?_
        refine lv_iload hx hb dX3_order_94 (lv_at hl 2 rfl) ?_
        refine m_ald27 hx hb I (vp_in_nI (by omega) (by decide)) dX3_order_96 (x := S.2 27 k) (by rw [nI_clamp (show k < 2 ^ 31 by omega)] <;> rfl) ?_
        refine lv_icmp_lt (tgt := 124) hx hb dX3_order_97 (by decide) (fun c97 => ?_) (fun c97 => ?_)
        · refine lv_iconst (v := 1) hx hb dX3_order_124 (by decide) ?_
          refine lv_goto (tgt := 129) hx hb dX3_order_125 (by decide) ?_
          refine lv_iadd hx hb dX3_order_129 ?_
          refine lv_istore (lv' := [(6, .int ((nI (l_cnt K k i)) + 1)), (7, .int (nI i)), (5, .int (nI k)), (4, .int mv), (0, .ref o), (1, .int r), (2, .int y), (3, .int (nI q))]) hx hb dX3_order_130 hl (by decide) rfl (fun ls hl => ?_)
          refine lv_iinc (v := (nI i) + 1) (lv' := [(7, .int ((nI i) + 1)), (6, .int ((nI (l_cnt K k i)) + 1)), (5, .int (nI k)), (4, .int mv), (0, .ref o), (1, .int r), (2, .int y), (3, .int (nI q))]) hx hb dX3_order_132 hl (k := 1) rfl rfl (by decide) rfl (fun ls hl => ?_)
          refine lv_goto (tgt := 70) hx hb dX3_order_135 (by decide) ?_
          have hl := lv_sub hl [0, 1, 2, 3, 4, 5, 6, 7] rfl
          rw [hK i hi, hK k hk] at c97
          have eC : l_cnt K k (i + 1) = l_cnt K k i + 1 := by
            conv => lhs; unfold l_cnt
            rw [if_pos (Or.inl c97)]
          rw [nI_1 i, nI_1 (l_cnt K k i), ← eC] at hl
          exact ih (i + 1) (by omega) (by omega) H locs ls I hl
        · refine lv_aload_n hx hb dX3_order_100 rfl (lv_at hl 4 rfl) ?_
          refine m_get27 hx hb hts hin hown I L56 dX3_order_101 ?_
          refine lv_iload hx hb dX3_order_104 (lv_at hl 0 rfl) ?_
          refine m_ald27 hx hb I (vp_in_nI (by omega) (by decide)) dX3_order_106 (x := S.2 27 i) (by rw [nI_clamp (show i < 2 ^ 31 by omega)] <;> rfl) ?_
          refine lv_aload_n hx hb dX3_order_107 rfl (lv_at hl 4 rfl) ?_
          refine m_get27 hx hb hts hin hown I L56 dX3_order_108 ?_
          refine lv_iload hx hb dX3_order_111 (lv_at hl 2 rfl) ?_
          refine m_ald27 hx hb I (vp_in_nI (by omega) (by decide)) dX3_order_113 (x := S.2 27 k) (by rw [nI_clamp (show k < 2 ^ 31 by omega)] <;> rfl) ?_
          refine lv_icmp_ne (tgt := 128) hx hb dX3_order_114 (by decide) (fun c114 => ?_) (fun c114 => ?_)
          · refine lv_iconst (v := 0) hx hb dX3_order_128 (by decide) ?_
            refine lv_iadd hx hb dX3_order_129 ?_
            refine lv_istore (lv' := [(6, .int ((nI (l_cnt K k i)) + 0)), (7, .int (nI i)), (5, .int (nI k)), (4, .int mv), (0, .ref o), (1, .int r), (2, .int y), (3, .int (nI q))]) hx hb dX3_order_130 hl (by decide) rfl (fun ls hl => ?_)
            refine lv_iinc (v := (nI i) + 1) (lv' := [(7, .int ((nI i) + 1)), (6, .int ((nI (l_cnt K k i)) + 0)), (5, .int (nI k)), (4, .int mv), (0, .ref o), (1, .int r), (2, .int y), (3, .int (nI q))]) hx hb dX3_order_132 hl (k := 1) rfl rfl (by decide) rfl (fun ls hl => ?_)
            refine lv_goto (tgt := 70) hx hb dX3_order_135 (by decide) ?_
            have hl := lv_sub hl [0, 1, 2, 3, 4, 5, 6, 7] rfl
            rw [hK i hi, hK k hk] at c97
            rw [hK i hi, hK k hk] at c114
            have eC : l_cnt K k (i + 1) = l_cnt K k i := by
              conv => lhs; unfold l_cnt
              rw [if_neg (fun q => q.elim c97 (fun q => c114 q.1))]; rfl
            rw [nI_1 i, Int32.add_zero, ← eC] at hl
            exact ih (i + 1) (by omega) (by omega) H locs ls I hl
          · refine lv_iload hx hb dX3_order_117 (lv_at hl 0 rfl) ?_
            refine lv_iload hx hb dX3_order_119 (lv_at hl 2 rfl) ?_
            refine lv_icmp_ge (tgt := 128) hx hb dX3_order_121 (by decide) (fun c121 => ?_) (fun c121 => ?_)
            · refine lv_iconst (v := 0) hx hb dX3_order_128 (by decide) ?_
              refine lv_iadd hx hb dX3_order_129 ?_
              refine lv_istore (lv' := [(6, .int ((nI (l_cnt K k i)) + 0)), (7, .int (nI i)), (5, .int (nI k)), (4, .int mv), (0, .ref o), (1, .int r), (2, .int y), (3, .int (nI q))]) hx hb dX3_order_130 hl (by decide) rfl (fun ls hl => ?_)
              refine lv_iinc (v := (nI i) + 1) (lv' := [(7, .int ((nI i) + 1)), (6, .int ((nI (l_cnt K k i)) + 0)), (5, .int (nI k)), (4, .int mv), (0, .ref o), (1, .int r), (2, .int y), (3, .int (nI q))]) hx hb dX3_order_132 hl (k := 1) rfl rfl (by decide) rfl (fun ls hl => ?_)
              refine lv_goto (tgt := 70) hx hb dX3_order_135 (by decide) ?_
              have hl := lv_sub hl [0, 1, 2, 3, 4, 5, 6, 7] rfl
              rw [hK i hi, hK k hk] at c97
              rw [hK i hi, hK k hk] at c114
              have eC : l_cnt K k (i + 1) = l_cnt K k i := by
                conv => lhs; unfold l_cnt
                rw [if_neg (fun q => q.elim c97 (fun q => by have := nI_lb (by omega) (by omega) c121; omega))]; rfl
              rw [nI_1 i, Int32.add_zero, ← eC] at hl
              exact ih (i + 1) (by omega) (by omega) H locs ls I hl
            · refine lv_iconst (v := 1) hx hb dX3_order_124 (by decide) ?_
              refine lv_goto (tgt := 129) hx hb dX3_order_125 (by decide) ?_
              refine lv_iadd hx hb dX3_order_129 ?_
              refine lv_istore (lv' := [(6, .int ((nI (l_cnt K k i)) + 1)), (7, .int (nI i)), (5, .int (nI k)), (4, .int mv), (0, .ref o), (1, .int r), (2, .int y), (3, .int (nI q))]) hx hb dX3_order_130 hl (by decide) rfl (fun ls hl => ?_)
              refine lv_iinc (v := (nI i) + 1) (lv' := [(7, .int ((nI i) + 1)), (6, .int ((nI (l_cnt K k i)) + 1)), (5, .int (nI k)), (4, .int mv), (0, .ref o), (1, .int r), (2, .int y), (3, .int (nI q))]) hx hb dX3_order_132 hl (k := 1) rfl rfl (by decide) rfl (fun ls hl => ?_)
              refine lv_goto (tgt := 70) hx hb dX3_order_135 (by decide) ?_
              have hl := lv_sub hl [0, 1, 2, 3, 4, 5, 6, 7] rfl
              rw [hK i hi, hK k hk] at c97
              rw [hK i hi, hK k hk] at c114
              have eC : l_cnt K k (i + 1) = l_cnt K k i + 1 := by
                conv => lhs; unfold l_cnt
                rw [if_pos (Or.inr ⟨c114, nI_ub (by omega) (by omega) c121⟩)]
              rw [nI_1 i, nI_1 (l_cnt K k i), ← eC] at hl
              exact ih (i + 1) (by omega) (by omega) H locs ls I hl
  have L1 : ∀ (q z : Nat) (K : Nat → Int32) (SA : tr_S), q < 48 → z ≤ 10 → SA.2 2 q = nI z → a_order r y S0 = f_ends (l_mv K z z) (l_put q (fun j => SA.2 3 (10 * q + l_find K z j z)) z SA) → ∀ (d k : Nat), z - k < d → k ≤ z → ∀ (S : tr_S), e_eq SA S → (∀ j, j < z → S.2 27 j = K j) → (∀ j, j < k → S.2 29 (l_cnt K j z) = SA.2 3 (10 * q + j)) → ∀ (H : Heap) (locs : List Loc) (ls : Array Slot), m_I D o ad cA S s s.heap H locs → lv_has ls 8 [(5, .int (nI k)), (4, .int (l_mv K z k)), (0, .ref o), (1, .int r), (2, .int y), (3, .int (nI q))] → W p l e (headSpec wsX3_order { frames := 5, cells := 0, slots := 0, locals := 120 }).room s m (([.ref o, .int r, .int y] : List Value).toArray) below meth c H locs 0 0 (MQ below (va_Qi (fun v S => e_R (a_order r y S0) (v, S)) (m_B D o ad cA) (m_A o ad)) (([.ref o, .int r, .int y] : List Value).toArray) s 0 0 (m_A o ad)) (F0 m 53 ls []) := by
    intro q z K SA hqq hz10 hz hT
    intro d
    induction d with
    | zero => intro k hk; omega
    | succ d ih =>
      intro k hd hkz S hS hK hF H locs ls I hl
      have hz2 : S.2 2 q = nI z := by rw [hS.2 2 (by decide)]; exact hz
      refine lv_iload hx hb dX3_order_53 (lv_at hl 0 rfl) ?_
      refine lv_aload_n hx hb dX3_order_55 rfl (lv_at hl 2 rfl) ?_
      refine m_get2 hx hb hts hin hown I L16 dX3_order_56 ?_
      refine lv_iload_n hx hb dX3_order_59 rfl (lv_at hl 5 rfl) ?_
      refine m_ald2 hx hb I (vp_in_nI hqq (by decide)) dX3_order_60 (x := S.2 2 q) (by rw [nI_clamp (show q < 2 ^ 31 by omega)] <;> rfl) ?_
      refine lv_icmp_ge (tgt := 180) hx hb dX3_order_61 (by decide) (fun c61 => ?_) (fun c61 => ?_)
      · have hk : z ≤ k := nI_lb (by omega) (by omega) (by rw [← hz2]; exact c61)
        rw [show k = z by omega] at hl hF
        have hFz : ∀ j, j < z → S.2 29 j = (fun j => SA.2 3 (10 * q + l_find K z j z)) j := by
          intro j hj
          obtain ⟨Q, hQ⟩ := k_srt_ex K z
          obtain ⟨q1, q2⟩ := hQ j hj
          have e1 := hF (Q j) q1
          rw [q2] at e1
          rw [e1]
          have e9 := l_find_eq (K := K) q1 z q1 (Nat.le_refl z)
          rw [q2] at e9
          show SA.2 3 (10 * q + Q j) = SA.2 3 (10 * q + l_find K z j z)
          rw [e9]
        refine lv_iconst (v := 0) hx hb dX3_order_180 (by decide) ?_
        refine lv_istore (lv' := [(5, .int 0), (4, .int (l_mv K z z)), (0, .ref o), (1, .int r), (2, .int y), (3, .int (nI q))]) hx hb dX3_order_181 hl (by decide) rfl (fun ls hl => ?_)
        exact L3 q z K SA hqq hz10 hz hT S hS hFz (z + 1) 0 (by omega) (by omega) H locs ls I (lv_sub hl [0, 1, 2, 3, 4, 5] rfl)
      · have hk : k < z := nI_ub (by omega) (by omega) (by rw [← hz2]; exact c61)
        refine lv_iconst (v := 0) hx hb dX3_order_64 (by decide) ?_
        refine lv_istore (lv' := [(6, .int 0), (5, .int (nI k)), (4, .int (l_mv K z k)), (0, .ref o), (1, .int r), (2, .int y), (3, .int (nI q))]) hx hb dX3_order_65 hl (by decide) rfl (fun ls hl => ?_)
        refine lv_iconst (v := 0) hx hb dX3_order_67 (by decide) ?_
        refine lv_istore (lv' := [(7, .int 0), (6, .int 0), (5, .int (nI k)), (4, .int (l_mv K z k)), (0, .ref o), (1, .int r), (2, .int y), (3, .int (nI q))]) hx hb dX3_order_68 hl (by decide) rfl (fun ls hl => ?_)
        have hcz := l_cnt_lt K k z hk
        refine L2 q z K SA hqq hz10 hz hT S k (l_mv K z k) hk hz2 hK (fun H locs ls I hl => ?_) (z + 1) 0 (by omega) (by omega) H locs ls I (lv_sub hl [0, 1, 2, 3, 4, 5, 6, 7] rfl)
        refine lv_aload_n hx hb dX3_order_138 rfl (lv_at hl 4 rfl) ?_
        refine m_get29 hx hb hts hin hown I L62 dX3_order_139 ?_
        refine lv_iload hx hb dX3_order_142 (lv_at hl 1 rfl) ?_
        refine lv_aload_n hx hb dX3_order_144 rfl (lv_at hl 4 rfl) ?_
        refine m_get3 hx hb hts hin hown I L19 dX3_order_145 ?_
        refine lv_bipush (v := 10) hx hb dX3_order_148 (by decide) ?_
        refine lv_iload_n hx hb dX3_order_150 rfl (lv_at hl 7 rfl) ?_
        refine lv_imul hx hb dX3_order_151 ?_
        refine lv_iload hx hb dX3_order_152 (lv_at hl 2 rfl) ?_
        refine lv_iadd hx hb dX3_order_154 ?_
        refine m_ald3 hx hb I (ix_480 hqq (by omega)) dX3_order_155 (x := S.2 3 (10 * q + k)) (by rw [nI_10 (q := q) (k := k) (by omega)] <;> rfl) ?_
        refine m_ast29 hx hb I (vp_in_nI (by omega) (by decide)) dX3_order_156 (fun H locs I => ?_)
        rw [nI_clamp (show l_cnt K k z < 2 ^ 31 by omega)] at I
        refine lv_iload hx hb dX3_order_157 (lv_at hl 3 rfl) ?_
        refine lv_iload hx hb dX3_order_159 (lv_at hl 1 rfl) ?_
        refine lv_iload hx hb dX3_order_161 (lv_at hl 2 rfl) ?_
        refine lv_icmp_ne (tgt := 170) hx hb dX3_order_163 (by decide) (fun c163 => ?_) (fun c163 => ?_)
        · refine lv_iconst (v := 1) hx hb dX3_order_170 (by decide) ?_
          refine lv_iadd hx hb dX3_order_171 ?_
          refine lv_istore (lv' := [(4, .int ((l_mv K z k) + 1)), (7, .int (nI z)), (6, .int (nI (l_cnt K k z))), (5, .int (nI k)), (0, .ref o), (1, .int r), (2, .int y), (3, .int (nI q))]) hx hb dX3_order_172 hl (by decide) rfl (fun ls hl => ?_)
          refine lv_iinc (v := (nI k) + 1) (lv' := [(5, .int ((nI k) + 1)), (4, .int ((l_mv K z k) + 1)), (7, .int (nI z)), (6, .int (nI (l_cnt K k z))), (0, .ref o), (1, .int r), (2, .int y), (3, .int (nI q))]) hx hb dX3_order_174 hl (k := 3) rfl rfl (by decide) rfl (fun ls hl => ?_)
          refine lv_goto (tgt := 53) hx hb dX3_order_177 (by decide) ?_
          have hl := lv_sub hl [0, 1, 4, 5, 6, 7] rfl
          have eM : l_mv K z (k + 1) = l_mv K z k + 1 := by
            conv => lhs; unfold l_mv
            rw [if_neg (fun q => c163 (by rw [q]))]
          rw [nI_1 k, ← eM] at hl
          refine ih (k + 1) (by omega) (by omega) (sA S 29 (l_cnt K k z) (S.2 3 (10 * q + k))) (e_eq_lA hS (by decide) _ _) (fun j hj => hK j hj) ?_ H locs ls I hl
          intro j hj
          rw [sA_A, if_pos rfl]
          by_cases e : j = k
          · rw [e, if_pos rfl, hS.2 3 (by decide)]
          · rw [if_neg (fun h => e (l_cnt_inj K (by omega) hk h))]; exact hF j (by omega)
        · refine lv_iconst (v := 0) hx hb dX3_order_166 (by decide) ?_
          refine lv_goto (tgt := 171) hx hb dX3_order_167 (by decide) ?_
          refine lv_iadd hx hb dX3_order_171 ?_
          refine lv_istore (lv' := [(4, .int ((l_mv K z k) + 0)), (7, .int (nI z)), (6, .int (nI (l_cnt K k z))), (5, .int (nI k)), (0, .ref o), (1, .int r), (2, .int y), (3, .int (nI q))]) hx hb dX3_order_172 hl (by decide) rfl (fun ls hl => ?_)
          refine lv_iinc (v := (nI k) + 1) (lv' := [(5, .int ((nI k) + 1)), (4, .int ((l_mv K z k) + 0)), (7, .int (nI z)), (6, .int (nI (l_cnt K k z))), (0, .ref o), (1, .int r), (2, .int y), (3, .int (nI q))]) hx hb dX3_order_174 hl (k := 3) rfl rfl (by decide) rfl (fun ls hl => ?_)
          refine lv_goto (tgt := 53) hx hb dX3_order_177 (by decide) ?_
          have hl := lv_sub hl [0, 1, 4, 5, 6, 7] rfl
          have eM : l_mv K z (k + 1) = l_mv K z k + 0 := by
            conv => lhs; unfold l_mv
            rw [if_pos ((nI_eq (by omega) (by omega)).mp c163)]
          rw [nI_1 k, ← eM] at hl
          refine ih (k + 1) (by omega) (by omega) (sA S 29 (l_cnt K k z) (S.2 3 (10 * q + k))) (e_eq_lA hS (by decide) _ _) (fun j hj => hK j hj) ?_ H locs ls I hl
          intro j hj
          rw [sA_A, if_pos rfl]
          by_cases e : j = k
          · rw [e, if_pos rfl, hS.2 3 (by decide)]
          · rw [if_neg (fun h => e (l_cnt_inj K (by omega) hk h))]; exact hF j (by omega)
  refine lv_aload_n hx hb dX3_order_0 rfl (lv_at hl 0 rfl) ?_
  refine lv_iload_n hx hb dX3_order_1 rfl (lv_at hl 1 rfl) ?_
  refine m_isRule ⟨hx, hb, hml, hown, hts⟩ gX3_order_X3_isRule ⟨Nat.le_of_ble_eq_true rfl, Nat.le_of_ble_eq_true rfl⟩ ⟨Nat.le_refl _, Nat.le_refl _⟩ I hl.1 (Nat.le_of_ble_eq_true rfl) dX3_order_2 (fun h2 H locs I => ?_) (fun h2 H locs I => ?_)
  · refine lv_if_eq (tgt := 17) hx hb dX3_order_5 (by decide) (fun h => absurd h (by decide)) (fun _ => ?_)
    refine lv_iload_n hx hb dX3_order_8 rfl (lv_at hl 2 rfl) ?_
    refine lv_iconst (v := 0) hx hb dX3_order_9 (by decide) ?_
    refine lv_iconst (v := 3) hx hb dX3_order_10 (by decide) ?_
    refine m_in ⟨hx, hb, hml, hown, hts⟩ gX3_order_X3_in ⟨Nat.le_of_ble_eq_true rfl, Nat.le_of_ble_eq_true rfl⟩ ⟨Nat.le_refl _, Nat.le_refl _⟩ hl.1 (Nat.le_of_ble_eq_true rfl) dX3_order_11 (fun h11 => ?_) (fun h11 => ?_)
    · refine lv_if_ne (tgt := 19) hx hb dX3_order_14 (by decide) (fun _ => ?_) (fun h => absurd h (by decide))
      refine lv_aload_n hx hb dX3_order_19 rfl (lv_at hl 0 rfl) ?_
      refine m_get1 hx hb hts hin hown I L13 dX3_order_20 ?_
      refine lv_iload_n hx hb dX3_order_23 rfl (lv_at hl 2 rfl) ?_
      refine m_ald1 hx hb I (ix_of h11 (by decide) (by decide)) dX3_order_24 (x := S0.2 1 y.toNatClampNeg) rfl ?_
      refine lv_if_ge (tgt := 31) hx hb dX3_order_25 (by decide) (fun c25 => ?_) (fun c25 => ?_)
      · refine lv_aload_n hx hb dX3_order_31 rfl (lv_at hl 0 rfl) ?_
        refine m_get1 hx hb hts hin hown I L13 dX3_order_32 ?_
        refine lv_iload_n hx hb dX3_order_35 rfl (lv_at hl 2 rfl) ?_
        refine m_ald1 hx hb I (ix_of h11 (by decide) (by decide)) dX3_order_36 (x := S0.2 1 y.toNatClampNeg) rfl ?_
        refine lv_istore_n (lv' := [(3, .int (S0.2 1 y.toNatClampNeg)), (0, .ref o), (1, .int r), (2, .int y)]) hx hb dX3_order_37 rfl hl (by decide) rfl (fun ls hl => ?_)
        refine lv_iconst (v := 0) hx hb dX3_order_38 (by decide) ?_
        refine lv_istore (lv' := [(4, .int 0), (3, .int (S0.2 1 y.toNatClampNeg)), (0, .ref o), (1, .int r), (2, .int y)]) hx hb dX3_order_39 hl (by decide) rfl (fun ls hl => ?_)
        obtain ⟨q, hqq, eq⟩ : ∃ q, q < 48 ∧ S0.2 1 y.toNatClampNeg = nI q := by rcases hN.2.2.2.1 _ (ix_nI (ix_of h11 (by decide) (by decide)) (by decide)).2 with h | h; exact absurd c25 (by rw [h]; decide); exact h
        obtain ⟨z, hz10, hz⟩ := hN.2.2.2.2 q hqq
        rw [eq] at hl
        have li := l_keys_ind (r := r) (q := q) z 0 (fun _ => 0) (e_start S0) (e_go.of hN)
        have eA : a_order r y S0 = f_order q z (l_keys r q z 0 (fun _ => 0) (e_start S0)) := by unfold a_order; rw [if_pos ⟨h2, h11⟩, if_pos c25, eq, nI_clamp (show q < 2 ^ 31 by omega), hz, nI_clamp (show z < 2 ^ 31 by omega)]
        refine lv_aload_n hx hb dX3_order_41 rfl (lv_at hl 2 rfl) ?_
        refine lv_iload_n hx hb dX3_order_42 rfl (lv_at hl 3 rfl) ?_
        refine lv_iload_n hx hb dX3_order_43 rfl (lv_at hl 1 rfl) ?_
        refine m_asksEach hN hqq hz10 hz (rule_of hN h2) ⟨hx, hb, hml, hown, hts⟩ gX3_order_X3_asksEach ⟨Nat.le_of_ble_eq_true rfl, Nat.le_of_ble_eq_true rfl⟩ ⟨Nat.le_refl _, Nat.le_refl _⟩ I hl.1 (Nat.le_of_ble_eq_true rfl) dX3_order_44 (fun h44 S44 H locs k44 e44 I => ?_) (fun h44 S44 H locs e44 I => ?_)
        · refine lv_if_eq (tgt := 219) hx hb dX3_order_47 (by decide) (fun h => absurd h (by decide)) (fun _ => ?_)
          refine lv_iconst (v := 0) hx hb dX3_order_50 (by decide) ?_
          refine lv_istore (lv' := [(5, .int 0), (4, .int 0), (3, .int (nI q)), (0, .ref o), (1, .int r), (2, .int y)]) hx hb dX3_order_51 hl (by decide) rfl (fun ls hl => ?_)
          exact L1 q z _ _ hqq hz10 (by rw [li.1.2.2.1]; exact hz) (by rw [eA]; unfold f_order; rw [if_pos h44]) (z + 1) 0 (by omega) (by omega) S44 e44 k44 (fun j hj => absurd hj (Nat.not_lt_zero j)) H locs ls I (lv_sub hl [0, 1, 3, 4, 5, 2] rfl)
        · refine lv_if_eq (tgt := 219) hx hb dX3_order_47 (by decide) (fun _ => ?_) (fun h => absurd h (by decide))
          refine lv_aload_n hx hb dX3_order_219 rfl (lv_at hl 2 rfl) ?_
          refine lv_iload hx hb dX3_order_220 (lv_at hl 0 rfl) ?_
          refine m_calli (rest := []) ⟨hx, hb, hml, hown, hts⟩ (c_X3_ends l D o ad cA S44 0) (cwV 1 hts gX3_order_X3_ends rfl rfl rfl (by decide +kernel) ⟨Nat.le_of_ble_eq_true rfl, Nat.le_of_ble_eq_true rfl⟩) I rfl hl.1 rfl (Nat.le_of_ble_eq_true rfl) dX3_order_222 ⟨Nat.le_refl _, Nat.le_refl _⟩ (fun r222 S222 H locs p222 I => ?_)
          refine m_iret hx hb hr hlocks I dX3_order_225 ?_
          rw [eA, p222]
          unfold f_order
          rw [if_neg h44]
          exact f_ends_eq e44 0
      · refine lv_bipush (v := (-13)) hx hb dX3_order_28 (by decide) ?_
        exact m_iret hx hb hr hlocks I dX3_order_30 (by unfold a_order; rw [if_pos ⟨h2, h11⟩, if_neg c25]; exact ⟨rfl, e_eq.rf _⟩)
    · refine lv_if_ne (tgt := 19) hx hb dX3_order_14 (by decide) (fun h => absurd h (by decide)) (fun _ => ?_)
      refine lv_iconst (v := (-1)) hx hb dX3_order_17 (by decide) ?_
      exact m_iret hx hb hr hlocks I dX3_order_18 (by unfold a_order; rw [if_neg (fun q => h11 q.2)]; exact ⟨rfl, e_eq.rf _⟩)
  · refine lv_if_eq (tgt := 17) hx hb dX3_order_5 (by decide) (fun _ => ?_) (fun h => absurd h (by decide))
    refine lv_iconst (v := (-1)) hx hb dX3_order_17 (by decide) ?_
    exact m_iret hx hb hr hlocks I dX3_order_18 (by unfold a_order; rw [if_neg (fun q => h2 q.1)]; exact ⟨rfl, e_eq.rf _⟩)
end
section
/-- a rule as it is told -/
def g_rule (k a b : Int32) (S : tr_S) : Prop := (0 ≤ k ∧ k ≤ 17) ∧ ((¬ ((8 ≤ k ∧ k ≤ 11) ∨ k = 16) ∧ ¬ k = 14) ∨ (0 ≤ a ∧ a ≤ S.1 4 - 1)) ∧ ((¬ k = 4 ∧ ¬ k = 5 ∧ ¬ k = 12) ∨ (0 ≤ a ∧ a ≤ 7)) ∧ ((¬ k = 6 ∧ ¬ k = 7) ∨ (0 ≤ a ∧ a ≤ 3)) ∧ (¬ ((8 ≤ k ∧ k ≤ 11) ∨ k = 16) ∨ k = 9 ∨ (0 ≤ b ∧ b ≤ S.1 4 - 1))
def f_add (k a b v : Int32) (S : tr_S) : Int32 × tr_S := (S.1 4 + 1 - 1, sF (sA (sA (sA (sA (sA (sA S 5 (S.1 4).toNatClampNeg k) 6 (S.1 4).toNatClampNeg a) 7 (S.1 4).toNatClampNeg b) 8 (S.1 4).toNatClampNeg v) 9 (S.1 4).toNatClampNeg (if k = 6 then S.2 1 a.toNatClampNeg else -1)) 10 (S.1 4).toNatClampNeg 0) 4 (S.1 4 + 1))
def f_now (k a b : Int32) (q : Int32 × tr_S) : Int32 × tr_S := if q.2.1 16 = 0 then f_add k a b q.1 (f_ends 1 q.2).2 else f_ends 1 q.2
noncomputable def a_rule (k a b : Int32) (S : tr_S) : Int32 × tr_S := @ite _ (g_rule k a b S) (Classical.propDecidable _) (if S.1 4 = 40 then (-2, S) else if k = 14 then f_now k a b (ev 40 a b (e_start S)) else f_add k a b (if k = 4 then S.2 0 a.toNatClampNeg else 0) S) (-1, S)
theorem a_rule_pos {k a b : Int32} {S : tr_S} (h : g_rule k a b S) : a_rule k a b S = if S.1 4 = 40 then (-2, S) else if k = 14 then f_now k a b (ev 40 a b (e_start S)) else f_add k a b (if k = 4 then S.2 0 a.toNatClampNeg else 0) S := by
  unfold a_rule
  exact if_pos h
theorem a_rule_neg {k a b : Int32} {S : tr_S} (h : ¬ g_rule k a b S) : a_rule k a b S = (-1, S) := by
  unfold a_rule
  exact if_neg h
theorem f_add_eq {S T : tr_S} (h : e_eq S T) (k a b : Int32) {u v : Int32} (e : v = u) : e_R (f_add k a b u S) (f_add k a b v T) := by
  have e4 := h.1 4 (by decide) (by decide)
  have e1 := h.2 1 (by decide)
  unfold f_add
  rw [e4, e1]
  exact ⟨rfl, e_eq_F (e_eq_A (e_eq_A (e_eq_A (e_eq_A (e_eq_A (e_eq_A h 5 _ (by decide) rfl) 6 _ (by decide) rfl) 7 _ (by decide) rfl) 8 _ (by decide) e) 9 _ (by decide) rfl) 10 _ (by decide) rfl) 4 rfl⟩
theorem fail_neg {v : Int32} (h : 0 ≤ v) (h5 : v ≤ 5) : ¬ 0 ≤ -10 - v := by
  obtain ⟨j, hj, rfl⟩ := nI_of2 (M := 5) (n := 5) rfl (Int32.not_lt.mpr h) h5
  have key : ∀ j, j < 6 → ¬ 0 ≤ -10 - nI j := by decide +kernel
  exact key j (by omega)
set_option maxHeartbeats 4000000 in
set_option maxRecDepth 100000 in
theorem c_X3_rule (l : Launch) (D : va_G) (o : Nat) (ad : Nat → Nat) (cA : ClassId) (S0 : tr_S) (k a b : Int32) (N : Nat) (hN : wf S0 N) : m_Mi l yX3_rule wsX3_rule { frames := 4, cells := 0, slots := 0, locals := 97 } [.int k, .int a, .int b] D o ad cA S0 (fun v S => e_R (a_rule k a b S0) (v, S)) := by
  refine Met.ofW (cc := cX3_rule) (maxL := 8) (ret := (some .int)) (by decide) rfl ?_
  intro p e s m args below meth c s₁ B hml hv
  obtain ⟨rfl, hB⟩ := hv
  have hx := B.exec
  have hb := B.bytes
  have hr := B.returns
  have hts := atoms_spec (ws := wsX3_rule) B.pre
  have hown : s.vm.findClass RX3 = some m.cls := findClass_of_methodNamed B.named
  have hlocks := B.notSynchronized
  have I := m_I.of hB
  have hin : ∀ w ∈ wsX30, w ∈ wsX3_rule := fun _ h => List.mem_cons_of_mem _ (List.mem_append_right _ h)
  have L7 := hts (.fieldLink RX3 7 "TollRulesModel" "places" "[I") (by decide +kernel)
  have L13 := hts (.fieldLink RX3 13 "TollRulesModel" "rowOf" "[I") (by decide +kernel)
  have L22 := hts (.fieldLink RX3 22 "TollRulesModel" "kind" "[I") (by decide +kernel)
  have L25 := hts (.fieldLink RX3 25 "TollRulesModel" "first" "[I") (by decide +kernel)
  have L28 := hts (.fieldLink RX3 28 "TollRulesModel" "second" "[I") (by decide +kernel)
  have L31 := hts (.fieldLink RX3 31 "TollRulesModel" "kept" "[I") (by decide +kernel)
  have L34 := hts (.fieldLink RX3 34 "TollRulesModel" "keptRow" "[I") (by decide +kernel)
  have L37 := hts (.fieldLink RX3 37 "TollRulesModel" "own" "[I") (by decide +kernel)
  have L65 := hts (.fieldLink RX3 65 "TollRulesModel" "rules" "I") (by decide +kernel)
  have L109 := hts (.fieldLink RX3 109 "TollRulesModel" "handed" "I") (by decide +kernel)
  have hl := lv_entry ([.ref o, .int k, .int a, .int b]) (n := 8) (Nat.le_of_ble_eq_true rfl)
  rw [lg_entry_eq]
  generalize (lg_sl ([.ref o, .int k, .int a, .int b]) ++ List.replicate (8 - (lg_sl ([.ref o, .int k, .int a, .int b])).length) Slot.unset).toArray = ls at hl ⊢
  have hl : lv_has ls 8 [(0, .ref o), (1, .int k), (2, .int a), (3, .int b)] := hl
  have J113 : ∀ (H : Heap) (locs : List Loc) (ls : Array Slot), (0 ≤ k ∧ k ≤ 17) → ((¬ ((8 ≤ k ∧ k ≤ 11) ∨ k = 16) ∧ ¬ k = 14) ∨ (0 ≤ a ∧ a ≤ S0.1 4 - 1)) → ((¬ k = 4 ∧ ¬ k = 5 ∧ ¬ k = 12) ∨ (0 ≤ a ∧ a ≤ 7)) → ((¬ k = 6 ∧ ¬ k = 7) ∨ (0 ≤ a ∧ a ≤ 3)) → (¬ ((8 ≤ k ∧ k ≤ 11) ∨ k = 16) ∨ k = 9 ∨ (0 ≤ b ∧ b ≤ S0.1 4 - 1)) → m_I D o ad cA S0 s s.heap H locs → lv_has ls 8 [(0, .ref o), (1, .int k), (2, .int a), (3, .int b)] → W p l e (headSpec wsX3_rule { frames := 4, cells := 0, slots := 0, locals := 97 }).room s m (([.ref o, .int k, .int a, .int b] : List Value).toArray) below meth c H locs 0 0 (MQ below (va_Qi (fun v S => e_R (a_rule k a b S0) (v, S)) (m_B D o ad cA) (m_A o ad)) (([.ref o, .int k, .int a, .int b] : List Value).toArray) s 0 0 (m_A o ad)) (F0 m 113 ls []) := by
    intro H locs ls gA gB gC gD gE I hl
    have hg : g_rule k a b S0 := ⟨gA, gB, gC, gD, gE⟩
    refine lv_aload_n hx hb dX3_rule_113 rfl (lv_at hl 0 rfl) ?_
    refine m_get4 hx hb hts hin hown I L65 dX3_rule_114 (x := S0.1 4) rfl ?_
    refine lv_bipush (v := 40) hx hb dX3_rule_117 (by decide) ?_
    refine lv_icmp_ne (tgt := 125) hx hb dX3_rule_119 (by decide) (fun c119 => ?_) (fun c119 => ?_)
    · have e4 : S0.1 4 = nI N := hN.2.1
      have h40 : N ≠ 40 := fun q => c119 (by rw [e4, q]; rfl)
      have hN40 := hN.1
      refine lv_iload_n hx hb dX3_rule_125 rfl (lv_at hl 1 rfl) ?_
      refine lv_iconst (v := 4) hx hb dX3_rule_126 (by decide) ?_
      refine lv_icmp_ne (tgt := 139) hx hb dX3_rule_127 (by decide) (fun c127 => ?_) (fun c127 => ?_)
      · refine lv_iconst (v := 0) hx hb dX3_rule_139 (by decide) ?_
        refine lv_istore (lv' := [(5, .int 0), (0, .ref o), (1, .int k), (2, .int a), (3, .int b)]) hx hb dX3_rule_140 hl (by decide) rfl (fun ls hl => ?_)
        refine lv_iload_n hx hb dX3_rule_142 rfl (lv_at hl 2 rfl) ?_
        refine lv_bipush (v := 14) hx hb dX3_rule_143 (by decide) ?_
        refine lv_icmp_ne (tgt := 181) hx hb dX3_rule_145 (by decide) (fun c145 => ?_) (fun c145 => ?_)
        · refine lv_aload_n hx hb dX3_rule_181 rfl (lv_at hl 1 rfl) ?_
          refine m_get5 hx hb hts hin hown I L22 dX3_rule_182 ?_
          refine lv_aload_n hx hb dX3_rule_185 rfl (lv_at hl 1 rfl) ?_
          refine m_get4 hx hb hts hin hown I L65 dX3_rule_186 (x := S0.1 4) rfl ?_
          refine lv_iload_n hx hb dX3_rule_189 rfl (lv_at hl 2 rfl) ?_
          refine m_ast5 hx hb I (by rw [e4]; exact vp_in_nI (show N < 40 by omega) (by decide)) dX3_rule_190 (fun H locs I => ?_)
          refine lv_aload_n hx hb dX3_rule_191 rfl (lv_at hl 1 rfl) ?_
          refine m_get6 hx hb hts hin hown I L25 dX3_rule_192 ?_
          refine lv_aload_n hx hb dX3_rule_195 rfl (lv_at hl 1 rfl) ?_
          refine m_get4 hx hb hts hin hown I L65 dX3_rule_196 (x := S0.1 4) rfl ?_
          refine lv_iload_n hx hb dX3_rule_199 rfl (lv_at hl 3 rfl) ?_
          refine m_ast6 hx hb I (by rw [e4]; exact vp_in_nI (show N < 40 by omega) (by decide)) dX3_rule_200 (fun H locs I => ?_)
          refine lv_aload_n hx hb dX3_rule_201 rfl (lv_at hl 1 rfl) ?_
          refine m_get7 hx hb hts hin hown I L28 dX3_rule_202 ?_
          refine lv_aload_n hx hb dX3_rule_205 rfl (lv_at hl 1 rfl) ?_
          refine m_get4 hx hb hts hin hown I L65 dX3_rule_206 (x := S0.1 4) rfl ?_
          refine lv_iload_n hx hb dX3_rule_209 rfl (lv_at hl 4 rfl) ?_
          refine m_ast7 hx hb I (by rw [e4]; exact vp_in_nI (show N < 40 by omega) (by decide)) dX3_rule_210 (fun H locs I => ?_)
          refine lv_aload_n hx hb dX3_rule_211 rfl (lv_at hl 1 rfl) ?_
          refine m_get8 hx hb hts hin hown I L31 dX3_rule_212 ?_
          refine lv_aload_n hx hb dX3_rule_215 rfl (lv_at hl 1 rfl) ?_
          refine m_get4 hx hb hts hin hown I L65 dX3_rule_216 (x := S0.1 4) rfl ?_
          refine lv_iload hx hb dX3_rule_219 (lv_at hl 0 rfl) ?_
          refine m_ast8 hx hb I (by rw [e4]; exact vp_in_nI (show N < 40 by omega) (by decide)) dX3_rule_221 (fun H locs I => ?_)
          refine lv_aload_n hx hb dX3_rule_222 rfl (lv_at hl 1 rfl) ?_
          refine m_get9 hx hb hts hin hown I L34 dX3_rule_223 ?_
          refine lv_aload_n hx hb dX3_rule_226 rfl (lv_at hl 1 rfl) ?_
          refine m_get4 hx hb hts hin hown I L65 dX3_rule_227 (x := S0.1 4) rfl ?_
          refine lv_iload_n hx hb dX3_rule_230 rfl (lv_at hl 2 rfl) ?_
          refine lv_bipush (v := 6) hx hb dX3_rule_231 (by decide) ?_
          refine lv_icmp_ne (tgt := 245) hx hb dX3_rule_233 (by decide) (fun c233 => ?_) (fun c233 => ?_)
          · refine lv_iconst (v := (-1)) hx hb dX3_rule_245 (by decide) ?_
            refine m_ast9 hx hb I (by rw [e4]; exact vp_in_nI (show N < 40 by omega) (by decide)) dX3_rule_246 (fun H locs I => ?_)
            refine lv_aload_n hx hb dX3_rule_247 rfl (lv_at hl 1 rfl) ?_
            refine m_get10 hx hb hts hin hown I L37 dX3_rule_248 ?_
            refine lv_aload_n hx hb dX3_rule_251 rfl (lv_at hl 1 rfl) ?_
            refine m_get4 hx hb hts hin hown I L65 dX3_rule_252 (x := S0.1 4) rfl ?_
            refine lv_iconst (v := 0) hx hb dX3_rule_255 (by decide) ?_
            refine m_ast10 hx hb I (by rw [e4]; exact vp_in_nI (show N < 40 by omega) (by decide)) dX3_rule_256 (fun H locs I => ?_)
            refine lv_aload_n hx hb dX3_rule_257 rfl (lv_at hl 1 rfl) ?_
            refine lv_dup hx hb dX3_rule_258 rfl ?_
            refine m_get4 hx hb hts hin hown I L65 dX3_rule_259 (x := S0.1 4) rfl ?_
            refine lv_iconst (v := 1) hx hb dX3_rule_262 (by decide) ?_
            refine lv_iadd hx hb dX3_rule_263 ?_
            refine m_put4 hx hb hts hin hown I L65 dX3_rule_264 (fun H locs I => ?_)
            refine lv_aload_n hx hb dX3_rule_267 rfl (lv_at hl 1 rfl) ?_
            refine m_get4 hx hb hts hin hown I L65 dX3_rule_268 (x := (S0.1 4) + 1) rfl ?_
            refine lv_iconst (v := 1) hx hb dX3_rule_271 (by decide) ?_
            refine lv_isub hx hb dX3_rule_272 ?_
            refine m_iret hx hb hr hlocks I dX3_rule_273 ?_
            rw [a_rule_pos hg, if_neg c119, if_neg c145, if_neg c127]
            unfold f_add
            rw [if_neg c233]
            exact ⟨rfl, e_eq.rf _⟩
          · refine lv_aload_n hx hb dX3_rule_236 rfl (lv_at hl 1 rfl) ?_
            refine m_get1 hx hb hts hin hown I L13 dX3_rule_237 ?_
            refine lv_iload_n hx hb dX3_rule_240 rfl (lv_at hl 3 rfl) ?_
            refine m_ald1 hx hb I (ix_of (gD.resolve_left (fun q => q.1 c233)) (by decide) (by decide)) dX3_rule_241 (x := S0.2 1 a.toNatClampNeg) rfl ?_
            refine lv_goto (tgt := 246) hx hb dX3_rule_242 (by decide) ?_
            refine m_ast9 hx hb I (by rw [e4]; exact vp_in_nI (show N < 40 by omega) (by decide)) dX3_rule_246 (fun H locs I => ?_)
            refine lv_aload_n hx hb dX3_rule_247 rfl (lv_at hl 1 rfl) ?_
            refine m_get10 hx hb hts hin hown I L37 dX3_rule_248 ?_
            refine lv_aload_n hx hb dX3_rule_251 rfl (lv_at hl 1 rfl) ?_
            refine m_get4 hx hb hts hin hown I L65 dX3_rule_252 (x := S0.1 4) rfl ?_
            refine lv_iconst (v := 0) hx hb dX3_rule_255 (by decide) ?_
            refine m_ast10 hx hb I (by rw [e4]; exact vp_in_nI (show N < 40 by omega) (by decide)) dX3_rule_256 (fun H locs I => ?_)
            refine lv_aload_n hx hb dX3_rule_257 rfl (lv_at hl 1 rfl) ?_
            refine lv_dup hx hb dX3_rule_258 rfl ?_
            refine m_get4 hx hb hts hin hown I L65 dX3_rule_259 (x := S0.1 4) rfl ?_
            refine lv_iconst (v := 1) hx hb dX3_rule_262 (by decide) ?_
            refine lv_iadd hx hb dX3_rule_263 ?_
            refine m_put4 hx hb hts hin hown I L65 dX3_rule_264 (fun H locs I => ?_)
            refine lv_aload_n hx hb dX3_rule_267 rfl (lv_at hl 1 rfl) ?_
            refine m_get4 hx hb hts hin hown I L65 dX3_rule_268 (x := (S0.1 4) + 1) rfl ?_
            refine lv_iconst (v := 1) hx hb dX3_rule_271 (by decide) ?_
            refine lv_isub hx hb dX3_rule_272 ?_
            refine m_iret hx hb hr hlocks I dX3_rule_273 ?_
            rw [a_rule_pos hg, if_neg c119, if_neg c145, if_neg c127]
            unfold f_add
            rw [if_pos c233]
            exact ⟨rfl, e_eq.rf _⟩
        · refine lv_aload_n hx hb dX3_rule_148 rfl (lv_at hl 1 rfl) ?_
          refine m_callv (rest := []) ⟨hx, hb, hml, hown, hts⟩ (c_X3_startsCall l D o ad cA S0) (cwV 0 hts gX3_rule_X3_startsCall rfl rfl rfl (by decide +kernel) ⟨Nat.le_of_ble_eq_true rfl, Nat.le_of_ble_eq_true rfl⟩) I rfl hl.1 rfl (Nat.le_of_ble_eq_true rfl) dX3_rule_149 ⟨Nat.le_refl _, Nat.le_refl _⟩ (fun S149 H locs p149 I => ?_)
          rw [show S149 = e_start S0 from p149] at I
          refine lv_aload_n hx hb dX3_rule_152 rfl (lv_at hl 1 rfl) ?_
          refine lv_iload_n hx hb dX3_rule_153 rfl (lv_at hl 3 rfl) ?_
          refine lv_iload_n hx hb dX3_rule_154 rfl (lv_at hl 4 rfl) ?_
          refine m_gives (hN.sm (e_start_sm S0)) (rule_of hN (gB.resolve_left (fun q => q.2 c145))) (e_start_st S0) rfl ⟨hx, hb, hml, hown, hts⟩ gX3_rule_X3_gives ⟨Nat.le_of_ble_eq_true rfl, Nat.le_of_ble_eq_true rfl⟩ ⟨Nat.le_refl _, Nat.le_refl _⟩ I hl.1 (Nat.le_of_ble_eq_true rfl) dX3_rule_155 (fun h155 S155 H locs v155 e155 i155 I => ?_) (fun h155 S155 H locs e155 i155 I => ?_)
          · refine lv_istore (lv' := [(6, .int 1), (5, .int 0), (0, .ref o), (1, .int k), (2, .int a), (3, .int b)]) hx hb dX3_rule_158 hl (by decide) rfl (fun ls hl => ?_)
            refine lv_aload_n hx hb dX3_rule_160 rfl (lv_at hl 2 rfl) ?_
            refine lv_iconst (v := 1) hx hb dX3_rule_161 (by decide) ?_
            refine m_calli (rest := []) ⟨hx, hb, hml, hown, hts⟩ (c_X3_ends l D o ad cA S155 1) (cwV 1 hts gX3_rule_X3_ends rfl rfl rfl (by decide +kernel) ⟨Nat.le_of_ble_eq_true rfl, Nat.le_of_ble_eq_true rfl⟩) I rfl hl.1 rfl (Nat.le_of_ble_eq_true rfl) dX3_rule_162 ⟨Nat.le_refl _, Nat.le_refl _⟩ (fun r162 S162 H locs p162 I => ?_)
            have f1 : f_ends 1 S155 = (1, sF S155 19 (S155.1 18)) := by unfold f_ends; rw [if_pos (by rw [e155.1 16 (by decide) (by decide), h155]; exact Int32.le_refl _)]
            rw [f1] at p162
            obtain ⟨rfl, rfl⟩ := Prod.mk.inj p162
            have e4 : S155.1 4 = nI N := (e155.1 4 (by decide) (by decide)).trans ((ev_sm 40 a b (e_start S0)).1.trans e4)
            refine lv_istore (lv' := [(7, .int 1), (6, .int 1), (5, .int 0), (0, .ref o), (1, .int k), (2, .int a), (3, .int b)]) hx hb dX3_rule_165 hl (by decide) rfl (fun ls hl => ?_)
            refine lv_iload hx hb dX3_rule_167 (lv_at hl 0 rfl) ?_
            refine lv_if_ge (tgt := 175) hx hb dX3_rule_169 (by decide) (fun _ => ?_) (fun h => absurd h (by decide))
            refine lv_aload_n hx hb dX3_rule_175 rfl (lv_at hl 3 rfl) ?_
            refine m_get26 hx hb hts hin hown I L109 dX3_rule_176 (x := S155.1 26) rfl ?_
            refine lv_istore (lv' := [(5, .int (S155.1 26)), (7, .int 1), (6, .int 1), (0, .ref o), (1, .int k), (2, .int a), (3, .int b)]) hx hb dX3_rule_179 hl (by decide) rfl (fun ls hl => ?_)
            refine lv_aload_n hx hb dX3_rule_181 rfl (lv_at hl 3 rfl) ?_
            refine m_get5 hx hb hts hin hown I L22 dX3_rule_182 ?_
            refine lv_aload_n hx hb dX3_rule_185 rfl (lv_at hl 3 rfl) ?_
            refine m_get4 hx hb hts hin hown I L65 dX3_rule_186 (x := S155.1 4) rfl ?_
            refine lv_iload_n hx hb dX3_rule_189 rfl (lv_at hl 4 rfl) ?_
            refine m_ast5 hx hb I (by rw [e4]; exact vp_in_nI (show N < 40 by omega) (by decide)) dX3_rule_190 (fun H locs I => ?_)
            refine lv_aload_n hx hb dX3_rule_191 rfl (lv_at hl 3 rfl) ?_
            refine m_get6 hx hb hts hin hown I L25 dX3_rule_192 ?_
            refine lv_aload_n hx hb dX3_rule_195 rfl (lv_at hl 3 rfl) ?_
            refine m_get4 hx hb hts hin hown I L65 dX3_rule_196 (x := S155.1 4) rfl ?_
            refine lv_iload_n hx hb dX3_rule_199 rfl (lv_at hl 5 rfl) ?_
            refine m_ast6 hx hb I (by rw [e4]; exact vp_in_nI (show N < 40 by omega) (by decide)) dX3_rule_200 (fun H locs I => ?_)
            refine lv_aload_n hx hb dX3_rule_201 rfl (lv_at hl 3 rfl) ?_
            refine m_get7 hx hb hts hin hown I L28 dX3_rule_202 ?_
            refine lv_aload_n hx hb dX3_rule_205 rfl (lv_at hl 3 rfl) ?_
            refine m_get4 hx hb hts hin hown I L65 dX3_rule_206 (x := S155.1 4) rfl ?_
            refine lv_iload_n hx hb dX3_rule_209 rfl (lv_at hl 6 rfl) ?_
            refine m_ast7 hx hb I (by rw [e4]; exact vp_in_nI (show N < 40 by omega) (by decide)) dX3_rule_210 (fun H locs I => ?_)
            refine lv_aload_n hx hb dX3_rule_211 rfl (lv_at hl 3 rfl) ?_
            refine m_get8 hx hb hts hin hown I L31 dX3_rule_212 ?_
            refine lv_aload_n hx hb dX3_rule_215 rfl (lv_at hl 3 rfl) ?_
            refine m_get4 hx hb hts hin hown I L65 dX3_rule_216 (x := S155.1 4) rfl ?_
            refine lv_iload hx hb dX3_rule_219 (lv_at hl 0 rfl) ?_
            refine m_ast8 hx hb I (by rw [e4]; exact vp_in_nI (show N < 40 by omega) (by decide)) dX3_rule_221 (fun H locs I => ?_)
            refine lv_aload_n hx hb dX3_rule_222 rfl (lv_at hl 3 rfl) ?_
            refine m_get9 hx hb hts hin hown I L34 dX3_rule_223 ?_
            refine lv_aload_n hx hb dX3_rule_226 rfl (lv_at hl 3 rfl) ?_
            refine m_get4 hx hb hts hin hown I L65 dX3_rule_227 (x := S155.1 4) rfl ?_
            refine lv_iload_n hx hb dX3_rule_230 rfl (lv_at hl 4 rfl) ?_
            refine lv_bipush (v := 6) hx hb dX3_rule_231 (by decide) ?_
            refine lv_icmp_ne (tgt := 245) hx hb dX3_rule_233 (by decide) (fun _ => ?_) (fun h => absurd (c145.symm.trans h) (by decide))
            refine lv_iconst (v := (-1)) hx hb dX3_rule_245 (by decide) ?_
            refine m_ast9 hx hb I (by rw [e4]; exact vp_in_nI (show N < 40 by omega) (by decide)) dX3_rule_246 (fun H locs I => ?_)
            refine lv_aload_n hx hb dX3_rule_247 rfl (lv_at hl 3 rfl) ?_
            refine m_get10 hx hb hts hin hown I L37 dX3_rule_248 ?_
            refine lv_aload_n hx hb dX3_rule_251 rfl (lv_at hl 3 rfl) ?_
            refine m_get4 hx hb hts hin hown I L65 dX3_rule_252 (x := S155.1 4) rfl ?_
            refine lv_iconst (v := 0) hx hb dX3_rule_255 (by decide) ?_
            refine m_ast10 hx hb I (by rw [e4]; exact vp_in_nI (show N < 40 by omega) (by decide)) dX3_rule_256 (fun H locs I => ?_)
            refine lv_aload_n hx hb dX3_rule_257 rfl (lv_at hl 3 rfl) ?_
            refine lv_dup hx hb dX3_rule_258 rfl ?_
            refine m_get4 hx hb hts hin hown I L65 dX3_rule_259 (x := S155.1 4) rfl ?_
            refine lv_iconst (v := 1) hx hb dX3_rule_262 (by decide) ?_
            refine lv_iadd hx hb dX3_rule_263 ?_
            refine m_put4 hx hb hts hin hown I L65 dX3_rule_264 (fun H locs I => ?_)
            refine lv_aload_n hx hb dX3_rule_267 rfl (lv_at hl 3 rfl) ?_
            refine m_get4 hx hb hts hin hown I L65 dX3_rule_268 (x := (S155.1 4) + 1) rfl ?_
            refine lv_iconst (v := 1) hx hb dX3_rule_271 (by decide) ?_
            refine lv_isub hx hb dX3_rule_272 ?_
            refine m_iret hx hb hr hlocks I dX3_rule_273 ?_
            rw [a_rule_pos hg, if_neg c119, if_pos c145]
            unfold f_now
            rw [if_pos h155]
            have e5 := f_ends_eq e155 1
            rw [f1] at e5
            have e6 := f_add_eq e5.2 k a b v155
            have hk6 : ¬ k = 6 := fun q => absurd (c145.symm.trans q) (by decide)
            unfold f_add at e6 ⊢
            simp only [if_neg hk6] at e6 ⊢
            exact e6
          · refine lv_istore (lv' := [(6, .int 0), (5, .int 0), (0, .ref o), (1, .int k), (2, .int a), (3, .int b)]) hx hb dX3_rule_158 hl (by decide) rfl (fun ls hl => ?_)
            refine lv_aload_n hx hb dX3_rule_160 rfl (lv_at hl 2 rfl) ?_
            refine lv_iconst (v := 1) hx hb dX3_rule_161 (by decide) ?_
            refine m_calli (rest := []) ⟨hx, hb, hml, hown, hts⟩ (c_X3_ends l D o ad cA S155 1) (cwV 1 hts gX3_rule_X3_ends rfl rfl rfl (by decide +kernel) ⟨Nat.le_of_ble_eq_true rfl, Nat.le_of_ble_eq_true rfl⟩) I rfl hl.1 rfl (Nat.le_of_ble_eq_true rfl) dX3_rule_162 ⟨Nat.le_refl _, Nat.le_refl _⟩ (fun r162 S162 H locs p162 I => ?_)
            refine lv_istore (lv' := [(7, .int r162), (6, .int 0), (5, .int 0), (0, .ref o), (1, .int k), (2, .int a), (3, .int b)]) hx hb dX3_rule_165 hl (by decide) rfl (fun ls hl => ?_)
            refine lv_iload hx hb dX3_rule_167 (lv_at hl 0 rfl) ?_
            refine lv_if_ge (tgt := 175) hx hb dX3_rule_169 (by decide) (fun c169 => ?_) (fun c169 => ?_)
            · have le := ev_le 40 a b (e_start S0) ⟨by show (0 : Int32) ≤ 0; decide, by show (0 : Int32) ≤ 5; decide⟩
              have e16 : S155.1 16 = (ev 40 a b (e_start S0)).2.1 16 := e155.1 16 (by decide) (by decide)
              unfold e_le at le
              rw [← e16] at le h155
              have f1 : (f_ends 1 S155).1 = -10 - S155.1 16 := by
                unfold f_ends
                rw [if_neg (fun q => h155 (Int32.le_antisymm q le.1))]
                rfl
              rw [← p162] at f1
              have f1 : r162 = -10 - S155.1 16 := f1
              rw [f1] at c169
              exact absurd c169 (fail_neg le.1 le.2)
            · refine lv_iload hx hb dX3_rule_172 (lv_at hl 0 rfl) ?_
              refine m_iret hx hb hr hlocks I dX3_rule_174 ?_
              rw [a_rule_pos hg, if_neg c119, if_pos c145, p162]
              unfold f_now
              rw [if_neg h155]
              exact f_ends_eq e155 1
      · refine lv_aload_n hx hb dX3_rule_130 rfl (lv_at hl 0 rfl) ?_
        refine m_get0 hx hb hts hin hown I L7 dX3_rule_131 ?_
        refine lv_iload_n hx hb dX3_rule_134 rfl (lv_at hl 2 rfl) ?_
        refine m_ald0 hx hb I (ix_of (gC.resolve_left (fun q => q.1 c127)) (by decide) (by decide)) dX3_rule_135 (x := S0.2 0 a.toNatClampNeg) rfl ?_
        refine lv_goto (tgt := 140) hx hb dX3_rule_136 (by decide) ?_
        refine lv_istore (lv' := [(5, .int (S0.2 0 a.toNatClampNeg)), (0, .ref o), (1, .int k), (2, .int a), (3, .int b)]) hx hb dX3_rule_140 hl (by decide) rfl (fun ls hl => ?_)
        refine lv_iload_n hx hb dX3_rule_142 rfl (lv_at hl 2 rfl) ?_
        refine lv_bipush (v := 14) hx hb dX3_rule_143 (by decide) ?_
        refine lv_icmp_ne (tgt := 181) hx hb dX3_rule_145 (by decide) (fun _ => ?_) (fun h => absurd (c127.symm.trans h) (by decide))
        refine lv_aload_n hx hb dX3_rule_181 rfl (lv_at hl 1 rfl) ?_
        refine m_get5 hx hb hts hin hown I L22 dX3_rule_182 ?_
        refine lv_aload_n hx hb dX3_rule_185 rfl (lv_at hl 1 rfl) ?_
        refine m_get4 hx hb hts hin hown I L65 dX3_rule_186 (x := S0.1 4) rfl ?_
        refine lv_iload_n hx hb dX3_rule_189 rfl (lv_at hl 2 rfl) ?_
        refine m_ast5 hx hb I (by rw [e4]; exact vp_in_nI (show N < 40 by omega) (by decide)) dX3_rule_190 (fun H locs I => ?_)
        refine lv_aload_n hx hb dX3_rule_191 rfl (lv_at hl 1 rfl) ?_
        refine m_get6 hx hb hts hin hown I L25 dX3_rule_192 ?_
        refine lv_aload_n hx hb dX3_rule_195 rfl (lv_at hl 1 rfl) ?_
        refine m_get4 hx hb hts hin hown I L65 dX3_rule_196 (x := S0.1 4) rfl ?_
        refine lv_iload_n hx hb dX3_rule_199 rfl (lv_at hl 3 rfl) ?_
        refine m_ast6 hx hb I (by rw [e4]; exact vp_in_nI (show N < 40 by omega) (by decide)) dX3_rule_200 (fun H locs I => ?_)
        refine lv_aload_n hx hb dX3_rule_201 rfl (lv_at hl 1 rfl) ?_
        refine m_get7 hx hb hts hin hown I L28 dX3_rule_202 ?_
        refine lv_aload_n hx hb dX3_rule_205 rfl (lv_at hl 1 rfl) ?_
        refine m_get4 hx hb hts hin hown I L65 dX3_rule_206 (x := S0.1 4) rfl ?_
        refine lv_iload_n hx hb dX3_rule_209 rfl (lv_at hl 4 rfl) ?_
        refine m_ast7 hx hb I (by rw [e4]; exact vp_in_nI (show N < 40 by omega) (by decide)) dX3_rule_210 (fun H locs I => ?_)
        refine lv_aload_n hx hb dX3_rule_211 rfl (lv_at hl 1 rfl) ?_
        refine m_get8 hx hb hts hin hown I L31 dX3_rule_212 ?_
        refine lv_aload_n hx hb dX3_rule_215 rfl (lv_at hl 1 rfl) ?_
        refine m_get4 hx hb hts hin hown I L65 dX3_rule_216 (x := S0.1 4) rfl ?_
        refine lv_iload hx hb dX3_rule_219 (lv_at hl 0 rfl) ?_
        refine m_ast8 hx hb I (by rw [e4]; exact vp_in_nI (show N < 40 by omega) (by decide)) dX3_rule_221 (fun H locs I => ?_)
        refine lv_aload_n hx hb dX3_rule_222 rfl (lv_at hl 1 rfl) ?_
        refine m_get9 hx hb hts hin hown I L34 dX3_rule_223 ?_
        refine lv_aload_n hx hb dX3_rule_226 rfl (lv_at hl 1 rfl) ?_
        refine m_get4 hx hb hts hin hown I L65 dX3_rule_227 (x := S0.1 4) rfl ?_
        refine lv_iload_n hx hb dX3_rule_230 rfl (lv_at hl 2 rfl) ?_
        refine lv_bipush (v := 6) hx hb dX3_rule_231 (by decide) ?_
        refine lv_icmp_ne (tgt := 245) hx hb dX3_rule_233 (by decide) (fun _ => ?_) (fun h => absurd (c127.symm.trans h) (by decide))
        refine lv_iconst (v := (-1)) hx hb dX3_rule_245 (by decide) ?_
        refine m_ast9 hx hb I (by rw [e4]; exact vp_in_nI (show N < 40 by omega) (by decide)) dX3_rule_246 (fun H locs I => ?_)
        refine lv_aload_n hx hb dX3_rule_247 rfl (lv_at hl 1 rfl) ?_
        refine m_get10 hx hb hts hin hown I L37 dX3_rule_248 ?_
        refine lv_aload_n hx hb dX3_rule_251 rfl (lv_at hl 1 rfl) ?_
        refine m_get4 hx hb hts hin hown I L65 dX3_rule_252 (x := S0.1 4) rfl ?_
        refine lv_iconst (v := 0) hx hb dX3_rule_255 (by decide) ?_
        refine m_ast10 hx hb I (by rw [e4]; exact vp_in_nI (show N < 40 by omega) (by decide)) dX3_rule_256 (fun H locs I => ?_)
        refine lv_aload_n hx hb dX3_rule_257 rfl (lv_at hl 1 rfl) ?_
        refine lv_dup hx hb dX3_rule_258 rfl ?_
        refine m_get4 hx hb hts hin hown I L65 dX3_rule_259 (x := S0.1 4) rfl ?_
        refine lv_iconst (v := 1) hx hb dX3_rule_262 (by decide) ?_
        refine lv_iadd hx hb dX3_rule_263 ?_
        refine m_put4 hx hb hts hin hown I L65 dX3_rule_264 (fun H locs I => ?_)
        refine lv_aload_n hx hb dX3_rule_267 rfl (lv_at hl 1 rfl) ?_
        refine m_get4 hx hb hts hin hown I L65 dX3_rule_268 (x := (S0.1 4) + 1) rfl ?_
        refine lv_iconst (v := 1) hx hb dX3_rule_271 (by decide) ?_
        refine lv_isub hx hb dX3_rule_272 ?_
        refine m_iret hx hb hr hlocks I dX3_rule_273 ?_
        rw [a_rule_pos hg, if_neg c119, if_neg (show ¬ k = 14 from fun q => absurd (c127.symm.trans q) (by decide)), if_pos c127]
        unfold f_add
        rw [if_neg (show ¬ k = 6 from fun q => absurd (c127.symm.trans q) (by decide))]
        exact ⟨rfl, e_eq.rf _⟩
    · refine lv_bipush (v := (-2)) hx hb dX3_rule_122 (by decide) ?_
      exact m_iret hx hb hr hlocks I dX3_rule_124 (by rw [a_rule_pos hg, if_pos c119]; exact ⟨rfl, e_eq.rf _⟩)
  have J78 : ∀ (H : Heap) (locs : List Loc) (ls : Array Slot), (0 ≤ k ∧ k ≤ 17) → ((¬ ((8 ≤ k ∧ k ≤ 11) ∨ k = 16) ∧ ¬ k = 14) ∨ (0 ≤ a ∧ a ≤ S0.1 4 - 1)) → ((¬ k = 4 ∧ ¬ k = 5 ∧ ¬ k = 12) ∨ (0 ≤ a ∧ a ≤ 7)) → ((¬ k = 6 ∧ ¬ k = 7) ∨ (0 ≤ a ∧ a ≤ 3)) → m_I D o ad cA S0 s s.heap H locs → lv_has ls 8 [(0, .ref o), (1, .int k), (2, .int a), (3, .int b)] → W p l e (headSpec wsX3_rule { frames := 4, cells := 0, slots := 0, locals := 97 }).room s m (([.ref o, .int k, .int a, .int b] : List Value).toArray) below meth c H locs 0 0 (MQ below (va_Qi (fun v S => e_R (a_rule k a b S0) (v, S)) (m_B D o ad cA) (m_A o ad)) (([.ref o, .int k, .int a, .int b] : List Value).toArray) s 0 0 (m_A o ad)) (F0 m 78 ls []) := by
    intro H locs ls gA gB gC gD I hl
    refine lv_iload_n hx hb dX3_rule_78 rfl (lv_at hl 1 rfl) ?_
    refine m_asks ⟨hx, hb, hml, hown, hts⟩ gX3_rule_X3_asks ⟨Nat.le_of_ble_eq_true rfl, Nat.le_of_ble_eq_true rfl⟩ ⟨Nat.le_refl _, Nat.le_refl _⟩ hl.1 (Nat.le_of_ble_eq_true rfl) dX3_rule_79 (fun h79 => ?_) (fun h79 => ?_)
    · refine lv_if_eq (tgt := 99) hx hb dX3_rule_82 (by decide) (fun h => absurd h (by decide)) (fun _ => ?_)
      refine lv_iload_n hx hb dX3_rule_85 rfl (lv_at hl 1 rfl) ?_
      refine lv_bipush (v := 9) hx hb dX3_rule_86 (by decide) ?_
      refine lv_icmp_eq (tgt := 99) hx hb dX3_rule_88 (by decide) (fun c88 => ?_) (fun c88 => ?_)
      · refine lv_iconst (v := 1) hx hb dX3_rule_99 (by decide) ?_
        refine lv_goto (tgt := 104) hx hb dX3_rule_100 (by decide) ?_
        refine lv_istore (lv' := [(4, .int 1), (0, .ref o), (1, .int k), (2, .int a), (3, .int b)]) hx hb dX3_rule_104 hl (by decide) rfl (fun ls hl => ?_)
        refine lv_iload hx hb dX3_rule_106 (lv_at hl 0 rfl) ?_
        refine lv_if_ne (tgt := 113) hx hb dX3_rule_108 (by decide) (fun _ => ?_) (fun h => absurd h (by decide))
        exact J113 H locs ls gA gB gC gD (by simp [h79, c88]) I (lv_sub hl [1, 2, 3, 4] rfl)
      · refine lv_aload_n hx hb dX3_rule_91 rfl (lv_at hl 0 rfl) ?_
        refine lv_iload_n hx hb dX3_rule_92 rfl (lv_at hl 3 rfl) ?_
        refine m_isRule ⟨hx, hb, hml, hown, hts⟩ gX3_rule_X3_isRule ⟨Nat.le_of_ble_eq_true rfl, Nat.le_of_ble_eq_true rfl⟩ ⟨Nat.le_refl _, Nat.le_refl _⟩ I hl.1 (Nat.le_of_ble_eq_true rfl) dX3_rule_93 (fun h93 H locs I => ?_) (fun h93 H locs I => ?_)
        · refine lv_if_eq (tgt := 103) hx hb dX3_rule_96 (by decide) (fun h => absurd h (by decide)) (fun _ => ?_)
          refine lv_iconst (v := 1) hx hb dX3_rule_99 (by decide) ?_
          refine lv_goto (tgt := 104) hx hb dX3_rule_100 (by decide) ?_
          refine lv_istore (lv' := [(4, .int 1), (0, .ref o), (1, .int k), (2, .int a), (3, .int b)]) hx hb dX3_rule_104 hl (by decide) rfl (fun ls hl => ?_)
          refine lv_iload hx hb dX3_rule_106 (lv_at hl 0 rfl) ?_
          refine lv_if_ne (tgt := 113) hx hb dX3_rule_108 (by decide) (fun _ => ?_) (fun h => absurd h (by decide))
          exact J113 H locs ls gA gB gC gD (by simp [h79, c88, h93]) I (lv_sub hl [1, 2, 3, 4] rfl)
        · refine lv_if_eq (tgt := 103) hx hb dX3_rule_96 (by decide) (fun _ => ?_) (fun h => absurd h (by decide))
          refine lv_iconst (v := 0) hx hb dX3_rule_103 (by decide) ?_
          refine lv_istore (lv' := [(4, .int 0), (0, .ref o), (1, .int k), (2, .int a), (3, .int b)]) hx hb dX3_rule_104 hl (by decide) rfl (fun ls hl => ?_)
          refine lv_iload hx hb dX3_rule_106 (lv_at hl 0 rfl) ?_
          refine lv_if_ne (tgt := 113) hx hb dX3_rule_108 (by decide) (fun h => absurd h (by decide)) (fun _ => ?_)
          refine lv_iconst (v := (-1)) hx hb dX3_rule_111 (by decide) ?_
          exact m_iret hx hb hr hlocks I dX3_rule_112 (by rw [a_rule_neg (fun q => absurd q.2.2.2.2 (by simp [h79, c88, h93]))]; exact ⟨rfl, e_eq.rf _⟩)
    · refine lv_if_eq (tgt := 99) hx hb dX3_rule_82 (by decide) (fun _ => ?_) (fun h => absurd h (by decide))
      refine lv_iconst (v := 1) hx hb dX3_rule_99 (by decide) ?_
      refine lv_goto (tgt := 104) hx hb dX3_rule_100 (by decide) ?_
      refine lv_istore (lv' := [(4, .int 1), (0, .ref o), (1, .int k), (2, .int a), (3, .int b)]) hx hb dX3_rule_104 hl (by decide) rfl (fun ls hl => ?_)
      refine lv_iload hx hb dX3_rule_106 (lv_at hl 0 rfl) ?_
      refine lv_if_ne (tgt := 113) hx hb dX3_rule_108 (by decide) (fun _ => ?_) (fun h => absurd h (by decide))
      exact J113 H locs ls gA gB gC gD (by simp [h79]) I (lv_sub hl [1, 2, 3, 4] rfl)
  have J57 : ∀ (H : Heap) (locs : List Loc) (ls : Array Slot), (0 ≤ k ∧ k ≤ 17) → ((¬ ((8 ≤ k ∧ k ≤ 11) ∨ k = 16) ∧ ¬ k = 14) ∨ (0 ≤ a ∧ a ≤ S0.1 4 - 1)) → ((¬ k = 4 ∧ ¬ k = 5 ∧ ¬ k = 12) ∨ (0 ≤ a ∧ a ≤ 7)) → m_I D o ad cA S0 s s.heap H locs → lv_has ls 8 [(0, .ref o), (1, .int k), (2, .int a), (3, .int b)] → W p l e (headSpec wsX3_rule { frames := 4, cells := 0, slots := 0, locals := 97 }).room s m (([.ref o, .int k, .int a, .int b] : List Value).toArray) below meth c H locs 0 0 (MQ below (va_Qi (fun v S => e_R (a_rule k a b S0) (v, S)) (m_B D o ad cA) (m_A o ad)) (([.ref o, .int k, .int a, .int b] : List Value).toArray) s 0 0 (m_A o ad)) (F0 m 57 ls []) := by
    intro H locs ls gA gB gC I hl
    refine lv_iload_n hx hb dX3_rule_57 rfl (lv_at hl 1 rfl) ?_
    refine lv_bipush (v := 6) hx hb dX3_rule_58 (by decide) ?_
    refine lv_icmp_eq (tgt := 69) hx hb dX3_rule_60 (by decide) (fun c60 => ?_) (fun c60 => ?_)
    · refine lv_iload_n hx hb dX3_rule_69 rfl (lv_at hl 2 rfl) ?_
      refine lv_iconst (v := 0) hx hb dX3_rule_70 (by decide) ?_
      refine lv_iconst (v := 3) hx hb dX3_rule_71 (by decide) ?_
      refine m_in ⟨hx, hb, hml, hown, hts⟩ gX3_rule_X3_in ⟨Nat.le_of_ble_eq_true rfl, Nat.le_of_ble_eq_true rfl⟩ ⟨Nat.le_refl _, Nat.le_refl _⟩ hl.1 (Nat.le_of_ble_eq_true rfl) dX3_rule_72 (fun h72 => ?_) (fun h72 => ?_)
      · refine lv_if_eq (tgt := 103) hx hb dX3_rule_75 (by decide) (fun h => absurd h (by decide)) (fun _ => ?_)
        exact J78 H locs ls gA gB gC (by simp [c60, h72]) I (lv_sub hl [0, 1, 2, 3] rfl)
      · refine lv_if_eq (tgt := 103) hx hb dX3_rule_75 (by decide) (fun _ => ?_) (fun h => absurd h (by decide))
        refine lv_iconst (v := 0) hx hb dX3_rule_103 (by decide) ?_
        refine lv_istore (lv' := [(4, .int 0), (0, .ref o), (1, .int k), (2, .int a), (3, .int b)]) hx hb dX3_rule_104 hl (by decide) rfl (fun ls hl => ?_)
        refine lv_iload hx hb dX3_rule_106 (lv_at hl 0 rfl) ?_
        refine lv_if_ne (tgt := 113) hx hb dX3_rule_108 (by decide) (fun h => absurd h (by decide)) (fun _ => ?_)
        refine lv_iconst (v := (-1)) hx hb dX3_rule_111 (by decide) ?_
        exact m_iret hx hb hr hlocks I dX3_rule_112 (by rw [a_rule_neg (fun q => absurd q.2.2.2.1 (by simp [c60, h72]))]; exact ⟨rfl, e_eq.rf _⟩)
    · refine lv_iload_n hx hb dX3_rule_63 rfl (lv_at hl 1 rfl) ?_
      refine lv_bipush (v := 7) hx hb dX3_rule_64 (by decide) ?_
      refine lv_icmp_ne (tgt := 78) hx hb dX3_rule_66 (by decide) (fun c66 => ?_) (fun c66 => ?_)
      · exact J78 H locs ls gA gB gC (by simp [c60, c66]) I (lv_sub hl [0, 1, 2, 3] rfl)
      · refine lv_iload_n hx hb dX3_rule_69 rfl (lv_at hl 2 rfl) ?_
        refine lv_iconst (v := 0) hx hb dX3_rule_70 (by decide) ?_
        refine lv_iconst (v := 3) hx hb dX3_rule_71 (by decide) ?_
        refine m_in ⟨hx, hb, hml, hown, hts⟩ gX3_rule_X3_in ⟨Nat.le_of_ble_eq_true rfl, Nat.le_of_ble_eq_true rfl⟩ ⟨Nat.le_refl _, Nat.le_refl _⟩ hl.1 (Nat.le_of_ble_eq_true rfl) dX3_rule_72 (fun h72 => ?_) (fun h72 => ?_)
        · refine lv_if_eq (tgt := 103) hx hb dX3_rule_75 (by decide) (fun h => absurd h (by decide)) (fun _ => ?_)
          exact J78 H locs ls gA gB gC (by simp [c60, c66, h72]) I (lv_sub hl [0, 1, 2, 3] rfl)
        · refine lv_if_eq (tgt := 103) hx hb dX3_rule_75 (by decide) (fun _ => ?_) (fun h => absurd h (by decide))
          refine lv_iconst (v := 0) hx hb dX3_rule_103 (by decide) ?_
          refine lv_istore (lv' := [(4, .int 0), (0, .ref o), (1, .int k), (2, .int a), (3, .int b)]) hx hb dX3_rule_104 hl (by decide) rfl (fun ls hl => ?_)
          refine lv_iload hx hb dX3_rule_106 (lv_at hl 0 rfl) ?_
          refine lv_if_ne (tgt := 113) hx hb dX3_rule_108 (by decide) (fun h => absurd h (by decide)) (fun _ => ?_)
          refine lv_iconst (v := (-1)) hx hb dX3_rule_111 (by decide) ?_
          exact m_iret hx hb hr hlocks I dX3_rule_112 (by rw [a_rule_neg (fun q => absurd q.2.2.2.1 (by simp [c60, c66, h72]))]; exact ⟨rfl, e_eq.rf _⟩)
  have J31 : ∀ (H : Heap) (locs : List Loc) (ls : Array Slot), (0 ≤ k ∧ k ≤ 17) → ((¬ ((8 ≤ k ∧ k ≤ 11) ∨ k = 16) ∧ ¬ k = 14) ∨ (0 ≤ a ∧ a ≤ S0.1 4 - 1)) → m_I D o ad cA S0 s s.heap H locs → lv_has ls 8 [(0, .ref o), (1, .int k), (2, .int a), (3, .int b)] → W p l e (headSpec wsX3_rule { frames := 4, cells := 0, slots := 0, locals := 97 }).room s m (([.ref o, .int k, .int a, .int b] : List Value).toArray) below meth c H locs 0 0 (MQ below (va_Qi (fun v S => e_R (a_rule k a b S0) (v, S)) (m_B D o ad cA) (m_A o ad)) (([.ref o, .int k, .int a, .int b] : List Value).toArray) s 0 0 (m_A o ad)) (F0 m 31 ls []) := by
    intro H locs ls gA gB I hl
    refine lv_iload_n hx hb dX3_rule_31 rfl (lv_at hl 1 rfl) ?_
    refine lv_iconst (v := 4) hx hb dX3_rule_32 (by decide) ?_
    refine lv_icmp_eq (tgt := 47) hx hb dX3_rule_33 (by decide) (fun c33 => ?_) (fun c33 => ?_)
    · refine lv_iload_n hx hb dX3_rule_47 rfl (lv_at hl 2 rfl) ?_
      refine lv_iconst (v := 0) hx hb dX3_rule_48 (by decide) ?_
      refine lv_bipush (v := 7) hx hb dX3_rule_49 (by decide) ?_
      refine m_in ⟨hx, hb, hml, hown, hts⟩ gX3_rule_X3_in ⟨Nat.le_of_ble_eq_true rfl, Nat.le_of_ble_eq_true rfl⟩ ⟨Nat.le_refl _, Nat.le_refl _⟩ hl.1 (Nat.le_of_ble_eq_true rfl) dX3_rule_51 (fun h51 => ?_) (fun h51 => ?_)
      · refine lv_if_eq (tgt := 103) hx hb dX3_rule_54 (by decide) (fun h => absurd h (by decide)) (fun _ => ?_)
        exact J57 H locs ls gA gB (by simp [c33, h51]) I (lv_sub hl [0, 1, 2, 3] rfl)
      · refine lv_if_eq (tgt := 103) hx hb dX3_rule_54 (by decide) (fun _ => ?_) (fun h => absurd h (by decide))
        refine lv_iconst (v := 0) hx hb dX3_rule_103 (by decide) ?_
        refine lv_istore (lv' := [(4, .int 0), (0, .ref o), (1, .int k), (2, .int a), (3, .int b)]) hx hb dX3_rule_104 hl (by decide) rfl (fun ls hl => ?_)
        refine lv_iload hx hb dX3_rule_106 (lv_at hl 0 rfl) ?_
        refine lv_if_ne (tgt := 113) hx hb dX3_rule_108 (by decide) (fun h => absurd h (by decide)) (fun _ => ?_)
        refine lv_iconst (v := (-1)) hx hb dX3_rule_111 (by decide) ?_
        exact m_iret hx hb hr hlocks I dX3_rule_112 (by rw [a_rule_neg (fun q => absurd q.2.2.1 (by simp [c33, h51]))]; exact ⟨rfl, e_eq.rf _⟩)
    · refine lv_iload_n hx hb dX3_rule_36 rfl (lv_at hl 1 rfl) ?_
      refine lv_iconst (v := 5) hx hb dX3_rule_37 (by decide) ?_
      refine lv_icmp_eq (tgt := 47) hx hb dX3_rule_38 (by decide) (fun c38 => ?_) (fun c38 => ?_)
      · refine lv_iload_n hx hb dX3_rule_47 rfl (lv_at hl 2 rfl) ?_
        refine lv_iconst (v := 0) hx hb dX3_rule_48 (by decide) ?_
        refine lv_bipush (v := 7) hx hb dX3_rule_49 (by decide) ?_
        refine m_in ⟨hx, hb, hml, hown, hts⟩ gX3_rule_X3_in ⟨Nat.le_of_ble_eq_true rfl, Nat.le_of_ble_eq_true rfl⟩ ⟨Nat.le_refl _, Nat.le_refl _⟩ hl.1 (Nat.le_of_ble_eq_true rfl) dX3_rule_51 (fun h51 => ?_) (fun h51 => ?_)
        · refine lv_if_eq (tgt := 103) hx hb dX3_rule_54 (by decide) (fun h => absurd h (by decide)) (fun _ => ?_)
          exact J57 H locs ls gA gB (by simp [c33, c38, h51]) I (lv_sub hl [0, 1, 2, 3] rfl)
        · refine lv_if_eq (tgt := 103) hx hb dX3_rule_54 (by decide) (fun _ => ?_) (fun h => absurd h (by decide))
          refine lv_iconst (v := 0) hx hb dX3_rule_103 (by decide) ?_
          refine lv_istore (lv' := [(4, .int 0), (0, .ref o), (1, .int k), (2, .int a), (3, .int b)]) hx hb dX3_rule_104 hl (by decide) rfl (fun ls hl => ?_)
          refine lv_iload hx hb dX3_rule_106 (lv_at hl 0 rfl) ?_
          refine lv_if_ne (tgt := 113) hx hb dX3_rule_108 (by decide) (fun h => absurd h (by decide)) (fun _ => ?_)
          refine lv_iconst (v := (-1)) hx hb dX3_rule_111 (by decide) ?_
          exact m_iret hx hb hr hlocks I dX3_rule_112 (by rw [a_rule_neg (fun q => absurd q.2.2.1 (by simp [c33, c38, h51]))]; exact ⟨rfl, e_eq.rf _⟩)
      · refine lv_iload_n hx hb dX3_rule_41 rfl (lv_at hl 1 rfl) ?_
        refine lv_bipush (v := 12) hx hb dX3_rule_42 (by decide) ?_
        refine lv_icmp_ne (tgt := 57) hx hb dX3_rule_44 (by decide) (fun c44 => ?_) (fun c44 => ?_)
        · exact J57 H locs ls gA gB (by simp [c33, c38, c44]) I (lv_sub hl [0, 1, 2, 3] rfl)
        · refine lv_iload_n hx hb dX3_rule_47 rfl (lv_at hl 2 rfl) ?_
          refine lv_iconst (v := 0) hx hb dX3_rule_48 (by decide) ?_
          refine lv_bipush (v := 7) hx hb dX3_rule_49 (by decide) ?_
          refine m_in ⟨hx, hb, hml, hown, hts⟩ gX3_rule_X3_in ⟨Nat.le_of_ble_eq_true rfl, Nat.le_of_ble_eq_true rfl⟩ ⟨Nat.le_refl _, Nat.le_refl _⟩ hl.1 (Nat.le_of_ble_eq_true rfl) dX3_rule_51 (fun h51 => ?_) (fun h51 => ?_)
          · refine lv_if_eq (tgt := 103) hx hb dX3_rule_54 (by decide) (fun h => absurd h (by decide)) (fun _ => ?_)
            exact J57 H locs ls gA gB (by simp [c33, c38, c44, h51]) I (lv_sub hl [0, 1, 2, 3] rfl)
          · refine lv_if_eq (tgt := 103) hx hb dX3_rule_54 (by decide) (fun _ => ?_) (fun h => absurd h (by decide))
            refine lv_iconst (v := 0) hx hb dX3_rule_103 (by decide) ?_
            refine lv_istore (lv' := [(4, .int 0), (0, .ref o), (1, .int k), (2, .int a), (3, .int b)]) hx hb dX3_rule_104 hl (by decide) rfl (fun ls hl => ?_)
            refine lv_iload hx hb dX3_rule_106 (lv_at hl 0 rfl) ?_
            refine lv_if_ne (tgt := 113) hx hb dX3_rule_108 (by decide) (fun h => absurd h (by decide)) (fun _ => ?_)
            refine lv_iconst (v := (-1)) hx hb dX3_rule_111 (by decide) ?_
            exact m_iret hx hb hr hlocks I dX3_rule_112 (by rw [a_rule_neg (fun q => absurd q.2.2.1 (by simp [c33, c38, c44, h51]))]; exact ⟨rfl, e_eq.rf _⟩)
  refine lv_iload_n hx hb dX3_rule_0 rfl (lv_at hl 1 rfl) ?_
  refine lv_iconst (v := 0) hx hb dX3_rule_1 (by decide) ?_
  refine lv_bipush (v := 17) hx hb dX3_rule_2 (by decide) ?_
  refine m_in ⟨hx, hb, hml, hown, hts⟩ gX3_rule_X3_in ⟨Nat.le_of_ble_eq_true rfl, Nat.le_of_ble_eq_true rfl⟩ ⟨Nat.le_refl _, Nat.le_refl _⟩ hl.1 (Nat.le_of_ble_eq_true rfl) dX3_rule_4 (fun h4 => ?_) (fun h4 => ?_)
  · refine lv_if_eq (tgt := 103) hx hb dX3_rule_7 (by decide) (fun h => absurd h (by decide)) (fun _ => ?_)
    refine lv_iload_n hx hb dX3_rule_10 rfl (lv_at hl 1 rfl) ?_
    refine m_asks ⟨hx, hb, hml, hown, hts⟩ gX3_rule_X3_asks ⟨Nat.le_of_ble_eq_true rfl, Nat.le_of_ble_eq_true rfl⟩ ⟨Nat.le_refl _, Nat.le_refl _⟩ hl.1 (Nat.le_of_ble_eq_true rfl) dX3_rule_11 (fun h11 => ?_) (fun h11 => ?_)
    · refine lv_if_ne (tgt := 23) hx hb dX3_rule_14 (by decide) (fun _ => ?_) (fun h => absurd h (by decide))
      refine lv_aload_n hx hb dX3_rule_23 rfl (lv_at hl 0 rfl) ?_
      refine lv_iload_n hx hb dX3_rule_24 rfl (lv_at hl 2 rfl) ?_
      refine m_isRule ⟨hx, hb, hml, hown, hts⟩ gX3_rule_X3_isRule ⟨Nat.le_of_ble_eq_true rfl, Nat.le_of_ble_eq_true rfl⟩ ⟨Nat.le_refl _, Nat.le_refl _⟩ I hl.1 (Nat.le_of_ble_eq_true rfl) dX3_rule_25 (fun h25 H locs I => ?_) (fun h25 H locs I => ?_)
      · refine lv_if_eq (tgt := 103) hx hb dX3_rule_28 (by decide) (fun h => absurd h (by decide)) (fun _ => ?_)
        exact J31 _ _ ls h4 (by simp [h11, h25]) I (lv_sub hl [0, 1, 2, 3] rfl)
      · refine lv_if_eq (tgt := 103) hx hb dX3_rule_28 (by decide) (fun _ => ?_) (fun h => absurd h (by decide))
        refine lv_iconst (v := 0) hx hb dX3_rule_103 (by decide) ?_
        refine lv_istore (lv' := [(4, .int 0), (0, .ref o), (1, .int k), (2, .int a), (3, .int b)]) hx hb dX3_rule_104 hl (by decide) rfl (fun ls hl => ?_)
        refine lv_iload hx hb dX3_rule_106 (lv_at hl 0 rfl) ?_
        refine lv_if_ne (tgt := 113) hx hb dX3_rule_108 (by decide) (fun h => absurd h (by decide)) (fun _ => ?_)
        refine lv_iconst (v := (-1)) hx hb dX3_rule_111 (by decide) ?_
        exact m_iret hx hb hr hlocks I dX3_rule_112 (by rw [a_rule_neg (fun q => absurd q.2.1 (by simp [h11, h25]))]; exact ⟨rfl, e_eq.rf _⟩)
    · refine lv_if_ne (tgt := 23) hx hb dX3_rule_14 (by decide) (fun h => absurd h (by decide)) (fun _ => ?_)
      refine lv_iload_n hx hb dX3_rule_17 rfl (lv_at hl 1 rfl) ?_
      refine lv_bipush (v := 14) hx hb dX3_rule_18 (by decide) ?_
      refine lv_icmp_ne (tgt := 31) hx hb dX3_rule_20 (by decide) (fun c20 => ?_) (fun c20 => ?_)
      · exact J31 _ _ ls h4 (by simp [h11, c20]) I (lv_sub hl [0, 1, 2, 3] rfl)
      · refine lv_aload_n hx hb dX3_rule_23 rfl (lv_at hl 0 rfl) ?_
        refine lv_iload_n hx hb dX3_rule_24 rfl (lv_at hl 2 rfl) ?_
        refine m_isRule ⟨hx, hb, hml, hown, hts⟩ gX3_rule_X3_isRule ⟨Nat.le_of_ble_eq_true rfl, Nat.le_of_ble_eq_true rfl⟩ ⟨Nat.le_refl _, Nat.le_refl _⟩ I hl.1 (Nat.le_of_ble_eq_true rfl) dX3_rule_25 (fun h25 H locs I => ?_) (fun h25 H locs I => ?_)
        · refine lv_if_eq (tgt := 103) hx hb dX3_rule_28 (by decide) (fun h => absurd h (by decide)) (fun _ => ?_)
          exact J31 _ _ ls h4 (by simp [h11, c20, h25]) I (lv_sub hl [0, 1, 2, 3] rfl)
        · refine lv_if_eq (tgt := 103) hx hb dX3_rule_28 (by decide) (fun _ => ?_) (fun h => absurd h (by decide))
          refine lv_iconst (v := 0) hx hb dX3_rule_103 (by decide) ?_
          refine lv_istore (lv' := [(4, .int 0), (0, .ref o), (1, .int k), (2, .int a), (3, .int b)]) hx hb dX3_rule_104 hl (by decide) rfl (fun ls hl => ?_)
          refine lv_iload hx hb dX3_rule_106 (lv_at hl 0 rfl) ?_
          refine lv_if_ne (tgt := 113) hx hb dX3_rule_108 (by decide) (fun h => absurd h (by decide)) (fun _ => ?_)
          refine lv_iconst (v := (-1)) hx hb dX3_rule_111 (by decide) ?_
          exact m_iret hx hb hr hlocks I dX3_rule_112 (by rw [a_rule_neg (fun q => absurd q.2.1 (by simp [h11, c20, h25]))]; exact ⟨rfl, e_eq.rf _⟩)
  · refine lv_if_eq (tgt := 103) hx hb dX3_rule_7 (by decide) (fun _ => ?_) (fun h => absurd h (by decide))
    refine lv_iconst (v := 0) hx hb dX3_rule_103 (by decide) ?_
    refine lv_istore (lv' := [(4, .int 0), (0, .ref o), (1, .int k), (2, .int a), (3, .int b)]) hx hb dX3_rule_104 hl (by decide) rfl (fun ls hl => ?_)
    refine lv_iload hx hb dX3_rule_106 (lv_at hl 0 rfl) ?_
    refine lv_if_ne (tgt := 113) hx hb dX3_rule_108 (by decide) (fun h => absurd h (by decide)) (fun _ => ?_)
    refine lv_iconst (v := (-1)) hx hb dX3_rule_111 (by decide) ?_
    exact m_iret hx hb hr hlocks I dX3_rule_112 (by rw [a_rule_neg (fun q => h4 q.1)]; exact ⟨rfl, e_eq.rf _⟩)
end
