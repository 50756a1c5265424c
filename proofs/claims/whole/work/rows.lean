section
-- ===== PART A: goes FIRST, ahead of the names: the tables' words, and 'selects' of the private methods out of them =====
/-- a private method of a class that the tables say can be made, by its rows of tables_1 -/
def lw_okq (q : MethodName × Nat) : Prop := (q.1.cls ≠ "java/lang/invoke/MethodHandle" ∧ q.1.cls ≠ "java/lang/invoke/VarHandle") ∧ Cond.instantiable q.1.cls q.2 ∈ tables_1 ∧ Cond.privateMethod q.1 ∈ tables_1 ∧ Cond.instanceMethod q.1 ∈ tables_1
theorem lw_p0 : lw_okq (⟨"SlotScreen$Chip", "makeReady", "()V"⟩, 6) := ⟨⟨by decide +kernel, by decide +kernel⟩, List.mem_of_getElem? (i := 47) (by decide +kernel), List.mem_of_getElem? (i := 143) (by decide +kernel), List.mem_of_getElem? (i := 144) (by decide +kernel)⟩
theorem lw_p1 : lw_okq (⟨"SlotScreen$Screen", "drawBack", "(I)V"⟩, 5) := ⟨⟨by decide +kernel, by decide +kernel⟩, List.mem_of_getElem? (i := 72) (by decide +kernel), List.mem_of_getElem? (i := 183) (by decide +kernel), List.mem_of_getElem? (i := 184) (by decide +kernel)⟩
theorem lw_p2 : lw_okq (⟨"SlotScreen$Screen", "backColor", "()I"⟩, 5) := ⟨⟨by decide +kernel, by decide +kernel⟩, List.mem_of_getElem? (i := 72) (by decide +kernel), List.mem_of_getElem? (i := 187) (by decide +kernel), List.mem_of_getElem? (i := 188) (by decide +kernel)⟩
theorem lw_p3 : lw_okq (⟨"SlotScreen$Screen", "drawTiles", "(I)V"⟩, 5) := ⟨⟨by decide +kernel, by decide +kernel⟩, List.mem_of_getElem? (i := 72) (by decide +kernel), List.mem_of_getElem? (i := 191) (by decide +kernel), List.mem_of_getElem? (i := 192) (by decide +kernel)⟩
theorem lw_p4 : lw_okq (⟨"SlotScreen$Screen", "drawTileRow", "(III)V"⟩, 5) := ⟨⟨by decide +kernel, by decide +kernel⟩, List.mem_of_getElem? (i := 72) (by decide +kernel), List.mem_of_getElem? (i := 199) (by decide +kernel), List.mem_of_getElem? (i := 200) (by decide +kernel)⟩
theorem lw_p5 : lw_okq (⟨"SlotScreen$Screen", "orBack", "(I)I"⟩, 5) := ⟨⟨by decide +kernel, by decide +kernel⟩, List.mem_of_getElem? (i := 72) (by decide +kernel), List.mem_of_getElem? (i := 203) (by decide +kernel), List.mem_of_getElem? (i := 204) (by decide +kernel)⟩
theorem lw_p6 : lw_okq (⟨"SlotScreen$Screen", "drawSprites", "(I)V"⟩, 5) := ⟨⟨by decide +kernel, by decide +kernel⟩, List.mem_of_getElem? (i := 72) (by decide +kernel), List.mem_of_getElem? (i := 207) (by decide +kernel), List.mem_of_getElem? (i := 208) (by decide +kernel)⟩
theorem lw_p7 : lw_okq (⟨"SlotScreen$Screen", "spriteSide", "()I"⟩, 5) := ⟨⟨by decide +kernel, by decide +kernel⟩, List.mem_of_getElem? (i := 72) (by decide +kernel), List.mem_of_getElem? (i := 211) (by decide +kernel), List.mem_of_getElem? (i := 212) (by decide +kernel)⟩
theorem lw_p8 : lw_okq (⟨"SlotScreen$Screen", "spriteZoom", "()I"⟩, 5) := ⟨⟨by decide +kernel, by decide +kernel⟩, List.mem_of_getElem? (i := 72) (by decide +kernel), List.mem_of_getElem? (i := 215) (by decide +kernel), List.mem_of_getElem? (i := 216) (by decide +kernel)⟩
theorem lw_p9 : lw_okq (⟨"SlotScreen$Screen", "drawSpriteRow", "(III)V"⟩, 5) := ⟨⟨by decide +kernel, by decide +kernel⟩, List.mem_of_getElem? (i := 72) (by decide +kernel), List.mem_of_getElem? (i := 226) (by decide +kernel), List.mem_of_getElem? (i := 227) (by decide +kernel)⟩
theorem lw_p10 : lw_okq (⟨"SlotScreen$Screen", "spriteBits", "(II)I"⟩, 5) := ⟨⟨by decide +kernel, by decide +kernel⟩, List.mem_of_getElem? (i := 72) (by decide +kernel), List.mem_of_getElem? (i := 230) (by decide +kernel), List.mem_of_getElem? (i := 231) (by decide +kernel)⟩
theorem lw_p11 : lw_okq (⟨"SlotScreen$Screen", "coverPixel", "(III)V"⟩, 5) := ⟨⟨by decide +kernel, by decide +kernel⟩, List.mem_of_getElem? (i := 72) (by decide +kernel), List.mem_of_getElem? (i := 234) (by decide +kernel), List.mem_of_getElem? (i := 235) (by decide +kernel)⟩
theorem lw_p12 : lw_okq (⟨"java/lang/Throwable", "fillInStackTrace", "(I)Ljava/lang/Throwable;"⟩, 6) := ⟨⟨by decide +kernel, by decide +kernel⟩, List.mem_of_getElem? (i := 333) (by decide +kernel), List.mem_of_getElem? (i := 331) (by decide +kernel), List.mem_of_getElem? (i := 332) (by decide +kernel)⟩
theorem lw_p13 : lw_okq (⟨"SlotScreenModel", "slotOf", "(I)I"⟩, 16) := ⟨⟨by decide +kernel, by decide +kernel⟩, List.mem_of_getElem? (i := 525) (by decide +kernel), List.mem_of_getElem? (i := 603) (by decide +kernel), List.mem_of_getElem? (i := 604) (by decide +kernel)⟩
theorem lw_p14 : lw_okq (⟨"SlotScreenModel", "deviceAt", "(I)I"⟩, 16) := ⟨⟨by decide +kernel, by decide +kernel⟩, List.mem_of_getElem? (i := 525) (by decide +kernel), List.mem_of_getElem? (i := 610) (by decide +kernel), List.mem_of_getElem? (i := 611) (by decide +kernel)⟩
theorem lw_p15 : lw_okq (⟨"SlotScreenModel", "get", "(II)I"⟩, 16) := ⟨⟨by decide +kernel, by decide +kernel⟩, List.mem_of_getElem? (i := 525) (by decide +kernel), List.mem_of_getElem? (i := 614) (by decide +kernel), List.mem_of_getElem? (i := 615) (by decide +kernel)⟩
def lw_privs_1 : List (MethodName × Nat) := [(⟨"SlotScreen$Chip", "makeReady", "()V"⟩, 6), (⟨"SlotScreen$Screen", "drawBack", "(I)V"⟩, 5), (⟨"SlotScreen$Screen", "backColor", "()I"⟩, 5), (⟨"SlotScreen$Screen", "drawTiles", "(I)V"⟩, 5), (⟨"SlotScreen$Screen", "drawTileRow", "(III)V"⟩, 5), (⟨"SlotScreen$Screen", "orBack", "(I)I"⟩, 5), (⟨"SlotScreen$Screen", "drawSprites", "(I)V"⟩, 5), (⟨"SlotScreen$Screen", "spriteSide", "()I"⟩, 5), (⟨"SlotScreen$Screen", "spriteZoom", "()I"⟩, 5), (⟨"SlotScreen$Screen", "drawSpriteRow", "(III)V"⟩, 5), (⟨"SlotScreen$Screen", "spriteBits", "(II)I"⟩, 5), (⟨"SlotScreen$Screen", "coverPixel", "(III)V"⟩, 5), (⟨"java/lang/Throwable", "fillInStackTrace", "(I)Ljava/lang/Throwable;"⟩, 6), (⟨"SlotScreenModel", "slotOf", "(I)I"⟩, 16), (⟨"SlotScreenModel", "deviceAt", "(I)I"⟩, 16), (⟨"SlotScreenModel", "get", "(II)I"⟩, 16)]
theorem lw_r1 : ∀ q ∈ lw_privs_1, lw_okq q := List.forall_mem_cons.mpr ⟨lw_p0, List.forall_mem_cons.mpr ⟨lw_p1, List.forall_mem_cons.mpr ⟨lw_p2, List.forall_mem_cons.mpr ⟨lw_p3, List.forall_mem_cons.mpr ⟨lw_p4, List.forall_mem_cons.mpr ⟨lw_p5, List.forall_mem_cons.mpr ⟨lw_p6, List.forall_mem_cons.mpr ⟨lw_p7, List.forall_mem_cons.mpr ⟨lw_p8, List.forall_mem_cons.mpr ⟨lw_p9, List.forall_mem_cons.mpr ⟨lw_p10, List.forall_mem_cons.mpr ⟨lw_p11, List.forall_mem_cons.mpr ⟨lw_p12, List.forall_mem_cons.mpr ⟨lw_p13, List.forall_mem_cons.mpr ⟨lw_p14, List.forall_mem_cons.mpr ⟨lw_p15, fun _ h => absurd h List.not_mem_nil⟩⟩⟩⟩⟩⟩⟩⟩⟩⟩⟩⟩⟩⟩⟩⟩
theorem lw_p16 : lw_okq (⟨"SlotScreenModel", "placeOf", "(II)I"⟩, 16) := ⟨⟨by decide +kernel, by decide +kernel⟩, List.mem_of_getElem? (i := 525) (by decide +kernel), List.mem_of_getElem? (i := 618) (by decide +kernel), List.mem_of_getElem? (i := 619) (by decide +kernel)⟩
theorem lw_p17 : lw_okq (⟨"SlotScreenModel", "fetch", "()V"⟩, 16) := ⟨⟨by decide +kernel, by decide +kernel⟩, List.mem_of_getElem? (i := 525) (by decide +kernel), List.mem_of_getElem? (i := 634) (by decide +kernel), List.mem_of_getElem? (i := 635) (by decide +kernel)⟩
theorem lw_p18 : lw_okq (⟨"SlotScreenModel", "goOn", "()V"⟩, 16) := ⟨⟨by decide +kernel, by decide +kernel⟩, List.mem_of_getElem? (i := 525) (by decide +kernel), List.mem_of_getElem? (i := 638) (by decide +kernel), List.mem_of_getElem? (i := 639) (by decide +kernel)⟩
theorem lw_p19 : lw_okq (⟨"SlotScreenModel", "control", "(I)V"⟩, 16) := ⟨⟨by decide +kernel, by decide +kernel⟩, List.mem_of_getElem? (i := 525) (by decide +kernel), List.mem_of_getElem? (i := 646) (by decide +kernel), List.mem_of_getElem? (i := 647) (by decide +kernel)⟩
theorem lw_p20 : lw_okq (⟨"SlotScreenModel", "bit", "(II)Z"⟩, 16) := ⟨⟨by decide +kernel, by decide +kernel⟩, List.mem_of_getElem? (i := 525) (by decide +kernel), List.mem_of_getElem? (i := 654) (by decide +kernel), List.mem_of_getElem? (i := 655) (by decide +kernel)⟩
theorem lw_p21 : lw_okq (⟨"SlotScreenModel", "there", "()I"⟩, 16) := ⟨⟨by decide +kernel, by decide +kernel⟩, List.mem_of_getElem? (i := 525) (by decide +kernel), List.mem_of_getElem? (i := 658) (by decide +kernel), List.mem_of_getElem? (i := 659) (by decide +kernel)⟩
theorem lw_p22 : lw_okq (⟨"SlotScreenModel", "sprite", "(II)I"⟩, 16) := ⟨⟨by decide +kernel, by decide +kernel⟩, List.mem_of_getElem? (i := 525) (by decide +kernel), List.mem_of_getElem? (i := 662) (by decide +kernel), List.mem_of_getElem? (i := 663) (by decide +kernel)⟩
theorem lw_p23 : lw_okq (⟨"SlotScreenModel", "tellFifth", "(I)V"⟩, 16) := ⟨⟨by decide +kernel, by decide +kernel⟩, List.mem_of_getElem? (i := 525) (by decide +kernel), List.mem_of_getElem? (i := 666) (by decide +kernel), List.mem_of_getElem? (i := 667) (by decide +kernel)⟩
theorem lw_p24 : lw_okq (⟨"SlotScreenModel", "rowOn", "(II)I"⟩, 16) := ⟨⟨by decide +kernel, by decide +kernel⟩, List.mem_of_getElem? (i := 525) (by decide +kernel), List.mem_of_getElem? (i := 670) (by decide +kernel), List.mem_of_getElem? (i := 671) (by decide +kernel)⟩
theorem lw_p25 : lw_okq (⟨"SlotScreenModel", "size", "()I"⟩, 16) := ⟨⟨by decide +kernel, by decide +kernel⟩, List.mem_of_getElem? (i := 525) (by decide +kernel), List.mem_of_getElem? (i := 674) (by decide +kernel), List.mem_of_getElem? (i := 675) (by decide +kernel)⟩
theorem lw_p26 : lw_okq (⟨"SlotScreenModel", "times", "()I"⟩, 16) := ⟨⟨by decide +kernel, by decide +kernel⟩, List.mem_of_getElem? (i := 525) (by decide +kernel), List.mem_of_getElem? (i := 678) (by decide +kernel), List.mem_of_getElem? (i := 679) (by decide +kernel)⟩
theorem lw_p27 : lw_okq (⟨"SlotScreenModel", "color", "(II)I"⟩, 16) := ⟨⟨by decide +kernel, by decide +kernel⟩, List.mem_of_getElem? (i := 525) (by decide +kernel), List.mem_of_getElem? (i := 682) (by decide +kernel), List.mem_of_getElem? (i := 683) (by decide +kernel)⟩
theorem lw_p28 : lw_okq (⟨"SlotScreenModel", "has", "(III)Z"⟩, 16) := ⟨⟨by decide +kernel, by decide +kernel⟩, List.mem_of_getElem? (i := 525) (by decide +kernel), List.mem_of_getElem? (i := 686) (by decide +kernel), List.mem_of_getElem? (i := 687) (by decide +kernel)⟩
theorem lw_p29 : lw_okq (⟨"SlotScreenModel", "tile", "(II)I"⟩, 16) := ⟨⟨by decide +kernel, by decide +kernel⟩, List.mem_of_getElem? (i := 525) (by decide +kernel), List.mem_of_getElem? (i := 690) (by decide +kernel), List.mem_of_getElem? (i := 691) (by decide +kernel)⟩
def lw_privs_2 : List (MethodName × Nat) := [(⟨"SlotScreenModel", "placeOf", "(II)I"⟩, 16), (⟨"SlotScreenModel", "fetch", "()V"⟩, 16), (⟨"SlotScreenModel", "goOn", "()V"⟩, 16), (⟨"SlotScreenModel", "control", "(I)V"⟩, 16), (⟨"SlotScreenModel", "bit", "(II)Z"⟩, 16), (⟨"SlotScreenModel", "there", "()I"⟩, 16), (⟨"SlotScreenModel", "sprite", "(II)I"⟩, 16), (⟨"SlotScreenModel", "tellFifth", "(I)V"⟩, 16), (⟨"SlotScreenModel", "rowOn", "(II)I"⟩, 16), (⟨"SlotScreenModel", "size", "()I"⟩, 16), (⟨"SlotScreenModel", "times", "()I"⟩, 16), (⟨"SlotScreenModel", "color", "(II)I"⟩, 16), (⟨"SlotScreenModel", "has", "(III)Z"⟩, 16), (⟨"SlotScreenModel", "tile", "(II)I"⟩, 16)]
theorem lw_r2 : ∀ q ∈ lw_privs_2, lw_okq q := List.forall_mem_cons.mpr ⟨lw_p16, List.forall_mem_cons.mpr ⟨lw_p17, List.forall_mem_cons.mpr ⟨lw_p18, List.forall_mem_cons.mpr ⟨lw_p19, List.forall_mem_cons.mpr ⟨lw_p20, List.forall_mem_cons.mpr ⟨lw_p21, List.forall_mem_cons.mpr ⟨lw_p22, List.forall_mem_cons.mpr ⟨lw_p23, List.forall_mem_cons.mpr ⟨lw_p24, List.forall_mem_cons.mpr ⟨lw_p25, List.forall_mem_cons.mpr ⟨lw_p26, List.forall_mem_cons.mpr ⟨lw_p27, List.forall_mem_cons.mpr ⟨lw_p28, List.forall_mem_cons.mpr ⟨lw_p29, fun _ h => absurd h List.not_mem_nil⟩⟩⟩⟩⟩⟩⟩⟩⟩⟩⟩⟩⟩⟩
def lw_privs : List (MethodName × Nat) := lw_privs_1 ++ (lw_privs_2)
def lw_tbl : List Cond := k2_sels lw_privs ++ tables_1
theorem lw_privs_ok : ∀ q ∈ lw_privs, lw_okq q := by
  show ∀ q ∈ lw_privs_1 ++ (lw_privs_2), lw_okq q
  exact List.forall_mem_append.mpr ⟨lw_r1, lw_r2⟩
end
section
/-! NAMES, by program (wip/whole/gen/names.py) -/
abbrev R_SS : String := "SlotScreen"
abbrev R_SL : String := "SlotScreen$Slots"
abbrev R_CH : String := "SlotScreen$Chip"
abbrev R_SC : String := "SlotScreen$Screen"
abbrev R_BK : String := "SlotScreen$Banks"
abbrev R_RA : String := "SlotScreen$Ram"
abbrev R_RO : String := "SlotScreen$Rom"
abbrev R_DV : String := "SlotScreen$Device"
abbrev R_MO : String := "SlotScreenModel"
abbrev R_LW : String := "SlotScreenLaw"
def T_SS : u_T := fun k => match k with
  | 0 => ("SlotScreen", "slots", "LSlotScreen$Slots;", true)
  | 1 => ("SlotScreen", "chip", "LSlotScreen$Chip;", true)
  | _ => ("SlotScreen", "screen", "LSlotScreen$Screen;", true)
def t_SS : Nat → FieldType := fun k => match k with
  | 0 => .object "SlotScreen$Slots"
  | 1 => .object "SlotScreen$Chip"
  | _ => .object "SlotScreen$Screen"
theorem n_SS : ∀ a, a < 3 → ∀ b, b < 3 → a ≠ b → (T_SS a).2.1 ≠ (T_SS b).2.1 := by decide +kernel
theorem o_SS : ∀ k, k < 3 → parseFieldDescriptor (T_SS k).2.2.1 = some (t_SS k) := by decide +kernel
def T_SL : u_T := fun k => match k with
  | 0 => ("SlotScreen$Slots", "devices", "[LSlotScreen$Device;", true)
  | 1 => ("SlotScreen$Slots", "wide", "[Z", true)
  | 2 => ("SlotScreen$Slots", "secondaries", "[I", true)
  | _ => ("SlotScreen$Slots", "primary", "I", false)
def t_SL : Nat → FieldType := fun k => match k with
  | 0 => .array (.object "SlotScreen$Device")
  | 1 => .array .boolean
  | 2 => .array .int
  | _ => .int
theorem n_SL : ∀ a, a < 4 → ∀ b, b < 4 → a ≠ b → (T_SL a).2.1 ≠ (T_SL b).2.1 := by decide +kernel
theorem o_SL : ∀ k, k < 4 → parseFieldDescriptor (T_SL k).2.2.1 = some (t_SL k) := by decide +kernel
def T_CH : u_T := fun k => match k with
  | 0 => ("SlotScreen$Chip", "bytes", "[I", true)
  | 1 => ("SlotScreen$Chip", "registers", "[I", true)
  | 2 => ("SlotScreen$Chip", "status", "I", false)
  | 3 => ("SlotScreen$Chip", "pointer", "I", false)
  | 4 => ("SlotScreen$Chip", "ready", "I", false)
  | _ => ("SlotScreen$Chip", "waiting", "I", false)
def t_CH : Nat → FieldType := fun k => match k with
  | 0 => .array .int
  | 1 => .array .int
  | 2 => .int
  | 3 => .int
  | 4 => .int
  | _ => .int
theorem n_CH : ∀ a, a < 6 → ∀ b, b < 6 → a ≠ b → (T_CH a).2.1 ≠ (T_CH b).2.1 := by decide +kernel
theorem o_CH : ∀ k, k < 6 → parseFieldDescriptor (T_CH k).2.2.1 = some (t_CH k) := by decide +kernel
def T_SC : u_T := fun k => match k with
  | 0 => ("SlotScreen$Screen", "chip", "LSlotScreen$Chip;", true)
  | 1 => ("SlotScreen$Screen", "colors", "[I", true)
  | 2 => ("SlotScreen$Screen", "next", "I", false)
  | 3 => ("SlotScreen$Screen", "covered", "J", false)
  | _ => ("SlotScreen$Screen", "colored", "J", false)
def t_SC : Nat → FieldType := fun k => match k with
  | 0 => .object "SlotScreen$Chip"
  | 1 => .array .int
  | 2 => .int
  | 3 => .long
  | _ => .long
theorem n_SC : ∀ a, a < 5 → ∀ b, b < 5 → a ≠ b → (T_SC a).2.1 ≠ (T_SC b).2.1 := by decide +kernel
theorem o_SC : ∀ k, k < 5 → parseFieldDescriptor (T_SC k).2.2.1 = some (t_SC k) := by decide +kernel
def T_BK : u_T := fun k => match k with
  | 0 => ("SlotScreen$Banks", "count", "I", true)
  | 1 => ("SlotScreen$Banks", "bytes", "[I", true)
  | _ => ("SlotScreen$Banks", "shown", "[I", true)
def t_BK : Nat → FieldType := fun k => match k with
  | 0 => .int
  | 1 => .array .int
  | _ => .array .int
theorem n_BK : ∀ a, a < 3 → ∀ b, b < 3 → a ≠ b → (T_BK a).2.1 ≠ (T_BK b).2.1 := by decide +kernel
theorem o_BK : ∀ k, k < 3 → parseFieldDescriptor (T_BK k).2.2.1 = some (t_BK k) := by decide +kernel
def T_RA : u_T := fun k => match k with
  | 0 => ("SlotScreen$Ram", "bytes", "[I", true)
  | _ => ("SlotScreen$Ram", "mask", "I", true)
def t_RA : Nat → FieldType := fun k => match k with
  | 0 => .array .int
  | _ => .int
theorem n_RA : ∀ a, a < 2 → ∀ b, b < 2 → a ≠ b → (T_RA a).2.1 ≠ (T_RA b).2.1 := by decide +kernel
theorem o_RA : ∀ k, k < 2 → parseFieldDescriptor (T_RA k).2.2.1 = some (t_RA k) := by decide +kernel
def T_RO : u_T := fun k => match k with
  | _ => ("SlotScreen$Rom", "bytes", "[I", true)
def t_RO : Nat → FieldType := fun k => match k with
  | _ => .array .int
theorem n_RO : ∀ a, a < 1 → ∀ b, b < 1 → a ≠ b → (T_RO a).2.1 ≠ (T_RO b).2.1 := by decide +kernel
theorem o_RO : ∀ k, k < 1 → parseFieldDescriptor (T_RO k).2.2.1 = some (t_RO k) := by decide +kernel
def T_MO : u_T := fun k => match k with
  | 0 => ("SlotScreenModel", "code", "I", false)
  | 1 => ("SlotScreenModel", "wide", "[Z", true)
  | 2 => ("SlotScreenModel", "secondary", "[I", true)
  | 3 => ("SlotScreenModel", "kind", "[I", true)
  | 4 => ("SlotScreenModel", "banks", "[I", true)
  | 5 => ("SlotScreenModel", "shown", "[I", true)
  | 6 => ("SlotScreenModel", "bytes", "[I", true)
  | 7 => ("SlotScreenModel", "primary", "I", false)
  | 8 => ("SlotScreenModel", "own", "[I", true)
  | 9 => ("SlotScreenModel", "registers", "[I", true)
  | 10 => ("SlotScreenModel", "status", "I", false)
  | 11 => ("SlotScreenModel", "pointer", "I", false)
  | 12 => ("SlotScreenModel", "ready", "I", false)
  | 13 => ("SlotScreenModel", "waits", "I", false)
  | 14 => ("SlotScreenModel", "line", "I", false)
  | _ => ("SlotScreenModel", "pixels", "[I", true)
def t_MO : Nat → FieldType := fun k => match k with
  | 0 => .int
  | 1 => .array .boolean
  | 2 => .array .int
  | 3 => .array .int
  | 4 => .array .int
  | 5 => .array .int
  | 6 => .array .int
  | 7 => .int
  | 8 => .array .int
  | 9 => .array .int
  | 10 => .int
  | 11 => .int
  | 12 => .int
  | 13 => .int
  | 14 => .int
  | _ => .array .int
theorem n_MO : ∀ a, a < 16 → ∀ b, b < 16 → a ≠ b → (T_MO a).2.1 ≠ (T_MO b).2.1 := by decide +kernel
theorem o_MO : ∀ k, k < 16 → parseFieldDescriptor (T_MO k).2.2.1 = some (t_MO k) := by decide +kernel
abbrev b_SS_init : ByteArray := prog_1_method_1_code
def y_SS_init : MethodName := ⟨R_SS, "<init>", "()V"⟩
abbrev b_SL_init : ByteArray := prog_8_method_1_code
def y_SL_init : MethodName := ⟨R_SL, "<init>", "()V"⟩
abbrev b_CH_init : ByteArray := prog_3_method_1_code
def y_CH_init : MethodName := ⟨R_CH, "<init>", "()V"⟩
abbrev b_SC_init : ByteArray := prog_7_method_1_code
def y_SC_init : MethodName := ⟨R_SC, "<init>", "(LSlotScreen$Chip;)V"⟩
abbrev b_SS_burn : ByteArray := prog_1_method_4_code
def y_SS_burn : MethodName := ⟨R_SS, "burn", "(IIII)Z"⟩
abbrev b_SS_isSlot : ByteArray := prog_1_method_16_code
def y_SS_isSlot : MethodName := ⟨R_SS, "isSlot", "(I)Z"⟩
abbrev b_SS_isPart : ByteArray := prog_1_method_17_code
def y_SS_isPart : MethodName := ⟨R_SS, "isPart", "(I)Z"⟩
abbrev b_SS_isByte : ByteArray := prog_1_method_19_code
def y_SS_isByte : MethodName := ⟨R_SS, "isByte", "(I)Z"⟩
abbrev b_SL_deviceIn : ByteArray := prog_8_method_5_code
def y_SL_deviceIn : MethodName := ⟨R_SL, "deviceIn", "(II)LSlotScreen$Device;"⟩
abbrev b_BK_fix : ByteArray := prog_2_method_4_code
def y_BK_fix : MethodName := ⟨R_BK, "fix", "(II)Z"⟩
abbrev b_RO_fix : ByteArray := prog_6_method_4_code
def y_RO_fix : MethodName := ⟨R_RO, "fix", "(II)Z"⟩
abbrev b_SS_isAddress : ByteArray := prog_1_method_18_code
def y_SS_isAddress : MethodName := ⟨R_SS, "isAddress", "(I)Z"⟩
abbrev b_DV_fix : ByteArray := prog_4_method_4_code
def y_DV_fix : MethodName := ⟨R_DV, "fix", "(II)Z"⟩
abbrev b_SS_in : ByteArray := prog_1_method_8_code
def y_SS_in : MethodName := ⟨R_SS, "in", "(I)I"⟩
abbrev b_CH_takeData : ByteArray := prog_3_method_5_code
def y_CH_takeData : MethodName := ⟨R_CH, "takeData", "()I"⟩
abbrev b_CH_makeReady : ByteArray := prog_3_method_13_code
def y_CH_makeReady : MethodName := ⟨R_CH, "makeReady", "()V"⟩
abbrev b_CH_takeStatus : ByteArray := prog_3_method_7_code
def y_CH_takeStatus : MethodName := ⟨R_CH, "takeStatus", "()I"⟩
abbrev b_SL_primary : ByteArray := prog_8_method_7_code
def y_SL_primary : MethodName := ⟨R_SL, "primary", "()I"⟩
abbrev b_SS_out : ByteArray := prog_1_method_9_code
def y_SS_out : MethodName := ⟨R_SS, "out", "(II)Z"⟩
abbrev b_CH_giveData : ByteArray := prog_3_method_6_code
def y_CH_giveData : MethodName := ⟨R_CH, "giveData", "(I)V"⟩
abbrev b_CH_giveControl : ByteArray := prog_3_method_8_code
def y_CH_giveControl : MethodName := ⟨R_CH, "giveControl", "(I)V"⟩
abbrev b_SL_setPrimary : ByteArray := prog_8_method_8_code
def y_SL_setPrimary : MethodName := ⟨R_SL, "setPrimary", "(I)V"⟩
abbrev b_SS_scan : ByteArray := prog_1_method_10_code
def y_SS_scan : MethodName := ⟨R_SS, "scan", "()I"⟩
abbrev b_SC_drawNextLine : ByteArray := prog_7_method_3_code
def y_SC_drawNextLine : MethodName := ⟨R_SC, "drawNextLine", "()I"⟩
abbrev b_CH_register : ByteArray := prog_3_method_3_code
def y_CH_register : MethodName := ⟨R_CH, "register", "(I)I"⟩
abbrev b_SC_drawBack : ByteArray := prog_7_method_4_code
def y_SC_drawBack : MethodName := ⟨R_SC, "drawBack", "(I)V"⟩
abbrev b_SC_backColor : ByteArray := prog_7_method_7_code
def y_SC_backColor : MethodName := ⟨R_SC, "backColor", "()I"⟩
abbrev b_SC_drawTiles : ByteArray := prog_7_method_5_code
def y_SC_drawTiles : MethodName := ⟨R_SC, "drawTiles", "(I)V"⟩
abbrev b_CH_byteAt : ByteArray := prog_3_method_2_code
def y_CH_byteAt : MethodName := ⟨R_CH, "byteAt", "(I)I"⟩
abbrev b_SC_drawTileRow : ByteArray := prog_7_method_6_code
def y_SC_drawTileRow : MethodName := ⟨R_SC, "drawTileRow", "(III)V"⟩
abbrev b_SC_orBack : ByteArray := prog_7_method_8_code
def y_SC_orBack : MethodName := ⟨R_SC, "orBack", "(I)I"⟩
abbrev b_SC_drawSprites : ByteArray := prog_7_method_9_code
def y_SC_drawSprites : MethodName := ⟨R_SC, "drawSprites", "(I)V"⟩
abbrev b_SC_spriteSide : ByteArray := prog_7_method_11_code
def y_SC_spriteSide : MethodName := ⟨R_SC, "spriteSide", "()I"⟩
abbrev b_SC_spriteZoom : ByteArray := prog_7_method_12_code
def y_SC_spriteZoom : MethodName := ⟨R_SC, "spriteZoom", "()I"⟩
abbrev b_SC_topLine : ByteArray := prog_7_method_10_code
def y_SC_topLine : MethodName := ⟨R_SC, "topLine", "(I)I"⟩
abbrev b_CH_noteFifth : ByteArray := prog_3_method_12_code
def y_CH_noteFifth : MethodName := ⟨R_CH, "noteFifth", "(I)V"⟩
abbrev b_SC_drawSpriteRow : ByteArray := prog_7_method_13_code
def y_SC_drawSpriteRow : MethodName := ⟨R_SC, "drawSpriteRow", "(III)V"⟩
abbrev b_SC_spriteBits : ByteArray := prog_7_method_14_code
def y_SC_spriteBits : MethodName := ⟨R_SC, "spriteBits", "(II)I"⟩
abbrev b_SC_coverPixel : ByteArray := prog_7_method_15_code
def y_SC_coverPixel : MethodName := ⟨R_SC, "coverPixel", "(III)V"⟩
abbrev b_CH_noteTouch : ByteArray := prog_3_method_11_code
def y_CH_noteTouch : MethodName := ⟨R_CH, "noteTouch", "()V"⟩
abbrev b_CH_noteFrame : ByteArray := prog_3_method_10_code
def y_CH_noteFrame : MethodName := ⟨R_CH, "noteFrame", "()V"⟩
abbrev b_SS_pixel : ByteArray := prog_1_method_11_code
def y_SS_pixel : MethodName := ⟨R_SS, "pixel", "(II)I"⟩
abbrev b_SC_colorAt : ByteArray := prog_7_method_2_code
def y_SC_colorAt : MethodName := ⟨R_SC, "colorAt", "(II)I"⟩
abbrev b_SS_video : ByteArray := prog_1_method_12_code
def y_SS_video : MethodName := ⟨R_SS, "video", "(I)I"⟩
abbrev b_SS_chip : ByteArray := prog_1_method_13_code
def y_SS_chip : MethodName := ⟨R_SS, "chip", "(I)I"⟩
abbrev b_CH_value : ByteArray := prog_3_method_4_code
def y_CH_value : MethodName := ⟨R_CH, "value", "(I)I"⟩
abbrev b_SS_secondary : ByteArray := prog_1_method_14_code
def y_SS_secondary : MethodName := ⟨R_SS, "secondary", "(I)I"⟩
abbrev b_SL_isWide : ByteArray := prog_8_method_2_code
def y_SL_isWide : MethodName := ⟨R_SL, "isWide", "(I)Z"⟩
abbrev b_SL_secondaryOf : ByteArray := prog_8_method_9_code
def y_SL_secondaryOf : MethodName := ⟨R_SL, "secondaryOf", "(I)I"⟩
abbrev b_SS_calls : ByteArray := prog_1_method_15_code
def y_SS_calls : MethodName := ⟨R_SS, "calls", "()Z"⟩
abbrev b_CH_wantsAttention : ByteArray := prog_3_method_9_code
def y_CH_wantsAttention : MethodName := ⟨R_CH, "wantsAttention", "()Z"⟩
abbrev b_LW_widen : ByteArray := method_3_code
def y_LW_widen : MethodName := ⟨R_LW, "widen", "(LSlotScreen;I)I"⟩
abbrev b_SS_widen : ByteArray := prog_1_method_2_code
def y_SS_widen : MethodName := ⟨R_SS, "widen", "(I)V"⟩
abbrev b_SL_makeWide : ByteArray := prog_8_method_3_code
def y_SL_makeWide : MethodName := ⟨R_SL, "makeWide", "(I)V"⟩
abbrev b_LW_plug : ByteArray := method_4_code
def y_LW_plug : MethodName := ⟨R_LW, "plug", "(LSlotScreen;IIII)I"⟩
abbrev b_SS_plug : ByteArray := prog_1_method_3_code
def y_SS_plug : MethodName := ⟨R_SS, "plug", "(IIII)V"⟩
abbrev b_SS_isDevice : ByteArray := prog_1_method_20_code
def y_SS_isDevice : MethodName := ⟨R_SS, "isDevice", "(II)Z"⟩
abbrev b_SL_hasPart : ByteArray := prog_8_method_4_code
def y_SL_hasPart : MethodName := ⟨R_SL, "hasPart", "(II)Z"⟩
abbrev b_SS_newDevice : ByteArray := prog_1_method_21_code
def y_SS_newDevice : MethodName := ⟨R_SS, "newDevice", "(II)LSlotScreen$Device;"⟩
abbrev b_RA_init : ByteArray := prog_5_method_1_code
def y_RA_init : MethodName := ⟨R_RA, "<init>", "(I)V"⟩
abbrev b_DV_init : ByteArray := prog_4_method_1_code
def y_DV_init : MethodName := ⟨R_DV, "<init>", "()V"⟩
abbrev b_RO_init : ByteArray := prog_6_method_1_code
def y_RO_init : MethodName := ⟨R_RO, "<init>", "()V"⟩
abbrev b_BK_init : ByteArray := prog_2_method_1_code
def y_BK_init : MethodName := ⟨R_BK, "<init>", "(I)V"⟩
abbrev b_SL_put : ByteArray := prog_8_method_6_code
def y_SL_put : MethodName := ⟨R_SL, "put", "(IILSlotScreen$Device;)V"⟩
abbrev b_LW_read : ByteArray := method_5_code
def y_LW_read : MethodName := ⟨R_LW, "read", "(LSlotScreen;I[J)I"⟩
abbrev b_SS_read : ByteArray := prog_1_method_5_code
def y_SS_read : MethodName := ⟨R_SS, "read", "(I)I"⟩
abbrev b_SL_slotAt : ByteArray := prog_8_method_10_code
def y_SL_slotAt : MethodName := ⟨R_SL, "slotAt", "(I)I"⟩
abbrev b_SL_pageBits : ByteArray := prog_8_method_14_code
def y_SL_pageBits : MethodName := ⟨R_SL, "pageBits", "(II)I"⟩
abbrev b_SL_partAt : ByteArray := prog_8_method_11_code
def y_SL_partAt : MethodName := ⟨R_SL, "partAt", "(II)I"⟩
abbrev b_SL_byteIn : ByteArray := prog_8_method_12_code
def y_SL_byteIn : MethodName := ⟨R_SL, "byteIn", "(III)I"⟩
abbrev b_BK_byteAt : ByteArray := prog_2_method_2_code
def y_BK_byteAt : MethodName := ⟨R_BK, "byteAt", "(I)I"⟩
abbrev b_BK_isInWindow : ByteArray := prog_2_method_5_code
def y_BK_isInWindow : MethodName := ⟨R_BK, "isInWindow", "(I)Z"⟩
abbrev b_BK_windowOf : ByteArray := prog_2_method_6_code
def y_BK_windowOf : MethodName := ⟨R_BK, "windowOf", "(I)I"⟩
abbrev b_RA_byteAt : ByteArray := prog_5_method_2_code
def y_RA_byteAt : MethodName := ⟨R_RA, "byteAt", "(I)I"⟩
abbrev b_RO_byteAt : ByteArray := prog_6_method_2_code
def y_RO_byteAt : MethodName := ⟨R_RO, "byteAt", "(I)I"⟩
abbrev b_LW_write : ByteArray := method_6_code
def y_LW_write : MethodName := ⟨R_LW, "write", "(LSlotScreen;II)I"⟩
abbrev b_SS_write : ByteArray := prog_1_method_6_code
def y_SS_write : MethodName := ⟨R_SS, "write", "(II)V"⟩
abbrev b_SL_store : ByteArray := prog_8_method_13_code
def y_SL_store : MethodName := ⟨R_SL, "store", "(II)V"⟩
abbrev b_BK_store : ByteArray := prog_2_method_3_code
def y_BK_store : MethodName := ⟨R_BK, "store", "(II)V"⟩
abbrev b_RA_store : ByteArray := prog_5_method_3_code
def y_RA_store : MethodName := ⟨R_RA, "store", "(II)V"⟩
abbrev b_RO_store : ByteArray := prog_6_method_3_code
def y_RO_store : MethodName := ⟨R_RO, "store", "(II)V"⟩
abbrev b_LW_far : ByteArray := method_7_code
def y_LW_far : MethodName := ⟨R_LW, "far", "(LSlotScreen;III[J)I"⟩
abbrev b_SS_far : ByteArray := prog_1_method_7_code
def y_SS_far : MethodName := ⟨R_SS, "far", "(III)I"⟩
abbrev b_MO_init : ByteArray := prog_10_method_1_code
def y_MO_init : MethodName := ⟨R_MO, "<init>", "()V"⟩
abbrev b_MO_thrown : ByteArray := prog_10_method_2_code
def y_MO_thrown : MethodName := ⟨R_MO, "thrown", "()I"⟩
abbrev b_MO_widen : ByteArray := prog_10_method_4_code
def y_MO_widen : MethodName := ⟨R_MO, "widen", "(I)V"⟩
abbrev b_MO_within : ByteArray := prog_10_method_3_code
def y_MO_within : MethodName := ⟨R_MO, "within", "(III)Z"⟩
abbrev b_MO_plug : ByteArray := prog_10_method_5_code
def y_MO_plug : MethodName := ⟨R_MO, "plug", "(IIII)V"⟩
abbrev b_MO_burn : ByteArray := prog_10_method_6_code
def y_MO_burn : MethodName := ⟨R_MO, "burn", "(IIII)Z"⟩
abbrev b_MO_read : ByteArray := prog_10_method_12_code
def y_MO_read : MethodName := ⟨R_MO, "read", "(I)I"⟩
abbrev b_MO_slotOf : ByteArray := prog_10_method_9_code
def y_MO_slotOf : MethodName := ⟨R_MO, "slotOf", "(I)I"⟩
abbrev b_MO_bits : ByteArray := prog_10_method_10_code
def y_MO_bits : MethodName := ⟨R_MO, "bits", "(II)I"⟩
abbrev b_MO_deviceAt : ByteArray := prog_10_method_11_code
def y_MO_deviceAt : MethodName := ⟨R_MO, "deviceAt", "(I)I"⟩
abbrev b_MO_get : ByteArray := prog_10_method_8_code
def y_MO_get : MethodName := ⟨R_MO, "get", "(II)I"⟩
abbrev b_MO_placeOf : ByteArray := prog_10_method_7_code
def y_MO_placeOf : MethodName := ⟨R_MO, "placeOf", "(II)I"⟩
abbrev b_MO_write : ByteArray := prog_10_method_13_code
def y_MO_write : MethodName := ⟨R_MO, "write", "(II)V"⟩
abbrev b_MO_far : ByteArray := prog_10_method_14_code
def y_MO_far : MethodName := ⟨R_MO, "far", "(III)I"⟩
abbrev b_MO_in : ByteArray := prog_10_method_17_code
def y_MO_in : MethodName := ⟨R_MO, "in", "(I)I"⟩
abbrev b_MO_fetch : ByteArray := prog_10_method_16_code
def y_MO_fetch : MethodName := ⟨R_MO, "fetch", "()V"⟩
abbrev b_MO_goOn : ByteArray := prog_10_method_15_code
def y_MO_goOn : MethodName := ⟨R_MO, "goOn", "()V"⟩
abbrev b_MO_out : ByteArray := prog_10_method_19_code
def y_MO_out : MethodName := ⟨R_MO, "out", "(II)Z"⟩
abbrev b_MO_control : ByteArray := prog_10_method_18_code
def y_MO_control : MethodName := ⟨R_MO, "control", "(I)V"⟩
abbrev b_MO_scan : ByteArray := prog_10_method_30_code
def y_MO_scan : MethodName := ⟨R_MO, "scan", "()I"⟩
abbrev b_MO_bit : ByteArray := prog_10_method_20_code
def y_MO_bit : MethodName := ⟨R_MO, "bit", "(II)Z"⟩
abbrev b_MO_there : ByteArray := prog_10_method_25_code
def y_MO_there : MethodName := ⟨R_MO, "there", "()I"⟩
abbrev b_MO_sprite : ByteArray := prog_10_method_21_code
def y_MO_sprite : MethodName := ⟨R_MO, "sprite", "(II)I"⟩
abbrev b_MO_tellFifth : ByteArray := prog_10_method_29_code
def y_MO_tellFifth : MethodName := ⟨R_MO, "tellFifth", "(I)V"⟩
abbrev b_MO_rowOn : ByteArray := prog_10_method_24_code
def y_MO_rowOn : MethodName := ⟨R_MO, "rowOn", "(II)I"⟩
abbrev b_MO_size : ByteArray := prog_10_method_22_code
def y_MO_size : MethodName := ⟨R_MO, "size", "()I"⟩
abbrev b_MO_times : ByteArray := prog_10_method_23_code
def y_MO_times : MethodName := ⟨R_MO, "times", "()I"⟩
abbrev b_MO_color : ByteArray := prog_10_method_28_code
def y_MO_color : MethodName := ⟨R_MO, "color", "(II)I"⟩
abbrev b_MO_has : ByteArray := prog_10_method_26_code
def y_MO_has : MethodName := ⟨R_MO, "has", "(III)Z"⟩
abbrev b_MO_tile : ByteArray := prog_10_method_27_code
def y_MO_tile : MethodName := ⟨R_MO, "tile", "(II)I"⟩
abbrev b_MO_pixel : ByteArray := prog_10_method_31_code
def y_MO_pixel : MethodName := ⟨R_MO, "pixel", "(II)I"⟩
abbrev b_MO_video : ByteArray := prog_10_method_32_code
def y_MO_video : MethodName := ⟨R_MO, "video", "(I)I"⟩
abbrev b_MO_chip : ByteArray := prog_10_method_33_code
def y_MO_chip : MethodName := ⟨R_MO, "chip", "(I)I"⟩
abbrev b_MO_secondary : ByteArray := prog_10_method_34_code
def y_MO_secondary : MethodName := ⟨R_MO, "secondary", "(I)I"⟩
abbrev b_MO_calls : ByteArray := prog_10_method_35_code
def y_MO_calls : MethodName := ⟨R_MO, "calls", "()Z"⟩
def y_DV_byteAt : MethodName := ⟨R_DV, "byteAt", "(I)I"⟩
def y_DV_store : MethodName := ⟨R_DV, "store", "(II)V"⟩
abbrev vwCl : List vw_C := [(R_SS, T_SS, 3), (R_SL, T_SL, 4), (R_CH, T_CH, 6), (R_SC, T_SC, 5), (R_BK, T_BK, 3), (R_RA, T_RA, 2), (R_RO, T_RO, 1), (R_MO, T_MO, 16)]
/-- the words that may be handed on to every callee -/
def GW : List Cond := lw_tbl.filter goodWord
theorem gw_t {w : Cond} (i : Nat) (h : tables_1[i]? = some w) (hg : goodWord w = true) : w ∈ GW := List.mem_filter.mpr ⟨List.mem_append_right _ (List.mem_of_getElem? h), hg⟩
theorem gw_p {w : Cond} (i : Nat) (h : (k2_sels lw_privs)[i]? = some w) (hg : goodWord w = true) : w ∈ GW := List.mem_filter.mpr ⟨List.mem_append_left _ (List.mem_of_getElem? h), hg⟩
theorem gw_good : ∀ w ∈ GW, (w.onTables && w.keeps) = true ∨ ∃ ty, w = .arrayClass ty := fun w h => good_of_word (List.mem_filter.mp h).2
end
section
/-! WORDS of the tables, by their places -/
theorem w_0 : (Cond.initialized "SlotScreenLaw") ∈ GW := gw_t 0 (by decide +kernel) (by decide +kernel)
theorem w_1 : (Cond.initialized "SlotScreen") ∈ GW := gw_t 1 (by decide +kernel) (by decide +kernel)
theorem w_2 : (Cond.initialized "SlotScreen$Slots") ∈ GW := gw_t 2 (by decide +kernel) (by decide +kernel)
theorem w_3 : (Cond.initialized "SlotScreen$Chip") ∈ GW := gw_t 3 (by decide +kernel) (by decide +kernel)
theorem w_4 : (Cond.initialized "SlotScreen$Screen") ∈ GW := gw_t 4 (by decide +kernel) (by decide +kernel)
theorem w_5 : (Cond.initialized "SlotScreenModel") ∈ GW := gw_t 5 (by decide +kernel) (by decide +kernel)
theorem w_11 : (Cond.initialized "SlotScreen$Device") ∈ GW := gw_t 11 (by decide +kernel) (by decide +kernel)
theorem w_12 : (Cond.initialized "SlotScreen$Ram") ∈ GW := gw_t 12 (by decide +kernel) (by decide +kernel)
theorem w_13 : (Cond.initialized "SlotScreen$Rom") ∈ GW := gw_t 13 (by decide +kernel) (by decide +kernel)
theorem w_14 : (Cond.initialized "SlotScreen$Banks") ∈ GW := gw_t 14 (by decide +kernel) (by decide +kernel)
theorem w_15 : (Cond.classLink "SlotScreenLaw" 8 "SlotScreen") ∈ GW := gw_t 15 (by decide +kernel) (by decide +kernel)
theorem w_16 : (Cond.instantiable "SlotScreen" 3) ∈ GW := gw_t 16 (by decide +kernel) (by decide +kernel)
theorem w_17 : (Cond.methodLink "SlotScreenLaw" 33 y_SS_init) ∈ GW := gw_t 17 (by decide +kernel) (by decide +kernel)
theorem w_18 : (Cond.instanceMethod y_SS_init) ∈ GW := gw_t 18 (by decide +kernel) (by decide +kernel)
theorem w_19 : (Cond.code y_SS_init prog_1_method_1_code 1 none) ∈ GW := gw_t 19 (by decide +kernel) (by decide +kernel)
theorem w_20 : (Cond.methodLink "SlotScreen" 1 ⟨"java/lang/Object", "<init>", "()V"⟩) ∈ GW := gw_t 20 (by decide +kernel) (by decide +kernel)
theorem w_21 : (Cond.instanceMethod ⟨"java/lang/Object", "<init>", "()V"⟩) ∈ GW := gw_t 21 (by decide +kernel) (by decide +kernel)
theorem w_22 : (Cond.code ⟨"java/lang/Object", "<init>", "()V"⟩ object_method_1_code 1 none) ∈ GW := gw_t 22 (by decide +kernel) (by decide +kernel)
theorem w_23 : (Cond.classLink "SlotScreen" 7 "SlotScreen$Slots") ∈ GW := gw_t 23 (by decide +kernel) (by decide +kernel)
theorem w_24 : (Cond.instantiable "SlotScreen$Slots" 4) ∈ GW := gw_t 24 (by decide +kernel) (by decide +kernel)
theorem w_26 : (Cond.instanceMethod y_SL_init) ∈ GW := gw_t 26 (by decide +kernel) (by decide +kernel)
theorem w_27 : (Cond.code y_SL_init prog_8_method_1_code 1 none) ∈ GW := gw_t 27 (by decide +kernel) (by decide +kernel)
theorem w_28 : (Cond.methodLink "SlotScreen$Slots" 3 ⟨"java/lang/Object", "<init>", "()V"⟩) ∈ GW := gw_t 28 (by decide +kernel) (by decide +kernel)
theorem w_29 : (Cond.classLink "SlotScreen$Slots" 9 "SlotScreen$Device") ∈ GW := gw_t 29 (by decide +kernel) (by decide +kernel)
theorem w_31 : (Cond.fieldLink "SlotScreen$Slots" 11 "SlotScreen$Slots" "devices" "[LSlotScreen$Device;") ∈ GW := gw_t 31 (by decide +kernel) (by decide +kernel)
theorem w_32 : (Cond.fieldLink "SlotScreen$Slots" 17 "SlotScreen$Slots" "wide" "[Z") ∈ GW := gw_t 32 (by decide +kernel) (by decide +kernel)
theorem w_33 : (Cond.fieldLink "SlotScreen$Slots" 21 "SlotScreen$Slots" "secondaries" "[I") ∈ GW := gw_t 33 (by decide +kernel) (by decide +kernel)
theorem w_34 : (Cond.fieldLink "SlotScreen$Slots" 25 "SlotScreen$Slots" "primary" "I") ∈ GW := gw_t 34 (by decide +kernel) (by decide +kernel)
theorem w_35 : (Cond.laysFinal "SlotScreen$Slots" "SlotScreen$Slots" "devices" "[LSlotScreen$Device;") ∈ GW := gw_t 35 (by decide +kernel) (by decide +kernel)
theorem w_37 : (Cond.laysFinal "SlotScreen$Slots" "SlotScreen$Slots" "wide" "[Z") ∈ GW := gw_t 37 (by decide +kernel) (by decide +kernel)
theorem w_39 : (Cond.laysFinal "SlotScreen$Slots" "SlotScreen$Slots" "secondaries" "[I") ∈ GW := gw_t 39 (by decide +kernel) (by decide +kernel)
theorem w_41 : (Cond.lays "SlotScreen$Slots" "SlotScreen$Slots" "primary" "I") ∈ GW := gw_t 41 (by decide +kernel) (by decide +kernel)
theorem w_44 : (Cond.arrayClass .boolean) ∈ GW := gw_t 44 (by decide +kernel) (by decide +kernel)
theorem w_45 : (Cond.arrayClass .int) ∈ GW := gw_t 45 (by decide +kernel) (by decide +kernel)
theorem w_46 : (Cond.classLink "SlotScreen" 16 "SlotScreen$Chip") ∈ GW := gw_t 46 (by decide +kernel) (by decide +kernel)
theorem w_47 : (Cond.instantiable "SlotScreen$Chip" 6) ∈ GW := gw_t 47 (by decide +kernel) (by decide +kernel)
theorem w_49 : (Cond.instanceMethod y_CH_init) ∈ GW := gw_t 49 (by decide +kernel) (by decide +kernel)
theorem w_50 : (Cond.code y_CH_init prog_3_method_1_code 1 none) ∈ GW := gw_t 50 (by decide +kernel) (by decide +kernel)
theorem w_51 : (Cond.methodLink "SlotScreen$Chip" 3 ⟨"java/lang/Object", "<init>", "()V"⟩) ∈ GW := gw_t 51 (by decide +kernel) (by decide +kernel)
theorem w_52 : (Cond.fieldLink "SlotScreen$Chip" 11 "SlotScreen$Chip" "bytes" "[I") ∈ GW := gw_t 52 (by decide +kernel) (by decide +kernel)
theorem w_53 : (Cond.fieldLink "SlotScreen$Chip" 15 "SlotScreen$Chip" "registers" "[I") ∈ GW := gw_t 53 (by decide +kernel) (by decide +kernel)
theorem w_54 : (Cond.fieldLink "SlotScreen$Chip" 22 "SlotScreen$Chip" "status" "I") ∈ GW := gw_t 54 (by decide +kernel) (by decide +kernel)
theorem w_55 : (Cond.fieldLink "SlotScreen$Chip" 25 "SlotScreen$Chip" "pointer" "I") ∈ GW := gw_t 55 (by decide +kernel) (by decide +kernel)
theorem w_56 : (Cond.fieldLink "SlotScreen$Chip" 28 "SlotScreen$Chip" "ready" "I") ∈ GW := gw_t 56 (by decide +kernel) (by decide +kernel)
theorem w_57 : (Cond.fieldLink "SlotScreen$Chip" 18 "SlotScreen$Chip" "waiting" "I") ∈ GW := gw_t 57 (by decide +kernel) (by decide +kernel)
theorem w_58 : (Cond.laysFinal "SlotScreen$Chip" "SlotScreen$Chip" "bytes" "[I") ∈ GW := gw_t 58 (by decide +kernel) (by decide +kernel)
theorem w_60 : (Cond.laysFinal "SlotScreen$Chip" "SlotScreen$Chip" "registers" "[I") ∈ GW := gw_t 60 (by decide +kernel) (by decide +kernel)
theorem w_62 : (Cond.lays "SlotScreen$Chip" "SlotScreen$Chip" "status" "I") ∈ GW := gw_t 62 (by decide +kernel) (by decide +kernel)
theorem w_64 : (Cond.lays "SlotScreen$Chip" "SlotScreen$Chip" "pointer" "I") ∈ GW := gw_t 64 (by decide +kernel) (by decide +kernel)
theorem w_66 : (Cond.lays "SlotScreen$Chip" "SlotScreen$Chip" "ready" "I") ∈ GW := gw_t 66 (by decide +kernel) (by decide +kernel)
theorem w_68 : (Cond.lays "SlotScreen$Chip" "SlotScreen$Chip" "waiting" "I") ∈ GW := gw_t 68 (by decide +kernel) (by decide +kernel)
theorem w_71 : (Cond.classLink "SlotScreen" 23 "SlotScreen$Screen") ∈ GW := gw_t 71 (by decide +kernel) (by decide +kernel)
theorem w_72 : (Cond.instantiable "SlotScreen$Screen" 5) ∈ GW := gw_t 72 (by decide +kernel) (by decide +kernel)
theorem w_73 : (Cond.methodLink "SlotScreen" 25 y_SC_init) ∈ GW := gw_t 73 (by decide +kernel) (by decide +kernel)
theorem w_74 : (Cond.instanceMethod y_SC_init) ∈ GW := gw_t 74 (by decide +kernel) (by decide +kernel)
theorem w_75 : (Cond.code y_SC_init prog_7_method_1_code 2 none) ∈ GW := gw_t 75 (by decide +kernel) (by decide +kernel)
theorem w_76 : (Cond.methodLink "SlotScreen$Screen" 5 ⟨"java/lang/Object", "<init>", "()V"⟩) ∈ GW := gw_t 76 (by decide +kernel) (by decide +kernel)
theorem w_77 : (Cond.fieldLink "SlotScreen$Screen" 15 "SlotScreen$Screen" "chip" "LSlotScreen$Chip;") ∈ GW := gw_t 77 (by decide +kernel) (by decide +kernel)
theorem w_78 : (Cond.fieldLink "SlotScreen$Screen" 11 "SlotScreen$Screen" "colors" "[I") ∈ GW := gw_t 78 (by decide +kernel) (by decide +kernel)
theorem w_79 : (Cond.fieldLink "SlotScreen$Screen" 19 "SlotScreen$Screen" "next" "I") ∈ GW := gw_t 79 (by decide +kernel) (by decide +kernel)
theorem w_80 : (Cond.fieldLink "SlotScreen$Screen" 56 "SlotScreen$Screen" "covered" "J") ∈ GW := gw_t 80 (by decide +kernel) (by decide +kernel)
theorem w_81 : (Cond.fieldLink "SlotScreen$Screen" 60 "SlotScreen$Screen" "colored" "J") ∈ GW := gw_t 81 (by decide +kernel) (by decide +kernel)
theorem w_82 : (Cond.laysFinal "SlotScreen$Screen" "SlotScreen$Screen" "chip" "LSlotScreen$Chip;") ∈ GW := gw_t 82 (by decide +kernel) (by decide +kernel)
theorem w_84 : (Cond.laysFinal "SlotScreen$Screen" "SlotScreen$Screen" "colors" "[I") ∈ GW := gw_t 84 (by decide +kernel) (by decide +kernel)
theorem w_86 : (Cond.lays "SlotScreen$Screen" "SlotScreen$Screen" "next" "I") ∈ GW := gw_t 86 (by decide +kernel) (by decide +kernel)
theorem w_88 : (Cond.lays "SlotScreen$Screen" "SlotScreen$Screen" "covered" "J") ∈ GW := gw_t 88 (by decide +kernel) (by decide +kernel)
theorem w_90 : (Cond.lays "SlotScreen$Screen" "SlotScreen$Screen" "colored" "J") ∈ GW := gw_t 90 (by decide +kernel) (by decide +kernel)
theorem w_93 : (Cond.fieldLink "SlotScreen" 10 "SlotScreen" "slots" "LSlotScreen$Slots;") ∈ GW := gw_t 93 (by decide +kernel) (by decide +kernel)
theorem w_94 : (Cond.fieldLink "SlotScreen" 19 "SlotScreen" "chip" "LSlotScreen$Chip;") ∈ GW := gw_t 94 (by decide +kernel) (by decide +kernel)
theorem w_95 : (Cond.fieldLink "SlotScreen" 28 "SlotScreen" "screen" "LSlotScreen$Screen;") ∈ GW := gw_t 95 (by decide +kernel) (by decide +kernel)
theorem w_96 : (Cond.laysFinal "SlotScreen" "SlotScreen" "slots" "LSlotScreen$Slots;") ∈ GW := gw_t 96 (by decide +kernel) (by decide +kernel)
theorem w_98 : (Cond.laysFinal "SlotScreen" "SlotScreen" "chip" "LSlotScreen$Chip;") ∈ GW := gw_t 98 (by decide +kernel) (by decide +kernel)
theorem w_100 : (Cond.laysFinal "SlotScreen" "SlotScreen" "screen" "LSlotScreen$Screen;") ∈ GW := gw_t 100 (by decide +kernel) (by decide +kernel)
theorem w_103 : (Cond.methodLink "SlotScreenLaw" 51 y_SS_burn) ∈ GW := gw_t 103 (by decide +kernel) (by decide +kernel)
theorem w_104 : (Cond.instanceMethod y_SS_burn) ∈ GW := gw_t 104 (by decide +kernel) (by decide +kernel)
theorem w_105 : (Cond.selects "SlotScreen" y_SS_burn y_SS_burn) ∈ GW := gw_t 105 (by decide +kernel) (by decide +kernel)
theorem w_106 : (Cond.code y_SS_burn prog_1_method_4_code 6 (some .boolean)) ∈ GW := gw_t 106 (by decide +kernel) (by decide +kernel)
theorem w_107 : (Cond.methodLink "SlotScreen" 32 y_SS_isSlot) ∈ GW := gw_t 107 (by decide +kernel) (by decide +kernel)
theorem w_108 : (Cond.static y_SS_isSlot) ∈ GW := gw_t 108 (by decide +kernel) (by decide +kernel)
theorem w_109 : (Cond.code y_SS_isSlot prog_1_method_16_code 1 (some .boolean)) ∈ GW := gw_t 109 (by decide +kernel) (by decide +kernel)
theorem w_110 : (Cond.methodLink "SlotScreen" 59 y_SS_isPart) ∈ GW := gw_t 110 (by decide +kernel) (by decide +kernel)
theorem w_111 : (Cond.static y_SS_isPart) ∈ GW := gw_t 111 (by decide +kernel) (by decide +kernel)
theorem w_112 : (Cond.code y_SS_isPart prog_1_method_17_code 1 (some .boolean)) ∈ GW := gw_t 112 (by decide +kernel) (by decide +kernel)
theorem w_113 : (Cond.methodLink "SlotScreen" 80 y_SS_isByte) ∈ GW := gw_t 113 (by decide +kernel) (by decide +kernel)
theorem w_114 : (Cond.static y_SS_isByte) ∈ GW := gw_t 114 (by decide +kernel) (by decide +kernel)
theorem w_115 : (Cond.code y_SS_isByte prog_1_method_19_code 1 (some .boolean)) ∈ GW := gw_t 115 (by decide +kernel) (by decide +kernel)
theorem w_116 : (Cond.methodLink "SlotScreen" 46 y_SL_deviceIn) ∈ GW := gw_t 116 (by decide +kernel) (by decide +kernel)
theorem w_117 : (Cond.instanceMethod y_SL_deviceIn) ∈ GW := gw_t 117 (by decide +kernel) (by decide +kernel)
theorem w_118 : (Cond.selects "SlotScreen$Slots" y_SL_deviceIn y_SL_deviceIn) ∈ GW := gw_t 118 (by decide +kernel) (by decide +kernel)
theorem w_119 : (Cond.code y_SL_deviceIn prog_8_method_5_code 3 (some (.object "SlotScreen$Device"))) ∈ GW := gw_t 119 (by decide +kernel) (by decide +kernel)
theorem w_120 : (Cond.methodLink "SlotScreen" 83 y_DV_fix) ∈ GW := gw_t 120 (by decide +kernel) (by decide +kernel)
theorem w_121 : (Cond.instanceMethod y_DV_fix) ∈ GW := gw_t 121 (by decide +kernel) (by decide +kernel)
theorem w_123 : (Cond.selects "SlotScreen$Banks" y_DV_fix y_BK_fix) ∈ GW := gw_t 123 (by decide +kernel) (by decide +kernel)
theorem w_124 : (Cond.instanceMethod y_BK_fix) ∈ GW := gw_t 124 (by decide +kernel) (by decide +kernel)
theorem w_125 : (Cond.code y_BK_fix prog_2_method_4_code 3 (some .boolean)) ∈ GW := gw_t 125 (by decide +kernel) (by decide +kernel)
theorem w_126 : (Cond.selects "SlotScreen$Ram" y_DV_fix y_DV_fix) ∈ GW := gw_t 126 (by decide +kernel) (by decide +kernel)
theorem w_127 : (Cond.selects "SlotScreen$Rom" y_DV_fix y_RO_fix) ∈ GW := gw_t 127 (by decide +kernel) (by decide +kernel)
theorem w_128 : (Cond.instanceMethod y_RO_fix) ∈ GW := gw_t 128 (by decide +kernel) (by decide +kernel)
theorem w_129 : (Cond.code y_RO_fix prog_6_method_4_code 3 (some .boolean)) ∈ GW := gw_t 129 (by decide +kernel) (by decide +kernel)
theorem w_131 : (Cond.static y_SS_isAddress) ∈ GW := gw_t 131 (by decide +kernel) (by decide +kernel)
theorem w_132 : (Cond.code y_SS_isAddress prog_1_method_18_code 1 (some .boolean)) ∈ GW := gw_t 132 (by decide +kernel) (by decide +kernel)
theorem w_133 : (Cond.code y_DV_fix prog_4_method_4_code 3 (some .boolean)) ∈ GW := gw_t 133 (by decide +kernel) (by decide +kernel)
theorem w_134 : (Cond.methodLink "SlotScreenLaw" 68 y_SS_in) ∈ GW := gw_t 134 (by decide +kernel) (by decide +kernel)
theorem w_135 : (Cond.instanceMethod y_SS_in) ∈ GW := gw_t 135 (by decide +kernel) (by decide +kernel)
theorem w_136 : (Cond.selects "SlotScreen" y_SS_in y_SS_in) ∈ GW := gw_t 136 (by decide +kernel) (by decide +kernel)
theorem w_137 : (Cond.code y_SS_in prog_1_method_8_code 2 (some .int)) ∈ GW := gw_t 137 (by decide +kernel) (by decide +kernel)
theorem w_138 : (Cond.methodLink "SlotScreen" 113 y_CH_takeData) ∈ GW := gw_t 138 (by decide +kernel) (by decide +kernel)
theorem w_139 : (Cond.instanceMethod y_CH_takeData) ∈ GW := gw_t 139 (by decide +kernel) (by decide +kernel)
theorem w_140 : (Cond.selects "SlotScreen$Chip" y_CH_takeData y_CH_takeData) ∈ GW := gw_t 140 (by decide +kernel) (by decide +kernel)
theorem w_141 : (Cond.code y_CH_takeData prog_3_method_5_code 2 (some .int)) ∈ GW := gw_t 141 (by decide +kernel) (by decide +kernel)
theorem w_142 : (Cond.methodLink "SlotScreen$Chip" 31 y_CH_makeReady) ∈ GW := gw_t 142 (by decide +kernel) (by decide +kernel)
theorem w_144 : (Cond.instanceMethod y_CH_makeReady) ∈ GW := gw_t 144 (by decide +kernel) (by decide +kernel)
theorem w_145 : (Cond.code y_CH_makeReady prog_3_method_13_code 1 none) ∈ GW := gw_t 145 (by decide +kernel) (by decide +kernel)
theorem w_146 : (Cond.methodLink "SlotScreen" 117 y_CH_takeStatus) ∈ GW := gw_t 146 (by decide +kernel) (by decide +kernel)
theorem w_147 : (Cond.instanceMethod y_CH_takeStatus) ∈ GW := gw_t 147 (by decide +kernel) (by decide +kernel)
theorem w_148 : (Cond.selects "SlotScreen$Chip" y_CH_takeStatus y_CH_takeStatus) ∈ GW := gw_t 148 (by decide +kernel) (by decide +kernel)
theorem w_149 : (Cond.code y_CH_takeStatus prog_3_method_7_code 2 (some .int)) ∈ GW := gw_t 149 (by decide +kernel) (by decide +kernel)
theorem w_150 : (Cond.methodLink "SlotScreen" 120 y_SL_primary) ∈ GW := gw_t 150 (by decide +kernel) (by decide +kernel)
theorem w_151 : (Cond.instanceMethod y_SL_primary) ∈ GW := gw_t 151 (by decide +kernel) (by decide +kernel)
theorem w_152 : (Cond.selects "SlotScreen$Slots" y_SL_primary y_SL_primary) ∈ GW := gw_t 152 (by decide +kernel) (by decide +kernel)
theorem w_153 : (Cond.code y_SL_primary prog_8_method_7_code 1 (some .int)) ∈ GW := gw_t 153 (by decide +kernel) (by decide +kernel)
theorem w_154 : (Cond.methodLink "SlotScreenLaw" 72 y_SS_out) ∈ GW := gw_t 154 (by decide +kernel) (by decide +kernel)
theorem w_155 : (Cond.instanceMethod y_SS_out) ∈ GW := gw_t 155 (by decide +kernel) (by decide +kernel)
theorem w_156 : (Cond.selects "SlotScreen" y_SS_out y_SS_out) ∈ GW := gw_t 156 (by decide +kernel) (by decide +kernel)
theorem w_157 : (Cond.code y_SS_out prog_1_method_9_code 3 (some .boolean)) ∈ GW := gw_t 157 (by decide +kernel) (by decide +kernel)
theorem w_158 : (Cond.methodLink "SlotScreen" 123 y_CH_giveData) ∈ GW := gw_t 158 (by decide +kernel) (by decide +kernel)
theorem w_159 : (Cond.instanceMethod y_CH_giveData) ∈ GW := gw_t 159 (by decide +kernel) (by decide +kernel)
theorem w_160 : (Cond.selects "SlotScreen$Chip" y_CH_giveData y_CH_giveData) ∈ GW := gw_t 160 (by decide +kernel) (by decide +kernel)
theorem w_161 : (Cond.code y_CH_giveData prog_3_method_6_code 2 none) ∈ GW := gw_t 161 (by decide +kernel) (by decide +kernel)
theorem w_162 : (Cond.methodLink "SlotScreen" 126 y_CH_giveControl) ∈ GW := gw_t 162 (by decide +kernel) (by decide +kernel)
theorem w_163 : (Cond.instanceMethod y_CH_giveControl) ∈ GW := gw_t 163 (by decide +kernel) (by decide +kernel)
theorem w_164 : (Cond.selects "SlotScreen$Chip" y_CH_giveControl y_CH_giveControl) ∈ GW := gw_t 164 (by decide +kernel) (by decide +kernel)
theorem w_165 : (Cond.code y_CH_giveControl prog_3_method_8_code 3 none) ∈ GW := gw_t 165 (by decide +kernel) (by decide +kernel)
theorem w_166 : (Cond.methodLink "SlotScreen" 129 y_SL_setPrimary) ∈ GW := gw_t 166 (by decide +kernel) (by decide +kernel)
theorem w_167 : (Cond.instanceMethod y_SL_setPrimary) ∈ GW := gw_t 167 (by decide +kernel) (by decide +kernel)
theorem w_168 : (Cond.selects "SlotScreen$Slots" y_SL_setPrimary y_SL_setPrimary) ∈ GW := gw_t 168 (by decide +kernel) (by decide +kernel)
theorem w_169 : (Cond.code y_SL_setPrimary prog_8_method_8_code 2 none) ∈ GW := gw_t 169 (by decide +kernel) (by decide +kernel)
theorem w_170 : (Cond.methodLink "SlotScreenLaw" 77 y_SS_scan) ∈ GW := gw_t 170 (by decide +kernel) (by decide +kernel)
theorem w_171 : (Cond.instanceMethod y_SS_scan) ∈ GW := gw_t 171 (by decide +kernel) (by decide +kernel)
theorem w_172 : (Cond.selects "SlotScreen" y_SS_scan y_SS_scan) ∈ GW := gw_t 172 (by decide +kernel) (by decide +kernel)
theorem w_173 : (Cond.code y_SS_scan prog_1_method_10_code 1 (some .int)) ∈ GW := gw_t 173 (by decide +kernel) (by decide +kernel)
theorem w_174 : (Cond.methodLink "SlotScreen" 132 y_SC_drawNextLine) ∈ GW := gw_t 174 (by decide +kernel) (by decide +kernel)
theorem w_175 : (Cond.instanceMethod y_SC_drawNextLine) ∈ GW := gw_t 175 (by decide +kernel) (by decide +kernel)
theorem w_176 : (Cond.selects "SlotScreen$Screen" y_SC_drawNextLine y_SC_drawNextLine) ∈ GW := gw_t 176 (by decide +kernel) (by decide +kernel)
theorem w_177 : (Cond.code y_SC_drawNextLine prog_7_method_3_code 2 (some .int)) ∈ GW := gw_t 177 (by decide +kernel) (by decide +kernel)
theorem w_178 : (Cond.methodLink "SlotScreen$Screen" 23 y_CH_register) ∈ GW := gw_t 178 (by decide +kernel) (by decide +kernel)
theorem w_179 : (Cond.instanceMethod y_CH_register) ∈ GW := gw_t 179 (by decide +kernel) (by decide +kernel)
theorem w_180 : (Cond.selects "SlotScreen$Chip" y_CH_register y_CH_register) ∈ GW := gw_t 180 (by decide +kernel) (by decide +kernel)
theorem w_181 : (Cond.code y_CH_register prog_3_method_3_code 2 (some .int)) ∈ GW := gw_t 181 (by decide +kernel) (by decide +kernel)
theorem w_182 : (Cond.methodLink "SlotScreen$Screen" 29 y_SC_drawBack) ∈ GW := gw_t 182 (by decide +kernel) (by decide +kernel)
theorem w_184 : (Cond.instanceMethod y_SC_drawBack) ∈ GW := gw_t 184 (by decide +kernel) (by decide +kernel)
theorem w_185 : (Cond.code y_SC_drawBack prog_7_method_4_code 4 none) ∈ GW := gw_t 185 (by decide +kernel) (by decide +kernel)
theorem w_186 : (Cond.methodLink "SlotScreen$Screen" 42 y_SC_backColor) ∈ GW := gw_t 186 (by decide +kernel) (by decide +kernel)
theorem w_188 : (Cond.instanceMethod y_SC_backColor) ∈ GW := gw_t 188 (by decide +kernel) (by decide +kernel)
theorem w_189 : (Cond.code y_SC_backColor prog_7_method_7_code 1 (some .int)) ∈ GW := gw_t 189 (by decide +kernel) (by decide +kernel)
theorem w_190 : (Cond.methodLink "SlotScreen$Screen" 33 y_SC_drawTiles) ∈ GW := gw_t 190 (by decide +kernel) (by decide +kernel)
theorem w_192 : (Cond.instanceMethod y_SC_drawTiles) ∈ GW := gw_t 192 (by decide +kernel) (by decide +kernel)
theorem w_193 : (Cond.code y_SC_drawTiles prog_7_method_5_code 9 none) ∈ GW := gw_t 193 (by decide +kernel) (by decide +kernel)
theorem w_194 : (Cond.methodLink "SlotScreen$Screen" 46 y_CH_byteAt) ∈ GW := gw_t 194 (by decide +kernel) (by decide +kernel)
theorem w_195 : (Cond.instanceMethod y_CH_byteAt) ∈ GW := gw_t 195 (by decide +kernel) (by decide +kernel)
theorem w_196 : (Cond.selects "SlotScreen$Chip" y_CH_byteAt y_CH_byteAt) ∈ GW := gw_t 196 (by decide +kernel) (by decide +kernel)
theorem w_197 : (Cond.code y_CH_byteAt prog_3_method_2_code 2 (some .int)) ∈ GW := gw_t 197 (by decide +kernel) (by decide +kernel)
theorem w_198 : (Cond.methodLink "SlotScreen$Screen" 49 y_SC_drawTileRow) ∈ GW := gw_t 198 (by decide +kernel) (by decide +kernel)
theorem w_200 : (Cond.instanceMethod y_SC_drawTileRow) ∈ GW := gw_t 200 (by decide +kernel) (by decide +kernel)
theorem w_201 : (Cond.code y_SC_drawTileRow prog_7_method_6_code 7 none) ∈ GW := gw_t 201 (by decide +kernel) (by decide +kernel)
theorem w_202 : (Cond.methodLink "SlotScreen$Screen" 53 y_SC_orBack) ∈ GW := gw_t 202 (by decide +kernel) (by decide +kernel)
theorem w_204 : (Cond.instanceMethod y_SC_orBack) ∈ GW := gw_t 204 (by decide +kernel) (by decide +kernel)
theorem w_205 : (Cond.code y_SC_orBack prog_7_method_8_code 2 (some .int)) ∈ GW := gw_t 205 (by decide +kernel) (by decide +kernel)
theorem w_206 : (Cond.methodLink "SlotScreen$Screen" 36 y_SC_drawSprites) ∈ GW := gw_t 206 (by decide +kernel) (by decide +kernel)
theorem w_208 : (Cond.instanceMethod y_SC_drawSprites) ∈ GW := gw_t 208 (by decide +kernel) (by decide +kernel)
theorem w_209 : (Cond.code y_SC_drawSprites prog_7_method_9_code 9 none) ∈ GW := gw_t 209 (by decide +kernel) (by decide +kernel)
theorem w_210 : (Cond.methodLink "SlotScreen$Screen" 63 y_SC_spriteSide) ∈ GW := gw_t 210 (by decide +kernel) (by decide +kernel)
theorem w_212 : (Cond.instanceMethod y_SC_spriteSide) ∈ GW := gw_t 212 (by decide +kernel) (by decide +kernel)
theorem w_213 : (Cond.code y_SC_spriteSide prog_7_method_11_code 1 (some .int)) ∈ GW := gw_t 213 (by decide +kernel) (by decide +kernel)
theorem w_214 : (Cond.methodLink "SlotScreen$Screen" 66 y_SC_spriteZoom) ∈ GW := gw_t 214 (by decide +kernel) (by decide +kernel)
theorem w_216 : (Cond.instanceMethod y_SC_spriteZoom) ∈ GW := gw_t 216 (by decide +kernel) (by decide +kernel)
theorem w_217 : (Cond.code y_SC_spriteZoom prog_7_method_12_code 1 (some .int)) ∈ GW := gw_t 217 (by decide +kernel) (by decide +kernel)
theorem w_218 : (Cond.methodLink "SlotScreen$Screen" 69 y_SC_topLine) ∈ GW := gw_t 218 (by decide +kernel) (by decide +kernel)
theorem w_219 : (Cond.static y_SC_topLine) ∈ GW := gw_t 219 (by decide +kernel) (by decide +kernel)
theorem w_220 : (Cond.code y_SC_topLine prog_7_method_10_code 1 (some .int)) ∈ GW := gw_t 220 (by decide +kernel) (by decide +kernel)
theorem w_221 : (Cond.methodLink "SlotScreen$Screen" 72 y_CH_noteFifth) ∈ GW := gw_t 221 (by decide +kernel) (by decide +kernel)
theorem w_222 : (Cond.instanceMethod y_CH_noteFifth) ∈ GW := gw_t 222 (by decide +kernel) (by decide +kernel)
theorem w_223 : (Cond.selects "SlotScreen$Chip" y_CH_noteFifth y_CH_noteFifth) ∈ GW := gw_t 223 (by decide +kernel) (by decide +kernel)
theorem w_224 : (Cond.code y_CH_noteFifth prog_3_method_12_code 2 none) ∈ GW := gw_t 224 (by decide +kernel) (by decide +kernel)
theorem w_225 : (Cond.methodLink "SlotScreen$Screen" 75 y_SC_drawSpriteRow) ∈ GW := gw_t 225 (by decide +kernel) (by decide +kernel)
theorem w_227 : (Cond.instanceMethod y_SC_drawSpriteRow) ∈ GW := gw_t 227 (by decide +kernel) (by decide +kernel)
theorem w_228 : (Cond.code y_SC_drawSpriteRow prog_7_method_13_code 11 none) ∈ GW := gw_t 228 (by decide +kernel) (by decide +kernel)
theorem w_229 : (Cond.methodLink "SlotScreen$Screen" 78 y_SC_spriteBits) ∈ GW := gw_t 229 (by decide +kernel) (by decide +kernel)
theorem w_231 : (Cond.instanceMethod y_SC_spriteBits) ∈ GW := gw_t 231 (by decide +kernel) (by decide +kernel)
theorem w_232 : (Cond.code y_SC_spriteBits prog_7_method_14_code 5 (some .int)) ∈ GW := gw_t 232 (by decide +kernel) (by decide +kernel)
theorem w_233 : (Cond.methodLink "SlotScreen$Screen" 82 y_SC_coverPixel) ∈ GW := gw_t 233 (by decide +kernel) (by decide +kernel)
theorem w_235 : (Cond.instanceMethod y_SC_coverPixel) ∈ GW := gw_t 235 (by decide +kernel) (by decide +kernel)
theorem w_236 : (Cond.code y_SC_coverPixel prog_7_method_15_code 6 none) ∈ GW := gw_t 236 (by decide +kernel) (by decide +kernel)
theorem w_237 : (Cond.methodLink "SlotScreen$Screen" 85 y_CH_noteTouch) ∈ GW := gw_t 237 (by decide +kernel) (by decide +kernel)
theorem w_238 : (Cond.instanceMethod y_CH_noteTouch) ∈ GW := gw_t 238 (by decide +kernel) (by decide +kernel)
theorem w_239 : (Cond.selects "SlotScreen$Chip" y_CH_noteTouch y_CH_noteTouch) ∈ GW := gw_t 239 (by decide +kernel) (by decide +kernel)
theorem w_240 : (Cond.code y_CH_noteTouch prog_3_method_11_code 1 none) ∈ GW := gw_t 240 (by decide +kernel) (by decide +kernel)
theorem w_241 : (Cond.methodLink "SlotScreen$Screen" 39 y_CH_noteFrame) ∈ GW := gw_t 241 (by decide +kernel) (by decide +kernel)
theorem w_242 : (Cond.instanceMethod y_CH_noteFrame) ∈ GW := gw_t 242 (by decide +kernel) (by decide +kernel)
theorem w_243 : (Cond.selects "SlotScreen$Chip" y_CH_noteFrame y_CH_noteFrame) ∈ GW := gw_t 243 (by decide +kernel) (by decide +kernel)
theorem w_244 : (Cond.code y_CH_noteFrame prog_3_method_10_code 1 none) ∈ GW := gw_t 244 (by decide +kernel) (by decide +kernel)
theorem w_245 : (Cond.methodLink "SlotScreenLaw" 81 y_SS_pixel) ∈ GW := gw_t 245 (by decide +kernel) (by decide +kernel)
theorem w_246 : (Cond.instanceMethod y_SS_pixel) ∈ GW := gw_t 246 (by decide +kernel) (by decide +kernel)
theorem w_247 : (Cond.selects "SlotScreen" y_SS_pixel y_SS_pixel) ∈ GW := gw_t 247 (by decide +kernel) (by decide +kernel)
theorem w_248 : (Cond.code y_SS_pixel prog_1_method_11_code 3 (some .int)) ∈ GW := gw_t 248 (by decide +kernel) (by decide +kernel)
theorem w_249 : (Cond.methodLink "SlotScreen" 135 y_SC_colorAt) ∈ GW := gw_t 249 (by decide +kernel) (by decide +kernel)
theorem w_250 : (Cond.instanceMethod y_SC_colorAt) ∈ GW := gw_t 250 (by decide +kernel) (by decide +kernel)
theorem w_251 : (Cond.selects "SlotScreen$Screen" y_SC_colorAt y_SC_colorAt) ∈ GW := gw_t 251 (by decide +kernel) (by decide +kernel)
theorem w_252 : (Cond.code y_SC_colorAt prog_7_method_2_code 3 (some .int)) ∈ GW := gw_t 252 (by decide +kernel) (by decide +kernel)
theorem w_253 : (Cond.methodLink "SlotScreenLaw" 86 y_SS_video) ∈ GW := gw_t 253 (by decide +kernel) (by decide +kernel)
theorem w_254 : (Cond.instanceMethod y_SS_video) ∈ GW := gw_t 254 (by decide +kernel) (by decide +kernel)
theorem w_255 : (Cond.selects "SlotScreen" y_SS_video y_SS_video) ∈ GW := gw_t 255 (by decide +kernel) (by decide +kernel)
theorem w_256 : (Cond.code y_SS_video prog_1_method_12_code 2 (some .int)) ∈ GW := gw_t 256 (by decide +kernel) (by decide +kernel)
theorem w_257 : (Cond.methodLink "SlotScreen" 138 y_CH_byteAt) ∈ GW := gw_t 257 (by decide +kernel) (by decide +kernel)
theorem w_258 : (Cond.methodLink "SlotScreenLaw" 90 y_SS_chip) ∈ GW := gw_t 258 (by decide +kernel) (by decide +kernel)
theorem w_259 : (Cond.instanceMethod y_SS_chip) ∈ GW := gw_t 259 (by decide +kernel) (by decide +kernel)
theorem w_260 : (Cond.selects "SlotScreen" y_SS_chip y_SS_chip) ∈ GW := gw_t 260 (by decide +kernel) (by decide +kernel)
theorem w_261 : (Cond.code y_SS_chip prog_1_method_13_code 2 (some .int)) ∈ GW := gw_t 261 (by decide +kernel) (by decide +kernel)
theorem w_262 : (Cond.methodLink "SlotScreen" 141 y_CH_value) ∈ GW := gw_t 262 (by decide +kernel) (by decide +kernel)
theorem w_263 : (Cond.instanceMethod y_CH_value) ∈ GW := gw_t 263 (by decide +kernel) (by decide +kernel)
theorem w_264 : (Cond.selects "SlotScreen$Chip" y_CH_value y_CH_value) ∈ GW := gw_t 264 (by decide +kernel) (by decide +kernel)
theorem w_265 : (Cond.code y_CH_value prog_3_method_4_code 2 (some .int)) ∈ GW := gw_t 265 (by decide +kernel) (by decide +kernel)
theorem w_266 : (Cond.methodLink "SlotScreenLaw" 94 y_SS_secondary) ∈ GW := gw_t 266 (by decide +kernel) (by decide +kernel)
theorem w_267 : (Cond.instanceMethod y_SS_secondary) ∈ GW := gw_t 267 (by decide +kernel) (by decide +kernel)
theorem w_268 : (Cond.selects "SlotScreen" y_SS_secondary y_SS_secondary) ∈ GW := gw_t 268 (by decide +kernel) (by decide +kernel)
theorem w_269 : (Cond.code y_SS_secondary prog_1_method_14_code 2 (some .int)) ∈ GW := gw_t 269 (by decide +kernel) (by decide +kernel)
theorem w_270 : (Cond.methodLink "SlotScreen" 43 y_SL_isWide) ∈ GW := gw_t 270 (by decide +kernel) (by decide +kernel)
theorem w_271 : (Cond.instanceMethod y_SL_isWide) ∈ GW := gw_t 271 (by decide +kernel) (by decide +kernel)
theorem w_272 : (Cond.selects "SlotScreen$Slots" y_SL_isWide y_SL_isWide) ∈ GW := gw_t 272 (by decide +kernel) (by decide +kernel)
theorem w_273 : (Cond.code y_SL_isWide prog_8_method_2_code 2 (some .boolean)) ∈ GW := gw_t 273 (by decide +kernel) (by decide +kernel)
theorem w_274 : (Cond.methodLink "SlotScreen" 144 y_SL_secondaryOf) ∈ GW := gw_t 274 (by decide +kernel) (by decide +kernel)
theorem w_275 : (Cond.instanceMethod y_SL_secondaryOf) ∈ GW := gw_t 275 (by decide +kernel) (by decide +kernel)
theorem w_276 : (Cond.selects "SlotScreen$Slots" y_SL_secondaryOf y_SL_secondaryOf) ∈ GW := gw_t 276 (by decide +kernel) (by decide +kernel)
theorem w_277 : (Cond.code y_SL_secondaryOf prog_8_method_9_code 2 (some .int)) ∈ GW := gw_t 277 (by decide +kernel) (by decide +kernel)
theorem w_278 : (Cond.methodLink "SlotScreenLaw" 98 y_SS_calls) ∈ GW := gw_t 278 (by decide +kernel) (by decide +kernel)
theorem w_279 : (Cond.instanceMethod y_SS_calls) ∈ GW := gw_t 279 (by decide +kernel) (by decide +kernel)
theorem w_280 : (Cond.selects "SlotScreen" y_SS_calls y_SS_calls) ∈ GW := gw_t 280 (by decide +kernel) (by decide +kernel)
theorem w_281 : (Cond.code y_SS_calls prog_1_method_15_code 1 (some .boolean)) ∈ GW := gw_t 281 (by decide +kernel) (by decide +kernel)
theorem w_282 : (Cond.methodLink "SlotScreen" 147 y_CH_wantsAttention) ∈ GW := gw_t 282 (by decide +kernel) (by decide +kernel)
theorem w_283 : (Cond.instanceMethod y_CH_wantsAttention) ∈ GW := gw_t 283 (by decide +kernel) (by decide +kernel)
theorem w_284 : (Cond.selects "SlotScreen$Chip" y_CH_wantsAttention y_CH_wantsAttention) ∈ GW := gw_t 284 (by decide +kernel) (by decide +kernel)
theorem w_285 : (Cond.code y_CH_wantsAttention prog_3_method_9_code 1 (some .boolean)) ∈ GW := gw_t 285 (by decide +kernel) (by decide +kernel)
theorem w_286 : (Cond.methodLink "SlotScreenLaw" 37 y_LW_widen) ∈ GW := gw_t 286 (by decide +kernel) (by decide +kernel)
theorem w_287 : (Cond.static y_LW_widen) ∈ GW := gw_t 287 (by decide +kernel) (by decide +kernel)
theorem w_291 : (Cond.methodLink "SlotScreenLaw" 7 y_SS_widen) ∈ GW := gw_t 291 (by decide +kernel) (by decide +kernel)
theorem w_292 : (Cond.instanceMethod y_SS_widen) ∈ GW := gw_t 292 (by decide +kernel) (by decide +kernel)
theorem w_293 : (Cond.selects "SlotScreen" y_SS_widen y_SS_widen) ∈ GW := gw_t 293 (by decide +kernel) (by decide +kernel)
theorem w_294 : (Cond.code y_SS_widen prog_1_method_2_code 2 none) ∈ GW := gw_t 294 (by decide +kernel) (by decide +kernel)
theorem w_314 : (Cond.lays "java/lang/IllegalArgumentException" "java/lang/Throwable" "backtrace" "Ljava/lang/Object;") ∈ GW := gw_t 314 (by decide +kernel) (by decide +kernel)
theorem w_315 : (Cond.lays "java/lang/Throwable" "java/lang/Throwable" "backtrace" "Ljava/lang/Object;") ∈ GW := gw_t 315 (by decide +kernel) (by decide +kernel)
theorem w_316 : (Cond.fieldLink "java/lang/Throwable" 198 "java/lang/Throwable" "backtrace" "Ljava/lang/Object;") ∈ GW := gw_t 316 (by decide +kernel) (by decide +kernel)
theorem w_320 : (Cond.methodLink "java/lang/Throwable" 1 ⟨"java/lang/Object", "<init>", "()V"⟩) ∈ GW := gw_t 320 (by decide +kernel) (by decide +kernel)
theorem w_361 : (Cond.arrayClass .byte) ∈ GW := gw_t 361 (by decide +kernel) (by decide +kernel)
theorem w_370 : (Cond.lays "java/lang/IllegalStateException" "java/lang/Throwable" "backtrace" "Ljava/lang/Object;") ∈ GW := gw_t 370 (by decide +kernel) (by decide +kernel)
theorem w_378 : (Cond.methodLink "SlotScreen" 55 y_SL_makeWide) ∈ GW := gw_t 378 (by decide +kernel) (by decide +kernel)
theorem w_379 : (Cond.instanceMethod y_SL_makeWide) ∈ GW := gw_t 379 (by decide +kernel) (by decide +kernel)
theorem w_380 : (Cond.selects "SlotScreen$Slots" y_SL_makeWide y_SL_makeWide) ∈ GW := gw_t 380 (by decide +kernel) (by decide +kernel)
theorem w_381 : (Cond.code y_SL_makeWide prog_8_method_3_code 2 none) ∈ GW := gw_t 381 (by decide +kernel) (by decide +kernel)
theorem w_382 : (Cond.methodLink "SlotScreenLaw" 47 y_LW_plug) ∈ GW := gw_t 382 (by decide +kernel) (by decide +kernel)
theorem w_383 : (Cond.static y_LW_plug) ∈ GW := gw_t 383 (by decide +kernel) (by decide +kernel)
theorem w_385 : (Cond.methodLink "SlotScreenLaw" 17 y_SS_plug) ∈ GW := gw_t 385 (by decide +kernel) (by decide +kernel)
theorem w_386 : (Cond.instanceMethod y_SS_plug) ∈ GW := gw_t 386 (by decide +kernel) (by decide +kernel)
theorem w_387 : (Cond.selects "SlotScreen" y_SS_plug y_SS_plug) ∈ GW := gw_t 387 (by decide +kernel) (by decide +kernel)
theorem w_388 : (Cond.code y_SS_plug prog_1_method_3_code 5 none) ∈ GW := gw_t 388 (by decide +kernel) (by decide +kernel)
theorem w_389 : (Cond.methodLink "SlotScreen" 62 y_SS_isDevice) ∈ GW := gw_t 389 (by decide +kernel) (by decide +kernel)
theorem w_390 : (Cond.static y_SS_isDevice) ∈ GW := gw_t 390 (by decide +kernel) (by decide +kernel)
theorem w_391 : (Cond.code y_SS_isDevice prog_1_method_20_code 2 (some .boolean)) ∈ GW := gw_t 391 (by decide +kernel) (by decide +kernel)
theorem w_393 : (Cond.methodLink "SlotScreen" 68 y_SL_hasPart) ∈ GW := gw_t 393 (by decide +kernel) (by decide +kernel)
theorem w_394 : (Cond.instanceMethod y_SL_hasPart) ∈ GW := gw_t 394 (by decide +kernel) (by decide +kernel)
theorem w_395 : (Cond.selects "SlotScreen$Slots" y_SL_hasPart y_SL_hasPart) ∈ GW := gw_t 395 (by decide +kernel) (by decide +kernel)
theorem w_396 : (Cond.code y_SL_hasPart prog_8_method_4_code 3 (some .boolean)) ∈ GW := gw_t 396 (by decide +kernel) (by decide +kernel)
theorem w_398 : (Cond.methodLink "SlotScreen" 73 y_SS_newDevice) ∈ GW := gw_t 398 (by decide +kernel) (by decide +kernel)
theorem w_399 : (Cond.static y_SS_newDevice) ∈ GW := gw_t 399 (by decide +kernel) (by decide +kernel)
theorem w_400 : (Cond.code y_SS_newDevice prog_1_method_21_code 2 (some (.object "SlotScreen$Device"))) ∈ GW := gw_t 400 (by decide +kernel) (by decide +kernel)
theorem w_401 : (Cond.classLink "SlotScreen" 151 "SlotScreen$Ram") ∈ GW := gw_t 401 (by decide +kernel) (by decide +kernel)
theorem w_402 : (Cond.instantiable "SlotScreen$Ram" 2) ∈ GW := gw_t 402 (by decide +kernel) (by decide +kernel)
theorem w_403 : (Cond.methodLink "SlotScreen" 153 y_RA_init) ∈ GW := gw_t 403 (by decide +kernel) (by decide +kernel)
theorem w_404 : (Cond.instanceMethod y_RA_init) ∈ GW := gw_t 404 (by decide +kernel) (by decide +kernel)
theorem w_405 : (Cond.code y_RA_init prog_5_method_1_code 2 none) ∈ GW := gw_t 405 (by decide +kernel) (by decide +kernel)
theorem w_407 : (Cond.instanceMethod y_DV_init) ∈ GW := gw_t 407 (by decide +kernel) (by decide +kernel)
theorem w_408 : (Cond.code y_DV_init prog_4_method_1_code 1 none) ∈ GW := gw_t 408 (by decide +kernel) (by decide +kernel)
theorem w_409 : (Cond.methodLink "SlotScreen$Device" 1 ⟨"java/lang/Object", "<init>", "()V"⟩) ∈ GW := gw_t 409 (by decide +kernel) (by decide +kernel)
theorem w_410 : (Cond.fieldLink "SlotScreen$Ram" 7 "SlotScreen$Ram" "bytes" "[I") ∈ GW := gw_t 410 (by decide +kernel) (by decide +kernel)
theorem w_411 : (Cond.fieldLink "SlotScreen$Ram" 13 "SlotScreen$Ram" "mask" "I") ∈ GW := gw_t 411 (by decide +kernel) (by decide +kernel)
theorem w_412 : (Cond.laysFinal "SlotScreen$Ram" "SlotScreen$Ram" "bytes" "[I") ∈ GW := gw_t 412 (by decide +kernel) (by decide +kernel)
theorem w_414 : (Cond.laysFinal "SlotScreen$Ram" "SlotScreen$Ram" "mask" "I") ∈ GW := gw_t 414 (by decide +kernel) (by decide +kernel)
theorem w_417 : (Cond.classLink "SlotScreen" 155 "SlotScreen$Rom") ∈ GW := gw_t 417 (by decide +kernel) (by decide +kernel)
theorem w_418 : (Cond.instantiable "SlotScreen$Rom" 1) ∈ GW := gw_t 418 (by decide +kernel) (by decide +kernel)
theorem w_420 : (Cond.instanceMethod y_RO_init) ∈ GW := gw_t 420 (by decide +kernel) (by decide +kernel)
theorem w_421 : (Cond.code y_RO_init prog_6_method_1_code 1 none) ∈ GW := gw_t 421 (by decide +kernel) (by decide +kernel)
theorem w_423 : (Cond.fieldLink "SlotScreen$Rom" 9 "SlotScreen$Rom" "bytes" "[I") ∈ GW := gw_t 423 (by decide +kernel) (by decide +kernel)
theorem w_424 : (Cond.laysFinal "SlotScreen$Rom" "SlotScreen$Rom" "bytes" "[I") ∈ GW := gw_t 424 (by decide +kernel) (by decide +kernel)
theorem w_427 : (Cond.classLink "SlotScreen" 158 "SlotScreen$Banks") ∈ GW := gw_t 427 (by decide +kernel) (by decide +kernel)
theorem w_428 : (Cond.instantiable "SlotScreen$Banks" 3) ∈ GW := gw_t 428 (by decide +kernel) (by decide +kernel)
theorem w_429 : (Cond.methodLink "SlotScreen" 160 y_BK_init) ∈ GW := gw_t 429 (by decide +kernel) (by decide +kernel)
theorem w_430 : (Cond.instanceMethod y_BK_init) ∈ GW := gw_t 430 (by decide +kernel) (by decide +kernel)
theorem w_431 : (Cond.code y_BK_init prog_2_method_1_code 3 none) ∈ GW := gw_t 431 (by decide +kernel) (by decide +kernel)
theorem w_433 : (Cond.fieldLink "SlotScreen$Banks" 15 "SlotScreen$Banks" "count" "I") ∈ GW := gw_t 433 (by decide +kernel) (by decide +kernel)
theorem w_434 : (Cond.fieldLink "SlotScreen$Banks" 19 "SlotScreen$Banks" "bytes" "[I") ∈ GW := gw_t 434 (by decide +kernel) (by decide +kernel)
theorem w_435 : (Cond.fieldLink "SlotScreen$Banks" 11 "SlotScreen$Banks" "shown" "[I") ∈ GW := gw_t 435 (by decide +kernel) (by decide +kernel)
theorem w_436 : (Cond.laysFinal "SlotScreen$Banks" "SlotScreen$Banks" "count" "I") ∈ GW := gw_t 436 (by decide +kernel) (by decide +kernel)
theorem w_438 : (Cond.laysFinal "SlotScreen$Banks" "SlotScreen$Banks" "bytes" "[I") ∈ GW := gw_t 438 (by decide +kernel) (by decide +kernel)
theorem w_440 : (Cond.laysFinal "SlotScreen$Banks" "SlotScreen$Banks" "shown" "[I") ∈ GW := gw_t 440 (by decide +kernel) (by decide +kernel)
theorem w_443 : (Cond.methodLink "SlotScreen" 76 y_SL_put) ∈ GW := gw_t 443 (by decide +kernel) (by decide +kernel)
theorem w_444 : (Cond.instanceMethod y_SL_put) ∈ GW := gw_t 444 (by decide +kernel) (by decide +kernel)
theorem w_445 : (Cond.selects "SlotScreen$Slots" y_SL_put y_SL_put) ∈ GW := gw_t 445 (by decide +kernel) (by decide +kernel)
theorem w_446 : (Cond.code y_SL_put prog_8_method_6_code 4 none) ∈ GW := gw_t 446 (by decide +kernel) (by decide +kernel)
theorem w_447 : (Cond.methodLink "SlotScreenLaw" 56 y_LW_read) ∈ GW := gw_t 447 (by decide +kernel) (by decide +kernel)
theorem w_448 : (Cond.static y_LW_read) ∈ GW := gw_t 448 (by decide +kernel) (by decide +kernel)
theorem w_450 : (Cond.methodLink "SlotScreenLaw" 21 y_SS_read) ∈ GW := gw_t 450 (by decide +kernel) (by decide +kernel)
theorem w_451 : (Cond.instanceMethod y_SS_read) ∈ GW := gw_t 451 (by decide +kernel) (by decide +kernel)
theorem w_452 : (Cond.selects "SlotScreen" y_SS_read y_SS_read) ∈ GW := gw_t 452 (by decide +kernel) (by decide +kernel)
theorem w_453 : (Cond.code y_SS_read prog_1_method_5_code 3 (some .int)) ∈ GW := gw_t 453 (by decide +kernel) (by decide +kernel)
theorem w_454 : (Cond.methodLink "SlotScreen" 88 y_SS_isAddress) ∈ GW := gw_t 454 (by decide +kernel) (by decide +kernel)
theorem w_456 : (Cond.methodLink "SlotScreen" 93 y_SL_slotAt) ∈ GW := gw_t 456 (by decide +kernel) (by decide +kernel)
theorem w_457 : (Cond.instanceMethod y_SL_slotAt) ∈ GW := gw_t 457 (by decide +kernel) (by decide +kernel)
theorem w_458 : (Cond.selects "SlotScreen$Slots" y_SL_slotAt y_SL_slotAt) ∈ GW := gw_t 458 (by decide +kernel) (by decide +kernel)
theorem w_459 : (Cond.code y_SL_slotAt prog_8_method_10_code 2 (some .int)) ∈ GW := gw_t 459 (by decide +kernel) (by decide +kernel)
theorem w_460 : (Cond.methodLink "SlotScreen$Slots" 29 y_SL_pageBits) ∈ GW := gw_t 460 (by decide +kernel) (by decide +kernel)
theorem w_461 : (Cond.static y_SL_pageBits) ∈ GW := gw_t 461 (by decide +kernel) (by decide +kernel)
theorem w_462 : (Cond.code y_SL_pageBits prog_8_method_14_code 3 (some .int)) ∈ GW := gw_t 462 (by decide +kernel) (by decide +kernel)
theorem w_463 : (Cond.methodLink "SlotScreen" 97 y_SL_partAt) ∈ GW := gw_t 463 (by decide +kernel) (by decide +kernel)
theorem w_464 : (Cond.instanceMethod y_SL_partAt) ∈ GW := gw_t 464 (by decide +kernel) (by decide +kernel)
theorem w_465 : (Cond.selects "SlotScreen$Slots" y_SL_partAt y_SL_partAt) ∈ GW := gw_t 465 (by decide +kernel) (by decide +kernel)
theorem w_466 : (Cond.code y_SL_partAt prog_8_method_11_code 3 (some .int)) ∈ GW := gw_t 466 (by decide +kernel) (by decide +kernel)
theorem w_467 : (Cond.methodLink "SlotScreen" 101 y_SL_byteIn) ∈ GW := gw_t 467 (by decide +kernel) (by decide +kernel)
theorem w_468 : (Cond.instanceMethod y_SL_byteIn) ∈ GW := gw_t 468 (by decide +kernel) (by decide +kernel)
theorem w_469 : (Cond.selects "SlotScreen$Slots" y_SL_byteIn y_SL_byteIn) ∈ GW := gw_t 469 (by decide +kernel) (by decide +kernel)
theorem w_470 : (Cond.code y_SL_byteIn prog_8_method_12_code 5 (some .int)) ∈ GW := gw_t 470 (by decide +kernel) (by decide +kernel)
theorem w_471 : (Cond.methodLink "SlotScreen$Slots" 33 y_SL_deviceIn) ∈ GW := gw_t 471 (by decide +kernel) (by decide +kernel)
theorem w_472 : (Cond.methodLink "SlotScreen$Slots" 37 y_DV_byteAt) ∈ GW := gw_t 472 (by decide +kernel) (by decide +kernel)
theorem w_475 : (Cond.selects "SlotScreen$Banks" y_DV_byteAt y_BK_byteAt) ∈ GW := gw_t 475 (by decide +kernel) (by decide +kernel)
theorem w_476 : (Cond.instanceMethod y_BK_byteAt) ∈ GW := gw_t 476 (by decide +kernel) (by decide +kernel)
theorem w_477 : (Cond.code y_BK_byteAt prog_2_method_2_code 2 (some .int)) ∈ GW := gw_t 477 (by decide +kernel) (by decide +kernel)
theorem w_478 : (Cond.methodLink "SlotScreen$Banks" 22 y_BK_isInWindow) ∈ GW := gw_t 478 (by decide +kernel) (by decide +kernel)
theorem w_479 : (Cond.static y_BK_isInWindow) ∈ GW := gw_t 479 (by decide +kernel) (by decide +kernel)
theorem w_480 : (Cond.code y_BK_isInWindow prog_2_method_5_code 1 (some .boolean)) ∈ GW := gw_t 480 (by decide +kernel) (by decide +kernel)
theorem w_481 : (Cond.methodLink "SlotScreen$Banks" 26 y_BK_windowOf) ∈ GW := gw_t 481 (by decide +kernel) (by decide +kernel)
theorem w_482 : (Cond.static y_BK_windowOf) ∈ GW := gw_t 482 (by decide +kernel) (by decide +kernel)
theorem w_483 : (Cond.code y_BK_windowOf prog_2_method_6_code 1 (some .int)) ∈ GW := gw_t 483 (by decide +kernel) (by decide +kernel)
theorem w_484 : (Cond.selects "SlotScreen$Ram" y_DV_byteAt y_RA_byteAt) ∈ GW := gw_t 484 (by decide +kernel) (by decide +kernel)
theorem w_485 : (Cond.instanceMethod y_RA_byteAt) ∈ GW := gw_t 485 (by decide +kernel) (by decide +kernel)
theorem w_486 : (Cond.code y_RA_byteAt prog_5_method_2_code 2 (some .int)) ∈ GW := gw_t 486 (by decide +kernel) (by decide +kernel)
theorem w_487 : (Cond.selects "SlotScreen$Rom" y_DV_byteAt y_RO_byteAt) ∈ GW := gw_t 487 (by decide +kernel) (by decide +kernel)
theorem w_488 : (Cond.instanceMethod y_RO_byteAt) ∈ GW := gw_t 488 (by decide +kernel) (by decide +kernel)
theorem w_489 : (Cond.code y_RO_byteAt prog_6_method_2_code 2 (some .int)) ∈ GW := gw_t 489 (by decide +kernel) (by decide +kernel)
theorem w_490 : (Cond.methodLink "SlotScreenLaw" 60 y_LW_write) ∈ GW := gw_t 490 (by decide +kernel) (by decide +kernel)
theorem w_491 : (Cond.static y_LW_write) ∈ GW := gw_t 491 (by decide +kernel) (by decide +kernel)
theorem w_493 : (Cond.methodLink "SlotScreenLaw" 25 y_SS_write) ∈ GW := gw_t 493 (by decide +kernel) (by decide +kernel)
theorem w_494 : (Cond.instanceMethod y_SS_write) ∈ GW := gw_t 494 (by decide +kernel) (by decide +kernel)
theorem w_495 : (Cond.selects "SlotScreen" y_SS_write y_SS_write) ∈ GW := gw_t 495 (by decide +kernel) (by decide +kernel)
theorem w_496 : (Cond.code y_SS_write prog_1_method_6_code 3 none) ∈ GW := gw_t 496 (by decide +kernel) (by decide +kernel)
theorem w_498 : (Cond.methodLink "SlotScreen" 107 y_SL_store) ∈ GW := gw_t 498 (by decide +kernel) (by decide +kernel)
theorem w_499 : (Cond.instanceMethod y_SL_store) ∈ GW := gw_t 499 (by decide +kernel) (by decide +kernel)
theorem w_500 : (Cond.selects "SlotScreen$Slots" y_SL_store y_SL_store) ∈ GW := gw_t 500 (by decide +kernel) (by decide +kernel)
theorem w_501 : (Cond.code y_SL_store prog_8_method_13_code 5 none) ∈ GW := gw_t 501 (by decide +kernel) (by decide +kernel)
theorem w_502 : (Cond.methodLink "SlotScreen$Slots" 41 y_SL_slotAt) ∈ GW := gw_t 502 (by decide +kernel) (by decide +kernel)
theorem w_503 : (Cond.methodLink "SlotScreen$Slots" 44 y_SL_partAt) ∈ GW := gw_t 503 (by decide +kernel) (by decide +kernel)
theorem w_504 : (Cond.methodLink "SlotScreen$Slots" 47 y_DV_store) ∈ GW := gw_t 504 (by decide +kernel) (by decide +kernel)
theorem w_507 : (Cond.selects "SlotScreen$Banks" y_DV_store y_BK_store) ∈ GW := gw_t 507 (by decide +kernel) (by decide +kernel)
theorem w_508 : (Cond.instanceMethod y_BK_store) ∈ GW := gw_t 508 (by decide +kernel) (by decide +kernel)
theorem w_509 : (Cond.code y_BK_store prog_2_method_3_code 3 none) ∈ GW := gw_t 509 (by decide +kernel) (by decide +kernel)
theorem w_510 : (Cond.selects "SlotScreen$Ram" y_DV_store y_RA_store) ∈ GW := gw_t 510 (by decide +kernel) (by decide +kernel)
theorem w_511 : (Cond.instanceMethod y_RA_store) ∈ GW := gw_t 511 (by decide +kernel) (by decide +kernel)
theorem w_512 : (Cond.code y_RA_store prog_5_method_3_code 3 none) ∈ GW := gw_t 512 (by decide +kernel) (by decide +kernel)
theorem w_513 : (Cond.selects "SlotScreen$Rom" y_DV_store y_RO_store) ∈ GW := gw_t 513 (by decide +kernel) (by decide +kernel)
theorem w_514 : (Cond.instanceMethod y_RO_store) ∈ GW := gw_t 514 (by decide +kernel) (by decide +kernel)
theorem w_515 : (Cond.code y_RO_store prog_6_method_3_code 3 none) ∈ GW := gw_t 515 (by decide +kernel) (by decide +kernel)
theorem w_516 : (Cond.methodLink "SlotScreenLaw" 64 y_LW_far) ∈ GW := gw_t 516 (by decide +kernel) (by decide +kernel)
theorem w_517 : (Cond.static y_LW_far) ∈ GW := gw_t 517 (by decide +kernel) (by decide +kernel)
theorem w_519 : (Cond.methodLink "SlotScreenLaw" 29 y_SS_far) ∈ GW := gw_t 519 (by decide +kernel) (by decide +kernel)
theorem w_520 : (Cond.instanceMethod y_SS_far) ∈ GW := gw_t 520 (by decide +kernel) (by decide +kernel)
theorem w_521 : (Cond.selects "SlotScreen" y_SS_far y_SS_far) ∈ GW := gw_t 521 (by decide +kernel) (by decide +kernel)
theorem w_522 : (Cond.code y_SS_far prog_1_method_7_code 4 (some .int)) ∈ GW := gw_t 522 (by decide +kernel) (by decide +kernel)
theorem w_524 : (Cond.classLink "SlotScreenLaw" 34 "SlotScreenModel") ∈ GW := gw_t 524 (by decide +kernel) (by decide +kernel)
theorem w_525 : (Cond.instantiable "SlotScreenModel" 16) ∈ GW := gw_t 525 (by decide +kernel) (by decide +kernel)
theorem w_526 : (Cond.methodLink "SlotScreenLaw" 36 y_MO_init) ∈ GW := gw_t 526 (by decide +kernel) (by decide +kernel)
theorem w_527 : (Cond.instanceMethod y_MO_init) ∈ GW := gw_t 527 (by decide +kernel) (by decide +kernel)
theorem w_528 : (Cond.code y_MO_init prog_10_method_1_code 1 none) ∈ GW := gw_t 528 (by decide +kernel) (by decide +kernel)
theorem w_529 : (Cond.methodLink "SlotScreenModel" 1 ⟨"java/lang/Object", "<init>", "()V"⟩) ∈ GW := gw_t 529 (by decide +kernel) (by decide +kernel)
theorem w_530 : (Cond.fieldLink "SlotScreenModel" 42 "SlotScreenModel" "code" "I") ∈ GW := gw_t 530 (by decide +kernel) (by decide +kernel)
theorem w_531 : (Cond.fieldLink "SlotScreenModel" 7 "SlotScreenModel" "wide" "[Z") ∈ GW := gw_t 531 (by decide +kernel) (by decide +kernel)
theorem w_532 : (Cond.fieldLink "SlotScreenModel" 13 "SlotScreenModel" "secondary" "[I") ∈ GW := gw_t 532 (by decide +kernel) (by decide +kernel)
theorem w_533 : (Cond.fieldLink "SlotScreenModel" 17 "SlotScreenModel" "kind" "[I") ∈ GW := gw_t 533 (by decide +kernel) (by decide +kernel)
theorem w_534 : (Cond.fieldLink "SlotScreenModel" 20 "SlotScreenModel" "banks" "[I") ∈ GW := gw_t 534 (by decide +kernel) (by decide +kernel)
theorem w_535 : (Cond.fieldLink "SlotScreenModel" 23 "SlotScreenModel" "shown" "[I") ∈ GW := gw_t 535 (by decide +kernel) (by decide +kernel)
theorem w_536 : (Cond.fieldLink "SlotScreenModel" 26 "SlotScreenModel" "bytes" "[I") ∈ GW := gw_t 536 (by decide +kernel) (by decide +kernel)
theorem w_537 : (Cond.fieldLink "SlotScreenModel" 53 "SlotScreenModel" "primary" "I") ∈ GW := gw_t 537 (by decide +kernel) (by decide +kernel)
theorem w_538 : (Cond.fieldLink "SlotScreenModel" 29 "SlotScreenModel" "own" "[I") ∈ GW := gw_t 538 (by decide +kernel) (by decide +kernel)
theorem w_539 : (Cond.fieldLink "SlotScreenModel" 32 "SlotScreenModel" "registers" "[I") ∈ GW := gw_t 539 (by decide +kernel) (by decide +kernel)
theorem w_540 : (Cond.fieldLink "SlotScreenModel" 78 "SlotScreenModel" "status" "I") ∈ GW := gw_t 540 (by decide +kernel) (by decide +kernel)
theorem w_541 : (Cond.fieldLink "SlotScreenModel" 69 "SlotScreenModel" "pointer" "I") ∈ GW := gw_t 541 (by decide +kernel) (by decide +kernel)
theorem w_542 : (Cond.fieldLink "SlotScreenModel" 72 "SlotScreenModel" "ready" "I") ∈ GW := gw_t 542 (by decide +kernel) (by decide +kernel)
theorem w_543 : (Cond.fieldLink "SlotScreenModel" 35 "SlotScreenModel" "waits" "I") ∈ GW := gw_t 543 (by decide +kernel) (by decide +kernel)
theorem w_544 : (Cond.fieldLink "SlotScreenModel" 102 "SlotScreenModel" "line" "I") ∈ GW := gw_t 544 (by decide +kernel) (by decide +kernel)
theorem w_545 : (Cond.fieldLink "SlotScreenModel" 39 "SlotScreenModel" "pixels" "[I") ∈ GW := gw_t 545 (by decide +kernel) (by decide +kernel)
theorem w_546 : (Cond.lays "SlotScreenModel" "SlotScreenModel" "code" "I") ∈ GW := gw_t 546 (by decide +kernel) (by decide +kernel)
theorem w_548 : (Cond.laysFinal "SlotScreenModel" "SlotScreenModel" "wide" "[Z") ∈ GW := gw_t 548 (by decide +kernel) (by decide +kernel)
theorem w_550 : (Cond.laysFinal "SlotScreenModel" "SlotScreenModel" "secondary" "[I") ∈ GW := gw_t 550 (by decide +kernel) (by decide +kernel)
theorem w_552 : (Cond.laysFinal "SlotScreenModel" "SlotScreenModel" "kind" "[I") ∈ GW := gw_t 552 (by decide +kernel) (by decide +kernel)
theorem w_554 : (Cond.laysFinal "SlotScreenModel" "SlotScreenModel" "banks" "[I") ∈ GW := gw_t 554 (by decide +kernel) (by decide +kernel)
theorem w_556 : (Cond.laysFinal "SlotScreenModel" "SlotScreenModel" "shown" "[I") ∈ GW := gw_t 556 (by decide +kernel) (by decide +kernel)
theorem w_558 : (Cond.laysFinal "SlotScreenModel" "SlotScreenModel" "bytes" "[I") ∈ GW := gw_t 558 (by decide +kernel) (by decide +kernel)
theorem w_560 : (Cond.lays "SlotScreenModel" "SlotScreenModel" "primary" "I") ∈ GW := gw_t 560 (by decide +kernel) (by decide +kernel)
theorem w_562 : (Cond.laysFinal "SlotScreenModel" "SlotScreenModel" "own" "[I") ∈ GW := gw_t 562 (by decide +kernel) (by decide +kernel)
theorem w_564 : (Cond.laysFinal "SlotScreenModel" "SlotScreenModel" "registers" "[I") ∈ GW := gw_t 564 (by decide +kernel) (by decide +kernel)
theorem w_566 : (Cond.lays "SlotScreenModel" "SlotScreenModel" "status" "I") ∈ GW := gw_t 566 (by decide +kernel) (by decide +kernel)
theorem w_568 : (Cond.lays "SlotScreenModel" "SlotScreenModel" "pointer" "I") ∈ GW := gw_t 568 (by decide +kernel) (by decide +kernel)
theorem w_570 : (Cond.lays "SlotScreenModel" "SlotScreenModel" "ready" "I") ∈ GW := gw_t 570 (by decide +kernel) (by decide +kernel)
theorem w_572 : (Cond.lays "SlotScreenModel" "SlotScreenModel" "waits" "I") ∈ GW := gw_t 572 (by decide +kernel) (by decide +kernel)
theorem w_574 : (Cond.lays "SlotScreenModel" "SlotScreenModel" "line" "I") ∈ GW := gw_t 574 (by decide +kernel) (by decide +kernel)
theorem w_576 : (Cond.laysFinal "SlotScreenModel" "SlotScreenModel" "pixels" "[I") ∈ GW := gw_t 576 (by decide +kernel) (by decide +kernel)
theorem w_579 : (Cond.methodLink "SlotScreenLaw" 43 y_MO_thrown) ∈ GW := gw_t 579 (by decide +kernel) (by decide +kernel)
theorem w_580 : (Cond.instanceMethod y_MO_thrown) ∈ GW := gw_t 580 (by decide +kernel) (by decide +kernel)
theorem w_581 : (Cond.selects "SlotScreenModel" y_MO_thrown y_MO_thrown) ∈ GW := gw_t 581 (by decide +kernel) (by decide +kernel)
theorem w_582 : (Cond.code y_MO_thrown prog_10_method_2_code 1 (some .int)) ∈ GW := gw_t 582 (by decide +kernel) (by decide +kernel)
theorem w_583 : (Cond.methodLink "SlotScreenLaw" 42 y_MO_widen) ∈ GW := gw_t 583 (by decide +kernel) (by decide +kernel)
theorem w_584 : (Cond.instanceMethod y_MO_widen) ∈ GW := gw_t 584 (by decide +kernel) (by decide +kernel)
theorem w_585 : (Cond.selects "SlotScreenModel" y_MO_widen y_MO_widen) ∈ GW := gw_t 585 (by decide +kernel) (by decide +kernel)
theorem w_586 : (Cond.code y_MO_widen prog_10_method_4_code 2 none) ∈ GW := gw_t 586 (by decide +kernel) (by decide +kernel)
theorem w_587 : (Cond.methodLink "SlotScreenModel" 45 y_MO_within) ∈ GW := gw_t 587 (by decide +kernel) (by decide +kernel)
theorem w_588 : (Cond.static y_MO_within) ∈ GW := gw_t 588 (by decide +kernel) (by decide +kernel)
theorem w_589 : (Cond.code y_MO_within prog_10_method_3_code 3 (some .boolean)) ∈ GW := gw_t 589 (by decide +kernel) (by decide +kernel)
theorem w_590 : (Cond.methodLink "SlotScreenLaw" 50 y_MO_plug) ∈ GW := gw_t 590 (by decide +kernel) (by decide +kernel)
theorem w_591 : (Cond.instanceMethod y_MO_plug) ∈ GW := gw_t 591 (by decide +kernel) (by decide +kernel)
theorem w_592 : (Cond.selects "SlotScreenModel" y_MO_plug y_MO_plug) ∈ GW := gw_t 592 (by decide +kernel) (by decide +kernel)
theorem w_593 : (Cond.code y_MO_plug prog_10_method_5_code 7 none) ∈ GW := gw_t 593 (by decide +kernel) (by decide +kernel)
theorem w_594 : (Cond.methodLink "SlotScreenLaw" 55 y_MO_burn) ∈ GW := gw_t 594 (by decide +kernel) (by decide +kernel)
theorem w_595 : (Cond.instanceMethod y_MO_burn) ∈ GW := gw_t 595 (by decide +kernel) (by decide +kernel)
theorem w_596 : (Cond.selects "SlotScreenModel" y_MO_burn y_MO_burn) ∈ GW := gw_t 596 (by decide +kernel) (by decide +kernel)
theorem w_597 : (Cond.code y_MO_burn prog_10_method_6_code 7 (some .boolean)) ∈ GW := gw_t 597 (by decide +kernel) (by decide +kernel)
theorem w_598 : (Cond.methodLink "SlotScreenLaw" 59 y_MO_read) ∈ GW := gw_t 598 (by decide +kernel) (by decide +kernel)
theorem w_599 : (Cond.instanceMethod y_MO_read) ∈ GW := gw_t 599 (by decide +kernel) (by decide +kernel)
theorem w_600 : (Cond.selects "SlotScreenModel" y_MO_read y_MO_read) ∈ GW := gw_t 600 (by decide +kernel) (by decide +kernel)
theorem w_601 : (Cond.code y_MO_read prog_10_method_12_code 3 (some .int)) ∈ GW := gw_t 601 (by decide +kernel) (by decide +kernel)
theorem w_602 : (Cond.methodLink "SlotScreenModel" 59 y_MO_slotOf) ∈ GW := gw_t 602 (by decide +kernel) (by decide +kernel)
theorem w_604 : (Cond.instanceMethod y_MO_slotOf) ∈ GW := gw_t 604 (by decide +kernel) (by decide +kernel)
theorem w_605 : (Cond.code y_MO_slotOf prog_10_method_9_code 2 (some .int)) ∈ GW := gw_t 605 (by decide +kernel) (by decide +kernel)
theorem w_606 : (Cond.methodLink "SlotScreenModel" 56 y_MO_bits) ∈ GW := gw_t 606 (by decide +kernel) (by decide +kernel)
theorem w_607 : (Cond.static y_MO_bits) ∈ GW := gw_t 607 (by decide +kernel) (by decide +kernel)
theorem w_608 : (Cond.code y_MO_bits prog_10_method_10_code 4 (some .int)) ∈ GW := gw_t 608 (by decide +kernel) (by decide +kernel)
theorem w_609 : (Cond.methodLink "SlotScreenModel" 63 y_MO_deviceAt) ∈ GW := gw_t 609 (by decide +kernel) (by decide +kernel)
theorem w_611 : (Cond.instanceMethod y_MO_deviceAt) ∈ GW := gw_t 611 (by decide +kernel) (by decide +kernel)
theorem w_612 : (Cond.code y_MO_deviceAt prog_10_method_11_code 3 (some .int)) ∈ GW := gw_t 612 (by decide +kernel) (by decide +kernel)
theorem w_613 : (Cond.methodLink "SlotScreenModel" 66 y_MO_get) ∈ GW := gw_t 613 (by decide +kernel) (by decide +kernel)
theorem w_615 : (Cond.instanceMethod y_MO_get) ∈ GW := gw_t 615 (by decide +kernel) (by decide +kernel)
theorem w_616 : (Cond.code y_MO_get prog_10_method_8_code 4 (some .int)) ∈ GW := gw_t 616 (by decide +kernel) (by decide +kernel)
theorem w_617 : (Cond.methodLink "SlotScreenModel" 49 y_MO_placeOf) ∈ GW := gw_t 617 (by decide +kernel) (by decide +kernel)
theorem w_619 : (Cond.instanceMethod y_MO_placeOf) ∈ GW := gw_t 619 (by decide +kernel) (by decide +kernel)
theorem w_620 : (Cond.code y_MO_placeOf prog_10_method_7_code 3 (some .int)) ∈ GW := gw_t 620 (by decide +kernel) (by decide +kernel)
theorem w_621 : (Cond.methodLink "SlotScreenLaw" 63 y_MO_write) ∈ GW := gw_t 621 (by decide +kernel) (by decide +kernel)
theorem w_622 : (Cond.instanceMethod y_MO_write) ∈ GW := gw_t 622 (by decide +kernel) (by decide +kernel)
theorem w_623 : (Cond.selects "SlotScreenModel" y_MO_write y_MO_write) ∈ GW := gw_t 623 (by decide +kernel) (by decide +kernel)
theorem w_624 : (Cond.code y_MO_write prog_10_method_13_code 5 none) ∈ GW := gw_t 624 (by decide +kernel) (by decide +kernel)
theorem w_625 : (Cond.methodLink "SlotScreenLaw" 67 y_MO_far) ∈ GW := gw_t 625 (by decide +kernel) (by decide +kernel)
theorem w_626 : (Cond.instanceMethod y_MO_far) ∈ GW := gw_t 626 (by decide +kernel) (by decide +kernel)
theorem w_627 : (Cond.selects "SlotScreenModel" y_MO_far y_MO_far) ∈ GW := gw_t 627 (by decide +kernel) (by decide +kernel)
theorem w_628 : (Cond.code y_MO_far prog_10_method_14_code 4 (some .int)) ∈ GW := gw_t 628 (by decide +kernel) (by decide +kernel)
theorem w_629 : (Cond.methodLink "SlotScreenLaw" 71 y_MO_in) ∈ GW := gw_t 629 (by decide +kernel) (by decide +kernel)
theorem w_630 : (Cond.instanceMethod y_MO_in) ∈ GW := gw_t 630 (by decide +kernel) (by decide +kernel)
theorem w_631 : (Cond.selects "SlotScreenModel" y_MO_in y_MO_in) ∈ GW := gw_t 631 (by decide +kernel) (by decide +kernel)
theorem w_632 : (Cond.code y_MO_in prog_10_method_17_code 3 (some .int)) ∈ GW := gw_t 632 (by decide +kernel) (by decide +kernel)
theorem w_633 : (Cond.methodLink "SlotScreenModel" 81 y_MO_fetch) ∈ GW := gw_t 633 (by decide +kernel) (by decide +kernel)
theorem w_635 : (Cond.instanceMethod y_MO_fetch) ∈ GW := gw_t 635 (by decide +kernel) (by decide +kernel)
theorem w_636 : (Cond.code y_MO_fetch prog_10_method_16_code 1 none) ∈ GW := gw_t 636 (by decide +kernel) (by decide +kernel)
theorem w_637 : (Cond.methodLink "SlotScreenModel" 75 y_MO_goOn) ∈ GW := gw_t 637 (by decide +kernel) (by decide +kernel)
theorem w_639 : (Cond.instanceMethod y_MO_goOn) ∈ GW := gw_t 639 (by decide +kernel) (by decide +kernel)
theorem w_640 : (Cond.code y_MO_goOn prog_10_method_15_code 1 none) ∈ GW := gw_t 640 (by decide +kernel) (by decide +kernel)
theorem w_641 : (Cond.methodLink "SlotScreenLaw" 76 y_MO_out) ∈ GW := gw_t 641 (by decide +kernel) (by decide +kernel)
theorem w_642 : (Cond.instanceMethod y_MO_out) ∈ GW := gw_t 642 (by decide +kernel) (by decide +kernel)
theorem w_643 : (Cond.selects "SlotScreenModel" y_MO_out y_MO_out) ∈ GW := gw_t 643 (by decide +kernel) (by decide +kernel)
theorem w_644 : (Cond.code y_MO_out prog_10_method_19_code 3 (some .boolean)) ∈ GW := gw_t 644 (by decide +kernel) (by decide +kernel)
theorem w_645 : (Cond.methodLink "SlotScreenModel" 84 y_MO_control) ∈ GW := gw_t 645 (by decide +kernel) (by decide +kernel)
theorem w_647 : (Cond.instanceMethod y_MO_control) ∈ GW := gw_t 647 (by decide +kernel) (by decide +kernel)
theorem w_648 : (Cond.code y_MO_control prog_10_method_18_code 2 none) ∈ GW := gw_t 648 (by decide +kernel) (by decide +kernel)
theorem w_649 : (Cond.methodLink "SlotScreenLaw" 80 y_MO_scan) ∈ GW := gw_t 649 (by decide +kernel) (by decide +kernel)
theorem w_650 : (Cond.instanceMethod y_MO_scan) ∈ GW := gw_t 650 (by decide +kernel) (by decide +kernel)
theorem w_651 : (Cond.selects "SlotScreenModel" y_MO_scan y_MO_scan) ∈ GW := gw_t 651 (by decide +kernel) (by decide +kernel)
theorem w_652 : (Cond.code y_MO_scan prog_10_method_30_code 4 (some .int)) ∈ GW := gw_t 652 (by decide +kernel) (by decide +kernel)
theorem w_653 : (Cond.methodLink "SlotScreenModel" 88 y_MO_bit) ∈ GW := gw_t 653 (by decide +kernel) (by decide +kernel)
theorem w_655 : (Cond.instanceMethod y_MO_bit) ∈ GW := gw_t 655 (by decide +kernel) (by decide +kernel)
theorem w_656 : (Cond.code y_MO_bit prog_10_method_20_code 3 (some .boolean)) ∈ GW := gw_t 656 (by decide +kernel) (by decide +kernel)
theorem w_657 : (Cond.methodLink "SlotScreenModel" 114 y_MO_there) ∈ GW := gw_t 657 (by decide +kernel) (by decide +kernel)
theorem w_659 : (Cond.instanceMethod y_MO_there) ∈ GW := gw_t 659 (by decide +kernel) (by decide +kernel)
theorem w_660 : (Cond.code y_MO_there prog_10_method_25_code 2 (some .int)) ∈ GW := gw_t 660 (by decide +kernel) (by decide +kernel)
theorem w_661 : (Cond.methodLink "SlotScreenModel" 96 y_MO_sprite) ∈ GW := gw_t 661 (by decide +kernel) (by decide +kernel)
theorem w_663 : (Cond.instanceMethod y_MO_sprite) ∈ GW := gw_t 663 (by decide +kernel) (by decide +kernel)
theorem w_664 : (Cond.code y_MO_sprite prog_10_method_21_code 3 (some .int)) ∈ GW := gw_t 664 (by decide +kernel) (by decide +kernel)
theorem w_665 : (Cond.methodLink "SlotScreenModel" 117 y_MO_tellFifth) ∈ GW := gw_t 665 (by decide +kernel) (by decide +kernel)
theorem w_667 : (Cond.instanceMethod y_MO_tellFifth) ∈ GW := gw_t 667 (by decide +kernel) (by decide +kernel)
theorem w_668 : (Cond.code y_MO_tellFifth prog_10_method_29_code 4 none) ∈ GW := gw_t 668 (by decide +kernel) (by decide +kernel)
theorem w_669 : (Cond.methodLink "SlotScreenModel" 105 y_MO_rowOn) ∈ GW := gw_t 669 (by decide +kernel) (by decide +kernel)
theorem w_671 : (Cond.instanceMethod y_MO_rowOn) ∈ GW := gw_t 671 (by decide +kernel) (by decide +kernel)
theorem w_672 : (Cond.code y_MO_rowOn prog_10_method_24_code 4 (some .int)) ∈ GW := gw_t 672 (by decide +kernel) (by decide +kernel)
theorem w_673 : (Cond.methodLink "SlotScreenModel" 99 y_MO_size) ∈ GW := gw_t 673 (by decide +kernel) (by decide +kernel)
theorem w_675 : (Cond.instanceMethod y_MO_size) ∈ GW := gw_t 675 (by decide +kernel) (by decide +kernel)
theorem w_676 : (Cond.code y_MO_size prog_10_method_22_code 1 (some .int)) ∈ GW := gw_t 676 (by decide +kernel) (by decide +kernel)
theorem w_677 : (Cond.methodLink "SlotScreenModel" 92 y_MO_times) ∈ GW := gw_t 677 (by decide +kernel) (by decide +kernel)
theorem w_679 : (Cond.instanceMethod y_MO_times) ∈ GW := gw_t 679 (by decide +kernel) (by decide +kernel)
theorem w_680 : (Cond.code y_MO_times prog_10_method_23_code 1 (some .int)) ∈ GW := gw_t 680 (by decide +kernel) (by decide +kernel)
theorem w_681 : (Cond.methodLink "SlotScreenModel" 120 y_MO_color) ∈ GW := gw_t 681 (by decide +kernel) (by decide +kernel)
theorem w_683 : (Cond.instanceMethod y_MO_color) ∈ GW := gw_t 683 (by decide +kernel) (by decide +kernel)
theorem w_684 : (Cond.code y_MO_color prog_10_method_28_code 8 (some .int)) ∈ GW := gw_t 684 (by decide +kernel) (by decide +kernel)
theorem w_685 : (Cond.methodLink "SlotScreenModel" 108 y_MO_has) ∈ GW := gw_t 685 (by decide +kernel) (by decide +kernel)
theorem w_687 : (Cond.instanceMethod y_MO_has) ∈ GW := gw_t 687 (by decide +kernel) (by decide +kernel)
theorem w_688 : (Cond.code y_MO_has prog_10_method_26_code 9 (some .boolean)) ∈ GW := gw_t 688 (by decide +kernel) (by decide +kernel)
theorem w_689 : (Cond.methodLink "SlotScreenModel" 111 y_MO_tile) ∈ GW := gw_t 689 (by decide +kernel) (by decide +kernel)
theorem w_691 : (Cond.instanceMethod y_MO_tile) ∈ GW := gw_t 691 (by decide +kernel) (by decide +kernel)
theorem w_692 : (Cond.code y_MO_tile prog_10_method_27_code 6 (some .int)) ∈ GW := gw_t 692 (by decide +kernel) (by decide +kernel)
theorem w_693 : (Cond.methodLink "SlotScreenLaw" 85 y_MO_pixel) ∈ GW := gw_t 693 (by decide +kernel) (by decide +kernel)
theorem w_694 : (Cond.instanceMethod y_MO_pixel) ∈ GW := gw_t 694 (by decide +kernel) (by decide +kernel)
theorem w_695 : (Cond.selects "SlotScreenModel" y_MO_pixel y_MO_pixel) ∈ GW := gw_t 695 (by decide +kernel) (by decide +kernel)
theorem w_696 : (Cond.code y_MO_pixel prog_10_method_31_code 3 (some .int)) ∈ GW := gw_t 696 (by decide +kernel) (by decide +kernel)
theorem w_697 : (Cond.methodLink "SlotScreenLaw" 89 y_MO_video) ∈ GW := gw_t 697 (by decide +kernel) (by decide +kernel)
theorem w_698 : (Cond.instanceMethod y_MO_video) ∈ GW := gw_t 698 (by decide +kernel) (by decide +kernel)
theorem w_699 : (Cond.selects "SlotScreenModel" y_MO_video y_MO_video) ∈ GW := gw_t 699 (by decide +kernel) (by decide +kernel)
theorem w_700 : (Cond.code y_MO_video prog_10_method_32_code 2 (some .int)) ∈ GW := gw_t 700 (by decide +kernel) (by decide +kernel)
theorem w_701 : (Cond.methodLink "SlotScreenLaw" 93 y_MO_chip) ∈ GW := gw_t 701 (by decide +kernel) (by decide +kernel)
theorem w_702 : (Cond.instanceMethod y_MO_chip) ∈ GW := gw_t 702 (by decide +kernel) (by decide +kernel)
theorem w_703 : (Cond.selects "SlotScreenModel" y_MO_chip y_MO_chip) ∈ GW := gw_t 703 (by decide +kernel) (by decide +kernel)
theorem w_704 : (Cond.code y_MO_chip prog_10_method_33_code 2 (some .int)) ∈ GW := gw_t 704 (by decide +kernel) (by decide +kernel)
theorem w_705 : (Cond.methodLink "SlotScreenLaw" 97 y_MO_secondary) ∈ GW := gw_t 705 (by decide +kernel) (by decide +kernel)
theorem w_706 : (Cond.instanceMethod y_MO_secondary) ∈ GW := gw_t 706 (by decide +kernel) (by decide +kernel)
theorem w_707 : (Cond.selects "SlotScreenModel" y_MO_secondary y_MO_secondary) ∈ GW := gw_t 707 (by decide +kernel) (by decide +kernel)
theorem w_708 : (Cond.code y_MO_secondary prog_10_method_34_code 2 (some .int)) ∈ GW := gw_t 708 (by decide +kernel) (by decide +kernel)
theorem w_709 : (Cond.methodLink "SlotScreenLaw" 102 y_MO_calls) ∈ GW := gw_t 709 (by decide +kernel) (by decide +kernel)
theorem w_710 : (Cond.instanceMethod y_MO_calls) ∈ GW := gw_t 710 (by decide +kernel) (by decide +kernel)
theorem w_711 : (Cond.selects "SlotScreenModel" y_MO_calls y_MO_calls) ∈ GW := gw_t 711 (by decide +kernel) (by decide +kernel)
theorem w_712 : (Cond.code y_MO_calls prog_10_method_35_code 1 (some .boolean)) ∈ GW := gw_t 712 (by decide +kernel) (by decide +kernel)
theorem w_713 : (Cond.arrayClass .long) ∈ GW := gw_t 713 (by decide +kernel) (by decide +kernel)
theorem w_p0 : (Cond.selects "SlotScreen$Chip" y_CH_makeReady y_CH_makeReady) ∈ GW := gw_p 0 (by decide +kernel) (by decide +kernel)
theorem w_p1 : (Cond.selects "SlotScreen$Screen" y_SC_drawBack y_SC_drawBack) ∈ GW := gw_p 1 (by decide +kernel) (by decide +kernel)
theorem w_p2 : (Cond.selects "SlotScreen$Screen" y_SC_backColor y_SC_backColor) ∈ GW := gw_p 2 (by decide +kernel) (by decide +kernel)
theorem w_p3 : (Cond.selects "SlotScreen$Screen" y_SC_drawTiles y_SC_drawTiles) ∈ GW := gw_p 3 (by decide +kernel) (by decide +kernel)
theorem w_p4 : (Cond.selects "SlotScreen$Screen" y_SC_drawTileRow y_SC_drawTileRow) ∈ GW := gw_p 4 (by decide +kernel) (by decide +kernel)
theorem w_p5 : (Cond.selects "SlotScreen$Screen" y_SC_orBack y_SC_orBack) ∈ GW := gw_p 5 (by decide +kernel) (by decide +kernel)
theorem w_p6 : (Cond.selects "SlotScreen$Screen" y_SC_drawSprites y_SC_drawSprites) ∈ GW := gw_p 6 (by decide +kernel) (by decide +kernel)
theorem w_p7 : (Cond.selects "SlotScreen$Screen" y_SC_spriteSide y_SC_spriteSide) ∈ GW := gw_p 7 (by decide +kernel) (by decide +kernel)
theorem w_p8 : (Cond.selects "SlotScreen$Screen" y_SC_spriteZoom y_SC_spriteZoom) ∈ GW := gw_p 8 (by decide +kernel) (by decide +kernel)
theorem w_p9 : (Cond.selects "SlotScreen$Screen" y_SC_drawSpriteRow y_SC_drawSpriteRow) ∈ GW := gw_p 9 (by decide +kernel) (by decide +kernel)
theorem w_p10 : (Cond.selects "SlotScreen$Screen" y_SC_spriteBits y_SC_spriteBits) ∈ GW := gw_p 10 (by decide +kernel) (by decide +kernel)
theorem w_p11 : (Cond.selects "SlotScreen$Screen" y_SC_coverPixel y_SC_coverPixel) ∈ GW := gw_p 11 (by decide +kernel) (by decide +kernel)
theorem w_p13 : (Cond.selects "SlotScreenModel" y_MO_slotOf y_MO_slotOf) ∈ GW := gw_p 13 (by decide +kernel) (by decide +kernel)
theorem w_p14 : (Cond.selects "SlotScreenModel" y_MO_deviceAt y_MO_deviceAt) ∈ GW := gw_p 14 (by decide +kernel) (by decide +kernel)
theorem w_p15 : (Cond.selects "SlotScreenModel" y_MO_get y_MO_get) ∈ GW := gw_p 15 (by decide +kernel) (by decide +kernel)
theorem w_p16 : (Cond.selects "SlotScreenModel" y_MO_placeOf y_MO_placeOf) ∈ GW := gw_p 16 (by decide +kernel) (by decide +kernel)
theorem w_p17 : (Cond.selects "SlotScreenModel" y_MO_fetch y_MO_fetch) ∈ GW := gw_p 17 (by decide +kernel) (by decide +kernel)
theorem w_p18 : (Cond.selects "SlotScreenModel" y_MO_goOn y_MO_goOn) ∈ GW := gw_p 18 (by decide +kernel) (by decide +kernel)
theorem w_p19 : (Cond.selects "SlotScreenModel" y_MO_control y_MO_control) ∈ GW := gw_p 19 (by decide +kernel) (by decide +kernel)
theorem w_p20 : (Cond.selects "SlotScreenModel" y_MO_bit y_MO_bit) ∈ GW := gw_p 20 (by decide +kernel) (by decide +kernel)
theorem w_p21 : (Cond.selects "SlotScreenModel" y_MO_there y_MO_there) ∈ GW := gw_p 21 (by decide +kernel) (by decide +kernel)
theorem w_p22 : (Cond.selects "SlotScreenModel" y_MO_sprite y_MO_sprite) ∈ GW := gw_p 22 (by decide +kernel) (by decide +kernel)
theorem w_p23 : (Cond.selects "SlotScreenModel" y_MO_tellFifth y_MO_tellFifth) ∈ GW := gw_p 23 (by decide +kernel) (by decide +kernel)
theorem w_p24 : (Cond.selects "SlotScreenModel" y_MO_rowOn y_MO_rowOn) ∈ GW := gw_p 24 (by decide +kernel) (by decide +kernel)
theorem w_p25 : (Cond.selects "SlotScreenModel" y_MO_size y_MO_size) ∈ GW := gw_p 25 (by decide +kernel) (by decide +kernel)
theorem w_p26 : (Cond.selects "SlotScreenModel" y_MO_times y_MO_times) ∈ GW := gw_p 26 (by decide +kernel) (by decide +kernel)
theorem w_p27 : (Cond.selects "SlotScreenModel" y_MO_color y_MO_color) ∈ GW := gw_p 27 (by decide +kernel) (by decide +kernel)
theorem w_p28 : (Cond.selects "SlotScreenModel" y_MO_has y_MO_has) ∈ GW := gw_p 28 (by decide +kernel) (by decide +kernel)
theorem w_p29 : (Cond.selects "SlotScreenModel" y_MO_tile y_MO_tile) ∈ GW := gw_p 29 (by decide +kernel) (by decide +kernel)
theorem in_SS : ∀ w ∈ u_ws R_SS T_SS 3, w ∈ GW := by
  show ∀ w ∈ [(Cond.laysFinal "SlotScreen" "SlotScreen" "slots" "LSlotScreen$Slots;"), (Cond.laysFinal "SlotScreen" "SlotScreen" "chip" "LSlotScreen$Chip;"), (Cond.laysFinal "SlotScreen" "SlotScreen" "screen" "LSlotScreen$Screen;")], w ∈ GW
  exact List.forall_mem_cons.mpr ⟨w_96, List.forall_mem_cons.mpr ⟨w_98, List.forall_mem_cons.mpr ⟨w_100, fun _ h => absurd h List.not_mem_nil⟩⟩⟩
theorem in_SL : ∀ w ∈ u_ws R_SL T_SL 4, w ∈ GW := by
  show ∀ w ∈ [(Cond.laysFinal "SlotScreen$Slots" "SlotScreen$Slots" "devices" "[LSlotScreen$Device;"), (Cond.laysFinal "SlotScreen$Slots" "SlotScreen$Slots" "wide" "[Z"), (Cond.laysFinal "SlotScreen$Slots" "SlotScreen$Slots" "secondaries" "[I"), (Cond.lays "SlotScreen$Slots" "SlotScreen$Slots" "primary" "I")], w ∈ GW
  exact List.forall_mem_cons.mpr ⟨w_35, List.forall_mem_cons.mpr ⟨w_37, List.forall_mem_cons.mpr ⟨w_39, List.forall_mem_cons.mpr ⟨w_41, fun _ h => absurd h List.not_mem_nil⟩⟩⟩⟩
theorem in_CH : ∀ w ∈ u_ws R_CH T_CH 6, w ∈ GW := by
  show ∀ w ∈ [(Cond.laysFinal "SlotScreen$Chip" "SlotScreen$Chip" "bytes" "[I"), (Cond.laysFinal "SlotScreen$Chip" "SlotScreen$Chip" "registers" "[I"), (Cond.lays "SlotScreen$Chip" "SlotScreen$Chip" "status" "I"), (Cond.lays "SlotScreen$Chip" "SlotScreen$Chip" "pointer" "I"), (Cond.lays "SlotScreen$Chip" "SlotScreen$Chip" "ready" "I"), (Cond.lays "SlotScreen$Chip" "SlotScreen$Chip" "waiting" "I")], w ∈ GW
  exact List.forall_mem_cons.mpr ⟨w_58, List.forall_mem_cons.mpr ⟨w_60, List.forall_mem_cons.mpr ⟨w_62, List.forall_mem_cons.mpr ⟨w_64, List.forall_mem_cons.mpr ⟨w_66, List.forall_mem_cons.mpr ⟨w_68, fun _ h => absurd h List.not_mem_nil⟩⟩⟩⟩⟩⟩
theorem in_SC : ∀ w ∈ u_ws R_SC T_SC 5, w ∈ GW := by
  show ∀ w ∈ [(Cond.laysFinal "SlotScreen$Screen" "SlotScreen$Screen" "chip" "LSlotScreen$Chip;"), (Cond.laysFinal "SlotScreen$Screen" "SlotScreen$Screen" "colors" "[I"), (Cond.lays "SlotScreen$Screen" "SlotScreen$Screen" "next" "I"), (Cond.lays "SlotScreen$Screen" "SlotScreen$Screen" "covered" "J"), (Cond.lays "SlotScreen$Screen" "SlotScreen$Screen" "colored" "J")], w ∈ GW
  exact List.forall_mem_cons.mpr ⟨w_82, List.forall_mem_cons.mpr ⟨w_84, List.forall_mem_cons.mpr ⟨w_86, List.forall_mem_cons.mpr ⟨w_88, List.forall_mem_cons.mpr ⟨w_90, fun _ h => absurd h List.not_mem_nil⟩⟩⟩⟩⟩
theorem in_BK : ∀ w ∈ u_ws R_BK T_BK 3, w ∈ GW := by
  show ∀ w ∈ [(Cond.laysFinal "SlotScreen$Banks" "SlotScreen$Banks" "count" "I"), (Cond.laysFinal "SlotScreen$Banks" "SlotScreen$Banks" "bytes" "[I"), (Cond.laysFinal "SlotScreen$Banks" "SlotScreen$Banks" "shown" "[I")], w ∈ GW
  exact List.forall_mem_cons.mpr ⟨w_436, List.forall_mem_cons.mpr ⟨w_438, List.forall_mem_cons.mpr ⟨w_440, fun _ h => absurd h List.not_mem_nil⟩⟩⟩
theorem in_RA : ∀ w ∈ u_ws R_RA T_RA 2, w ∈ GW := by
  show ∀ w ∈ [(Cond.laysFinal "SlotScreen$Ram" "SlotScreen$Ram" "bytes" "[I"), (Cond.laysFinal "SlotScreen$Ram" "SlotScreen$Ram" "mask" "I")], w ∈ GW
  exact List.forall_mem_cons.mpr ⟨w_412, List.forall_mem_cons.mpr ⟨w_414, fun _ h => absurd h List.not_mem_nil⟩⟩
theorem in_RO : ∀ w ∈ u_ws R_RO T_RO 1, w ∈ GW := by
  show ∀ w ∈ [(Cond.laysFinal "SlotScreen$Rom" "SlotScreen$Rom" "bytes" "[I")], w ∈ GW
  exact List.forall_mem_cons.mpr ⟨w_424, fun _ h => absurd h List.not_mem_nil⟩
theorem in_MO : ∀ w ∈ u_ws R_MO T_MO 16, w ∈ GW := by
  show ∀ w ∈ [(Cond.lays "SlotScreenModel" "SlotScreenModel" "code" "I"), (Cond.laysFinal "SlotScreenModel" "SlotScreenModel" "wide" "[Z"), (Cond.laysFinal "SlotScreenModel" "SlotScreenModel" "secondary" "[I"), (Cond.laysFinal "SlotScreenModel" "SlotScreenModel" "kind" "[I"), (Cond.laysFinal "SlotScreenModel" "SlotScreenModel" "banks" "[I"), (Cond.laysFinal "SlotScreenModel" "SlotScreenModel" "shown" "[I"), (Cond.laysFinal "SlotScreenModel" "SlotScreenModel" "bytes" "[I"), (Cond.lays "SlotScreenModel" "SlotScreenModel" "primary" "I"), (Cond.laysFinal "SlotScreenModel" "SlotScreenModel" "own" "[I"), (Cond.laysFinal "SlotScreenModel" "SlotScreenModel" "registers" "[I"), (Cond.lays "SlotScreenModel" "SlotScreenModel" "status" "I"), (Cond.lays "SlotScreenModel" "SlotScreenModel" "pointer" "I"), (Cond.lays "SlotScreenModel" "SlotScreenModel" "ready" "I"), (Cond.lays "SlotScreenModel" "SlotScreenModel" "waits" "I"), (Cond.lays "SlotScreenModel" "SlotScreenModel" "line" "I"), (Cond.laysFinal "SlotScreenModel" "SlotScreenModel" "pixels" "[I")], w ∈ GW
  exact List.forall_mem_cons.mpr ⟨w_546, List.forall_mem_cons.mpr ⟨w_548, List.forall_mem_cons.mpr ⟨w_550, List.forall_mem_cons.mpr ⟨w_552, List.forall_mem_cons.mpr ⟨w_554, List.forall_mem_cons.mpr ⟨w_556, List.forall_mem_cons.mpr ⟨w_558, List.forall_mem_cons.mpr ⟨w_560, List.forall_mem_cons.mpr ⟨w_562, List.forall_mem_cons.mpr ⟨w_564, List.forall_mem_cons.mpr ⟨w_566, List.forall_mem_cons.mpr ⟨w_568, List.forall_mem_cons.mpr ⟨w_570, List.forall_mem_cons.mpr ⟨w_572, List.forall_mem_cons.mpr ⟨w_574, List.forall_mem_cons.mpr ⟨w_576, fun _ h => absurd h List.not_mem_nil⟩⟩⟩⟩⟩⟩⟩⟩⟩⟩⟩⟩⟩⟩⟩⟩
end
section
/-! DECODE rows -/
theorem d_MO_init_0 : decode b_MO_init 0 = .ok (.aload_n 0, 1) := by decide +kernel
theorem d_MO_init_1 : decode b_MO_init 1 = .ok (.invokespecial 1, 3) := by decide +kernel
theorem d_MO_init_4 : decode b_MO_init 4 = .ok (.aload_n 0, 1) := by decide +kernel
theorem d_MO_init_5 : decode b_MO_init 5 = .ok (.iconst 4, 1) := by decide +kernel
theorem d_MO_init_6 : decode b_MO_init 6 = .ok (.newarray .boolean, 2) := by decide +kernel
theorem d_MO_init_8 : decode b_MO_init 8 = .ok (.putfield 7, 3) := by decide +kernel
theorem d_MO_init_11 : decode b_MO_init 11 = .ok (.aload_n 0, 1) := by decide +kernel
theorem d_MO_init_12 : decode b_MO_init 12 = .ok (.iconst 4, 1) := by decide +kernel
theorem d_MO_init_13 : decode b_MO_init 13 = .ok (.newarray .int, 2) := by decide +kernel
theorem d_MO_init_15 : decode b_MO_init 15 = .ok (.putfield 13, 3) := by decide +kernel
theorem d_MO_init_18 : decode b_MO_init 18 = .ok (.aload_n 0, 1) := by decide +kernel
theorem d_MO_init_19 : decode b_MO_init 19 = .ok (.bipush 16, 2) := by decide +kernel
theorem d_MO_init_21 : decode b_MO_init 21 = .ok (.newarray .int, 2) := by decide +kernel
theorem d_MO_init_23 : decode b_MO_init 23 = .ok (.putfield 17, 3) := by decide +kernel
theorem d_MO_init_26 : decode b_MO_init 26 = .ok (.aload_n 0, 1) := by decide +kernel
theorem d_MO_init_27 : decode b_MO_init 27 = .ok (.bipush 16, 2) := by decide +kernel
theorem d_MO_init_29 : decode b_MO_init 29 = .ok (.newarray .int, 2) := by decide +kernel
theorem d_MO_init_31 : decode b_MO_init 31 = .ok (.putfield 20, 3) := by decide +kernel
theorem d_MO_init_34 : decode b_MO_init 34 = .ok (.aload_n 0, 1) := by decide +kernel
theorem d_MO_init_35 : decode b_MO_init 35 = .ok (.bipush 64, 2) := by decide +kernel
theorem d_MO_init_37 : decode b_MO_init 37 = .ok (.newarray .int, 2) := by decide +kernel
theorem d_MO_init_39 : decode b_MO_init 39 = .ok (.putfield 23, 3) := by decide +kernel
theorem d_MO_init_42 : decode b_MO_init 42 = .ok (.aload_n 0, 1) := by decide +kernel
theorem d_MO_init_43 : decode b_MO_init 43 = .ok (.sipush 4096, 3) := by decide +kernel
theorem d_MO_init_46 : decode b_MO_init 46 = .ok (.newarray .int, 2) := by decide +kernel
theorem d_MO_init_48 : decode b_MO_init 48 = .ok (.putfield 26, 3) := by decide +kernel
theorem d_MO_init_51 : decode b_MO_init 51 = .ok (.aload_n 0, 1) := by decide +kernel
theorem d_MO_init_52 : decode b_MO_init 52 = .ok (.sipush 512, 3) := by decide +kernel
theorem d_MO_init_55 : decode b_MO_init 55 = .ok (.newarray .int, 2) := by decide +kernel
theorem d_MO_init_57 : decode b_MO_init 57 = .ok (.putfield 29, 3) := by decide +kernel
theorem d_MO_init_60 : decode b_MO_init 60 = .ok (.aload_n 0, 1) := by decide +kernel
theorem d_MO_init_61 : decode b_MO_init 61 = .ok (.bipush 8, 2) := by decide +kernel
theorem d_MO_init_63 : decode b_MO_init 63 = .ok (.newarray .int, 2) := by decide +kernel
theorem d_MO_init_65 : decode b_MO_init 65 = .ok (.putfield 32, 3) := by decide +kernel
theorem d_MO_init_68 : decode b_MO_init 68 = .ok (.aload_n 0, 1) := by decide +kernel
theorem d_MO_init_69 : decode b_MO_init 69 = .ok (.iconst (-1), 1) := by decide +kernel
theorem d_MO_init_70 : decode b_MO_init 70 = .ok (.putfield 35, 3) := by decide +kernel
theorem d_MO_init_73 : decode b_MO_init 73 = .ok (.aload_n 0, 1) := by decide +kernel
theorem d_MO_init_74 : decode b_MO_init 74 = .ok (.sipush 2048, 3) := by decide +kernel
theorem d_MO_init_77 : decode b_MO_init 77 = .ok (.newarray .int, 2) := by decide +kernel
theorem d_MO_init_79 : decode b_MO_init 79 = .ok (.putfield 39, 3) := by decide +kernel
theorem d_MO_init_82 : decode b_MO_init 82 = .ok (.return_, 1) := by decide +kernel
theorem d_MO_thrown_0 : decode b_MO_thrown 0 = .ok (.aload_n 0, 1) := by decide +kernel
theorem d_MO_thrown_1 : decode b_MO_thrown 1 = .ok (.getfield 42, 3) := by decide +kernel
theorem d_MO_thrown_4 : decode b_MO_thrown 4 = .ok (.ireturn, 1) := by decide +kernel
theorem d_MO_within_0 : decode b_MO_within 0 = .ok (.iload_n 0, 1) := by decide +kernel
theorem d_MO_within_1 : decode b_MO_within 1 = .ok (.iload_n 1, 1) := by decide +kernel
theorem d_MO_within_2 : decode b_MO_within 2 = .ok (.if_icmp .lt 12, 3) := by decide +kernel
theorem d_MO_within_5 : decode b_MO_within 5 = .ok (.iload_n 0, 1) := by decide +kernel
theorem d_MO_within_6 : decode b_MO_within 6 = .ok (.iload_n 2, 1) := by decide +kernel
theorem d_MO_within_7 : decode b_MO_within 7 = .ok (.if_icmp .gt 7, 3) := by decide +kernel
theorem d_MO_within_10 : decode b_MO_within 10 = .ok (.iconst 1, 1) := by decide +kernel
theorem d_MO_within_11 : decode b_MO_within 11 = .ok (.goto 4, 3) := by decide +kernel
theorem d_MO_within_14 : decode b_MO_within 14 = .ok (.iconst 0, 1) := by decide +kernel
theorem d_MO_within_15 : decode b_MO_within 15 = .ok (.ireturn, 1) := by decide +kernel
theorem d_MO_widen_0 : decode b_MO_widen 0 = .ok (.aload_n 0, 1) := by decide +kernel
theorem d_MO_widen_1 : decode b_MO_widen 1 = .ok (.iload_n 1, 1) := by decide +kernel
theorem d_MO_widen_2 : decode b_MO_widen 2 = .ok (.iconst 0, 1) := by decide +kernel
theorem d_MO_widen_3 : decode b_MO_widen 3 = .ok (.iconst 3, 1) := by decide +kernel
theorem d_MO_widen_4 : decode b_MO_widen 4 = .ok (.invokestatic 45, 3) := by decide +kernel
theorem d_MO_widen_7 : decode b_MO_widen 7 = .ok (.ifCond .eq 7, 3) := by decide +kernel
theorem d_MO_widen_10 : decode b_MO_widen 10 = .ok (.iconst 0, 1) := by decide +kernel
theorem d_MO_widen_11 : decode b_MO_widen 11 = .ok (.goto 4, 3) := by decide +kernel
theorem d_MO_widen_14 : decode b_MO_widen 14 = .ok (.iconst 1, 1) := by decide +kernel
theorem d_MO_widen_15 : decode b_MO_widen 15 = .ok (.putfield 42, 3) := by decide +kernel
theorem d_MO_widen_18 : decode b_MO_widen 18 = .ok (.aload_n 0, 1) := by decide +kernel
theorem d_MO_widen_19 : decode b_MO_widen 19 = .ok (.getfield 42, 3) := by decide +kernel
theorem d_MO_widen_22 : decode b_MO_widen 22 = .ok (.ifCond .eq 4, 3) := by decide +kernel
theorem d_MO_widen_25 : decode b_MO_widen 25 = .ok (.return_, 1) := by decide +kernel
theorem d_MO_widen_26 : decode b_MO_widen 26 = .ok (.aload_n 0, 1) := by decide +kernel
theorem d_MO_widen_27 : decode b_MO_widen 27 = .ok (.getfield 7, 3) := by decide +kernel
theorem d_MO_widen_30 : decode b_MO_widen 30 = .ok (.iload_n 1, 1) := by decide +kernel
theorem d_MO_widen_31 : decode b_MO_widen 31 = .ok (.baload, 1) := by decide +kernel
theorem d_MO_widen_32 : decode b_MO_widen 32 = .ok (.ifCond .ne 14, 3) := by decide +kernel
theorem d_MO_widen_35 : decode b_MO_widen 35 = .ok (.aload_n 0, 1) := by decide +kernel
theorem d_MO_widen_36 : decode b_MO_widen 36 = .ok (.getfield 17, 3) := by decide +kernel
theorem d_MO_widen_39 : decode b_MO_widen 39 = .ok (.iconst 4, 1) := by decide +kernel
theorem d_MO_widen_40 : decode b_MO_widen 40 = .ok (.iload_n 1, 1) := by decide +kernel
theorem d_MO_widen_41 : decode b_MO_widen 41 = .ok (.imul, 1) := by decide +kernel
theorem d_MO_widen_42 : decode b_MO_widen 42 = .ok (.iaload, 1) := by decide +kernel
theorem d_MO_widen_43 : decode b_MO_widen 43 = .ok (.ifCond .eq 9, 3) := by decide +kernel
theorem d_MO_widen_46 : decode b_MO_widen 46 = .ok (.aload_n 0, 1) := by decide +kernel
theorem d_MO_widen_47 : decode b_MO_widen 47 = .ok (.iconst 2, 1) := by decide +kernel
theorem d_MO_widen_48 : decode b_MO_widen 48 = .ok (.putfield 42, 3) := by decide +kernel
theorem d_MO_widen_51 : decode b_MO_widen 51 = .ok (.return_, 1) := by decide +kernel
theorem d_MO_widen_52 : decode b_MO_widen 52 = .ok (.aload_n 0, 1) := by decide +kernel
theorem d_MO_widen_53 : decode b_MO_widen 53 = .ok (.getfield 7, 3) := by decide +kernel
theorem d_MO_widen_56 : decode b_MO_widen 56 = .ok (.iload_n 1, 1) := by decide +kernel
theorem d_MO_widen_57 : decode b_MO_widen 57 = .ok (.iconst 1, 1) := by decide +kernel
theorem d_MO_widen_58 : decode b_MO_widen 58 = .ok (.bastore, 1) := by decide +kernel
theorem d_MO_widen_59 : decode b_MO_widen 59 = .ok (.return_, 1) := by decide +kernel
theorem d_MO_plug_0 : decode b_MO_plug 0 = .ok (.aload_n 0, 1) := by decide +kernel
theorem d_MO_plug_1 : decode b_MO_plug 1 = .ok (.iload_n 1, 1) := by decide +kernel
theorem d_MO_plug_2 : decode b_MO_plug 2 = .ok (.iconst 0, 1) := by decide +kernel
theorem d_MO_plug_3 : decode b_MO_plug 3 = .ok (.iconst 3, 1) := by decide +kernel
theorem d_MO_plug_4 : decode b_MO_plug 4 = .ok (.invokestatic 45, 3) := by decide +kernel
theorem d_MO_plug_7 : decode b_MO_plug 7 = .ok (.ifCond .eq 41, 3) := by decide +kernel
theorem d_MO_plug_10 : decode b_MO_plug 10 = .ok (.iload_n 2, 1) := by decide +kernel
theorem d_MO_plug_11 : decode b_MO_plug 11 = .ok (.iconst 0, 1) := by decide +kernel
theorem d_MO_plug_12 : decode b_MO_plug 12 = .ok (.iconst 3, 1) := by decide +kernel
theorem d_MO_plug_13 : decode b_MO_plug 13 = .ok (.invokestatic 45, 3) := by decide +kernel
theorem d_MO_plug_16 : decode b_MO_plug 16 = .ok (.ifCond .eq 32, 3) := by decide +kernel
theorem d_MO_plug_19 : decode b_MO_plug 19 = .ok (.iload_n 3, 1) := by decide +kernel
theorem d_MO_plug_20 : decode b_MO_plug 20 = .ok (.iconst 1, 1) := by decide +kernel
theorem d_MO_plug_21 : decode b_MO_plug 21 = .ok (.iconst 4, 1) := by decide +kernel
theorem d_MO_plug_22 : decode b_MO_plug 22 = .ok (.invokestatic 45, 3) := by decide +kernel
theorem d_MO_plug_25 : decode b_MO_plug 25 = .ok (.ifCond .eq 23, 3) := by decide +kernel
theorem d_MO_plug_28 : decode b_MO_plug 28 = .ok (.iload_n 3, 1) := by decide +kernel
theorem d_MO_plug_29 : decode b_MO_plug 29 = .ok (.iconst 3, 1) := by decide +kernel
theorem d_MO_plug_30 : decode b_MO_plug 30 = .ok (.if_icmp .ne 14, 3) := by decide +kernel
theorem d_MO_plug_33 : decode b_MO_plug 33 = .ok (.iload 4, 2) := by decide +kernel
theorem d_MO_plug_35 : decode b_MO_plug 35 = .ok (.iconst 1, 1) := by decide +kernel
theorem d_MO_plug_36 : decode b_MO_plug 36 = .ok (.bipush 8, 2) := by decide +kernel
theorem d_MO_plug_38 : decode b_MO_plug 38 = .ok (.invokestatic 45, 3) := by decide +kernel
theorem d_MO_plug_41 : decode b_MO_plug 41 = .ok (.ifCond .eq 7, 3) := by decide +kernel
theorem d_MO_plug_44 : decode b_MO_plug 44 = .ok (.iconst 0, 1) := by decide +kernel
theorem d_MO_plug_45 : decode b_MO_plug 45 = .ok (.goto 4, 3) := by decide +kernel
theorem d_MO_plug_48 : decode b_MO_plug 48 = .ok (.iconst 1, 1) := by decide +kernel
theorem d_MO_plug_49 : decode b_MO_plug 49 = .ok (.putfield 42, 3) := by decide +kernel
theorem d_MO_plug_52 : decode b_MO_plug 52 = .ok (.aload_n 0, 1) := by decide +kernel
theorem d_MO_plug_53 : decode b_MO_plug 53 = .ok (.getfield 42, 3) := by decide +kernel
theorem d_MO_plug_56 : decode b_MO_plug 56 = .ok (.ifCond .eq 4, 3) := by decide +kernel
theorem d_MO_plug_59 : decode b_MO_plug 59 = .ok (.return_, 1) := by decide +kernel
theorem d_MO_plug_60 : decode b_MO_plug 60 = .ok (.iconst 4, 1) := by decide +kernel
theorem d_MO_plug_61 : decode b_MO_plug 61 = .ok (.iload_n 1, 1) := by decide +kernel
theorem d_MO_plug_62 : decode b_MO_plug 62 = .ok (.imul, 1) := by decide +kernel
theorem d_MO_plug_63 : decode b_MO_plug 63 = .ok (.iload_n 2, 1) := by decide +kernel
theorem d_MO_plug_64 : decode b_MO_plug 64 = .ok (.iadd, 1) := by decide +kernel
theorem d_MO_plug_65 : decode b_MO_plug 65 = .ok (.istore 5, 2) := by decide +kernel
theorem d_MO_plug_67 : decode b_MO_plug 67 = .ok (.aload_n 0, 1) := by decide +kernel
theorem d_MO_plug_68 : decode b_MO_plug 68 = .ok (.getfield 7, 3) := by decide +kernel
theorem d_MO_plug_71 : decode b_MO_plug 71 = .ok (.iload_n 1, 1) := by decide +kernel
theorem d_MO_plug_72 : decode b_MO_plug 72 = .ok (.baload, 1) := by decide +kernel
theorem d_MO_plug_73 : decode b_MO_plug 73 = .ok (.ifCond .ne 7, 3) := by decide +kernel
theorem d_MO_plug_76 : decode b_MO_plug 76 = .ok (.iload_n 2, 1) := by decide +kernel
theorem d_MO_plug_77 : decode b_MO_plug 77 = .ok (.ifCond .gt 13, 3) := by decide +kernel
theorem d_MO_plug_80 : decode b_MO_plug 80 = .ok (.aload_n 0, 1) := by decide +kernel
theorem d_MO_plug_81 : decode b_MO_plug 81 = .ok (.getfield 17, 3) := by decide +kernel
theorem d_MO_plug_84 : decode b_MO_plug 84 = .ok (.iload 5, 2) := by decide +kernel
theorem d_MO_plug_86 : decode b_MO_plug 86 = .ok (.iaload, 1) := by decide +kernel
theorem d_MO_plug_87 : decode b_MO_plug 87 = .ok (.ifCond .eq 9, 3) := by decide +kernel
theorem d_MO_plug_90 : decode b_MO_plug 90 = .ok (.aload_n 0, 1) := by decide +kernel
theorem d_MO_plug_91 : decode b_MO_plug 91 = .ok (.iconst 2, 1) := by decide +kernel
theorem d_MO_plug_92 : decode b_MO_plug 92 = .ok (.putfield 42, 3) := by decide +kernel
theorem d_MO_plug_95 : decode b_MO_plug 95 = .ok (.return_, 1) := by decide +kernel
theorem d_MO_plug_96 : decode b_MO_plug 96 = .ok (.aload_n 0, 1) := by decide +kernel
theorem d_MO_plug_97 : decode b_MO_plug 97 = .ok (.getfield 17, 3) := by decide +kernel
theorem d_MO_plug_100 : decode b_MO_plug 100 = .ok (.iload 5, 2) := by decide +kernel
theorem d_MO_plug_102 : decode b_MO_plug 102 = .ok (.iload_n 3, 1) := by decide +kernel
theorem d_MO_plug_103 : decode b_MO_plug 103 = .ok (.iastore, 1) := by decide +kernel
theorem d_MO_plug_104 : decode b_MO_plug 104 = .ok (.aload_n 0, 1) := by decide +kernel
theorem d_MO_plug_105 : decode b_MO_plug 105 = .ok (.getfield 20, 3) := by decide +kernel
theorem d_MO_plug_108 : decode b_MO_plug 108 = .ok (.iload 5, 2) := by decide +kernel
theorem d_MO_plug_110 : decode b_MO_plug 110 = .ok (.iload 4, 2) := by decide +kernel
theorem d_MO_plug_112 : decode b_MO_plug 112 = .ok (.iastore, 1) := by decide +kernel
theorem d_MO_plug_113 : decode b_MO_plug 113 = .ok (.iconst 0, 1) := by decide +kernel
theorem d_MO_plug_114 : decode b_MO_plug 114 = .ok (.istore 6, 2) := by decide +kernel
theorem d_MO_plug_116 : decode b_MO_plug 116 = .ok (.iload 6, 2) := by decide +kernel
theorem d_MO_plug_118 : decode b_MO_plug 118 = .ok (.iconst 4, 1) := by decide +kernel
theorem d_MO_plug_119 : decode b_MO_plug 119 = .ok (.if_icmp .ge 31, 3) := by decide +kernel
theorem d_MO_plug_122 : decode b_MO_plug 122 = .ok (.iload_n 3, 1) := by decide +kernel
theorem d_MO_plug_123 : decode b_MO_plug 123 = .ok (.iconst 3, 1) := by decide +kernel
theorem d_MO_plug_124 : decode b_MO_plug 124 = .ok (.if_icmp .ne 26, 3) := by decide +kernel
theorem d_MO_plug_127 : decode b_MO_plug 127 = .ok (.aload_n 0, 1) := by decide +kernel
theorem d_MO_plug_128 : decode b_MO_plug 128 = .ok (.getfield 23, 3) := by decide +kernel
theorem d_MO_plug_131 : decode b_MO_plug 131 = .ok (.iconst 4, 1) := by decide +kernel
theorem d_MO_plug_132 : decode b_MO_plug 132 = .ok (.iload 5, 2) := by decide +kernel
theorem d_MO_plug_134 : decode b_MO_plug 134 = .ok (.imul, 1) := by decide +kernel
theorem d_MO_plug_135 : decode b_MO_plug 135 = .ok (.iload 6, 2) := by decide +kernel
theorem d_MO_plug_137 : decode b_MO_plug 137 = .ok (.iadd, 1) := by decide +kernel
theorem d_MO_plug_138 : decode b_MO_plug 138 = .ok (.iload 6, 2) := by decide +kernel
theorem d_MO_plug_140 : decode b_MO_plug 140 = .ok (.iload 4, 2) := by decide +kernel
theorem d_MO_plug_142 : decode b_MO_plug 142 = .ok (.irem, 1) := by decide +kernel
theorem d_MO_plug_143 : decode b_MO_plug 143 = .ok (.iastore, 1) := by decide +kernel
theorem d_MO_plug_144 : decode b_MO_plug 144 = .ok (.iinc 6 1, 3) := by decide +kernel
theorem d_MO_plug_147 : decode b_MO_plug 147 = .ok (.goto (-31), 3) := by decide +kernel
theorem d_MO_plug_150 : decode b_MO_plug 150 = .ok (.return_, 1) := by decide +kernel
theorem d_MO_burn_0 : decode b_MO_burn 0 = .ok (.aload_n 0, 1) := by decide +kernel
theorem d_MO_burn_1 : decode b_MO_burn 1 = .ok (.iconst 0, 1) := by decide +kernel
theorem d_MO_burn_2 : decode b_MO_burn 2 = .ok (.putfield 42, 3) := by decide +kernel
theorem d_MO_burn_5 : decode b_MO_burn 5 = .ok (.iload_n 1, 1) := by decide +kernel
theorem d_MO_burn_6 : decode b_MO_burn 6 = .ok (.iconst 0, 1) := by decide +kernel
theorem d_MO_burn_7 : decode b_MO_burn 7 = .ok (.iconst 3, 1) := by decide +kernel
theorem d_MO_burn_8 : decode b_MO_burn 8 = .ok (.invokestatic 45, 3) := by decide +kernel
theorem d_MO_burn_11 : decode b_MO_burn 11 = .ok (.ifCond .eq 24, 3) := by decide +kernel
theorem d_MO_burn_14 : decode b_MO_burn 14 = .ok (.iload_n 2, 1) := by decide +kernel
theorem d_MO_burn_15 : decode b_MO_burn 15 = .ok (.iconst 0, 1) := by decide +kernel
theorem d_MO_burn_16 : decode b_MO_burn 16 = .ok (.iconst 3, 1) := by decide +kernel
theorem d_MO_burn_17 : decode b_MO_burn 17 = .ok (.invokestatic 45, 3) := by decide +kernel
theorem d_MO_burn_20 : decode b_MO_burn 20 = .ok (.ifCond .eq 15, 3) := by decide +kernel
theorem d_MO_burn_23 : decode b_MO_burn 23 = .ok (.iload 4, 2) := by decide +kernel
theorem d_MO_burn_25 : decode b_MO_burn 25 = .ok (.iconst 0, 1) := by decide +kernel
theorem d_MO_burn_26 : decode b_MO_burn 26 = .ok (.sipush 255, 3) := by decide +kernel
theorem d_MO_burn_29 : decode b_MO_burn 29 = .ok (.invokestatic 45, 3) := by decide +kernel
theorem d_MO_burn_32 : decode b_MO_burn 32 = .ok (.ifCond .ne 5, 3) := by decide +kernel
theorem d_MO_burn_35 : decode b_MO_burn 35 = .ok (.iconst 0, 1) := by decide +kernel
theorem d_MO_burn_36 : decode b_MO_burn 36 = .ok (.ireturn, 1) := by decide +kernel
theorem d_MO_burn_37 : decode b_MO_burn 37 = .ok (.iconst 4, 1) := by decide +kernel
theorem d_MO_burn_38 : decode b_MO_burn 38 = .ok (.iload_n 1, 1) := by decide +kernel
theorem d_MO_burn_39 : decode b_MO_burn 39 = .ok (.imul, 1) := by decide +kernel
theorem d_MO_burn_40 : decode b_MO_burn 40 = .ok (.iload_n 2, 1) := by decide +kernel
theorem d_MO_burn_41 : decode b_MO_burn 41 = .ok (.iadd, 1) := by decide +kernel
theorem d_MO_burn_42 : decode b_MO_burn 42 = .ok (.istore 5, 2) := by decide +kernel
theorem d_MO_burn_44 : decode b_MO_burn 44 = .ok (.aload_n 0, 1) := by decide +kernel
theorem d_MO_burn_45 : decode b_MO_burn 45 = .ok (.getfield 17, 3) := by decide +kernel
theorem d_MO_burn_48 : decode b_MO_burn 48 = .ok (.iload 5, 2) := by decide +kernel
theorem d_MO_burn_50 : decode b_MO_burn 50 = .ok (.iaload, 1) := by decide +kernel
theorem d_MO_burn_51 : decode b_MO_burn 51 = .ok (.iconst 2, 1) := by decide +kernel
theorem d_MO_burn_52 : decode b_MO_burn 52 = .ok (.if_icmp .ne 9, 3) := by decide +kernel
theorem d_MO_burn_55 : decode b_MO_burn 55 = .ok (.sipush 256, 3) := by decide +kernel
theorem d_MO_burn_58 : decode b_MO_burn 58 = .ok (.goto 28, 3) := by decide +kernel
theorem d_MO_burn_61 : decode b_MO_burn 61 = .ok (.aload_n 0, 1) := by decide +kernel
theorem d_MO_burn_62 : decode b_MO_burn 62 = .ok (.getfield 17, 3) := by decide +kernel
theorem d_MO_burn_65 : decode b_MO_burn 65 = .ok (.iload 5, 2) := by decide +kernel
theorem d_MO_burn_67 : decode b_MO_burn 67 = .ok (.iaload, 1) := by decide +kernel
theorem d_MO_burn_68 : decode b_MO_burn 68 = .ok (.iconst 3, 1) := by decide +kernel
theorem d_MO_burn_69 : decode b_MO_burn 69 = .ok (.if_icmp .ne 16, 3) := by decide +kernel
theorem d_MO_burn_72 : decode b_MO_burn 72 = .ok (.bipush 32, 2) := by decide +kernel
theorem d_MO_burn_74 : decode b_MO_burn 74 = .ok (.aload_n 0, 1) := by decide +kernel
theorem d_MO_burn_75 : decode b_MO_burn 75 = .ok (.getfield 20, 3) := by decide +kernel
theorem d_MO_burn_78 : decode b_MO_burn 78 = .ok (.iload 5, 2) := by decide +kernel
theorem d_MO_burn_80 : decode b_MO_burn 80 = .ok (.iaload, 1) := by decide +kernel
theorem d_MO_burn_81 : decode b_MO_burn 81 = .ok (.imul, 1) := by decide +kernel
theorem d_MO_burn_82 : decode b_MO_burn 82 = .ok (.goto 4, 3) := by decide +kernel
theorem d_MO_burn_85 : decode b_MO_burn 85 = .ok (.iconst 0, 1) := by decide +kernel
theorem d_MO_burn_86 : decode b_MO_burn 86 = .ok (.istore 6, 2) := by decide +kernel
theorem d_MO_burn_88 : decode b_MO_burn 88 = .ok (.iload_n 3, 1) := by decide +kernel
theorem d_MO_burn_89 : decode b_MO_burn 89 = .ok (.ifCond .lt 9, 3) := by decide +kernel
theorem d_MO_burn_92 : decode b_MO_burn 92 = .ok (.iload_n 3, 1) := by decide +kernel
theorem d_MO_burn_93 : decode b_MO_burn 93 = .ok (.iload 6, 2) := by decide +kernel
theorem d_MO_burn_95 : decode b_MO_burn 95 = .ok (.if_icmp .lt 5, 3) := by decide +kernel
theorem d_MO_burn_98 : decode b_MO_burn 98 = .ok (.iconst 0, 1) := by decide +kernel
theorem d_MO_burn_99 : decode b_MO_burn 99 = .ok (.ireturn, 1) := by decide +kernel
theorem d_MO_burn_100 : decode b_MO_burn 100 = .ok (.aload_n 0, 1) := by decide +kernel
theorem d_MO_burn_101 : decode b_MO_burn 101 = .ok (.getfield 26, 3) := by decide +kernel
theorem d_MO_burn_104 : decode b_MO_burn 104 = .ok (.sipush 256, 3) := by decide +kernel
theorem d_MO_burn_107 : decode b_MO_burn 107 = .ok (.iload 5, 2) := by decide +kernel
theorem d_MO_burn_109 : decode b_MO_burn 109 = .ok (.imul, 1) := by decide +kernel
theorem d_MO_burn_110 : decode b_MO_burn 110 = .ok (.iload_n 3, 1) := by decide +kernel
theorem d_MO_burn_111 : decode b_MO_burn 111 = .ok (.iadd, 1) := by decide +kernel
theorem d_MO_burn_112 : decode b_MO_burn 112 = .ok (.iload 4, 2) := by decide +kernel
theorem d_MO_burn_114 : decode b_MO_burn 114 = .ok (.iastore, 1) := by decide +kernel
theorem d_MO_burn_115 : decode b_MO_burn 115 = .ok (.iconst 1, 1) := by decide +kernel
theorem d_MO_burn_116 : decode b_MO_burn 116 = .ok (.ireturn, 1) := by decide +kernel
theorem d_MO_placeOf_0 : decode b_MO_placeOf 0 = .ok (.aload_n 0, 1) := by decide +kernel
theorem d_MO_placeOf_1 : decode b_MO_placeOf 1 = .ok (.getfield 17, 3) := by decide +kernel
theorem d_MO_placeOf_4 : decode b_MO_placeOf 4 = .ok (.iload_n 1, 1) := by decide +kernel
theorem d_MO_placeOf_5 : decode b_MO_placeOf 5 = .ok (.iaload, 1) := by decide +kernel
theorem d_MO_placeOf_6 : decode b_MO_placeOf 6 = .ok (.tableswitch 95 1 4 #[30, 30, 38, 84], 30) := by decide +kernel
theorem d_MO_placeOf_36 : decode b_MO_placeOf 36 = .ok (.sipush 256, 3) := by decide +kernel
theorem d_MO_placeOf_39 : decode b_MO_placeOf 39 = .ok (.iload_n 1, 1) := by decide +kernel
theorem d_MO_placeOf_40 : decode b_MO_placeOf 40 = .ok (.imul, 1) := by decide +kernel
theorem d_MO_placeOf_41 : decode b_MO_placeOf 41 = .ok (.iload_n 2, 1) := by decide +kernel
theorem d_MO_placeOf_42 : decode b_MO_placeOf 42 = .ok (.iadd, 1) := by decide +kernel
theorem d_MO_placeOf_43 : decode b_MO_placeOf 43 = .ok (.ireturn, 1) := by decide +kernel
theorem d_MO_placeOf_44 : decode b_MO_placeOf 44 = .ok (.iload_n 2, 1) := by decide +kernel
theorem d_MO_placeOf_45 : decode b_MO_placeOf 45 = .ok (.bipush 64, 2) := by decide +kernel
theorem d_MO_placeOf_47 : decode b_MO_placeOf 47 = .ok (.sipush 191, 3) := by decide +kernel
theorem d_MO_placeOf_50 : decode b_MO_placeOf 50 = .ok (.invokestatic 45, 3) := by decide +kernel
theorem d_MO_placeOf_53 : decode b_MO_placeOf 53 = .ok (.ifCond .eq 35, 3) := by decide +kernel
theorem d_MO_placeOf_56 : decode b_MO_placeOf 56 = .ok (.sipush 256, 3) := by decide +kernel
theorem d_MO_placeOf_59 : decode b_MO_placeOf 59 = .ok (.iload_n 1, 1) := by decide +kernel
theorem d_MO_placeOf_60 : decode b_MO_placeOf 60 = .ok (.imul, 1) := by decide +kernel
theorem d_MO_placeOf_61 : decode b_MO_placeOf 61 = .ok (.bipush 32, 2) := by decide +kernel
theorem d_MO_placeOf_63 : decode b_MO_placeOf 63 = .ok (.aload_n 0, 1) := by decide +kernel
theorem d_MO_placeOf_64 : decode b_MO_placeOf 64 = .ok (.getfield 23, 3) := by decide +kernel
theorem d_MO_placeOf_67 : decode b_MO_placeOf 67 = .ok (.iconst 4, 1) := by decide +kernel
theorem d_MO_placeOf_68 : decode b_MO_placeOf 68 = .ok (.iload_n 1, 1) := by decide +kernel
theorem d_MO_placeOf_69 : decode b_MO_placeOf 69 = .ok (.imul, 1) := by decide +kernel
theorem d_MO_placeOf_70 : decode b_MO_placeOf 70 = .ok (.iload_n 2, 1) := by decide +kernel
theorem d_MO_placeOf_71 : decode b_MO_placeOf 71 = .ok (.bipush 32, 2) := by decide +kernel
theorem d_MO_placeOf_73 : decode b_MO_placeOf 73 = .ok (.idiv, 1) := by decide +kernel
theorem d_MO_placeOf_74 : decode b_MO_placeOf 74 = .ok (.iadd, 1) := by decide +kernel
theorem d_MO_placeOf_75 : decode b_MO_placeOf 75 = .ok (.iconst 2, 1) := by decide +kernel
theorem d_MO_placeOf_76 : decode b_MO_placeOf 76 = .ok (.isub, 1) := by decide +kernel
theorem d_MO_placeOf_77 : decode b_MO_placeOf 77 = .ok (.iaload, 1) := by decide +kernel
theorem d_MO_placeOf_78 : decode b_MO_placeOf 78 = .ok (.imul, 1) := by decide +kernel
theorem d_MO_placeOf_79 : decode b_MO_placeOf 79 = .ok (.iadd, 1) := by decide +kernel
theorem d_MO_placeOf_80 : decode b_MO_placeOf 80 = .ok (.iload_n 2, 1) := by decide +kernel
theorem d_MO_placeOf_81 : decode b_MO_placeOf 81 = .ok (.bipush 32, 2) := by decide +kernel
theorem d_MO_placeOf_83 : decode b_MO_placeOf 83 = .ok (.irem, 1) := by decide +kernel
theorem d_MO_placeOf_84 : decode b_MO_placeOf 84 = .ok (.iadd, 1) := by decide +kernel
theorem d_MO_placeOf_85 : decode b_MO_placeOf 85 = .ok (.goto 4, 3) := by decide +kernel
theorem d_MO_placeOf_88 : decode b_MO_placeOf 88 = .ok (.iconst (-1), 1) := by decide +kernel
theorem d_MO_placeOf_89 : decode b_MO_placeOf 89 = .ok (.ireturn, 1) := by decide +kernel
theorem d_MO_placeOf_90 : decode b_MO_placeOf 90 = .ok (.sipush 256, 3) := by decide +kernel
theorem d_MO_placeOf_93 : decode b_MO_placeOf 93 = .ok (.iload_n 1, 1) := by decide +kernel
theorem d_MO_placeOf_94 : decode b_MO_placeOf 94 = .ok (.imul, 1) := by decide +kernel
theorem d_MO_placeOf_95 : decode b_MO_placeOf 95 = .ok (.iload_n 2, 1) := by decide +kernel
theorem d_MO_placeOf_96 : decode b_MO_placeOf 96 = .ok (.bipush 64, 2) := by decide +kernel
theorem d_MO_placeOf_98 : decode b_MO_placeOf 98 = .ok (.irem, 1) := by decide +kernel
theorem d_MO_placeOf_99 : decode b_MO_placeOf 99 = .ok (.iadd, 1) := by decide +kernel
theorem d_MO_placeOf_100 : decode b_MO_placeOf 100 = .ok (.ireturn, 1) := by decide +kernel
theorem d_MO_placeOf_101 : decode b_MO_placeOf 101 = .ok (.iconst (-1), 1) := by decide +kernel
theorem d_MO_placeOf_102 : decode b_MO_placeOf 102 = .ok (.ireturn, 1) := by decide +kernel
theorem d_MO_get_0 : decode b_MO_get 0 = .ok (.aload_n 0, 1) := by decide +kernel
theorem d_MO_get_1 : decode b_MO_get 1 = .ok (.iload_n 1, 1) := by decide +kernel
theorem d_MO_get_2 : decode b_MO_get 2 = .ok (.iload_n 2, 1) := by decide +kernel
theorem d_MO_get_3 : decode b_MO_get 3 = .ok (.invokevirtual 49, 3) := by decide +kernel
theorem d_MO_get_6 : decode b_MO_get 6 = .ok (.istore_n 3, 1) := by decide +kernel
theorem d_MO_get_7 : decode b_MO_get 7 = .ok (.iload_n 3, 1) := by decide +kernel
theorem d_MO_get_8 : decode b_MO_get 8 = .ok (.ifCond .ge 9, 3) := by decide +kernel
theorem d_MO_get_11 : decode b_MO_get 11 = .ok (.sipush 255, 3) := by decide +kernel
theorem d_MO_get_14 : decode b_MO_get 14 = .ok (.goto 9, 3) := by decide +kernel
theorem d_MO_get_17 : decode b_MO_get 17 = .ok (.aload_n 0, 1) := by decide +kernel
theorem d_MO_get_18 : decode b_MO_get 18 = .ok (.getfield 26, 3) := by decide +kernel
theorem d_MO_get_21 : decode b_MO_get 21 = .ok (.iload_n 3, 1) := by decide +kernel
theorem d_MO_get_22 : decode b_MO_get 22 = .ok (.iaload, 1) := by decide +kernel
theorem d_MO_get_23 : decode b_MO_get 23 = .ok (.ireturn, 1) := by decide +kernel
theorem d_MO_slotOf_0 : decode b_MO_slotOf 0 = .ok (.aload_n 0, 1) := by decide +kernel
theorem d_MO_slotOf_1 : decode b_MO_slotOf 1 = .ok (.getfield 53, 3) := by decide +kernel
theorem d_MO_slotOf_4 : decode b_MO_slotOf 4 = .ok (.iload_n 1, 1) := by decide +kernel
theorem d_MO_slotOf_5 : decode b_MO_slotOf 5 = .ok (.bipush 64, 2) := by decide +kernel
theorem d_MO_slotOf_7 : decode b_MO_slotOf 7 = .ok (.idiv, 1) := by decide +kernel
theorem d_MO_slotOf_8 : decode b_MO_slotOf 8 = .ok (.invokestatic 56, 3) := by decide +kernel
theorem d_MO_slotOf_11 : decode b_MO_slotOf 11 = .ok (.ireturn, 1) := by decide +kernel
theorem d_MO_bits_0 : decode b_MO_bits 0 = .ok (.iload_n 0, 1) := by decide +kernel
theorem d_MO_bits_1 : decode b_MO_bits 1 = .ok (.istore_n 2, 1) := by decide +kernel
theorem d_MO_bits_2 : decode b_MO_bits 2 = .ok (.iconst 0, 1) := by decide +kernel
theorem d_MO_bits_3 : decode b_MO_bits 3 = .ok (.istore_n 3, 1) := by decide +kernel
theorem d_MO_bits_4 : decode b_MO_bits 4 = .ok (.iload_n 3, 1) := by decide +kernel
theorem d_MO_bits_5 : decode b_MO_bits 5 = .ok (.iload_n 1, 1) := by decide +kernel
theorem d_MO_bits_6 : decode b_MO_bits 6 = .ok (.if_icmp .ge 13, 3) := by decide +kernel
theorem d_MO_bits_9 : decode b_MO_bits 9 = .ok (.iload_n 2, 1) := by decide +kernel
theorem d_MO_bits_10 : decode b_MO_bits 10 = .ok (.iconst 4, 1) := by decide +kernel
theorem d_MO_bits_11 : decode b_MO_bits 11 = .ok (.idiv, 1) := by decide +kernel
theorem d_MO_bits_12 : decode b_MO_bits 12 = .ok (.istore_n 2, 1) := by decide +kernel
theorem d_MO_bits_13 : decode b_MO_bits 13 = .ok (.iinc 3 1, 3) := by decide +kernel
theorem d_MO_bits_16 : decode b_MO_bits 16 = .ok (.goto (-12), 3) := by decide +kernel
theorem d_MO_bits_19 : decode b_MO_bits 19 = .ok (.iload_n 2, 1) := by decide +kernel
theorem d_MO_bits_20 : decode b_MO_bits 20 = .ok (.iconst 4, 1) := by decide +kernel
theorem d_MO_bits_21 : decode b_MO_bits 21 = .ok (.irem, 1) := by decide +kernel
theorem d_MO_bits_22 : decode b_MO_bits 22 = .ok (.ireturn, 1) := by decide +kernel
theorem d_MO_deviceAt_0 : decode b_MO_deviceAt 0 = .ok (.aload_n 0, 1) := by decide +kernel
theorem d_MO_deviceAt_1 : decode b_MO_deviceAt 1 = .ok (.iload_n 1, 1) := by decide +kernel
theorem d_MO_deviceAt_2 : decode b_MO_deviceAt 2 = .ok (.invokevirtual 59, 3) := by decide +kernel
theorem d_MO_deviceAt_5 : decode b_MO_deviceAt 5 = .ok (.istore_n 2, 1) := by decide +kernel
theorem d_MO_deviceAt_6 : decode b_MO_deviceAt 6 = .ok (.iconst 4, 1) := by decide +kernel
theorem d_MO_deviceAt_7 : decode b_MO_deviceAt 7 = .ok (.iload_n 2, 1) := by decide +kernel
theorem d_MO_deviceAt_8 : decode b_MO_deviceAt 8 = .ok (.imul, 1) := by decide +kernel
theorem d_MO_deviceAt_9 : decode b_MO_deviceAt 9 = .ok (.aload_n 0, 1) := by decide +kernel
theorem d_MO_deviceAt_10 : decode b_MO_deviceAt 10 = .ok (.getfield 7, 3) := by decide +kernel
theorem d_MO_deviceAt_13 : decode b_MO_deviceAt 13 = .ok (.iload_n 2, 1) := by decide +kernel
theorem d_MO_deviceAt_14 : decode b_MO_deviceAt 14 = .ok (.baload, 1) := by decide +kernel
theorem d_MO_deviceAt_15 : decode b_MO_deviceAt 15 = .ok (.ifCond .eq 19, 3) := by decide +kernel
theorem d_MO_deviceAt_18 : decode b_MO_deviceAt 18 = .ok (.aload_n 0, 1) := by decide +kernel
theorem d_MO_deviceAt_19 : decode b_MO_deviceAt 19 = .ok (.getfield 13, 3) := by decide +kernel
theorem d_MO_deviceAt_22 : decode b_MO_deviceAt 22 = .ok (.iload_n 2, 1) := by decide +kernel
theorem d_MO_deviceAt_23 : decode b_MO_deviceAt 23 = .ok (.iaload, 1) := by decide +kernel
theorem d_MO_deviceAt_24 : decode b_MO_deviceAt 24 = .ok (.iload_n 1, 1) := by decide +kernel
theorem d_MO_deviceAt_25 : decode b_MO_deviceAt 25 = .ok (.bipush 64, 2) := by decide +kernel
theorem d_MO_deviceAt_27 : decode b_MO_deviceAt 27 = .ok (.idiv, 1) := by decide +kernel
theorem d_MO_deviceAt_28 : decode b_MO_deviceAt 28 = .ok (.invokestatic 56, 3) := by decide +kernel
theorem d_MO_deviceAt_31 : decode b_MO_deviceAt 31 = .ok (.goto 4, 3) := by decide +kernel
theorem d_MO_deviceAt_34 : decode b_MO_deviceAt 34 = .ok (.iconst 0, 1) := by decide +kernel
theorem d_MO_deviceAt_35 : decode b_MO_deviceAt 35 = .ok (.iadd, 1) := by decide +kernel
theorem d_MO_deviceAt_36 : decode b_MO_deviceAt 36 = .ok (.ireturn, 1) := by decide +kernel
theorem d_MO_read_0 : decode b_MO_read 0 = .ok (.aload_n 0, 1) := by decide +kernel
theorem d_MO_read_1 : decode b_MO_read 1 = .ok (.iload_n 1, 1) := by decide +kernel
theorem d_MO_read_2 : decode b_MO_read 2 = .ok (.iconst 0, 1) := by decide +kernel
theorem d_MO_read_3 : decode b_MO_read 3 = .ok (.sipush 255, 3) := by decide +kernel
theorem d_MO_read_6 : decode b_MO_read 6 = .ok (.invokestatic 45, 3) := by decide +kernel
theorem d_MO_read_9 : decode b_MO_read 9 = .ok (.ifCond .eq 7, 3) := by decide +kernel
theorem d_MO_read_12 : decode b_MO_read 12 = .ok (.iconst 0, 1) := by decide +kernel
theorem d_MO_read_13 : decode b_MO_read 13 = .ok (.goto 4, 3) := by decide +kernel
theorem d_MO_read_16 : decode b_MO_read 16 = .ok (.iconst 1, 1) := by decide +kernel
theorem d_MO_read_17 : decode b_MO_read 17 = .ok (.putfield 42, 3) := by decide +kernel
theorem d_MO_read_20 : decode b_MO_read 20 = .ok (.aload_n 0, 1) := by decide +kernel
theorem d_MO_read_21 : decode b_MO_read 21 = .ok (.getfield 42, 3) := by decide +kernel
theorem d_MO_read_24 : decode b_MO_read 24 = .ok (.ifCond .eq 5, 3) := by decide +kernel
theorem d_MO_read_27 : decode b_MO_read 27 = .ok (.iconst 0, 1) := by decide +kernel
theorem d_MO_read_28 : decode b_MO_read 28 = .ok (.ireturn, 1) := by decide +kernel
theorem d_MO_read_29 : decode b_MO_read 29 = .ok (.aload_n 0, 1) := by decide +kernel
theorem d_MO_read_30 : decode b_MO_read 30 = .ok (.iload_n 1, 1) := by decide +kernel
theorem d_MO_read_31 : decode b_MO_read 31 = .ok (.invokevirtual 59, 3) := by decide +kernel
theorem d_MO_read_34 : decode b_MO_read 34 = .ok (.istore_n 2, 1) := by decide +kernel
theorem d_MO_read_35 : decode b_MO_read 35 = .ok (.iload_n 1, 1) := by decide +kernel
theorem d_MO_read_36 : decode b_MO_read 36 = .ok (.sipush 255, 3) := by decide +kernel
theorem d_MO_read_39 : decode b_MO_read 39 = .ok (.if_icmp .ne 25, 3) := by decide +kernel
theorem d_MO_read_42 : decode b_MO_read 42 = .ok (.aload_n 0, 1) := by decide +kernel
theorem d_MO_read_43 : decode b_MO_read 43 = .ok (.getfield 7, 3) := by decide +kernel
theorem d_MO_read_46 : decode b_MO_read 46 = .ok (.iload_n 2, 1) := by decide +kernel
theorem d_MO_read_47 : decode b_MO_read 47 = .ok (.baload, 1) := by decide +kernel
theorem d_MO_read_48 : decode b_MO_read 48 = .ok (.ifCond .eq 16, 3) := by decide +kernel
theorem d_MO_read_51 : decode b_MO_read 51 = .ok (.sipush 255, 3) := by decide +kernel
theorem d_MO_read_54 : decode b_MO_read 54 = .ok (.aload_n 0, 1) := by decide +kernel
theorem d_MO_read_55 : decode b_MO_read 55 = .ok (.getfield 13, 3) := by decide +kernel
theorem d_MO_read_58 : decode b_MO_read 58 = .ok (.iload_n 2, 1) := by decide +kernel
theorem d_MO_read_59 : decode b_MO_read 59 = .ok (.iaload, 1) := by decide +kernel
theorem d_MO_read_60 : decode b_MO_read 60 = .ok (.isub, 1) := by decide +kernel
theorem d_MO_read_61 : decode b_MO_read 61 = .ok (.goto 13, 3) := by decide +kernel
theorem d_MO_read_64 : decode b_MO_read 64 = .ok (.aload_n 0, 1) := by decide +kernel
theorem d_MO_read_65 : decode b_MO_read 65 = .ok (.aload_n 0, 1) := by decide +kernel
theorem d_MO_read_66 : decode b_MO_read 66 = .ok (.iload_n 1, 1) := by decide +kernel
theorem d_MO_read_67 : decode b_MO_read 67 = .ok (.invokevirtual 63, 3) := by decide +kernel
theorem d_MO_read_70 : decode b_MO_read 70 = .ok (.iload_n 1, 1) := by decide +kernel
theorem d_MO_read_71 : decode b_MO_read 71 = .ok (.invokevirtual 66, 3) := by decide +kernel
theorem d_MO_read_74 : decode b_MO_read 74 = .ok (.ireturn, 1) := by decide +kernel
theorem d_MO_write_0 : decode b_MO_write 0 = .ok (.aload_n 0, 1) := by decide +kernel
theorem d_MO_write_1 : decode b_MO_write 1 = .ok (.iload_n 1, 1) := by decide +kernel
theorem d_MO_write_2 : decode b_MO_write 2 = .ok (.iconst 0, 1) := by decide +kernel
theorem d_MO_write_3 : decode b_MO_write 3 = .ok (.sipush 255, 3) := by decide +kernel
theorem d_MO_write_6 : decode b_MO_write 6 = .ok (.invokestatic 45, 3) := by decide +kernel
theorem d_MO_write_9 : decode b_MO_write 9 = .ok (.ifCond .eq 18, 3) := by decide +kernel
theorem d_MO_write_12 : decode b_MO_write 12 = .ok (.iload_n 2, 1) := by decide +kernel
theorem d_MO_write_13 : decode b_MO_write 13 = .ok (.iconst 0, 1) := by decide +kernel
theorem d_MO_write_14 : decode b_MO_write 14 = .ok (.sipush 255, 3) := by decide +kernel
theorem d_MO_write_17 : decode b_MO_write 17 = .ok (.invokestatic 45, 3) := by decide +kernel
theorem d_MO_write_20 : decode b_MO_write 20 = .ok (.ifCond .eq 7, 3) := by decide +kernel
theorem d_MO_write_23 : decode b_MO_write 23 = .ok (.iconst 0, 1) := by decide +kernel
theorem d_MO_write_24 : decode b_MO_write 24 = .ok (.goto 4, 3) := by decide +kernel
theorem d_MO_write_27 : decode b_MO_write 27 = .ok (.iconst 1, 1) := by decide +kernel
theorem d_MO_write_28 : decode b_MO_write 28 = .ok (.putfield 42, 3) := by decide +kernel
theorem d_MO_write_31 : decode b_MO_write 31 = .ok (.aload_n 0, 1) := by decide +kernel
theorem d_MO_write_32 : decode b_MO_write 32 = .ok (.getfield 42, 3) := by decide +kernel
theorem d_MO_write_35 : decode b_MO_write 35 = .ok (.ifCond .eq 4, 3) := by decide +kernel
theorem d_MO_write_38 : decode b_MO_write 38 = .ok (.return_, 1) := by decide +kernel
theorem d_MO_write_39 : decode b_MO_write 39 = .ok (.aload_n 0, 1) := by decide +kernel
theorem d_MO_write_40 : decode b_MO_write 40 = .ok (.iload_n 1, 1) := by decide +kernel
theorem d_MO_write_41 : decode b_MO_write 41 = .ok (.invokevirtual 59, 3) := by decide +kernel
theorem d_MO_write_44 : decode b_MO_write 44 = .ok (.istore_n 3, 1) := by decide +kernel
theorem d_MO_write_45 : decode b_MO_write 45 = .ok (.aload_n 0, 1) := by decide +kernel
theorem d_MO_write_46 : decode b_MO_write 46 = .ok (.iload_n 1, 1) := by decide +kernel
theorem d_MO_write_47 : decode b_MO_write 47 = .ok (.invokevirtual 63, 3) := by decide +kernel
theorem d_MO_write_50 : decode b_MO_write 50 = .ok (.istore 4, 2) := by decide +kernel
theorem d_MO_write_52 : decode b_MO_write 52 = .ok (.iload_n 1, 1) := by decide +kernel
theorem d_MO_write_53 : decode b_MO_write 53 = .ok (.sipush 255, 3) := by decide +kernel
theorem d_MO_write_56 : decode b_MO_write 56 = .ok (.if_icmp .ne 22, 3) := by decide +kernel
theorem d_MO_write_59 : decode b_MO_write 59 = .ok (.aload_n 0, 1) := by decide +kernel
theorem d_MO_write_60 : decode b_MO_write 60 = .ok (.getfield 7, 3) := by decide +kernel
theorem d_MO_write_63 : decode b_MO_write 63 = .ok (.iload_n 3, 1) := by decide +kernel
theorem d_MO_write_64 : decode b_MO_write 64 = .ok (.baload, 1) := by decide +kernel
theorem d_MO_write_65 : decode b_MO_write 65 = .ok (.ifCond .eq 13, 3) := by decide +kernel
theorem d_MO_write_68 : decode b_MO_write 68 = .ok (.aload_n 0, 1) := by decide +kernel
theorem d_MO_write_69 : decode b_MO_write 69 = .ok (.getfield 13, 3) := by decide +kernel
theorem d_MO_write_72 : decode b_MO_write 72 = .ok (.iload_n 3, 1) := by decide +kernel
theorem d_MO_write_73 : decode b_MO_write 73 = .ok (.iload_n 2, 1) := by decide +kernel
theorem d_MO_write_74 : decode b_MO_write 74 = .ok (.iastore, 1) := by decide +kernel
theorem d_MO_write_75 : decode b_MO_write 75 = .ok (.goto 89, 3) := by decide +kernel
theorem d_MO_write_78 : decode b_MO_write 78 = .ok (.aload_n 0, 1) := by decide +kernel
theorem d_MO_write_79 : decode b_MO_write 79 = .ok (.getfield 17, 3) := by decide +kernel
theorem d_MO_write_82 : decode b_MO_write 82 = .ok (.iload 4, 2) := by decide +kernel
theorem d_MO_write_84 : decode b_MO_write 84 = .ok (.iaload, 1) := by decide +kernel
theorem d_MO_write_85 : decode b_MO_write 85 = .ok (.iconst 3, 1) := by decide +kernel
theorem d_MO_write_86 : decode b_MO_write 86 = .ok (.if_icmp .ne 43, 3) := by decide +kernel
theorem d_MO_write_89 : decode b_MO_write 89 = .ok (.iload_n 1, 1) := by decide +kernel
theorem d_MO_write_90 : decode b_MO_write 90 = .ok (.bipush 64, 2) := by decide +kernel
theorem d_MO_write_92 : decode b_MO_write 92 = .ok (.sipush 191, 3) := by decide +kernel
theorem d_MO_write_95 : decode b_MO_write 95 = .ok (.invokestatic 45, 3) := by decide +kernel
theorem d_MO_write_98 : decode b_MO_write 98 = .ok (.ifCond .eq 66, 3) := by decide +kernel
theorem d_MO_write_101 : decode b_MO_write 101 = .ok (.aload_n 0, 1) := by decide +kernel
theorem d_MO_write_102 : decode b_MO_write 102 = .ok (.getfield 23, 3) := by decide +kernel
theorem d_MO_write_105 : decode b_MO_write 105 = .ok (.iconst 4, 1) := by decide +kernel
theorem d_MO_write_106 : decode b_MO_write 106 = .ok (.iload 4, 2) := by decide +kernel
theorem d_MO_write_108 : decode b_MO_write 108 = .ok (.imul, 1) := by decide +kernel
theorem d_MO_write_109 : decode b_MO_write 109 = .ok (.iload_n 1, 1) := by decide +kernel
theorem d_MO_write_110 : decode b_MO_write 110 = .ok (.bipush 32, 2) := by decide +kernel
theorem d_MO_write_112 : decode b_MO_write 112 = .ok (.idiv, 1) := by decide +kernel
theorem d_MO_write_113 : decode b_MO_write 113 = .ok (.iadd, 1) := by decide +kernel
theorem d_MO_write_114 : decode b_MO_write 114 = .ok (.iconst 2, 1) := by decide +kernel
theorem d_MO_write_115 : decode b_MO_write 115 = .ok (.isub, 1) := by decide +kernel
theorem d_MO_write_116 : decode b_MO_write 116 = .ok (.iload_n 2, 1) := by decide +kernel
theorem d_MO_write_117 : decode b_MO_write 117 = .ok (.aload_n 0, 1) := by decide +kernel
theorem d_MO_write_118 : decode b_MO_write 118 = .ok (.getfield 20, 3) := by decide +kernel
theorem d_MO_write_121 : decode b_MO_write 121 = .ok (.iload 4, 2) := by decide +kernel
theorem d_MO_write_123 : decode b_MO_write 123 = .ok (.iaload, 1) := by decide +kernel
theorem d_MO_write_124 : decode b_MO_write 124 = .ok (.irem, 1) := by decide +kernel
theorem d_MO_write_125 : decode b_MO_write 125 = .ok (.iastore, 1) := by decide +kernel
theorem d_MO_write_126 : decode b_MO_write 126 = .ok (.goto 38, 3) := by decide +kernel
theorem d_MO_write_129 : decode b_MO_write 129 = .ok (.aload_n 0, 1) := by decide +kernel
theorem d_MO_write_130 : decode b_MO_write 130 = .ok (.getfield 17, 3) := by decide +kernel
theorem d_MO_write_133 : decode b_MO_write 133 = .ok (.iload 4, 2) := by decide +kernel
theorem d_MO_write_135 : decode b_MO_write 135 = .ok (.iaload, 1) := by decide +kernel
theorem d_MO_write_136 : decode b_MO_write 136 = .ok (.iconst 1, 1) := by decide +kernel
theorem d_MO_write_137 : decode b_MO_write 137 = .ok (.if_icmp .eq 14, 3) := by decide +kernel
theorem d_MO_write_140 : decode b_MO_write 140 = .ok (.aload_n 0, 1) := by decide +kernel
theorem d_MO_write_141 : decode b_MO_write 141 = .ok (.getfield 17, 3) := by decide +kernel
theorem d_MO_write_144 : decode b_MO_write 144 = .ok (.iload 4, 2) := by decide +kernel
theorem d_MO_write_146 : decode b_MO_write 146 = .ok (.iaload, 1) := by decide +kernel
theorem d_MO_write_147 : decode b_MO_write 147 = .ok (.iconst 4, 1) := by decide +kernel
theorem d_MO_write_148 : decode b_MO_write 148 = .ok (.if_icmp .ne 16, 3) := by decide +kernel
theorem d_MO_write_151 : decode b_MO_write 151 = .ok (.aload_n 0, 1) := by decide +kernel
theorem d_MO_write_152 : decode b_MO_write 152 = .ok (.getfield 26, 3) := by decide +kernel
theorem d_MO_write_155 : decode b_MO_write 155 = .ok (.aload_n 0, 1) := by decide +kernel
theorem d_MO_write_156 : decode b_MO_write 156 = .ok (.iload 4, 2) := by decide +kernel
theorem d_MO_write_158 : decode b_MO_write 158 = .ok (.iload_n 1, 1) := by decide +kernel
theorem d_MO_write_159 : decode b_MO_write 159 = .ok (.invokevirtual 49, 3) := by decide +kernel
theorem d_MO_write_162 : decode b_MO_write 162 = .ok (.iload_n 2, 1) := by decide +kernel
theorem d_MO_write_163 : decode b_MO_write 163 = .ok (.iastore, 1) := by decide +kernel
theorem d_MO_write_164 : decode b_MO_write 164 = .ok (.return_, 1) := by decide +kernel
theorem d_MO_far_0 : decode b_MO_far 0 = .ok (.aload_n 0, 1) := by decide +kernel
theorem d_MO_far_1 : decode b_MO_far 1 = .ok (.iload_n 1, 1) := by decide +kernel
theorem d_MO_far_2 : decode b_MO_far 2 = .ok (.iconst 0, 1) := by decide +kernel
theorem d_MO_far_3 : decode b_MO_far 3 = .ok (.iconst 3, 1) := by decide +kernel
theorem d_MO_far_4 : decode b_MO_far 4 = .ok (.invokestatic 45, 3) := by decide +kernel
theorem d_MO_far_7 : decode b_MO_far 7 = .ok (.ifCond .eq 27, 3) := by decide +kernel
theorem d_MO_far_10 : decode b_MO_far 10 = .ok (.iload_n 2, 1) := by decide +kernel
theorem d_MO_far_11 : decode b_MO_far 11 = .ok (.iconst 0, 1) := by decide +kernel
theorem d_MO_far_12 : decode b_MO_far 12 = .ok (.iconst 3, 1) := by decide +kernel
theorem d_MO_far_13 : decode b_MO_far 13 = .ok (.invokestatic 45, 3) := by decide +kernel
theorem d_MO_far_16 : decode b_MO_far 16 = .ok (.ifCond .eq 18, 3) := by decide +kernel
theorem d_MO_far_19 : decode b_MO_far 19 = .ok (.iload_n 3, 1) := by decide +kernel
theorem d_MO_far_20 : decode b_MO_far 20 = .ok (.iconst 0, 1) := by decide +kernel
theorem d_MO_far_21 : decode b_MO_far 21 = .ok (.sipush 255, 3) := by decide +kernel
theorem d_MO_far_24 : decode b_MO_far 24 = .ok (.invokestatic 45, 3) := by decide +kernel
theorem d_MO_far_27 : decode b_MO_far 27 = .ok (.ifCond .eq 7, 3) := by decide +kernel
theorem d_MO_far_30 : decode b_MO_far 30 = .ok (.iconst 0, 1) := by decide +kernel
theorem d_MO_far_31 : decode b_MO_far 31 = .ok (.goto 4, 3) := by decide +kernel
theorem d_MO_far_34 : decode b_MO_far 34 = .ok (.iconst 1, 1) := by decide +kernel
theorem d_MO_far_35 : decode b_MO_far 35 = .ok (.putfield 42, 3) := by decide +kernel
theorem d_MO_far_38 : decode b_MO_far 38 = .ok (.aload_n 0, 1) := by decide +kernel
theorem d_MO_far_39 : decode b_MO_far 39 = .ok (.getfield 42, 3) := by decide +kernel
theorem d_MO_far_42 : decode b_MO_far 42 = .ok (.ifCond .eq 5, 3) := by decide +kernel
theorem d_MO_far_45 : decode b_MO_far 45 = .ok (.iconst 0, 1) := by decide +kernel
theorem d_MO_far_46 : decode b_MO_far 46 = .ok (.ireturn, 1) := by decide +kernel
theorem d_MO_far_47 : decode b_MO_far 47 = .ok (.iload_n 3, 1) := by decide +kernel
theorem d_MO_far_48 : decode b_MO_far 48 = .ok (.sipush 255, 3) := by decide +kernel
theorem d_MO_far_51 : decode b_MO_far 51 = .ok (.if_icmp .ne 31, 3) := by decide +kernel
theorem d_MO_far_54 : decode b_MO_far 54 = .ok (.aload_n 0, 1) := by decide +kernel
theorem d_MO_far_55 : decode b_MO_far 55 = .ok (.getfield 7, 3) := by decide +kernel
theorem d_MO_far_58 : decode b_MO_far 58 = .ok (.iload_n 1, 1) := by decide +kernel
theorem d_MO_far_59 : decode b_MO_far 59 = .ok (.baload, 1) := by decide +kernel
theorem d_MO_far_60 : decode b_MO_far 60 = .ok (.ifCond .eq 22, 3) := by decide +kernel
theorem d_MO_far_63 : decode b_MO_far 63 = .ok (.sipush 255, 3) := by decide +kernel
theorem d_MO_far_66 : decode b_MO_far 66 = .ok (.aload_n 0, 1) := by decide +kernel
theorem d_MO_far_67 : decode b_MO_far 67 = .ok (.getfield 13, 3) := by decide +kernel
theorem d_MO_far_70 : decode b_MO_far 70 = .ok (.iload_n 1, 1) := by decide +kernel
theorem d_MO_far_71 : decode b_MO_far 71 = .ok (.iaload, 1) := by decide +kernel
theorem d_MO_far_72 : decode b_MO_far 72 = .ok (.bipush 64, 2) := by decide +kernel
theorem d_MO_far_74 : decode b_MO_far 74 = .ok (.irem, 1) := by decide +kernel
theorem d_MO_far_75 : decode b_MO_far 75 = .ok (.bipush 64, 2) := by decide +kernel
theorem d_MO_far_77 : decode b_MO_far 77 = .ok (.iload_n 2, 1) := by decide +kernel
theorem d_MO_far_78 : decode b_MO_far 78 = .ok (.imul, 1) := by decide +kernel
theorem d_MO_far_79 : decode b_MO_far 79 = .ok (.iadd, 1) := by decide +kernel
theorem d_MO_far_80 : decode b_MO_far 80 = .ok (.isub, 1) := by decide +kernel
theorem d_MO_far_81 : decode b_MO_far 81 = .ok (.ireturn, 1) := by decide +kernel
theorem d_MO_far_82 : decode b_MO_far 82 = .ok (.aload_n 0, 1) := by decide +kernel
theorem d_MO_far_83 : decode b_MO_far 83 = .ok (.iconst 4, 1) := by decide +kernel
theorem d_MO_far_84 : decode b_MO_far 84 = .ok (.iload_n 1, 1) := by decide +kernel
theorem d_MO_far_85 : decode b_MO_far 85 = .ok (.imul, 1) := by decide +kernel
theorem d_MO_far_86 : decode b_MO_far 86 = .ok (.aload_n 0, 1) := by decide +kernel
theorem d_MO_far_87 : decode b_MO_far 87 = .ok (.getfield 7, 3) := by decide +kernel
theorem d_MO_far_90 : decode b_MO_far 90 = .ok (.iload_n 1, 1) := by decide +kernel
theorem d_MO_far_91 : decode b_MO_far 91 = .ok (.baload, 1) := by decide +kernel
theorem d_MO_far_92 : decode b_MO_far 92 = .ok (.ifCond .eq 7, 3) := by decide +kernel
theorem d_MO_far_95 : decode b_MO_far 95 = .ok (.iload_n 2, 1) := by decide +kernel
theorem d_MO_far_96 : decode b_MO_far 96 = .ok (.goto 4, 3) := by decide +kernel
theorem d_MO_far_99 : decode b_MO_far 99 = .ok (.iconst 0, 1) := by decide +kernel
theorem d_MO_far_100 : decode b_MO_far 100 = .ok (.iadd, 1) := by decide +kernel
theorem d_MO_far_101 : decode b_MO_far 101 = .ok (.iload_n 3, 1) := by decide +kernel
theorem d_MO_far_102 : decode b_MO_far 102 = .ok (.invokevirtual 66, 3) := by decide +kernel
theorem d_MO_far_105 : decode b_MO_far 105 = .ok (.ireturn, 1) := by decide +kernel
theorem d_MO_goOn_0 : decode b_MO_goOn 0 = .ok (.aload_n 0, 1) := by decide +kernel
theorem d_MO_goOn_1 : decode b_MO_goOn 1 = .ok (.aload_n 0, 1) := by decide +kernel
theorem d_MO_goOn_2 : decode b_MO_goOn 2 = .ok (.getfield 69, 3) := by decide +kernel
theorem d_MO_goOn_5 : decode b_MO_goOn 5 = .ok (.sipush 511, 3) := by decide +kernel
theorem d_MO_goOn_8 : decode b_MO_goOn 8 = .ok (.if_icmp .ne 7, 3) := by decide +kernel
theorem d_MO_goOn_11 : decode b_MO_goOn 11 = .ok (.iconst 0, 1) := by decide +kernel
theorem d_MO_goOn_12 : decode b_MO_goOn 12 = .ok (.goto 9, 3) := by decide +kernel
theorem d_MO_goOn_15 : decode b_MO_goOn 15 = .ok (.aload_n 0, 1) := by decide +kernel
theorem d_MO_goOn_16 : decode b_MO_goOn 16 = .ok (.getfield 69, 3) := by decide +kernel
theorem d_MO_goOn_19 : decode b_MO_goOn 19 = .ok (.iconst 1, 1) := by decide +kernel
theorem d_MO_goOn_20 : decode b_MO_goOn 20 = .ok (.iadd, 1) := by decide +kernel
theorem d_MO_goOn_21 : decode b_MO_goOn 21 = .ok (.putfield 69, 3) := by decide +kernel
theorem d_MO_goOn_24 : decode b_MO_goOn 24 = .ok (.return_, 1) := by decide +kernel
theorem d_MO_fetch_0 : decode b_MO_fetch 0 = .ok (.aload_n 0, 1) := by decide +kernel
theorem d_MO_fetch_1 : decode b_MO_fetch 1 = .ok (.aload_n 0, 1) := by decide +kernel
theorem d_MO_fetch_2 : decode b_MO_fetch 2 = .ok (.getfield 29, 3) := by decide +kernel
theorem d_MO_fetch_5 : decode b_MO_fetch 5 = .ok (.aload_n 0, 1) := by decide +kernel
theorem d_MO_fetch_6 : decode b_MO_fetch 6 = .ok (.getfield 69, 3) := by decide +kernel
theorem d_MO_fetch_9 : decode b_MO_fetch 9 = .ok (.iaload, 1) := by decide +kernel
theorem d_MO_fetch_10 : decode b_MO_fetch 10 = .ok (.putfield 72, 3) := by decide +kernel
theorem d_MO_fetch_13 : decode b_MO_fetch 13 = .ok (.aload_n 0, 1) := by decide +kernel
theorem d_MO_fetch_14 : decode b_MO_fetch 14 = .ok (.invokevirtual 75, 3) := by decide +kernel
theorem d_MO_fetch_17 : decode b_MO_fetch 17 = .ok (.return_, 1) := by decide +kernel
theorem d_MO_in_0 : decode b_MO_in 0 = .ok (.aload_n 0, 1) := by decide +kernel
theorem d_MO_in_1 : decode b_MO_in 1 = .ok (.iconst 0, 1) := by decide +kernel
theorem d_MO_in_2 : decode b_MO_in 2 = .ok (.putfield 42, 3) := by decide +kernel
theorem d_MO_in_5 : decode b_MO_in 5 = .ok (.iload_n 1, 1) := by decide +kernel
theorem d_MO_in_6 : decode b_MO_in 6 = .ok (.iconst 2, 1) := by decide +kernel
theorem d_MO_in_7 : decode b_MO_in 7 = .ok (.if_icmp .ne 8, 3) := by decide +kernel
theorem d_MO_in_10 : decode b_MO_in 10 = .ok (.aload_n 0, 1) := by decide +kernel
theorem d_MO_in_11 : decode b_MO_in 11 = .ok (.getfield 53, 3) := by decide +kernel
theorem d_MO_in_14 : decode b_MO_in 14 = .ok (.ireturn, 1) := by decide +kernel
theorem d_MO_in_15 : decode b_MO_in 15 = .ok (.iload_n 1, 1) := by decide +kernel
theorem d_MO_in_16 : decode b_MO_in 16 = .ok (.ifCond .eq 12, 3) := by decide +kernel
theorem d_MO_in_19 : decode b_MO_in 19 = .ok (.iload_n 1, 1) := by decide +kernel
theorem d_MO_in_20 : decode b_MO_in 20 = .ok (.iconst 1, 1) := by decide +kernel
theorem d_MO_in_21 : decode b_MO_in 21 = .ok (.if_icmp .eq 7, 3) := by decide +kernel
theorem d_MO_in_24 : decode b_MO_in 24 = .ok (.sipush 255, 3) := by decide +kernel
theorem d_MO_in_27 : decode b_MO_in 27 = .ok (.ireturn, 1) := by decide +kernel
theorem d_MO_in_28 : decode b_MO_in 28 = .ok (.aload_n 0, 1) := by decide +kernel
theorem d_MO_in_29 : decode b_MO_in 29 = .ok (.iconst (-1), 1) := by decide +kernel
theorem d_MO_in_30 : decode b_MO_in 30 = .ok (.putfield 35, 3) := by decide +kernel
theorem d_MO_in_33 : decode b_MO_in 33 = .ok (.iload_n 1, 1) := by decide +kernel
theorem d_MO_in_34 : decode b_MO_in 34 = .ok (.ifCond .ne 10, 3) := by decide +kernel
theorem d_MO_in_37 : decode b_MO_in 37 = .ok (.aload_n 0, 1) := by decide +kernel
theorem d_MO_in_38 : decode b_MO_in 38 = .ok (.getfield 72, 3) := by decide +kernel
theorem d_MO_in_41 : decode b_MO_in 41 = .ok (.goto 7, 3) := by decide +kernel
theorem d_MO_in_44 : decode b_MO_in 44 = .ok (.aload_n 0, 1) := by decide +kernel
theorem d_MO_in_45 : decode b_MO_in 45 = .ok (.getfield 78, 3) := by decide +kernel
theorem d_MO_in_48 : decode b_MO_in 48 = .ok (.istore_n 2, 1) := by decide +kernel
theorem d_MO_in_49 : decode b_MO_in 49 = .ok (.iload_n 1, 1) := by decide +kernel
theorem d_MO_in_50 : decode b_MO_in 50 = .ok (.ifCond .ne 10, 3) := by decide +kernel
theorem d_MO_in_53 : decode b_MO_in 53 = .ok (.aload_n 0, 1) := by decide +kernel
theorem d_MO_in_54 : decode b_MO_in 54 = .ok (.invokevirtual 81, 3) := by decide +kernel
theorem d_MO_in_57 : decode b_MO_in 57 = .ok (.goto 14, 3) := by decide +kernel
theorem d_MO_in_60 : decode b_MO_in 60 = .ok (.aload_n 0, 1) := by decide +kernel
theorem d_MO_in_61 : decode b_MO_in 61 = .ok (.aload_n 0, 1) := by decide +kernel
theorem d_MO_in_62 : decode b_MO_in 62 = .ok (.getfield 78, 3) := by decide +kernel
theorem d_MO_in_65 : decode b_MO_in 65 = .ok (.bipush 32, 2) := by decide +kernel
theorem d_MO_in_67 : decode b_MO_in 67 = .ok (.irem, 1) := by decide +kernel
theorem d_MO_in_68 : decode b_MO_in 68 = .ok (.putfield 78, 3) := by decide +kernel
theorem d_MO_in_71 : decode b_MO_in 71 = .ok (.iload_n 2, 1) := by decide +kernel
theorem d_MO_in_72 : decode b_MO_in 72 = .ok (.ireturn, 1) := by decide +kernel
theorem d_MO_control_0 : decode b_MO_control 0 = .ok (.aload_n 0, 1) := by decide +kernel
theorem d_MO_control_1 : decode b_MO_control 1 = .ok (.getfield 35, 3) := by decide +kernel
theorem d_MO_control_4 : decode b_MO_control 4 = .ok (.ifCond .ge 9, 3) := by decide +kernel
theorem d_MO_control_7 : decode b_MO_control 7 = .ok (.aload_n 0, 1) := by decide +kernel
theorem d_MO_control_8 : decode b_MO_control 8 = .ok (.iload_n 1, 1) := by decide +kernel
theorem d_MO_control_9 : decode b_MO_control 9 = .ok (.putfield 35, 3) := by decide +kernel
theorem d_MO_control_12 : decode b_MO_control 12 = .ok (.return_, 1) := by decide +kernel
theorem d_MO_control_13 : decode b_MO_control 13 = .ok (.iload_n 1, 1) := by decide +kernel
theorem d_MO_control_14 : decode b_MO_control 14 = .ok (.bipush 127, 2) := by decide +kernel
theorem d_MO_control_16 : decode b_MO_control 16 = .ok (.if_icmp .le 19, 3) := by decide +kernel
theorem d_MO_control_19 : decode b_MO_control 19 = .ok (.aload_n 0, 1) := by decide +kernel
theorem d_MO_control_20 : decode b_MO_control 20 = .ok (.getfield 32, 3) := by decide +kernel
theorem d_MO_control_23 : decode b_MO_control 23 = .ok (.iload_n 1, 1) := by decide +kernel
theorem d_MO_control_24 : decode b_MO_control 24 = .ok (.bipush 8, 2) := by decide +kernel
theorem d_MO_control_26 : decode b_MO_control 26 = .ok (.irem, 1) := by decide +kernel
theorem d_MO_control_27 : decode b_MO_control 27 = .ok (.aload_n 0, 1) := by decide +kernel
theorem d_MO_control_28 : decode b_MO_control 28 = .ok (.getfield 35, 3) := by decide +kernel
theorem d_MO_control_31 : decode b_MO_control 31 = .ok (.iastore, 1) := by decide +kernel
theorem d_MO_control_32 : decode b_MO_control 32 = .ok (.goto 29, 3) := by decide +kernel
theorem d_MO_control_35 : decode b_MO_control 35 = .ok (.aload_n 0, 1) := by decide +kernel
theorem d_MO_control_36 : decode b_MO_control 36 = .ok (.aload_n 0, 1) := by decide +kernel
theorem d_MO_control_37 : decode b_MO_control 37 = .ok (.getfield 35, 3) := by decide +kernel
theorem d_MO_control_40 : decode b_MO_control 40 = .ok (.sipush 256, 3) := by decide +kernel
theorem d_MO_control_43 : decode b_MO_control 43 = .ok (.iload_n 1, 1) := by decide +kernel
theorem d_MO_control_44 : decode b_MO_control 44 = .ok (.iconst 2, 1) := by decide +kernel
theorem d_MO_control_45 : decode b_MO_control 45 = .ok (.irem, 1) := by decide +kernel
theorem d_MO_control_46 : decode b_MO_control 46 = .ok (.imul, 1) := by decide +kernel
theorem d_MO_control_47 : decode b_MO_control 47 = .ok (.iadd, 1) := by decide +kernel
theorem d_MO_control_48 : decode b_MO_control 48 = .ok (.putfield 69, 3) := by decide +kernel
theorem d_MO_control_51 : decode b_MO_control 51 = .ok (.iload_n 1, 1) := by decide +kernel
theorem d_MO_control_52 : decode b_MO_control 52 = .ok (.bipush 64, 2) := by decide +kernel
theorem d_MO_control_54 : decode b_MO_control 54 = .ok (.if_icmp .ge 7, 3) := by decide +kernel
theorem d_MO_control_57 : decode b_MO_control 57 = .ok (.aload_n 0, 1) := by decide +kernel
theorem d_MO_control_58 : decode b_MO_control 58 = .ok (.invokevirtual 81, 3) := by decide +kernel
theorem d_MO_control_61 : decode b_MO_control 61 = .ok (.aload_n 0, 1) := by decide +kernel
theorem d_MO_control_62 : decode b_MO_control 62 = .ok (.iconst (-1), 1) := by decide +kernel
theorem d_MO_control_63 : decode b_MO_control 63 = .ok (.putfield 35, 3) := by decide +kernel
theorem d_MO_control_66 : decode b_MO_control 66 = .ok (.return_, 1) := by decide +kernel
theorem d_MO_out_0 : decode b_MO_out 0 = .ok (.aload_n 0, 1) := by decide +kernel
theorem d_MO_out_1 : decode b_MO_out 1 = .ok (.iconst 0, 1) := by decide +kernel
theorem d_MO_out_2 : decode b_MO_out 2 = .ok (.putfield 42, 3) := by decide +kernel
theorem d_MO_out_5 : decode b_MO_out 5 = .ok (.iload_n 2, 1) := by decide +kernel
theorem d_MO_out_6 : decode b_MO_out 6 = .ok (.iconst 0, 1) := by decide +kernel
theorem d_MO_out_7 : decode b_MO_out 7 = .ok (.sipush 255, 3) := by decide +kernel
theorem d_MO_out_10 : decode b_MO_out 10 = .ok (.invokestatic 45, 3) := by decide +kernel
theorem d_MO_out_13 : decode b_MO_out 13 = .ok (.ifCond .ne 5, 3) := by decide +kernel
theorem d_MO_out_16 : decode b_MO_out 16 = .ok (.iconst 0, 1) := by decide +kernel
theorem d_MO_out_17 : decode b_MO_out 17 = .ok (.ireturn, 1) := by decide +kernel
theorem d_MO_out_18 : decode b_MO_out 18 = .ok (.iload_n 1, 1) := by decide +kernel
theorem d_MO_out_19 : decode b_MO_out 19 = .ok (.ifCond .ne 30, 3) := by decide +kernel
theorem d_MO_out_22 : decode b_MO_out 22 = .ok (.aload_n 0, 1) := by decide +kernel
theorem d_MO_out_23 : decode b_MO_out 23 = .ok (.getfield 29, 3) := by decide +kernel
theorem d_MO_out_26 : decode b_MO_out 26 = .ok (.aload_n 0, 1) := by decide +kernel
theorem d_MO_out_27 : decode b_MO_out 27 = .ok (.getfield 69, 3) := by decide +kernel
theorem d_MO_out_30 : decode b_MO_out 30 = .ok (.iload_n 2, 1) := by decide +kernel
theorem d_MO_out_31 : decode b_MO_out 31 = .ok (.iastore, 1) := by decide +kernel
theorem d_MO_out_32 : decode b_MO_out 32 = .ok (.aload_n 0, 1) := by decide +kernel
theorem d_MO_out_33 : decode b_MO_out 33 = .ok (.iload_n 2, 1) := by decide +kernel
theorem d_MO_out_34 : decode b_MO_out 34 = .ok (.putfield 72, 3) := by decide +kernel
theorem d_MO_out_37 : decode b_MO_out 37 = .ok (.aload_n 0, 1) := by decide +kernel
theorem d_MO_out_38 : decode b_MO_out 38 = .ok (.invokevirtual 75, 3) := by decide +kernel
theorem d_MO_out_41 : decode b_MO_out 41 = .ok (.aload_n 0, 1) := by decide +kernel
theorem d_MO_out_42 : decode b_MO_out 42 = .ok (.iconst (-1), 1) := by decide +kernel
theorem d_MO_out_43 : decode b_MO_out 43 = .ok (.putfield 35, 3) := by decide +kernel
theorem d_MO_out_46 : decode b_MO_out 46 = .ok (.goto 26, 3) := by decide +kernel
theorem d_MO_out_49 : decode b_MO_out 49 = .ok (.iload_n 1, 1) := by decide +kernel
theorem d_MO_out_50 : decode b_MO_out 50 = .ok (.iconst 1, 1) := by decide +kernel
theorem d_MO_out_51 : decode b_MO_out 51 = .ok (.if_icmp .ne 11, 3) := by decide +kernel
theorem d_MO_out_54 : decode b_MO_out 54 = .ok (.aload_n 0, 1) := by decide +kernel
theorem d_MO_out_55 : decode b_MO_out 55 = .ok (.iload_n 2, 1) := by decide +kernel
theorem d_MO_out_56 : decode b_MO_out 56 = .ok (.invokevirtual 84, 3) := by decide +kernel
theorem d_MO_out_59 : decode b_MO_out 59 = .ok (.goto 13, 3) := by decide +kernel
theorem d_MO_out_62 : decode b_MO_out 62 = .ok (.iload_n 1, 1) := by decide +kernel
theorem d_MO_out_63 : decode b_MO_out 63 = .ok (.iconst 2, 1) := by decide +kernel
theorem d_MO_out_64 : decode b_MO_out 64 = .ok (.if_icmp .ne 8, 3) := by decide +kernel
theorem d_MO_out_67 : decode b_MO_out 67 = .ok (.aload_n 0, 1) := by decide +kernel
theorem d_MO_out_68 : decode b_MO_out 68 = .ok (.iload_n 2, 1) := by decide +kernel
theorem d_MO_out_69 : decode b_MO_out 69 = .ok (.putfield 53, 3) := by decide +kernel
theorem d_MO_out_72 : decode b_MO_out 72 = .ok (.iconst 1, 1) := by decide +kernel
theorem d_MO_out_73 : decode b_MO_out 73 = .ok (.ireturn, 1) := by decide +kernel
theorem d_MO_bit_0 : decode b_MO_bit 0 = .ok (.iload_n 1, 1) := by decide +kernel
theorem d_MO_bit_1 : decode b_MO_bit 1 = .ok (.iload_n 2, 1) := by decide +kernel
theorem d_MO_bit_2 : decode b_MO_bit 2 = .ok (.ishr, 1) := by decide +kernel
theorem d_MO_bit_3 : decode b_MO_bit 3 = .ok (.iconst 1, 1) := by decide +kernel
theorem d_MO_bit_4 : decode b_MO_bit 4 = .ok (.iand, 1) := by decide +kernel
theorem d_MO_bit_5 : decode b_MO_bit 5 = .ok (.iconst 1, 1) := by decide +kernel
theorem d_MO_bit_6 : decode b_MO_bit 6 = .ok (.if_icmp .ne 7, 3) := by decide +kernel
theorem d_MO_bit_9 : decode b_MO_bit 9 = .ok (.iconst 1, 1) := by decide +kernel
theorem d_MO_bit_10 : decode b_MO_bit 10 = .ok (.goto 4, 3) := by decide +kernel
theorem d_MO_bit_13 : decode b_MO_bit 13 = .ok (.iconst 0, 1) := by decide +kernel
theorem d_MO_bit_14 : decode b_MO_bit 14 = .ok (.ireturn, 1) := by decide +kernel
theorem d_MO_sprite_0 : decode b_MO_sprite 0 = .ok (.aload_n 0, 1) := by decide +kernel
theorem d_MO_sprite_1 : decode b_MO_sprite 1 = .ok (.getfield 29, 3) := by decide +kernel
theorem d_MO_sprite_4 : decode b_MO_sprite 4 = .ok (.bipush 32, 2) := by decide +kernel
theorem d_MO_sprite_6 : decode b_MO_sprite 6 = .ok (.aload_n 0, 1) := by decide +kernel
theorem d_MO_sprite_7 : decode b_MO_sprite 7 = .ok (.getfield 32, 3) := by decide +kernel
theorem d_MO_sprite_10 : decode b_MO_sprite 10 = .ok (.iconst 5, 1) := by decide +kernel
theorem d_MO_sprite_11 : decode b_MO_sprite 11 = .ok (.iaload, 1) := by decide +kernel
theorem d_MO_sprite_12 : decode b_MO_sprite 12 = .ok (.bipush 16, 2) := by decide +kernel
theorem d_MO_sprite_14 : decode b_MO_sprite 14 = .ok (.irem, 1) := by decide +kernel
theorem d_MO_sprite_15 : decode b_MO_sprite 15 = .ok (.imul, 1) := by decide +kernel
theorem d_MO_sprite_16 : decode b_MO_sprite 16 = .ok (.iconst 4, 1) := by decide +kernel
theorem d_MO_sprite_17 : decode b_MO_sprite 17 = .ok (.iload_n 1, 1) := by decide +kernel
theorem d_MO_sprite_18 : decode b_MO_sprite 18 = .ok (.imul, 1) := by decide +kernel
theorem d_MO_sprite_19 : decode b_MO_sprite 19 = .ok (.iadd, 1) := by decide +kernel
theorem d_MO_sprite_20 : decode b_MO_sprite 20 = .ok (.iload_n 2, 1) := by decide +kernel
theorem d_MO_sprite_21 : decode b_MO_sprite 21 = .ok (.iadd, 1) := by decide +kernel
theorem d_MO_sprite_22 : decode b_MO_sprite 22 = .ok (.iaload, 1) := by decide +kernel
theorem d_MO_sprite_23 : decode b_MO_sprite 23 = .ok (.ireturn, 1) := by decide +kernel
theorem d_MO_size_0 : decode b_MO_size 0 = .ok (.aload_n 0, 1) := by decide +kernel
theorem d_MO_size_1 : decode b_MO_size 1 = .ok (.aload_n 0, 1) := by decide +kernel
theorem d_MO_size_2 : decode b_MO_size 2 = .ok (.getfield 32, 3) := by decide +kernel
theorem d_MO_size_5 : decode b_MO_size 5 = .ok (.iconst 1, 1) := by decide +kernel
theorem d_MO_size_6 : decode b_MO_size 6 = .ok (.iaload, 1) := by decide +kernel
theorem d_MO_size_7 : decode b_MO_size 7 = .ok (.iconst 1, 1) := by decide +kernel
theorem d_MO_size_8 : decode b_MO_size 8 = .ok (.invokevirtual 88, 3) := by decide +kernel
theorem d_MO_size_11 : decode b_MO_size 11 = .ok (.ifCond .eq 8, 3) := by decide +kernel
theorem d_MO_size_14 : decode b_MO_size 14 = .ok (.bipush 16, 2) := by decide +kernel
theorem d_MO_size_16 : decode b_MO_size 16 = .ok (.goto 5, 3) := by decide +kernel
theorem d_MO_size_19 : decode b_MO_size 19 = .ok (.bipush 8, 2) := by decide +kernel
theorem d_MO_size_21 : decode b_MO_size 21 = .ok (.aload_n 0, 1) := by decide +kernel
theorem d_MO_size_22 : decode b_MO_size 22 = .ok (.invokevirtual 92, 3) := by decide +kernel
theorem d_MO_size_25 : decode b_MO_size 25 = .ok (.imul, 1) := by decide +kernel
theorem d_MO_size_26 : decode b_MO_size 26 = .ok (.ireturn, 1) := by decide +kernel
theorem d_MO_times_0 : decode b_MO_times 0 = .ok (.aload_n 0, 1) := by decide +kernel
theorem d_MO_times_1 : decode b_MO_times 1 = .ok (.aload_n 0, 1) := by decide +kernel
theorem d_MO_times_2 : decode b_MO_times 2 = .ok (.getfield 32, 3) := by decide +kernel
theorem d_MO_times_5 : decode b_MO_times 5 = .ok (.iconst 1, 1) := by decide +kernel
theorem d_MO_times_6 : decode b_MO_times 6 = .ok (.iaload, 1) := by decide +kernel
theorem d_MO_times_7 : decode b_MO_times 7 = .ok (.iconst 0, 1) := by decide +kernel
theorem d_MO_times_8 : decode b_MO_times 8 = .ok (.invokevirtual 88, 3) := by decide +kernel
theorem d_MO_times_11 : decode b_MO_times 11 = .ok (.ifCond .eq 7, 3) := by decide +kernel
theorem d_MO_times_14 : decode b_MO_times 14 = .ok (.iconst 2, 1) := by decide +kernel
theorem d_MO_times_15 : decode b_MO_times 15 = .ok (.goto 4, 3) := by decide +kernel
theorem d_MO_times_18 : decode b_MO_times 18 = .ok (.iconst 1, 1) := by decide +kernel
theorem d_MO_times_19 : decode b_MO_times 19 = .ok (.ireturn, 1) := by decide +kernel
theorem d_MO_rowOn_0 : decode b_MO_rowOn 0 = .ok (.aload_n 0, 1) := by decide +kernel
theorem d_MO_rowOn_1 : decode b_MO_rowOn 1 = .ok (.iload_n 1, 1) := by decide +kernel
theorem d_MO_rowOn_2 : decode b_MO_rowOn 2 = .ok (.iconst 0, 1) := by decide +kernel
theorem d_MO_rowOn_3 : decode b_MO_rowOn 3 = .ok (.invokevirtual 96, 3) := by decide +kernel
theorem d_MO_rowOn_6 : decode b_MO_rowOn 6 = .ok (.sipush 224, 3) := by decide +kernel
theorem d_MO_rowOn_9 : decode b_MO_rowOn 9 = .ok (.if_icmp .ge 14, 3) := by decide +kernel
theorem d_MO_rowOn_12 : decode b_MO_rowOn 12 = .ok (.aload_n 0, 1) := by decide +kernel
theorem d_MO_rowOn_13 : decode b_MO_rowOn 13 = .ok (.iload_n 1, 1) := by decide +kernel
theorem d_MO_rowOn_14 : decode b_MO_rowOn 14 = .ok (.iconst 0, 1) := by decide +kernel
theorem d_MO_rowOn_15 : decode b_MO_rowOn 15 = .ok (.invokevirtual 96, 3) := by decide +kernel
theorem d_MO_rowOn_18 : decode b_MO_rowOn 18 = .ok (.iconst 1, 1) := by decide +kernel
theorem d_MO_rowOn_19 : decode b_MO_rowOn 19 = .ok (.iadd, 1) := by decide +kernel
theorem d_MO_rowOn_20 : decode b_MO_rowOn 20 = .ok (.goto 13, 3) := by decide +kernel
theorem d_MO_rowOn_23 : decode b_MO_rowOn 23 = .ok (.aload_n 0, 1) := by decide +kernel
theorem d_MO_rowOn_24 : decode b_MO_rowOn 24 = .ok (.iload_n 1, 1) := by decide +kernel
theorem d_MO_rowOn_25 : decode b_MO_rowOn 25 = .ok (.iconst 0, 1) := by decide +kernel
theorem d_MO_rowOn_26 : decode b_MO_rowOn 26 = .ok (.invokevirtual 96, 3) := by decide +kernel
theorem d_MO_rowOn_29 : decode b_MO_rowOn 29 = .ok (.sipush 255, 3) := by decide +kernel
theorem d_MO_rowOn_32 : decode b_MO_rowOn 32 = .ok (.isub, 1) := by decide +kernel
theorem d_MO_rowOn_33 : decode b_MO_rowOn 33 = .ok (.istore_n 3, 1) := by decide +kernel
theorem d_MO_rowOn_34 : decode b_MO_rowOn 34 = .ok (.iload_n 2, 1) := by decide +kernel
theorem d_MO_rowOn_35 : decode b_MO_rowOn 35 = .ok (.iload_n 3, 1) := by decide +kernel
theorem d_MO_rowOn_36 : decode b_MO_rowOn 36 = .ok (.if_icmp .lt 24, 3) := by decide +kernel
theorem d_MO_rowOn_39 : decode b_MO_rowOn 39 = .ok (.iload_n 2, 1) := by decide +kernel
theorem d_MO_rowOn_40 : decode b_MO_rowOn 40 = .ok (.iload_n 3, 1) := by decide +kernel
theorem d_MO_rowOn_41 : decode b_MO_rowOn 41 = .ok (.aload_n 0, 1) := by decide +kernel
theorem d_MO_rowOn_42 : decode b_MO_rowOn 42 = .ok (.invokevirtual 99, 3) := by decide +kernel
theorem d_MO_rowOn_45 : decode b_MO_rowOn 45 = .ok (.iadd, 1) := by decide +kernel
theorem d_MO_rowOn_46 : decode b_MO_rowOn 46 = .ok (.if_icmp .ge 14, 3) := by decide +kernel
theorem d_MO_rowOn_49 : decode b_MO_rowOn 49 = .ok (.iload_n 2, 1) := by decide +kernel
theorem d_MO_rowOn_50 : decode b_MO_rowOn 50 = .ok (.iload_n 3, 1) := by decide +kernel
theorem d_MO_rowOn_51 : decode b_MO_rowOn 51 = .ok (.isub, 1) := by decide +kernel
theorem d_MO_rowOn_52 : decode b_MO_rowOn 52 = .ok (.aload_n 0, 1) := by decide +kernel
theorem d_MO_rowOn_53 : decode b_MO_rowOn 53 = .ok (.invokevirtual 92, 3) := by decide +kernel
theorem d_MO_rowOn_56 : decode b_MO_rowOn 56 = .ok (.idiv, 1) := by decide +kernel
theorem d_MO_rowOn_57 : decode b_MO_rowOn 57 = .ok (.goto 4, 3) := by decide +kernel
theorem d_MO_rowOn_60 : decode b_MO_rowOn 60 = .ok (.iconst (-1), 1) := by decide +kernel
theorem d_MO_rowOn_61 : decode b_MO_rowOn 61 = .ok (.ireturn, 1) := by decide +kernel
theorem d_MO_there_0 : decode b_MO_there 0 = .ok (.iconst 0, 1) := by decide +kernel
theorem d_MO_there_1 : decode b_MO_there 1 = .ok (.istore_n 1, 1) := by decide +kernel
theorem d_MO_there_2 : decode b_MO_there 2 = .ok (.iload_n 1, 1) := by decide +kernel
theorem d_MO_there_3 : decode b_MO_there 3 = .ok (.bipush 8, 2) := by decide +kernel
theorem d_MO_there_5 : decode b_MO_there 5 = .ok (.if_icmp .ge 21, 3) := by decide +kernel
theorem d_MO_there_8 : decode b_MO_there 8 = .ok (.aload_n 0, 1) := by decide +kernel
theorem d_MO_there_9 : decode b_MO_there 9 = .ok (.iload_n 1, 1) := by decide +kernel
theorem d_MO_there_10 : decode b_MO_there 10 = .ok (.iconst 0, 1) := by decide +kernel
theorem d_MO_there_11 : decode b_MO_there 11 = .ok (.invokevirtual 96, 3) := by decide +kernel
theorem d_MO_there_14 : decode b_MO_there 14 = .ok (.sipush 208, 3) := by decide +kernel
theorem d_MO_there_17 : decode b_MO_there 17 = .ok (.if_icmp .eq 9, 3) := by decide +kernel
theorem d_MO_there_20 : decode b_MO_there 20 = .ok (.iinc 1 1, 3) := by decide +kernel
theorem d_MO_there_23 : decode b_MO_there 23 = .ok (.goto (-21), 3) := by decide +kernel
theorem d_MO_there_26 : decode b_MO_there 26 = .ok (.iload_n 1, 1) := by decide +kernel
theorem d_MO_there_27 : decode b_MO_there 27 = .ok (.ireturn, 1) := by decide +kernel
theorem d_MO_has_0 : decode b_MO_has 0 = .ok (.aload_n 0, 1) := by decide +kernel
theorem d_MO_has_1 : decode b_MO_has 1 = .ok (.iload_n 1, 1) := by decide +kernel
theorem d_MO_has_2 : decode b_MO_has 2 = .ok (.iconst 1, 1) := by decide +kernel
theorem d_MO_has_3 : decode b_MO_has 3 = .ok (.invokevirtual 96, 3) := by decide +kernel
theorem d_MO_has_6 : decode b_MO_has 6 = .ok (.aload_n 0, 1) := by decide +kernel
theorem d_MO_has_7 : decode b_MO_has 7 = .ok (.iload_n 1, 1) := by decide +kernel
theorem d_MO_has_8 : decode b_MO_has 8 = .ok (.iconst 3, 1) := by decide +kernel
theorem d_MO_has_9 : decode b_MO_has 9 = .ok (.invokevirtual 96, 3) := by decide +kernel
theorem d_MO_has_12 : decode b_MO_has 12 = .ok (.bipush 127, 2) := by decide +kernel
theorem d_MO_has_14 : decode b_MO_has 14 = .ok (.if_icmp .le 8, 3) := by decide +kernel
theorem d_MO_has_17 : decode b_MO_has 17 = .ok (.bipush 32, 2) := by decide +kernel
theorem d_MO_has_19 : decode b_MO_has 19 = .ok (.goto 4, 3) := by decide +kernel
theorem d_MO_has_22 : decode b_MO_has 22 = .ok (.iconst 0, 1) := by decide +kernel
theorem d_MO_has_23 : decode b_MO_has 23 = .ok (.isub, 1) := by decide +kernel
theorem d_MO_has_24 : decode b_MO_has 24 = .ok (.istore 4, 2) := by decide +kernel
theorem d_MO_has_26 : decode b_MO_has 26 = .ok (.iload_n 3, 1) := by decide +kernel
theorem d_MO_has_27 : decode b_MO_has 27 = .ok (.iload 4, 2) := by decide +kernel
theorem d_MO_has_29 : decode b_MO_has 29 = .ok (.if_icmp .lt 14, 3) := by decide +kernel
theorem d_MO_has_32 : decode b_MO_has 32 = .ok (.iload_n 3, 1) := by decide +kernel
theorem d_MO_has_33 : decode b_MO_has 33 = .ok (.iload 4, 2) := by decide +kernel
theorem d_MO_has_35 : decode b_MO_has 35 = .ok (.aload_n 0, 1) := by decide +kernel
theorem d_MO_has_36 : decode b_MO_has 36 = .ok (.invokevirtual 99, 3) := by decide +kernel
theorem d_MO_has_39 : decode b_MO_has 39 = .ok (.iadd, 1) := by decide +kernel
theorem d_MO_has_40 : decode b_MO_has 40 = .ok (.if_icmp .lt 5, 3) := by decide +kernel
theorem d_MO_has_43 : decode b_MO_has 43 = .ok (.iconst 0, 1) := by decide +kernel
theorem d_MO_has_44 : decode b_MO_has 44 = .ok (.ireturn, 1) := by decide +kernel
theorem d_MO_has_45 : decode b_MO_has 45 = .ok (.iload_n 3, 1) := by decide +kernel
theorem d_MO_has_46 : decode b_MO_has 46 = .ok (.iload 4, 2) := by decide +kernel
theorem d_MO_has_48 : decode b_MO_has 48 = .ok (.isub, 1) := by decide +kernel
theorem d_MO_has_49 : decode b_MO_has 49 = .ok (.aload_n 0, 1) := by decide +kernel
theorem d_MO_has_50 : decode b_MO_has 50 = .ok (.invokevirtual 92, 3) := by decide +kernel
theorem d_MO_has_53 : decode b_MO_has 53 = .ok (.idiv, 1) := by decide +kernel
theorem d_MO_has_54 : decode b_MO_has 54 = .ok (.istore 5, 2) := by decide +kernel
theorem d_MO_has_56 : decode b_MO_has 56 = .ok (.aload_n 0, 1) := by decide +kernel
theorem d_MO_has_57 : decode b_MO_has 57 = .ok (.iload_n 1, 1) := by decide +kernel
theorem d_MO_has_58 : decode b_MO_has 58 = .ok (.iconst 2, 1) := by decide +kernel
theorem d_MO_has_59 : decode b_MO_has 59 = .ok (.invokevirtual 96, 3) := by decide +kernel
theorem d_MO_has_62 : decode b_MO_has 62 = .ok (.bipush 16, 2) := by decide +kernel
theorem d_MO_has_64 : decode b_MO_has 64 = .ok (.irem, 1) := by decide +kernel
theorem d_MO_has_65 : decode b_MO_has 65 = .ok (.istore 6, 2) := by decide +kernel
theorem d_MO_has_67 : decode b_MO_has 67 = .ok (.sipush 128, 3) := by decide +kernel
theorem d_MO_has_70 : decode b_MO_has 70 = .ok (.aload_n 0, 1) := by decide +kernel
theorem d_MO_has_71 : decode b_MO_has 71 = .ok (.getfield 32, 3) := by decide +kernel
theorem d_MO_has_74 : decode b_MO_has 74 = .ok (.bipush 6, 2) := by decide +kernel
theorem d_MO_has_76 : decode b_MO_has 76 = .ok (.iaload, 1) := by decide +kernel
theorem d_MO_has_77 : decode b_MO_has 77 = .ok (.iconst 4, 1) := by decide +kernel
theorem d_MO_has_78 : decode b_MO_has 78 = .ok (.irem, 1) := by decide +kernel
theorem d_MO_has_79 : decode b_MO_has 79 = .ok (.imul, 1) := by decide +kernel
theorem d_MO_has_80 : decode b_MO_has 80 = .ok (.istore 7, 2) := by decide +kernel
theorem d_MO_has_82 : decode b_MO_has 82 = .ok (.aload_n 0, 1) := by decide +kernel
theorem d_MO_has_83 : decode b_MO_has 83 = .ok (.aload_n 0, 1) := by decide +kernel
theorem d_MO_has_84 : decode b_MO_has 84 = .ok (.getfield 32, 3) := by decide +kernel
theorem d_MO_has_87 : decode b_MO_has 87 = .ok (.iconst 1, 1) := by decide +kernel
theorem d_MO_has_88 : decode b_MO_has 88 = .ok (.iaload, 1) := by decide +kernel
theorem d_MO_has_89 : decode b_MO_has 89 = .ok (.iconst 1, 1) := by decide +kernel
theorem d_MO_has_90 : decode b_MO_has 90 = .ok (.invokevirtual 88, 3) := by decide +kernel
theorem d_MO_has_93 : decode b_MO_has 93 = .ok (.ifCond .eq 34, 3) := by decide +kernel
theorem d_MO_has_96 : decode b_MO_has 96 = .ok (.iload 7, 2) := by decide +kernel
theorem d_MO_has_98 : decode b_MO_has 98 = .ok (.bipush 8, 2) := by decide +kernel
theorem d_MO_has_100 : decode b_MO_has 100 = .ok (.iload 6, 2) := by decide +kernel
theorem d_MO_has_102 : decode b_MO_has 102 = .ok (.iconst 4, 1) := by decide +kernel
theorem d_MO_has_103 : decode b_MO_has 103 = .ok (.idiv, 1) := by decide +kernel
theorem d_MO_has_104 : decode b_MO_has 104 = .ok (.iconst 4, 1) := by decide +kernel
theorem d_MO_has_105 : decode b_MO_has 105 = .ok (.imul, 1) := by decide +kernel
theorem d_MO_has_106 : decode b_MO_has 106 = .ok (.imul, 1) := by decide +kernel
theorem d_MO_has_107 : decode b_MO_has 107 = .ok (.iadd, 1) := by decide +kernel
theorem d_MO_has_108 : decode b_MO_has 108 = .ok (.iload_n 2, 1) := by decide +kernel
theorem d_MO_has_109 : decode b_MO_has 109 = .ok (.iadd, 1) := by decide +kernel
theorem d_MO_has_110 : decode b_MO_has 110 = .ok (.iload 5, 2) := by decide +kernel
theorem d_MO_has_112 : decode b_MO_has 112 = .ok (.bipush 7, 2) := by decide +kernel
theorem d_MO_has_114 : decode b_MO_has 114 = .ok (.if_icmp .le 8, 3) := by decide +kernel
theorem d_MO_has_117 : decode b_MO_has 117 = .ok (.bipush 16, 2) := by decide +kernel
theorem d_MO_has_119 : decode b_MO_has 119 = .ok (.goto 4, 3) := by decide +kernel
theorem d_MO_has_122 : decode b_MO_has 122 = .ok (.iconst 0, 1) := by decide +kernel
theorem d_MO_has_123 : decode b_MO_has 123 = .ok (.iadd, 1) := by decide +kernel
theorem d_MO_has_124 : decode b_MO_has 124 = .ok (.goto 13, 3) := by decide +kernel
theorem d_MO_has_127 : decode b_MO_has 127 = .ok (.iload 7, 2) := by decide +kernel
theorem d_MO_has_129 : decode b_MO_has 129 = .ok (.bipush 8, 2) := by decide +kernel
theorem d_MO_has_131 : decode b_MO_has 131 = .ok (.iload 6, 2) := by decide +kernel
theorem d_MO_has_133 : decode b_MO_has 133 = .ok (.imul, 1) := by decide +kernel
theorem d_MO_has_134 : decode b_MO_has 134 = .ok (.iadd, 1) := by decide +kernel
theorem d_MO_has_135 : decode b_MO_has 135 = .ok (.iload_n 2, 1) := by decide +kernel
theorem d_MO_has_136 : decode b_MO_has 136 = .ok (.iadd, 1) := by decide +kernel
theorem d_MO_has_137 : decode b_MO_has 137 = .ok (.istore 8, 2) := by decide +kernel
theorem d_MO_has_139 : decode b_MO_has 139 = .ok (.aload_n 0, 1) := by decide +kernel
theorem d_MO_has_140 : decode b_MO_has 140 = .ok (.aload_n 0, 1) := by decide +kernel
theorem d_MO_has_141 : decode b_MO_has 141 = .ok (.getfield 29, 3) := by decide +kernel
theorem d_MO_has_144 : decode b_MO_has 144 = .ok (.iload 8, 2) := by decide +kernel
theorem d_MO_has_146 : decode b_MO_has 146 = .ok (.iaload, 1) := by decide +kernel
theorem d_MO_has_147 : decode b_MO_has 147 = .ok (.bipush 7, 2) := by decide +kernel
theorem d_MO_has_149 : decode b_MO_has 149 = .ok (.iload 5, 2) := by decide +kernel
theorem d_MO_has_151 : decode b_MO_has 151 = .ok (.bipush 8, 2) := by decide +kernel
theorem d_MO_has_153 : decode b_MO_has 153 = .ok (.irem, 1) := by decide +kernel
theorem d_MO_has_154 : decode b_MO_has 154 = .ok (.isub, 1) := by decide +kernel
theorem d_MO_has_155 : decode b_MO_has 155 = .ok (.invokevirtual 88, 3) := by decide +kernel
theorem d_MO_has_158 : decode b_MO_has 158 = .ok (.ireturn, 1) := by decide +kernel
theorem d_MO_tile_0 : decode b_MO_tile 0 = .ok (.aload_n 0, 1) := by decide +kernel
theorem d_MO_tile_1 : decode b_MO_tile 1 = .ok (.getfield 29, 3) := by decide +kernel
theorem d_MO_tile_4 : decode b_MO_tile 4 = .ok (.bipush 32, 2) := by decide +kernel
theorem d_MO_tile_6 : decode b_MO_tile 6 = .ok (.aload_n 0, 1) := by decide +kernel
theorem d_MO_tile_7 : decode b_MO_tile 7 = .ok (.getfield 32, 3) := by decide +kernel
theorem d_MO_tile_10 : decode b_MO_tile 10 = .ok (.iconst 2, 1) := by decide +kernel
theorem d_MO_tile_11 : decode b_MO_tile 11 = .ok (.iaload, 1) := by decide +kernel
theorem d_MO_tile_12 : decode b_MO_tile 12 = .ok (.bipush 16, 2) := by decide +kernel
theorem d_MO_tile_14 : decode b_MO_tile 14 = .ok (.irem, 1) := by decide +kernel
theorem d_MO_tile_15 : decode b_MO_tile 15 = .ok (.imul, 1) := by decide +kernel
theorem d_MO_tile_16 : decode b_MO_tile 16 = .ok (.iload_n 2, 1) := by decide +kernel
theorem d_MO_tile_17 : decode b_MO_tile 17 = .ok (.bipush 8, 2) := by decide +kernel
theorem d_MO_tile_19 : decode b_MO_tile 19 = .ok (.idiv, 1) := by decide +kernel
theorem d_MO_tile_20 : decode b_MO_tile 20 = .ok (.bipush 8, 2) := by decide +kernel
theorem d_MO_tile_22 : decode b_MO_tile 22 = .ok (.imul, 1) := by decide +kernel
theorem d_MO_tile_23 : decode b_MO_tile 23 = .ok (.iadd, 1) := by decide +kernel
theorem d_MO_tile_24 : decode b_MO_tile 24 = .ok (.iload_n 1, 1) := by decide +kernel
theorem d_MO_tile_25 : decode b_MO_tile 25 = .ok (.bipush 8, 2) := by decide +kernel
theorem d_MO_tile_27 : decode b_MO_tile 27 = .ok (.idiv, 1) := by decide +kernel
theorem d_MO_tile_28 : decode b_MO_tile 28 = .ok (.iadd, 1) := by decide +kernel
theorem d_MO_tile_29 : decode b_MO_tile 29 = .ok (.iaload, 1) := by decide +kernel
theorem d_MO_tile_30 : decode b_MO_tile 30 = .ok (.bipush 32, 2) := by decide +kernel
theorem d_MO_tile_32 : decode b_MO_tile 32 = .ok (.irem, 1) := by decide +kernel
theorem d_MO_tile_33 : decode b_MO_tile 33 = .ok (.istore_n 3, 1) := by decide +kernel
theorem d_MO_tile_34 : decode b_MO_tile 34 = .ok (.aload_n 0, 1) := by decide +kernel
theorem d_MO_tile_35 : decode b_MO_tile 35 = .ok (.getfield 29, 3) := by decide +kernel
theorem d_MO_tile_38 : decode b_MO_tile 38 = .ok (.sipush 256, 3) := by decide +kernel
theorem d_MO_tile_41 : decode b_MO_tile 41 = .ok (.aload_n 0, 1) := by decide +kernel
theorem d_MO_tile_42 : decode b_MO_tile 42 = .ok (.getfield 32, 3) := by decide +kernel
theorem d_MO_tile_45 : decode b_MO_tile 45 = .ok (.iconst 4, 1) := by decide +kernel
theorem d_MO_tile_46 : decode b_MO_tile 46 = .ok (.iaload, 1) := by decide +kernel
theorem d_MO_tile_47 : decode b_MO_tile 47 = .ok (.iconst 2, 1) := by decide +kernel
theorem d_MO_tile_48 : decode b_MO_tile 48 = .ok (.irem, 1) := by decide +kernel
theorem d_MO_tile_49 : decode b_MO_tile 49 = .ok (.imul, 1) := by decide +kernel
theorem d_MO_tile_50 : decode b_MO_tile 50 = .ok (.bipush 8, 2) := by decide +kernel
theorem d_MO_tile_52 : decode b_MO_tile 52 = .ok (.iload_n 3, 1) := by decide +kernel
theorem d_MO_tile_53 : decode b_MO_tile 53 = .ok (.imul, 1) := by decide +kernel
theorem d_MO_tile_54 : decode b_MO_tile 54 = .ok (.iadd, 1) := by decide +kernel
theorem d_MO_tile_55 : decode b_MO_tile 55 = .ok (.iload_n 2, 1) := by decide +kernel
theorem d_MO_tile_56 : decode b_MO_tile 56 = .ok (.bipush 8, 2) := by decide +kernel
theorem d_MO_tile_58 : decode b_MO_tile 58 = .ok (.irem, 1) := by decide +kernel
theorem d_MO_tile_59 : decode b_MO_tile 59 = .ok (.iadd, 1) := by decide +kernel
theorem d_MO_tile_60 : decode b_MO_tile 60 = .ok (.iaload, 1) := by decide +kernel
theorem d_MO_tile_61 : decode b_MO_tile 61 = .ok (.istore 4, 2) := by decide +kernel
theorem d_MO_tile_63 : decode b_MO_tile 63 = .ok (.aload_n 0, 1) := by decide +kernel
theorem d_MO_tile_64 : decode b_MO_tile 64 = .ok (.getfield 29, 3) := by decide +kernel
theorem d_MO_tile_67 : decode b_MO_tile 67 = .ok (.iconst 4, 1) := by decide +kernel
theorem d_MO_tile_68 : decode b_MO_tile 68 = .ok (.aload_n 0, 1) := by decide +kernel
theorem d_MO_tile_69 : decode b_MO_tile 69 = .ok (.getfield 32, 3) := by decide +kernel
theorem d_MO_tile_72 : decode b_MO_tile 72 = .ok (.iconst 3, 1) := by decide +kernel
theorem d_MO_tile_73 : decode b_MO_tile 73 = .ok (.iaload, 1) := by decide +kernel
theorem d_MO_tile_74 : decode b_MO_tile 74 = .ok (.sipush 128, 3) := by decide +kernel
theorem d_MO_tile_77 : decode b_MO_tile 77 = .ok (.irem, 1) := by decide +kernel
theorem d_MO_tile_78 : decode b_MO_tile 78 = .ok (.imul, 1) := by decide +kernel
theorem d_MO_tile_79 : decode b_MO_tile 79 = .ok (.iload_n 3, 1) := by decide +kernel
theorem d_MO_tile_80 : decode b_MO_tile 80 = .ok (.bipush 8, 2) := by decide +kernel
theorem d_MO_tile_82 : decode b_MO_tile 82 = .ok (.idiv, 1) := by decide +kernel
theorem d_MO_tile_83 : decode b_MO_tile 83 = .ok (.iadd, 1) := by decide +kernel
theorem d_MO_tile_84 : decode b_MO_tile 84 = .ok (.iaload, 1) := by decide +kernel
theorem d_MO_tile_85 : decode b_MO_tile 85 = .ok (.istore 5, 2) := by decide +kernel
theorem d_MO_tile_87 : decode b_MO_tile 87 = .ok (.aload_n 0, 1) := by decide +kernel
theorem d_MO_tile_88 : decode b_MO_tile 88 = .ok (.iload 4, 2) := by decide +kernel
theorem d_MO_tile_90 : decode b_MO_tile 90 = .ok (.bipush 7, 2) := by decide +kernel
theorem d_MO_tile_92 : decode b_MO_tile 92 = .ok (.iload_n 1, 1) := by decide +kernel
theorem d_MO_tile_93 : decode b_MO_tile 93 = .ok (.bipush 8, 2) := by decide +kernel
theorem d_MO_tile_95 : decode b_MO_tile 95 = .ok (.irem, 1) := by decide +kernel
theorem d_MO_tile_96 : decode b_MO_tile 96 = .ok (.isub, 1) := by decide +kernel
theorem d_MO_tile_97 : decode b_MO_tile 97 = .ok (.invokevirtual 88, 3) := by decide +kernel
theorem d_MO_tile_100 : decode b_MO_tile 100 = .ok (.ifCond .eq 11, 3) := by decide +kernel
theorem d_MO_tile_103 : decode b_MO_tile 103 = .ok (.iload 5, 2) := by decide +kernel
theorem d_MO_tile_105 : decode b_MO_tile 105 = .ok (.bipush 16, 2) := by decide +kernel
theorem d_MO_tile_107 : decode b_MO_tile 107 = .ok (.idiv, 1) := by decide +kernel
theorem d_MO_tile_108 : decode b_MO_tile 108 = .ok (.goto 8, 3) := by decide +kernel
theorem d_MO_tile_111 : decode b_MO_tile 111 = .ok (.iload 5, 2) := by decide +kernel
theorem d_MO_tile_113 : decode b_MO_tile 113 = .ok (.bipush 16, 2) := by decide +kernel
theorem d_MO_tile_115 : decode b_MO_tile 115 = .ok (.irem, 1) := by decide +kernel
theorem d_MO_tile_116 : decode b_MO_tile 116 = .ok (.ireturn, 1) := by decide +kernel
theorem d_MO_color_0 : decode b_MO_color 0 = .ok (.iconst 0, 1) := by decide +kernel
theorem d_MO_color_1 : decode b_MO_color 1 = .ok (.istore_n 3, 1) := by decide +kernel
theorem d_MO_color_2 : decode b_MO_color 2 = .ok (.iconst 0, 1) := by decide +kernel
theorem d_MO_color_3 : decode b_MO_color 3 = .ok (.istore 4, 2) := by decide +kernel
theorem d_MO_color_5 : decode b_MO_color 5 = .ok (.iconst 0, 1) := by decide +kernel
theorem d_MO_color_6 : decode b_MO_color 6 = .ok (.istore 5, 2) := by decide +kernel
theorem d_MO_color_8 : decode b_MO_color 8 = .ok (.iconst 0, 1) := by decide +kernel
theorem d_MO_color_9 : decode b_MO_color 9 = .ok (.istore 6, 2) := by decide +kernel
theorem d_MO_color_11 : decode b_MO_color 11 = .ok (.iload 6, 2) := by decide +kernel
theorem d_MO_color_13 : decode b_MO_color 13 = .ok (.iload_n 2, 1) := by decide +kernel
theorem d_MO_color_14 : decode b_MO_color 14 = .ok (.if_icmp .ge 71, 3) := by decide +kernel
theorem d_MO_color_17 : decode b_MO_color 17 = .ok (.iload 5, 2) := by decide +kernel
theorem d_MO_color_19 : decode b_MO_color 19 = .ok (.iconst 4, 1) := by decide +kernel
theorem d_MO_color_20 : decode b_MO_color 20 = .ok (.if_icmp .ge 65, 3) := by decide +kernel
theorem d_MO_color_23 : decode b_MO_color 23 = .ok (.aload_n 0, 1) := by decide +kernel
theorem d_MO_color_24 : decode b_MO_color 24 = .ok (.iload 6, 2) := by decide +kernel
theorem d_MO_color_26 : decode b_MO_color 26 = .ok (.aload_n 0, 1) := by decide +kernel
theorem d_MO_color_27 : decode b_MO_color 27 = .ok (.getfield 102, 3) := by decide +kernel
theorem d_MO_color_30 : decode b_MO_color 30 = .ok (.invokevirtual 105, 3) := by decide +kernel
theorem d_MO_color_33 : decode b_MO_color 33 = .ok (.istore 7, 2) := by decide +kernel
theorem d_MO_color_35 : decode b_MO_color 35 = .ok (.iload 7, 2) := by decide +kernel
theorem d_MO_color_37 : decode b_MO_color 37 = .ok (.ifCond .ge 6, 3) := by decide +kernel
theorem d_MO_color_40 : decode b_MO_color 40 = .ok (.goto 39, 3) := by decide +kernel
theorem d_MO_color_43 : decode b_MO_color 43 = .ok (.iinc 5 1, 3) := by decide +kernel
theorem d_MO_color_46 : decode b_MO_color 46 = .ok (.aload_n 0, 1) := by decide +kernel
theorem d_MO_color_47 : decode b_MO_color 47 = .ok (.iload 6, 2) := by decide +kernel
theorem d_MO_color_49 : decode b_MO_color 49 = .ok (.iload 7, 2) := by decide +kernel
theorem d_MO_color_51 : decode b_MO_color 51 = .ok (.iload_n 1, 1) := by decide +kernel
theorem d_MO_color_52 : decode b_MO_color 52 = .ok (.invokevirtual 108, 3) := by decide +kernel
theorem d_MO_color_55 : decode b_MO_color 55 = .ok (.ifCond .ne 6, 3) := by decide +kernel
theorem d_MO_color_58 : decode b_MO_color 58 = .ok (.goto 21, 3) := by decide +kernel
theorem d_MO_color_61 : decode b_MO_color 61 = .ok (.iinc 4 1, 3) := by decide +kernel
theorem d_MO_color_64 : decode b_MO_color 64 = .ok (.iload_n 3, 1) := by decide +kernel
theorem d_MO_color_65 : decode b_MO_color 65 = .ok (.ifCond .ne 14, 3) := by decide +kernel
theorem d_MO_color_68 : decode b_MO_color 68 = .ok (.aload_n 0, 1) := by decide +kernel
theorem d_MO_color_69 : decode b_MO_color 69 = .ok (.iload 6, 2) := by decide +kernel
theorem d_MO_color_71 : decode b_MO_color 71 = .ok (.iconst 3, 1) := by decide +kernel
theorem d_MO_color_72 : decode b_MO_color 72 = .ok (.invokevirtual 96, 3) := by decide +kernel
theorem d_MO_color_75 : decode b_MO_color 75 = .ok (.bipush 16, 2) := by decide +kernel
theorem d_MO_color_77 : decode b_MO_color 77 = .ok (.irem, 1) := by decide +kernel
theorem d_MO_color_78 : decode b_MO_color 78 = .ok (.istore_n 3, 1) := by decide +kernel
theorem d_MO_color_79 : decode b_MO_color 79 = .ok (.iinc 6 1, 3) := by decide +kernel
theorem d_MO_color_82 : decode b_MO_color 82 = .ok (.goto (-71), 3) := by decide +kernel
theorem d_MO_color_85 : decode b_MO_color 85 = .ok (.iload 4, 2) := by decide +kernel
theorem d_MO_color_87 : decode b_MO_color 87 = .ok (.iconst 1, 1) := by decide +kernel
theorem d_MO_color_88 : decode b_MO_color 88 = .ok (.if_icmp .le 14, 3) := by decide +kernel
theorem d_MO_color_91 : decode b_MO_color 91 = .ok (.aload_n 0, 1) := by decide +kernel
theorem d_MO_color_92 : decode b_MO_color 92 = .ok (.aload_n 0, 1) := by decide +kernel
theorem d_MO_color_93 : decode b_MO_color 93 = .ok (.getfield 78, 3) := by decide +kernel
theorem d_MO_color_96 : decode b_MO_color 96 = .ok (.bipush 32, 2) := by decide +kernel
theorem d_MO_color_98 : decode b_MO_color 98 = .ok (.ior, 1) := by decide +kernel
theorem d_MO_color_99 : decode b_MO_color 99 = .ok (.putfield 78, 3) := by decide +kernel
theorem d_MO_color_102 : decode b_MO_color 102 = .ok (.iload_n 3, 1) := by decide +kernel
theorem d_MO_color_103 : decode b_MO_color 103 = .ok (.ifCond .ne 13, 3) := by decide +kernel
theorem d_MO_color_106 : decode b_MO_color 106 = .ok (.aload_n 0, 1) := by decide +kernel
theorem d_MO_color_107 : decode b_MO_color 107 = .ok (.iload_n 1, 1) := by decide +kernel
theorem d_MO_color_108 : decode b_MO_color 108 = .ok (.aload_n 0, 1) := by decide +kernel
theorem d_MO_color_109 : decode b_MO_color 109 = .ok (.getfield 102, 3) := by decide +kernel
theorem d_MO_color_112 : decode b_MO_color 112 = .ok (.invokevirtual 111, 3) := by decide +kernel
theorem d_MO_color_115 : decode b_MO_color 115 = .ok (.istore_n 3, 1) := by decide +kernel
theorem d_MO_color_116 : decode b_MO_color 116 = .ok (.iload_n 3, 1) := by decide +kernel
theorem d_MO_color_117 : decode b_MO_color 117 = .ok (.ifCond .ne 16, 3) := by decide +kernel
theorem d_MO_color_120 : decode b_MO_color 120 = .ok (.aload_n 0, 1) := by decide +kernel
theorem d_MO_color_121 : decode b_MO_color 121 = .ok (.getfield 32, 3) := by decide +kernel
theorem d_MO_color_124 : decode b_MO_color 124 = .ok (.bipush 7, 2) := by decide +kernel
theorem d_MO_color_126 : decode b_MO_color 126 = .ok (.iaload, 1) := by decide +kernel
theorem d_MO_color_127 : decode b_MO_color 127 = .ok (.bipush 16, 2) := by decide +kernel
theorem d_MO_color_129 : decode b_MO_color 129 = .ok (.irem, 1) := by decide +kernel
theorem d_MO_color_130 : decode b_MO_color 130 = .ok (.goto 4, 3) := by decide +kernel
theorem d_MO_color_133 : decode b_MO_color 133 = .ok (.iload_n 3, 1) := by decide +kernel
theorem d_MO_color_134 : decode b_MO_color 134 = .ok (.ireturn, 1) := by decide +kernel
theorem d_MO_tellFifth_0 : decode b_MO_tellFifth 0 = .ok (.iconst 0, 1) := by decide +kernel
theorem d_MO_tellFifth_1 : decode b_MO_tellFifth 1 = .ok (.istore_n 2, 1) := by decide +kernel
theorem d_MO_tellFifth_2 : decode b_MO_tellFifth 2 = .ok (.iconst 0, 1) := by decide +kernel
theorem d_MO_tellFifth_3 : decode b_MO_tellFifth 3 = .ok (.istore_n 3, 1) := by decide +kernel
theorem d_MO_tellFifth_4 : decode b_MO_tellFifth 4 = .ok (.iload_n 3, 1) := by decide +kernel
theorem d_MO_tellFifth_5 : decode b_MO_tellFifth 5 = .ok (.iload_n 1, 1) := by decide +kernel
theorem d_MO_tellFifth_6 : decode b_MO_tellFifth 6 = .ok (.if_icmp .ge 74, 3) := by decide +kernel
theorem d_MO_tellFifth_9 : decode b_MO_tellFifth 9 = .ok (.aload_n 0, 1) := by decide +kernel
theorem d_MO_tellFifth_10 : decode b_MO_tellFifth 10 = .ok (.iload_n 3, 1) := by decide +kernel
theorem d_MO_tellFifth_11 : decode b_MO_tellFifth 11 = .ok (.aload_n 0, 1) := by decide +kernel
theorem d_MO_tellFifth_12 : decode b_MO_tellFifth 12 = .ok (.getfield 102, 3) := by decide +kernel
theorem d_MO_tellFifth_15 : decode b_MO_tellFifth 15 = .ok (.invokevirtual 105, 3) := by decide +kernel
theorem d_MO_tellFifth_18 : decode b_MO_tellFifth 18 = .ok (.ifCond .ge 6, 3) := by decide +kernel
theorem d_MO_tellFifth_21 : decode b_MO_tellFifth 21 = .ok (.goto 53, 3) := by decide +kernel
theorem d_MO_tellFifth_24 : decode b_MO_tellFifth 24 = .ok (.iinc 2 1, 3) := by decide +kernel
theorem d_MO_tellFifth_27 : decode b_MO_tellFifth 27 = .ok (.iload_n 2, 1) := by decide +kernel
theorem d_MO_tellFifth_28 : decode b_MO_tellFifth 28 = .ok (.iconst 5, 1) := by decide +kernel
theorem d_MO_tellFifth_29 : decode b_MO_tellFifth 29 = .ok (.if_icmp .ne 45, 3) := by decide +kernel
theorem d_MO_tellFifth_32 : decode b_MO_tellFifth 32 = .ok (.aload_n 0, 1) := by decide +kernel
theorem d_MO_tellFifth_33 : decode b_MO_tellFifth 33 = .ok (.aload_n 0, 1) := by decide +kernel
theorem d_MO_tellFifth_34 : decode b_MO_tellFifth 34 = .ok (.getfield 78, 3) := by decide +kernel
theorem d_MO_tellFifth_37 : decode b_MO_tellFifth 37 = .ok (.bipush 6, 2) := by decide +kernel
theorem d_MO_tellFifth_39 : decode b_MO_tellFifth 39 = .ok (.invokevirtual 88, 3) := by decide +kernel
theorem d_MO_tellFifth_42 : decode b_MO_tellFifth 42 = .ok (.ifCond .ne 32, 3) := by decide +kernel
theorem d_MO_tellFifth_45 : decode b_MO_tellFifth 45 = .ok (.aload_n 0, 1) := by decide +kernel
theorem d_MO_tellFifth_46 : decode b_MO_tellFifth 46 = .ok (.aload_n 0, 1) := by decide +kernel
theorem d_MO_tellFifth_47 : decode b_MO_tellFifth 47 = .ok (.getfield 78, 3) := by decide +kernel
theorem d_MO_tellFifth_50 : decode b_MO_tellFifth 50 = .ok (.sipush 128, 3) := by decide +kernel
theorem d_MO_tellFifth_53 : decode b_MO_tellFifth 53 = .ok (.idiv, 1) := by decide +kernel
theorem d_MO_tellFifth_54 : decode b_MO_tellFifth 54 = .ok (.sipush 128, 3) := by decide +kernel
theorem d_MO_tellFifth_57 : decode b_MO_tellFifth 57 = .ok (.imul, 1) := by decide +kernel
theorem d_MO_tellFifth_58 : decode b_MO_tellFifth 58 = .ok (.aload_n 0, 1) := by decide +kernel
theorem d_MO_tellFifth_59 : decode b_MO_tellFifth 59 = .ok (.getfield 78, 3) := by decide +kernel
theorem d_MO_tellFifth_62 : decode b_MO_tellFifth 62 = .ok (.bipush 32, 2) := by decide +kernel
theorem d_MO_tellFifth_64 : decode b_MO_tellFifth 64 = .ok (.iand, 1) := by decide +kernel
theorem d_MO_tellFifth_65 : decode b_MO_tellFifth 65 = .ok (.iadd, 1) := by decide +kernel
theorem d_MO_tellFifth_66 : decode b_MO_tellFifth 66 = .ok (.bipush 64, 2) := by decide +kernel
theorem d_MO_tellFifth_68 : decode b_MO_tellFifth 68 = .ok (.iadd, 1) := by decide +kernel
theorem d_MO_tellFifth_69 : decode b_MO_tellFifth 69 = .ok (.iload_n 3, 1) := by decide +kernel
theorem d_MO_tellFifth_70 : decode b_MO_tellFifth 70 = .ok (.iadd, 1) := by decide +kernel
theorem d_MO_tellFifth_71 : decode b_MO_tellFifth 71 = .ok (.putfield 78, 3) := by decide +kernel
theorem d_MO_tellFifth_74 : decode b_MO_tellFifth 74 = .ok (.iinc 3 1, 3) := by decide +kernel
theorem d_MO_tellFifth_77 : decode b_MO_tellFifth 77 = .ok (.goto (-73), 3) := by decide +kernel
theorem d_MO_tellFifth_80 : decode b_MO_tellFifth 80 = .ok (.return_, 1) := by decide +kernel
theorem d_MO_scan_0 : decode b_MO_scan 0 = .ok (.aload_n 0, 1) := by decide +kernel
theorem d_MO_scan_1 : decode b_MO_scan 1 = .ok (.iconst 0, 1) := by decide +kernel
theorem d_MO_scan_2 : decode b_MO_scan 2 = .ok (.putfield 42, 3) := by decide +kernel
theorem d_MO_scan_5 : decode b_MO_scan 5 = .ok (.aload_n 0, 1) := by decide +kernel
theorem d_MO_scan_6 : decode b_MO_scan 6 = .ok (.aload_n 0, 1) := by decide +kernel
theorem d_MO_scan_7 : decode b_MO_scan 7 = .ok (.getfield 32, 3) := by decide +kernel
theorem d_MO_scan_10 : decode b_MO_scan 10 = .ok (.iconst 1, 1) := by decide +kernel
theorem d_MO_scan_11 : decode b_MO_scan 11 = .ok (.iaload, 1) := by decide +kernel
theorem d_MO_scan_12 : decode b_MO_scan 12 = .ok (.bipush 6, 2) := by decide +kernel
theorem d_MO_scan_14 : decode b_MO_scan 14 = .ok (.invokevirtual 88, 3) := by decide +kernel
theorem d_MO_scan_17 : decode b_MO_scan 17 = .ok (.istore_n 1, 1) := by decide +kernel
theorem d_MO_scan_18 : decode b_MO_scan 18 = .ok (.aload_n 0, 1) := by decide +kernel
theorem d_MO_scan_19 : decode b_MO_scan 19 = .ok (.invokevirtual 114, 3) := by decide +kernel
theorem d_MO_scan_22 : decode b_MO_scan 22 = .ok (.istore_n 2, 1) := by decide +kernel
theorem d_MO_scan_23 : decode b_MO_scan 23 = .ok (.iload_n 1, 1) := by decide +kernel
theorem d_MO_scan_24 : decode b_MO_scan 24 = .ok (.ifCond .eq 8, 3) := by decide +kernel
theorem d_MO_scan_27 : decode b_MO_scan 27 = .ok (.aload_n 0, 1) := by decide +kernel
theorem d_MO_scan_28 : decode b_MO_scan 28 = .ok (.iload_n 2, 1) := by decide +kernel
theorem d_MO_scan_29 : decode b_MO_scan 29 = .ok (.invokevirtual 117, 3) := by decide +kernel
theorem d_MO_scan_32 : decode b_MO_scan 32 = .ok (.iconst 0, 1) := by decide +kernel
theorem d_MO_scan_33 : decode b_MO_scan 33 = .ok (.istore_n 3, 1) := by decide +kernel
theorem d_MO_scan_34 : decode b_MO_scan 34 = .ok (.iload_n 3, 1) := by decide +kernel
theorem d_MO_scan_35 : decode b_MO_scan 35 = .ok (.bipush 64, 2) := by decide +kernel
theorem d_MO_scan_37 : decode b_MO_scan 37 = .ok (.if_icmp .ge 46, 3) := by decide +kernel
theorem d_MO_scan_40 : decode b_MO_scan 40 = .ok (.aload_n 0, 1) := by decide +kernel
theorem d_MO_scan_41 : decode b_MO_scan 41 = .ok (.getfield 39, 3) := by decide +kernel
theorem d_MO_scan_44 : decode b_MO_scan 44 = .ok (.bipush 64, 2) := by decide +kernel
theorem d_MO_scan_46 : decode b_MO_scan 46 = .ok (.aload_n 0, 1) := by decide +kernel
theorem d_MO_scan_47 : decode b_MO_scan 47 = .ok (.getfield 102, 3) := by decide +kernel
theorem d_MO_scan_50 : decode b_MO_scan 50 = .ok (.imul, 1) := by decide +kernel
theorem d_MO_scan_51 : decode b_MO_scan 51 = .ok (.iload_n 3, 1) := by decide +kernel
theorem d_MO_scan_52 : decode b_MO_scan 52 = .ok (.iadd, 1) := by decide +kernel
theorem d_MO_scan_53 : decode b_MO_scan 53 = .ok (.iload_n 1, 1) := by decide +kernel
theorem d_MO_scan_54 : decode b_MO_scan 54 = .ok (.ifCond .eq 12, 3) := by decide +kernel
theorem d_MO_scan_57 : decode b_MO_scan 57 = .ok (.aload_n 0, 1) := by decide +kernel
theorem d_MO_scan_58 : decode b_MO_scan 58 = .ok (.iload_n 3, 1) := by decide +kernel
theorem d_MO_scan_59 : decode b_MO_scan 59 = .ok (.iload_n 2, 1) := by decide +kernel
theorem d_MO_scan_60 : decode b_MO_scan 60 = .ok (.invokevirtual 120, 3) := by decide +kernel
theorem d_MO_scan_63 : decode b_MO_scan 63 = .ok (.goto 13, 3) := by decide +kernel
theorem d_MO_scan_66 : decode b_MO_scan 66 = .ok (.aload_n 0, 1) := by decide +kernel
theorem d_MO_scan_67 : decode b_MO_scan 67 = .ok (.getfield 32, 3) := by decide +kernel
theorem d_MO_scan_70 : decode b_MO_scan 70 = .ok (.bipush 7, 2) := by decide +kernel
theorem d_MO_scan_72 : decode b_MO_scan 72 = .ok (.iaload, 1) := by decide +kernel
theorem d_MO_scan_73 : decode b_MO_scan 73 = .ok (.bipush 16, 2) := by decide +kernel
theorem d_MO_scan_75 : decode b_MO_scan 75 = .ok (.irem, 1) := by decide +kernel
theorem d_MO_scan_76 : decode b_MO_scan 76 = .ok (.iastore, 1) := by decide +kernel
theorem d_MO_scan_77 : decode b_MO_scan 77 = .ok (.iinc 3 1, 3) := by decide +kernel
theorem d_MO_scan_80 : decode b_MO_scan 80 = .ok (.goto (-46), 3) := by decide +kernel
theorem d_MO_scan_83 : decode b_MO_scan 83 = .ok (.aload_n 0, 1) := by decide +kernel
theorem d_MO_scan_84 : decode b_MO_scan 84 = .ok (.getfield 102, 3) := by decide +kernel
theorem d_MO_scan_87 : decode b_MO_scan 87 = .ok (.istore_n 3, 1) := by decide +kernel
theorem d_MO_scan_88 : decode b_MO_scan 88 = .ok (.aload_n 0, 1) := by decide +kernel
theorem d_MO_scan_89 : decode b_MO_scan 89 = .ok (.aload_n 0, 1) := by decide +kernel
theorem d_MO_scan_90 : decode b_MO_scan 90 = .ok (.getfield 102, 3) := by decide +kernel
theorem d_MO_scan_93 : decode b_MO_scan 93 = .ok (.bipush 31, 2) := by decide +kernel
theorem d_MO_scan_95 : decode b_MO_scan 95 = .ok (.if_icmp .ne 7, 3) := by decide +kernel
theorem d_MO_scan_98 : decode b_MO_scan 98 = .ok (.iconst 0, 1) := by decide +kernel
theorem d_MO_scan_99 : decode b_MO_scan 99 = .ok (.goto 9, 3) := by decide +kernel
theorem d_MO_scan_102 : decode b_MO_scan 102 = .ok (.aload_n 0, 1) := by decide +kernel
theorem d_MO_scan_103 : decode b_MO_scan 103 = .ok (.getfield 102, 3) := by decide +kernel
theorem d_MO_scan_106 : decode b_MO_scan 106 = .ok (.iconst 1, 1) := by decide +kernel
theorem d_MO_scan_107 : decode b_MO_scan 107 = .ok (.iadd, 1) := by decide +kernel
theorem d_MO_scan_108 : decode b_MO_scan 108 = .ok (.putfield 102, 3) := by decide +kernel
theorem d_MO_scan_111 : decode b_MO_scan 111 = .ok (.aload_n 0, 1) := by decide +kernel
theorem d_MO_scan_112 : decode b_MO_scan 112 = .ok (.getfield 102, 3) := by decide +kernel
theorem d_MO_scan_115 : decode b_MO_scan 115 = .ok (.ifCond .ne 15, 3) := by decide +kernel
theorem d_MO_scan_118 : decode b_MO_scan 118 = .ok (.aload_n 0, 1) := by decide +kernel
theorem d_MO_scan_119 : decode b_MO_scan 119 = .ok (.aload_n 0, 1) := by decide +kernel
theorem d_MO_scan_120 : decode b_MO_scan 120 = .ok (.getfield 78, 3) := by decide +kernel
theorem d_MO_scan_123 : decode b_MO_scan 123 = .ok (.sipush 128, 3) := by decide +kernel
theorem d_MO_scan_126 : decode b_MO_scan 126 = .ok (.ior, 1) := by decide +kernel
theorem d_MO_scan_127 : decode b_MO_scan 127 = .ok (.putfield 78, 3) := by decide +kernel
theorem d_MO_scan_130 : decode b_MO_scan 130 = .ok (.iload_n 3, 1) := by decide +kernel
theorem d_MO_scan_131 : decode b_MO_scan 131 = .ok (.ireturn, 1) := by decide +kernel
theorem d_MO_pixel_0 : decode b_MO_pixel 0 = .ok (.aload_n 0, 1) := by decide +kernel
theorem d_MO_pixel_1 : decode b_MO_pixel 1 = .ok (.iconst 0, 1) := by decide +kernel
theorem d_MO_pixel_2 : decode b_MO_pixel 2 = .ok (.putfield 42, 3) := by decide +kernel
theorem d_MO_pixel_5 : decode b_MO_pixel 5 = .ok (.iload_n 1, 1) := by decide +kernel
theorem d_MO_pixel_6 : decode b_MO_pixel 6 = .ok (.iconst 0, 1) := by decide +kernel
theorem d_MO_pixel_7 : decode b_MO_pixel 7 = .ok (.bipush 63, 2) := by decide +kernel
theorem d_MO_pixel_9 : decode b_MO_pixel 9 = .ok (.invokestatic 45, 3) := by decide +kernel
theorem d_MO_pixel_12 : decode b_MO_pixel 12 = .ok (.ifCond .eq 27, 3) := by decide +kernel
theorem d_MO_pixel_15 : decode b_MO_pixel 15 = .ok (.iload_n 2, 1) := by decide +kernel
theorem d_MO_pixel_16 : decode b_MO_pixel 16 = .ok (.iconst 0, 1) := by decide +kernel
theorem d_MO_pixel_17 : decode b_MO_pixel 17 = .ok (.bipush 31, 2) := by decide +kernel
theorem d_MO_pixel_19 : decode b_MO_pixel 19 = .ok (.invokestatic 45, 3) := by decide +kernel
theorem d_MO_pixel_22 : decode b_MO_pixel 22 = .ok (.ifCond .eq 17, 3) := by decide +kernel
theorem d_MO_pixel_25 : decode b_MO_pixel 25 = .ok (.aload_n 0, 1) := by decide +kernel
theorem d_MO_pixel_26 : decode b_MO_pixel 26 = .ok (.getfield 39, 3) := by decide +kernel
theorem d_MO_pixel_29 : decode b_MO_pixel 29 = .ok (.bipush 64, 2) := by decide +kernel
theorem d_MO_pixel_31 : decode b_MO_pixel 31 = .ok (.iload_n 2, 1) := by decide +kernel
theorem d_MO_pixel_32 : decode b_MO_pixel 32 = .ok (.imul, 1) := by decide +kernel
theorem d_MO_pixel_33 : decode b_MO_pixel 33 = .ok (.iload_n 1, 1) := by decide +kernel
theorem d_MO_pixel_34 : decode b_MO_pixel 34 = .ok (.iadd, 1) := by decide +kernel
theorem d_MO_pixel_35 : decode b_MO_pixel 35 = .ok (.iaload, 1) := by decide +kernel
theorem d_MO_pixel_36 : decode b_MO_pixel 36 = .ok (.goto 4, 3) := by decide +kernel
theorem d_MO_pixel_39 : decode b_MO_pixel 39 = .ok (.iconst (-1), 1) := by decide +kernel
theorem d_MO_pixel_40 : decode b_MO_pixel 40 = .ok (.ireturn, 1) := by decide +kernel
theorem d_MO_video_0 : decode b_MO_video 0 = .ok (.aload_n 0, 1) := by decide +kernel
theorem d_MO_video_1 : decode b_MO_video 1 = .ok (.iconst 0, 1) := by decide +kernel
theorem d_MO_video_2 : decode b_MO_video 2 = .ok (.putfield 42, 3) := by decide +kernel
theorem d_MO_video_5 : decode b_MO_video 5 = .ok (.iload_n 1, 1) := by decide +kernel
theorem d_MO_video_6 : decode b_MO_video 6 = .ok (.iconst 0, 1) := by decide +kernel
theorem d_MO_video_7 : decode b_MO_video 7 = .ok (.sipush 511, 3) := by decide +kernel
theorem d_MO_video_10 : decode b_MO_video 10 = .ok (.invokestatic 45, 3) := by decide +kernel
theorem d_MO_video_13 : decode b_MO_video 13 = .ok (.ifCond .eq 12, 3) := by decide +kernel
theorem d_MO_video_16 : decode b_MO_video 16 = .ok (.aload_n 0, 1) := by decide +kernel
theorem d_MO_video_17 : decode b_MO_video 17 = .ok (.getfield 29, 3) := by decide +kernel
theorem d_MO_video_20 : decode b_MO_video 20 = .ok (.iload_n 1, 1) := by decide +kernel
theorem d_MO_video_21 : decode b_MO_video 21 = .ok (.iaload, 1) := by decide +kernel
theorem d_MO_video_22 : decode b_MO_video 22 = .ok (.goto 4, 3) := by decide +kernel
theorem d_MO_video_25 : decode b_MO_video 25 = .ok (.iconst (-1), 1) := by decide +kernel
theorem d_MO_video_26 : decode b_MO_video 26 = .ok (.ireturn, 1) := by decide +kernel
theorem d_MO_chip_0 : decode b_MO_chip 0 = .ok (.aload_n 0, 1) := by decide +kernel
theorem d_MO_chip_1 : decode b_MO_chip 1 = .ok (.iconst 0, 1) := by decide +kernel
theorem d_MO_chip_2 : decode b_MO_chip 2 = .ok (.putfield 42, 3) := by decide +kernel
theorem d_MO_chip_5 : decode b_MO_chip 5 = .ok (.iload_n 1, 1) := by decide +kernel
theorem d_MO_chip_6 : decode b_MO_chip 6 = .ok (.iconst 0, 1) := by decide +kernel
theorem d_MO_chip_7 : decode b_MO_chip 7 = .ok (.bipush 7, 2) := by decide +kernel
theorem d_MO_chip_9 : decode b_MO_chip 9 = .ok (.invokestatic 45, 3) := by decide +kernel
theorem d_MO_chip_12 : decode b_MO_chip 12 = .ok (.ifCond .eq 10, 3) := by decide +kernel
theorem d_MO_chip_15 : decode b_MO_chip 15 = .ok (.aload_n 0, 1) := by decide +kernel
theorem d_MO_chip_16 : decode b_MO_chip 16 = .ok (.getfield 32, 3) := by decide +kernel
theorem d_MO_chip_19 : decode b_MO_chip 19 = .ok (.iload_n 1, 1) := by decide +kernel
theorem d_MO_chip_20 : decode b_MO_chip 20 = .ok (.iaload, 1) := by decide +kernel
theorem d_MO_chip_21 : decode b_MO_chip 21 = .ok (.ireturn, 1) := by decide +kernel
theorem d_MO_chip_22 : decode b_MO_chip 22 = .ok (.iload_n 1, 1) := by decide +kernel
theorem d_MO_chip_23 : decode b_MO_chip 23 = .ok (.bipush 8, 2) := by decide +kernel
theorem d_MO_chip_25 : decode b_MO_chip 25 = .ok (.if_icmp .ne 10, 3) := by decide +kernel
theorem d_MO_chip_28 : decode b_MO_chip 28 = .ok (.aload_n 0, 1) := by decide +kernel
theorem d_MO_chip_29 : decode b_MO_chip 29 = .ok (.getfield 78, 3) := by decide +kernel
theorem d_MO_chip_32 : decode b_MO_chip 32 = .ok (.goto 43, 3) := by decide +kernel
theorem d_MO_chip_35 : decode b_MO_chip 35 = .ok (.iload_n 1, 1) := by decide +kernel
theorem d_MO_chip_36 : decode b_MO_chip 36 = .ok (.bipush 9, 2) := by decide +kernel
theorem d_MO_chip_38 : decode b_MO_chip 38 = .ok (.if_icmp .ne 10, 3) := by decide +kernel
theorem d_MO_chip_41 : decode b_MO_chip 41 = .ok (.aload_n 0, 1) := by decide +kernel
theorem d_MO_chip_42 : decode b_MO_chip 42 = .ok (.getfield 69, 3) := by decide +kernel
theorem d_MO_chip_45 : decode b_MO_chip 45 = .ok (.goto 30, 3) := by decide +kernel
theorem d_MO_chip_48 : decode b_MO_chip 48 = .ok (.iload_n 1, 1) := by decide +kernel
theorem d_MO_chip_49 : decode b_MO_chip 49 = .ok (.bipush 10, 2) := by decide +kernel
theorem d_MO_chip_51 : decode b_MO_chip 51 = .ok (.if_icmp .ne 10, 3) := by decide +kernel
theorem d_MO_chip_54 : decode b_MO_chip 54 = .ok (.aload_n 0, 1) := by decide +kernel
theorem d_MO_chip_55 : decode b_MO_chip 55 = .ok (.getfield 72, 3) := by decide +kernel
theorem d_MO_chip_58 : decode b_MO_chip 58 = .ok (.goto 17, 3) := by decide +kernel
theorem d_MO_chip_61 : decode b_MO_chip 61 = .ok (.iload_n 1, 1) := by decide +kernel
theorem d_MO_chip_62 : decode b_MO_chip 62 = .ok (.bipush 11, 2) := by decide +kernel
theorem d_MO_chip_64 : decode b_MO_chip 64 = .ok (.if_icmp .ne 10, 3) := by decide +kernel
theorem d_MO_chip_67 : decode b_MO_chip 67 = .ok (.aload_n 0, 1) := by decide +kernel
theorem d_MO_chip_68 : decode b_MO_chip 68 = .ok (.getfield 35, 3) := by decide +kernel
theorem d_MO_chip_71 : decode b_MO_chip 71 = .ok (.goto 4, 3) := by decide +kernel
theorem d_MO_chip_74 : decode b_MO_chip 74 = .ok (.iconst (-1), 1) := by decide +kernel
theorem d_MO_chip_75 : decode b_MO_chip 75 = .ok (.ireturn, 1) := by decide +kernel
theorem d_MO_secondary_0 : decode b_MO_secondary 0 = .ok (.aload_n 0, 1) := by decide +kernel
theorem d_MO_secondary_1 : decode b_MO_secondary 1 = .ok (.iconst 0, 1) := by decide +kernel
theorem d_MO_secondary_2 : decode b_MO_secondary 2 = .ok (.putfield 42, 3) := by decide +kernel
theorem d_MO_secondary_5 : decode b_MO_secondary 5 = .ok (.iload_n 1, 1) := by decide +kernel
theorem d_MO_secondary_6 : decode b_MO_secondary 6 = .ok (.iconst 0, 1) := by decide +kernel
theorem d_MO_secondary_7 : decode b_MO_secondary 7 = .ok (.iconst 3, 1) := by decide +kernel
theorem d_MO_secondary_8 : decode b_MO_secondary 8 = .ok (.invokestatic 45, 3) := by decide +kernel
theorem d_MO_secondary_11 : decode b_MO_secondary 11 = .ok (.ifCond .eq 21, 3) := by decide +kernel
theorem d_MO_secondary_14 : decode b_MO_secondary 14 = .ok (.aload_n 0, 1) := by decide +kernel
theorem d_MO_secondary_15 : decode b_MO_secondary 15 = .ok (.getfield 7, 3) := by decide +kernel
theorem d_MO_secondary_18 : decode b_MO_secondary 18 = .ok (.iload_n 1, 1) := by decide +kernel
theorem d_MO_secondary_19 : decode b_MO_secondary 19 = .ok (.baload, 1) := by decide +kernel
theorem d_MO_secondary_20 : decode b_MO_secondary 20 = .ok (.ifCond .eq 12, 3) := by decide +kernel
theorem d_MO_secondary_23 : decode b_MO_secondary 23 = .ok (.aload_n 0, 1) := by decide +kernel
theorem d_MO_secondary_24 : decode b_MO_secondary 24 = .ok (.getfield 13, 3) := by decide +kernel
theorem d_MO_secondary_27 : decode b_MO_secondary 27 = .ok (.iload_n 1, 1) := by decide +kernel
theorem d_MO_secondary_28 : decode b_MO_secondary 28 = .ok (.iaload, 1) := by decide +kernel
theorem d_MO_secondary_29 : decode b_MO_secondary 29 = .ok (.goto 4, 3) := by decide +kernel
theorem d_MO_secondary_32 : decode b_MO_secondary 32 = .ok (.iconst (-1), 1) := by decide +kernel
theorem d_MO_secondary_33 : decode b_MO_secondary 33 = .ok (.ireturn, 1) := by decide +kernel
theorem d_MO_calls_0 : decode b_MO_calls 0 = .ok (.aload_n 0, 1) := by decide +kernel
theorem d_MO_calls_1 : decode b_MO_calls 1 = .ok (.iconst 0, 1) := by decide +kernel
theorem d_MO_calls_2 : decode b_MO_calls 2 = .ok (.putfield 42, 3) := by decide +kernel
theorem d_MO_calls_5 : decode b_MO_calls 5 = .ok (.aload_n 0, 1) := by decide +kernel
theorem d_MO_calls_6 : decode b_MO_calls 6 = .ok (.aload_n 0, 1) := by decide +kernel
theorem d_MO_calls_7 : decode b_MO_calls 7 = .ok (.getfield 32, 3) := by decide +kernel
theorem d_MO_calls_10 : decode b_MO_calls 10 = .ok (.iconst 1, 1) := by decide +kernel
theorem d_MO_calls_11 : decode b_MO_calls 11 = .ok (.iaload, 1) := by decide +kernel
theorem d_MO_calls_12 : decode b_MO_calls 12 = .ok (.iconst 5, 1) := by decide +kernel
theorem d_MO_calls_13 : decode b_MO_calls 13 = .ok (.invokevirtual 88, 3) := by decide +kernel
theorem d_MO_calls_16 : decode b_MO_calls 16 = .ok (.ifCond .eq 16, 3) := by decide +kernel
theorem d_MO_calls_19 : decode b_MO_calls 19 = .ok (.aload_n 0, 1) := by decide +kernel
theorem d_MO_calls_20 : decode b_MO_calls 20 = .ok (.getfield 78, 3) := by decide +kernel
theorem d_MO_calls_23 : decode b_MO_calls 23 = .ok (.bipush 127, 2) := by decide +kernel
theorem d_MO_calls_25 : decode b_MO_calls 25 = .ok (.if_icmp .le 7, 3) := by decide +kernel
theorem d_MO_calls_28 : decode b_MO_calls 28 = .ok (.iconst 1, 1) := by decide +kernel
theorem d_MO_calls_29 : decode b_MO_calls 29 = .ok (.goto 4, 3) := by decide +kernel
theorem d_MO_calls_32 : decode b_MO_calls 32 = .ok (.iconst 0, 1) := by decide +kernel
theorem d_MO_calls_33 : decode b_MO_calls 33 = .ok (.ireturn, 1) := by decide +kernel
end
section
/-! DECODE rows -/
theorem d_SS_init_0 : decode b_SS_init 0 = .ok (.aload_n 0, 1) := by decide +kernel
theorem d_SS_init_1 : decode b_SS_init 1 = .ok (.invokespecial 1, 3) := by decide +kernel
theorem d_SS_init_4 : decode b_SS_init 4 = .ok (.aload_n 0, 1) := by decide +kernel
theorem d_SS_init_5 : decode b_SS_init 5 = .ok (.new 7, 3) := by decide +kernel
theorem d_SS_init_8 : decode b_SS_init 8 = .ok (.dup, 1) := by decide +kernel
theorem d_SS_init_9 : decode b_SS_init 9 = .ok (.invokespecial 9, 3) := by decide +kernel
theorem d_SS_init_12 : decode b_SS_init 12 = .ok (.putfield 10, 3) := by decide +kernel
theorem d_SS_init_15 : decode b_SS_init 15 = .ok (.aload_n 0, 1) := by decide +kernel
theorem d_SS_init_16 : decode b_SS_init 16 = .ok (.new 16, 3) := by decide +kernel
theorem d_SS_init_19 : decode b_SS_init 19 = .ok (.dup, 1) := by decide +kernel
theorem d_SS_init_20 : decode b_SS_init 20 = .ok (.invokespecial 18, 3) := by decide +kernel
theorem d_SS_init_23 : decode b_SS_init 23 = .ok (.putfield 19, 3) := by decide +kernel
theorem d_SS_init_26 : decode b_SS_init 26 = .ok (.aload_n 0, 1) := by decide +kernel
theorem d_SS_init_27 : decode b_SS_init 27 = .ok (.new 23, 3) := by decide +kernel
theorem d_SS_init_30 : decode b_SS_init 30 = .ok (.dup, 1) := by decide +kernel
theorem d_SS_init_31 : decode b_SS_init 31 = .ok (.aload_n 0, 1) := by decide +kernel
theorem d_SS_init_32 : decode b_SS_init 32 = .ok (.getfield 19, 3) := by decide +kernel
theorem d_SS_init_35 : decode b_SS_init 35 = .ok (.invokespecial 25, 3) := by decide +kernel
theorem d_SS_init_38 : decode b_SS_init 38 = .ok (.putfield 28, 3) := by decide +kernel
theorem d_SS_init_41 : decode b_SS_init 41 = .ok (.return_, 1) := by decide +kernel
theorem d_SS_widen_0 : decode b_SS_widen 0 = .ok (.iload_n 1, 1) := by decide +kernel
theorem d_SS_widen_1 : decode b_SS_widen 1 = .ok (.invokestatic 32, 3) := by decide +kernel
theorem d_SS_widen_4 : decode b_SS_widen 4 = .ok (.ifCond .ne 13, 3) := by decide +kernel
theorem d_SS_widen_7 : decode b_SS_widen 7 = .ok (.new 36, 3) := by decide +kernel
theorem d_SS_widen_10 : decode b_SS_widen 10 = .ok (.dup, 1) := by decide +kernel
theorem d_SS_widen_11 : decode b_SS_widen 11 = .ok (.ldc 38, 2) := by decide +kernel
theorem d_SS_widen_13 : decode b_SS_widen 13 = .ok (.invokespecial 40, 3) := by decide +kernel
theorem d_SS_widen_16 : decode b_SS_widen 16 = .ok (.athrow, 1) := by decide +kernel
theorem d_SS_widen_17 : decode b_SS_widen 17 = .ok (.aload_n 0, 1) := by decide +kernel
theorem d_SS_widen_18 : decode b_SS_widen 18 = .ok (.getfield 10, 3) := by decide +kernel
theorem d_SS_widen_21 : decode b_SS_widen 21 = .ok (.iload_n 1, 1) := by decide +kernel
theorem d_SS_widen_22 : decode b_SS_widen 22 = .ok (.invokevirtual 43, 3) := by decide +kernel
theorem d_SS_widen_25 : decode b_SS_widen 25 = .ok (.ifCond .ne 15, 3) := by decide +kernel
theorem d_SS_widen_28 : decode b_SS_widen 28 = .ok (.aload_n 0, 1) := by decide +kernel
theorem d_SS_widen_29 : decode b_SS_widen 29 = .ok (.getfield 10, 3) := by decide +kernel
theorem d_SS_widen_32 : decode b_SS_widen 32 = .ok (.iload_n 1, 1) := by decide +kernel
theorem d_SS_widen_33 : decode b_SS_widen 33 = .ok (.iconst 0, 1) := by decide +kernel
theorem d_SS_widen_34 : decode b_SS_widen 34 = .ok (.invokevirtual 46, 3) := by decide +kernel
theorem d_SS_widen_37 : decode b_SS_widen 37 = .ok (.ifnull 13, 3) := by decide +kernel
theorem d_SS_widen_40 : decode b_SS_widen 40 = .ok (.new 50, 3) := by decide +kernel
theorem d_SS_widen_43 : decode b_SS_widen 43 = .ok (.dup, 1) := by decide +kernel
theorem d_SS_widen_44 : decode b_SS_widen 44 = .ok (.ldc 52, 2) := by decide +kernel
theorem d_SS_widen_46 : decode b_SS_widen 46 = .ok (.invokespecial 54, 3) := by decide +kernel
theorem d_SS_widen_49 : decode b_SS_widen 49 = .ok (.athrow, 1) := by decide +kernel
theorem d_SS_widen_50 : decode b_SS_widen 50 = .ok (.aload_n 0, 1) := by decide +kernel
theorem d_SS_widen_51 : decode b_SS_widen 51 = .ok (.getfield 10, 3) := by decide +kernel
theorem d_SS_widen_54 : decode b_SS_widen 54 = .ok (.iload_n 1, 1) := by decide +kernel
theorem d_SS_widen_55 : decode b_SS_widen 55 = .ok (.invokevirtual 55, 3) := by decide +kernel
theorem d_SS_widen_58 : decode b_SS_widen 58 = .ok (.return_, 1) := by decide +kernel
theorem d_SS_plug_0 : decode b_SS_plug 0 = .ok (.iload_n 1, 1) := by decide +kernel
theorem d_SS_plug_1 : decode b_SS_plug 1 = .ok (.invokestatic 32, 3) := by decide +kernel
theorem d_SS_plug_4 : decode b_SS_plug 4 = .ok (.ifCond .eq 19, 3) := by decide +kernel
theorem d_SS_plug_7 : decode b_SS_plug 7 = .ok (.iload_n 2, 1) := by decide +kernel
theorem d_SS_plug_8 : decode b_SS_plug 8 = .ok (.invokestatic 59, 3) := by decide +kernel
theorem d_SS_plug_11 : decode b_SS_plug 11 = .ok (.ifCond .eq 12, 3) := by decide +kernel
theorem d_SS_plug_14 : decode b_SS_plug 14 = .ok (.iload_n 3, 1) := by decide +kernel
theorem d_SS_plug_15 : decode b_SS_plug 15 = .ok (.iload 4, 2) := by decide +kernel
theorem d_SS_plug_17 : decode b_SS_plug 17 = .ok (.invokestatic 62, 3) := by decide +kernel
theorem d_SS_plug_20 : decode b_SS_plug 20 = .ok (.ifCond .ne 13, 3) := by decide +kernel
theorem d_SS_plug_23 : decode b_SS_plug 23 = .ok (.new 36, 3) := by decide +kernel
theorem d_SS_plug_26 : decode b_SS_plug 26 = .ok (.dup, 1) := by decide +kernel
theorem d_SS_plug_27 : decode b_SS_plug 27 = .ok (.ldc 66, 2) := by decide +kernel
theorem d_SS_plug_29 : decode b_SS_plug 29 = .ok (.invokespecial 40, 3) := by decide +kernel
theorem d_SS_plug_32 : decode b_SS_plug 32 = .ok (.athrow, 1) := by decide +kernel
theorem d_SS_plug_33 : decode b_SS_plug 33 = .ok (.aload_n 0, 1) := by decide +kernel
theorem d_SS_plug_34 : decode b_SS_plug 34 = .ok (.getfield 10, 3) := by decide +kernel
theorem d_SS_plug_37 : decode b_SS_plug 37 = .ok (.iload_n 1, 1) := by decide +kernel
theorem d_SS_plug_38 : decode b_SS_plug 38 = .ok (.iload_n 2, 1) := by decide +kernel
theorem d_SS_plug_39 : decode b_SS_plug 39 = .ok (.invokevirtual 68, 3) := by decide +kernel
theorem d_SS_plug_42 : decode b_SS_plug 42 = .ok (.ifCond .eq 15, 3) := by decide +kernel
theorem d_SS_plug_45 : decode b_SS_plug 45 = .ok (.aload_n 0, 1) := by decide +kernel
theorem d_SS_plug_46 : decode b_SS_plug 46 = .ok (.getfield 10, 3) := by decide +kernel
theorem d_SS_plug_49 : decode b_SS_plug 49 = .ok (.iload_n 1, 1) := by decide +kernel
theorem d_SS_plug_50 : decode b_SS_plug 50 = .ok (.iload_n 2, 1) := by decide +kernel
theorem d_SS_plug_51 : decode b_SS_plug 51 = .ok (.invokevirtual 46, 3) := by decide +kernel
theorem d_SS_plug_54 : decode b_SS_plug 54 = .ok (.ifnull 13, 3) := by decide +kernel
theorem d_SS_plug_57 : decode b_SS_plug 57 = .ok (.new 50, 3) := by decide +kernel
theorem d_SS_plug_60 : decode b_SS_plug 60 = .ok (.dup, 1) := by decide +kernel
theorem d_SS_plug_61 : decode b_SS_plug 61 = .ok (.ldc 71, 2) := by decide +kernel
theorem d_SS_plug_63 : decode b_SS_plug 63 = .ok (.invokespecial 54, 3) := by decide +kernel
theorem d_SS_plug_66 : decode b_SS_plug 66 = .ok (.athrow, 1) := by decide +kernel
theorem d_SS_plug_67 : decode b_SS_plug 67 = .ok (.aload_n 0, 1) := by decide +kernel
theorem d_SS_plug_68 : decode b_SS_plug 68 = .ok (.getfield 10, 3) := by decide +kernel
theorem d_SS_plug_71 : decode b_SS_plug 71 = .ok (.iload_n 1, 1) := by decide +kernel
theorem d_SS_plug_72 : decode b_SS_plug 72 = .ok (.iload_n 2, 1) := by decide +kernel
theorem d_SS_plug_73 : decode b_SS_plug 73 = .ok (.iload_n 3, 1) := by decide +kernel
theorem d_SS_plug_74 : decode b_SS_plug 74 = .ok (.iload 4, 2) := by decide +kernel
theorem d_SS_plug_76 : decode b_SS_plug 76 = .ok (.invokestatic 73, 3) := by decide +kernel
theorem d_SS_plug_79 : decode b_SS_plug 79 = .ok (.invokevirtual 76, 3) := by decide +kernel
theorem d_SS_plug_82 : decode b_SS_plug 82 = .ok (.return_, 1) := by decide +kernel
theorem d_SS_burn_0 : decode b_SS_burn 0 = .ok (.iload_n 1, 1) := by decide +kernel
theorem d_SS_burn_1 : decode b_SS_burn 1 = .ok (.invokestatic 32, 3) := by decide +kernel
theorem d_SS_burn_4 : decode b_SS_burn 4 = .ok (.ifCond .eq 18, 3) := by decide +kernel
theorem d_SS_burn_7 : decode b_SS_burn 7 = .ok (.iload_n 2, 1) := by decide +kernel
theorem d_SS_burn_8 : decode b_SS_burn 8 = .ok (.invokestatic 59, 3) := by decide +kernel
theorem d_SS_burn_11 : decode b_SS_burn 11 = .ok (.ifCond .eq 11, 3) := by decide +kernel
theorem d_SS_burn_14 : decode b_SS_burn 14 = .ok (.iload 4, 2) := by decide +kernel
theorem d_SS_burn_16 : decode b_SS_burn 16 = .ok (.invokestatic 80, 3) := by decide +kernel
theorem d_SS_burn_19 : decode b_SS_burn 19 = .ok (.ifCond .ne 5, 3) := by decide +kernel
theorem d_SS_burn_22 : decode b_SS_burn 22 = .ok (.iconst 0, 1) := by decide +kernel
theorem d_SS_burn_23 : decode b_SS_burn 23 = .ok (.ireturn, 1) := by decide +kernel
theorem d_SS_burn_24 : decode b_SS_burn 24 = .ok (.aload_n 0, 1) := by decide +kernel
theorem d_SS_burn_25 : decode b_SS_burn 25 = .ok (.getfield 10, 3) := by decide +kernel
theorem d_SS_burn_28 : decode b_SS_burn 28 = .ok (.iload_n 1, 1) := by decide +kernel
theorem d_SS_burn_29 : decode b_SS_burn 29 = .ok (.iload_n 2, 1) := by decide +kernel
theorem d_SS_burn_30 : decode b_SS_burn 30 = .ok (.invokevirtual 46, 3) := by decide +kernel
theorem d_SS_burn_33 : decode b_SS_burn 33 = .ok (.astore 5, 2) := by decide +kernel
theorem d_SS_burn_35 : decode b_SS_burn 35 = .ok (.aload 5, 2) := by decide +kernel
theorem d_SS_burn_37 : decode b_SS_burn 37 = .ok (.ifnull 18, 3) := by decide +kernel
theorem d_SS_burn_40 : decode b_SS_burn 40 = .ok (.aload 5, 2) := by decide +kernel
theorem d_SS_burn_42 : decode b_SS_burn 42 = .ok (.iload_n 3, 1) := by decide +kernel
theorem d_SS_burn_43 : decode b_SS_burn 43 = .ok (.iload 4, 2) := by decide +kernel
theorem d_SS_burn_45 : decode b_SS_burn 45 = .ok (.invokevirtual 83, 3) := by decide +kernel
theorem d_SS_burn_48 : decode b_SS_burn 48 = .ok (.ifCond .eq 7, 3) := by decide +kernel
theorem d_SS_burn_51 : decode b_SS_burn 51 = .ok (.iconst 1, 1) := by decide +kernel
theorem d_SS_burn_52 : decode b_SS_burn 52 = .ok (.goto 4, 3) := by decide +kernel
theorem d_SS_burn_55 : decode b_SS_burn 55 = .ok (.iconst 0, 1) := by decide +kernel
theorem d_SS_burn_56 : decode b_SS_burn 56 = .ok (.ireturn, 1) := by decide +kernel
theorem d_SS_read_0 : decode b_SS_read 0 = .ok (.iload_n 1, 1) := by decide +kernel
theorem d_SS_read_1 : decode b_SS_read 1 = .ok (.invokestatic 88, 3) := by decide +kernel
theorem d_SS_read_4 : decode b_SS_read 4 = .ok (.ifCond .ne 13, 3) := by decide +kernel
theorem d_SS_read_7 : decode b_SS_read 7 = .ok (.new 36, 3) := by decide +kernel
theorem d_SS_read_10 : decode b_SS_read 10 = .ok (.dup, 1) := by decide +kernel
theorem d_SS_read_11 : decode b_SS_read 11 = .ok (.ldc 91, 2) := by decide +kernel
theorem d_SS_read_13 : decode b_SS_read 13 = .ok (.invokespecial 40, 3) := by decide +kernel
theorem d_SS_read_16 : decode b_SS_read 16 = .ok (.athrow, 1) := by decide +kernel
theorem d_SS_read_17 : decode b_SS_read 17 = .ok (.aload_n 0, 1) := by decide +kernel
theorem d_SS_read_18 : decode b_SS_read 18 = .ok (.getfield 10, 3) := by decide +kernel
theorem d_SS_read_21 : decode b_SS_read 21 = .ok (.iload_n 1, 1) := by decide +kernel
theorem d_SS_read_22 : decode b_SS_read 22 = .ok (.invokevirtual 93, 3) := by decide +kernel
theorem d_SS_read_25 : decode b_SS_read 25 = .ok (.istore_n 2, 1) := by decide +kernel
theorem d_SS_read_26 : decode b_SS_read 26 = .ok (.aload_n 0, 1) := by decide +kernel
theorem d_SS_read_27 : decode b_SS_read 27 = .ok (.getfield 10, 3) := by decide +kernel
theorem d_SS_read_30 : decode b_SS_read 30 = .ok (.iload_n 2, 1) := by decide +kernel
theorem d_SS_read_31 : decode b_SS_read 31 = .ok (.aload_n 0, 1) := by decide +kernel
theorem d_SS_read_32 : decode b_SS_read 32 = .ok (.getfield 10, 3) := by decide +kernel
theorem d_SS_read_35 : decode b_SS_read 35 = .ok (.iload_n 2, 1) := by decide +kernel
theorem d_SS_read_36 : decode b_SS_read 36 = .ok (.iload_n 1, 1) := by decide +kernel
theorem d_SS_read_37 : decode b_SS_read 37 = .ok (.invokevirtual 97, 3) := by decide +kernel
theorem d_SS_read_40 : decode b_SS_read 40 = .ok (.iload_n 1, 1) := by decide +kernel
theorem d_SS_read_41 : decode b_SS_read 41 = .ok (.invokevirtual 101, 3) := by decide +kernel
theorem d_SS_read_44 : decode b_SS_read 44 = .ok (.ireturn, 1) := by decide +kernel
theorem d_SS_write_0 : decode b_SS_write 0 = .ok (.iload_n 1, 1) := by decide +kernel
theorem d_SS_write_1 : decode b_SS_write 1 = .ok (.invokestatic 88, 3) := by decide +kernel
theorem d_SS_write_4 : decode b_SS_write 4 = .ok (.ifCond .eq 10, 3) := by decide +kernel
theorem d_SS_write_7 : decode b_SS_write 7 = .ok (.iload_n 2, 1) := by decide +kernel
theorem d_SS_write_8 : decode b_SS_write 8 = .ok (.invokestatic 80, 3) := by decide +kernel
theorem d_SS_write_11 : decode b_SS_write 11 = .ok (.ifCond .ne 13, 3) := by decide +kernel
theorem d_SS_write_14 : decode b_SS_write 14 = .ok (.new 36, 3) := by decide +kernel
theorem d_SS_write_17 : decode b_SS_write 17 = .ok (.dup, 1) := by decide +kernel
theorem d_SS_write_18 : decode b_SS_write 18 = .ok (.ldc 105, 2) := by decide +kernel
theorem d_SS_write_20 : decode b_SS_write 20 = .ok (.invokespecial 40, 3) := by decide +kernel
theorem d_SS_write_23 : decode b_SS_write 23 = .ok (.athrow, 1) := by decide +kernel
theorem d_SS_write_24 : decode b_SS_write 24 = .ok (.aload_n 0, 1) := by decide +kernel
theorem d_SS_write_25 : decode b_SS_write 25 = .ok (.getfield 10, 3) := by decide +kernel
theorem d_SS_write_28 : decode b_SS_write 28 = .ok (.iload_n 1, 1) := by decide +kernel
theorem d_SS_write_29 : decode b_SS_write 29 = .ok (.iload_n 2, 1) := by decide +kernel
theorem d_SS_write_30 : decode b_SS_write 30 = .ok (.invokevirtual 107, 3) := by decide +kernel
theorem d_SS_write_33 : decode b_SS_write 33 = .ok (.return_, 1) := by decide +kernel
theorem d_SS_far_0 : decode b_SS_far 0 = .ok (.iload_n 1, 1) := by decide +kernel
theorem d_SS_far_1 : decode b_SS_far 1 = .ok (.invokestatic 32, 3) := by decide +kernel
theorem d_SS_far_4 : decode b_SS_far 4 = .ok (.ifCond .eq 17, 3) := by decide +kernel
theorem d_SS_far_7 : decode b_SS_far 7 = .ok (.iload_n 2, 1) := by decide +kernel
theorem d_SS_far_8 : decode b_SS_far 8 = .ok (.invokestatic 59, 3) := by decide +kernel
theorem d_SS_far_11 : decode b_SS_far 11 = .ok (.ifCond .eq 10, 3) := by decide +kernel
theorem d_SS_far_14 : decode b_SS_far 14 = .ok (.iload_n 3, 1) := by decide +kernel
theorem d_SS_far_15 : decode b_SS_far 15 = .ok (.invokestatic 88, 3) := by decide +kernel
theorem d_SS_far_18 : decode b_SS_far 18 = .ok (.ifCond .ne 13, 3) := by decide +kernel
theorem d_SS_far_21 : decode b_SS_far 21 = .ok (.new 36, 3) := by decide +kernel
theorem d_SS_far_24 : decode b_SS_far 24 = .ok (.dup, 1) := by decide +kernel
theorem d_SS_far_25 : decode b_SS_far 25 = .ok (.ldc 111, 2) := by decide +kernel
theorem d_SS_far_27 : decode b_SS_far 27 = .ok (.invokespecial 40, 3) := by decide +kernel
theorem d_SS_far_30 : decode b_SS_far 30 = .ok (.athrow, 1) := by decide +kernel
theorem d_SS_far_31 : decode b_SS_far 31 = .ok (.aload_n 0, 1) := by decide +kernel
theorem d_SS_far_32 : decode b_SS_far 32 = .ok (.getfield 10, 3) := by decide +kernel
theorem d_SS_far_35 : decode b_SS_far 35 = .ok (.iload_n 1, 1) := by decide +kernel
theorem d_SS_far_36 : decode b_SS_far 36 = .ok (.iload_n 2, 1) := by decide +kernel
theorem d_SS_far_37 : decode b_SS_far 37 = .ok (.iload_n 3, 1) := by decide +kernel
theorem d_SS_far_38 : decode b_SS_far 38 = .ok (.invokevirtual 101, 3) := by decide +kernel
theorem d_SS_far_41 : decode b_SS_far 41 = .ok (.ireturn, 1) := by decide +kernel
theorem d_SS_in_0 : decode b_SS_in 0 = .ok (.iload_n 1, 1) := by decide +kernel
theorem d_SS_in_1 : decode b_SS_in 1 = .ok (.tableswitch 51 0 2 #[27, 35, 43], 27) := by decide +kernel
theorem d_SS_in_28 : decode b_SS_in 28 = .ok (.aload_n 0, 1) := by decide +kernel
theorem d_SS_in_29 : decode b_SS_in 29 = .ok (.getfield 19, 3) := by decide +kernel
theorem d_SS_in_32 : decode b_SS_in 32 = .ok (.invokevirtual 113, 3) := by decide +kernel
theorem d_SS_in_35 : decode b_SS_in 35 = .ok (.ireturn, 1) := by decide +kernel
theorem d_SS_in_36 : decode b_SS_in 36 = .ok (.aload_n 0, 1) := by decide +kernel
theorem d_SS_in_37 : decode b_SS_in 37 = .ok (.getfield 19, 3) := by decide +kernel
theorem d_SS_in_40 : decode b_SS_in 40 = .ok (.invokevirtual 117, 3) := by decide +kernel
theorem d_SS_in_43 : decode b_SS_in 43 = .ok (.ireturn, 1) := by decide +kernel
theorem d_SS_in_44 : decode b_SS_in 44 = .ok (.aload_n 0, 1) := by decide +kernel
theorem d_SS_in_45 : decode b_SS_in 45 = .ok (.getfield 10, 3) := by decide +kernel
theorem d_SS_in_48 : decode b_SS_in 48 = .ok (.invokevirtual 120, 3) := by decide +kernel
theorem d_SS_in_51 : decode b_SS_in 51 = .ok (.ireturn, 1) := by decide +kernel
theorem d_SS_in_52 : decode b_SS_in 52 = .ok (.sipush 255, 3) := by decide +kernel
theorem d_SS_in_55 : decode b_SS_in 55 = .ok (.ireturn, 1) := by decide +kernel
theorem d_SS_out_0 : decode b_SS_out 0 = .ok (.iload_n 2, 1) := by decide +kernel
theorem d_SS_out_1 : decode b_SS_out 1 = .ok (.invokestatic 80, 3) := by decide +kernel
theorem d_SS_out_4 : decode b_SS_out 4 = .ok (.ifCond .ne 5, 3) := by decide +kernel
theorem d_SS_out_7 : decode b_SS_out 7 = .ok (.iconst 0, 1) := by decide +kernel
theorem d_SS_out_8 : decode b_SS_out 8 = .ok (.ireturn, 1) := by decide +kernel
theorem d_SS_out_9 : decode b_SS_out 9 = .ok (.iload_n 1, 1) := by decide +kernel
theorem d_SS_out_10 : decode b_SS_out 10 = .ok (.tableswitch 59 0 2 #[26, 37, 48], 26) := by decide +kernel
theorem d_SS_out_36 : decode b_SS_out 36 = .ok (.aload_n 0, 1) := by decide +kernel
theorem d_SS_out_37 : decode b_SS_out 37 = .ok (.getfield 19, 3) := by decide +kernel
theorem d_SS_out_40 : decode b_SS_out 40 = .ok (.iload_n 2, 1) := by decide +kernel
theorem d_SS_out_41 : decode b_SS_out 41 = .ok (.invokevirtual 123, 3) := by decide +kernel
theorem d_SS_out_44 : decode b_SS_out 44 = .ok (.goto 25, 3) := by decide +kernel
theorem d_SS_out_47 : decode b_SS_out 47 = .ok (.aload_n 0, 1) := by decide +kernel
theorem d_SS_out_48 : decode b_SS_out 48 = .ok (.getfield 19, 3) := by decide +kernel
theorem d_SS_out_51 : decode b_SS_out 51 = .ok (.iload_n 2, 1) := by decide +kernel
theorem d_SS_out_52 : decode b_SS_out 52 = .ok (.invokevirtual 126, 3) := by decide +kernel
theorem d_SS_out_55 : decode b_SS_out 55 = .ok (.goto 14, 3) := by decide +kernel
theorem d_SS_out_58 : decode b_SS_out 58 = .ok (.aload_n 0, 1) := by decide +kernel
theorem d_SS_out_59 : decode b_SS_out 59 = .ok (.getfield 10, 3) := by decide +kernel
theorem d_SS_out_62 : decode b_SS_out 62 = .ok (.iload_n 2, 1) := by decide +kernel
theorem d_SS_out_63 : decode b_SS_out 63 = .ok (.invokevirtual 129, 3) := by decide +kernel
theorem d_SS_out_66 : decode b_SS_out 66 = .ok (.goto 3, 3) := by decide +kernel
theorem d_SS_out_69 : decode b_SS_out 69 = .ok (.iconst 1, 1) := by decide +kernel
theorem d_SS_out_70 : decode b_SS_out 70 = .ok (.ireturn, 1) := by decide +kernel
theorem d_SS_scan_0 : decode b_SS_scan 0 = .ok (.aload_n 0, 1) := by decide +kernel
theorem d_SS_scan_1 : decode b_SS_scan 1 = .ok (.getfield 28, 3) := by decide +kernel
theorem d_SS_scan_4 : decode b_SS_scan 4 = .ok (.invokevirtual 132, 3) := by decide +kernel
theorem d_SS_scan_7 : decode b_SS_scan 7 = .ok (.ireturn, 1) := by decide +kernel
theorem d_SS_pixel_0 : decode b_SS_pixel 0 = .ok (.aload_n 0, 1) := by decide +kernel
theorem d_SS_pixel_1 : decode b_SS_pixel 1 = .ok (.getfield 28, 3) := by decide +kernel
theorem d_SS_pixel_4 : decode b_SS_pixel 4 = .ok (.iload_n 1, 1) := by decide +kernel
theorem d_SS_pixel_5 : decode b_SS_pixel 5 = .ok (.iload_n 2, 1) := by decide +kernel
theorem d_SS_pixel_6 : decode b_SS_pixel 6 = .ok (.invokevirtual 135, 3) := by decide +kernel
theorem d_SS_pixel_9 : decode b_SS_pixel 9 = .ok (.ireturn, 1) := by decide +kernel
theorem d_SS_video_0 : decode b_SS_video 0 = .ok (.iload_n 1, 1) := by decide +kernel
theorem d_SS_video_1 : decode b_SS_video 1 = .ok (.ifCond .lt 21, 3) := by decide +kernel
theorem d_SS_video_4 : decode b_SS_video 4 = .ok (.iload_n 1, 1) := by decide +kernel
theorem d_SS_video_5 : decode b_SS_video 5 = .ok (.sipush 512, 3) := by decide +kernel
theorem d_SS_video_8 : decode b_SS_video 8 = .ok (.if_icmp .ge 14, 3) := by decide +kernel
theorem d_SS_video_11 : decode b_SS_video 11 = .ok (.aload_n 0, 1) := by decide +kernel
theorem d_SS_video_12 : decode b_SS_video 12 = .ok (.getfield 19, 3) := by decide +kernel
theorem d_SS_video_15 : decode b_SS_video 15 = .ok (.iload_n 1, 1) := by decide +kernel
theorem d_SS_video_16 : decode b_SS_video 16 = .ok (.invokevirtual 138, 3) := by decide +kernel
theorem d_SS_video_19 : decode b_SS_video 19 = .ok (.goto 4, 3) := by decide +kernel
theorem d_SS_video_22 : decode b_SS_video 22 = .ok (.iconst (-1), 1) := by decide +kernel
theorem d_SS_video_23 : decode b_SS_video 23 = .ok (.ireturn, 1) := by decide +kernel
theorem d_SS_chip_0 : decode b_SS_chip 0 = .ok (.aload_n 0, 1) := by decide +kernel
theorem d_SS_chip_1 : decode b_SS_chip 1 = .ok (.getfield 19, 3) := by decide +kernel
theorem d_SS_chip_4 : decode b_SS_chip 4 = .ok (.iload_n 1, 1) := by decide +kernel
theorem d_SS_chip_5 : decode b_SS_chip 5 = .ok (.invokevirtual 141, 3) := by decide +kernel
theorem d_SS_chip_8 : decode b_SS_chip 8 = .ok (.ireturn, 1) := by decide +kernel
theorem d_SS_secondary_0 : decode b_SS_secondary 0 = .ok (.iload_n 1, 1) := by decide +kernel
theorem d_SS_secondary_1 : decode b_SS_secondary 1 = .ok (.invokestatic 32, 3) := by decide +kernel
theorem d_SS_secondary_4 : decode b_SS_secondary 4 = .ok (.ifCond .eq 25, 3) := by decide +kernel
theorem d_SS_secondary_7 : decode b_SS_secondary 7 = .ok (.aload_n 0, 1) := by decide +kernel
theorem d_SS_secondary_8 : decode b_SS_secondary 8 = .ok (.getfield 10, 3) := by decide +kernel
theorem d_SS_secondary_11 : decode b_SS_secondary 11 = .ok (.iload_n 1, 1) := by decide +kernel
theorem d_SS_secondary_12 : decode b_SS_secondary 12 = .ok (.invokevirtual 43, 3) := by decide +kernel
theorem d_SS_secondary_15 : decode b_SS_secondary 15 = .ok (.ifCond .eq 14, 3) := by decide +kernel
theorem d_SS_secondary_18 : decode b_SS_secondary 18 = .ok (.aload_n 0, 1) := by decide +kernel
theorem d_SS_secondary_19 : decode b_SS_secondary 19 = .ok (.getfield 10, 3) := by decide +kernel
theorem d_SS_secondary_22 : decode b_SS_secondary 22 = .ok (.iload_n 1, 1) := by decide +kernel
theorem d_SS_secondary_23 : decode b_SS_secondary 23 = .ok (.invokevirtual 144, 3) := by decide +kernel
theorem d_SS_secondary_26 : decode b_SS_secondary 26 = .ok (.goto 4, 3) := by decide +kernel
theorem d_SS_secondary_29 : decode b_SS_secondary 29 = .ok (.iconst (-1), 1) := by decide +kernel
theorem d_SS_secondary_30 : decode b_SS_secondary 30 = .ok (.ireturn, 1) := by decide +kernel
theorem d_SS_calls_0 : decode b_SS_calls 0 = .ok (.aload_n 0, 1) := by decide +kernel
theorem d_SS_calls_1 : decode b_SS_calls 1 = .ok (.getfield 19, 3) := by decide +kernel
theorem d_SS_calls_4 : decode b_SS_calls 4 = .ok (.invokevirtual 147, 3) := by decide +kernel
theorem d_SS_calls_7 : decode b_SS_calls 7 = .ok (.ireturn, 1) := by decide +kernel
theorem d_SS_isSlot_0 : decode b_SS_isSlot 0 = .ok (.iload_n 0, 1) := by decide +kernel
theorem d_SS_isSlot_1 : decode b_SS_isSlot 1 = .ok (.ifCond .lt 12, 3) := by decide +kernel
theorem d_SS_isSlot_4 : decode b_SS_isSlot 4 = .ok (.iload_n 0, 1) := by decide +kernel
theorem d_SS_isSlot_5 : decode b_SS_isSlot 5 = .ok (.iconst 4, 1) := by decide +kernel
theorem d_SS_isSlot_6 : decode b_SS_isSlot 6 = .ok (.if_icmp .ge 7, 3) := by decide +kernel
theorem d_SS_isSlot_9 : decode b_SS_isSlot 9 = .ok (.iconst 1, 1) := by decide +kernel
theorem d_SS_isSlot_10 : decode b_SS_isSlot 10 = .ok (.goto 4, 3) := by decide +kernel
theorem d_SS_isSlot_13 : decode b_SS_isSlot 13 = .ok (.iconst 0, 1) := by decide +kernel
theorem d_SS_isSlot_14 : decode b_SS_isSlot 14 = .ok (.ireturn, 1) := by decide +kernel
theorem d_SS_isPart_0 : decode b_SS_isPart 0 = .ok (.iload_n 0, 1) := by decide +kernel
theorem d_SS_isPart_1 : decode b_SS_isPart 1 = .ok (.ifCond .lt 12, 3) := by decide +kernel
theorem d_SS_isPart_4 : decode b_SS_isPart 4 = .ok (.iload_n 0, 1) := by decide +kernel
theorem d_SS_isPart_5 : decode b_SS_isPart 5 = .ok (.iconst 4, 1) := by decide +kernel
theorem d_SS_isPart_6 : decode b_SS_isPart 6 = .ok (.if_icmp .ge 7, 3) := by decide +kernel
theorem d_SS_isPart_9 : decode b_SS_isPart 9 = .ok (.iconst 1, 1) := by decide +kernel
theorem d_SS_isPart_10 : decode b_SS_isPart 10 = .ok (.goto 4, 3) := by decide +kernel
theorem d_SS_isPart_13 : decode b_SS_isPart 13 = .ok (.iconst 0, 1) := by decide +kernel
theorem d_SS_isPart_14 : decode b_SS_isPart 14 = .ok (.ireturn, 1) := by decide +kernel
theorem d_SS_isAddress_0 : decode b_SS_isAddress 0 = .ok (.iload_n 0, 1) := by decide +kernel
theorem d_SS_isAddress_1 : decode b_SS_isAddress 1 = .ok (.ifCond .lt 14, 3) := by decide +kernel
theorem d_SS_isAddress_4 : decode b_SS_isAddress 4 = .ok (.iload_n 0, 1) := by decide +kernel
theorem d_SS_isAddress_5 : decode b_SS_isAddress 5 = .ok (.sipush 256, 3) := by decide +kernel
theorem d_SS_isAddress_8 : decode b_SS_isAddress 8 = .ok (.if_icmp .ge 7, 3) := by decide +kernel
theorem d_SS_isAddress_11 : decode b_SS_isAddress 11 = .ok (.iconst 1, 1) := by decide +kernel
theorem d_SS_isAddress_12 : decode b_SS_isAddress 12 = .ok (.goto 4, 3) := by decide +kernel
theorem d_SS_isAddress_15 : decode b_SS_isAddress 15 = .ok (.iconst 0, 1) := by decide +kernel
theorem d_SS_isAddress_16 : decode b_SS_isAddress 16 = .ok (.ireturn, 1) := by decide +kernel
theorem d_SS_isByte_0 : decode b_SS_isByte 0 = .ok (.iload_n 0, 1) := by decide +kernel
theorem d_SS_isByte_1 : decode b_SS_isByte 1 = .ok (.ifCond .lt 14, 3) := by decide +kernel
theorem d_SS_isByte_4 : decode b_SS_isByte 4 = .ok (.iload_n 0, 1) := by decide +kernel
theorem d_SS_isByte_5 : decode b_SS_isByte 5 = .ok (.sipush 255, 3) := by decide +kernel
theorem d_SS_isByte_8 : decode b_SS_isByte 8 = .ok (.if_icmp .gt 7, 3) := by decide +kernel
theorem d_SS_isByte_11 : decode b_SS_isByte 11 = .ok (.iconst 1, 1) := by decide +kernel
theorem d_SS_isByte_12 : decode b_SS_isByte 12 = .ok (.goto 4, 3) := by decide +kernel
theorem d_SS_isByte_15 : decode b_SS_isByte 15 = .ok (.iconst 0, 1) := by decide +kernel
theorem d_SS_isByte_16 : decode b_SS_isByte 16 = .ok (.ireturn, 1) := by decide +kernel
theorem d_SS_isDevice_0 : decode b_SS_isDevice 0 = .ok (.iload_n 0, 1) := by decide +kernel
theorem d_SS_isDevice_1 : decode b_SS_isDevice 1 = .ok (.iconst 3, 1) := by decide +kernel
theorem d_SS_isDevice_2 : decode b_SS_isDevice 2 = .ok (.if_icmp .ne 20, 3) := by decide +kernel
theorem d_SS_isDevice_5 : decode b_SS_isDevice 5 = .ok (.iload_n 1, 1) := by decide +kernel
theorem d_SS_isDevice_6 : decode b_SS_isDevice 6 = .ok (.iconst 1, 1) := by decide +kernel
theorem d_SS_isDevice_7 : decode b_SS_isDevice 7 = .ok (.if_icmp .lt 13, 3) := by decide +kernel
theorem d_SS_isDevice_10 : decode b_SS_isDevice 10 = .ok (.iload_n 1, 1) := by decide +kernel
theorem d_SS_isDevice_11 : decode b_SS_isDevice 11 = .ok (.bipush 8, 2) := by decide +kernel
theorem d_SS_isDevice_13 : decode b_SS_isDevice 13 = .ok (.if_icmp .gt 7, 3) := by decide +kernel
theorem d_SS_isDevice_16 : decode b_SS_isDevice 16 = .ok (.iconst 1, 1) := by decide +kernel
theorem d_SS_isDevice_17 : decode b_SS_isDevice 17 = .ok (.goto 4, 3) := by decide +kernel
theorem d_SS_isDevice_20 : decode b_SS_isDevice 20 = .ok (.iconst 0, 1) := by decide +kernel
theorem d_SS_isDevice_21 : decode b_SS_isDevice 21 = .ok (.ireturn, 1) := by decide +kernel
theorem d_SS_isDevice_22 : decode b_SS_isDevice 22 = .ok (.iload_n 0, 1) := by decide +kernel
theorem d_SS_isDevice_23 : decode b_SS_isDevice 23 = .ok (.iconst 1, 1) := by decide +kernel
theorem d_SS_isDevice_24 : decode b_SS_isDevice 24 = .ok (.if_icmp .eq 13, 3) := by decide +kernel
theorem d_SS_isDevice_27 : decode b_SS_isDevice 27 = .ok (.iload_n 0, 1) := by decide +kernel
theorem d_SS_isDevice_28 : decode b_SS_isDevice 28 = .ok (.iconst 2, 1) := by decide +kernel
theorem d_SS_isDevice_29 : decode b_SS_isDevice 29 = .ok (.if_icmp .eq 8, 3) := by decide +kernel
theorem d_SS_isDevice_32 : decode b_SS_isDevice 32 = .ok (.iload_n 0, 1) := by decide +kernel
theorem d_SS_isDevice_33 : decode b_SS_isDevice 33 = .ok (.iconst 4, 1) := by decide +kernel
theorem d_SS_isDevice_34 : decode b_SS_isDevice 34 = .ok (.if_icmp .ne 7, 3) := by decide +kernel
theorem d_SS_isDevice_37 : decode b_SS_isDevice 37 = .ok (.iconst 1, 1) := by decide +kernel
theorem d_SS_isDevice_38 : decode b_SS_isDevice 38 = .ok (.goto 4, 3) := by decide +kernel
theorem d_SS_isDevice_41 : decode b_SS_isDevice 41 = .ok (.iconst 0, 1) := by decide +kernel
theorem d_SS_isDevice_42 : decode b_SS_isDevice 42 = .ok (.ireturn, 1) := by decide +kernel
theorem d_SS_newDevice_0 : decode b_SS_newDevice 0 = .ok (.iload_n 0, 1) := by decide +kernel
theorem d_SS_newDevice_1 : decode b_SS_newDevice 1 = .ok (.tableswitch 55 1 3 #[27, 38, 46], 27) := by decide +kernel
theorem d_SS_newDevice_28 : decode b_SS_newDevice 28 = .ok (.new 151, 3) := by decide +kernel
theorem d_SS_newDevice_31 : decode b_SS_newDevice 31 = .ok (.dup, 1) := by decide +kernel
theorem d_SS_newDevice_32 : decode b_SS_newDevice 32 = .ok (.sipush 256, 3) := by decide +kernel
theorem d_SS_newDevice_35 : decode b_SS_newDevice 35 = .ok (.invokespecial 153, 3) := by decide +kernel
theorem d_SS_newDevice_38 : decode b_SS_newDevice 38 = .ok (.areturn, 1) := by decide +kernel
theorem d_SS_newDevice_39 : decode b_SS_newDevice 39 = .ok (.new 155, 3) := by decide +kernel
theorem d_SS_newDevice_42 : decode b_SS_newDevice 42 = .ok (.dup, 1) := by decide +kernel
theorem d_SS_newDevice_43 : decode b_SS_newDevice 43 = .ok (.invokespecial 157, 3) := by decide +kernel
theorem d_SS_newDevice_46 : decode b_SS_newDevice 46 = .ok (.areturn, 1) := by decide +kernel
theorem d_SS_newDevice_47 : decode b_SS_newDevice 47 = .ok (.new 158, 3) := by decide +kernel
theorem d_SS_newDevice_50 : decode b_SS_newDevice 50 = .ok (.dup, 1) := by decide +kernel
theorem d_SS_newDevice_51 : decode b_SS_newDevice 51 = .ok (.iload_n 1, 1) := by decide +kernel
theorem d_SS_newDevice_52 : decode b_SS_newDevice 52 = .ok (.invokespecial 160, 3) := by decide +kernel
theorem d_SS_newDevice_55 : decode b_SS_newDevice 55 = .ok (.areturn, 1) := by decide +kernel
theorem d_SS_newDevice_56 : decode b_SS_newDevice 56 = .ok (.new 151, 3) := by decide +kernel
theorem d_SS_newDevice_59 : decode b_SS_newDevice 59 = .ok (.dup, 1) := by decide +kernel
theorem d_SS_newDevice_60 : decode b_SS_newDevice 60 = .ok (.bipush 64, 2) := by decide +kernel
theorem d_SS_newDevice_62 : decode b_SS_newDevice 62 = .ok (.invokespecial 153, 3) := by decide +kernel
theorem d_SS_newDevice_65 : decode b_SS_newDevice 65 = .ok (.areturn, 1) := by decide +kernel
theorem d_BK_init_0 : decode b_BK_init 0 = .ok (.aload_n 0, 1) := by decide +kernel
theorem d_BK_init_1 : decode b_BK_init 1 = .ok (.invokespecial 3, 3) := by decide +kernel
theorem d_BK_init_4 : decode b_BK_init 4 = .ok (.aload_n 0, 1) := by decide +kernel
theorem d_BK_init_5 : decode b_BK_init 5 = .ok (.iconst 4, 1) := by decide +kernel
theorem d_BK_init_6 : decode b_BK_init 6 = .ok (.newarray .int, 2) := by decide +kernel
theorem d_BK_init_8 : decode b_BK_init 8 = .ok (.putfield 11, 3) := by decide +kernel
theorem d_BK_init_11 : decode b_BK_init 11 = .ok (.aload_n 0, 1) := by decide +kernel
theorem d_BK_init_12 : decode b_BK_init 12 = .ok (.iload_n 1, 1) := by decide +kernel
theorem d_BK_init_13 : decode b_BK_init 13 = .ok (.putfield 15, 3) := by decide +kernel
theorem d_BK_init_16 : decode b_BK_init 16 = .ok (.aload_n 0, 1) := by decide +kernel
theorem d_BK_init_17 : decode b_BK_init 17 = .ok (.iload_n 1, 1) := by decide +kernel
theorem d_BK_init_18 : decode b_BK_init 18 = .ok (.bipush 32, 2) := by decide +kernel
theorem d_BK_init_20 : decode b_BK_init 20 = .ok (.imul, 1) := by decide +kernel
theorem d_BK_init_21 : decode b_BK_init 21 = .ok (.newarray .int, 2) := by decide +kernel
theorem d_BK_init_23 : decode b_BK_init 23 = .ok (.putfield 19, 3) := by decide +kernel
theorem d_BK_init_26 : decode b_BK_init 26 = .ok (.iconst 0, 1) := by decide +kernel
theorem d_BK_init_27 : decode b_BK_init 27 = .ok (.istore_n 2, 1) := by decide +kernel
theorem d_BK_init_28 : decode b_BK_init 28 = .ok (.iload_n 2, 1) := by decide +kernel
theorem d_BK_init_29 : decode b_BK_init 29 = .ok (.iconst 4, 1) := by decide +kernel
theorem d_BK_init_30 : decode b_BK_init 30 = .ok (.if_icmp .ge 18, 3) := by decide +kernel
theorem d_BK_init_33 : decode b_BK_init 33 = .ok (.aload_n 0, 1) := by decide +kernel
theorem d_BK_init_34 : decode b_BK_init 34 = .ok (.getfield 11, 3) := by decide +kernel
theorem d_BK_init_37 : decode b_BK_init 37 = .ok (.iload_n 2, 1) := by decide +kernel
theorem d_BK_init_38 : decode b_BK_init 38 = .ok (.iload_n 2, 1) := by decide +kernel
theorem d_BK_init_39 : decode b_BK_init 39 = .ok (.iload_n 1, 1) := by decide +kernel
theorem d_BK_init_40 : decode b_BK_init 40 = .ok (.irem, 1) := by decide +kernel
theorem d_BK_init_41 : decode b_BK_init 41 = .ok (.iastore, 1) := by decide +kernel
theorem d_BK_init_42 : decode b_BK_init 42 = .ok (.iinc 2 1, 3) := by decide +kernel
theorem d_BK_init_45 : decode b_BK_init 45 = .ok (.goto (-17), 3) := by decide +kernel
theorem d_BK_init_48 : decode b_BK_init 48 = .ok (.return_, 1) := by decide +kernel
theorem d_BK_byteAt_0 : decode b_BK_byteAt 0 = .ok (.iload_n 1, 1) := by decide +kernel
theorem d_BK_byteAt_1 : decode b_BK_byteAt 1 = .ok (.invokestatic 22, 3) := by decide +kernel
theorem d_BK_byteAt_4 : decode b_BK_byteAt 4 = .ok (.ifCond .ne 7, 3) := by decide +kernel
theorem d_BK_byteAt_7 : decode b_BK_byteAt 7 = .ok (.sipush 255, 3) := by decide +kernel
theorem d_BK_byteAt_10 : decode b_BK_byteAt 10 = .ok (.ireturn, 1) := by decide +kernel
theorem d_BK_byteAt_11 : decode b_BK_byteAt 11 = .ok (.aload_n 0, 1) := by decide +kernel
theorem d_BK_byteAt_12 : decode b_BK_byteAt 12 = .ok (.getfield 19, 3) := by decide +kernel
theorem d_BK_byteAt_15 : decode b_BK_byteAt 15 = .ok (.aload_n 0, 1) := by decide +kernel
theorem d_BK_byteAt_16 : decode b_BK_byteAt 16 = .ok (.getfield 11, 3) := by decide +kernel
theorem d_BK_byteAt_19 : decode b_BK_byteAt 19 = .ok (.iload_n 1, 1) := by decide +kernel
theorem d_BK_byteAt_20 : decode b_BK_byteAt 20 = .ok (.invokestatic 26, 3) := by decide +kernel
theorem d_BK_byteAt_23 : decode b_BK_byteAt 23 = .ok (.iaload, 1) := by decide +kernel
theorem d_BK_byteAt_24 : decode b_BK_byteAt 24 = .ok (.bipush 32, 2) := by decide +kernel
theorem d_BK_byteAt_26 : decode b_BK_byteAt 26 = .ok (.imul, 1) := by decide +kernel
theorem d_BK_byteAt_27 : decode b_BK_byteAt 27 = .ok (.iload_n 1, 1) := by decide +kernel
theorem d_BK_byteAt_28 : decode b_BK_byteAt 28 = .ok (.bipush 32, 2) := by decide +kernel
theorem d_BK_byteAt_30 : decode b_BK_byteAt 30 = .ok (.irem, 1) := by decide +kernel
theorem d_BK_byteAt_31 : decode b_BK_byteAt 31 = .ok (.iadd, 1) := by decide +kernel
theorem d_BK_byteAt_32 : decode b_BK_byteAt 32 = .ok (.iaload, 1) := by decide +kernel
theorem d_BK_byteAt_33 : decode b_BK_byteAt 33 = .ok (.ireturn, 1) := by decide +kernel
theorem d_BK_store_0 : decode b_BK_store 0 = .ok (.iload_n 1, 1) := by decide +kernel
theorem d_BK_store_1 : decode b_BK_store 1 = .ok (.invokestatic 22, 3) := by decide +kernel
theorem d_BK_store_4 : decode b_BK_store 4 = .ok (.ifCond .eq 18, 3) := by decide +kernel
theorem d_BK_store_7 : decode b_BK_store 7 = .ok (.aload_n 0, 1) := by decide +kernel
theorem d_BK_store_8 : decode b_BK_store 8 = .ok (.getfield 11, 3) := by decide +kernel
theorem d_BK_store_11 : decode b_BK_store 11 = .ok (.iload_n 1, 1) := by decide +kernel
theorem d_BK_store_12 : decode b_BK_store 12 = .ok (.invokestatic 26, 3) := by decide +kernel
theorem d_BK_store_15 : decode b_BK_store 15 = .ok (.iload_n 2, 1) := by decide +kernel
theorem d_BK_store_16 : decode b_BK_store 16 = .ok (.aload_n 0, 1) := by decide +kernel
theorem d_BK_store_17 : decode b_BK_store 17 = .ok (.getfield 15, 3) := by decide +kernel
theorem d_BK_store_20 : decode b_BK_store 20 = .ok (.irem, 1) := by decide +kernel
theorem d_BK_store_21 : decode b_BK_store 21 = .ok (.iastore, 1) := by decide +kernel
theorem d_BK_store_22 : decode b_BK_store 22 = .ok (.return_, 1) := by decide +kernel
theorem d_BK_fix_0 : decode b_BK_fix 0 = .ok (.iload_n 1, 1) := by decide +kernel
theorem d_BK_fix_1 : decode b_BK_fix 1 = .ok (.ifCond .lt 12, 3) := by decide +kernel
theorem d_BK_fix_4 : decode b_BK_fix 4 = .ok (.iload_n 1, 1) := by decide +kernel
theorem d_BK_fix_5 : decode b_BK_fix 5 = .ok (.aload_n 0, 1) := by decide +kernel
theorem d_BK_fix_6 : decode b_BK_fix 6 = .ok (.getfield 19, 3) := by decide +kernel
theorem d_BK_fix_9 : decode b_BK_fix 9 = .ok (.arraylength, 1) := by decide +kernel
theorem d_BK_fix_10 : decode b_BK_fix 10 = .ok (.if_icmp .lt 5, 3) := by decide +kernel
theorem d_BK_fix_13 : decode b_BK_fix 13 = .ok (.iconst 0, 1) := by decide +kernel
theorem d_BK_fix_14 : decode b_BK_fix 14 = .ok (.ireturn, 1) := by decide +kernel
theorem d_BK_fix_15 : decode b_BK_fix 15 = .ok (.aload_n 0, 1) := by decide +kernel
theorem d_BK_fix_16 : decode b_BK_fix 16 = .ok (.getfield 19, 3) := by decide +kernel
theorem d_BK_fix_19 : decode b_BK_fix 19 = .ok (.iload_n 1, 1) := by decide +kernel
theorem d_BK_fix_20 : decode b_BK_fix 20 = .ok (.iload_n 2, 1) := by decide +kernel
theorem d_BK_fix_21 : decode b_BK_fix 21 = .ok (.iastore, 1) := by decide +kernel
theorem d_BK_fix_22 : decode b_BK_fix 22 = .ok (.iconst 1, 1) := by decide +kernel
theorem d_BK_fix_23 : decode b_BK_fix 23 = .ok (.ireturn, 1) := by decide +kernel
theorem d_BK_isInWindow_0 : decode b_BK_isInWindow 0 = .ok (.iload_n 0, 1) := by decide +kernel
theorem d_BK_isInWindow_1 : decode b_BK_isInWindow 1 = .ok (.bipush 64, 2) := by decide +kernel
theorem d_BK_isInWindow_3 : decode b_BK_isInWindow 3 = .ok (.if_icmp .lt 14, 3) := by decide +kernel
theorem d_BK_isInWindow_6 : decode b_BK_isInWindow 6 = .ok (.iload_n 0, 1) := by decide +kernel
theorem d_BK_isInWindow_7 : decode b_BK_isInWindow 7 = .ok (.sipush 192, 3) := by decide +kernel
theorem d_BK_isInWindow_10 : decode b_BK_isInWindow 10 = .ok (.if_icmp .ge 7, 3) := by decide +kernel
theorem d_BK_isInWindow_13 : decode b_BK_isInWindow 13 = .ok (.iconst 1, 1) := by decide +kernel
theorem d_BK_isInWindow_14 : decode b_BK_isInWindow 14 = .ok (.goto 4, 3) := by decide +kernel
theorem d_BK_isInWindow_17 : decode b_BK_isInWindow 17 = .ok (.iconst 0, 1) := by decide +kernel
theorem d_BK_isInWindow_18 : decode b_BK_isInWindow 18 = .ok (.ireturn, 1) := by decide +kernel
theorem d_BK_windowOf_0 : decode b_BK_windowOf 0 = .ok (.iload_n 0, 1) := by decide +kernel
theorem d_BK_windowOf_1 : decode b_BK_windowOf 1 = .ok (.bipush 64, 2) := by decide +kernel
theorem d_BK_windowOf_3 : decode b_BK_windowOf 3 = .ok (.isub, 1) := by decide +kernel
theorem d_BK_windowOf_4 : decode b_BK_windowOf 4 = .ok (.bipush 32, 2) := by decide +kernel
theorem d_BK_windowOf_6 : decode b_BK_windowOf 6 = .ok (.idiv, 1) := by decide +kernel
theorem d_BK_windowOf_7 : decode b_BK_windowOf 7 = .ok (.ireturn, 1) := by decide +kernel
theorem d_CH_init_0 : decode b_CH_init 0 = .ok (.aload_n 0, 1) := by decide +kernel
theorem d_CH_init_1 : decode b_CH_init 1 = .ok (.invokespecial 3, 3) := by decide +kernel
theorem d_CH_init_4 : decode b_CH_init 4 = .ok (.aload_n 0, 1) := by decide +kernel
theorem d_CH_init_5 : decode b_CH_init 5 = .ok (.sipush 512, 3) := by decide +kernel
theorem d_CH_init_8 : decode b_CH_init 8 = .ok (.newarray .int, 2) := by decide +kernel
theorem d_CH_init_10 : decode b_CH_init 10 = .ok (.putfield 11, 3) := by decide +kernel
theorem d_CH_init_13 : decode b_CH_init 13 = .ok (.aload_n 0, 1) := by decide +kernel
theorem d_CH_init_14 : decode b_CH_init 14 = .ok (.bipush 8, 2) := by decide +kernel
theorem d_CH_init_16 : decode b_CH_init 16 = .ok (.newarray .int, 2) := by decide +kernel
theorem d_CH_init_18 : decode b_CH_init 18 = .ok (.putfield 15, 3) := by decide +kernel
theorem d_CH_init_21 : decode b_CH_init 21 = .ok (.aload_n 0, 1) := by decide +kernel
theorem d_CH_init_22 : decode b_CH_init 22 = .ok (.iconst (-1), 1) := by decide +kernel
theorem d_CH_init_23 : decode b_CH_init 23 = .ok (.putfield 18, 3) := by decide +kernel
theorem d_CH_init_26 : decode b_CH_init 26 = .ok (.return_, 1) := by decide +kernel
theorem d_CH_byteAt_0 : decode b_CH_byteAt 0 = .ok (.aload_n 0, 1) := by decide +kernel
theorem d_CH_byteAt_1 : decode b_CH_byteAt 1 = .ok (.getfield 11, 3) := by decide +kernel
theorem d_CH_byteAt_4 : decode b_CH_byteAt 4 = .ok (.iload_n 1, 1) := by decide +kernel
theorem d_CH_byteAt_5 : decode b_CH_byteAt 5 = .ok (.sipush 511, 3) := by decide +kernel
theorem d_CH_byteAt_8 : decode b_CH_byteAt 8 = .ok (.iand, 1) := by decide +kernel
theorem d_CH_byteAt_9 : decode b_CH_byteAt 9 = .ok (.iaload, 1) := by decide +kernel
theorem d_CH_byteAt_10 : decode b_CH_byteAt 10 = .ok (.ireturn, 1) := by decide +kernel
theorem d_CH_register_0 : decode b_CH_register 0 = .ok (.aload_n 0, 1) := by decide +kernel
theorem d_CH_register_1 : decode b_CH_register 1 = .ok (.getfield 15, 3) := by decide +kernel
theorem d_CH_register_4 : decode b_CH_register 4 = .ok (.iload_n 1, 1) := by decide +kernel
theorem d_CH_register_5 : decode b_CH_register 5 = .ok (.bipush 7, 2) := by decide +kernel
theorem d_CH_register_7 : decode b_CH_register 7 = .ok (.iand, 1) := by decide +kernel
theorem d_CH_register_8 : decode b_CH_register 8 = .ok (.iaload, 1) := by decide +kernel
theorem d_CH_register_9 : decode b_CH_register 9 = .ok (.ireturn, 1) := by decide +kernel
theorem d_CH_value_0 : decode b_CH_value 0 = .ok (.iload_n 1, 1) := by decide +kernel
theorem d_CH_value_1 : decode b_CH_value 1 = .ok (.ifCond .lt 16, 3) := by decide +kernel
theorem d_CH_value_4 : decode b_CH_value 4 = .ok (.iload_n 1, 1) := by decide +kernel
theorem d_CH_value_5 : decode b_CH_value 5 = .ok (.bipush 8, 2) := by decide +kernel
theorem d_CH_value_7 : decode b_CH_value 7 = .ok (.if_icmp .ge 10, 3) := by decide +kernel
theorem d_CH_value_10 : decode b_CH_value 10 = .ok (.aload_n 0, 1) := by decide +kernel
theorem d_CH_value_11 : decode b_CH_value 11 = .ok (.getfield 15, 3) := by decide +kernel
theorem d_CH_value_14 : decode b_CH_value 14 = .ok (.iload_n 1, 1) := by decide +kernel
theorem d_CH_value_15 : decode b_CH_value 15 = .ok (.iaload, 1) := by decide +kernel
theorem d_CH_value_16 : decode b_CH_value 16 = .ok (.ireturn, 1) := by decide +kernel
theorem d_CH_value_17 : decode b_CH_value 17 = .ok (.iload_n 1, 1) := by decide +kernel
theorem d_CH_value_18 : decode b_CH_value 18 = .ok (.tableswitch 50 8 11 #[30, 35, 40, 45], 30) := by decide +kernel
theorem d_CH_value_48 : decode b_CH_value 48 = .ok (.aload_n 0, 1) := by decide +kernel
theorem d_CH_value_49 : decode b_CH_value 49 = .ok (.getfield 22, 3) := by decide +kernel
theorem d_CH_value_52 : decode b_CH_value 52 = .ok (.ireturn, 1) := by decide +kernel
theorem d_CH_value_53 : decode b_CH_value 53 = .ok (.aload_n 0, 1) := by decide +kernel
theorem d_CH_value_54 : decode b_CH_value 54 = .ok (.getfield 25, 3) := by decide +kernel
theorem d_CH_value_57 : decode b_CH_value 57 = .ok (.ireturn, 1) := by decide +kernel
theorem d_CH_value_58 : decode b_CH_value 58 = .ok (.aload_n 0, 1) := by decide +kernel
theorem d_CH_value_59 : decode b_CH_value 59 = .ok (.getfield 28, 3) := by decide +kernel
theorem d_CH_value_62 : decode b_CH_value 62 = .ok (.ireturn, 1) := by decide +kernel
theorem d_CH_value_63 : decode b_CH_value 63 = .ok (.aload_n 0, 1) := by decide +kernel
theorem d_CH_value_64 : decode b_CH_value 64 = .ok (.getfield 18, 3) := by decide +kernel
theorem d_CH_value_67 : decode b_CH_value 67 = .ok (.ireturn, 1) := by decide +kernel
theorem d_CH_value_68 : decode b_CH_value 68 = .ok (.iconst (-1), 1) := by decide +kernel
theorem d_CH_value_69 : decode b_CH_value 69 = .ok (.ireturn, 1) := by decide +kernel
theorem d_CH_takeData_0 : decode b_CH_takeData 0 = .ok (.aload_n 0, 1) := by decide +kernel
theorem d_CH_takeData_1 : decode b_CH_takeData 1 = .ok (.iconst (-1), 1) := by decide +kernel
theorem d_CH_takeData_2 : decode b_CH_takeData 2 = .ok (.putfield 18, 3) := by decide +kernel
theorem d_CH_takeData_5 : decode b_CH_takeData 5 = .ok (.aload_n 0, 1) := by decide +kernel
theorem d_CH_takeData_6 : decode b_CH_takeData 6 = .ok (.getfield 28, 3) := by decide +kernel
theorem d_CH_takeData_9 : decode b_CH_takeData 9 = .ok (.istore_n 1, 1) := by decide +kernel
theorem d_CH_takeData_10 : decode b_CH_takeData 10 = .ok (.aload_n 0, 1) := by decide +kernel
theorem d_CH_takeData_11 : decode b_CH_takeData 11 = .ok (.invokevirtual 31, 3) := by decide +kernel
theorem d_CH_takeData_14 : decode b_CH_takeData 14 = .ok (.iload_n 1, 1) := by decide +kernel
theorem d_CH_takeData_15 : decode b_CH_takeData 15 = .ok (.ireturn, 1) := by decide +kernel
theorem d_CH_giveData_0 : decode b_CH_giveData 0 = .ok (.aload_n 0, 1) := by decide +kernel
theorem d_CH_giveData_1 : decode b_CH_giveData 1 = .ok (.iconst (-1), 1) := by decide +kernel
theorem d_CH_giveData_2 : decode b_CH_giveData 2 = .ok (.putfield 18, 3) := by decide +kernel
theorem d_CH_giveData_5 : decode b_CH_giveData 5 = .ok (.aload_n 0, 1) := by decide +kernel
theorem d_CH_giveData_6 : decode b_CH_giveData 6 = .ok (.getfield 11, 3) := by decide +kernel
theorem d_CH_giveData_9 : decode b_CH_giveData 9 = .ok (.aload_n 0, 1) := by decide +kernel
theorem d_CH_giveData_10 : decode b_CH_giveData 10 = .ok (.getfield 25, 3) := by decide +kernel
theorem d_CH_giveData_13 : decode b_CH_giveData 13 = .ok (.iload_n 1, 1) := by decide +kernel
theorem d_CH_giveData_14 : decode b_CH_giveData 14 = .ok (.iastore, 1) := by decide +kernel
theorem d_CH_giveData_15 : decode b_CH_giveData 15 = .ok (.aload_n 0, 1) := by decide +kernel
theorem d_CH_giveData_16 : decode b_CH_giveData 16 = .ok (.invokevirtual 31, 3) := by decide +kernel
theorem d_CH_giveData_19 : decode b_CH_giveData 19 = .ok (.return_, 1) := by decide +kernel
theorem d_CH_takeStatus_0 : decode b_CH_takeStatus 0 = .ok (.aload_n 0, 1) := by decide +kernel
theorem d_CH_takeStatus_1 : decode b_CH_takeStatus 1 = .ok (.iconst (-1), 1) := by decide +kernel
theorem d_CH_takeStatus_2 : decode b_CH_takeStatus 2 = .ok (.putfield 18, 3) := by decide +kernel
theorem d_CH_takeStatus_5 : decode b_CH_takeStatus 5 = .ok (.aload_n 0, 1) := by decide +kernel
theorem d_CH_takeStatus_6 : decode b_CH_takeStatus 6 = .ok (.getfield 22, 3) := by decide +kernel
theorem d_CH_takeStatus_9 : decode b_CH_takeStatus 9 = .ok (.istore_n 1, 1) := by decide +kernel
theorem d_CH_takeStatus_10 : decode b_CH_takeStatus 10 = .ok (.aload_n 0, 1) := by decide +kernel
theorem d_CH_takeStatus_11 : decode b_CH_takeStatus 11 = .ok (.iload_n 1, 1) := by decide +kernel
theorem d_CH_takeStatus_12 : decode b_CH_takeStatus 12 = .ok (.bipush 31, 2) := by decide +kernel
theorem d_CH_takeStatus_14 : decode b_CH_takeStatus 14 = .ok (.iand, 1) := by decide +kernel
theorem d_CH_takeStatus_15 : decode b_CH_takeStatus 15 = .ok (.putfield 22, 3) := by decide +kernel
theorem d_CH_takeStatus_18 : decode b_CH_takeStatus 18 = .ok (.iload_n 1, 1) := by decide +kernel
theorem d_CH_takeStatus_19 : decode b_CH_takeStatus 19 = .ok (.ireturn, 1) := by decide +kernel
theorem d_CH_giveControl_0 : decode b_CH_giveControl 0 = .ok (.aload_n 0, 1) := by decide +kernel
theorem d_CH_giveControl_1 : decode b_CH_giveControl 1 = .ok (.getfield 18, 3) := by decide +kernel
theorem d_CH_giveControl_4 : decode b_CH_giveControl 4 = .ok (.iconst (-1), 1) := by decide +kernel
theorem d_CH_giveControl_5 : decode b_CH_giveControl 5 = .ok (.if_icmp .ne 9, 3) := by decide +kernel
theorem d_CH_giveControl_8 : decode b_CH_giveControl 8 = .ok (.aload_n 0, 1) := by decide +kernel
theorem d_CH_giveControl_9 : decode b_CH_giveControl 9 = .ok (.iload_n 1, 1) := by decide +kernel
theorem d_CH_giveControl_10 : decode b_CH_giveControl 10 = .ok (.putfield 18, 3) := by decide +kernel
theorem d_CH_giveControl_13 : decode b_CH_giveControl 13 = .ok (.return_, 1) := by decide +kernel
theorem d_CH_giveControl_14 : decode b_CH_giveControl 14 = .ok (.aload_n 0, 1) := by decide +kernel
theorem d_CH_giveControl_15 : decode b_CH_giveControl 15 = .ok (.getfield 18, 3) := by decide +kernel
theorem d_CH_giveControl_18 : decode b_CH_giveControl 18 = .ok (.istore_n 2, 1) := by decide +kernel
theorem d_CH_giveControl_19 : decode b_CH_giveControl 19 = .ok (.aload_n 0, 1) := by decide +kernel
theorem d_CH_giveControl_20 : decode b_CH_giveControl 20 = .ok (.iconst (-1), 1) := by decide +kernel
theorem d_CH_giveControl_21 : decode b_CH_giveControl 21 = .ok (.putfield 18, 3) := by decide +kernel
theorem d_CH_giveControl_24 : decode b_CH_giveControl 24 = .ok (.iload_n 1, 1) := by decide +kernel
theorem d_CH_giveControl_25 : decode b_CH_giveControl 25 = .ok (.sipush 128, 3) := by decide +kernel
theorem d_CH_giveControl_28 : decode b_CH_giveControl 28 = .ok (.if_icmp .lt 14, 3) := by decide +kernel
theorem d_CH_giveControl_31 : decode b_CH_giveControl 31 = .ok (.aload_n 0, 1) := by decide +kernel
theorem d_CH_giveControl_32 : decode b_CH_giveControl 32 = .ok (.getfield 15, 3) := by decide +kernel
theorem d_CH_giveControl_35 : decode b_CH_giveControl 35 = .ok (.iload_n 1, 1) := by decide +kernel
theorem d_CH_giveControl_36 : decode b_CH_giveControl 36 = .ok (.bipush 8, 2) := by decide +kernel
theorem d_CH_giveControl_38 : decode b_CH_giveControl 38 = .ok (.irem, 1) := by decide +kernel
theorem d_CH_giveControl_39 : decode b_CH_giveControl 39 = .ok (.iload_n 2, 1) := by decide +kernel
theorem d_CH_giveControl_40 : decode b_CH_giveControl 40 = .ok (.iastore, 1) := by decide +kernel
theorem d_CH_giveControl_41 : decode b_CH_giveControl 41 = .ok (.return_, 1) := by decide +kernel
theorem d_CH_giveControl_42 : decode b_CH_giveControl 42 = .ok (.aload_n 0, 1) := by decide +kernel
theorem d_CH_giveControl_43 : decode b_CH_giveControl 43 = .ok (.iload_n 2, 1) := by decide +kernel
theorem d_CH_giveControl_44 : decode b_CH_giveControl 44 = .ok (.sipush 256, 3) := by decide +kernel
theorem d_CH_giveControl_47 : decode b_CH_giveControl 47 = .ok (.iload_n 1, 1) := by decide +kernel
theorem d_CH_giveControl_48 : decode b_CH_giveControl 48 = .ok (.iconst 2, 1) := by decide +kernel
theorem d_CH_giveControl_49 : decode b_CH_giveControl 49 = .ok (.irem, 1) := by decide +kernel
theorem d_CH_giveControl_50 : decode b_CH_giveControl 50 = .ok (.imul, 1) := by decide +kernel
theorem d_CH_giveControl_51 : decode b_CH_giveControl 51 = .ok (.iadd, 1) := by decide +kernel
theorem d_CH_giveControl_52 : decode b_CH_giveControl 52 = .ok (.putfield 25, 3) := by decide +kernel
theorem d_CH_giveControl_55 : decode b_CH_giveControl 55 = .ok (.iload_n 1, 1) := by decide +kernel
theorem d_CH_giveControl_56 : decode b_CH_giveControl 56 = .ok (.bipush 64, 2) := by decide +kernel
theorem d_CH_giveControl_58 : decode b_CH_giveControl 58 = .ok (.if_icmp .ge 7, 3) := by decide +kernel
theorem d_CH_giveControl_61 : decode b_CH_giveControl 61 = .ok (.aload_n 0, 1) := by decide +kernel
theorem d_CH_giveControl_62 : decode b_CH_giveControl 62 = .ok (.invokevirtual 31, 3) := by decide +kernel
theorem d_CH_giveControl_65 : decode b_CH_giveControl 65 = .ok (.return_, 1) := by decide +kernel
theorem d_CH_wantsAttention_0 : decode b_CH_wantsAttention 0 = .ok (.aload_n 0, 1) := by decide +kernel
theorem d_CH_wantsAttention_1 : decode b_CH_wantsAttention 1 = .ok (.getfield 15, 3) := by decide +kernel
theorem d_CH_wantsAttention_4 : decode b_CH_wantsAttention 4 = .ok (.iconst 1, 1) := by decide +kernel
theorem d_CH_wantsAttention_5 : decode b_CH_wantsAttention 5 = .ok (.iaload, 1) := by decide +kernel
theorem d_CH_wantsAttention_6 : decode b_CH_wantsAttention 6 = .ok (.bipush 32, 2) := by decide +kernel
theorem d_CH_wantsAttention_8 : decode b_CH_wantsAttention 8 = .ok (.iand, 1) := by decide +kernel
theorem d_CH_wantsAttention_9 : decode b_CH_wantsAttention 9 = .ok (.ifCond .eq 18, 3) := by decide +kernel
theorem d_CH_wantsAttention_12 : decode b_CH_wantsAttention 12 = .ok (.aload_n 0, 1) := by decide +kernel
theorem d_CH_wantsAttention_13 : decode b_CH_wantsAttention 13 = .ok (.getfield 22, 3) := by decide +kernel
theorem d_CH_wantsAttention_16 : decode b_CH_wantsAttention 16 = .ok (.sipush 128, 3) := by decide +kernel
theorem d_CH_wantsAttention_19 : decode b_CH_wantsAttention 19 = .ok (.iand, 1) := by decide +kernel
theorem d_CH_wantsAttention_20 : decode b_CH_wantsAttention 20 = .ok (.ifCond .eq 7, 3) := by decide +kernel
theorem d_CH_wantsAttention_23 : decode b_CH_wantsAttention 23 = .ok (.iconst 1, 1) := by decide +kernel
theorem d_CH_wantsAttention_24 : decode b_CH_wantsAttention 24 = .ok (.goto 4, 3) := by decide +kernel
theorem d_CH_wantsAttention_27 : decode b_CH_wantsAttention 27 = .ok (.iconst 0, 1) := by decide +kernel
theorem d_CH_wantsAttention_28 : decode b_CH_wantsAttention 28 = .ok (.ireturn, 1) := by decide +kernel
theorem d_CH_noteFrame_0 : decode b_CH_noteFrame 0 = .ok (.aload_n 0, 1) := by decide +kernel
theorem d_CH_noteFrame_1 : decode b_CH_noteFrame 1 = .ok (.dup, 1) := by decide +kernel
theorem d_CH_noteFrame_2 : decode b_CH_noteFrame 2 = .ok (.getfield 22, 3) := by decide +kernel
theorem d_CH_noteFrame_5 : decode b_CH_noteFrame 5 = .ok (.sipush 128, 3) := by decide +kernel
theorem d_CH_noteFrame_8 : decode b_CH_noteFrame 8 = .ok (.ior, 1) := by decide +kernel
theorem d_CH_noteFrame_9 : decode b_CH_noteFrame 9 = .ok (.putfield 22, 3) := by decide +kernel
theorem d_CH_noteFrame_12 : decode b_CH_noteFrame 12 = .ok (.return_, 1) := by decide +kernel
theorem d_CH_noteTouch_0 : decode b_CH_noteTouch 0 = .ok (.aload_n 0, 1) := by decide +kernel
theorem d_CH_noteTouch_1 : decode b_CH_noteTouch 1 = .ok (.dup, 1) := by decide +kernel
theorem d_CH_noteTouch_2 : decode b_CH_noteTouch 2 = .ok (.getfield 22, 3) := by decide +kernel
theorem d_CH_noteTouch_5 : decode b_CH_noteTouch 5 = .ok (.bipush 32, 2) := by decide +kernel
theorem d_CH_noteTouch_7 : decode b_CH_noteTouch 7 = .ok (.ior, 1) := by decide +kernel
theorem d_CH_noteTouch_8 : decode b_CH_noteTouch 8 = .ok (.putfield 22, 3) := by decide +kernel
theorem d_CH_noteTouch_11 : decode b_CH_noteTouch 11 = .ok (.return_, 1) := by decide +kernel
theorem d_CH_noteFifth_0 : decode b_CH_noteFifth 0 = .ok (.aload_n 0, 1) := by decide +kernel
theorem d_CH_noteFifth_1 : decode b_CH_noteFifth 1 = .ok (.getfield 22, 3) := by decide +kernel
theorem d_CH_noteFifth_4 : decode b_CH_noteFifth 4 = .ok (.bipush 64, 2) := by decide +kernel
theorem d_CH_noteFifth_6 : decode b_CH_noteFifth 6 = .ok (.iand, 1) := by decide +kernel
theorem d_CH_noteFifth_7 : decode b_CH_noteFifth 7 = .ok (.ifCond .ne 19, 3) := by decide +kernel
theorem d_CH_noteFifth_10 : decode b_CH_noteFifth 10 = .ok (.aload_n 0, 1) := by decide +kernel
theorem d_CH_noteFifth_11 : decode b_CH_noteFifth 11 = .ok (.aload_n 0, 1) := by decide +kernel
theorem d_CH_noteFifth_12 : decode b_CH_noteFifth 12 = .ok (.getfield 22, 3) := by decide +kernel
theorem d_CH_noteFifth_15 : decode b_CH_noteFifth 15 = .ok (.bipush (-32), 2) := by decide +kernel
theorem d_CH_noteFifth_17 : decode b_CH_noteFifth 17 = .ok (.iand, 1) := by decide +kernel
theorem d_CH_noteFifth_18 : decode b_CH_noteFifth 18 = .ok (.bipush 64, 2) := by decide +kernel
theorem d_CH_noteFifth_20 : decode b_CH_noteFifth 20 = .ok (.ior, 1) := by decide +kernel
theorem d_CH_noteFifth_21 : decode b_CH_noteFifth 21 = .ok (.iload_n 1, 1) := by decide +kernel
theorem d_CH_noteFifth_22 : decode b_CH_noteFifth 22 = .ok (.ior, 1) := by decide +kernel
theorem d_CH_noteFifth_23 : decode b_CH_noteFifth 23 = .ok (.putfield 22, 3) := by decide +kernel
theorem d_CH_noteFifth_26 : decode b_CH_noteFifth 26 = .ok (.return_, 1) := by decide +kernel
theorem d_CH_makeReady_0 : decode b_CH_makeReady 0 = .ok (.aload_n 0, 1) := by decide +kernel
theorem d_CH_makeReady_1 : decode b_CH_makeReady 1 = .ok (.aload_n 0, 1) := by decide +kernel
theorem d_CH_makeReady_2 : decode b_CH_makeReady 2 = .ok (.getfield 11, 3) := by decide +kernel
theorem d_CH_makeReady_5 : decode b_CH_makeReady 5 = .ok (.aload_n 0, 1) := by decide +kernel
theorem d_CH_makeReady_6 : decode b_CH_makeReady 6 = .ok (.getfield 25, 3) := by decide +kernel
theorem d_CH_makeReady_9 : decode b_CH_makeReady 9 = .ok (.iaload, 1) := by decide +kernel
theorem d_CH_makeReady_10 : decode b_CH_makeReady 10 = .ok (.putfield 28, 3) := by decide +kernel
theorem d_CH_makeReady_13 : decode b_CH_makeReady 13 = .ok (.aload_n 0, 1) := by decide +kernel
theorem d_CH_makeReady_14 : decode b_CH_makeReady 14 = .ok (.aload_n 0, 1) := by decide +kernel
theorem d_CH_makeReady_15 : decode b_CH_makeReady 15 = .ok (.getfield 25, 3) := by decide +kernel
theorem d_CH_makeReady_18 : decode b_CH_makeReady 18 = .ok (.iconst 1, 1) := by decide +kernel
theorem d_CH_makeReady_19 : decode b_CH_makeReady 19 = .ok (.iadd, 1) := by decide +kernel
theorem d_CH_makeReady_20 : decode b_CH_makeReady 20 = .ok (.sipush 512, 3) := by decide +kernel
theorem d_CH_makeReady_23 : decode b_CH_makeReady 23 = .ok (.irem, 1) := by decide +kernel
theorem d_CH_makeReady_24 : decode b_CH_makeReady 24 = .ok (.putfield 25, 3) := by decide +kernel
theorem d_CH_makeReady_27 : decode b_CH_makeReady 27 = .ok (.return_, 1) := by decide +kernel
theorem d_DV_init_0 : decode b_DV_init 0 = .ok (.aload_n 0, 1) := by decide +kernel
theorem d_DV_init_1 : decode b_DV_init 1 = .ok (.invokespecial 1, 3) := by decide +kernel
theorem d_DV_init_4 : decode b_DV_init 4 = .ok (.return_, 1) := by decide +kernel
theorem d_DV_fix_0 : decode b_DV_fix 0 = .ok (.iconst 0, 1) := by decide +kernel
theorem d_DV_fix_1 : decode b_DV_fix 1 = .ok (.ireturn, 1) := by decide +kernel
theorem d_RA_init_0 : decode b_RA_init 0 = .ok (.aload_n 0, 1) := by decide +kernel
theorem d_RA_init_1 : decode b_RA_init 1 = .ok (.invokespecial 1, 3) := by decide +kernel
theorem d_RA_init_4 : decode b_RA_init 4 = .ok (.aload_n 0, 1) := by decide +kernel
theorem d_RA_init_5 : decode b_RA_init 5 = .ok (.iload_n 1, 1) := by decide +kernel
theorem d_RA_init_6 : decode b_RA_init 6 = .ok (.newarray .int, 2) := by decide +kernel
theorem d_RA_init_8 : decode b_RA_init 8 = .ok (.putfield 7, 3) := by decide +kernel
theorem d_RA_init_11 : decode b_RA_init 11 = .ok (.aload_n 0, 1) := by decide +kernel
theorem d_RA_init_12 : decode b_RA_init 12 = .ok (.iload_n 1, 1) := by decide +kernel
theorem d_RA_init_13 : decode b_RA_init 13 = .ok (.iconst 1, 1) := by decide +kernel
theorem d_RA_init_14 : decode b_RA_init 14 = .ok (.isub, 1) := by decide +kernel
theorem d_RA_init_15 : decode b_RA_init 15 = .ok (.putfield 13, 3) := by decide +kernel
theorem d_RA_init_18 : decode b_RA_init 18 = .ok (.return_, 1) := by decide +kernel
theorem d_RA_byteAt_0 : decode b_RA_byteAt 0 = .ok (.aload_n 0, 1) := by decide +kernel
theorem d_RA_byteAt_1 : decode b_RA_byteAt 1 = .ok (.getfield 7, 3) := by decide +kernel
theorem d_RA_byteAt_4 : decode b_RA_byteAt 4 = .ok (.iload_n 1, 1) := by decide +kernel
theorem d_RA_byteAt_5 : decode b_RA_byteAt 5 = .ok (.aload_n 0, 1) := by decide +kernel
theorem d_RA_byteAt_6 : decode b_RA_byteAt 6 = .ok (.getfield 13, 3) := by decide +kernel
theorem d_RA_byteAt_9 : decode b_RA_byteAt 9 = .ok (.iand, 1) := by decide +kernel
theorem d_RA_byteAt_10 : decode b_RA_byteAt 10 = .ok (.iaload, 1) := by decide +kernel
theorem d_RA_byteAt_11 : decode b_RA_byteAt 11 = .ok (.ireturn, 1) := by decide +kernel
theorem d_RA_store_0 : decode b_RA_store 0 = .ok (.aload_n 0, 1) := by decide +kernel
theorem d_RA_store_1 : decode b_RA_store 1 = .ok (.getfield 7, 3) := by decide +kernel
theorem d_RA_store_4 : decode b_RA_store 4 = .ok (.iload_n 1, 1) := by decide +kernel
theorem d_RA_store_5 : decode b_RA_store 5 = .ok (.aload_n 0, 1) := by decide +kernel
theorem d_RA_store_6 : decode b_RA_store 6 = .ok (.getfield 13, 3) := by decide +kernel
theorem d_RA_store_9 : decode b_RA_store 9 = .ok (.iand, 1) := by decide +kernel
theorem d_RA_store_10 : decode b_RA_store 10 = .ok (.iload_n 2, 1) := by decide +kernel
theorem d_RA_store_11 : decode b_RA_store 11 = .ok (.iastore, 1) := by decide +kernel
theorem d_RA_store_12 : decode b_RA_store 12 = .ok (.return_, 1) := by decide +kernel
theorem d_RO_init_0 : decode b_RO_init 0 = .ok (.aload_n 0, 1) := by decide +kernel
theorem d_RO_init_1 : decode b_RO_init 1 = .ok (.invokespecial 3, 3) := by decide +kernel
theorem d_RO_init_4 : decode b_RO_init 4 = .ok (.aload_n 0, 1) := by decide +kernel
theorem d_RO_init_5 : decode b_RO_init 5 = .ok (.sipush 256, 3) := by decide +kernel
theorem d_RO_init_8 : decode b_RO_init 8 = .ok (.newarray .int, 2) := by decide +kernel
theorem d_RO_init_10 : decode b_RO_init 10 = .ok (.putfield 9, 3) := by decide +kernel
theorem d_RO_init_13 : decode b_RO_init 13 = .ok (.return_, 1) := by decide +kernel
theorem d_RO_byteAt_0 : decode b_RO_byteAt 0 = .ok (.aload_n 0, 1) := by decide +kernel
theorem d_RO_byteAt_1 : decode b_RO_byteAt 1 = .ok (.getfield 9, 3) := by decide +kernel
theorem d_RO_byteAt_4 : decode b_RO_byteAt 4 = .ok (.iload_n 1, 1) := by decide +kernel
theorem d_RO_byteAt_5 : decode b_RO_byteAt 5 = .ok (.sipush 255, 3) := by decide +kernel
theorem d_RO_byteAt_8 : decode b_RO_byteAt 8 = .ok (.iand, 1) := by decide +kernel
theorem d_RO_byteAt_9 : decode b_RO_byteAt 9 = .ok (.iaload, 1) := by decide +kernel
theorem d_RO_byteAt_10 : decode b_RO_byteAt 10 = .ok (.ireturn, 1) := by decide +kernel
theorem d_RO_store_0 : decode b_RO_store 0 = .ok (.return_, 1) := by decide +kernel
theorem d_RO_fix_0 : decode b_RO_fix 0 = .ok (.iload_n 1, 1) := by decide +kernel
theorem d_RO_fix_1 : decode b_RO_fix 1 = .ok (.invokestatic 15, 3) := by decide +kernel
theorem d_RO_fix_4 : decode b_RO_fix 4 = .ok (.ifCond .ne 5, 3) := by decide +kernel
theorem d_RO_fix_7 : decode b_RO_fix 7 = .ok (.iconst 0, 1) := by decide +kernel
theorem d_RO_fix_8 : decode b_RO_fix 8 = .ok (.ireturn, 1) := by decide +kernel
theorem d_RO_fix_9 : decode b_RO_fix 9 = .ok (.aload_n 0, 1) := by decide +kernel
theorem d_RO_fix_10 : decode b_RO_fix 10 = .ok (.getfield 9, 3) := by decide +kernel
theorem d_RO_fix_13 : decode b_RO_fix 13 = .ok (.iload_n 1, 1) := by decide +kernel
theorem d_RO_fix_14 : decode b_RO_fix 14 = .ok (.iload_n 2, 1) := by decide +kernel
theorem d_RO_fix_15 : decode b_RO_fix 15 = .ok (.iastore, 1) := by decide +kernel
theorem d_RO_fix_16 : decode b_RO_fix 16 = .ok (.iconst 1, 1) := by decide +kernel
theorem d_RO_fix_17 : decode b_RO_fix 17 = .ok (.ireturn, 1) := by decide +kernel
theorem d_SC_init_0 : decode b_SC_init 0 = .ok (.aload_n 0, 1) := by decide +kernel
theorem d_SC_init_1 : decode b_SC_init 1 = .ok (.invokespecial 5, 3) := by decide +kernel
theorem d_SC_init_4 : decode b_SC_init 4 = .ok (.aload_n 0, 1) := by decide +kernel
theorem d_SC_init_5 : decode b_SC_init 5 = .ok (.sipush 2048, 3) := by decide +kernel
theorem d_SC_init_8 : decode b_SC_init 8 = .ok (.newarray .int, 2) := by decide +kernel
theorem d_SC_init_10 : decode b_SC_init 10 = .ok (.putfield 11, 3) := by decide +kernel
theorem d_SC_init_13 : decode b_SC_init 13 = .ok (.aload_n 0, 1) := by decide +kernel
theorem d_SC_init_14 : decode b_SC_init 14 = .ok (.aload_n 1, 1) := by decide +kernel
theorem d_SC_init_15 : decode b_SC_init 15 = .ok (.putfield 15, 3) := by decide +kernel
theorem d_SC_init_18 : decode b_SC_init 18 = .ok (.return_, 1) := by decide +kernel
theorem d_SC_colorAt_0 : decode b_SC_colorAt 0 = .ok (.iload_n 1, 1) := by decide +kernel
theorem d_SC_colorAt_1 : decode b_SC_colorAt 1 = .ok (.ifCond .lt 19, 3) := by decide +kernel
theorem d_SC_colorAt_4 : decode b_SC_colorAt 4 = .ok (.iload_n 1, 1) := by decide +kernel
theorem d_SC_colorAt_5 : decode b_SC_colorAt 5 = .ok (.bipush 64, 2) := by decide +kernel
theorem d_SC_colorAt_7 : decode b_SC_colorAt 7 = .ok (.if_icmp .ge 13, 3) := by decide +kernel
theorem d_SC_colorAt_10 : decode b_SC_colorAt 10 = .ok (.iload_n 2, 1) := by decide +kernel
theorem d_SC_colorAt_11 : decode b_SC_colorAt 11 = .ok (.ifCond .lt 9, 3) := by decide +kernel
theorem d_SC_colorAt_14 : decode b_SC_colorAt 14 = .ok (.iload_n 2, 1) := by decide +kernel
theorem d_SC_colorAt_15 : decode b_SC_colorAt 15 = .ok (.bipush 32, 2) := by decide +kernel
theorem d_SC_colorAt_17 : decode b_SC_colorAt 17 = .ok (.if_icmp .lt 5, 3) := by decide +kernel
theorem d_SC_colorAt_20 : decode b_SC_colorAt 20 = .ok (.iconst (-1), 1) := by decide +kernel
theorem d_SC_colorAt_21 : decode b_SC_colorAt 21 = .ok (.ireturn, 1) := by decide +kernel
theorem d_SC_colorAt_22 : decode b_SC_colorAt 22 = .ok (.aload_n 0, 1) := by decide +kernel
theorem d_SC_colorAt_23 : decode b_SC_colorAt 23 = .ok (.getfield 11, 3) := by decide +kernel
theorem d_SC_colorAt_26 : decode b_SC_colorAt 26 = .ok (.iload_n 2, 1) := by decide +kernel
theorem d_SC_colorAt_27 : decode b_SC_colorAt 27 = .ok (.bipush 64, 2) := by decide +kernel
theorem d_SC_colorAt_29 : decode b_SC_colorAt 29 = .ok (.imul, 1) := by decide +kernel
theorem d_SC_colorAt_30 : decode b_SC_colorAt 30 = .ok (.iload_n 1, 1) := by decide +kernel
theorem d_SC_colorAt_31 : decode b_SC_colorAt 31 = .ok (.iadd, 1) := by decide +kernel
theorem d_SC_colorAt_32 : decode b_SC_colorAt 32 = .ok (.iaload, 1) := by decide +kernel
theorem d_SC_colorAt_33 : decode b_SC_colorAt 33 = .ok (.ireturn, 1) := by decide +kernel
theorem d_SC_drawNextLine_0 : decode b_SC_drawNextLine 0 = .ok (.aload_n 0, 1) := by decide +kernel
theorem d_SC_drawNextLine_1 : decode b_SC_drawNextLine 1 = .ok (.getfield 19, 3) := by decide +kernel
theorem d_SC_drawNextLine_4 : decode b_SC_drawNextLine 4 = .ok (.istore_n 1, 1) := by decide +kernel
theorem d_SC_drawNextLine_5 : decode b_SC_drawNextLine 5 = .ok (.aload_n 0, 1) := by decide +kernel
theorem d_SC_drawNextLine_6 : decode b_SC_drawNextLine 6 = .ok (.getfield 15, 3) := by decide +kernel
theorem d_SC_drawNextLine_9 : decode b_SC_drawNextLine 9 = .ok (.iconst 1, 1) := by decide +kernel
theorem d_SC_drawNextLine_10 : decode b_SC_drawNextLine 10 = .ok (.invokevirtual 23, 3) := by decide +kernel
theorem d_SC_drawNextLine_13 : decode b_SC_drawNextLine 13 = .ok (.bipush 64, 2) := by decide +kernel
theorem d_SC_drawNextLine_15 : decode b_SC_drawNextLine 15 = .ok (.iand, 1) := by decide +kernel
theorem d_SC_drawNextLine_16 : decode b_SC_drawNextLine 16 = .ok (.ifCond .ne 11, 3) := by decide +kernel
theorem d_SC_drawNextLine_19 : decode b_SC_drawNextLine 19 = .ok (.aload_n 0, 1) := by decide +kernel
theorem d_SC_drawNextLine_20 : decode b_SC_drawNextLine 20 = .ok (.iload_n 1, 1) := by decide +kernel
theorem d_SC_drawNextLine_21 : decode b_SC_drawNextLine 21 = .ok (.invokevirtual 29, 3) := by decide +kernel
theorem d_SC_drawNextLine_24 : decode b_SC_drawNextLine 24 = .ok (.goto 13, 3) := by decide +kernel
theorem d_SC_drawNextLine_27 : decode b_SC_drawNextLine 27 = .ok (.aload_n 0, 1) := by decide +kernel
theorem d_SC_drawNextLine_28 : decode b_SC_drawNextLine 28 = .ok (.iload_n 1, 1) := by decide +kernel
theorem d_SC_drawNextLine_29 : decode b_SC_drawNextLine 29 = .ok (.invokevirtual 33, 3) := by decide +kernel
theorem d_SC_drawNextLine_32 : decode b_SC_drawNextLine 32 = .ok (.aload_n 0, 1) := by decide +kernel
theorem d_SC_drawNextLine_33 : decode b_SC_drawNextLine 33 = .ok (.iload_n 1, 1) := by decide +kernel
theorem d_SC_drawNextLine_34 : decode b_SC_drawNextLine 34 = .ok (.invokevirtual 36, 3) := by decide +kernel
theorem d_SC_drawNextLine_37 : decode b_SC_drawNextLine 37 = .ok (.aload_n 0, 1) := by decide +kernel
theorem d_SC_drawNextLine_38 : decode b_SC_drawNextLine 38 = .ok (.iload_n 1, 1) := by decide +kernel
theorem d_SC_drawNextLine_39 : decode b_SC_drawNextLine 39 = .ok (.iconst 1, 1) := by decide +kernel
theorem d_SC_drawNextLine_40 : decode b_SC_drawNextLine 40 = .ok (.iadd, 1) := by decide +kernel
theorem d_SC_drawNextLine_41 : decode b_SC_drawNextLine 41 = .ok (.bipush 32, 2) := by decide +kernel
theorem d_SC_drawNextLine_43 : decode b_SC_drawNextLine 43 = .ok (.irem, 1) := by decide +kernel
theorem d_SC_drawNextLine_44 : decode b_SC_drawNextLine 44 = .ok (.putfield 19, 3) := by decide +kernel
theorem d_SC_drawNextLine_47 : decode b_SC_drawNextLine 47 = .ok (.aload_n 0, 1) := by decide +kernel
theorem d_SC_drawNextLine_48 : decode b_SC_drawNextLine 48 = .ok (.getfield 19, 3) := by decide +kernel
theorem d_SC_drawNextLine_51 : decode b_SC_drawNextLine 51 = .ok (.ifCond .ne 10, 3) := by decide +kernel
theorem d_SC_drawNextLine_54 : decode b_SC_drawNextLine 54 = .ok (.aload_n 0, 1) := by decide +kernel
theorem d_SC_drawNextLine_55 : decode b_SC_drawNextLine 55 = .ok (.getfield 15, 3) := by decide +kernel
theorem d_SC_drawNextLine_58 : decode b_SC_drawNextLine 58 = .ok (.invokevirtual 39, 3) := by decide +kernel
theorem d_SC_drawNextLine_61 : decode b_SC_drawNextLine 61 = .ok (.iload_n 1, 1) := by decide +kernel
theorem d_SC_drawNextLine_62 : decode b_SC_drawNextLine 62 = .ok (.ireturn, 1) := by decide +kernel
theorem d_SC_drawBack_0 : decode b_SC_drawBack 0 = .ok (.aload_n 0, 1) := by decide +kernel
theorem d_SC_drawBack_1 : decode b_SC_drawBack 1 = .ok (.invokevirtual 42, 3) := by decide +kernel
theorem d_SC_drawBack_4 : decode b_SC_drawBack 4 = .ok (.istore_n 2, 1) := by decide +kernel
theorem d_SC_drawBack_5 : decode b_SC_drawBack 5 = .ok (.iconst 0, 1) := by decide +kernel
theorem d_SC_drawBack_6 : decode b_SC_drawBack 6 = .ok (.istore_n 3, 1) := by decide +kernel
theorem d_SC_drawBack_7 : decode b_SC_drawBack 7 = .ok (.iload_n 3, 1) := by decide +kernel
theorem d_SC_drawBack_8 : decode b_SC_drawBack 8 = .ok (.bipush 64, 2) := by decide +kernel
theorem d_SC_drawBack_10 : decode b_SC_drawBack 10 = .ok (.if_icmp .ge 21, 3) := by decide +kernel
theorem d_SC_drawBack_13 : decode b_SC_drawBack 13 = .ok (.aload_n 0, 1) := by decide +kernel
theorem d_SC_drawBack_14 : decode b_SC_drawBack 14 = .ok (.getfield 11, 3) := by decide +kernel
theorem d_SC_drawBack_17 : decode b_SC_drawBack 17 = .ok (.iload_n 1, 1) := by decide +kernel
theorem d_SC_drawBack_18 : decode b_SC_drawBack 18 = .ok (.bipush 64, 2) := by decide +kernel
theorem d_SC_drawBack_20 : decode b_SC_drawBack 20 = .ok (.imul, 1) := by decide +kernel
theorem d_SC_drawBack_21 : decode b_SC_drawBack 21 = .ok (.iload_n 3, 1) := by decide +kernel
theorem d_SC_drawBack_22 : decode b_SC_drawBack 22 = .ok (.iadd, 1) := by decide +kernel
theorem d_SC_drawBack_23 : decode b_SC_drawBack 23 = .ok (.iload_n 2, 1) := by decide +kernel
theorem d_SC_drawBack_24 : decode b_SC_drawBack 24 = .ok (.iastore, 1) := by decide +kernel
theorem d_SC_drawBack_25 : decode b_SC_drawBack 25 = .ok (.iinc 3 1, 3) := by decide +kernel
theorem d_SC_drawBack_28 : decode b_SC_drawBack 28 = .ok (.goto (-21), 3) := by decide +kernel
theorem d_SC_drawBack_31 : decode b_SC_drawBack 31 = .ok (.return_, 1) := by decide +kernel
theorem d_SC_drawTiles_0 : decode b_SC_drawTiles 0 = .ok (.bipush 32, 2) := by decide +kernel
theorem d_SC_drawTiles_2 : decode b_SC_drawTiles 2 = .ok (.aload_n 0, 1) := by decide +kernel
theorem d_SC_drawTiles_3 : decode b_SC_drawTiles 3 = .ok (.getfield 15, 3) := by decide +kernel
theorem d_SC_drawTiles_6 : decode b_SC_drawTiles 6 = .ok (.iconst 2, 1) := by decide +kernel
theorem d_SC_drawTiles_7 : decode b_SC_drawTiles 7 = .ok (.invokevirtual 23, 3) := by decide +kernel
theorem d_SC_drawTiles_10 : decode b_SC_drawTiles 10 = .ok (.bipush 16, 2) := by decide +kernel
theorem d_SC_drawTiles_12 : decode b_SC_drawTiles 12 = .ok (.irem, 1) := by decide +kernel
theorem d_SC_drawTiles_13 : decode b_SC_drawTiles 13 = .ok (.imul, 1) := by decide +kernel
theorem d_SC_drawTiles_14 : decode b_SC_drawTiles 14 = .ok (.iload_n 1, 1) := by decide +kernel
theorem d_SC_drawTiles_15 : decode b_SC_drawTiles 15 = .ok (.bipush 8, 2) := by decide +kernel
theorem d_SC_drawTiles_17 : decode b_SC_drawTiles 17 = .ok (.idiv, 1) := by decide +kernel
theorem d_SC_drawTiles_18 : decode b_SC_drawTiles 18 = .ok (.bipush 8, 2) := by decide +kernel
theorem d_SC_drawTiles_20 : decode b_SC_drawTiles 20 = .ok (.imul, 1) := by decide +kernel
theorem d_SC_drawTiles_21 : decode b_SC_drawTiles 21 = .ok (.iadd, 1) := by decide +kernel
theorem d_SC_drawTiles_22 : decode b_SC_drawTiles 22 = .ok (.istore_n 2, 1) := by decide +kernel
theorem d_SC_drawTiles_23 : decode b_SC_drawTiles 23 = .ok (.iconst 4, 1) := by decide +kernel
theorem d_SC_drawTiles_24 : decode b_SC_drawTiles 24 = .ok (.aload_n 0, 1) := by decide +kernel
theorem d_SC_drawTiles_25 : decode b_SC_drawTiles 25 = .ok (.getfield 15, 3) := by decide +kernel
theorem d_SC_drawTiles_28 : decode b_SC_drawTiles 28 = .ok (.iconst 3, 1) := by decide +kernel
theorem d_SC_drawTiles_29 : decode b_SC_drawTiles 29 = .ok (.invokevirtual 23, 3) := by decide +kernel
theorem d_SC_drawTiles_32 : decode b_SC_drawTiles 32 = .ok (.sipush 128, 3) := by decide +kernel
theorem d_SC_drawTiles_35 : decode b_SC_drawTiles 35 = .ok (.irem, 1) := by decide +kernel
theorem d_SC_drawTiles_36 : decode b_SC_drawTiles 36 = .ok (.imul, 1) := by decide +kernel
theorem d_SC_drawTiles_37 : decode b_SC_drawTiles 37 = .ok (.istore_n 3, 1) := by decide +kernel
theorem d_SC_drawTiles_38 : decode b_SC_drawTiles 38 = .ok (.sipush 256, 3) := by decide +kernel
theorem d_SC_drawTiles_41 : decode b_SC_drawTiles 41 = .ok (.aload_n 0, 1) := by decide +kernel
theorem d_SC_drawTiles_42 : decode b_SC_drawTiles 42 = .ok (.getfield 15, 3) := by decide +kernel
theorem d_SC_drawTiles_45 : decode b_SC_drawTiles 45 = .ok (.iconst 4, 1) := by decide +kernel
theorem d_SC_drawTiles_46 : decode b_SC_drawTiles 46 = .ok (.invokevirtual 23, 3) := by decide +kernel
theorem d_SC_drawTiles_49 : decode b_SC_drawTiles 49 = .ok (.iconst 2, 1) := by decide +kernel
theorem d_SC_drawTiles_50 : decode b_SC_drawTiles 50 = .ok (.irem, 1) := by decide +kernel
theorem d_SC_drawTiles_51 : decode b_SC_drawTiles 51 = .ok (.imul, 1) := by decide +kernel
theorem d_SC_drawTiles_52 : decode b_SC_drawTiles 52 = .ok (.iload_n 1, 1) := by decide +kernel
theorem d_SC_drawTiles_53 : decode b_SC_drawTiles 53 = .ok (.bipush 8, 2) := by decide +kernel
theorem d_SC_drawTiles_55 : decode b_SC_drawTiles 55 = .ok (.irem, 1) := by decide +kernel
theorem d_SC_drawTiles_56 : decode b_SC_drawTiles 56 = .ok (.iadd, 1) := by decide +kernel
theorem d_SC_drawTiles_57 : decode b_SC_drawTiles 57 = .ok (.istore 4, 2) := by decide +kernel
theorem d_SC_drawTiles_59 : decode b_SC_drawTiles 59 = .ok (.iconst 0, 1) := by decide +kernel
theorem d_SC_drawTiles_60 : decode b_SC_drawTiles 60 = .ok (.istore 5, 2) := by decide +kernel
theorem d_SC_drawTiles_62 : decode b_SC_drawTiles 62 = .ok (.iload 5, 2) := by decide +kernel
theorem d_SC_drawTiles_64 : decode b_SC_drawTiles 64 = .ok (.bipush 8, 2) := by decide +kernel
theorem d_SC_drawTiles_66 : decode b_SC_drawTiles 66 = .ok (.if_icmp .ge 76, 3) := by decide +kernel
theorem d_SC_drawTiles_69 : decode b_SC_drawTiles 69 = .ok (.aload_n 0, 1) := by decide +kernel
theorem d_SC_drawTiles_70 : decode b_SC_drawTiles 70 = .ok (.getfield 15, 3) := by decide +kernel
theorem d_SC_drawTiles_73 : decode b_SC_drawTiles 73 = .ok (.iload_n 2, 1) := by decide +kernel
theorem d_SC_drawTiles_74 : decode b_SC_drawTiles 74 = .ok (.iload 5, 2) := by decide +kernel
theorem d_SC_drawTiles_76 : decode b_SC_drawTiles 76 = .ok (.iadd, 1) := by decide +kernel
theorem d_SC_drawTiles_77 : decode b_SC_drawTiles 77 = .ok (.invokevirtual 46, 3) := by decide +kernel
theorem d_SC_drawTiles_80 : decode b_SC_drawTiles 80 = .ok (.bipush 32, 2) := by decide +kernel
theorem d_SC_drawTiles_82 : decode b_SC_drawTiles 82 = .ok (.irem, 1) := by decide +kernel
theorem d_SC_drawTiles_83 : decode b_SC_drawTiles 83 = .ok (.istore 6, 2) := by decide +kernel
theorem d_SC_drawTiles_85 : decode b_SC_drawTiles 85 = .ok (.aload_n 0, 1) := by decide +kernel
theorem d_SC_drawTiles_86 : decode b_SC_drawTiles 86 = .ok (.getfield 15, 3) := by decide +kernel
theorem d_SC_drawTiles_89 : decode b_SC_drawTiles 89 = .ok (.iload 4, 2) := by decide +kernel
theorem d_SC_drawTiles_91 : decode b_SC_drawTiles 91 = .ok (.bipush 8, 2) := by decide +kernel
theorem d_SC_drawTiles_93 : decode b_SC_drawTiles 93 = .ok (.iload 6, 2) := by decide +kernel
theorem d_SC_drawTiles_95 : decode b_SC_drawTiles 95 = .ok (.imul, 1) := by decide +kernel
theorem d_SC_drawTiles_96 : decode b_SC_drawTiles 96 = .ok (.iadd, 1) := by decide +kernel
theorem d_SC_drawTiles_97 : decode b_SC_drawTiles 97 = .ok (.invokevirtual 46, 3) := by decide +kernel
theorem d_SC_drawTiles_100 : decode b_SC_drawTiles 100 = .ok (.istore 7, 2) := by decide +kernel
theorem d_SC_drawTiles_102 : decode b_SC_drawTiles 102 = .ok (.aload_n 0, 1) := by decide +kernel
theorem d_SC_drawTiles_103 : decode b_SC_drawTiles 103 = .ok (.getfield 15, 3) := by decide +kernel
theorem d_SC_drawTiles_106 : decode b_SC_drawTiles 106 = .ok (.iload_n 3, 1) := by decide +kernel
theorem d_SC_drawTiles_107 : decode b_SC_drawTiles 107 = .ok (.iload 6, 2) := by decide +kernel
theorem d_SC_drawTiles_109 : decode b_SC_drawTiles 109 = .ok (.bipush 8, 2) := by decide +kernel
theorem d_SC_drawTiles_111 : decode b_SC_drawTiles 111 = .ok (.idiv, 1) := by decide +kernel
theorem d_SC_drawTiles_112 : decode b_SC_drawTiles 112 = .ok (.iadd, 1) := by decide +kernel
theorem d_SC_drawTiles_113 : decode b_SC_drawTiles 113 = .ok (.invokevirtual 46, 3) := by decide +kernel
theorem d_SC_drawTiles_116 : decode b_SC_drawTiles 116 = .ok (.istore 8, 2) := by decide +kernel
theorem d_SC_drawTiles_118 : decode b_SC_drawTiles 118 = .ok (.aload_n 0, 1) := by decide +kernel
theorem d_SC_drawTiles_119 : decode b_SC_drawTiles 119 = .ok (.iload_n 1, 1) := by decide +kernel
theorem d_SC_drawTiles_120 : decode b_SC_drawTiles 120 = .ok (.bipush 64, 2) := by decide +kernel
theorem d_SC_drawTiles_122 : decode b_SC_drawTiles 122 = .ok (.imul, 1) := by decide +kernel
theorem d_SC_drawTiles_123 : decode b_SC_drawTiles 123 = .ok (.iload 5, 2) := by decide +kernel
theorem d_SC_drawTiles_125 : decode b_SC_drawTiles 125 = .ok (.bipush 8, 2) := by decide +kernel
theorem d_SC_drawTiles_127 : decode b_SC_drawTiles 127 = .ok (.imul, 1) := by decide +kernel
theorem d_SC_drawTiles_128 : decode b_SC_drawTiles 128 = .ok (.iadd, 1) := by decide +kernel
theorem d_SC_drawTiles_129 : decode b_SC_drawTiles 129 = .ok (.iload 7, 2) := by decide +kernel
theorem d_SC_drawTiles_131 : decode b_SC_drawTiles 131 = .ok (.iload 8, 2) := by decide +kernel
theorem d_SC_drawTiles_133 : decode b_SC_drawTiles 133 = .ok (.invokevirtual 49, 3) := by decide +kernel
theorem d_SC_drawTiles_136 : decode b_SC_drawTiles 136 = .ok (.iinc 5 1, 3) := by decide +kernel
theorem d_SC_drawTiles_139 : decode b_SC_drawTiles 139 = .ok (.goto (-77), 3) := by decide +kernel
theorem d_SC_drawTiles_142 : decode b_SC_drawTiles 142 = .ok (.return_, 1) := by decide +kernel
theorem d_SC_drawTileRow_0 : decode b_SC_drawTileRow 0 = .ok (.aload_n 0, 1) := by decide +kernel
theorem d_SC_drawTileRow_1 : decode b_SC_drawTileRow 1 = .ok (.iload_n 3, 1) := by decide +kernel
theorem d_SC_drawTileRow_2 : decode b_SC_drawTileRow 2 = .ok (.bipush 16, 2) := by decide +kernel
theorem d_SC_drawTileRow_4 : decode b_SC_drawTileRow 4 = .ok (.idiv, 1) := by decide +kernel
theorem d_SC_drawTileRow_5 : decode b_SC_drawTileRow 5 = .ok (.invokevirtual 53, 3) := by decide +kernel
theorem d_SC_drawTileRow_8 : decode b_SC_drawTileRow 8 = .ok (.istore 4, 2) := by decide +kernel
theorem d_SC_drawTileRow_10 : decode b_SC_drawTileRow 10 = .ok (.aload_n 0, 1) := by decide +kernel
theorem d_SC_drawTileRow_11 : decode b_SC_drawTileRow 11 = .ok (.iload_n 3, 1) := by decide +kernel
theorem d_SC_drawTileRow_12 : decode b_SC_drawTileRow 12 = .ok (.bipush 16, 2) := by decide +kernel
theorem d_SC_drawTileRow_14 : decode b_SC_drawTileRow 14 = .ok (.irem, 1) := by decide +kernel
theorem d_SC_drawTileRow_15 : decode b_SC_drawTileRow 15 = .ok (.invokevirtual 53, 3) := by decide +kernel
theorem d_SC_drawTileRow_18 : decode b_SC_drawTileRow 18 = .ok (.istore 5, 2) := by decide +kernel
theorem d_SC_drawTileRow_20 : decode b_SC_drawTileRow 20 = .ok (.iconst 0, 1) := by decide +kernel
theorem d_SC_drawTileRow_21 : decode b_SC_drawTileRow 21 = .ok (.istore 6, 2) := by decide +kernel
theorem d_SC_drawTileRow_23 : decode b_SC_drawTileRow 23 = .ok (.iload 6, 2) := by decide +kernel
theorem d_SC_drawTileRow_25 : decode b_SC_drawTileRow 25 = .ok (.bipush 8, 2) := by decide +kernel
theorem d_SC_drawTileRow_27 : decode b_SC_drawTileRow 27 = .ok (.if_icmp .ge 38, 3) := by decide +kernel
theorem d_SC_drawTileRow_30 : decode b_SC_drawTileRow 30 = .ok (.aload_n 0, 1) := by decide +kernel
theorem d_SC_drawTileRow_31 : decode b_SC_drawTileRow 31 = .ok (.getfield 11, 3) := by decide +kernel
theorem d_SC_drawTileRow_34 : decode b_SC_drawTileRow 34 = .ok (.iload_n 1, 1) := by decide +kernel
theorem d_SC_drawTileRow_35 : decode b_SC_drawTileRow 35 = .ok (.iload 6, 2) := by decide +kernel
theorem d_SC_drawTileRow_37 : decode b_SC_drawTileRow 37 = .ok (.iadd, 1) := by decide +kernel
theorem d_SC_drawTileRow_38 : decode b_SC_drawTileRow 38 = .ok (.iload_n 2, 1) := by decide +kernel
theorem d_SC_drawTileRow_39 : decode b_SC_drawTileRow 39 = .ok (.bipush 7, 2) := by decide +kernel
theorem d_SC_drawTileRow_41 : decode b_SC_drawTileRow 41 = .ok (.iload 6, 2) := by decide +kernel
theorem d_SC_drawTileRow_43 : decode b_SC_drawTileRow 43 = .ok (.isub, 1) := by decide +kernel
theorem d_SC_drawTileRow_44 : decode b_SC_drawTileRow 44 = .ok (.ishr, 1) := by decide +kernel
theorem d_SC_drawTileRow_45 : decode b_SC_drawTileRow 45 = .ok (.iconst 1, 1) := by decide +kernel
theorem d_SC_drawTileRow_46 : decode b_SC_drawTileRow 46 = .ok (.iand, 1) := by decide +kernel
theorem d_SC_drawTileRow_47 : decode b_SC_drawTileRow 47 = .ok (.iconst 1, 1) := by decide +kernel
theorem d_SC_drawTileRow_48 : decode b_SC_drawTileRow 48 = .ok (.if_icmp .ne 8, 3) := by decide +kernel
theorem d_SC_drawTileRow_51 : decode b_SC_drawTileRow 51 = .ok (.iload 4, 2) := by decide +kernel
theorem d_SC_drawTileRow_53 : decode b_SC_drawTileRow 53 = .ok (.goto 5, 3) := by decide +kernel
theorem d_SC_drawTileRow_56 : decode b_SC_drawTileRow 56 = .ok (.iload 5, 2) := by decide +kernel
theorem d_SC_drawTileRow_58 : decode b_SC_drawTileRow 58 = .ok (.iastore, 1) := by decide +kernel
theorem d_SC_drawTileRow_59 : decode b_SC_drawTileRow 59 = .ok (.iinc 6 1, 3) := by decide +kernel
theorem d_SC_drawTileRow_62 : decode b_SC_drawTileRow 62 = .ok (.goto (-39), 3) := by decide +kernel
theorem d_SC_drawTileRow_65 : decode b_SC_drawTileRow 65 = .ok (.return_, 1) := by decide +kernel
theorem d_SC_backColor_0 : decode b_SC_backColor 0 = .ok (.aload_n 0, 1) := by decide +kernel
theorem d_SC_backColor_1 : decode b_SC_backColor 1 = .ok (.getfield 15, 3) := by decide +kernel
theorem d_SC_backColor_4 : decode b_SC_backColor 4 = .ok (.bipush 7, 2) := by decide +kernel
theorem d_SC_backColor_6 : decode b_SC_backColor 6 = .ok (.invokevirtual 23, 3) := by decide +kernel
theorem d_SC_backColor_9 : decode b_SC_backColor 9 = .ok (.bipush 16, 2) := by decide +kernel
theorem d_SC_backColor_11 : decode b_SC_backColor 11 = .ok (.irem, 1) := by decide +kernel
theorem d_SC_backColor_12 : decode b_SC_backColor 12 = .ok (.ireturn, 1) := by decide +kernel
theorem d_SC_orBack_0 : decode b_SC_orBack 0 = .ok (.iload_n 1, 1) := by decide +kernel
theorem d_SC_orBack_1 : decode b_SC_orBack 1 = .ok (.ifCond .ne 10, 3) := by decide +kernel
theorem d_SC_orBack_4 : decode b_SC_orBack 4 = .ok (.aload_n 0, 1) := by decide +kernel
theorem d_SC_orBack_5 : decode b_SC_orBack 5 = .ok (.invokevirtual 42, 3) := by decide +kernel
theorem d_SC_orBack_8 : decode b_SC_orBack 8 = .ok (.goto 4, 3) := by decide +kernel
theorem d_SC_orBack_11 : decode b_SC_orBack 11 = .ok (.iload_n 1, 1) := by decide +kernel
theorem d_SC_orBack_12 : decode b_SC_orBack 12 = .ok (.ireturn, 1) := by decide +kernel
theorem d_SC_drawSprites_0 : decode b_SC_drawSprites 0 = .ok (.aload_n 0, 1) := by decide +kernel
theorem d_SC_drawSprites_1 : decode b_SC_drawSprites 1 = .ok (.lconst 0, 1) := by decide +kernel
theorem d_SC_drawSprites_2 : decode b_SC_drawSprites 2 = .ok (.putfield 56, 3) := by decide +kernel
theorem d_SC_drawSprites_5 : decode b_SC_drawSprites 5 = .ok (.aload_n 0, 1) := by decide +kernel
theorem d_SC_drawSprites_6 : decode b_SC_drawSprites 6 = .ok (.lconst 0, 1) := by decide +kernel
theorem d_SC_drawSprites_7 : decode b_SC_drawSprites 7 = .ok (.putfield 60, 3) := by decide +kernel
theorem d_SC_drawSprites_10 : decode b_SC_drawSprites 10 = .ok (.bipush 32, 2) := by decide +kernel
theorem d_SC_drawSprites_12 : decode b_SC_drawSprites 12 = .ok (.aload_n 0, 1) := by decide +kernel
theorem d_SC_drawSprites_13 : decode b_SC_drawSprites 13 = .ok (.getfield 15, 3) := by decide +kernel
theorem d_SC_drawSprites_16 : decode b_SC_drawSprites 16 = .ok (.iconst 5, 1) := by decide +kernel
theorem d_SC_drawSprites_17 : decode b_SC_drawSprites 17 = .ok (.invokevirtual 23, 3) := by decide +kernel
theorem d_SC_drawSprites_20 : decode b_SC_drawSprites 20 = .ok (.bipush 16, 2) := by decide +kernel
theorem d_SC_drawSprites_22 : decode b_SC_drawSprites 22 = .ok (.irem, 1) := by decide +kernel
theorem d_SC_drawSprites_23 : decode b_SC_drawSprites 23 = .ok (.imul, 1) := by decide +kernel
theorem d_SC_drawSprites_24 : decode b_SC_drawSprites 24 = .ok (.istore_n 2, 1) := by decide +kernel
theorem d_SC_drawSprites_25 : decode b_SC_drawSprites 25 = .ok (.aload_n 0, 1) := by decide +kernel
theorem d_SC_drawSprites_26 : decode b_SC_drawSprites 26 = .ok (.invokevirtual 63, 3) := by decide +kernel
theorem d_SC_drawSprites_29 : decode b_SC_drawSprites 29 = .ok (.aload_n 0, 1) := by decide +kernel
theorem d_SC_drawSprites_30 : decode b_SC_drawSprites 30 = .ok (.invokevirtual 66, 3) := by decide +kernel
theorem d_SC_drawSprites_33 : decode b_SC_drawSprites 33 = .ok (.imul, 1) := by decide +kernel
theorem d_SC_drawSprites_34 : decode b_SC_drawSprites 34 = .ok (.istore_n 3, 1) := by decide +kernel
theorem d_SC_drawSprites_35 : decode b_SC_drawSprites 35 = .ok (.iconst 0, 1) := by decide +kernel
theorem d_SC_drawSprites_36 : decode b_SC_drawSprites 36 = .ok (.istore 4, 2) := by decide +kernel
theorem d_SC_drawSprites_38 : decode b_SC_drawSprites 38 = .ok (.iconst 0, 1) := by decide +kernel
theorem d_SC_drawSprites_39 : decode b_SC_drawSprites 39 = .ok (.istore 5, 2) := by decide +kernel
theorem d_SC_drawSprites_41 : decode b_SC_drawSprites 41 = .ok (.iload 5, 2) := by decide +kernel
theorem d_SC_drawSprites_43 : decode b_SC_drawSprites 43 = .ok (.bipush 8, 2) := by decide +kernel
theorem d_SC_drawSprites_45 : decode b_SC_drawSprites 45 = .ok (.if_icmp .ge 93, 3) := by decide +kernel
theorem d_SC_drawSprites_48 : decode b_SC_drawSprites 48 = .ok (.iload_n 2, 1) := by decide +kernel
theorem d_SC_drawSprites_49 : decode b_SC_drawSprites 49 = .ok (.iconst 4, 1) := by decide +kernel
theorem d_SC_drawSprites_50 : decode b_SC_drawSprites 50 = .ok (.iload 5, 2) := by decide +kernel
theorem d_SC_drawSprites_52 : decode b_SC_drawSprites 52 = .ok (.imul, 1) := by decide +kernel
theorem d_SC_drawSprites_53 : decode b_SC_drawSprites 53 = .ok (.iadd, 1) := by decide +kernel
theorem d_SC_drawSprites_54 : decode b_SC_drawSprites 54 = .ok (.istore 6, 2) := by decide +kernel
theorem d_SC_drawSprites_56 : decode b_SC_drawSprites 56 = .ok (.aload_n 0, 1) := by decide +kernel
theorem d_SC_drawSprites_57 : decode b_SC_drawSprites 57 = .ok (.getfield 15, 3) := by decide +kernel
theorem d_SC_drawSprites_60 : decode b_SC_drawSprites 60 = .ok (.iload 6, 2) := by decide +kernel
theorem d_SC_drawSprites_62 : decode b_SC_drawSprites 62 = .ok (.invokevirtual 46, 3) := by decide +kernel
theorem d_SC_drawSprites_65 : decode b_SC_drawSprites 65 = .ok (.istore 7, 2) := by decide +kernel
theorem d_SC_drawSprites_67 : decode b_SC_drawSprites 67 = .ok (.iload 7, 2) := by decide +kernel
theorem d_SC_drawSprites_69 : decode b_SC_drawSprites 69 = .ok (.sipush 208, 3) := by decide +kernel
theorem d_SC_drawSprites_72 : decode b_SC_drawSprites 72 = .ok (.if_icmp .ne 4, 3) := by decide +kernel
theorem d_SC_drawSprites_75 : decode b_SC_drawSprites 75 = .ok (.return_, 1) := by decide +kernel
theorem d_SC_drawSprites_76 : decode b_SC_drawSprites 76 = .ok (.iload_n 1, 1) := by decide +kernel
theorem d_SC_drawSprites_77 : decode b_SC_drawSprites 77 = .ok (.iload 7, 2) := by decide +kernel
theorem d_SC_drawSprites_79 : decode b_SC_drawSprites 79 = .ok (.invokestatic 69, 3) := by decide +kernel
theorem d_SC_drawSprites_82 : decode b_SC_drawSprites 82 = .ok (.isub, 1) := by decide +kernel
theorem d_SC_drawSprites_83 : decode b_SC_drawSprites 83 = .ok (.istore 8, 2) := by decide +kernel
theorem d_SC_drawSprites_85 : decode b_SC_drawSprites 85 = .ok (.iload 8, 2) := by decide +kernel
theorem d_SC_drawSprites_87 : decode b_SC_drawSprites 87 = .ok (.ifCond .lt 45, 3) := by decide +kernel
theorem d_SC_drawSprites_90 : decode b_SC_drawSprites 90 = .ok (.iload 8, 2) := by decide +kernel
theorem d_SC_drawSprites_92 : decode b_SC_drawSprites 92 = .ok (.iload_n 3, 1) := by decide +kernel
theorem d_SC_drawSprites_93 : decode b_SC_drawSprites 93 = .ok (.if_icmp .lt 6, 3) := by decide +kernel
theorem d_SC_drawSprites_96 : decode b_SC_drawSprites 96 = .ok (.goto 36, 3) := by decide +kernel
theorem d_SC_drawSprites_99 : decode b_SC_drawSprites 99 = .ok (.iload 4, 2) := by decide +kernel
theorem d_SC_drawSprites_101 : decode b_SC_drawSprites 101 = .ok (.iconst 4, 1) := by decide +kernel
theorem d_SC_drawSprites_102 : decode b_SC_drawSprites 102 = .ok (.if_icmp .ne 13, 3) := by decide +kernel
theorem d_SC_drawSprites_105 : decode b_SC_drawSprites 105 = .ok (.aload_n 0, 1) := by decide +kernel
theorem d_SC_drawSprites_106 : decode b_SC_drawSprites 106 = .ok (.getfield 15, 3) := by decide +kernel
theorem d_SC_drawSprites_109 : decode b_SC_drawSprites 109 = .ok (.iload 5, 2) := by decide +kernel
theorem d_SC_drawSprites_111 : decode b_SC_drawSprites 111 = .ok (.invokevirtual 72, 3) := by decide +kernel
theorem d_SC_drawSprites_114 : decode b_SC_drawSprites 114 = .ok (.return_, 1) := by decide +kernel
theorem d_SC_drawSprites_115 : decode b_SC_drawSprites 115 = .ok (.iinc 4 1, 3) := by decide +kernel
theorem d_SC_drawSprites_118 : decode b_SC_drawSprites 118 = .ok (.aload_n 0, 1) := by decide +kernel
theorem d_SC_drawSprites_119 : decode b_SC_drawSprites 119 = .ok (.iload_n 1, 1) := by decide +kernel
theorem d_SC_drawSprites_120 : decode b_SC_drawSprites 120 = .ok (.iload 6, 2) := by decide +kernel
theorem d_SC_drawSprites_122 : decode b_SC_drawSprites 122 = .ok (.iload 8, 2) := by decide +kernel
theorem d_SC_drawSprites_124 : decode b_SC_drawSprites 124 = .ok (.aload_n 0, 1) := by decide +kernel
theorem d_SC_drawSprites_125 : decode b_SC_drawSprites 125 = .ok (.invokevirtual 66, 3) := by decide +kernel
theorem d_SC_drawSprites_128 : decode b_SC_drawSprites 128 = .ok (.idiv, 1) := by decide +kernel
theorem d_SC_drawSprites_129 : decode b_SC_drawSprites 129 = .ok (.invokevirtual 75, 3) := by decide +kernel
theorem d_SC_drawSprites_132 : decode b_SC_drawSprites 132 = .ok (.iinc 5 1, 3) := by decide +kernel
theorem d_SC_drawSprites_135 : decode b_SC_drawSprites 135 = .ok (.goto (-94), 3) := by decide +kernel
theorem d_SC_drawSprites_138 : decode b_SC_drawSprites 138 = .ok (.return_, 1) := by decide +kernel
theorem d_SC_topLine_0 : decode b_SC_topLine 0 = .ok (.iload_n 0, 1) := by decide +kernel
theorem d_SC_topLine_1 : decode b_SC_topLine 1 = .ok (.sipush 224, 3) := by decide +kernel
theorem d_SC_topLine_4 : decode b_SC_topLine 4 = .ok (.if_icmp .ge 9, 3) := by decide +kernel
theorem d_SC_topLine_7 : decode b_SC_topLine 7 = .ok (.iload_n 0, 1) := by decide +kernel
theorem d_SC_topLine_8 : decode b_SC_topLine 8 = .ok (.iconst 1, 1) := by decide +kernel
theorem d_SC_topLine_9 : decode b_SC_topLine 9 = .ok (.iadd, 1) := by decide +kernel
theorem d_SC_topLine_10 : decode b_SC_topLine 10 = .ok (.goto 8, 3) := by decide +kernel
theorem d_SC_topLine_13 : decode b_SC_topLine 13 = .ok (.iload_n 0, 1) := by decide +kernel
theorem d_SC_topLine_14 : decode b_SC_topLine 14 = .ok (.sipush 255, 3) := by decide +kernel
theorem d_SC_topLine_17 : decode b_SC_topLine 17 = .ok (.isub, 1) := by decide +kernel
theorem d_SC_topLine_18 : decode b_SC_topLine 18 = .ok (.ireturn, 1) := by decide +kernel
theorem d_SC_spriteSide_0 : decode b_SC_spriteSide 0 = .ok (.aload_n 0, 1) := by decide +kernel
theorem d_SC_spriteSide_1 : decode b_SC_spriteSide 1 = .ok (.getfield 15, 3) := by decide +kernel
theorem d_SC_spriteSide_4 : decode b_SC_spriteSide 4 = .ok (.iconst 1, 1) := by decide +kernel
theorem d_SC_spriteSide_5 : decode b_SC_spriteSide 5 = .ok (.invokevirtual 23, 3) := by decide +kernel
theorem d_SC_spriteSide_8 : decode b_SC_spriteSide 8 = .ok (.iconst 2, 1) := by decide +kernel
theorem d_SC_spriteSide_9 : decode b_SC_spriteSide 9 = .ok (.iand, 1) := by decide +kernel
theorem d_SC_spriteSide_10 : decode b_SC_spriteSide 10 = .ok (.ifCond .ne 8, 3) := by decide +kernel
theorem d_SC_spriteSide_13 : decode b_SC_spriteSide 13 = .ok (.bipush 8, 2) := by decide +kernel
theorem d_SC_spriteSide_15 : decode b_SC_spriteSide 15 = .ok (.goto 5, 3) := by decide +kernel
theorem d_SC_spriteSide_18 : decode b_SC_spriteSide 18 = .ok (.bipush 16, 2) := by decide +kernel
theorem d_SC_spriteSide_20 : decode b_SC_spriteSide 20 = .ok (.ireturn, 1) := by decide +kernel
theorem d_SC_spriteZoom_0 : decode b_SC_spriteZoom 0 = .ok (.aload_n 0, 1) := by decide +kernel
theorem d_SC_spriteZoom_1 : decode b_SC_spriteZoom 1 = .ok (.getfield 15, 3) := by decide +kernel
theorem d_SC_spriteZoom_4 : decode b_SC_spriteZoom 4 = .ok (.iconst 1, 1) := by decide +kernel
theorem d_SC_spriteZoom_5 : decode b_SC_spriteZoom 5 = .ok (.invokevirtual 23, 3) := by decide +kernel
theorem d_SC_spriteZoom_8 : decode b_SC_spriteZoom 8 = .ok (.iconst 1, 1) := by decide +kernel
theorem d_SC_spriteZoom_9 : decode b_SC_spriteZoom 9 = .ok (.iand, 1) := by decide +kernel
theorem d_SC_spriteZoom_10 : decode b_SC_spriteZoom 10 = .ok (.ifCond .ne 7, 3) := by decide +kernel
theorem d_SC_spriteZoom_13 : decode b_SC_spriteZoom 13 = .ok (.iconst 1, 1) := by decide +kernel
theorem d_SC_spriteZoom_14 : decode b_SC_spriteZoom 14 = .ok (.goto 4, 3) := by decide +kernel
theorem d_SC_spriteZoom_17 : decode b_SC_spriteZoom 17 = .ok (.iconst 2, 1) := by decide +kernel
theorem d_SC_spriteZoom_18 : decode b_SC_spriteZoom 18 = .ok (.ireturn, 1) := by decide +kernel
theorem d_SC_drawSpriteRow_0 : decode b_SC_drawSpriteRow 0 = .ok (.aload_n 0, 1) := by decide +kernel
theorem d_SC_drawSpriteRow_1 : decode b_SC_drawSpriteRow 1 = .ok (.getfield 15, 3) := by decide +kernel
theorem d_SC_drawSpriteRow_4 : decode b_SC_drawSpriteRow 4 = .ok (.iload_n 2, 1) := by decide +kernel
theorem d_SC_drawSpriteRow_5 : decode b_SC_drawSpriteRow 5 = .ok (.iconst 3, 1) := by decide +kernel
theorem d_SC_drawSpriteRow_6 : decode b_SC_drawSpriteRow 6 = .ok (.iadd, 1) := by decide +kernel
theorem d_SC_drawSpriteRow_7 : decode b_SC_drawSpriteRow 7 = .ok (.invokevirtual 46, 3) := by decide +kernel
theorem d_SC_drawSpriteRow_10 : decode b_SC_drawSpriteRow 10 = .ok (.istore 4, 2) := by decide +kernel
theorem d_SC_drawSpriteRow_12 : decode b_SC_drawSpriteRow 12 = .ok (.aload_n 0, 1) := by decide +kernel
theorem d_SC_drawSpriteRow_13 : decode b_SC_drawSpriteRow 13 = .ok (.getfield 15, 3) := by decide +kernel
theorem d_SC_drawSpriteRow_16 : decode b_SC_drawSpriteRow 16 = .ok (.iload_n 2, 1) := by decide +kernel
theorem d_SC_drawSpriteRow_17 : decode b_SC_drawSpriteRow 17 = .ok (.iconst 1, 1) := by decide +kernel
theorem d_SC_drawSpriteRow_18 : decode b_SC_drawSpriteRow 18 = .ok (.iadd, 1) := by decide +kernel
theorem d_SC_drawSpriteRow_19 : decode b_SC_drawSpriteRow 19 = .ok (.invokevirtual 46, 3) := by decide +kernel
theorem d_SC_drawSpriteRow_22 : decode b_SC_drawSpriteRow 22 = .ok (.iload 4, 2) := by decide +kernel
theorem d_SC_drawSpriteRow_24 : decode b_SC_drawSpriteRow 24 = .ok (.sipush 128, 3) := by decide +kernel
theorem d_SC_drawSpriteRow_27 : decode b_SC_drawSpriteRow 27 = .ok (.if_icmp .lt 8, 3) := by decide +kernel
theorem d_SC_drawSpriteRow_30 : decode b_SC_drawSpriteRow 30 = .ok (.bipush 32, 2) := by decide +kernel
theorem d_SC_drawSpriteRow_32 : decode b_SC_drawSpriteRow 32 = .ok (.goto 4, 3) := by decide +kernel
theorem d_SC_drawSpriteRow_35 : decode b_SC_drawSpriteRow 35 = .ok (.iconst 0, 1) := by decide +kernel
theorem d_SC_drawSpriteRow_36 : decode b_SC_drawSpriteRow 36 = .ok (.isub, 1) := by decide +kernel
theorem d_SC_drawSpriteRow_37 : decode b_SC_drawSpriteRow 37 = .ok (.istore 5, 2) := by decide +kernel
theorem d_SC_drawSpriteRow_39 : decode b_SC_drawSpriteRow 39 = .ok (.aload_n 0, 1) := by decide +kernel
theorem d_SC_drawSpriteRow_40 : decode b_SC_drawSpriteRow 40 = .ok (.aload_n 0, 1) := by decide +kernel
theorem d_SC_drawSpriteRow_41 : decode b_SC_drawSpriteRow 41 = .ok (.getfield 15, 3) := by decide +kernel
theorem d_SC_drawSpriteRow_44 : decode b_SC_drawSpriteRow 44 = .ok (.iload_n 2, 1) := by decide +kernel
theorem d_SC_drawSpriteRow_45 : decode b_SC_drawSpriteRow 45 = .ok (.iconst 2, 1) := by decide +kernel
theorem d_SC_drawSpriteRow_46 : decode b_SC_drawSpriteRow 46 = .ok (.iadd, 1) := by decide +kernel
theorem d_SC_drawSpriteRow_47 : decode b_SC_drawSpriteRow 47 = .ok (.invokevirtual 46, 3) := by decide +kernel
theorem d_SC_drawSpriteRow_50 : decode b_SC_drawSpriteRow 50 = .ok (.bipush 16, 2) := by decide +kernel
theorem d_SC_drawSpriteRow_52 : decode b_SC_drawSpriteRow 52 = .ok (.irem, 1) := by decide +kernel
theorem d_SC_drawSpriteRow_53 : decode b_SC_drawSpriteRow 53 = .ok (.iload_n 3, 1) := by decide +kernel
theorem d_SC_drawSpriteRow_54 : decode b_SC_drawSpriteRow 54 = .ok (.invokevirtual 78, 3) := by decide +kernel
theorem d_SC_drawSpriteRow_57 : decode b_SC_drawSpriteRow 57 = .ok (.istore 6, 2) := by decide +kernel
theorem d_SC_drawSpriteRow_59 : decode b_SC_drawSpriteRow 59 = .ok (.aload_n 0, 1) := by decide +kernel
theorem d_SC_drawSpriteRow_60 : decode b_SC_drawSpriteRow 60 = .ok (.invokevirtual 63, 3) := by decide +kernel
theorem d_SC_drawSpriteRow_63 : decode b_SC_drawSpriteRow 63 = .ok (.istore 7, 2) := by decide +kernel
theorem d_SC_drawSpriteRow_65 : decode b_SC_drawSpriteRow 65 = .ok (.aload_n 0, 1) := by decide +kernel
theorem d_SC_drawSpriteRow_66 : decode b_SC_drawSpriteRow 66 = .ok (.invokevirtual 66, 3) := by decide +kernel
theorem d_SC_drawSpriteRow_69 : decode b_SC_drawSpriteRow 69 = .ok (.istore 8, 2) := by decide +kernel
theorem d_SC_drawSpriteRow_71 : decode b_SC_drawSpriteRow 71 = .ok (.iconst 0, 1) := by decide +kernel
theorem d_SC_drawSpriteRow_72 : decode b_SC_drawSpriteRow 72 = .ok (.istore 9, 2) := by decide +kernel
theorem d_SC_drawSpriteRow_74 : decode b_SC_drawSpriteRow 74 = .ok (.iload 9, 2) := by decide +kernel
theorem d_SC_drawSpriteRow_76 : decode b_SC_drawSpriteRow 76 = .ok (.iload 7, 2) := by decide +kernel
theorem d_SC_drawSpriteRow_78 : decode b_SC_drawSpriteRow 78 = .ok (.iload 8, 2) := by decide +kernel
theorem d_SC_drawSpriteRow_80 : decode b_SC_drawSpriteRow 80 = .ok (.imul, 1) := by decide +kernel
theorem d_SC_drawSpriteRow_81 : decode b_SC_drawSpriteRow 81 = .ok (.if_icmp .ge 59, 3) := by decide +kernel
theorem d_SC_drawSpriteRow_84 : decode b_SC_drawSpriteRow 84 = .ok (.iload 5, 2) := by decide +kernel
theorem d_SC_drawSpriteRow_86 : decode b_SC_drawSpriteRow 86 = .ok (.iload 9, 2) := by decide +kernel
theorem d_SC_drawSpriteRow_88 : decode b_SC_drawSpriteRow 88 = .ok (.iadd, 1) := by decide +kernel
theorem d_SC_drawSpriteRow_89 : decode b_SC_drawSpriteRow 89 = .ok (.istore 10, 2) := by decide +kernel
theorem d_SC_drawSpriteRow_91 : decode b_SC_drawSpriteRow 91 = .ok (.iload 10, 2) := by decide +kernel
theorem d_SC_drawSpriteRow_93 : decode b_SC_drawSpriteRow 93 = .ok (.ifCond .lt 41, 3) := by decide +kernel
theorem d_SC_drawSpriteRow_96 : decode b_SC_drawSpriteRow 96 = .ok (.iload 10, 2) := by decide +kernel
theorem d_SC_drawSpriteRow_98 : decode b_SC_drawSpriteRow 98 = .ok (.bipush 64, 2) := by decide +kernel
theorem d_SC_drawSpriteRow_100 : decode b_SC_drawSpriteRow 100 = .ok (.if_icmp .ge 34, 3) := by decide +kernel
theorem d_SC_drawSpriteRow_103 : decode b_SC_drawSpriteRow 103 = .ok (.iload 6, 2) := by decide +kernel
theorem d_SC_drawSpriteRow_105 : decode b_SC_drawSpriteRow 105 = .ok (.iload 7, 2) := by decide +kernel
theorem d_SC_drawSpriteRow_107 : decode b_SC_drawSpriteRow 107 = .ok (.iconst 1, 1) := by decide +kernel
theorem d_SC_drawSpriteRow_108 : decode b_SC_drawSpriteRow 108 = .ok (.isub, 1) := by decide +kernel
theorem d_SC_drawSpriteRow_109 : decode b_SC_drawSpriteRow 109 = .ok (.iload 9, 2) := by decide +kernel
theorem d_SC_drawSpriteRow_111 : decode b_SC_drawSpriteRow 111 = .ok (.iload 8, 2) := by decide +kernel
theorem d_SC_drawSpriteRow_113 : decode b_SC_drawSpriteRow 113 = .ok (.idiv, 1) := by decide +kernel
theorem d_SC_drawSpriteRow_114 : decode b_SC_drawSpriteRow 114 = .ok (.isub, 1) := by decide +kernel
theorem d_SC_drawSpriteRow_115 : decode b_SC_drawSpriteRow 115 = .ok (.ishr, 1) := by decide +kernel
theorem d_SC_drawSpriteRow_116 : decode b_SC_drawSpriteRow 116 = .ok (.iconst 1, 1) := by decide +kernel
theorem d_SC_drawSpriteRow_117 : decode b_SC_drawSpriteRow 117 = .ok (.iand, 1) := by decide +kernel
theorem d_SC_drawSpriteRow_118 : decode b_SC_drawSpriteRow 118 = .ok (.iconst 1, 1) := by decide +kernel
theorem d_SC_drawSpriteRow_119 : decode b_SC_drawSpriteRow 119 = .ok (.if_icmp .ne 15, 3) := by decide +kernel
theorem d_SC_drawSpriteRow_122 : decode b_SC_drawSpriteRow 122 = .ok (.aload_n 0, 1) := by decide +kernel
theorem d_SC_drawSpriteRow_123 : decode b_SC_drawSpriteRow 123 = .ok (.iload_n 1, 1) := by decide +kernel
theorem d_SC_drawSpriteRow_124 : decode b_SC_drawSpriteRow 124 = .ok (.iload 10, 2) := by decide +kernel
theorem d_SC_drawSpriteRow_126 : decode b_SC_drawSpriteRow 126 = .ok (.iload 4, 2) := by decide +kernel
theorem d_SC_drawSpriteRow_128 : decode b_SC_drawSpriteRow 128 = .ok (.bipush 16, 2) := by decide +kernel
theorem d_SC_drawSpriteRow_130 : decode b_SC_drawSpriteRow 130 = .ok (.irem, 1) := by decide +kernel
theorem d_SC_drawSpriteRow_131 : decode b_SC_drawSpriteRow 131 = .ok (.invokevirtual 82, 3) := by decide +kernel
theorem d_SC_drawSpriteRow_134 : decode b_SC_drawSpriteRow 134 = .ok (.iinc 9 1, 3) := by decide +kernel
theorem d_SC_drawSpriteRow_137 : decode b_SC_drawSpriteRow 137 = .ok (.goto (-63), 3) := by decide +kernel
theorem d_SC_drawSpriteRow_140 : decode b_SC_drawSpriteRow 140 = .ok (.return_, 1) := by decide +kernel
theorem d_SC_spriteBits_0 : decode b_SC_spriteBits 0 = .ok (.sipush 128, 3) := by decide +kernel
theorem d_SC_spriteBits_3 : decode b_SC_spriteBits 3 = .ok (.aload_n 0, 1) := by decide +kernel
theorem d_SC_spriteBits_4 : decode b_SC_spriteBits 4 = .ok (.getfield 15, 3) := by decide +kernel
theorem d_SC_spriteBits_7 : decode b_SC_spriteBits 7 = .ok (.bipush 6, 2) := by decide +kernel
theorem d_SC_spriteBits_9 : decode b_SC_spriteBits 9 = .ok (.invokevirtual 23, 3) := by decide +kernel
theorem d_SC_spriteBits_12 : decode b_SC_spriteBits 12 = .ok (.iconst 4, 1) := by decide +kernel
theorem d_SC_spriteBits_13 : decode b_SC_spriteBits 13 = .ok (.irem, 1) := by decide +kernel
theorem d_SC_spriteBits_14 : decode b_SC_spriteBits 14 = .ok (.imul, 1) := by decide +kernel
theorem d_SC_spriteBits_15 : decode b_SC_spriteBits 15 = .ok (.iload_n 2, 1) := by decide +kernel
theorem d_SC_spriteBits_16 : decode b_SC_spriteBits 16 = .ok (.iadd, 1) := by decide +kernel
theorem d_SC_spriteBits_17 : decode b_SC_spriteBits 17 = .ok (.istore_n 3, 1) := by decide +kernel
theorem d_SC_spriteBits_18 : decode b_SC_spriteBits 18 = .ok (.aload_n 0, 1) := by decide +kernel
theorem d_SC_spriteBits_19 : decode b_SC_spriteBits 19 = .ok (.invokevirtual 63, 3) := by decide +kernel
theorem d_SC_spriteBits_22 : decode b_SC_spriteBits 22 = .ok (.bipush 8, 2) := by decide +kernel
theorem d_SC_spriteBits_24 : decode b_SC_spriteBits 24 = .ok (.if_icmp .ne 17, 3) := by decide +kernel
theorem d_SC_spriteBits_27 : decode b_SC_spriteBits 27 = .ok (.aload_n 0, 1) := by decide +kernel
theorem d_SC_spriteBits_28 : decode b_SC_spriteBits 28 = .ok (.getfield 15, 3) := by decide +kernel
theorem d_SC_spriteBits_31 : decode b_SC_spriteBits 31 = .ok (.iload_n 3, 1) := by decide +kernel
theorem d_SC_spriteBits_32 : decode b_SC_spriteBits 32 = .ok (.bipush 8, 2) := by decide +kernel
theorem d_SC_spriteBits_34 : decode b_SC_spriteBits 34 = .ok (.iload_n 1, 1) := by decide +kernel
theorem d_SC_spriteBits_35 : decode b_SC_spriteBits 35 = .ok (.imul, 1) := by decide +kernel
theorem d_SC_spriteBits_36 : decode b_SC_spriteBits 36 = .ok (.iadd, 1) := by decide +kernel
theorem d_SC_spriteBits_37 : decode b_SC_spriteBits 37 = .ok (.invokevirtual 46, 3) := by decide +kernel
theorem d_SC_spriteBits_40 : decode b_SC_spriteBits 40 = .ok (.ireturn, 1) := by decide +kernel
theorem d_SC_spriteBits_41 : decode b_SC_spriteBits 41 = .ok (.iload_n 3, 1) := by decide +kernel
theorem d_SC_spriteBits_42 : decode b_SC_spriteBits 42 = .ok (.bipush 8, 2) := by decide +kernel
theorem d_SC_spriteBits_44 : decode b_SC_spriteBits 44 = .ok (.iload_n 1, 1) := by decide +kernel
theorem d_SC_spriteBits_45 : decode b_SC_spriteBits 45 = .ok (.bipush (-4), 2) := by decide +kernel
theorem d_SC_spriteBits_47 : decode b_SC_spriteBits 47 = .ok (.iand, 1) := by decide +kernel
theorem d_SC_spriteBits_48 : decode b_SC_spriteBits 48 = .ok (.imul, 1) := by decide +kernel
theorem d_SC_spriteBits_49 : decode b_SC_spriteBits 49 = .ok (.iadd, 1) := by decide +kernel
theorem d_SC_spriteBits_50 : decode b_SC_spriteBits 50 = .ok (.istore 4, 2) := by decide +kernel
theorem d_SC_spriteBits_52 : decode b_SC_spriteBits 52 = .ok (.aload_n 0, 1) := by decide +kernel
theorem d_SC_spriteBits_53 : decode b_SC_spriteBits 53 = .ok (.getfield 15, 3) := by decide +kernel
theorem d_SC_spriteBits_56 : decode b_SC_spriteBits 56 = .ok (.iload 4, 2) := by decide +kernel
theorem d_SC_spriteBits_58 : decode b_SC_spriteBits 58 = .ok (.invokevirtual 46, 3) := by decide +kernel
theorem d_SC_spriteBits_61 : decode b_SC_spriteBits 61 = .ok (.bipush 8, 2) := by decide +kernel
theorem d_SC_spriteBits_63 : decode b_SC_spriteBits 63 = .ok (.ishl, 1) := by decide +kernel
theorem d_SC_spriteBits_64 : decode b_SC_spriteBits 64 = .ok (.aload_n 0, 1) := by decide +kernel
theorem d_SC_spriteBits_65 : decode b_SC_spriteBits 65 = .ok (.getfield 15, 3) := by decide +kernel
theorem d_SC_spriteBits_68 : decode b_SC_spriteBits 68 = .ok (.iload 4, 2) := by decide +kernel
theorem d_SC_spriteBits_70 : decode b_SC_spriteBits 70 = .ok (.bipush 16, 2) := by decide +kernel
theorem d_SC_spriteBits_72 : decode b_SC_spriteBits 72 = .ok (.iadd, 1) := by decide +kernel
theorem d_SC_spriteBits_73 : decode b_SC_spriteBits 73 = .ok (.invokevirtual 46, 3) := by decide +kernel
theorem d_SC_spriteBits_76 : decode b_SC_spriteBits 76 = .ok (.ior, 1) := by decide +kernel
theorem d_SC_spriteBits_77 : decode b_SC_spriteBits 77 = .ok (.ireturn, 1) := by decide +kernel
theorem d_SC_coverPixel_0 : decode b_SC_coverPixel 0 = .ok (.lconst 1, 1) := by decide +kernel
theorem d_SC_coverPixel_1 : decode b_SC_coverPixel 1 = .ok (.iload_n 2, 1) := by decide +kernel
theorem d_SC_coverPixel_2 : decode b_SC_coverPixel 2 = .ok (.lshl, 1) := by decide +kernel
theorem d_SC_coverPixel_3 : decode b_SC_coverPixel 3 = .ok (.lstore 4, 2) := by decide +kernel
theorem d_SC_coverPixel_5 : decode b_SC_coverPixel 5 = .ok (.aload_n 0, 1) := by decide +kernel
theorem d_SC_coverPixel_6 : decode b_SC_coverPixel 6 = .ok (.getfield 56, 3) := by decide +kernel
theorem d_SC_coverPixel_9 : decode b_SC_coverPixel 9 = .ok (.lload 4, 2) := by decide +kernel
theorem d_SC_coverPixel_11 : decode b_SC_coverPixel 11 = .ok (.land, 1) := by decide +kernel
theorem d_SC_coverPixel_12 : decode b_SC_coverPixel 12 = .ok (.lconst 0, 1) := by decide +kernel
theorem d_SC_coverPixel_13 : decode b_SC_coverPixel 13 = .ok (.lcmp, 1) := by decide +kernel
theorem d_SC_coverPixel_14 : decode b_SC_coverPixel 14 = .ok (.ifCond .eq 10, 3) := by decide +kernel
theorem d_SC_coverPixel_17 : decode b_SC_coverPixel 17 = .ok (.aload_n 0, 1) := by decide +kernel
theorem d_SC_coverPixel_18 : decode b_SC_coverPixel 18 = .ok (.getfield 15, 3) := by decide +kernel
theorem d_SC_coverPixel_21 : decode b_SC_coverPixel 21 = .ok (.invokevirtual 85, 3) := by decide +kernel
theorem d_SC_coverPixel_24 : decode b_SC_coverPixel 24 = .ok (.aload_n 0, 1) := by decide +kernel
theorem d_SC_coverPixel_25 : decode b_SC_coverPixel 25 = .ok (.dup, 1) := by decide +kernel
theorem d_SC_coverPixel_26 : decode b_SC_coverPixel 26 = .ok (.getfield 56, 3) := by decide +kernel
theorem d_SC_coverPixel_29 : decode b_SC_coverPixel 29 = .ok (.lload 4, 2) := by decide +kernel
theorem d_SC_coverPixel_31 : decode b_SC_coverPixel 31 = .ok (.lor, 1) := by decide +kernel
theorem d_SC_coverPixel_32 : decode b_SC_coverPixel 32 = .ok (.putfield 56, 3) := by decide +kernel
theorem d_SC_coverPixel_35 : decode b_SC_coverPixel 35 = .ok (.iload_n 3, 1) := by decide +kernel
theorem d_SC_coverPixel_36 : decode b_SC_coverPixel 36 = .ok (.ifCond .eq 38, 3) := by decide +kernel
theorem d_SC_coverPixel_39 : decode b_SC_coverPixel 39 = .ok (.aload_n 0, 1) := by decide +kernel
theorem d_SC_coverPixel_40 : decode b_SC_coverPixel 40 = .ok (.getfield 60, 3) := by decide +kernel
theorem d_SC_coverPixel_43 : decode b_SC_coverPixel 43 = .ok (.lload 4, 2) := by decide +kernel
theorem d_SC_coverPixel_45 : decode b_SC_coverPixel 45 = .ok (.land, 1) := by decide +kernel
theorem d_SC_coverPixel_46 : decode b_SC_coverPixel 46 = .ok (.lconst 0, 1) := by decide +kernel
theorem d_SC_coverPixel_47 : decode b_SC_coverPixel 47 = .ok (.lcmp, 1) := by decide +kernel
theorem d_SC_coverPixel_48 : decode b_SC_coverPixel 48 = .ok (.ifCond .ne 26, 3) := by decide +kernel
theorem d_SC_coverPixel_51 : decode b_SC_coverPixel 51 = .ok (.aload_n 0, 1) := by decide +kernel
theorem d_SC_coverPixel_52 : decode b_SC_coverPixel 52 = .ok (.dup, 1) := by decide +kernel
theorem d_SC_coverPixel_53 : decode b_SC_coverPixel 53 = .ok (.getfield 60, 3) := by decide +kernel
theorem d_SC_coverPixel_56 : decode b_SC_coverPixel 56 = .ok (.lload 4, 2) := by decide +kernel
theorem d_SC_coverPixel_58 : decode b_SC_coverPixel 58 = .ok (.lor, 1) := by decide +kernel
theorem d_SC_coverPixel_59 : decode b_SC_coverPixel 59 = .ok (.putfield 60, 3) := by decide +kernel
theorem d_SC_coverPixel_62 : decode b_SC_coverPixel 62 = .ok (.aload_n 0, 1) := by decide +kernel
theorem d_SC_coverPixel_63 : decode b_SC_coverPixel 63 = .ok (.getfield 11, 3) := by decide +kernel
theorem d_SC_coverPixel_66 : decode b_SC_coverPixel 66 = .ok (.iload_n 1, 1) := by decide +kernel
theorem d_SC_coverPixel_67 : decode b_SC_coverPixel 67 = .ok (.bipush 64, 2) := by decide +kernel
theorem d_SC_coverPixel_69 : decode b_SC_coverPixel 69 = .ok (.imul, 1) := by decide +kernel
theorem d_SC_coverPixel_70 : decode b_SC_coverPixel 70 = .ok (.iload_n 2, 1) := by decide +kernel
theorem d_SC_coverPixel_71 : decode b_SC_coverPixel 71 = .ok (.iadd, 1) := by decide +kernel
theorem d_SC_coverPixel_72 : decode b_SC_coverPixel 72 = .ok (.iload_n 3, 1) := by decide +kernel
theorem d_SC_coverPixel_73 : decode b_SC_coverPixel 73 = .ok (.iastore, 1) := by decide +kernel
theorem d_SC_coverPixel_74 : decode b_SC_coverPixel 74 = .ok (.return_, 1) := by decide +kernel
theorem d_SL_init_0 : decode b_SL_init 0 = .ok (.aload_n 0, 1) := by decide +kernel
theorem d_SL_init_1 : decode b_SL_init 1 = .ok (.invokespecial 3, 3) := by decide +kernel
theorem d_SL_init_4 : decode b_SL_init 4 = .ok (.aload_n 0, 1) := by decide +kernel
theorem d_SL_init_5 : decode b_SL_init 5 = .ok (.bipush 16, 2) := by decide +kernel
theorem d_SL_init_7 : decode b_SL_init 7 = .ok (.anewarray 9, 3) := by decide +kernel
theorem d_SL_init_10 : decode b_SL_init 10 = .ok (.putfield 11, 3) := by decide +kernel
theorem d_SL_init_13 : decode b_SL_init 13 = .ok (.aload_n 0, 1) := by decide +kernel
theorem d_SL_init_14 : decode b_SL_init 14 = .ok (.iconst 4, 1) := by decide +kernel
theorem d_SL_init_15 : decode b_SL_init 15 = .ok (.newarray .boolean, 2) := by decide +kernel
theorem d_SL_init_17 : decode b_SL_init 17 = .ok (.putfield 17, 3) := by decide +kernel
theorem d_SL_init_20 : decode b_SL_init 20 = .ok (.aload_n 0, 1) := by decide +kernel
theorem d_SL_init_21 : decode b_SL_init 21 = .ok (.iconst 4, 1) := by decide +kernel
theorem d_SL_init_22 : decode b_SL_init 22 = .ok (.newarray .int, 2) := by decide +kernel
theorem d_SL_init_24 : decode b_SL_init 24 = .ok (.putfield 21, 3) := by decide +kernel
theorem d_SL_init_27 : decode b_SL_init 27 = .ok (.return_, 1) := by decide +kernel
theorem d_SL_isWide_0 : decode b_SL_isWide 0 = .ok (.aload_n 0, 1) := by decide +kernel
theorem d_SL_isWide_1 : decode b_SL_isWide 1 = .ok (.getfield 17, 3) := by decide +kernel
theorem d_SL_isWide_4 : decode b_SL_isWide 4 = .ok (.iload_n 1, 1) := by decide +kernel
theorem d_SL_isWide_5 : decode b_SL_isWide 5 = .ok (.baload, 1) := by decide +kernel
theorem d_SL_isWide_6 : decode b_SL_isWide 6 = .ok (.ireturn, 1) := by decide +kernel
theorem d_SL_makeWide_0 : decode b_SL_makeWide 0 = .ok (.aload_n 0, 1) := by decide +kernel
theorem d_SL_makeWide_1 : decode b_SL_makeWide 1 = .ok (.getfield 17, 3) := by decide +kernel
theorem d_SL_makeWide_4 : decode b_SL_makeWide 4 = .ok (.iload_n 1, 1) := by decide +kernel
theorem d_SL_makeWide_5 : decode b_SL_makeWide 5 = .ok (.iconst 1, 1) := by decide +kernel
theorem d_SL_makeWide_6 : decode b_SL_makeWide 6 = .ok (.bastore, 1) := by decide +kernel
theorem d_SL_makeWide_7 : decode b_SL_makeWide 7 = .ok (.return_, 1) := by decide +kernel
theorem d_SL_hasPart_0 : decode b_SL_hasPart 0 = .ok (.iload_n 2, 1) := by decide +kernel
theorem d_SL_hasPart_1 : decode b_SL_hasPart 1 = .ok (.ifCond .eq 12, 3) := by decide +kernel
theorem d_SL_hasPart_4 : decode b_SL_hasPart 4 = .ok (.aload_n 0, 1) := by decide +kernel
theorem d_SL_hasPart_5 : decode b_SL_hasPart 5 = .ok (.getfield 17, 3) := by decide +kernel
theorem d_SL_hasPart_8 : decode b_SL_hasPart 8 = .ok (.iload_n 1, 1) := by decide +kernel
theorem d_SL_hasPart_9 : decode b_SL_hasPart 9 = .ok (.baload, 1) := by decide +kernel
theorem d_SL_hasPart_10 : decode b_SL_hasPart 10 = .ok (.ifCond .eq 7, 3) := by decide +kernel
theorem d_SL_hasPart_13 : decode b_SL_hasPart 13 = .ok (.iconst 1, 1) := by decide +kernel
theorem d_SL_hasPart_14 : decode b_SL_hasPart 14 = .ok (.goto 4, 3) := by decide +kernel
theorem d_SL_hasPart_17 : decode b_SL_hasPart 17 = .ok (.iconst 0, 1) := by decide +kernel
theorem d_SL_hasPart_18 : decode b_SL_hasPart 18 = .ok (.ireturn, 1) := by decide +kernel
theorem d_SL_deviceIn_0 : decode b_SL_deviceIn 0 = .ok (.aload_n 0, 1) := by decide +kernel
theorem d_SL_deviceIn_1 : decode b_SL_deviceIn 1 = .ok (.getfield 11, 3) := by decide +kernel
theorem d_SL_deviceIn_4 : decode b_SL_deviceIn 4 = .ok (.iload_n 1, 1) := by decide +kernel
theorem d_SL_deviceIn_5 : decode b_SL_deviceIn 5 = .ok (.iconst 4, 1) := by decide +kernel
theorem d_SL_deviceIn_6 : decode b_SL_deviceIn 6 = .ok (.imul, 1) := by decide +kernel
theorem d_SL_deviceIn_7 : decode b_SL_deviceIn 7 = .ok (.iload_n 2, 1) := by decide +kernel
theorem d_SL_deviceIn_8 : decode b_SL_deviceIn 8 = .ok (.iadd, 1) := by decide +kernel
theorem d_SL_deviceIn_9 : decode b_SL_deviceIn 9 = .ok (.aaload, 1) := by decide +kernel
theorem d_SL_deviceIn_10 : decode b_SL_deviceIn 10 = .ok (.areturn, 1) := by decide +kernel
theorem d_SL_put_0 : decode b_SL_put 0 = .ok (.aload_n 0, 1) := by decide +kernel
theorem d_SL_put_1 : decode b_SL_put 1 = .ok (.getfield 11, 3) := by decide +kernel
theorem d_SL_put_4 : decode b_SL_put 4 = .ok (.iload_n 1, 1) := by decide +kernel
theorem d_SL_put_5 : decode b_SL_put 5 = .ok (.iconst 4, 1) := by decide +kernel
theorem d_SL_put_6 : decode b_SL_put 6 = .ok (.imul, 1) := by decide +kernel
theorem d_SL_put_7 : decode b_SL_put 7 = .ok (.iload_n 2, 1) := by decide +kernel
theorem d_SL_put_8 : decode b_SL_put 8 = .ok (.iadd, 1) := by decide +kernel
theorem d_SL_put_9 : decode b_SL_put 9 = .ok (.aload_n 3, 1) := by decide +kernel
theorem d_SL_put_10 : decode b_SL_put 10 = .ok (.aastore, 1) := by decide +kernel
theorem d_SL_put_11 : decode b_SL_put 11 = .ok (.return_, 1) := by decide +kernel
theorem d_SL_primary_0 : decode b_SL_primary 0 = .ok (.aload_n 0, 1) := by decide +kernel
theorem d_SL_primary_1 : decode b_SL_primary 1 = .ok (.getfield 25, 3) := by decide +kernel
theorem d_SL_primary_4 : decode b_SL_primary 4 = .ok (.ireturn, 1) := by decide +kernel
theorem d_SL_setPrimary_0 : decode b_SL_setPrimary 0 = .ok (.aload_n 0, 1) := by decide +kernel
theorem d_SL_setPrimary_1 : decode b_SL_setPrimary 1 = .ok (.iload_n 1, 1) := by decide +kernel
theorem d_SL_setPrimary_2 : decode b_SL_setPrimary 2 = .ok (.putfield 25, 3) := by decide +kernel
theorem d_SL_setPrimary_5 : decode b_SL_setPrimary 5 = .ok (.return_, 1) := by decide +kernel
theorem d_SL_secondaryOf_0 : decode b_SL_secondaryOf 0 = .ok (.aload_n 0, 1) := by decide +kernel
theorem d_SL_secondaryOf_1 : decode b_SL_secondaryOf 1 = .ok (.getfield 21, 3) := by decide +kernel
theorem d_SL_secondaryOf_4 : decode b_SL_secondaryOf 4 = .ok (.iload_n 1, 1) := by decide +kernel
theorem d_SL_secondaryOf_5 : decode b_SL_secondaryOf 5 = .ok (.iaload, 1) := by decide +kernel
theorem d_SL_secondaryOf_6 : decode b_SL_secondaryOf 6 = .ok (.ireturn, 1) := by decide +kernel
theorem d_SL_slotAt_0 : decode b_SL_slotAt 0 = .ok (.aload_n 0, 1) := by decide +kernel
theorem d_SL_slotAt_1 : decode b_SL_slotAt 1 = .ok (.getfield 25, 3) := by decide +kernel
theorem d_SL_slotAt_4 : decode b_SL_slotAt 4 = .ok (.iload_n 1, 1) := by decide +kernel
theorem d_SL_slotAt_5 : decode b_SL_slotAt 5 = .ok (.invokestatic 29, 3) := by decide +kernel
theorem d_SL_slotAt_8 : decode b_SL_slotAt 8 = .ok (.ireturn, 1) := by decide +kernel
theorem d_SL_partAt_0 : decode b_SL_partAt 0 = .ok (.aload_n 0, 1) := by decide +kernel
theorem d_SL_partAt_1 : decode b_SL_partAt 1 = .ok (.getfield 17, 3) := by decide +kernel
theorem d_SL_partAt_4 : decode b_SL_partAt 4 = .ok (.iload_n 1, 1) := by decide +kernel
theorem d_SL_partAt_5 : decode b_SL_partAt 5 = .ok (.baload, 1) := by decide +kernel
theorem d_SL_partAt_6 : decode b_SL_partAt 6 = .ok (.ifCond .eq 16, 3) := by decide +kernel
theorem d_SL_partAt_9 : decode b_SL_partAt 9 = .ok (.aload_n 0, 1) := by decide +kernel
theorem d_SL_partAt_10 : decode b_SL_partAt 10 = .ok (.getfield 21, 3) := by decide +kernel
theorem d_SL_partAt_13 : decode b_SL_partAt 13 = .ok (.iload_n 1, 1) := by decide +kernel
theorem d_SL_partAt_14 : decode b_SL_partAt 14 = .ok (.iaload, 1) := by decide +kernel
theorem d_SL_partAt_15 : decode b_SL_partAt 15 = .ok (.iload_n 2, 1) := by decide +kernel
theorem d_SL_partAt_16 : decode b_SL_partAt 16 = .ok (.invokestatic 29, 3) := by decide +kernel
theorem d_SL_partAt_19 : decode b_SL_partAt 19 = .ok (.goto 4, 3) := by decide +kernel
theorem d_SL_partAt_22 : decode b_SL_partAt 22 = .ok (.iconst 0, 1) := by decide +kernel
theorem d_SL_partAt_23 : decode b_SL_partAt 23 = .ok (.ireturn, 1) := by decide +kernel
theorem d_SL_byteIn_0 : decode b_SL_byteIn 0 = .ok (.aload_n 0, 1) := by decide +kernel
theorem d_SL_byteIn_1 : decode b_SL_byteIn 1 = .ok (.getfield 17, 3) := by decide +kernel
theorem d_SL_byteIn_4 : decode b_SL_byteIn 4 = .ok (.iload_n 1, 1) := by decide +kernel
theorem d_SL_byteIn_5 : decode b_SL_byteIn 5 = .ok (.baload, 1) := by decide +kernel
theorem d_SL_byteIn_6 : decode b_SL_byteIn 6 = .ok (.ifCond .eq 29, 3) := by decide +kernel
theorem d_SL_byteIn_9 : decode b_SL_byteIn 9 = .ok (.iload_n 3, 1) := by decide +kernel
theorem d_SL_byteIn_10 : decode b_SL_byteIn 10 = .ok (.sipush 255, 3) := by decide +kernel
theorem d_SL_byteIn_13 : decode b_SL_byteIn 13 = .ok (.if_icmp .ne 22, 3) := by decide +kernel
theorem d_SL_byteIn_16 : decode b_SL_byteIn 16 = .ok (.sipush 255, 3) := by decide +kernel
theorem d_SL_byteIn_19 : decode b_SL_byteIn 19 = .ok (.aload_n 0, 1) := by decide +kernel
theorem d_SL_byteIn_20 : decode b_SL_byteIn 20 = .ok (.getfield 21, 3) := by decide +kernel
theorem d_SL_byteIn_23 : decode b_SL_byteIn 23 = .ok (.iload_n 1, 1) := by decide +kernel
theorem d_SL_byteIn_24 : decode b_SL_byteIn 24 = .ok (.iaload, 1) := by decide +kernel
theorem d_SL_byteIn_25 : decode b_SL_byteIn 25 = .ok (.bipush 63, 2) := by decide +kernel
theorem d_SL_byteIn_27 : decode b_SL_byteIn 27 = .ok (.iand, 1) := by decide +kernel
theorem d_SL_byteIn_28 : decode b_SL_byteIn 28 = .ok (.iload_n 2, 1) := by decide +kernel
theorem d_SL_byteIn_29 : decode b_SL_byteIn 29 = .ok (.bipush 6, 2) := by decide +kernel
theorem d_SL_byteIn_31 : decode b_SL_byteIn 31 = .ok (.ishl, 1) := by decide +kernel
theorem d_SL_byteIn_32 : decode b_SL_byteIn 32 = .ok (.ior, 1) := by decide +kernel
theorem d_SL_byteIn_33 : decode b_SL_byteIn 33 = .ok (.isub, 1) := by decide +kernel
theorem d_SL_byteIn_34 : decode b_SL_byteIn 34 = .ok (.ireturn, 1) := by decide +kernel
theorem d_SL_byteIn_35 : decode b_SL_byteIn 35 = .ok (.aload_n 0, 1) := by decide +kernel
theorem d_SL_byteIn_36 : decode b_SL_byteIn 36 = .ok (.iload_n 1, 1) := by decide +kernel
theorem d_SL_byteIn_37 : decode b_SL_byteIn 37 = .ok (.aload_n 0, 1) := by decide +kernel
theorem d_SL_byteIn_38 : decode b_SL_byteIn 38 = .ok (.getfield 17, 3) := by decide +kernel
theorem d_SL_byteIn_41 : decode b_SL_byteIn 41 = .ok (.iload_n 1, 1) := by decide +kernel
theorem d_SL_byteIn_42 : decode b_SL_byteIn 42 = .ok (.baload, 1) := by decide +kernel
theorem d_SL_byteIn_43 : decode b_SL_byteIn 43 = .ok (.ifCond .eq 7, 3) := by decide +kernel
theorem d_SL_byteIn_46 : decode b_SL_byteIn 46 = .ok (.iload_n 2, 1) := by decide +kernel
theorem d_SL_byteIn_47 : decode b_SL_byteIn 47 = .ok (.goto 4, 3) := by decide +kernel
theorem d_SL_byteIn_50 : decode b_SL_byteIn 50 = .ok (.iconst 0, 1) := by decide +kernel
theorem d_SL_byteIn_51 : decode b_SL_byteIn 51 = .ok (.invokevirtual 33, 3) := by decide +kernel
theorem d_SL_byteIn_54 : decode b_SL_byteIn 54 = .ok (.astore 4, 2) := by decide +kernel
theorem d_SL_byteIn_56 : decode b_SL_byteIn 56 = .ok (.aload 4, 2) := by decide +kernel
theorem d_SL_byteIn_58 : decode b_SL_byteIn 58 = .ok (.ifnonnull 9, 3) := by decide +kernel
theorem d_SL_byteIn_61 : decode b_SL_byteIn 61 = .ok (.sipush 255, 3) := by decide +kernel
theorem d_SL_byteIn_64 : decode b_SL_byteIn 64 = .ok (.goto 9, 3) := by decide +kernel
theorem d_SL_byteIn_67 : decode b_SL_byteIn 67 = .ok (.aload 4, 2) := by decide +kernel
theorem d_SL_byteIn_69 : decode b_SL_byteIn 69 = .ok (.iload_n 3, 1) := by decide +kernel
theorem d_SL_byteIn_70 : decode b_SL_byteIn 70 = .ok (.invokevirtual 37, 3) := by decide +kernel
theorem d_SL_byteIn_73 : decode b_SL_byteIn 73 = .ok (.ireturn, 1) := by decide +kernel
theorem d_SL_store_0 : decode b_SL_store 0 = .ok (.aload_n 0, 1) := by decide +kernel
theorem d_SL_store_1 : decode b_SL_store 1 = .ok (.iload_n 1, 1) := by decide +kernel
theorem d_SL_store_2 : decode b_SL_store 2 = .ok (.invokevirtual 41, 3) := by decide +kernel
theorem d_SL_store_5 : decode b_SL_store 5 = .ok (.istore_n 3, 1) := by decide +kernel
theorem d_SL_store_6 : decode b_SL_store 6 = .ok (.aload_n 0, 1) := by decide +kernel
theorem d_SL_store_7 : decode b_SL_store 7 = .ok (.getfield 17, 3) := by decide +kernel
theorem d_SL_store_10 : decode b_SL_store 10 = .ok (.iload_n 3, 1) := by decide +kernel
theorem d_SL_store_11 : decode b_SL_store 11 = .ok (.baload, 1) := by decide +kernel
theorem d_SL_store_12 : decode b_SL_store 12 = .ok (.ifCond .eq 18, 3) := by decide +kernel
theorem d_SL_store_15 : decode b_SL_store 15 = .ok (.iload_n 1, 1) := by decide +kernel
theorem d_SL_store_16 : decode b_SL_store 16 = .ok (.sipush 255, 3) := by decide +kernel
theorem d_SL_store_19 : decode b_SL_store 19 = .ok (.if_icmp .ne 11, 3) := by decide +kernel
theorem d_SL_store_22 : decode b_SL_store 22 = .ok (.aload_n 0, 1) := by decide +kernel
theorem d_SL_store_23 : decode b_SL_store 23 = .ok (.getfield 21, 3) := by decide +kernel
theorem d_SL_store_26 : decode b_SL_store 26 = .ok (.iload_n 3, 1) := by decide +kernel
theorem d_SL_store_27 : decode b_SL_store 27 = .ok (.iload_n 2, 1) := by decide +kernel
theorem d_SL_store_28 : decode b_SL_store 28 = .ok (.iastore, 1) := by decide +kernel
theorem d_SL_store_29 : decode b_SL_store 29 = .ok (.return_, 1) := by decide +kernel
theorem d_SL_store_30 : decode b_SL_store 30 = .ok (.aload_n 0, 1) := by decide +kernel
theorem d_SL_store_31 : decode b_SL_store 31 = .ok (.iload_n 3, 1) := by decide +kernel
theorem d_SL_store_32 : decode b_SL_store 32 = .ok (.aload_n 0, 1) := by decide +kernel
theorem d_SL_store_33 : decode b_SL_store 33 = .ok (.iload_n 3, 1) := by decide +kernel
theorem d_SL_store_34 : decode b_SL_store 34 = .ok (.iload_n 1, 1) := by decide +kernel
theorem d_SL_store_35 : decode b_SL_store 35 = .ok (.invokevirtual 44, 3) := by decide +kernel
theorem d_SL_store_38 : decode b_SL_store 38 = .ok (.invokevirtual 33, 3) := by decide +kernel
theorem d_SL_store_41 : decode b_SL_store 41 = .ok (.astore 4, 2) := by decide +kernel
theorem d_SL_store_43 : decode b_SL_store 43 = .ok (.aload 4, 2) := by decide +kernel
theorem d_SL_store_45 : decode b_SL_store 45 = .ok (.ifnull 10, 3) := by decide +kernel
theorem d_SL_store_48 : decode b_SL_store 48 = .ok (.aload 4, 2) := by decide +kernel
theorem d_SL_store_50 : decode b_SL_store 50 = .ok (.iload_n 1, 1) := by decide +kernel
theorem d_SL_store_51 : decode b_SL_store 51 = .ok (.iload_n 2, 1) := by decide +kernel
theorem d_SL_store_52 : decode b_SL_store 52 = .ok (.invokevirtual 47, 3) := by decide +kernel
theorem d_SL_store_55 : decode b_SL_store 55 = .ok (.return_, 1) := by decide +kernel
theorem d_SL_pageBits_0 : decode b_SL_pageBits 0 = .ok (.iload_n 1, 1) := by decide +kernel
theorem d_SL_pageBits_1 : decode b_SL_pageBits 1 = .ok (.bipush 64, 2) := by decide +kernel
theorem d_SL_pageBits_3 : decode b_SL_pageBits 3 = .ok (.idiv, 1) := by decide +kernel
theorem d_SL_pageBits_4 : decode b_SL_pageBits 4 = .ok (.istore_n 2, 1) := by decide +kernel
theorem d_SL_pageBits_5 : decode b_SL_pageBits 5 = .ok (.iload_n 0, 1) := by decide +kernel
theorem d_SL_pageBits_6 : decode b_SL_pageBits 6 = .ok (.iconst 2, 1) := by decide +kernel
theorem d_SL_pageBits_7 : decode b_SL_pageBits 7 = .ok (.iload_n 2, 1) := by decide +kernel
theorem d_SL_pageBits_8 : decode b_SL_pageBits 8 = .ok (.imul, 1) := by decide +kernel
theorem d_SL_pageBits_9 : decode b_SL_pageBits 9 = .ok (.ishr, 1) := by decide +kernel
theorem d_SL_pageBits_10 : decode b_SL_pageBits 10 = .ok (.iconst 3, 1) := by decide +kernel
theorem d_SL_pageBits_11 : decode b_SL_pageBits 11 = .ok (.iand, 1) := by decide +kernel
theorem d_SL_pageBits_12 : decode b_SL_pageBits 12 = .ok (.ireturn, 1) := by decide +kernel
end
section
/-! DECODE rows -/
theorem d_LW_widen_0 : decode b_LW_widen 0 = .ok (.aload_n 0, 1) := by decide +kernel
theorem d_LW_widen_1 : decode b_LW_widen 1 = .ok (.iload_n 1, 1) := by decide +kernel
theorem d_LW_widen_2 : decode b_LW_widen 2 = .ok (.invokevirtual 7, 3) := by decide +kernel
theorem d_LW_widen_5 : decode b_LW_widen 5 = .ok (.goto 9, 3) := by decide +kernel
theorem d_LW_widen_8 : decode b_LW_widen 8 = .ok (.astore_n 2, 1) := by decide +kernel
theorem d_LW_widen_9 : decode b_LW_widen 9 = .ok (.iconst 1, 1) := by decide +kernel
theorem d_LW_widen_10 : decode b_LW_widen 10 = .ok (.ireturn, 1) := by decide +kernel
theorem d_LW_widen_11 : decode b_LW_widen 11 = .ok (.astore_n 2, 1) := by decide +kernel
theorem d_LW_widen_12 : decode b_LW_widen 12 = .ok (.iconst 2, 1) := by decide +kernel
theorem d_LW_widen_13 : decode b_LW_widen 13 = .ok (.ireturn, 1) := by decide +kernel
theorem d_LW_widen_14 : decode b_LW_widen 14 = .ok (.iconst 0, 1) := by decide +kernel
theorem d_LW_widen_15 : decode b_LW_widen 15 = .ok (.ireturn, 1) := by decide +kernel
theorem d_LW_plug_0 : decode b_LW_plug 0 = .ok (.aload_n 0, 1) := by decide +kernel
theorem d_LW_plug_1 : decode b_LW_plug 1 = .ok (.iload_n 1, 1) := by decide +kernel
theorem d_LW_plug_2 : decode b_LW_plug 2 = .ok (.iload_n 2, 1) := by decide +kernel
theorem d_LW_plug_3 : decode b_LW_plug 3 = .ok (.iload_n 3, 1) := by decide +kernel
theorem d_LW_plug_4 : decode b_LW_plug 4 = .ok (.iload 4, 2) := by decide +kernel
theorem d_LW_plug_6 : decode b_LW_plug 6 = .ok (.invokevirtual 17, 3) := by decide +kernel
theorem d_LW_plug_9 : decode b_LW_plug 9 = .ok (.goto 11, 3) := by decide +kernel
theorem d_LW_plug_12 : decode b_LW_plug 12 = .ok (.astore 5, 2) := by decide +kernel
theorem d_LW_plug_14 : decode b_LW_plug 14 = .ok (.iconst 1, 1) := by decide +kernel
theorem d_LW_plug_15 : decode b_LW_plug 15 = .ok (.ireturn, 1) := by decide +kernel
theorem d_LW_plug_16 : decode b_LW_plug 16 = .ok (.astore 5, 2) := by decide +kernel
theorem d_LW_plug_18 : decode b_LW_plug 18 = .ok (.iconst 2, 1) := by decide +kernel
theorem d_LW_plug_19 : decode b_LW_plug 19 = .ok (.ireturn, 1) := by decide +kernel
theorem d_LW_plug_20 : decode b_LW_plug 20 = .ok (.iconst 0, 1) := by decide +kernel
theorem d_LW_plug_21 : decode b_LW_plug 21 = .ok (.ireturn, 1) := by decide +kernel
theorem d_LW_read_0 : decode b_LW_read 0 = .ok (.aload_n 2, 1) := by decide +kernel
theorem d_LW_read_1 : decode b_LW_read 1 = .ok (.iconst 0, 1) := by decide +kernel
theorem d_LW_read_2 : decode b_LW_read 2 = .ok (.aload_n 0, 1) := by decide +kernel
theorem d_LW_read_3 : decode b_LW_read 3 = .ok (.iload_n 1, 1) := by decide +kernel
theorem d_LW_read_4 : decode b_LW_read 4 = .ok (.invokevirtual 21, 3) := by decide +kernel
theorem d_LW_read_7 : decode b_LW_read 7 = .ok (.i2l, 1) := by decide +kernel
theorem d_LW_read_8 : decode b_LW_read 8 = .ok (.lastore, 1) := by decide +kernel
theorem d_LW_read_9 : decode b_LW_read 9 = .ok (.goto 6, 3) := by decide +kernel
theorem d_LW_read_12 : decode b_LW_read 12 = .ok (.astore_n 3, 1) := by decide +kernel
theorem d_LW_read_13 : decode b_LW_read 13 = .ok (.iconst 1, 1) := by decide +kernel
theorem d_LW_read_14 : decode b_LW_read 14 = .ok (.ireturn, 1) := by decide +kernel
theorem d_LW_read_15 : decode b_LW_read 15 = .ok (.iconst 0, 1) := by decide +kernel
theorem d_LW_read_16 : decode b_LW_read 16 = .ok (.ireturn, 1) := by decide +kernel
theorem d_LW_write_0 : decode b_LW_write 0 = .ok (.aload_n 0, 1) := by decide +kernel
theorem d_LW_write_1 : decode b_LW_write 1 = .ok (.iload_n 1, 1) := by decide +kernel
theorem d_LW_write_2 : decode b_LW_write 2 = .ok (.iload_n 2, 1) := by decide +kernel
theorem d_LW_write_3 : decode b_LW_write 3 = .ok (.invokevirtual 25, 3) := by decide +kernel
theorem d_LW_write_6 : decode b_LW_write 6 = .ok (.goto 6, 3) := by decide +kernel
theorem d_LW_write_9 : decode b_LW_write 9 = .ok (.astore_n 3, 1) := by decide +kernel
theorem d_LW_write_10 : decode b_LW_write 10 = .ok (.iconst 1, 1) := by decide +kernel
theorem d_LW_write_11 : decode b_LW_write 11 = .ok (.ireturn, 1) := by decide +kernel
theorem d_LW_write_12 : decode b_LW_write 12 = .ok (.iconst 0, 1) := by decide +kernel
theorem d_LW_write_13 : decode b_LW_write 13 = .ok (.ireturn, 1) := by decide +kernel
theorem d_LW_far_0 : decode b_LW_far 0 = .ok (.aload 4, 2) := by decide +kernel
theorem d_LW_far_2 : decode b_LW_far 2 = .ok (.iconst 0, 1) := by decide +kernel
theorem d_LW_far_3 : decode b_LW_far 3 = .ok (.aload_n 0, 1) := by decide +kernel
theorem d_LW_far_4 : decode b_LW_far 4 = .ok (.iload_n 1, 1) := by decide +kernel
theorem d_LW_far_5 : decode b_LW_far 5 = .ok (.iload_n 2, 1) := by decide +kernel
theorem d_LW_far_6 : decode b_LW_far 6 = .ok (.iload_n 3, 1) := by decide +kernel
theorem d_LW_far_7 : decode b_LW_far 7 = .ok (.invokevirtual 29, 3) := by decide +kernel
theorem d_LW_far_10 : decode b_LW_far 10 = .ok (.i2l, 1) := by decide +kernel
theorem d_LW_far_11 : decode b_LW_far 11 = .ok (.lastore, 1) := by decide +kernel
theorem d_LW_far_12 : decode b_LW_far 12 = .ok (.goto 7, 3) := by decide +kernel
theorem d_LW_far_15 : decode b_LW_far 15 = .ok (.astore 5, 2) := by decide +kernel
theorem d_LW_far_17 : decode b_LW_far 17 = .ok (.iconst 1, 1) := by decide +kernel
theorem d_LW_far_18 : decode b_LW_far 18 = .ok (.ireturn, 1) := by decide +kernel
theorem d_LW_far_19 : decode b_LW_far 19 = .ok (.iconst 0, 1) := by decide +kernel
theorem d_LW_far_20 : decode b_LW_far 20 = .ok (.ireturn, 1) := by decide +kernel
theorem d_LW_law_0 : decode code 0 = .ok (.new 8, 3) := by decide +kernel
theorem d_LW_law_3 : decode code 3 = .ok (.dup, 1) := by decide +kernel
theorem d_LW_law_4 : decode code 4 = .ok (.invokespecial 33, 3) := by decide +kernel
theorem d_LW_law_7 : decode code 7 = .ok (.astore_n 1, 1) := by decide +kernel
theorem d_LW_law_8 : decode code 8 = .ok (.new 34, 3) := by decide +kernel
theorem d_LW_law_11 : decode code 11 = .ok (.dup, 1) := by decide +kernel
theorem d_LW_law_12 : decode code 12 = .ok (.invokespecial 36, 3) := by decide +kernel
theorem d_LW_law_15 : decode code 15 = .ok (.astore_n 2, 1) := by decide +kernel
theorem d_LW_law_16 : decode code 16 = .ok (.iconst 1, 1) := by decide +kernel
theorem d_LW_law_17 : decode code 17 = .ok (.newarray .long, 2) := by decide +kernel
theorem d_LW_law_19 : decode code 19 = .ok (.astore_n 3, 1) := by decide +kernel
theorem d_LW_law_20 : decode code 20 = .ok (.iconst 0, 1) := by decide +kernel
theorem d_LW_law_21 : decode code 21 = .ok (.istore 4, 2) := by decide +kernel
theorem d_LW_law_23 : decode code 23 = .ok (.iload 4, 2) := by decide +kernel
theorem d_LW_law_25 : decode code 25 = .ok (.aload_n 0, 1) := by decide +kernel
theorem d_LW_law_26 : decode code 26 = .ok (.arraylength, 1) := by decide +kernel
theorem d_LW_law_27 : decode code 27 = .ok (.iconst 5, 1) := by decide +kernel
theorem d_LW_law_28 : decode code 28 = .ok (.isub, 1) := by decide +kernel
theorem d_LW_law_29 : decode code 29 = .ok (.if_icmp .gt 638, 3) := by decide +kernel
theorem d_LW_law_32 : decode code 32 = .ok (.aload_n 0, 1) := by decide +kernel
theorem d_LW_law_33 : decode code 33 = .ok (.iload 4, 2) := by decide +kernel
theorem d_LW_law_35 : decode code 35 = .ok (.iaload, 1) := by decide +kernel
theorem d_LW_law_36 : decode code 36 = .ok (.bipush 15, 2) := by decide +kernel
theorem d_LW_law_38 : decode code 38 = .ok (.iand, 1) := by decide +kernel
theorem d_LW_law_39 : decode code 39 = .ok (.tableswitch 622 0 13 #[69, 105, 177, 238, 294, 342, 422, 447, 484, 497, 534, 559, 584, 609], 69) := by decide +kernel
theorem d_LW_law_108 : decode code 108 = .ok (.aload_n 1, 1) := by decide +kernel
theorem d_LW_law_109 : decode code 109 = .ok (.aload_n 0, 1) := by decide +kernel
theorem d_LW_law_110 : decode code 110 = .ok (.iload 4, 2) := by decide +kernel
theorem d_LW_law_112 : decode code 112 = .ok (.iconst 1, 1) := by decide +kernel
theorem d_LW_law_113 : decode code 113 = .ok (.iadd, 1) := by decide +kernel
theorem d_LW_law_114 : decode code 114 = .ok (.iaload, 1) := by decide +kernel
theorem d_LW_law_115 : decode code 115 = .ok (.invokestatic 37, 3) := by decide +kernel
theorem d_LW_law_118 : decode code 118 = .ok (.istore 5, 2) := by decide +kernel
theorem d_LW_law_120 : decode code 120 = .ok (.aload_n 2, 1) := by decide +kernel
theorem d_LW_law_121 : decode code 121 = .ok (.aload_n 0, 1) := by decide +kernel
theorem d_LW_law_122 : decode code 122 = .ok (.iload 4, 2) := by decide +kernel
theorem d_LW_law_124 : decode code 124 = .ok (.iconst 1, 1) := by decide +kernel
theorem d_LW_law_125 : decode code 125 = .ok (.iadd, 1) := by decide +kernel
theorem d_LW_law_126 : decode code 126 = .ok (.iaload, 1) := by decide +kernel
theorem d_LW_law_127 : decode code 127 = .ok (.invokevirtual 42, 3) := by decide +kernel
theorem d_LW_law_130 : decode code 130 = .ok (.aload_n 2, 1) := by decide +kernel
theorem d_LW_law_131 : decode code 131 = .ok (.invokevirtual 43, 3) := by decide +kernel
theorem d_LW_law_134 : decode code 134 = .ok (.iload 5, 2) := by decide +kernel
theorem d_LW_law_136 : decode code 136 = .ok (.if_icmp .eq 5, 3) := by decide +kernel
theorem d_LW_law_139 : decode code 139 = .ok (.iconst 0, 1) := by decide +kernel
theorem d_LW_law_140 : decode code 140 = .ok (.ireturn, 1) := by decide +kernel
theorem d_LW_law_141 : decode code 141 = .ok (.goto 520, 3) := by decide +kernel
theorem d_LW_law_144 : decode code 144 = .ok (.aload_n 1, 1) := by decide +kernel
theorem d_LW_law_145 : decode code 145 = .ok (.aload_n 0, 1) := by decide +kernel
theorem d_LW_law_146 : decode code 146 = .ok (.iload 4, 2) := by decide +kernel
theorem d_LW_law_148 : decode code 148 = .ok (.iconst 1, 1) := by decide +kernel
theorem d_LW_law_149 : decode code 149 = .ok (.iadd, 1) := by decide +kernel
theorem d_LW_law_150 : decode code 150 = .ok (.iaload, 1) := by decide +kernel
theorem d_LW_law_151 : decode code 151 = .ok (.aload_n 0, 1) := by decide +kernel
theorem d_LW_law_152 : decode code 152 = .ok (.iload 4, 2) := by decide +kernel
theorem d_LW_law_154 : decode code 154 = .ok (.iconst 2, 1) := by decide +kernel
theorem d_LW_law_155 : decode code 155 = .ok (.iadd, 1) := by decide +kernel
theorem d_LW_law_156 : decode code 156 = .ok (.iaload, 1) := by decide +kernel
theorem d_LW_law_157 : decode code 157 = .ok (.aload_n 0, 1) := by decide +kernel
theorem d_LW_law_158 : decode code 158 = .ok (.iload 4, 2) := by decide +kernel
theorem d_LW_law_160 : decode code 160 = .ok (.iconst 3, 1) := by decide +kernel
theorem d_LW_law_161 : decode code 161 = .ok (.iadd, 1) := by decide +kernel
theorem d_LW_law_162 : decode code 162 = .ok (.iaload, 1) := by decide +kernel
theorem d_LW_law_163 : decode code 163 = .ok (.aload_n 0, 1) := by decide +kernel
theorem d_LW_law_164 : decode code 164 = .ok (.iload 4, 2) := by decide +kernel
theorem d_LW_law_166 : decode code 166 = .ok (.iconst 4, 1) := by decide +kernel
theorem d_LW_law_167 : decode code 167 = .ok (.iadd, 1) := by decide +kernel
theorem d_LW_law_168 : decode code 168 = .ok (.iaload, 1) := by decide +kernel
theorem d_LW_law_169 : decode code 169 = .ok (.invokestatic 47, 3) := by decide +kernel
theorem d_LW_law_172 : decode code 172 = .ok (.istore 5, 2) := by decide +kernel
theorem d_LW_law_174 : decode code 174 = .ok (.aload_n 2, 1) := by decide +kernel
theorem d_LW_law_175 : decode code 175 = .ok (.aload_n 0, 1) := by decide +kernel
theorem d_LW_law_176 : decode code 176 = .ok (.iload 4, 2) := by decide +kernel
theorem d_LW_law_178 : decode code 178 = .ok (.iconst 1, 1) := by decide +kernel
theorem d_LW_law_179 : decode code 179 = .ok (.iadd, 1) := by decide +kernel
theorem d_LW_law_180 : decode code 180 = .ok (.iaload, 1) := by decide +kernel
theorem d_LW_law_181 : decode code 181 = .ok (.aload_n 0, 1) := by decide +kernel
theorem d_LW_law_182 : decode code 182 = .ok (.iload 4, 2) := by decide +kernel
theorem d_LW_law_184 : decode code 184 = .ok (.iconst 2, 1) := by decide +kernel
theorem d_LW_law_185 : decode code 185 = .ok (.iadd, 1) := by decide +kernel
theorem d_LW_law_186 : decode code 186 = .ok (.iaload, 1) := by decide +kernel
theorem d_LW_law_187 : decode code 187 = .ok (.aload_n 0, 1) := by decide +kernel
theorem d_LW_law_188 : decode code 188 = .ok (.iload 4, 2) := by decide +kernel
theorem d_LW_law_190 : decode code 190 = .ok (.iconst 3, 1) := by decide +kernel
theorem d_LW_law_191 : decode code 191 = .ok (.iadd, 1) := by decide +kernel
theorem d_LW_law_192 : decode code 192 = .ok (.iaload, 1) := by decide +kernel
theorem d_LW_law_193 : decode code 193 = .ok (.aload_n 0, 1) := by decide +kernel
theorem d_LW_law_194 : decode code 194 = .ok (.iload 4, 2) := by decide +kernel
theorem d_LW_law_196 : decode code 196 = .ok (.iconst 4, 1) := by decide +kernel
theorem d_LW_law_197 : decode code 197 = .ok (.iadd, 1) := by decide +kernel
theorem d_LW_law_198 : decode code 198 = .ok (.iaload, 1) := by decide +kernel
theorem d_LW_law_199 : decode code 199 = .ok (.invokevirtual 50, 3) := by decide +kernel
theorem d_LW_law_202 : decode code 202 = .ok (.aload_n 2, 1) := by decide +kernel
theorem d_LW_law_203 : decode code 203 = .ok (.invokevirtual 43, 3) := by decide +kernel
theorem d_LW_law_206 : decode code 206 = .ok (.iload 5, 2) := by decide +kernel
theorem d_LW_law_208 : decode code 208 = .ok (.if_icmp .eq 5, 3) := by decide +kernel
theorem d_LW_law_211 : decode code 211 = .ok (.iconst 0, 1) := by decide +kernel
theorem d_LW_law_212 : decode code 212 = .ok (.ireturn, 1) := by decide +kernel
theorem d_LW_law_213 : decode code 213 = .ok (.goto 448, 3) := by decide +kernel
theorem d_LW_law_216 : decode code 216 = .ok (.aload_n 1, 1) := by decide +kernel
theorem d_LW_law_217 : decode code 217 = .ok (.aload_n 0, 1) := by decide +kernel
theorem d_LW_law_218 : decode code 218 = .ok (.iload 4, 2) := by decide +kernel
theorem d_LW_law_220 : decode code 220 = .ok (.iconst 1, 1) := by decide +kernel
theorem d_LW_law_221 : decode code 221 = .ok (.iadd, 1) := by decide +kernel
theorem d_LW_law_222 : decode code 222 = .ok (.iaload, 1) := by decide +kernel
theorem d_LW_law_223 : decode code 223 = .ok (.aload_n 0, 1) := by decide +kernel
theorem d_LW_law_224 : decode code 224 = .ok (.iload 4, 2) := by decide +kernel
theorem d_LW_law_226 : decode code 226 = .ok (.iconst 2, 1) := by decide +kernel
theorem d_LW_law_227 : decode code 227 = .ok (.iadd, 1) := by decide +kernel
theorem d_LW_law_228 : decode code 228 = .ok (.iaload, 1) := by decide +kernel
theorem d_LW_law_229 : decode code 229 = .ok (.aload_n 0, 1) := by decide +kernel
theorem d_LW_law_230 : decode code 230 = .ok (.iload 4, 2) := by decide +kernel
theorem d_LW_law_232 : decode code 232 = .ok (.iconst 3, 1) := by decide +kernel
theorem d_LW_law_233 : decode code 233 = .ok (.iadd, 1) := by decide +kernel
theorem d_LW_law_234 : decode code 234 = .ok (.iaload, 1) := by decide +kernel
theorem d_LW_law_235 : decode code 235 = .ok (.aload_n 0, 1) := by decide +kernel
theorem d_LW_law_236 : decode code 236 = .ok (.iload 4, 2) := by decide +kernel
theorem d_LW_law_238 : decode code 238 = .ok (.iconst 4, 1) := by decide +kernel
theorem d_LW_law_239 : decode code 239 = .ok (.iadd, 1) := by decide +kernel
theorem d_LW_law_240 : decode code 240 = .ok (.iaload, 1) := by decide +kernel
theorem d_LW_law_241 : decode code 241 = .ok (.invokevirtual 51, 3) := by decide +kernel
theorem d_LW_law_244 : decode code 244 = .ok (.aload_n 2, 1) := by decide +kernel
theorem d_LW_law_245 : decode code 245 = .ok (.aload_n 0, 1) := by decide +kernel
theorem d_LW_law_246 : decode code 246 = .ok (.iload 4, 2) := by decide +kernel
theorem d_LW_law_248 : decode code 248 = .ok (.iconst 1, 1) := by decide +kernel
theorem d_LW_law_249 : decode code 249 = .ok (.iadd, 1) := by decide +kernel
theorem d_LW_law_250 : decode code 250 = .ok (.iaload, 1) := by decide +kernel
theorem d_LW_law_251 : decode code 251 = .ok (.aload_n 0, 1) := by decide +kernel
theorem d_LW_law_252 : decode code 252 = .ok (.iload 4, 2) := by decide +kernel
theorem d_LW_law_254 : decode code 254 = .ok (.iconst 2, 1) := by decide +kernel
theorem d_LW_law_255 : decode code 255 = .ok (.iadd, 1) := by decide +kernel
theorem d_LW_law_256 : decode code 256 = .ok (.iaload, 1) := by decide +kernel
theorem d_LW_law_257 : decode code 257 = .ok (.aload_n 0, 1) := by decide +kernel
theorem d_LW_law_258 : decode code 258 = .ok (.iload 4, 2) := by decide +kernel
theorem d_LW_law_260 : decode code 260 = .ok (.iconst 3, 1) := by decide +kernel
theorem d_LW_law_261 : decode code 261 = .ok (.iadd, 1) := by decide +kernel
theorem d_LW_law_262 : decode code 262 = .ok (.iaload, 1) := by decide +kernel
theorem d_LW_law_263 : decode code 263 = .ok (.aload_n 0, 1) := by decide +kernel
theorem d_LW_law_264 : decode code 264 = .ok (.iload 4, 2) := by decide +kernel
theorem d_LW_law_266 : decode code 266 = .ok (.iconst 4, 1) := by decide +kernel
theorem d_LW_law_267 : decode code 267 = .ok (.iadd, 1) := by decide +kernel
theorem d_LW_law_268 : decode code 268 = .ok (.iaload, 1) := by decide +kernel
theorem d_LW_law_269 : decode code 269 = .ok (.invokevirtual 55, 3) := by decide +kernel
theorem d_LW_law_272 : decode code 272 = .ok (.if_icmp .eq 389, 3) := by decide +kernel
theorem d_LW_law_275 : decode code 275 = .ok (.iconst 0, 1) := by decide +kernel
theorem d_LW_law_276 : decode code 276 = .ok (.ireturn, 1) := by decide +kernel
theorem d_LW_law_277 : decode code 277 = .ok (.aload_n 1, 1) := by decide +kernel
theorem d_LW_law_278 : decode code 278 = .ok (.aload_n 0, 1) := by decide +kernel
theorem d_LW_law_279 : decode code 279 = .ok (.iload 4, 2) := by decide +kernel
theorem d_LW_law_281 : decode code 281 = .ok (.iconst 1, 1) := by decide +kernel
theorem d_LW_law_282 : decode code 282 = .ok (.iadd, 1) := by decide +kernel
theorem d_LW_law_283 : decode code 283 = .ok (.iaload, 1) := by decide +kernel
theorem d_LW_law_284 : decode code 284 = .ok (.aload_n 3, 1) := by decide +kernel
theorem d_LW_law_285 : decode code 285 = .ok (.invokestatic 56, 3) := by decide +kernel
theorem d_LW_law_288 : decode code 288 = .ok (.istore 5, 2) := by decide +kernel
theorem d_LW_law_290 : decode code 290 = .ok (.aload_n 2, 1) := by decide +kernel
theorem d_LW_law_291 : decode code 291 = .ok (.aload_n 0, 1) := by decide +kernel
theorem d_LW_law_292 : decode code 292 = .ok (.iload 4, 2) := by decide +kernel
theorem d_LW_law_294 : decode code 294 = .ok (.iconst 1, 1) := by decide +kernel
theorem d_LW_law_295 : decode code 295 = .ok (.iadd, 1) := by decide +kernel
theorem d_LW_law_296 : decode code 296 = .ok (.iaload, 1) := by decide +kernel
theorem d_LW_law_297 : decode code 297 = .ok (.invokevirtual 59, 3) := by decide +kernel
theorem d_LW_law_300 : decode code 300 = .ok (.istore 6, 2) := by decide +kernel
theorem d_LW_law_302 : decode code 302 = .ok (.aload_n 2, 1) := by decide +kernel
theorem d_LW_law_303 : decode code 303 = .ok (.invokevirtual 43, 3) := by decide +kernel
theorem d_LW_law_306 : decode code 306 = .ok (.iload 5, 2) := by decide +kernel
theorem d_LW_law_308 : decode code 308 = .ok (.if_icmp .eq 5, 3) := by decide +kernel
theorem d_LW_law_311 : decode code 311 = .ok (.iconst 0, 1) := by decide +kernel
theorem d_LW_law_312 : decode code 312 = .ok (.ireturn, 1) := by decide +kernel
theorem d_LW_law_313 : decode code 313 = .ok (.iload 5, 2) := by decide +kernel
theorem d_LW_law_315 : decode code 315 = .ok (.ifCond .ne 15, 3) := by decide +kernel
theorem d_LW_law_318 : decode code 318 = .ok (.aload_n 3, 1) := by decide +kernel
theorem d_LW_law_319 : decode code 319 = .ok (.iconst 0, 1) := by decide +kernel
theorem d_LW_law_320 : decode code 320 = .ok (.laload, 1) := by decide +kernel
theorem d_LW_law_321 : decode code 321 = .ok (.iload 6, 2) := by decide +kernel
theorem d_LW_law_323 : decode code 323 = .ok (.i2l, 1) := by decide +kernel
theorem d_LW_law_324 : decode code 324 = .ok (.lcmp, 1) := by decide +kernel
theorem d_LW_law_325 : decode code 325 = .ok (.ifCond .eq 5, 3) := by decide +kernel
theorem d_LW_law_328 : decode code 328 = .ok (.iconst 0, 1) := by decide +kernel
theorem d_LW_law_329 : decode code 329 = .ok (.ireturn, 1) := by decide +kernel
theorem d_LW_law_330 : decode code 330 = .ok (.goto 331, 3) := by decide +kernel
theorem d_LW_law_333 : decode code 333 = .ok (.aload_n 1, 1) := by decide +kernel
theorem d_LW_law_334 : decode code 334 = .ok (.aload_n 0, 1) := by decide +kernel
theorem d_LW_law_335 : decode code 335 = .ok (.iload 4, 2) := by decide +kernel
theorem d_LW_law_337 : decode code 337 = .ok (.iconst 1, 1) := by decide +kernel
theorem d_LW_law_338 : decode code 338 = .ok (.iadd, 1) := by decide +kernel
theorem d_LW_law_339 : decode code 339 = .ok (.iaload, 1) := by decide +kernel
theorem d_LW_law_340 : decode code 340 = .ok (.aload_n 0, 1) := by decide +kernel
theorem d_LW_law_341 : decode code 341 = .ok (.iload 4, 2) := by decide +kernel
theorem d_LW_law_343 : decode code 343 = .ok (.iconst 2, 1) := by decide +kernel
theorem d_LW_law_344 : decode code 344 = .ok (.iadd, 1) := by decide +kernel
theorem d_LW_law_345 : decode code 345 = .ok (.iaload, 1) := by decide +kernel
theorem d_LW_law_346 : decode code 346 = .ok (.invokestatic 60, 3) := by decide +kernel
theorem d_LW_law_349 : decode code 349 = .ok (.istore 5, 2) := by decide +kernel
theorem d_LW_law_351 : decode code 351 = .ok (.aload_n 2, 1) := by decide +kernel
theorem d_LW_law_352 : decode code 352 = .ok (.aload_n 0, 1) := by decide +kernel
theorem d_LW_law_353 : decode code 353 = .ok (.iload 4, 2) := by decide +kernel
theorem d_LW_law_355 : decode code 355 = .ok (.iconst 1, 1) := by decide +kernel
theorem d_LW_law_356 : decode code 356 = .ok (.iadd, 1) := by decide +kernel
theorem d_LW_law_357 : decode code 357 = .ok (.iaload, 1) := by decide +kernel
theorem d_LW_law_358 : decode code 358 = .ok (.aload_n 0, 1) := by decide +kernel
theorem d_LW_law_359 : decode code 359 = .ok (.iload 4, 2) := by decide +kernel
theorem d_LW_law_361 : decode code 361 = .ok (.iconst 2, 1) := by decide +kernel
theorem d_LW_law_362 : decode code 362 = .ok (.iadd, 1) := by decide +kernel
theorem d_LW_law_363 : decode code 363 = .ok (.iaload, 1) := by decide +kernel
theorem d_LW_law_364 : decode code 364 = .ok (.invokevirtual 63, 3) := by decide +kernel
theorem d_LW_law_367 : decode code 367 = .ok (.aload_n 2, 1) := by decide +kernel
theorem d_LW_law_368 : decode code 368 = .ok (.invokevirtual 43, 3) := by decide +kernel
theorem d_LW_law_371 : decode code 371 = .ok (.iload 5, 2) := by decide +kernel
theorem d_LW_law_373 : decode code 373 = .ok (.if_icmp .eq 5, 3) := by decide +kernel
theorem d_LW_law_376 : decode code 376 = .ok (.iconst 0, 1) := by decide +kernel
theorem d_LW_law_377 : decode code 377 = .ok (.ireturn, 1) := by decide +kernel
theorem d_LW_law_378 : decode code 378 = .ok (.goto 283, 3) := by decide +kernel
theorem d_LW_law_381 : decode code 381 = .ok (.aload_n 1, 1) := by decide +kernel
theorem d_LW_law_382 : decode code 382 = .ok (.aload_n 0, 1) := by decide +kernel
theorem d_LW_law_383 : decode code 383 = .ok (.iload 4, 2) := by decide +kernel
theorem d_LW_law_385 : decode code 385 = .ok (.iconst 1, 1) := by decide +kernel
theorem d_LW_law_386 : decode code 386 = .ok (.iadd, 1) := by decide +kernel
theorem d_LW_law_387 : decode code 387 = .ok (.iaload, 1) := by decide +kernel
theorem d_LW_law_388 : decode code 388 = .ok (.aload_n 0, 1) := by decide +kernel
theorem d_LW_law_389 : decode code 389 = .ok (.iload 4, 2) := by decide +kernel
theorem d_LW_law_391 : decode code 391 = .ok (.iconst 2, 1) := by decide +kernel
theorem d_LW_law_392 : decode code 392 = .ok (.iadd, 1) := by decide +kernel
theorem d_LW_law_393 : decode code 393 = .ok (.iaload, 1) := by decide +kernel
theorem d_LW_law_394 : decode code 394 = .ok (.aload_n 0, 1) := by decide +kernel
theorem d_LW_law_395 : decode code 395 = .ok (.iload 4, 2) := by decide +kernel
theorem d_LW_law_397 : decode code 397 = .ok (.iconst 3, 1) := by decide +kernel
theorem d_LW_law_398 : decode code 398 = .ok (.iadd, 1) := by decide +kernel
theorem d_LW_law_399 : decode code 399 = .ok (.iaload, 1) := by decide +kernel
theorem d_LW_law_400 : decode code 400 = .ok (.aload_n 3, 1) := by decide +kernel
theorem d_LW_law_401 : decode code 401 = .ok (.invokestatic 64, 3) := by decide +kernel
theorem d_LW_law_404 : decode code 404 = .ok (.istore 5, 2) := by decide +kernel
theorem d_LW_law_406 : decode code 406 = .ok (.aload_n 2, 1) := by decide +kernel
theorem d_LW_law_407 : decode code 407 = .ok (.aload_n 0, 1) := by decide +kernel
theorem d_LW_law_408 : decode code 408 = .ok (.iload 4, 2) := by decide +kernel
theorem d_LW_law_410 : decode code 410 = .ok (.iconst 1, 1) := by decide +kernel
theorem d_LW_law_411 : decode code 411 = .ok (.iadd, 1) := by decide +kernel
theorem d_LW_law_412 : decode code 412 = .ok (.iaload, 1) := by decide +kernel
theorem d_LW_law_413 : decode code 413 = .ok (.aload_n 0, 1) := by decide +kernel
theorem d_LW_law_414 : decode code 414 = .ok (.iload 4, 2) := by decide +kernel
theorem d_LW_law_416 : decode code 416 = .ok (.iconst 2, 1) := by decide +kernel
theorem d_LW_law_417 : decode code 417 = .ok (.iadd, 1) := by decide +kernel
theorem d_LW_law_418 : decode code 418 = .ok (.iaload, 1) := by decide +kernel
theorem d_LW_law_419 : decode code 419 = .ok (.aload_n 0, 1) := by decide +kernel
theorem d_LW_law_420 : decode code 420 = .ok (.iload 4, 2) := by decide +kernel
theorem d_LW_law_422 : decode code 422 = .ok (.iconst 3, 1) := by decide +kernel
theorem d_LW_law_423 : decode code 423 = .ok (.iadd, 1) := by decide +kernel
theorem d_LW_law_424 : decode code 424 = .ok (.iaload, 1) := by decide +kernel
theorem d_LW_law_425 : decode code 425 = .ok (.invokevirtual 67, 3) := by decide +kernel
theorem d_LW_law_428 : decode code 428 = .ok (.istore 6, 2) := by decide +kernel
theorem d_LW_law_430 : decode code 430 = .ok (.aload_n 2, 1) := by decide +kernel
theorem d_LW_law_431 : decode code 431 = .ok (.invokevirtual 43, 3) := by decide +kernel
theorem d_LW_law_434 : decode code 434 = .ok (.iload 5, 2) := by decide +kernel
theorem d_LW_law_436 : decode code 436 = .ok (.if_icmp .eq 5, 3) := by decide +kernel
theorem d_LW_law_439 : decode code 439 = .ok (.iconst 0, 1) := by decide +kernel
theorem d_LW_law_440 : decode code 440 = .ok (.ireturn, 1) := by decide +kernel
theorem d_LW_law_441 : decode code 441 = .ok (.iload 5, 2) := by decide +kernel
theorem d_LW_law_443 : decode code 443 = .ok (.ifCond .ne 15, 3) := by decide +kernel
theorem d_LW_law_446 : decode code 446 = .ok (.aload_n 3, 1) := by decide +kernel
theorem d_LW_law_447 : decode code 447 = .ok (.iconst 0, 1) := by decide +kernel
theorem d_LW_law_448 : decode code 448 = .ok (.laload, 1) := by decide +kernel
theorem d_LW_law_449 : decode code 449 = .ok (.iload 6, 2) := by decide +kernel
theorem d_LW_law_451 : decode code 451 = .ok (.i2l, 1) := by decide +kernel
theorem d_LW_law_452 : decode code 452 = .ok (.lcmp, 1) := by decide +kernel
theorem d_LW_law_453 : decode code 453 = .ok (.ifCond .eq 5, 3) := by decide +kernel
theorem d_LW_law_456 : decode code 456 = .ok (.iconst 0, 1) := by decide +kernel
theorem d_LW_law_457 : decode code 457 = .ok (.ireturn, 1) := by decide +kernel
theorem d_LW_law_458 : decode code 458 = .ok (.goto 203, 3) := by decide +kernel
theorem d_LW_law_461 : decode code 461 = .ok (.aload_n 1, 1) := by decide +kernel
theorem d_LW_law_462 : decode code 462 = .ok (.aload_n 0, 1) := by decide +kernel
theorem d_LW_law_463 : decode code 463 = .ok (.iload 4, 2) := by decide +kernel
theorem d_LW_law_465 : decode code 465 = .ok (.iconst 1, 1) := by decide +kernel
theorem d_LW_law_466 : decode code 466 = .ok (.iadd, 1) := by decide +kernel
theorem d_LW_law_467 : decode code 467 = .ok (.iaload, 1) := by decide +kernel
theorem d_LW_law_468 : decode code 468 = .ok (.invokevirtual 68, 3) := by decide +kernel
theorem d_LW_law_471 : decode code 471 = .ok (.aload_n 2, 1) := by decide +kernel
theorem d_LW_law_472 : decode code 472 = .ok (.aload_n 0, 1) := by decide +kernel
theorem d_LW_law_473 : decode code 473 = .ok (.iload 4, 2) := by decide +kernel
theorem d_LW_law_475 : decode code 475 = .ok (.iconst 1, 1) := by decide +kernel
theorem d_LW_law_476 : decode code 476 = .ok (.iadd, 1) := by decide +kernel
theorem d_LW_law_477 : decode code 477 = .ok (.iaload, 1) := by decide +kernel
theorem d_LW_law_478 : decode code 478 = .ok (.invokevirtual 71, 3) := by decide +kernel
theorem d_LW_law_481 : decode code 481 = .ok (.if_icmp .eq 180, 3) := by decide +kernel
theorem d_LW_law_484 : decode code 484 = .ok (.iconst 0, 1) := by decide +kernel
theorem d_LW_law_485 : decode code 485 = .ok (.ireturn, 1) := by decide +kernel
theorem d_LW_law_486 : decode code 486 = .ok (.aload_n 1, 1) := by decide +kernel
theorem d_LW_law_487 : decode code 487 = .ok (.aload_n 0, 1) := by decide +kernel
theorem d_LW_law_488 : decode code 488 = .ok (.iload 4, 2) := by decide +kernel
theorem d_LW_law_490 : decode code 490 = .ok (.iconst 1, 1) := by decide +kernel
theorem d_LW_law_491 : decode code 491 = .ok (.iadd, 1) := by decide +kernel
theorem d_LW_law_492 : decode code 492 = .ok (.iaload, 1) := by decide +kernel
theorem d_LW_law_493 : decode code 493 = .ok (.aload_n 0, 1) := by decide +kernel
theorem d_LW_law_494 : decode code 494 = .ok (.iload 4, 2) := by decide +kernel
theorem d_LW_law_496 : decode code 496 = .ok (.iconst 2, 1) := by decide +kernel
theorem d_LW_law_497 : decode code 497 = .ok (.iadd, 1) := by decide +kernel
theorem d_LW_law_498 : decode code 498 = .ok (.iaload, 1) := by decide +kernel
theorem d_LW_law_499 : decode code 499 = .ok (.invokevirtual 72, 3) := by decide +kernel
theorem d_LW_law_502 : decode code 502 = .ok (.aload_n 2, 1) := by decide +kernel
theorem d_LW_law_503 : decode code 503 = .ok (.aload_n 0, 1) := by decide +kernel
theorem d_LW_law_504 : decode code 504 = .ok (.iload 4, 2) := by decide +kernel
theorem d_LW_law_506 : decode code 506 = .ok (.iconst 1, 1) := by decide +kernel
theorem d_LW_law_507 : decode code 507 = .ok (.iadd, 1) := by decide +kernel
theorem d_LW_law_508 : decode code 508 = .ok (.iaload, 1) := by decide +kernel
theorem d_LW_law_509 : decode code 509 = .ok (.aload_n 0, 1) := by decide +kernel
theorem d_LW_law_510 : decode code 510 = .ok (.iload 4, 2) := by decide +kernel
theorem d_LW_law_512 : decode code 512 = .ok (.iconst 2, 1) := by decide +kernel
theorem d_LW_law_513 : decode code 513 = .ok (.iadd, 1) := by decide +kernel
theorem d_LW_law_514 : decode code 514 = .ok (.iaload, 1) := by decide +kernel
theorem d_LW_law_515 : decode code 515 = .ok (.invokevirtual 76, 3) := by decide +kernel
theorem d_LW_law_518 : decode code 518 = .ok (.if_icmp .eq 143, 3) := by decide +kernel
theorem d_LW_law_521 : decode code 521 = .ok (.iconst 0, 1) := by decide +kernel
theorem d_LW_law_522 : decode code 522 = .ok (.ireturn, 1) := by decide +kernel
theorem d_LW_law_523 : decode code 523 = .ok (.aload_n 1, 1) := by decide +kernel
theorem d_LW_law_524 : decode code 524 = .ok (.invokevirtual 77, 3) := by decide +kernel
theorem d_LW_law_527 : decode code 527 = .ok (.aload_n 2, 1) := by decide +kernel
theorem d_LW_law_528 : decode code 528 = .ok (.invokevirtual 80, 3) := by decide +kernel
theorem d_LW_law_531 : decode code 531 = .ok (.if_icmp .eq 130, 3) := by decide +kernel
theorem d_LW_law_534 : decode code 534 = .ok (.iconst 0, 1) := by decide +kernel
theorem d_LW_law_535 : decode code 535 = .ok (.ireturn, 1) := by decide +kernel
theorem d_LW_law_536 : decode code 536 = .ok (.aload_n 1, 1) := by decide +kernel
theorem d_LW_law_537 : decode code 537 = .ok (.aload_n 0, 1) := by decide +kernel
theorem d_LW_law_538 : decode code 538 = .ok (.iload 4, 2) := by decide +kernel
theorem d_LW_law_540 : decode code 540 = .ok (.iconst 1, 1) := by decide +kernel
theorem d_LW_law_541 : decode code 541 = .ok (.iadd, 1) := by decide +kernel
theorem d_LW_law_542 : decode code 542 = .ok (.iaload, 1) := by decide +kernel
theorem d_LW_law_543 : decode code 543 = .ok (.aload_n 0, 1) := by decide +kernel
theorem d_LW_law_544 : decode code 544 = .ok (.iload 4, 2) := by decide +kernel
theorem d_LW_law_546 : decode code 546 = .ok (.iconst 2, 1) := by decide +kernel
theorem d_LW_law_547 : decode code 547 = .ok (.iadd, 1) := by decide +kernel
theorem d_LW_law_548 : decode code 548 = .ok (.iaload, 1) := by decide +kernel
theorem d_LW_law_549 : decode code 549 = .ok (.invokevirtual 81, 3) := by decide +kernel
theorem d_LW_law_552 : decode code 552 = .ok (.aload_n 2, 1) := by decide +kernel
theorem d_LW_law_553 : decode code 553 = .ok (.aload_n 0, 1) := by decide +kernel
theorem d_LW_law_554 : decode code 554 = .ok (.iload 4, 2) := by decide +kernel
theorem d_LW_law_556 : decode code 556 = .ok (.iconst 1, 1) := by decide +kernel
theorem d_LW_law_557 : decode code 557 = .ok (.iadd, 1) := by decide +kernel
theorem d_LW_law_558 : decode code 558 = .ok (.iaload, 1) := by decide +kernel
theorem d_LW_law_559 : decode code 559 = .ok (.aload_n 0, 1) := by decide +kernel
theorem d_LW_law_560 : decode code 560 = .ok (.iload 4, 2) := by decide +kernel
theorem d_LW_law_562 : decode code 562 = .ok (.iconst 2, 1) := by decide +kernel
theorem d_LW_law_563 : decode code 563 = .ok (.iadd, 1) := by decide +kernel
theorem d_LW_law_564 : decode code 564 = .ok (.iaload, 1) := by decide +kernel
theorem d_LW_law_565 : decode code 565 = .ok (.invokevirtual 85, 3) := by decide +kernel
theorem d_LW_law_568 : decode code 568 = .ok (.if_icmp .eq 93, 3) := by decide +kernel
theorem d_LW_law_571 : decode code 571 = .ok (.iconst 0, 1) := by decide +kernel
theorem d_LW_law_572 : decode code 572 = .ok (.ireturn, 1) := by decide +kernel
theorem d_LW_law_573 : decode code 573 = .ok (.aload_n 1, 1) := by decide +kernel
theorem d_LW_law_574 : decode code 574 = .ok (.aload_n 0, 1) := by decide +kernel
theorem d_LW_law_575 : decode code 575 = .ok (.iload 4, 2) := by decide +kernel
theorem d_LW_law_577 : decode code 577 = .ok (.iconst 1, 1) := by decide +kernel
theorem d_LW_law_578 : decode code 578 = .ok (.iadd, 1) := by decide +kernel
theorem d_LW_law_579 : decode code 579 = .ok (.iaload, 1) := by decide +kernel
theorem d_LW_law_580 : decode code 580 = .ok (.invokevirtual 86, 3) := by decide +kernel
theorem d_LW_law_583 : decode code 583 = .ok (.aload_n 2, 1) := by decide +kernel
theorem d_LW_law_584 : decode code 584 = .ok (.aload_n 0, 1) := by decide +kernel
theorem d_LW_law_585 : decode code 585 = .ok (.iload 4, 2) := by decide +kernel
theorem d_LW_law_587 : decode code 587 = .ok (.iconst 1, 1) := by decide +kernel
theorem d_LW_law_588 : decode code 588 = .ok (.iadd, 1) := by decide +kernel
theorem d_LW_law_589 : decode code 589 = .ok (.iaload, 1) := by decide +kernel
theorem d_LW_law_590 : decode code 590 = .ok (.invokevirtual 89, 3) := by decide +kernel
theorem d_LW_law_593 : decode code 593 = .ok (.if_icmp .eq 68, 3) := by decide +kernel
theorem d_LW_law_596 : decode code 596 = .ok (.iconst 0, 1) := by decide +kernel
theorem d_LW_law_597 : decode code 597 = .ok (.ireturn, 1) := by decide +kernel
theorem d_LW_law_598 : decode code 598 = .ok (.aload_n 1, 1) := by decide +kernel
theorem d_LW_law_599 : decode code 599 = .ok (.aload_n 0, 1) := by decide +kernel
theorem d_LW_law_600 : decode code 600 = .ok (.iload 4, 2) := by decide +kernel
theorem d_LW_law_602 : decode code 602 = .ok (.iconst 1, 1) := by decide +kernel
theorem d_LW_law_603 : decode code 603 = .ok (.iadd, 1) := by decide +kernel
theorem d_LW_law_604 : decode code 604 = .ok (.iaload, 1) := by decide +kernel
theorem d_LW_law_605 : decode code 605 = .ok (.invokevirtual 90, 3) := by decide +kernel
theorem d_LW_law_608 : decode code 608 = .ok (.aload_n 2, 1) := by decide +kernel
theorem d_LW_law_609 : decode code 609 = .ok (.aload_n 0, 1) := by decide +kernel
theorem d_LW_law_610 : decode code 610 = .ok (.iload 4, 2) := by decide +kernel
theorem d_LW_law_612 : decode code 612 = .ok (.iconst 1, 1) := by decide +kernel
theorem d_LW_law_613 : decode code 613 = .ok (.iadd, 1) := by decide +kernel
theorem d_LW_law_614 : decode code 614 = .ok (.iaload, 1) := by decide +kernel
theorem d_LW_law_615 : decode code 615 = .ok (.invokevirtual 93, 3) := by decide +kernel
theorem d_LW_law_618 : decode code 618 = .ok (.if_icmp .eq 43, 3) := by decide +kernel
theorem d_LW_law_621 : decode code 621 = .ok (.iconst 0, 1) := by decide +kernel
theorem d_LW_law_622 : decode code 622 = .ok (.ireturn, 1) := by decide +kernel
theorem d_LW_law_623 : decode code 623 = .ok (.aload_n 1, 1) := by decide +kernel
theorem d_LW_law_624 : decode code 624 = .ok (.aload_n 0, 1) := by decide +kernel
theorem d_LW_law_625 : decode code 625 = .ok (.iload 4, 2) := by decide +kernel
theorem d_LW_law_627 : decode code 627 = .ok (.iconst 1, 1) := by decide +kernel
theorem d_LW_law_628 : decode code 628 = .ok (.iadd, 1) := by decide +kernel
theorem d_LW_law_629 : decode code 629 = .ok (.iaload, 1) := by decide +kernel
theorem d_LW_law_630 : decode code 630 = .ok (.invokevirtual 94, 3) := by decide +kernel
theorem d_LW_law_633 : decode code 633 = .ok (.aload_n 2, 1) := by decide +kernel
theorem d_LW_law_634 : decode code 634 = .ok (.aload_n 0, 1) := by decide +kernel
theorem d_LW_law_635 : decode code 635 = .ok (.iload 4, 2) := by decide +kernel
theorem d_LW_law_637 : decode code 637 = .ok (.iconst 1, 1) := by decide +kernel
theorem d_LW_law_638 : decode code 638 = .ok (.iadd, 1) := by decide +kernel
theorem d_LW_law_639 : decode code 639 = .ok (.iaload, 1) := by decide +kernel
theorem d_LW_law_640 : decode code 640 = .ok (.invokevirtual 97, 3) := by decide +kernel
theorem d_LW_law_643 : decode code 643 = .ok (.if_icmp .eq 18, 3) := by decide +kernel
theorem d_LW_law_646 : decode code 646 = .ok (.iconst 0, 1) := by decide +kernel
theorem d_LW_law_647 : decode code 647 = .ok (.ireturn, 1) := by decide +kernel
theorem d_LW_law_648 : decode code 648 = .ok (.aload_n 1, 1) := by decide +kernel
theorem d_LW_law_649 : decode code 649 = .ok (.invokevirtual 98, 3) := by decide +kernel
theorem d_LW_law_652 : decode code 652 = .ok (.aload_n 2, 1) := by decide +kernel
theorem d_LW_law_653 : decode code 653 = .ok (.invokevirtual 102, 3) := by decide +kernel
theorem d_LW_law_656 : decode code 656 = .ok (.if_icmp .eq 5, 3) := by decide +kernel
theorem d_LW_law_659 : decode code 659 = .ok (.iconst 0, 1) := by decide +kernel
theorem d_LW_law_660 : decode code 660 = .ok (.ireturn, 1) := by decide +kernel
theorem d_LW_law_661 : decode code 661 = .ok (.iinc 4 5, 3) := by decide +kernel
theorem d_LW_law_664 : decode code 664 = .ok (.goto (-641), 3) := by decide +kernel
theorem d_LW_law_667 : decode code 667 = .ok (.iconst 1, 1) := by decide +kernel
theorem d_LW_law_668 : decode code 668 = .ok (.ireturn, 1) := by decide +kernel
end
section
/-! BASE: numbers and rows that the walks use; contracts with one exact answer (ro_: nothing is written; rw_: the world is changed in place) -/
theorem ss_sl : ∀ n, n < 32 → ((nI n &&& 31).toBitVec.smod 32).toNat = n := by decide +kernel
theorem ss_shr {n k : Nat} (hn : n < 2 ^ 31) (hk : k < 32) : nI n >>> (nI k &&& 31) = nI (n / 2 ^ k) := pk_shrN hn _ k (ss_sl k hk)
theorem ss_shl {n k : Nat} (hk : k < 32) (h : n * 2 ^ k < 2 ^ 32) : nI n <<< (nI k &&& 31) = nI (n * 2 ^ k) := pk_shlN _ k (ss_sl k hk) h
theorem ss_or (a b : Nat) : nI a ||| nI b = nI (a ||| b) := by
  apply Int32.toBitVec_inj.1
  show BitVec.ofNat 32 a ||| BitVec.ofNat 32 b = BitVec.ofNat 32 (a ||| b)
  apply BitVec.eq_of_getLsbD_eq
  intro i hi
  simp [hi]
def ss_up (f : Nat → Nat) (k v : Nat) : Nat → Nat := fun j => if j = k then v else f j
theorem ss_up_s (f : Nat → Nat) (k v : Nat) : ss_up f k v k = v := by simp [ss_up]
theorem ss_up_n (f : Nat → Nat) {k j : Nat} (v : Nat) (h : j ≠ k) : ss_up f k v j = f j := by simp [ss_up, h]
theorem ss_upI (f : Nat → Nat) {k v : Nat} (h : k < 2 ^ 31) : upd (fun j => nI (f j)) (nI k).toNatClampNeg (nI v) = fun j => nI (ss_up f k v j) := by
  funext j
  rw [nI_clamp h]
  unfold upd ss_up
  split <;> rfl
theorem ss_up_lt {f : Nat → Nat} {N : Nat} (h : ∀ j, f j < N) {k v : Nat} (hv : v < N) : ∀ j, ss_up f k v j < N := by
  intro j
  unfold ss_up
  split
  · exact hv
  · exact h j
/-- a boolean's int -/
def bI (P : Prop) [Decidable P] : Int32 := if P then 1 else 0
theorem bI_t {P : Prop} [Decidable P] (h : P) : nI 1 = bI P := by simp [bI, h]; decide
theorem bI_f {P : Prop} [Decidable P] (h : ¬ P) : nI 0 = bI P := by simp [bI, h]; decide
theorem bI_0 {P : Prop} [Decidable P] : bI P = 0 ↔ ¬ P := by
  unfold bI
  split
  · rename_i h; exact ⟨fun z => absurd z (by decide), fun z => absurd h z⟩
  · rename_i h; exact ⟨fun _ => h, fun _ => rfl⟩
theorem zn_lt {x : Int32} {b : Nat} (hb : b < 2 ^ 31) : x < nI b ↔ x.toInt < (b : Int) := by rw [Int32.lt_iff_toInt_lt, nI_toInt hb]
theorem zn_le {x : Int32} {b : Nat} (hb : b < 2 ^ 31) : x ≤ nI b ↔ x.toInt ≤ (b : Int) := by rw [Int32.le_iff_toInt_le, nI_toInt hb]
theorem nz_lt {x : Int32} {b : Nat} (hb : b < 2 ^ 31) : nI b < x ↔ (b : Int) < x.toInt := by rw [Int32.lt_iff_toInt_lt, nI_toInt hb]
theorem nz_le {x : Int32} {b : Nat} (hb : b < 2 ^ 31) : nI b ≤ x ↔ (b : Int) ≤ x.toInt := by rw [Int32.le_iff_toInt_le, nI_toInt hb]
theorem zn_eq {x : Int32} {b : Nat} (hb : b < 2 ^ 31) : x = nI b ↔ x.toInt = (b : Int) := by rw [← Int32.toInt_inj, nI_toInt hb]
theorem z_lt0 {x : Int32} : x < 0 ↔ x.toInt < 0 := by rw [Int32.lt_iff_toInt_lt, Int32.toInt_zero]
theorem z_ge0 {x : Int32} : 0 ≤ x ↔ 0 ≤ x.toInt := by rw [Int32.le_iff_toInt_le, Int32.toInt_zero]
theorem z_gt0 {x : Int32} : 0 < x ↔ 0 < x.toInt := by rw [Int32.lt_iff_toInt_lt, Int32.toInt_zero]
theorem z_le0 {x : Int32} : x ≤ 0 ↔ x.toInt ≤ 0 := by rw [Int32.le_iff_toInt_le, Int32.toInt_zero]
theorem z_eq0 {x : Int32} : x = 0 ↔ x.toInt = 0 := by rw [← Int32.toInt_inj, Int32.toInt_zero]
theorem n_eq0 {a : Nat} (h : a < 2 ^ 31) : nI a = 0 ↔ a = 0 := by rw [z_eq0, nI_toInt h]; omega
theorem n_gt0 {a : Nat} (h : a < 2 ^ 31) : 0 < nI a ↔ 0 < a := by rw [z_gt0, nI_toInt h]; omega
theorem n_le0 {a : Nat} (h : a < 2 ^ 31) : nI a ≤ 0 ↔ a = 0 := by rw [z_le0, nI_toInt h]; omega
theorem n_lt0 {a : Nat} (h : a < 2 ^ 31) : nI a < 0 ↔ a < 0 := by rw [z_lt0, nI_toInt h]; omega
theorem n_ge0 {a : Nat} (h : a < 2 ^ 31) : 0 ≤ nI a ↔ 0 ≤ a := by rw [z_ge0, nI_toInt h]; omega
theorem n_ix {x : Int32} {n : Nat} (h0 : 0 ≤ x.toInt) (h : x.toInt < (n : Int)) : ∃ j : Nat, j < n ∧ x = nI j := by
  have h1 := Int32.toInt_lt x
  refine ⟨x.toInt.toNat, by omega, Int32.toInt_inj.mp ?_⟩
  rw [nI_toInt (by omega)]
  omega
def ss_so (b s : Nat) : Nat := if s / b % 2 = 1 then s else s + b
section SSB
variable {p : Program} {l : Launch} {e : Env} {R : Room} {s : State} {m : MethodId} {args : Array Value} {below : List Frame} {meth : Method} {c : Code} {H : Heap} {locs : List Loc} {cells slots : Nat} {Q : State → Prop} {pc : Nat} {ls : Array Slot} {st : List Value} {cc : ByteArray}
theorem ss_rt {x y : Int32} (h : x = y) (k : W p l e R s m args below meth c H locs cells slots Q (F0 m pc ls (.int y :: st))) : W p l e R s m args below meth c H locs cells slots Q (F0 m pc ls (.int x :: st)) := by
  subst h; exact k
theorem ss_rl {x y : Int64} (h : x = y) (k : W p l e R s m args below meth c H locs cells slots Q (F0 m pc ls (.long y :: st))) : W p l e R s m args below meth c H locs cells slots Q (F0 m pc ls (.long x :: st)) := by
  subst h; exact k
theorem ss_rv {x y : Value} (h : x = y) (k : W p l e R s m args below meth c H locs cells slots Q (F0 m pc ls (y :: st))) : W p l e R s m args below meth c H locs cells slots Q (F0 m pc ls (x :: st)) := by
  subst h; exact k
end SSB
/-- a method's words: its code, and all that may be handed on -/
abbrev wsG (y : MethodName) (cc : ByteArray) (n : Nat) (ret : Option FieldType) : List Cond := Cond.code y cc n ret :: GW
abbrev kT (k : Nat → ClassId) : List (ClassId × FieldType) := [(k 0, .int), (k 1, .boolean), (k 2, .object "SlotScreen$Device"), (k 3, .long)]
theorem gV {own C : String} {i n : Nat} {y : MethodName} {b : ByteArray} {ret : Option FieldType} (h1 : Cond.methodLink own i y ∈ GW) (h2 : Cond.instanceMethod y ∈ GW) (h3 : Cond.selects C y y ∈ GW) (h4 : Cond.initialized C ∈ GW) (h5 : Cond.code y b n ret ∈ GW) : GoodIn GW (wsV own i C y (wsG y b n ret)) := by
  intro w hw
  have hm : w ∈ GW := by
    unfold wsV at hw
    rcases List.mem_append.mp hw with h | h
    · simp only [List.mem_cons, List.not_mem_nil, or_false] at h
      rcases h with rfl | rfl | rfl | rfl <;> assumption
    · rcases List.mem_cons.mp h with rfl | h <;> assumption
  exact ⟨hm, gw_good w hm⟩
theorem gS {own : String} {i n : Nat} {y : MethodName} {b : ByteArray} {ret : Option FieldType} (h1 : Cond.methodLink own i y ∈ GW) (h2 : Cond.static y ∈ GW) (h4 : Cond.initialized y.cls ∈ GW) (h5 : Cond.code y b n ret ∈ GW) : GoodIn GW (va_wsS own i y (wsG y b n ret)) := by
  intro w hw
  have hm : w ∈ GW := by
    unfold va_wsS at hw
    rcases List.mem_append.mp hw with h | h
    · simp only [List.mem_cons, List.not_mem_nil, or_false] at h
      rcases h with rfl | rfl | rfl <;> assumption
    · rcases List.mem_cons.mp h with rfl | h <;> assumption
  exact ⟨hm, gw_good w hm⟩
def ro_P (D : va_G) (E : List (ClassId × FieldType)) (w : va_W) (as : List Value) : Array Value → State → Prop := va_Pc as (fun U => va_P D vwCl w U.heap ∧ va_K D vwCl E U)
def ro_i (l : Launch) (y : MethodName) (cc : ByteArray) (maxL : Nat) (ret : Option FieldType) (rm : Room) (D : va_G) (E : List (ClassId × FieldType)) (w : va_W) (as : List Value) (r : Int32) : Prop := Met l y (wsG y cc maxL ret) rm (ro_P D E w as) (vp_Si (fun x => x = r)) 0 0 (fun _ => False)
def ro_q (l : Launch) (y : MethodName) (cc : ByteArray) (maxL : Nat) (ret : Option FieldType) (rm : Room) (D : va_G) (E : List (ClassId × FieldType)) (w : va_W) (as : List Value) (r : Option Nat) : Prop := Met l y (wsG y cc maxL ret) rm (ro_P D E w as) (va_Sq (fun x => x = r)) 0 0 (fun _ => False)
def rw_P (D : va_G) (E : List (ClassId × FieldType)) (w : va_W) (as : List Value) (sz : Nat) : Array Value → State → Prop := va_Pc as (fun U => U.heap.size = sz ∧ va_P D vwCl w U.heap ∧ va_K D vwCl E U ∧ va_D (fun _ => True) w)
/-- an answer and a world behind it, both named by u -/
def rw_Qi {T : Type} (D : va_G) (post : Int32 → T → Prop) (wf : T → va_W) (A : Nat → Prop) : Array Value → State → Outcome → State → Prop := va_Qi post (fun u t => va_P D vwCl (wf u) t.heap) A
def rw_Qv {T : Type} (D : va_G) (post : T → Prop) (wf : T → va_W) (A : Nat → Prop) : Array Value → State → Outcome → State → Prop := va_Qv post (fun u t => va_P D vwCl (wf u) t.heap) A
def rw_i {T : Type} (l : Launch) (y : MethodName) (cc : ByteArray) (maxL : Nat) (ret : Option FieldType) (rm : Room) (D : va_G) (E : List (ClassId × FieldType)) (w : va_W) (as : List Value) (post : Int32 → T → Prop) (wf : T → va_W) : Prop := ∀ sz, Met l y (wsG y cc maxL ret) rm (rw_P D E w as sz) (rw_Qi D post wf (va_A w sz)) 0 0 (va_A w sz)
def rw_v {T : Type} (l : Launch) (y : MethodName) (cc : ByteArray) (maxL : Nat) (ret : Option FieldType) (rm : Room) (D : va_G) (E : List (ClassId × FieldType)) (w : va_W) (as : List Value) (post : T → Prop) (wf : T → va_W) : Prop := ∀ sz, Met l y (wsG y cc maxL ret) rm (rw_P D E w as sz) (rw_Qv D post wf (va_A w sz)) 0 0 (va_A w sz)
theorem ro_blind {D : va_G} {E : List (ClassId × FieldType)} {w : va_W} {as : List Value} : FrameBlind (ro_P D E w as) := fun a U g mk q => ⟨q.1, q.2.1, va_K.moved (u := U) (U := U.calling g mk a) (Vm.Alike.refl U.vm) q.2.2⟩
theorem rw_blind {D : va_G} {E : List (ClassId × FieldType)} {w : va_W} {as : List Value} {sz : Nat} : FrameBlind (rw_P D E w as sz) := fun a U g mk q => ⟨q.1, q.2.1, q.2.2.1, va_K.moved (u := U) (U := U.calling g mk a) (Vm.Alike.refl U.vm) q.2.2.2.1, q.2.2.2.2⟩
theorem ro_pre {D : va_G} {E : List (ClassId × FieldType)} {w : va_W} {s : State} {H : Heap} (hP : va_P D vwCl w H) (hK : va_K D vwCl E s) (as : List Value) : ∀ U : State, U.heap = H → s.WarmedH U.vm → ro_P D E w as as.toArray U := fun U hU hW => ⟨rfl, by rw [hU]; exact hP, va_K.moved hW.alike hK⟩
theorem rw_pre {D : va_G} {E : List (ClassId × FieldType)} {w : va_W} {s : State} {H : Heap} {A : Nat → Prop} (hP : va_P D vwCl w H) (hK : va_K D vwCl E s) (hD : va_D A w) (as : List Value) : ∀ U : State, U.heap = H → s.WarmedH U.vm → rw_P D E w as H.size as.toArray U := fun U hU hW => ⟨rfl, by rw [hU], by rw [hU]; exact hP, va_K.moved hW.alike hK, hD.weaken (fun _ _ _ _ => trivial)⟩
/-- the same addresses, other contents: still apart -/
theorem rw_same {A : Nat → Prop} {w w' : va_W} (hD : va_D A w) (h : w'.map Prod.fst = w.map Prod.fst) : va_D A w' := by
  have at' : ∀ (k : Nat) (q : Nat × va_E), w'[k]? = some q → ∃ r : Nat × va_E, w[k]? = some r ∧ r.1 = q.1 := by
    intro k q hq
    have h1 : (w'.map Prod.fst)[k]? = some q.1 := by rw [List.getElem?_map, hq]; rfl
    rw [h, List.getElem?_map] at h1
    cases hw : w[k]? with
    | none => rw [hw] at h1; cases h1
    | some r => rw [hw] at h1; exact ⟨r, rfl, Option.some.inj h1⟩
  refine ⟨fun i j x y hx hy hxy => ?_, fun k q hq => ?_⟩
  · obtain ⟨x1, h1, e1⟩ := at' i x hx
    obtain ⟨y1, h2, e2⟩ := at' j y hy
    exact hD.1 i j x1 y1 h1 h2 (by rw [e1, e2]; exact hxy)
  · obtain ⟨r, h1, e1⟩ := at' k q hq
    rw [← e1]
    exact hD.2 k r h1
/-- behind a call on the whole world -/
theorem rw_S {A : Nat → Prop} {w : va_W} {H : Heap} (hD : va_D A w) {H0 : Heap} {locs : List Loc} (hS : va_S A H0 H locs) (hA : ∀ q, H0.size ≤ q → A q) : ∀ q, va_A w H.size q → A q := by
  intro q h
  rcases h with ⟨k, e, h⟩ | h
  · exact hD.2 k (q, e) h
  · exact hA q (Nat.le_trans hS.1 h)
/-- the cells of a world, some of them handed to a callee that changed them in place; who isn't handed stays -/
theorem rw_fr {A : Nat → Prop} {D : va_G} {cl : List vw_C} {ws wc w1 ws' : va_W} {H H1 : Heap} (hP : va_P D cl ws H) (hD : va_D A ws) (hc : ∀ q ∈ wc, q ∈ ws)
    (hk : ∀ q : Nat, q < H.size → ¬ va_A wc H.size q → H1[q]? = H[q]?) (hP1 : va_P D cl w1 H1) (hin : ∀ q ∈ ws', q ∈ w1 ∨ (q ∈ ws ∧ q ∉ wc)) : va_P D cl ws' H1 := by
  intro k q hq
  rcases hin q (List.mem_of_getElem? hq) with h | ⟨h, hn⟩
  · obtain ⟨i, hi⟩ := List.getElem?_of_mem h
    exact hP1 i q hi
  · obtain ⟨i, hi⟩ := List.getElem?_of_mem h
    have hat := hP i q hi
    refine hat.kept (hk q.1 hat.lt ?_)
    intro hA
    rcases hA with ⟨j, e, hj⟩ | hA
    · have hm := List.mem_of_getElem? hj
      obtain ⟨j2, hj2⟩ := List.getElem?_of_mem (hc _ hm)
      have he := hD.1 i j2 q (q.1, e) hi hj2 rfl
      subst he
      rw [hi] at hj2
      have h9 := Option.some.inj hj2
      rw [← h9] at hm
      exact hn hm
    · exact absurd hat.lt (by omega)
section SSH
variable {l : Launch} {y : MethodName} {rm : Room} {D : va_G} {E : List (ClassId × FieldType)} {w w' : va_W} {as : List Value} {r : Int32} {cc : ByteArray} {maxL : Nat} {ret : Option FieldType}
/-- the head of a reading method's contract -/
theorem ro_head {Qc : Array Value → State → Outcome → State → Prop} (hy : plainName y.cls = true) (hlen : (lg_sl as).length ≤ maxL)
    (body : ∀ (p : Program) (e : Env) (s : State) (m : MethodId) (below : List Frame) (meth : Method) (c : Code) (ls : Array Slot), p.tables.exec = Jvm.exec → c.code = cc → meth.sig.returnType = ret → meth.locks = false → c.maxLocals = maxL → s.vm.findClass y.cls = some m.cls →
      (∀ x ∈ GW, x.before as.toArray s = true) → va_P D vwCl w s.heap → va_K D vwCl E s → lv_has ls maxL (lv_args 0 as) →
      W p l e (headSpec (wsG y cc maxL ret) rm).room s m as.toArray below meth c s.heap [] 0 0 (MQ below Qc as.toArray s 0 0 (fun _ => False)) (F0 m 0 ls [])) :
    Met l y (wsG y cc maxL ret) rm (ro_P D E w as) Qc 0 0 (fun _ => False) := by
  refine Met.ofW (cc := cc) (maxL := maxL) (ret := ret) hy rfl ?_
  intro p e s m args below meth c s₁ B hml hv
  obtain ⟨rfl, hP, hK⟩ := hv
  have hts0 := atoms_spec (ws := wsG y cc maxL ret) B.pre
  have hts : ∀ x ∈ GW, x.before as.toArray s = true := fun x h => hts0 x (List.mem_cons_of_mem _ h)
  have hown : s.vm.findClass y.cls = some m.cls := findClass_of_methodNamed B.named
  have hl := lv_entry as (n := maxL) hlen
  rw [lg_entry_eq]
  exact body p e s m below meth c _ B.exec B.bytes B.returns B.notSynchronized hml hown hts hP hK hl
/-- .. of a writing one -/
theorem rw_head {Qc : (Nat → Prop) → Array Value → State → Outcome → State → Prop} (hy : plainName y.cls = true) (hlen : (lg_sl as).length ≤ maxL)
    (body : ∀ (p : Program) (e : Env) (s : State) (m : MethodId) (below : List Frame) (meth : Method) (c : Code) (ls : Array Slot) (A : Nat → Prop), p.tables.exec = Jvm.exec → c.code = cc → meth.sig.returnType = ret → meth.locks = false → c.maxLocals = maxL → s.vm.findClass y.cls = some m.cls →
      (∀ x ∈ GW, x.before as.toArray s = true) → va_K D vwCl E s → (∀ q : Nat, s.heap.size ≤ q → A q) → va_P D vwCl w s.heap → va_D A w → va_S A s.heap s.heap [] → lv_has ls maxL (lv_args 0 as) →
      W p l e (headSpec (wsG y cc maxL ret) rm).room s m as.toArray below meth c s.heap [] 0 0 (MQ below (Qc A) as.toArray s 0 0 A) (F0 m 0 ls [])) :
    ∀ sz, Met l y (wsG y cc maxL ret) rm (rw_P D E w as sz) (Qc (va_A w sz)) 0 0 (va_A w sz) := by
  intro sz
  refine Met.ofW (cc := cc) (maxL := maxL) (ret := ret) hy rfl ?_
  intro p e s m args below meth c s₁ B hml hv
  obtain ⟨rfl, hsz, hP, hK, hD0⟩ := hv
  subst hsz
  have hts0 := atoms_spec (ws := wsG y cc maxL ret) B.pre
  have hts : ∀ x ∈ GW, x.before as.toArray s = true := fun x h => hts0 x (List.mem_cons_of_mem _ h)
  have hown : s.vm.findClass y.cls = some m.cls := findClass_of_methodNamed B.named
  have hl := lv_entry as (n := maxL) hlen
  rw [lg_entry_eq]
  exact body p e s m below meth c _ _ B.exec B.bytes B.returns B.notSynchronized hml hown hts hK (fun q h => Or.inr h) hP (hD0.self (sz := s.heap.size)) va_S.rf hl
theorem ro_headi {r : Int32} (hy : plainName y.cls = true) (hlen : (lg_sl as).length ≤ maxL)
    (body : ∀ (p : Program) (e : Env) (s : State) (m : MethodId) (below : List Frame) (meth : Method) (c : Code) (ls : Array Slot), p.tables.exec = Jvm.exec → c.code = cc → meth.sig.returnType = ret → meth.locks = false → c.maxLocals = maxL → s.vm.findClass y.cls = some m.cls →
      (∀ x ∈ GW, x.before as.toArray s = true) → va_P D vwCl w s.heap → va_K D vwCl E s → lv_has ls maxL (lv_args 0 as) →
      W p l e (headSpec (wsG y cc maxL ret) rm).room s m as.toArray below meth c s.heap [] 0 0 (MQ below (vp_Si (fun x => x = r)) as.toArray s 0 0 (fun _ => False)) (F0 m 0 ls [])) : ro_i l y cc maxL ret rm D E w as r := ro_head hy hlen body
theorem ro_headq {r : Option Nat} (hy : plainName y.cls = true) (hlen : (lg_sl as).length ≤ maxL)
    (body : ∀ (p : Program) (e : Env) (s : State) (m : MethodId) (below : List Frame) (meth : Method) (c : Code) (ls : Array Slot), p.tables.exec = Jvm.exec → c.code = cc → meth.sig.returnType = ret → meth.locks = false → c.maxLocals = maxL → s.vm.findClass y.cls = some m.cls →
      (∀ x ∈ GW, x.before as.toArray s = true) → va_P D vwCl w s.heap → va_K D vwCl E s → lv_has ls maxL (lv_args 0 as) →
      W p l e (headSpec (wsG y cc maxL ret) rm).room s m as.toArray below meth c s.heap [] 0 0 (MQ below (va_Sq (fun x => x = r)) as.toArray s 0 0 (fun _ => False)) (F0 m 0 ls [])) : ro_q l y cc maxL ret rm D E w as r := ro_head hy hlen body
theorem rw_headi {T : Type} {post : Int32 → T → Prop} {wf : T → va_W} (hy : plainName y.cls = true) (hlen : (lg_sl as).length ≤ maxL)
    (body : ∀ (p : Program) (e : Env) (s : State) (m : MethodId) (below : List Frame) (meth : Method) (c : Code) (ls : Array Slot) (A : Nat → Prop), p.tables.exec = Jvm.exec → c.code = cc → meth.sig.returnType = ret → meth.locks = false → c.maxLocals = maxL → s.vm.findClass y.cls = some m.cls →
      (∀ x ∈ GW, x.before as.toArray s = true) → va_K D vwCl E s → (∀ q : Nat, s.heap.size ≤ q → A q) → va_P D vwCl w s.heap → va_D A w → va_S A s.heap s.heap [] → lv_has ls maxL (lv_args 0 as) →
      W p l e (headSpec (wsG y cc maxL ret) rm).room s m as.toArray below meth c s.heap [] 0 0 (MQ below (rw_Qi D post wf A) as.toArray s 0 0 A) (F0 m 0 ls [])) : rw_i l y cc maxL ret rm D E w as post wf := rw_head (Qc := rw_Qi D post wf) hy hlen body
theorem rw_headv {T : Type} {post : T → Prop} {wf : T → va_W} (hy : plainName y.cls = true) (hlen : (lg_sl as).length ≤ maxL)
    (body : ∀ (p : Program) (e : Env) (s : State) (m : MethodId) (below : List Frame) (meth : Method) (c : Code) (ls : Array Slot) (A : Nat → Prop), p.tables.exec = Jvm.exec → c.code = cc → meth.sig.returnType = ret → meth.locks = false → c.maxLocals = maxL → s.vm.findClass y.cls = some m.cls →
      (∀ x ∈ GW, x.before as.toArray s = true) → va_K D vwCl E s → (∀ q : Nat, s.heap.size ≤ q → A q) → va_P D vwCl w s.heap → va_D A w → va_S A s.heap s.heap [] → lv_has ls maxL (lv_args 0 as) →
      W p l e (headSpec (wsG y cc maxL ret) rm).room s m as.toArray below meth c s.heap [] 0 0 (MQ below (rw_Qv D post wf A) as.toArray s 0 0 A) (F0 m 0 ls [])) : rw_v l y cc maxL ret rm D E w as post wf := rw_head (Qc := rw_Qv D post wf) hy hlen body
end SSH
theorem va_nil {D : va_G} {cl : List vw_C} {H : Heap} : va_P D cl [] H := fun _ _ h => by cases h
theorem nb_bI {P : Prop} [Decidable P] : narrow .boolean (.int (bI P)) = .int (bI P) := by
  unfold bI
  split <;> decide +kernel
section SSR
variable {p : Program} {l : Launch} {e : Env} {R : Room} {s : State} {m : MethodId} {args : Array Value} {below : List Frame} {meth : Method} {c : Code} {H : Heap} {locs : List Loc} {pc : Nat} {ls : Array Slot} {cc : ByteArray} {D : va_G} {A : Nat → Prop} {T : Type} {post : Int32 → T → Prop} {pv : T → Prop} {wf : T → va_W}
theorem ro_reti {v r : Int32} (hx : p.tables.exec = Jvm.exec) (hb : c.code = cc) (hr : meth.sig.returnType = some .int) (hlocks : meth.locks = false) (hd : decode cc pc = .ok (.ireturn, 1)) (hv : v = r) :
    W p l e R s m args below meth c s.heap [] 0 0 (MQ below (vp_Si (fun x => x = r)) args s 0 0 (fun _ => False)) (F0 m pc ls [.int v]) :=
  W.iret hx hb hr (fun t ht _ => ⟨v, rfl, hv, ht⟩) (by simp) hd hlocks
theorem ro_retz {v r : Int32} (hx : p.tables.exec = Jvm.exec) (hb : c.code = cc) (hr : meth.sig.returnType = some .boolean) (hlocks : meth.locks = false) (hd : decode cc pc = .ok (.ireturn, 1)) (hn : narrow .boolean (.int v) = .int v) (hv : v = r) :
    W p l e R s m args below meth c s.heap [] 0 0 (MQ below (vp_Si (fun x => x = r)) args s 0 0 (fun _ => False)) (F0 m pc ls [.int v]) :=
  W.zret hx hb hr hn (fun t ht _ => ⟨v, rfl, hv, ht⟩) (by simp) hd hlocks
theorem ro_retq {r : Option Nat} {C : String} {v : Option Nat} (hx : p.tables.exec = Jvm.exec) (hb : c.code = cc) (hr : meth.sig.returnType = some (.object C)) (hlocks : meth.locks = false) (hd : decode cc pc = .ok (.areturn, 1)) (hv : v = r) :
    W p l e R s m args below meth c s.heap [] 0 0 (MQ below (va_Sq (fun x => x = r)) args s 0 0 (fun _ => False)) (F0 m pc ls [va_rf v]) :=
  W.aret hx hb hr (Or.inl ⟨_, rfl⟩) (va_rf_or _) (fun t ht _ => ⟨v, rfl, hv, ht⟩) (by simp) hd hlocks
theorem rw_reti {v : Int32} (hx : p.tables.exec = Jvm.exec) (hb : c.code = cc) (hr : meth.sig.returnType = some .int) (hlocks : meth.locks = false) (hd : decode cc pc = .ok (.ireturn, 1)) (hS : va_S A s.heap H locs) (u : T) (hv : post v u) (hP : va_P D vwCl (wf u) H) :
    W p l e R s m args below meth c H locs 0 0 (MQ below (rw_Qi D post wf A) args s 0 0 A) (F0 m pc ls [.int v]) :=
  W.iret hx hb hr (fun t ht _ => ⟨⟨v, u, rfl, hv, by show va_P D vwCl (wf u) t.heap; rw [ht]; exact hP⟩, hS.F ht⟩) hS.2.2 hd hlocks
theorem rw_retz {v : Int32} (hx : p.tables.exec = Jvm.exec) (hb : c.code = cc) (hr : meth.sig.returnType = some .boolean) (hlocks : meth.locks = false) (hd : decode cc pc = .ok (.ireturn, 1)) (hn : narrow .boolean (.int v) = .int v) (hS : va_S A s.heap H locs) (u : T) (hv : post v u) (hP : va_P D vwCl (wf u) H) :
    W p l e R s m args below meth c H locs 0 0 (MQ below (rw_Qi D post wf A) args s 0 0 A) (F0 m pc ls [.int v]) :=
  W.zret hx hb hr hn (fun t ht _ => ⟨⟨v, u, rfl, hv, by show va_P D vwCl (wf u) t.heap; rw [ht]; exact hP⟩, hS.F ht⟩) hS.2.2 hd hlocks
theorem rw_retv (hx : p.tables.exec = Jvm.exec) (hb : c.code = cc) (hr : meth.sig.returnType = none) (hlocks : meth.locks = false) (hd : decode cc pc = .ok (.return_, 1)) (hS : va_S A s.heap H locs) (u : T) (hv : pv u) (hP : va_P D vwCl (wf u) H) :
    W p l e R s m args below meth c H locs 0 0 (MQ below (rw_Qv D pv wf A) args s 0 0 A) (F0 m pc ls []) :=
  W.vret hx hb hr (fun t ht _ => ⟨⟨u, rfl, hv, by show va_P D vwCl (wf u) t.heap; rw [ht]; exact hP⟩, hS.F ht⟩) hS.2.2 hd hlocks
end SSR
section SSC
variable {p : Program} {l : Launch} {e : Env} {R : Room} {s : State} {m : MethodId} {args : Array Value} {below : List Frame} {meth : Method} {c : Code} {H : Heap} {locs : List Loc} {cells slots : Nat} {Q : State → Prop} {pc : Nat} {ls : Array Slot}
  {y : MethodName} {bytes cc : ByteArray} {maxL nL n index : Nat} {ret : Option FieldType} {rm : Room} {Ts : List Cond} {own C : String} {b : Addr} {As rest st0 : List Value} {D : va_G} {E : List (ClassId × FieldType)} {w : va_W} {A : Nat → Prop} {r : Int32} {o : Option Nat} {T : Type} {post : Int32 → T → Prop} {pv : T → Prop} {wf : T → va_W}
theorem kr_iV (S : CallFix p m c cc nL s args Ts own) (hM : ro_i l y bytes maxL ret rm D E w (.ref b :: As) r) (cw : CallW R s args own C index y bytes maxL ret (wsG y bytes maxL ret) rm 0 0 n) (hK : va_K D vwCl E s) (hP : va_P D vwCl w H) (hrc : ∃ cellB : Cell, H[b]? = some cellB ∧ cellB.vm.isStatics = false ∧ s.vm.findClass C = some cellB.cls)
    (hn : As.length = n) (hsize : ls.size = nL) (hst : st0 = As.reverse ++ .ref b :: rest) (hW : (rest.map fun v => v.category).sum ≤ 8) (hdg : decode cc pc = .ok (.invokevirtual index, 3)) (hf : cells ≤ R.cells ∧ slots ≤ R.slots)
    (kk : W p l e R s m args below meth c H locs cells slots Q (F0 m (pc + 3) ls (.int r :: rest))) : W p l e R s m args below meth c H locs cells slots Q (F0 m pc ls st0) :=
  vp_callSi (W.runV (g := F0 m pc ls st0) (rest := rest) S hM cw ⟨ro_blind, hrc, ro_pre hP hK _⟩ rfl hn hsize hst (lv_room hW) hdg hf) (fun x hx => by subst hx; exact kk)
theorem kr_qV (S : CallFix p m c cc nL s args Ts own) (hM : ro_q l y bytes maxL ret rm D E w (.ref b :: As) o) (cw : CallW R s args own C index y bytes maxL ret (wsG y bytes maxL ret) rm 0 0 n) (hK : va_K D vwCl E s) (hP : va_P D vwCl w H) (hrc : ∃ cellB : Cell, H[b]? = some cellB ∧ cellB.vm.isStatics = false ∧ s.vm.findClass C = some cellB.cls)
    (hn : As.length = n) (hsize : ls.size = nL) (hst : st0 = As.reverse ++ .ref b :: rest) (hW : (rest.map fun v => v.category).sum ≤ 8) (hdg : decode cc pc = .ok (.invokevirtual index, 3)) (hf : cells ≤ R.cells ∧ slots ≤ R.slots)
    (kk : W p l e R s m args below meth c H locs cells slots Q (F0 m (pc + 3) ls (va_rf o :: rest))) : W p l e R s m args below meth c H locs cells slots Q (F0 m pc ls st0) :=
  va_csq (W.runV (g := F0 m pc ls st0) (rest := rest) S hM cw ⟨ro_blind, hrc, ro_pre hP hK _⟩ rfl hn hsize hst (lv_room hW) hdg hf) (fun x hx => by subst hx; exact kk)
theorem kr_iS (S : CallFix p m c cc nL s args Ts own) (hM : ro_i l y bytes maxL ret rm D E w As r) (cw : CallB R s args own index y bytes maxL ret (wsG y bytes maxL ret) rm 0 0 n ∧ (Cond.static y).before args s = true) (hK : va_K D vwCl E s) (hP : va_P D vwCl w H)
    (hn : As.length = n) (hsize : ls.size = nL) (hst : st0 = As.reverse ++ rest) (hW : (rest.map fun v => v.category).sum ≤ 8) (hdg : decode cc pc = .ok (.invokestatic index, 3)) (hf : cells ≤ R.cells ∧ slots ≤ R.slots)
    (kk : W p l e R s m args below meth c H locs cells slots Q (F0 m (pc + 3) ls (.int r :: rest))) : W p l e R s m args below meth c H locs cells slots Q (F0 m pc ls st0) :=
  vp_callSi (W.runS (g := F0 m pc ls st0) (rest := rest) S hM cw ⟨ro_blind, ro_pre hP hK _⟩ rfl hn hsize hst (lv_room hW) hdg hf) (fun x hx => by subst hx; exact kk)
/-- a call that changes its world in place -/
theorem kw_iV (S : CallFix p m c cc nL s args Ts own) (hM : rw_i l y bytes maxL ret rm D E w (.ref b :: As) post wf) (cw : CallW R s args own C index y bytes maxL ret (wsG y bytes maxL ret) rm 0 0 n) (hK : va_K D vwCl E s) (hP : va_P D vwCl w H) (hD : va_D A w) (hS : va_S A s.heap H locs) (hA : ∀ q, s.heap.size ≤ q → A q)
    (hrc : ∃ cellB : Cell, H[b]? = some cellB ∧ cellB.vm.isStatics = false ∧ s.vm.findClass C = some cellB.cls)
    (hn : As.length = n) (hsize : ls.size = nL) (hst : st0 = As.reverse ++ .ref b :: rest) (hW : (rest.map fun v => v.category).sum ≤ 8) (hdg : decode cc pc = .ok (.invokevirtual index, 3)) (hf : cells ≤ R.cells ∧ slots ≤ R.slots)
    (kk : ∀ (r : Int32) (u : T) (H1 : Heap) (locs1 : List Loc), post r u → va_P D vwCl (wf u) H1 → (∀ q : Nat, q < H.size → ¬ va_A w H.size q → H1[q]? = H[q]?) → va_S A s.heap H1 locs1 → W p l e R s m args below meth c H1 locs1 cells slots Q (F0 m (pc + 3) ls (.int r :: rest))) : W p l e R s m args below meth c H locs cells slots Q (F0 m pc ls st0) := by
  have hF := rw_S hD hS hA
  refine va_calli (va_runV (g := F0 m pc ls st0) (rest := rest) S (hM H.size) cw ⟨rw_blind, hrc, rw_pre hP hK hD _⟩ rfl hn hsize hst (lv_room hW) hdg hf) hS (fun q _ h => hF q h) hF (fun x u t H1 locs1 ht hvm hp hB hz hk hS1 => ?_)
  rw [ht] at hB
  exact kk x u H1 locs1 hp hB hk hS1
theorem kw_vV (S : CallFix p m c cc nL s args Ts own) (hM : rw_v l y bytes maxL ret rm D E w (.ref b :: As) pv wf) (cw : CallW R s args own C index y bytes maxL ret (wsG y bytes maxL ret) rm 0 0 n) (hK : va_K D vwCl E s) (hP : va_P D vwCl w H) (hD : va_D A w) (hS : va_S A s.heap H locs) (hA : ∀ q, s.heap.size ≤ q → A q)
    (hrc : ∃ cellB : Cell, H[b]? = some cellB ∧ cellB.vm.isStatics = false ∧ s.vm.findClass C = some cellB.cls)
    (hn : As.length = n) (hsize : ls.size = nL) (hst : st0 = As.reverse ++ .ref b :: rest) (hW : (rest.map fun v => v.category).sum ≤ 8) (hdg : decode cc pc = .ok (.invokevirtual index, 3)) (hf : cells ≤ R.cells ∧ slots ≤ R.slots)
    (kk : ∀ (u : T) (H1 : Heap) (locs1 : List Loc), pv u → va_P D vwCl (wf u) H1 → (∀ q : Nat, q < H.size → ¬ va_A w H.size q → H1[q]? = H[q]?) → va_S A s.heap H1 locs1 → W p l e R s m args below meth c H1 locs1 cells slots Q (F0 m (pc + 3) ls rest)) : W p l e R s m args below meth c H locs cells slots Q (F0 m pc ls st0) := by
  have hF := rw_S hD hS hA
  refine va_callv (va_runV (g := F0 m pc ls st0) (rest := rest) S (hM H.size) cw ⟨rw_blind, hrc, rw_pre hP hK hD _⟩ rfl hn hsize hst (lv_room hW) hdg hf) hS (fun q _ h => hF q h) hF (fun u t H1 locs1 ht hvm hp hB hz hk hS1 => ?_)
  rw [ht] at hB
  exact kk u H1 locs1 hp hB hk hS1
end SSC
/-- behind a call on some cells of the world, changed in place -/
theorem rw_join {A : Nat → Prop} {D : va_G} {cl : List vw_C} {ws0 w w' wr : va_W} {H H1 : Heap} (hP : va_P D cl ws0 H) (hD : va_D A ws0) (isC isR : List Nat) (hC : isC.map (fun i => ws0[i]?) = w.map some) (hR : isR.map (fun i => ws0[i]?) = wr.map some) (hnC : va_nd isC = true) (hn : va_nd isR = true) (hdis : ∀ i ∈ isR, i ∉ isC)
    (hk : ∀ q : Nat, q < H.size → ¬ va_A w H.size q → H1[q]? = H[q]?) (hF : ∀ q, va_A w H.size q → A q) (hP1 : va_P D cl w' H1) (hsame : w'.map Prod.fst = w.map Prod.fst) : va_P D cl (wr ++ w') H1 ∧ va_D A (wr ++ w') :=
  va_join hP hD isC isR hC hR hn hdis hk hF hP1 (rw_same (hD.sub isC hnC hC).self hsame)
/-- an int by a whole number -/
def iI (z : Int) : Int32 := Int32.ofInt z
theorem iI_nat (n : Nat) : nI n = iI (n : Int) := by
  apply Int32.toBitVec_inj.mp
  show BitVec.ofNat 32 n = BitVec.ofInt 32 (n : Int)
  simp
theorem iI_nn (a b : Nat) : nI a - nI b = iI ((a : Int) - (b : Int)) := by
  rw [iI_nat, iI_nat]
  exact (Int32.ofInt_sub _ _).symm
theorem iI_an (z : Int) (b : Nat) : iI z + nI b = iI (z + (b : Int)) := by
  rw [iI_nat]
  exact (Int32.ofInt_add _ _).symm
theorem iI_sn (a : Nat) (z : Int) : nI a - iI z = iI ((a : Int) - z) := by
  rw [iI_nat]
  exact (Int32.ofInt_sub _ _).symm
theorem iI_t {z : Int} (h1 : -2147483648 ≤ z) (h2 : z < 2147483648) : (iI z).toInt = z := by
  unfold iI
  rw [Int32.toInt_ofInt]
  show z.bmod 4294967296 = z
  rw [Int.bmod_def]
  omega
theorem iI_n {z : Int} {n : Nat} (h : z = (n : Int)) : iI z = nI n := by rw [iI_nat, h]
theorem bI_c {P Q : Prop} [Decidable P] [Decidable Q] (h : P ↔ Q) : bI P = bI Q := by
  unfold bI
  by_cases hp : P
  · rw [if_pos hp, if_pos (h.mp hp)]
  · rw [if_neg hp, if_neg (fun q => hp (h.mpr q))]
end
section
/-! SPEC: what a line of the screen shows, in numbers: B the chip's own bytes, R its registers, L the line -/
def dsp (B R : Nat → Nat) (k w : Nat) : Nat := B (32 * (R 5 % 16) + 4 * k + w)
def dtm (R : Nat → Nat) : Nat := if R 1 % 2 = 1 then 2 else 1
def dsd (R : Nat → Nat) : Nat := if R 1 / 2 % 2 = 1 then 16 else 8
def dsz (R : Nat → Nat) : Nat := dsd R * dtm R
def don (B R : Nat → Nat) (L k : Nat) : Bool := if dsp B R k 0 < 224 then decide (dsp B R k 0 + 1 ≤ L ∧ L < dsp B R k 0 + 1 + dsz R) else decide (L + 255 < dsp B R k 0 + dsz R)
def dbl (B R : Nat → Nat) (L k : Nat) : Nat := if dsp B R k 0 < 224 then L - (dsp B R k 0 + 1) else L + 255 - dsp B R k 0
def drw (B R : Nat → Nat) (L k : Nat) : Nat := dbl B R L k / dtm R
def dof (B R : Nat → Nat) (k : Nat) : Nat := if 127 < dsp B R k 3 then 32 else 0
def dcc (B R : Nat → Nat) (k x : Nat) : Nat := (x + dof B R k - dsp B R k 1) / dtm R
def dat (B R : Nat → Nat) (L k c : Nat) : Nat := if dsd R = 16 then 128 * (R 6 % 4) + 8 * (dsp B R k 2 % 16 / 4 * 4) + drw B R L k + (if 7 < c then 16 else 0) else 128 * (R 6 % 4) + 8 * (dsp B R k 2 % 16) + drw B R L k
def dbt (B R : Nat → Nat) (L k c : Nat) : Bool := decide (B (dat B R L k c) / 2 ^ (7 - c % 8) % 2 = 1)
def dhs (B R : Nat → Nat) (L k x : Nat) : Bool := decide (dsp B R k 1 ≤ x + dof B R k) && decide (x + dof B R k < dsp B R k 1 + dsz R) && dbt B R L k (dcc B R k x)
def dth (f : Nat → Nat) : Nat → Nat → Nat
  | 0, k => k
  | n + 1, k => if f k = 208 then k else dth f n (k + 1)
def dmo (B R : Nat → Nat) : Nat := dth (fun k => dsp B R k 0) 8 0
def dct (B R : Nat → Nat) (L : Nat) : Nat → Nat
  | 0 => 0
  | k + 1 => if don B R L k = true then dct B R L k + 1 else dct B R L k
def ddr (B R : Nat → Nat) (L k : Nat) : Bool := decide (k < dmo B R) && decide (dct B R L k < 4) && don B R L k
def dht (B R : Nat → Nat) (L x : Nat) : Nat → Nat
  | 0 => 0
  | k + 1 => if (ddr B R L k && dhs B R L k x) = true then dht B R L x k + 1 else dht B R L x k
def dcl (B R : Nat → Nat) (L x : Nat) : Nat → Nat
  | 0 => 0
  | k + 1 => if (ddr B R L k && dhs B R L k x && decide (dcl B R L x k = 0)) = true then dsp B R k 3 % 16 else dcl B R L x k
def dnm (B R : Nat → Nat) (x y : Nat) : Nat := B (32 * (R 2 % 16) + y / 8 * 8 + x / 8) % 32
def dtl (B R : Nat → Nat) (x y : Nat) : Nat := if B (256 * (R 4 % 2) + 8 * dnm B R x y + y % 8) / 2 ^ (7 - x % 8) % 2 = 1 then B (4 * (R 3 % 128) + dnm B R x y / 8) / 16 else B (4 * (R 3 % 128) + dnm B R x y / 8) % 16
def dob (R : Nat → Nat) (c : Nat) : Nat := if c = 0 then R 7 % 16 else c
def dpx (B R : Nat → Nat) (L x : Nat) : Nat := if dcl B R L x 8 = 0 then dob R (dtl B R x L) else dcl B R L x 8
/-- some column before n is hit twice, by the sprites before k -/
def dtc (B R : Nat → Nat) (L k : Nat) : Nat → Bool
  | 0 => false
  | n + 1 => dtc B R L k n || decide (1 < dht B R L n k)
def dff (st k : Nat) : Nat := if st / 64 % 2 = 1 then st else st / 128 * 128 + st / 32 % 2 * 32 + 64 + k
def d5f (B R : Nat → Nat) (L st : Nat) : Nat → Nat
  | 0 => st
  | k + 1 => if k < dmo B R ∧ don B R L k = true ∧ dct B R L k = 4 then dff (d5f B R L st k) k else d5f B R L st k
def dts (b : Bool) (st : Nat) : Nat := if b = true then ss_so 32 st else st
/-- the pixels with n columns of line L new -/
def dln (f : Nat → Nat) (L n : Nat) (PX : Nat → Nat) : Nat → Nat := fun j => if 64 * L ≤ j ∧ j < 64 * L + n then f (j - 64 * L) else PX j
-- what follows of it
theorem ss_or128 : ∀ n, n < 256 → nI n ||| nI 128 = nI (ss_so 128 n) := by decide +kernel
theorem ss_or32 : ∀ n, n < 256 → nI n ||| nI 32 = nI (ss_so 32 n) := by decide +kernel
theorem ss_so_lt : ∀ n, n < 256 → ss_so 32 n < 256 ∧ ss_so 128 n < 256 := by decide +kernel
theorem ss_so32_t : ∀ n, n < 256 → ss_so 32 (ss_so 32 n) = ss_so 32 n := by decide +kernel
theorem ss_so32_6 : ∀ n, n < 256 → ss_so 32 n / 64 % 2 = n / 64 % 2 := by decide +kernel
theorem dff_lt : ∀ n, n < 256 → ∀ k, k < 8 → dff n k < 256 := by decide +kernel
theorem dff_so : ∀ n, n < 256 → ∀ k, k < 8 → dff (ss_so 32 n) k = ss_so 32 (dff n k) := by decide +kernel
theorem dtm_le (R : Nat → Nat) : 1 ≤ dtm R ∧ dtm R ≤ 2 := by unfold dtm; split <;> omega
theorem dsd_or (R : Nat → Nat) : dsd R = 8 ∨ dsd R = 16 := by unfold dsd; split <;> omega
theorem dtm_or (R : Nat → Nat) : dtm R = 1 ∨ dtm R = 2 := by unfold dtm; split <;> omega
theorem dsz_le (R : Nat → Nat) : 8 ≤ dsz R ∧ dsz R ≤ 32 := by
  unfold dsz
  rcases dsd_or R with h | h <;> rcases dtm_or R with h2 | h2 <;> rw [h, h2] <;> omega
theorem dof_or (B R : Nat → Nat) (k : Nat) : dof B R k = 0 ∨ dof B R k = 32 := by unfold dof; split <;> omega
theorem dth_le (f : Nat → Nat) : ∀ n k, k ≤ dth f n k ∧ dth f n k ≤ k + n := by
  intro n
  induction n with
  | zero => intro k; simp [dth]
  | succ n ih =>
    intro k
    unfold dth
    split
    · omega
    · have := ih (k + 1); omega
theorem dth_ne (f : Nat → Nat) : ∀ n k j, k ≤ j → j < dth f n k → f j ≠ 208 := by
  intro n
  induction n with
  | zero => intro k j h1 h2; simp [dth] at h2; omega
  | succ n ih =>
    intro k j h1 h2
    unfold dth at h2
    split at h2
    · omega
    · rename_i h
      rcases Nat.lt_or_ge k j with h3 | h3
      · exact ih (k + 1) j h3 h2
      · have : j = k := by omega
        rw [this]; exact h
theorem dth_eq (f : Nat → Nat) : ∀ n k, dth f n k < k + n → f (dth f n k) = 208 := by
  intro n
  induction n with
  | zero => intro k h; simp [dth] at h
  | succ n ih =>
    intro k h
    unfold dth at h ⊢
    split
    · assumption
    · rename_i h1
      rw [if_neg h1] at h
      exact ih (k + 1) (by omega)
theorem dmo_le (B R : Nat → Nat) : dmo B R ≤ 8 := by
  have := (dth_le (fun k => dsp B R k 0) 8 0).2
  unfold dmo; omega
/-- going on from k, none of the ones before k being the mark -/
theorem dth_from (f : Nat → Nat) : ∀ (k n : Nat), (∀ j, j < k → f j ≠ 208) → dth f (k + n) 0 = dth f n k := by
  have key : ∀ (f : Nat → Nat) (k n a : Nat), (∀ j, a ≤ j → j < a + k → f j ≠ 208) → dth f (k + n) a = dth f n (a + k) := by
    intro f k
    induction k with
    | zero => intro n a _; rw [Nat.zero_add, Nat.add_zero]
    | succ k ih =>
      intro n a h
      rw [show k + 1 + n = (k + n) + 1 by omega]
      rw [dth, if_neg (h a (Nat.le_refl _) (by omega)), ih n (a + 1) (fun j h1 h2 => h j (by omega) (by omega))]
      rw [show a + 1 + k = a + (k + 1) by omega]
  intro k n h
  have := key f k n 0 (fun j _ h2 => h j (by omega))
  rw [Nat.zero_add] at this
  exact this
theorem dct_mono (B R : Nat → Nat) (L : Nat) : ∀ n k, dct B R L k ≤ dct B R L (k + n) := by
  intro n
  induction n with
  | zero => intro k; exact Nat.le_refl _
  | succ n ih =>
    intro k
    have h := ih k
    show dct B R L k ≤ (if don B R L (k + n) = true then dct B R L (k + n) + 1 else dct B R L (k + n))
    split <;> omega
theorem dct_le (B R : Nat → Nat) (L : Nat) : ∀ k, dct B R L k ≤ k := by
  intro k
  induction k with
  | zero => simp [dct]
  | succ k ih => unfold dct; split <;> omega
theorem ddr_stop {B R : Nat → Nat} {L k : Nat} (h : dmo B R ≤ k ∨ 4 ≤ dct B R L k) (n : Nat) : ddr B R L (k + n) = false := by
  have hm := dct_mono B R L n k
  unfold ddr
  rcases h with h | h
  · rw [decide_eq_false (by omega)]; simp
  · rw [decide_eq_false (p := dct B R L (k + n) < 4) (by omega)]; simp
theorem dht_stop {B R : Nat → Nat} {L k : Nat} (x : Nat) (h : dmo B R ≤ k ∨ 4 ≤ dct B R L k) : ∀ n, dht B R L x (k + n) = dht B R L x k ∧ dcl B R L x (k + n) = dcl B R L x k := by
  intro n
  induction n with
  | zero => exact ⟨rfl, rfl⟩
  | succ n ih =>
    have hs := ddr_stop h n
    rw [show k + (n + 1) = (k + n) + 1 by omega]
    refine ⟨?_, ?_⟩
    · rw [dht, hs]; simpa using ih.1
    · rw [dcl, hs]; simpa using ih.2
theorem dht_end {B R : Nat → Nat} {L k : Nat} (x : Nat) (hk : k ≤ 8) (h : dmo B R ≤ k ∨ 4 ≤ dct B R L k) : dht B R L x 8 = dht B R L x k ∧ dcl B R L x 8 = dcl B R L x k := by
  have := dht_stop x h (8 - k)
  rw [show k + (8 - k) = 8 by omega] at this
  exact this
theorem dtc_iff {B R : Nat → Nat} {L k : Nat} : ∀ n, dtc B R L k n = true ↔ ∃ x, x < n ∧ 1 < dht B R L x k := by
  intro n
  induction n with
  | zero => simp [dtc]
  | succ n ih =>
    rw [dtc, Bool.or_eq_true, ih, decide_eq_true_iff]
    constructor
    · rintro (⟨x, h1, h2⟩ | h)
      · exact ⟨x, by omega, h2⟩
      · exact ⟨n, by omega, h⟩
    · rintro ⟨x, h1, h2⟩
      rcases Nat.lt_or_ge x n with h3 | h3
      · exact Or.inl ⟨x, h3, h2⟩
      · have : x = n := by omega
        subst this
        exact Or.inr h2
theorem d5f_lt {B R : Nat → Nat} {L st : Nat} (h : st < 256) : ∀ k, k ≤ 8 → d5f B R L st k < 256 := by
  intro k
  induction k with
  | zero => intro _; exact h
  | succ k ih =>
    intro hk
    unfold d5f
    split
    · exact dff_lt _ (ih (by omega)) k (by omega)
    · exact ih (by omega)
theorem dts_lt {b : Bool} {st : Nat} (h : st < 256) : dts b st < 256 := by
  unfold dts; split
  · exact (ss_so_lt st h).1
  · exact h
theorem dln_0 (f : Nat → Nat) (L : Nat) (PX : Nat → Nat) : dln f L 0 PX = PX := by
  funext j; unfold dln; rw [if_neg (by omega)]
theorem dln_s (f : Nat → Nat) (L n : Nat) (PX : Nat → Nat) : ss_up (dln f L n PX) (64 * L + n) (f n) = dln f L (n + 1) PX := by
  funext j
  unfold ss_up dln
  by_cases h : j = 64 * L + n
  · subst h; rw [if_pos rfl, if_pos (by omega), show 64 * L + n - 64 * L = n by omega]
  · rw [if_neg h]
    by_cases h2 : 64 * L ≤ j ∧ j < 64 * L + n
    · rw [if_pos h2, if_pos (by omega)]
    · rw [if_neg h2, if_neg (by omega)]
theorem dln_lt {f : Nat → Nat} {L n N : Nat} {PX : Nat → Nat} (hf : ∀ j, f j < N) (hP : ∀ j, PX j < N) : ∀ j, dln f L n PX j < N := by
  intro j; unfold dln; split
  · exact hf _
  · exact hP _
theorem drw_lt {B R : Nat → Nat} {L k : Nat} (h : don B R L k = true) : dbl B R L k < dsz R ∧ drw B R L k < dsd R := by
  have h1 : dbl B R L k < dsz R := by
    have hz := dsz_le R
    unfold don at h
    unfold dbl
    split at h
    · rename_i h0; rw [if_pos h0]; have := of_decide_eq_true h; omega
    · rename_i h0; rw [if_neg h0]; have := of_decide_eq_true h; omega
  refine ⟨h1, ?_⟩
  unfold drw
  unfold dsz at h1
  rcases dtm_or R with h2 | h2 <;> rw [h2] at h1 ⊢ <;> omega
theorem dat_lt {B R : Nat → Nat} {L k c : Nat} (h : don B R L k = true) : dat B R L k c < 512 := by
  have h1 := (drw_lt h).2
  unfold dat
  rcases dsd_or R with h2 | h2
  · rw [if_neg (by omega)]; rw [h2] at h1; omega
  · rw [if_pos h2]; rw [h2] at h1; split <;> omega
theorem don_t {B R : Nat → Nat} {L k : Nat} (h : if dsp B R k 0 < 224 then dsp B R k 0 + 1 ≤ L ∧ L < dsp B R k 0 + 1 + dsz R else L + 255 < dsp B R k 0 + dsz R) : don B R L k = true := by
  unfold don
  split
  · rename_i h0; rw [if_pos h0] at h; exact decide_eq_true h
  · rename_i h0; rw [if_neg h0] at h; exact decide_eq_true h
theorem don_f {B R : Nat → Nat} {L k : Nat} (h : ¬ if dsp B R k 0 < 224 then dsp B R k 0 + 1 ≤ L ∧ L < dsp B R k 0 + 1 + dsz R else L + 255 < dsp B R k 0 + dsz R) : ¬ don B R L k = true := by
  unfold don
  split
  · rename_i h0; rw [if_pos h0] at h; simpa using h
  · rename_i h0; rw [if_neg h0] at h; simpa using h
theorem drw_1 {B R : Nat → Nat} {L k : Nat} (h : dsp B R k 0 < 224) : drw B R L k = (L - (dsp B R k 0 + 1)) / dtm R := by unfold drw dbl; rw [if_pos h]
theorem drw_2 {B R : Nat → Nat} {L k : Nat} (h : ¬ dsp B R k 0 < 224) : drw B R L k = (L + 255 - dsp B R k 0) / dtm R := by unfold drw dbl; rw [if_neg h]
theorem dhs_i {B R : Nat → Nat} {L k x : Nat} (h1 : dsp B R k 1 ≤ x + dof B R k) (h2 : x + dof B R k < dsp B R k 1 + dsz R) : dhs B R L k x = true ↔ B (dat B R L k (dcc B R k x)) / 2 ^ (7 - dcc B R k x % 8) % 2 = 1 := by
  unfold dhs dbt
  rw [decide_eq_true h1, decide_eq_true h2]
  simp
theorem dhs_o {B R : Nat → Nat} {L k x : Nat} (h : ¬ (dsp B R k 1 ≤ x + dof B R k ∧ x + dof B R k < dsp B R k 1 + dsz R)) : ¬ dhs B R L k x = true := by
  unfold dhs
  intro q
  simp only [Bool.and_eq_true, decide_eq_true_eq] at q
  exact h q.1
/-- the slots: where an address's page lies, and what is read there (d = 4 * slot + part) -/
def msl (pr a : Nat) : Nat := pr / 4 ^ (a / 64) % 4
def mpg (wd se : Nat → Nat) (s a : Nat) : Nat := if wd s = 1 then se s / 4 ^ (a / 64) % 4 else 0
def mget (kd sh mb : Nat → Nat) (d a : Nat) : Nat := if kd d = 1 ∨ kd d = 2 then mb (256 * d + a) else if kd d = 3 then (if 64 ≤ a ∧ a ≤ 191 then mb (256 * d + 32 * sh (4 * d + a / 32 - 2) + a % 32) else 255) else if kd d = 4 then mb (256 * d + a % 64) else 255
theorem msl_lt (pr a : Nat) : msl pr a < 4 := Nat.mod_lt _ (by omega)
theorem mpg_lt (wd se : Nat → Nat) (s a : Nat) : mpg wd se s a < 4 := by
  unfold mpg; split
  · exact Nat.mod_lt _ (by omega)
  · omega
theorem mpw_le (n i : Nat) : n / 4 ^ i ≤ n := Nat.div_le_self _ _
theorem mpw_s (n i : Nat) : n / 4 ^ i / 4 = n / 4 ^ (i + 1) := by rw [Nat.div_div_eq_div_mul, Nat.pow_succ]
/-- four numbers shown, n banks -/
def mshn (sh : Nat → Nat) (d n i : Nat) : Nat → Nat := fun j => if 4 * d ≤ j ∧ j < 4 * d + i then (j - 4 * d) % n else sh j
theorem mshn_0 (sh : Nat → Nat) (d n : Nat) : mshn sh d n 0 = sh := by
  funext j; unfold mshn; rw [if_neg (by omega)]
theorem mshn_s (sh : Nat → Nat) (d n i : Nat) : ss_up (mshn sh d n i) (4 * d + i) (i % n) = mshn sh d n (i + 1) := by
  funext j
  unfold ss_up mshn
  by_cases h : j = 4 * d + i
  · subst h; rw [if_pos rfl, if_pos (by omega), show 4 * d + i - 4 * d = i by omega]
  · rw [if_neg h]
    by_cases h2 : 4 * d ≤ j ∧ j < 4 * d + i
    · rw [if_pos h2, if_pos (by omega)]
    · rw [if_neg h2, if_neg (by omega)]
theorem st_off {B R : Nat → Nat} {L i : Nat} (h : ¬ don B R L i = true) (x : Nat) : dct B R L (i + 1) = dct B R L i ∧ dht B R L x (i + 1) = dht B R L x i ∧ dcl B R L x (i + 1) = dcl B R L x i := by
  have hd : ddr B R L i = false := by unfold ddr; rw [Bool.not_eq_true] at h; rw [h]; simp
  refine ⟨?_, ?_, ?_⟩
  · show (if don B R L i = true then dct B R L i + 1 else dct B R L i) = _; rw [if_neg h]
  · rw [dht, hd]; simp
  · rw [dcl, hd]; simp
theorem ddr_t {B R : Nat → Nat} {L i : Nat} (hd : don B R L i = true) (h1 : i < dmo B R) (h2 : dct B R L i < 4) : ddr B R L i = true := by
  unfold ddr; rw [decide_eq_true h1, decide_eq_true h2, hd]; rfl
theorem st_ct {B R : Nat → Nat} {L i : Nat} (hd : don B R L i = true) : dct B R L (i + 1) = dct B R L i + 1 := by
  show (if don B R L i = true then dct B R L i + 1 else dct B R L i) = _; rw [if_pos hd]
theorem st_no {B R : Nat → Nat} {L i x : Nat} (hh : ¬ dhs B R L i x = true) : dht B R L x (i + 1) = dht B R L x i ∧ dcl B R L x (i + 1) = dcl B R L x i := by
  rw [Bool.not_eq_true] at hh
  exact ⟨by rw [dht, hh]; simp, by rw [dcl, hh]; simp⟩
theorem st_hit {B R : Nat → Nat} {L i x : Nat} (hd : don B R L i = true) (h1 : i < dmo B R) (h2 : dct B R L i < 4) (hh : dhs B R L i x = true) : dht B R L x (i + 1) = dht B R L x i + 1 := by
  rw [dht, ddr_t hd h1 h2, hh]; simp
theorem st_c0 {B R : Nat → Nat} {L i x : Nat} (hd : don B R L i = true) (h1 : i < dmo B R) (h2 : dct B R L i < 4) (hh : dhs B R L i x = true) (h0 : dcl B R L x i = 0) : dcl B R L x (i + 1) = dsp B R i 3 % 16 := by
  rw [dcl, ddr_t hd h1 h2, hh, h0]; simp
theorem st_c1 {B R : Nat → Nat} {L i x : Nat} (h0 : ¬ dcl B R L x i = 0) : dcl B R L x (i + 1) = dcl B R L x i := by
  rw [dcl, decide_eq_false h0]; simp
theorem ss_and32 : ∀ n, n < 256 → nI n &&& nI 32 = nI (n / 32 % 2 * 32) := by decide +kernel
theorem d5f_0 {B R : Nat → Nat} {L st i : Nat} (h : ¬ (don B R L i = true ∧ dct B R L i = 4)) : d5f B R L st (i + 1) = d5f B R L st i := by
  show (if i < dmo B R ∧ don B R L i = true ∧ dct B R L i = 4 then dff (d5f B R L st i) i else d5f B R L st i) = _
  rw [if_neg (fun q => h q.2)]
theorem d5f_1 {B R : Nat → Nat} {L st i : Nat} (h0 : i < dmo B R) (h : don B R L i = true) (h2 : dct B R L i = 4) : d5f B R L st (i + 1) = dff (d5f B R L st i) i := by
  show (if i < dmo B R ∧ don B R L i = true ∧ dct B R L i = 4 then dff (d5f B R L st i) i else d5f B R L st i) = _
  rw [if_pos ⟨h0, h, h2⟩]
theorem d5f_n {B R : Nat → Nat} {L st k : Nat} (h : dmo B R ≤ k) : ∀ n, d5f B R L st (k + n) = d5f B R L st k := by
  intro n
  induction n with
  | zero => rfl
  | succ n ih =>
    show (if k + n < dmo B R ∧ don B R L (k + n) = true ∧ dct B R L (k + n) = 4 then dff (d5f B R L st (k + n)) (k + n) else d5f B R L st (k + n)) = _
    rw [if_neg (by omega), ih]
theorem d5f_e {B R : Nat → Nat} {L st : Nat} : d5f B R L st 8 = d5f B R L st (dmo B R) := by
  have h := dmo_le B R
  have := d5f_n (B := B) (R := R) (L := L) (st := st) (k := dmo B R) (Nat.le_refl _) (8 - dmo B R)
  rw [show dmo B R + (8 - dmo B R) = 8 by omega] at this
  exact this
theorem dff_b {st k : Nat} (h : st / 2 ^ 6 % 2 = 1) : dff st k = st := by unfold dff; rw [if_pos (by omega)]
theorem dff_n {st k : Nat} (h : ¬ st / 2 ^ 6 % 2 = 1) : dff st k = st / 128 * 128 + st / 32 % 2 * 32 + 64 + k := by unfold dff; rw [if_neg (by omega)]
theorem dts_s {B R : Nat → Nat} {L i st : Nat} (h : st < 256) : dts (decide (1 < dht B R L i 8)) (dts (dtc B R L 8 i) st) = dts (dtc B R L 8 (i + 1)) st := by
  rw [dtc]
  unfold dts
  by_cases h1 : dtc B R L 8 i = true <;> by_cases h2 : 1 < dht B R L i 8
  · rw [if_pos h1, decide_eq_true h2, if_pos rfl, h1, if_pos (by simp), ss_so32_t st h]
  · rw [if_pos h1, decide_eq_false h2, if_neg (by decide), h1, if_pos (by simp)]
  · rw [if_neg h1, decide_eq_true h2, if_pos rfl, if_pos (by simp)]
  · rw [if_neg h1, decide_eq_false h2, if_neg (by decide), if_neg (by simpa using h1)]
theorem dts_0 {B R : Nat → Nat} {L st : Nat} : dts (dtc B R L 8 0) st = st := rfl
theorem dht_le (B R : Nat → Nat) (L x : Nat) : ∀ i, dht B R L x i ≤ i := by
  intro i
  induction i with
  | zero => simp [dht]
  | succ i ih => rw [dht]; split <;> omega
theorem dcl_lt (B R : Nat → Nat) (L x : Nat) : ∀ i, dcl B R L x i < 16 := by
  intro i
  induction i with
  | zero => simp [dcl]
  | succ i ih => rw [dcl]; split <;> omega
end
section
def mW (q : Nat → Nat) (k : Nat → ClassId) (cd : Int32) (wd : Nat → Nat) (se : Nat → Nat) (kd : Nat → Nat) (bn : Nat → Int32) (sh : Nat → Nat) (mb : Nat → Nat) (pr : Nat) (B : Nat → Nat) (R : Nat → Nat) (sx : Nat) (pt : Nat) (rd : Nat) (wt : Int32) (ln : Nat) (px : Nat → Nat) : va_W := [(q 0, .inr (7, [.int cd, .ref (q 1), .ref (q 2), .ref (q 3), .ref (q 4), .ref (q 5), .ref (q 6), .int (nI pr), .ref (q 7), .ref (q 8), .int (nI sx), .int (nI pt), .int (nI rd), .int wt, .int (nI ln), .ref (q 9)])), (q 1, .inl (k 1, 4, .inl (fun j => nI (wd j)))), (q 2, .inl (k 0, 4, .inl (fun j => nI (se j)))), (q 3, .inl (k 0, 16, .inl (fun j => nI (kd j)))), (q 4, .inl (k 0, 16, .inl (bn))), (q 5, .inl (k 0, 64, .inl (fun j => nI (sh j)))), (q 6, .inl (k 0, 4096, .inl (fun j => nI (mb j)))), (q 7, .inl (k 0, 512, .inl (fun j => nI (B j)))), (q 8, .inl (k 0, 8, .inl (fun j => nI (R j)))), (q 9, .inl (k 0, 2048, .inl (fun j => nI (px j))))]
set_option maxHeartbeats 4000000 in
set_option maxRecDepth 100000 in
theorem c_MO_within (l : Launch) (D : va_G) (k : Nat → ClassId) (v lo hi : Nat) (hv : v < 2 ^ 31) (hlo : lo < 2 ^ 31) (hhi : hi < 2 ^ 31) : ro_i l y_MO_within b_MO_within 3 (some .boolean) { frames := 0, cells := 0, slots := 0, locals := 0 } D (kT k) [] [.int (nI v), .int (nI lo), .int (nI hi)] (bI (lo ≤ v ∧ v ≤ hi)) := by
  refine ro_headi (by decide) (Nat.le_of_ble_eq_true rfl) ?_
  intro p e s m below meth c ls hx hb hr hlocks hml hown hts hP hK hl
  have hown : s.vm.findClass "SlotScreenModel" = some m.cls := hown
  have hl : lv_has ls 3 [(0, .int (nI v)), (1, .int (nI lo)), (2, .int (nI hi))] := hl
  refine lv_iload_n hx hb d_MO_within_0 rfl (lv_at hl 0 rfl) ?_
  refine lv_iload_n hx hb d_MO_within_1 rfl (lv_at hl 1 rfl) ?_
  refine lv_icmp_lt (tgt := 14) hx hb d_MO_within_2 (by decide) (fun c1 => ?_) (fun c1 => ?_)
  · have c1 := (nI_ltI (by omega) (by omega)).mp c1
    refine lv_iconst (v := nI 0) hx hb d_MO_within_14 (by decide +kernel) ?_
    exact ro_retz hx hb hr hlocks d_MO_within_15 (by decide +kernel) (bI_f (by omega))
  · have c1 := mt (nI_ltI (by omega) (by omega)).mpr c1
    refine lv_iload_n hx hb d_MO_within_5 rfl (lv_at hl 0 rfl) ?_
    refine lv_iload_n hx hb d_MO_within_6 rfl (lv_at hl 2 rfl) ?_
    refine lv_icmp_gt (tgt := 14) hx hb d_MO_within_7 (by decide) (fun c2 => ?_) (fun c2 => ?_)
    · have c2 := (nI_ltI (by omega) (by omega)).mp c2
      refine lv_iconst (v := nI 0) hx hb d_MO_within_14 (by decide +kernel) ?_
      exact ro_retz hx hb hr hlocks d_MO_within_15 (by decide +kernel) (bI_f (by omega))
    · have c2 := mt (nI_ltI (by omega) (by omega)).mpr c2
      refine lv_iconst (v := nI 1) hx hb d_MO_within_10 (by decide +kernel) ?_
      refine lv_goto (tgt := 15) hx hb d_MO_within_11 (by decide) ?_
      exact ro_retz hx hb hr hlocks d_MO_within_15 (by decide +kernel) (bI_t (by omega))
set_option maxHeartbeats 4000000 in
set_option maxRecDepth 100000 in
theorem c_MO_withinZ (l : Launch) (D : va_G) (k : Nat → ClassId) (v : Int32) (lo hi : Nat) (hlo : lo < 2 ^ 31) (hhi : hi < 2 ^ 31) : ro_i l y_MO_within b_MO_within 3 (some .boolean) { frames := 0, cells := 0, slots := 0, locals := 0 } D (kT k) [] [.int v, .int (nI lo), .int (nI hi)] (bI ((lo : Int) ≤ v.toInt ∧ v.toInt ≤ (hi : Int))) := by
  refine ro_headi (by decide) (Nat.le_of_ble_eq_true rfl) ?_
  intro p e s m below meth c ls hx hb hr hlocks hml hown hts hP hK hl
  have hown : s.vm.findClass "SlotScreenModel" = some m.cls := hown
  have hl : lv_has ls 3 [(0, .int v), (1, .int (nI lo)), (2, .int (nI hi))] := hl
  refine lv_iload_n hx hb d_MO_within_0 rfl (lv_at hl 0 rfl) ?_
  refine lv_iload_n hx hb d_MO_within_1 rfl (lv_at hl 1 rfl) ?_
  refine lv_icmp_lt (tgt := 14) hx hb d_MO_within_2 (by decide) (fun c1 => ?_) (fun c1 => ?_)
  · have c1 := (zn_lt (by omega)).mp c1
    refine lv_iconst (v := nI 0) hx hb d_MO_within_14 (by decide +kernel) ?_
    exact ro_retz hx hb hr hlocks d_MO_within_15 (by decide +kernel) (bI_f (by omega))
  · have c1 := mt (zn_lt (by omega)).mpr c1
    refine lv_iload_n hx hb d_MO_within_5 rfl (lv_at hl 0 rfl) ?_
    refine lv_iload_n hx hb d_MO_within_6 rfl (lv_at hl 2 rfl) ?_
    refine lv_icmp_gt (tgt := 14) hx hb d_MO_within_7 (by decide) (fun c2 => ?_) (fun c2 => ?_)
    · have c2 := (nz_lt (by omega)).mp c2
      refine lv_iconst (v := nI 0) hx hb d_MO_within_14 (by decide +kernel) ?_
      exact ro_retz hx hb hr hlocks d_MO_within_15 (by decide +kernel) (bI_f (by omega))
    · have c2 := mt (nz_lt (by omega)).mpr c2
      refine lv_iconst (v := nI 1) hx hb d_MO_within_10 (by decide +kernel) ?_
      refine lv_goto (tgt := 15) hx hb d_MO_within_11 (by decide) ?_
      exact ro_retz hx hb hr hlocks d_MO_within_15 (by decide +kernel) (bI_t (by omega))
set_option maxHeartbeats 4000000 in
set_option maxRecDepth 100000 in
theorem c_MO_bit (l : Launch) (D : va_G) (k : Nat → ClassId) (q : Nat → Nat) (cd : Int32) (wd : Nat → Nat) (se : Nat → Nat) (kd : Nat → Nat) (bn : Nat → Int32) (sh : Nat → Nat) (mb : Nat → Nat) (pr : Nat) (B : Nat → Nat) (R : Nat → Nat) (sx : Nat) (pt : Nat) (rd : Nat) (wt : Int32) (ln : Nat) (px : Nat → Nat) (v n : Nat) (hv : v < 2 ^ 31) (hn : n < 31) : ro_i l y_MO_bit b_MO_bit 3 (some .boolean) { frames := 0, cells := 0, slots := 0, locals := 0 } D (kT k) (mW q k cd wd se kd bn sh mb pr B R sx pt rd wt ln px) [.ref (q 0), .int (nI v), .int (nI n)] (bI (v / 2 ^ n % 2 = 1)) := by
  refine ro_headi (by decide) (Nat.le_of_ble_eq_true rfl) ?_
  intro p e s m below meth c ls hx hb hr hlocks hml hown hts hP hK hl
  have hown : s.vm.findClass "SlotScreenModel" = some m.cls := hown
  have hl : lv_has ls 3 [(0, .ref (q 0)), (1, .int (nI v)), (2, .int (nI n))] := hl
  refine lv_iload_n hx hb d_MO_bit_0 rfl (lv_at hl 1 rfl) ?_
  refine lv_iload_n hx hb d_MO_bit_1 rfl (lv_at hl 2 rfl) ?_
  refine lv_ishr hx hb d_MO_bit_2 ?_
  refine ss_rt (y := nI (v / 2 ^ n)) (ss_shr hv (by omega)) ?_
  refine lv_iconst (v := nI 1) hx hb d_MO_bit_3 (by decide +kernel) ?_
  refine lv_iand hx hb d_MO_bit_4 ?_
  refine ss_rt (y := nI (v / 2 ^ n % 2)) (pk_andN (Nat.lt_of_le_of_lt (Nat.div_le_self _ _) (by omega)) 1 (by decide +kernel)) ?_
  refine lv_iconst (v := nI 1) hx hb d_MO_bit_5 (by decide +kernel) ?_
  refine lv_icmp_ne (tgt := 13) hx hb d_MO_bit_6 (by decide) (fun c1 => ?_) (fun c1 => ?_)
  · have c1 := mt (nI_eq (by omega) (by omega)).mpr c1
    refine lv_iconst (v := nI 0) hx hb d_MO_bit_13 (by decide +kernel) ?_
    exact ro_retz hx hb hr hlocks d_MO_bit_14 (by decide +kernel) (bI_f (by omega))
  · have c1 := (nI_eq (by omega) (by omega)).mp c1
    refine lv_iconst (v := nI 1) hx hb d_MO_bit_9 (by decide +kernel) ?_
    refine lv_goto (tgt := 14) hx hb d_MO_bit_10 (by decide) ?_
    exact ro_retz hx hb hr hlocks d_MO_bit_14 (by decide +kernel) (bI_t (by omega))
set_option maxHeartbeats 4000000 in
set_option maxRecDepth 100000 in
theorem c_MO_sprite (l : Launch) (D : va_G) (k : Nat → ClassId) (q : Nat → Nat) (cd : Int32) (wd : Nat → Nat) (se : Nat → Nat) (kd : Nat → Nat) (bn : Nat → Int32) (sh : Nat → Nat) (mb : Nat → Nat) (pr : Nat) (B : Nat → Nat) (R : Nat → Nat) (sx : Nat) (pt : Nat) (rd : Nat) (wt : Int32) (ln : Nat) (px : Nat → Nat) (hB : ∀ j, B j < 256) (hR : ∀ j, R j < 256) (z w : Nat) (hz : z < 8) (hw : w < 4) : ro_i l y_MO_sprite b_MO_sprite 3 (some .int) { frames := 0, cells := 0, slots := 0, locals := 0 } D (kT k) (mW q k cd wd se kd bn sh mb pr B R sx pt rd wt ln px) [.ref (q 0), .int (nI z), .int (nI w)] (nI (dsp B R z w)) := by
  refine ro_headi (by decide) (Nat.le_of_ble_eq_true rfl) ?_
  intro p e s m below meth c ls hx hb hr hlocks hml hown hts hP hK hl
  have hown : s.vm.findClass "SlotScreenModel" = some m.cls := hown
  have hl : lv_has ls 3 [(0, .ref (q 0)), (1, .int (nI z)), (2, .int (nI w))] := hl
  refine lv_aload_n hx hb d_MO_sprite_0 rfl (lv_at hl 0 rfl) ?_
  refine va_get (D := D) (ci := 7) (v := .ref (q 7)) (C := R_MO) (T := T_MO) (N := 16) hx hb hts in_MO hown hK hP 0 rfl rfl 8 (by decide) (hts _ w_538) (fun _ h9 => h9) rfl d_MO_sprite_1 ?_
  refine lv_bipush (v := nI 32) hx hb d_MO_sprite_4 (by decide +kernel) ?_
  refine lv_aload_n hx hb d_MO_sprite_6 rfl (lv_at hl 0 rfl) ?_
  refine va_get (D := D) (ci := 7) (v := .ref (q 8)) (C := R_MO) (T := T_MO) (N := 16) hx hb hts in_MO hown hK hP 0 rfl rfl 9 (by decide) (hts _ w_539) (fun _ h9 => h9) rfl d_MO_sprite_7 ?_
  refine lv_iconst (v := nI 5) hx hb d_MO_sprite_10 (by decide +kernel) ?_
  refine va_iald hx hb hK hP 8 0 rfl rfl (vp_in_nI (by omega) (by omega)) d_MO_sprite_11 ?_
  refine ss_rt (y := nI (R 5)) (congrArg (fun z => nI (R z)) (nI_clamp (by omega))) ?_
  have g1 := hR 5
  refine lv_bipush (v := nI 16) hx hb d_MO_sprite_12 (by decide +kernel) ?_
  refine lv_irem hx hb d_MO_sprite_14 (by first | decide +kernel | exact nI_ne0 (by omega) (by omega)) ?_
  refine ss_rt (y := nI ((R 5) % 16)) (pk_rem (by omega) (by omega) (by omega)) ?_
  refine lv_imul hx hb d_MO_sprite_15 ?_
  refine ss_rt (y := nI (32 * ((R 5) % 16))) (pk_mul _ _) ?_
  refine lv_iconst (v := nI 4) hx hb d_MO_sprite_16 (by decide +kernel) ?_
  refine lv_iload_n hx hb d_MO_sprite_17 rfl (lv_at hl 1 rfl) ?_
  refine lv_imul hx hb d_MO_sprite_18 ?_
  refine ss_rt (y := nI (4 * z)) (pk_mul _ _) ?_
  refine lv_iadd hx hb d_MO_sprite_19 ?_
  refine ss_rt (y := nI (32 * ((R 5) % 16) + (4 * z))) (nI_add _ _) ?_
  refine lv_iload_n hx hb d_MO_sprite_20 rfl (lv_at hl 2 rfl) ?_
  refine lv_iadd hx hb d_MO_sprite_21 ?_
  refine ss_rt (y := nI (32 * ((R 5) % 16) + (4 * z) + w)) (nI_add _ _) ?_
  refine va_iald hx hb hK hP 7 0 rfl rfl (vp_in_nI (by omega) (by omega)) d_MO_sprite_22 ?_
  refine ss_rt (y := nI (B (32 * ((R 5) % 16) + (4 * z) + w))) (congrArg (fun z => nI (B z)) (nI_clamp (by omega))) ?_
  have g2 := hB (32 * ((R 5) % 16) + (4 * z) + w)
  exact ro_reti hx hb hr hlocks d_MO_sprite_23 (rfl)
set_option maxHeartbeats 4000000 in
set_option maxRecDepth 100000 in
theorem c_MO_times (l : Launch) (D : va_G) (k : Nat → ClassId) (q : Nat → Nat) (cd : Int32) (wd : Nat → Nat) (se : Nat → Nat) (kd : Nat → Nat) (bn : Nat → Int32) (sh : Nat → Nat) (mb : Nat → Nat) (pr : Nat) (B : Nat → Nat) (R : Nat → Nat) (sx : Nat) (pt : Nat) (rd : Nat) (wt : Int32) (ln : Nat) (px : Nat → Nat) (hB : ∀ j, B j < 256) (hR : ∀ j, R j < 256) : ro_i l y_MO_times b_MO_times 1 (some .int) { frames := 1, cells := 0, slots := 0, locals := 22 } D (kT k) (mW q k cd wd se kd bn sh mb pr B R sx pt rd wt ln px) [.ref (q 0)] (nI (dtm R)) := by
  refine ro_headi (by decide) (Nat.le_of_ble_eq_true rfl) ?_
  intro p e s m below meth c ls hx hb hr hlocks hml hown hts hP hK hl
  have hown : s.vm.findClass "SlotScreenModel" = some m.cls := hown
  have hl : lv_has ls 1 [(0, .ref (q 0))] := hl
  refine lv_aload_n hx hb d_MO_times_0 rfl (lv_at hl 0 rfl) ?_
  refine lv_aload_n hx hb d_MO_times_1 rfl (lv_at hl 0 rfl) ?_
  refine va_get (D := D) (ci := 7) (v := .ref (q 8)) (C := R_MO) (T := T_MO) (N := 16) hx hb hts in_MO hown hK hP 0 rfl rfl 9 (by decide) (hts _ w_539) (fun _ h9 => h9) rfl d_MO_times_2 ?_
  refine lv_iconst (v := nI 1) hx hb d_MO_times_5 (by decide +kernel) ?_
  refine va_iald hx hb hK hP 8 0 rfl rfl (vp_in_nI (by omega) (by omega)) d_MO_times_6 ?_
  refine ss_rt (y := nI (R 1)) (congrArg (fun z => nI (R z)) (nI_clamp (by omega))) ?_
  have g1 := hR 1
  refine lv_iconst (v := nI 0) hx hb d_MO_times_7 (by decide +kernel) ?_
  refine kr_iV (As := [.int (nI (R 1)), .int (nI 0)]) (rest := []) ⟨hx, hb, hml, hown, hts⟩ (c_MO_bit l D k q cd wd se kd bn sh mb pr B R sx pt rd wt ln px (R 1) 0 (by omega) (by omega)) (cwV 2 hts (gV w_653 w_655 w_p20 w_5 w_656) rfl rfl rfl (by decide +kernel) ⟨Nat.le_of_ble_eq_true rfl, Nat.le_of_ble_eq_true rfl⟩) hK hP (va_recv hK hP (ci := 7) (q0 := 0) rfl rfl) rfl hl.1 rfl (Nat.le_of_ble_eq_true rfl) d_MO_times_8 ⟨Nat.zero_le _, Nat.zero_le _⟩ ?_
  refine lv_if_eq (tgt := 18) hx hb d_MO_times_11 (by decide) (fun c2 => ?_) (fun c2 => ?_)
  · have c2 := (bI_0).mp c2
    refine lv_iconst (v := nI 1) hx hb d_MO_times_18 (by decide +kernel) ?_
    exact ro_reti hx hb hr hlocks d_MO_times_19 (by unfold dtm; first | rw [if_pos (by omega)] | rw [if_neg (by omega)])
  · have c2 := mt (bI_0).mpr c2
    have c2 := Classical.not_not.mp c2
    refine lv_iconst (v := nI 2) hx hb d_MO_times_14 (by decide +kernel) ?_
    refine lv_goto (tgt := 19) hx hb d_MO_times_15 (by decide) ?_
    exact ro_reti hx hb hr hlocks d_MO_times_19 (by unfold dtm; first | rw [if_pos (by omega)] | rw [if_neg (by omega)])
set_option maxHeartbeats 4000000 in
set_option maxRecDepth 100000 in
theorem c_MO_size (l : Launch) (D : va_G) (k : Nat → ClassId) (q : Nat → Nat) (cd : Int32) (wd : Nat → Nat) (se : Nat → Nat) (kd : Nat → Nat) (bn : Nat → Int32) (sh : Nat → Nat) (mb : Nat → Nat) (pr : Nat) (B : Nat → Nat) (R : Nat → Nat) (sx : Nat) (pt : Nat) (rd : Nat) (wt : Int32) (ln : Nat) (px : Nat → Nat) (hB : ∀ j, B j < 256) (hR : ∀ j, R j < 256) : ro_i l y_MO_size b_MO_size 1 (some .int) { frames := 2, cells := 0, slots := 0, locals := 42 } D (kT k) (mW q k cd wd se kd bn sh mb pr B R sx pt rd wt ln px) [.ref (q 0)] (nI (dsz R)) := by
  refine ro_headi (by decide) (Nat.le_of_ble_eq_true rfl) ?_
  intro p e s m below meth c ls hx hb hr hlocks hml hown hts hP hK hl
  have hown : s.vm.findClass "SlotScreenModel" = some m.cls := hown
  have hl : lv_has ls 1 [(0, .ref (q 0))] := hl
  refine lv_aload_n hx hb d_MO_size_0 rfl (lv_at hl 0 rfl) ?_
  refine lv_aload_n hx hb d_MO_size_1 rfl (lv_at hl 0 rfl) ?_
  refine va_get (D := D) (ci := 7) (v := .ref (q 8)) (C := R_MO) (T := T_MO) (N := 16) hx hb hts in_MO hown hK hP 0 rfl rfl 9 (by decide) (hts _ w_539) (fun _ h9 => h9) rfl d_MO_size_2 ?_
  refine lv_iconst (v := nI 1) hx hb d_MO_size_5 (by decide +kernel) ?_
  refine va_iald hx hb hK hP 8 0 rfl rfl (vp_in_nI (by omega) (by omega)) d_MO_size_6 ?_
  refine ss_rt (y := nI (R 1)) (congrArg (fun z => nI (R z)) (nI_clamp (by omega))) ?_
  have g1 := hR 1
  refine lv_iconst (v := nI 1) hx hb d_MO_size_7 (by decide +kernel) ?_
  refine kr_iV (As := [.int (nI (R 1)), .int (nI 1)]) (rest := []) ⟨hx, hb, hml, hown, hts⟩ (c_MO_bit l D k q cd wd se kd bn sh mb pr B R sx pt rd wt ln px (R 1) 1 (by omega) (by omega)) (cwV 2 hts (gV w_653 w_655 w_p20 w_5 w_656) rfl rfl rfl (by decide +kernel) ⟨Nat.le_of_ble_eq_true rfl, Nat.le_of_ble_eq_true rfl⟩) hK hP (va_recv hK hP (ci := 7) (q0 := 0) rfl rfl) rfl hl.1 rfl (Nat.le_of_ble_eq_true rfl) d_MO_size_8 ⟨Nat.zero_le _, Nat.zero_le _⟩ ?_
  refine lv_if_eq (tgt := 19) hx hb d_MO_size_11 (by decide) (fun c2 => ?_) (fun c2 => ?_)
  · have c2 := (bI_0).mp c2
    refine lv_bipush (v := nI 8) hx hb d_MO_size_19 (by decide +kernel) ?_
    refine lv_aload_n hx hb d_MO_size_21 rfl (lv_at hl 0 rfl) ?_
    refine kr_iV (As := []) (rest := [.int (nI 8)]) ⟨hx, hb, hml, hown, hts⟩ (c_MO_times l D k q cd wd se kd bn sh mb pr B R sx pt rd wt ln px hB hR) (cwV 0 hts (gV w_677 w_679 w_p26 w_5 w_680) rfl rfl rfl (by decide +kernel) ⟨Nat.le_of_ble_eq_true rfl, Nat.le_of_ble_eq_true rfl⟩) hK hP (va_recv hK hP (ci := 7) (q0 := 0) rfl rfl) rfl hl.1 rfl (Nat.le_of_ble_eq_true rfl) d_MO_size_22 ⟨Nat.zero_le _, Nat.zero_le _⟩ ?_
    refine lv_imul hx hb d_MO_size_25 ?_
    refine ss_rt (y := nI (8 * (dtm R))) (pk_mul _ _) ?_
    exact ro_reti hx hb hr hlocks d_MO_size_26 (by unfold dsz dsd; first | rw [if_pos (by omega)] | rw [if_neg (by omega)])
  · have c2 := mt (bI_0).mpr c2
    have c2 := Classical.not_not.mp c2
    refine lv_bipush (v := nI 16) hx hb d_MO_size_14 (by decide +kernel) ?_
    refine lv_goto (tgt := 21) hx hb d_MO_size_16 (by decide) ?_
    refine lv_aload_n hx hb d_MO_size_21 rfl (lv_at hl 0 rfl) ?_
    refine kr_iV (As := []) (rest := [.int (nI 16)]) ⟨hx, hb, hml, hown, hts⟩ (c_MO_times l D k q cd wd se kd bn sh mb pr B R sx pt rd wt ln px hB hR) (cwV 0 hts (gV w_677 w_679 w_p26 w_5 w_680) rfl rfl rfl (by decide +kernel) ⟨Nat.le_of_ble_eq_true rfl, Nat.le_of_ble_eq_true rfl⟩) hK hP (va_recv hK hP (ci := 7) (q0 := 0) rfl rfl) rfl hl.1 rfl (Nat.le_of_ble_eq_true rfl) d_MO_size_22 ⟨Nat.zero_le _, Nat.zero_le _⟩ ?_
    refine lv_imul hx hb d_MO_size_25 ?_
    refine ss_rt (y := nI (16 * (dtm R))) (pk_mul _ _) ?_
    exact ro_reti hx hb hr hlocks d_MO_size_26 (by unfold dsz dsd; first | rw [if_pos (by omega)] | rw [if_neg (by omega)])
end
section
set_option maxHeartbeats 4000000 in
set_option maxRecDepth 100000 in
theorem c_MO_rowOn (l : Launch) (D : va_G) (k : Nat → ClassId) (q : Nat → Nat) (cd : Int32) (wd : Nat → Nat) (se : Nat → Nat) (kd : Nat → Nat) (bn : Nat → Int32) (sh : Nat → Nat) (mb : Nat → Nat) (pr : Nat) (B : Nat → Nat) (R : Nat → Nat) (sx : Nat) (pt : Nat) (rd : Nat) (wt : Int32) (ln : Nat) (px : Nat → Nat) (hB : ∀ j, B j < 256) (hR : ∀ j, R j < 256) (z y : Nat) (hz : z < 8) (hy : y < 32) : ro_i l y_MO_rowOn b_MO_rowOn 4 (some .int) { frames := 3, cells := 0, slots := 0, locals := 62 } D (kT k) (mW q k cd wd se kd bn sh mb pr B R sx pt rd wt ln px) [.ref (q 0), .int (nI z), .int (nI y)] (if don B R y z = true then nI (drw B R y z) else -1) := by
  refine ro_headi (by decide) (Nat.le_of_ble_eq_true rfl) ?_
  intro p e s m below meth c ls hx hb hr hlocks hml hown hts hP hK hl
  have hown : s.vm.findClass "SlotScreenModel" = some m.cls := hown
  have hl : lv_has ls 4 [(0, .ref (q 0)), (1, .int (nI z)), (2, .int (nI y))] := hl
  have z1 := dsz_le R
  have z2 := dtm_le R
  refine lv_aload_n hx hb d_MO_rowOn_0 rfl (lv_at hl 0 rfl) ?_
  refine lv_iload_n hx hb d_MO_rowOn_1 rfl (lv_at hl 1 rfl) ?_
  refine lv_iconst (v := nI 0) hx hb d_MO_rowOn_2 (by decide +kernel) ?_
  have g1 := hB (32 * (R 5 % 16) + 4 * z + 0)
  have g2 : dsp B R z 0 < 256 := hB _
  refine kr_iV (As := [.int (nI z), .int (nI 0)]) (rest := []) ⟨hx, hb, hml, hown, hts⟩ (c_MO_sprite l D k q cd wd se kd bn sh mb pr B R sx pt rd wt ln px hB hR z 0 (by omega) (by omega)) (cwV 2 hts (gV w_661 w_663 w_p22 w_5 w_664) rfl rfl rfl (by decide +kernel) ⟨Nat.le_of_ble_eq_true rfl, Nat.le_of_ble_eq_true rfl⟩) hK hP (va_recv hK hP (ci := 7) (q0 := 0) rfl rfl) rfl hl.1 rfl (Nat.le_of_ble_eq_true rfl) d_MO_rowOn_3 ⟨Nat.zero_le _, Nat.zero_le _⟩ ?_
  refine lv_sipush (v := nI 224) hx hb d_MO_rowOn_6 (by decide +kernel) ?_
  refine lv_icmp_ge (tgt := 23) hx hb d_MO_rowOn_9 (by decide) (fun c3 => ?_) (fun c3 => ?_)
  · have c3 := (nI_leI (by omega) (by omega)).mp c3
    refine lv_aload_n hx hb d_MO_rowOn_23 rfl (lv_at hl 0 rfl) ?_
    refine lv_iload_n hx hb d_MO_rowOn_24 rfl (lv_at hl 1 rfl) ?_
    refine lv_iconst (v := nI 0) hx hb d_MO_rowOn_25 (by decide +kernel) ?_
    have g4 := hB (32 * (R 5 % 16) + 4 * z + 0)
    have g5 : dsp B R z 0 < 256 := hB _
    refine kr_iV (As := [.int (nI z), .int (nI 0)]) (rest := []) ⟨hx, hb, hml, hown, hts⟩ (c_MO_sprite l D k q cd wd se kd bn sh mb pr B R sx pt rd wt ln px hB hR z 0 (by omega) (by omega)) (cwV 2 hts (gV w_661 w_663 w_p22 w_5 w_664) rfl rfl rfl (by decide +kernel) ⟨Nat.le_of_ble_eq_true rfl, Nat.le_of_ble_eq_true rfl⟩) hK hP (va_recv hK hP (ci := 7) (q0 := 0) rfl rfl) rfl hl.1 rfl (Nat.le_of_ble_eq_true rfl) d_MO_rowOn_26 ⟨Nat.zero_le _, Nat.zero_le _⟩ ?_
    refine lv_sipush (v := nI 255) hx hb d_MO_rowOn_29 (by decide +kernel) ?_
    refine lv_isub hx hb d_MO_rowOn_32 ?_
    refine ss_rt (y := iI ((dsp B R z 0 : Nat) - (255 : Nat) : Int)) (iI_nn _ _) ?_
    refine lv_istore_n (lv' := [(3, .int (iI ((dsp B R z 0 : Nat) - (255 : Nat) : Int))), (0, .ref (q 0)), (1, .int (nI z)), (2, .int (nI y))]) hx hb d_MO_rowOn_33 rfl hl (by decide) rfl (fun ls hl => ?_)
    refine lv_iload_n hx hb d_MO_rowOn_34 rfl (lv_at hl 3 rfl) ?_
    refine lv_iload_n hx hb d_MO_rowOn_35 rfl (lv_at hl 0 rfl) ?_
    refine lv_icmp_lt (tgt := 60) hx hb d_MO_rowOn_36 (by decide) (fun c6 => ?_) (fun c6 => ?_)
    · have c6 := (nz_lt (by omega)).mp c6
      rw [iI_t (by omega) (by omega)] at c6
      refine lv_iconst (v := (-1)) hx hb d_MO_rowOn_60 (by decide +kernel) ?_
      exact ro_reti hx hb hr hlocks d_MO_rowOn_61 ((if_neg (don_f (by first | (rw [if_pos (by omega)]; omega) | (rw [if_neg (by omega)]; omega)))).symm)
    · have c6 := mt (nz_lt (by omega)).mpr c6
      rw [iI_t (by omega) (by omega)] at c6
      refine lv_iload_n hx hb d_MO_rowOn_39 rfl (lv_at hl 3 rfl) ?_
      refine lv_iload_n hx hb d_MO_rowOn_40 rfl (lv_at hl 0 rfl) ?_
      refine lv_aload_n hx hb d_MO_rowOn_41 rfl (lv_at hl 1 rfl) ?_
      refine kr_iV (As := []) (rest := [.int (iI ((dsp B R z 0 : Nat) - (255 : Nat) : Int)), .int (nI y)]) ⟨hx, hb, hml, hown, hts⟩ (c_MO_size l D k q cd wd se kd bn sh mb pr B R sx pt rd wt ln px hB hR) (cwV 0 hts (gV w_673 w_675 w_p25 w_5 w_676) rfl rfl rfl (by decide +kernel) ⟨Nat.le_of_ble_eq_true rfl, Nat.le_of_ble_eq_true rfl⟩) hK hP (va_recv hK hP (ci := 7) (q0 := 0) rfl rfl) rfl hl.1 rfl (Nat.le_of_ble_eq_true rfl) d_MO_rowOn_42 ⟨Nat.zero_le _, Nat.zero_le _⟩ ?_
      refine lv_iadd hx hb d_MO_rowOn_45 ?_
      refine ss_rt (y := iI (((dsp B R z 0 : Nat) - (255 : Nat) : Int) + (dsz R : Nat))) (iI_an _ _) ?_
      refine lv_icmp_ge (tgt := 60) hx hb d_MO_rowOn_46 (by decide) (fun c7 => ?_) (fun c7 => ?_)
      · have c7 := (zn_le (by omega)).mp c7
        rw [iI_t (by omega) (by omega)] at c7
        refine lv_iconst (v := (-1)) hx hb d_MO_rowOn_60 (by decide +kernel) ?_
        exact ro_reti hx hb hr hlocks d_MO_rowOn_61 ((if_neg (don_f (by first | (rw [if_pos (by omega)]; omega) | (rw [if_neg (by omega)]; omega)))).symm)
      · have c7 := mt (zn_le (by omega)).mpr c7
        rw [iI_t (by omega) (by omega)] at c7
        refine lv_iload_n hx hb d_MO_rowOn_49 rfl (lv_at hl 3 rfl) ?_
        refine lv_iload_n hx hb d_MO_rowOn_50 rfl (lv_at hl 0 rfl) ?_
        refine lv_isub hx hb d_MO_rowOn_51 ?_
        refine ss_rt (y := nI (y + 255 - dsp B R z 0)) ((iI_sn _ _).trans (iI_n (by omega))) ?_
        refine lv_aload_n hx hb d_MO_rowOn_52 rfl (lv_at hl 1 rfl) ?_
        refine kr_iV (As := []) (rest := [.int (nI (y + 255 - dsp B R z 0))]) ⟨hx, hb, hml, hown, hts⟩ (c_MO_times l D k q cd wd se kd bn sh mb pr B R sx pt rd wt ln px hB hR) (cwV 0 hts (gV w_677 w_679 w_p26 w_5 w_680) rfl rfl rfl (by decide +kernel) ⟨Nat.le_of_ble_eq_true rfl, Nat.le_of_ble_eq_true rfl⟩) hK hP (va_recv hK hP (ci := 7) (q0 := 0) rfl rfl) rfl hl.1 rfl (Nat.le_of_ble_eq_true rfl) d_MO_rowOn_53 ⟨Nat.zero_le _, Nat.zero_le _⟩ ?_
        refine lv_idiv hx hb d_MO_rowOn_56 (by first | decide +kernel | exact nI_ne0 (by omega) (by omega)) ?_
        refine ss_rt (y := nI ((y + 255 - dsp B R z 0) / (dtm R))) (pk_div (by omega) (by omega) (by omega)) ?_
        have g8 := Nat.div_le_self (y + 255 - dsp B R z 0) (dtm R)
        refine lv_goto (tgt := 61) hx hb d_MO_rowOn_57 (by decide) ?_
        exact ro_reti hx hb hr hlocks d_MO_rowOn_61 (by rw [if_pos (don_t (by first | (rw [if_pos (by omega)]; omega) | (rw [if_neg (by omega)]; omega)))]; first | rw [drw_1 (by omega)] | rw [drw_2 (by omega)])
  · have c3 := mt (nI_leI (by omega) (by omega)).mpr c3
    refine lv_aload_n hx hb d_MO_rowOn_12 rfl (lv_at hl 0 rfl) ?_
    refine lv_iload_n hx hb d_MO_rowOn_13 rfl (lv_at hl 1 rfl) ?_
    refine lv_iconst (v := nI 0) hx hb d_MO_rowOn_14 (by decide +kernel) ?_
    have g9 := hB (32 * (R 5 % 16) + 4 * z + 0)
    have g10 : dsp B R z 0 < 256 := hB _
    refine kr_iV (As := [.int (nI z), .int (nI 0)]) (rest := []) ⟨hx, hb, hml, hown, hts⟩ (c_MO_sprite l D k q cd wd se kd bn sh mb pr B R sx pt rd wt ln px hB hR z 0 (by omega) (by omega)) (cwV 2 hts (gV w_661 w_663 w_p22 w_5 w_664) rfl rfl rfl (by decide +kernel) ⟨Nat.le_of_ble_eq_true rfl, Nat.le_of_ble_eq_true rfl⟩) hK hP (va_recv hK hP (ci := 7) (q0 := 0) rfl rfl) rfl hl.1 rfl (Nat.le_of_ble_eq_true rfl) d_MO_rowOn_15 ⟨Nat.zero_le _, Nat.zero_le _⟩ ?_
    refine lv_iconst (v := nI 1) hx hb d_MO_rowOn_18 (by decide +kernel) ?_
    refine lv_iadd hx hb d_MO_rowOn_19 ?_
    refine ss_rt (y := nI (dsp B R z 0 + 1)) (nI_add _ _) ?_
    refine lv_goto (tgt := 33) hx hb d_MO_rowOn_20 (by decide) ?_
    refine lv_istore_n (lv' := [(3, .int (nI (dsp B R z 0 + 1))), (0, .ref (q 0)), (1, .int (nI z)), (2, .int (nI y))]) hx hb d_MO_rowOn_33 rfl hl (by decide) rfl (fun ls hl => ?_)
    refine lv_iload_n hx hb d_MO_rowOn_34 rfl (lv_at hl 3 rfl) ?_
    refine lv_iload_n hx hb d_MO_rowOn_35 rfl (lv_at hl 0 rfl) ?_
    refine lv_icmp_lt (tgt := 60) hx hb d_MO_rowOn_36 (by decide) (fun c11 => ?_) (fun c11 => ?_)
    · have c11 := (nI_ltI (by omega) (by omega)).mp c11
      refine lv_iconst (v := (-1)) hx hb d_MO_rowOn_60 (by decide +kernel) ?_
      exact ro_reti hx hb hr hlocks d_MO_rowOn_61 ((if_neg (don_f (by first | (rw [if_pos (by omega)]; omega) | (rw [if_neg (by omega)]; omega)))).symm)
    · have c11 := mt (nI_ltI (by omega) (by omega)).mpr c11
      refine lv_iload_n hx hb d_MO_rowOn_39 rfl (lv_at hl 3 rfl) ?_
      refine lv_iload_n hx hb d_MO_rowOn_40 rfl (lv_at hl 0 rfl) ?_
      refine lv_aload_n hx hb d_MO_rowOn_41 rfl (lv_at hl 1 rfl) ?_
      refine kr_iV (As := []) (rest := [.int (nI (dsp B R z 0 + 1)), .int (nI y)]) ⟨hx, hb, hml, hown, hts⟩ (c_MO_size l D k q cd wd se kd bn sh mb pr B R sx pt rd wt ln px hB hR) (cwV 0 hts (gV w_673 w_675 w_p25 w_5 w_676) rfl rfl rfl (by decide +kernel) ⟨Nat.le_of_ble_eq_true rfl, Nat.le_of_ble_eq_true rfl⟩) hK hP (va_recv hK hP (ci := 7) (q0 := 0) rfl rfl) rfl hl.1 rfl (Nat.le_of_ble_eq_true rfl) d_MO_rowOn_42 ⟨Nat.zero_le _, Nat.zero_le _⟩ ?_
      refine lv_iadd hx hb d_MO_rowOn_45 ?_
      refine ss_rt (y := nI (dsp B R z 0 + 1 + (dsz R))) (nI_add _ _) ?_
      refine lv_icmp_ge (tgt := 60) hx hb d_MO_rowOn_46 (by decide) (fun c12 => ?_) (fun c12 => ?_)
      · have c12 := (nI_leI (by omega) (by omega)).mp c12
        refine lv_iconst (v := (-1)) hx hb d_MO_rowOn_60 (by decide +kernel) ?_
        exact ro_reti hx hb hr hlocks d_MO_rowOn_61 ((if_neg (don_f (by first | (rw [if_pos (by omega)]; omega) | (rw [if_neg (by omega)]; omega)))).symm)
      · have c12 := mt (nI_leI (by omega) (by omega)).mpr c12
        refine lv_iload_n hx hb d_MO_rowOn_49 rfl (lv_at hl 3 rfl) ?_
        refine lv_iload_n hx hb d_MO_rowOn_50 rfl (lv_at hl 0 rfl) ?_
        refine lv_isub hx hb d_MO_rowOn_51 ?_
        refine ss_rt (y := nI (y - (dsp B R z 0 + 1))) (pk_sub (by omega)) ?_
        refine lv_aload_n hx hb d_MO_rowOn_52 rfl (lv_at hl 1 rfl) ?_
        refine kr_iV (As := []) (rest := [.int (nI (y - (dsp B R z 0 + 1)))]) ⟨hx, hb, hml, hown, hts⟩ (c_MO_times l D k q cd wd se kd bn sh mb pr B R sx pt rd wt ln px hB hR) (cwV 0 hts (gV w_677 w_679 w_p26 w_5 w_680) rfl rfl rfl (by decide +kernel) ⟨Nat.le_of_ble_eq_true rfl, Nat.le_of_ble_eq_true rfl⟩) hK hP (va_recv hK hP (ci := 7) (q0 := 0) rfl rfl) rfl hl.1 rfl (Nat.le_of_ble_eq_true rfl) d_MO_rowOn_53 ⟨Nat.zero_le _, Nat.zero_le _⟩ ?_
        refine lv_idiv hx hb d_MO_rowOn_56 (by first | decide +kernel | exact nI_ne0 (by omega) (by omega)) ?_
        refine ss_rt (y := nI ((y - (dsp B R z 0 + 1)) / (dtm R))) (pk_div (by omega) (by omega) (by omega)) ?_
        have g13 := Nat.div_le_self (y - (dsp B R z 0 + 1)) (dtm R)
        refine lv_goto (tgt := 61) hx hb d_MO_rowOn_57 (by decide) ?_
        exact ro_reti hx hb hr hlocks d_MO_rowOn_61 (by rw [if_pos (don_t (by first | (rw [if_pos (by omega)]; omega) | (rw [if_neg (by omega)]; omega)))]; first | rw [drw_1 (by omega)] | rw [drw_2 (by omega)])
set_option maxHeartbeats 4000000 in
set_option maxRecDepth 100000 in
theorem c_MO_there (l : Launch) (D : va_G) (k : Nat → ClassId) (q : Nat → Nat) (cd : Int32) (wd : Nat → Nat) (se : Nat → Nat) (kd : Nat → Nat) (bn : Nat → Int32) (sh : Nat → Nat) (mb : Nat → Nat) (pr : Nat) (B : Nat → Nat) (R : Nat → Nat) (sx : Nat) (pt : Nat) (rd : Nat) (wt : Int32) (ln : Nat) (px : Nat → Nat) (hB : ∀ j, B j < 256) (hR : ∀ j, R j < 256) : ro_i l y_MO_there b_MO_there 2 (some .int) { frames := 1, cells := 0, slots := 0, locals := 22 } D (kT k) (mW q k cd wd se kd bn sh mb pr B R sx pt rd wt ln px) [.ref (q 0)] (nI (dmo B R)) := by
  refine ro_headi (by decide) (Nat.le_of_ble_eq_true rfl) ?_
  intro p e s m below meth c ls hx hb hr hlocks hml hown hts hP hK hl
  have hown : s.vm.findClass "SlotScreenModel" = some m.cls := hown
  have hl : lv_has ls 2 [(0, .ref (q 0))] := hl
  refine lv_iconst (v := nI 0) hx hb d_MO_there_0 (by decide +kernel) ?_
  refine lv_istore_n (lv' := [(1, .int (nI 0)), (0, .ref (q 0))]) hx hb d_MO_there_1 rfl hl (by decide) rfl (fun ls hl => ?_)
  have loop : ∀ (j9 i : Nat), i + j9 = 8 → (hn : ∀ j, j < i → dsp B R j 0 ≠ 208) → ∀ (ls : Array Slot), lv_has ls 2 [(1, .int (nI i)), (0, .ref (q 0))] → W p l e (headSpec (wsG y_MO_there b_MO_there 2 (some .int)) { frames := 1, cells := 0, slots := 0, locals := 22 }).room s m ([.ref (q 0)] : List Value).toArray below meth c s.heap [] 0 0 (MQ below (vp_Si (fun x => x = nI (dmo B R))) ([.ref (q 0)] : List Value).toArray s 0 0 (fun _ => False)) (F0 m 2 ls []) := by
    intro j9
    induction j9 with
    | zero =>
      intro i h9 hn ls hl
      refine lv_iload_n hx hb d_MO_there_2 rfl (lv_at hl 0 rfl) ?_
      refine lv_bipush (v := nI 8) hx hb d_MO_there_3 (by decide +kernel) ?_
      refine lv_icmp_ge (tgt := 26) hx hb d_MO_there_5 (by decide) (fun c1 => ?_) (fun c1 => ?_)
      · have c1 := (nI_leI (by omega) (by omega)).mp c1
        refine lv_iload_n hx hb d_MO_there_26 rfl (lv_at hl 0 rfl) ?_
        exact ro_reti hx hb hr hlocks d_MO_there_27 (by have e9 := dth_from (fun k => dsp B R k 0) i (8 - i) hn; rw [show i + (8 - i) = 8 by omega] at e9; unfold dmo; rw [e9]; rw [show 8 - i = 0 by omega, dth])
      · have c1 := mt (nI_leI (by omega) (by omega)).mpr c1
        exact absurd c1 (by omega)
    | succ j9 ih =>
      intro i h9 hn ls hl
      refine lv_iload_n hx hb d_MO_there_2 rfl (lv_at hl 0 rfl) ?_
      refine lv_bipush (v := nI 8) hx hb d_MO_there_3 (by decide +kernel) ?_
      refine lv_icmp_ge (tgt := 26) hx hb d_MO_there_5 (by decide) (fun c2 => ?_) (fun c2 => ?_)
      · have c2 := (nI_leI (by omega) (by omega)).mp c2
        exact absurd c2 (by omega)
      · have c2 := mt (nI_leI (by omega) (by omega)).mpr c2
        refine lv_aload_n hx hb d_MO_there_8 rfl (lv_at hl 1 rfl) ?_
        refine lv_iload_n hx hb d_MO_there_9 rfl (lv_at hl 0 rfl) ?_
        refine lv_iconst (v := nI 0) hx hb d_MO_there_10 (by decide +kernel) ?_
        have g3 := hB (32 * (R 5 % 16) + 4 * i + 0)
        have g4 : dsp B R i 0 < 256 := hB _
        refine kr_iV (As := [.int (nI i), .int (nI 0)]) (rest := []) ⟨hx, hb, hml, hown, hts⟩ (c_MO_sprite l D k q cd wd se kd bn sh mb pr B R sx pt rd wt ln px hB hR i 0 (by omega) (by omega)) (cwV 2 hts (gV w_661 w_663 w_p22 w_5 w_664) rfl rfl rfl (by decide +kernel) ⟨Nat.le_of_ble_eq_true rfl, Nat.le_of_ble_eq_true rfl⟩) hK hP (va_recv hK hP (ci := 7) (q0 := 0) rfl rfl) rfl hl.1 rfl (Nat.le_of_ble_eq_true rfl) d_MO_there_11 ⟨Nat.zero_le _, Nat.zero_le _⟩ ?_
        refine lv_sipush (v := nI 208) hx hb d_MO_there_14 (by decide +kernel) ?_
        refine lv_icmp_eq (tgt := 26) hx hb d_MO_there_17 (by decide) (fun c5 => ?_) (fun c5 => ?_)
        · have c5 := (nI_eq (by omega) (by omega)).mp c5
          refine lv_iload_n hx hb d_MO_there_26 rfl (lv_at hl 0 rfl) ?_
          exact ro_reti hx hb hr hlocks d_MO_there_27 (by have e9 := dth_from (fun k => dsp B R k 0) i (8 - i) hn; rw [show i + (8 - i) = 8 by omega] at e9; unfold dmo; rw [e9]; rw [show 8 - i = j9 + 1 by omega, dth, if_pos (by omega)])
        · have c5 := mt (nI_eq (by omega) (by omega)).mpr c5
          refine lv_iinc (v := nI (i + 1)) (lv' := [(1, .int (nI (i + 1))), (0, .ref (q 0))]) hx hb d_MO_there_20 hl (k := 0) rfl (nI_1 _) (by decide) rfl (fun ls hl => ?_)
          refine lv_goto (tgt := 2) hx hb d_MO_there_23 (by decide) ?_
          exact ih (i + 1) (by omega) (lt_s (p := fun j => dsp B R j 0 ≠ 208) hn (show dsp B R i 0 ≠ 208 by omega)) ls (lv_sub hl [0, 1] rfl)
  exact loop (8 - 0) 0 (by omega) (fun j hj => by omega) ls (lv_sub hl [0, 1] rfl)
set_option maxHeartbeats 4000000 in
set_option maxRecDepth 100000 in
theorem c_MO_tile (l : Launch) (D : va_G) (k : Nat → ClassId) (q : Nat → Nat) (cd : Int32) (wd : Nat → Nat) (se : Nat → Nat) (kd : Nat → Nat) (bn : Nat → Int32) (sh : Nat → Nat) (mb : Nat → Nat) (pr : Nat) (B : Nat → Nat) (R : Nat → Nat) (sx : Nat) (pt : Nat) (rd : Nat) (wt : Int32) (ln : Nat) (px : Nat → Nat) (hB : ∀ j, B j < 256) (hR : ∀ j, R j < 256) (x y : Nat) (hx9 : x < 64) (hy : y < 32) : ro_i l y_MO_tile b_MO_tile 6 (some .int) { frames := 1, cells := 0, slots := 0, locals := 22 } D (kT k) (mW q k cd wd se kd bn sh mb pr B R sx pt rd wt ln px) [.ref (q 0), .int (nI x), .int (nI y)] (nI (dtl B R x y)) := by
  refine ro_headi (by decide) (Nat.le_of_ble_eq_true rfl) ?_
  intro p e s m below meth c ls hx hb hr hlocks hml hown hts hP hK hl
  have hown : s.vm.findClass "SlotScreenModel" = some m.cls := hown
  have hl : lv_has ls 6 [(0, .ref (q 0)), (1, .int (nI x)), (2, .int (nI y))] := hl
  refine lv_aload_n hx hb d_MO_tile_0 rfl (lv_at hl 0 rfl) ?_
  refine va_get (D := D) (ci := 7) (v := .ref (q 7)) (C := R_MO) (T := T_MO) (N := 16) hx hb hts in_MO hown hK hP 0 rfl rfl 8 (by decide) (hts _ w_538) (fun _ h9 => h9) rfl d_MO_tile_1 ?_
  refine lv_bipush (v := nI 32) hx hb d_MO_tile_4 (by decide +kernel) ?_
  refine lv_aload_n hx hb d_MO_tile_6 rfl (lv_at hl 0 rfl) ?_
  refine va_get (D := D) (ci := 7) (v := .ref (q 8)) (C := R_MO) (T := T_MO) (N := 16) hx hb hts in_MO hown hK hP 0 rfl rfl 9 (by decide) (hts _ w_539) (fun _ h9 => h9) rfl d_MO_tile_7 ?_
  refine lv_iconst (v := nI 2) hx hb d_MO_tile_10 (by decide +kernel) ?_
  refine va_iald hx hb hK hP 8 0 rfl rfl (vp_in_nI (by omega) (by omega)) d_MO_tile_11 ?_
  refine ss_rt (y := nI (R 2)) (congrArg (fun z => nI (R z)) (nI_clamp (by omega))) ?_
  have g1 := hR 2
  refine lv_bipush (v := nI 16) hx hb d_MO_tile_12 (by decide +kernel) ?_
  refine lv_irem hx hb d_MO_tile_14 (by first | decide +kernel | exact nI_ne0 (by omega) (by omega)) ?_
  refine ss_rt (y := nI ((R 2) % 16)) (pk_rem (by omega) (by omega) (by omega)) ?_
  refine lv_imul hx hb d_MO_tile_15 ?_
  refine ss_rt (y := nI (32 * ((R 2) % 16))) (pk_mul _ _) ?_
  refine lv_iload_n hx hb d_MO_tile_16 rfl (lv_at hl 2 rfl) ?_
  refine lv_bipush (v := nI 8) hx hb d_MO_tile_17 (by decide +kernel) ?_
  refine lv_idiv hx hb d_MO_tile_19 (by first | decide +kernel | exact nI_ne0 (by omega) (by omega)) ?_
  refine ss_rt (y := nI (y / 8)) (pk_div (by omega) (by omega) (by omega)) ?_
  refine lv_bipush (v := nI 8) hx hb d_MO_tile_20 (by decide +kernel) ?_
  refine lv_imul hx hb d_MO_tile_22 ?_
  refine ss_rt (y := nI ((y / 8) * 8)) (pk_mul _ _) ?_
  refine lv_iadd hx hb d_MO_tile_23 ?_
  refine ss_rt (y := nI (32 * ((R 2) % 16) + ((y / 8) * 8))) (nI_add _ _) ?_
  refine lv_iload_n hx hb d_MO_tile_24 rfl (lv_at hl 1 rfl) ?_
  refine lv_bipush (v := nI 8) hx hb d_MO_tile_25 (by decide +kernel) ?_
  refine lv_idiv hx hb d_MO_tile_27 (by first | decide +kernel | exact nI_ne0 (by omega) (by omega)) ?_
  refine ss_rt (y := nI (x / 8)) (pk_div (by omega) (by omega) (by omega)) ?_
  refine lv_iadd hx hb d_MO_tile_28 ?_
  refine ss_rt (y := nI (32 * ((R 2) % 16) + ((y / 8) * 8) + (x / 8))) (nI_add _ _) ?_
  refine va_iald hx hb hK hP 7 0 rfl rfl (vp_in_nI (by omega) (by omega)) d_MO_tile_29 ?_
  refine ss_rt (y := nI (B (32 * ((R 2) % 16) + ((y / 8) * 8) + (x / 8)))) (congrArg (fun z => nI (B z)) (nI_clamp (by omega))) ?_
  have g2 := hB (32 * ((R 2) % 16) + ((y / 8) * 8) + (x / 8))
  refine lv_bipush (v := nI 32) hx hb d_MO_tile_30 (by decide +kernel) ?_
  refine lv_irem hx hb d_MO_tile_32 (by first | decide +kernel | exact nI_ne0 (by omega) (by omega)) ?_
  refine ss_rt (y := nI ((B (32 * ((R 2) % 16) + ((y / 8) * 8) + (x / 8))) % 32)) (pk_rem (by omega) (by omega) (by omega)) ?_
  refine lv_istore_n (lv' := [(3, .int (nI ((B (32 * ((R 2) % 16) + ((y / 8) * 8) + (x / 8))) % 32))), (0, .ref (q 0)), (1, .int (nI x)), (2, .int (nI y))]) hx hb d_MO_tile_33 rfl hl (by decide) rfl (fun ls hl => ?_)
  refine lv_aload_n hx hb d_MO_tile_34 rfl (lv_at hl 1 rfl) ?_
  refine va_get (D := D) (ci := 7) (v := .ref (q 7)) (C := R_MO) (T := T_MO) (N := 16) hx hb hts in_MO hown hK hP 0 rfl rfl 8 (by decide) (hts _ w_538) (fun _ h9 => h9) rfl d_MO_tile_35 ?_
  refine lv_sipush (v := nI 256) hx hb d_MO_tile_38 (by decide +kernel) ?_
  refine lv_aload_n hx hb d_MO_tile_41 rfl (lv_at hl 1 rfl) ?_
  refine va_get (D := D) (ci := 7) (v := .ref (q 8)) (C := R_MO) (T := T_MO) (N := 16) hx hb hts in_MO hown hK hP 0 rfl rfl 9 (by decide) (hts _ w_539) (fun _ h9 => h9) rfl d_MO_tile_42 ?_
  refine lv_iconst (v := nI 4) hx hb d_MO_tile_45 (by decide +kernel) ?_
  refine va_iald hx hb hK hP 8 0 rfl rfl (vp_in_nI (by omega) (by omega)) d_MO_tile_46 ?_
  refine ss_rt (y := nI (R 4)) (congrArg (fun z => nI (R z)) (nI_clamp (by omega))) ?_
  have g3 := hR 4
  refine lv_iconst (v := nI 2) hx hb d_MO_tile_47 (by decide +kernel) ?_
  refine lv_irem hx hb d_MO_tile_48 (by first | decide +kernel | exact nI_ne0 (by omega) (by omega)) ?_
  refine ss_rt (y := nI ((R 4) % 2)) (pk_rem (by omega) (by omega) (by omega)) ?_
  refine lv_imul hx hb d_MO_tile_49 ?_
  refine ss_rt (y := nI (256 * ((R 4) % 2))) (pk_mul _ _) ?_
  refine lv_bipush (v := nI 8) hx hb d_MO_tile_50 (by decide +kernel) ?_
  refine lv_iload_n hx hb d_MO_tile_52 rfl (lv_at hl 0 rfl) ?_
  refine lv_imul hx hb d_MO_tile_53 ?_
  refine ss_rt (y := nI (8 * ((B (32 * ((R 2) % 16) + ((y / 8) * 8) + (x / 8))) % 32))) (pk_mul _ _) ?_
  refine lv_iadd hx hb d_MO_tile_54 ?_
  refine ss_rt (y := nI (256 * ((R 4) % 2) + (8 * ((B (32 * ((R 2) % 16) + ((y / 8) * 8) + (x / 8))) % 32)))) (nI_add _ _) ?_
  refine lv_iload_n hx hb d_MO_tile_55 rfl (lv_at hl 3 rfl) ?_
  refine lv_bipush (v := nI 8) hx hb d_MO_tile_56 (by decide +kernel) ?_
  refine lv_irem hx hb d_MO_tile_58 (by first | decide +kernel | exact nI_ne0 (by omega) (by omega)) ?_
  refine ss_rt (y := nI (y % 8)) (pk_rem (by omega) (by omega) (by omega)) ?_
  refine lv_iadd hx hb d_MO_tile_59 ?_
  refine ss_rt (y := nI (256 * ((R 4) % 2) + (8 * ((B (32 * ((R 2) % 16) + ((y / 8) * 8) + (x / 8))) % 32)) + (y % 8))) (nI_add _ _) ?_
  refine va_iald hx hb hK hP 7 0 rfl rfl (vp_in_nI (by omega) (by omega)) d_MO_tile_60 ?_
  refine ss_rt (y := nI (B (256 * ((R 4) % 2) + (8 * ((B (32 * ((R 2) % 16) + ((y / 8) * 8) + (x / 8))) % 32)) + (y % 8)))) (congrArg (fun z => nI (B z)) (nI_clamp (by omega))) ?_
  have g4 := hB (256 * ((R 4) % 2) + (8 * ((B (32 * ((R 2) % 16) + ((y / 8) * 8) + (x / 8))) % 32)) + (y % 8))
  refine lv_istore (lv' := [(4, .int (nI (B (256 * ((R 4) % 2) + (8 * ((B (32 * ((R 2) % 16) + ((y / 8) * 8) + (x / 8))) % 32)) + (y % 8))))), (3, .int (nI ((B (32 * ((R 2) % 16) + ((y / 8) * 8) + (x / 8))) % 32))), (0, .ref (q 0)), (1, .int (nI x)), (2, .int (nI y))]) hx hb d_MO_tile_61 hl (by decide) rfl (fun ls hl => ?_)
  refine lv_aload_n hx hb d_MO_tile_63 rfl (lv_at hl 2 rfl) ?_
  refine va_get (D := D) (ci := 7) (v := .ref (q 7)) (C := R_MO) (T := T_MO) (N := 16) hx hb hts in_MO hown hK hP 0 rfl rfl 8 (by decide) (hts _ w_538) (fun _ h9 => h9) rfl d_MO_tile_64 ?_
  refine lv_iconst (v := nI 4) hx hb d_MO_tile_67 (by decide +kernel) ?_
  refine lv_aload_n hx hb d_MO_tile_68 rfl (lv_at hl 2 rfl) ?_
  refine va_get (D := D) (ci := 7) (v := .ref (q 8)) (C := R_MO) (T := T_MO) (N := 16) hx hb hts in_MO hown hK hP 0 rfl rfl 9 (by decide) (hts _ w_539) (fun _ h9 => h9) rfl d_MO_tile_69 ?_
  refine lv_iconst (v := nI 3) hx hb d_MO_tile_72 (by decide +kernel) ?_
  refine va_iald hx hb hK hP 8 0 rfl rfl (vp_in_nI (by omega) (by omega)) d_MO_tile_73 ?_
  refine ss_rt (y := nI (R 3)) (congrArg (fun z => nI (R z)) (nI_clamp (by omega))) ?_
  have g5 := hR 3
  refine lv_sipush (v := nI 128) hx hb d_MO_tile_74 (by decide +kernel) ?_
  refine lv_irem hx hb d_MO_tile_77 (by first | decide +kernel | exact nI_ne0 (by omega) (by omega)) ?_
  refine ss_rt (y := nI ((R 3) % 128)) (pk_rem (by omega) (by omega) (by omega)) ?_
  refine lv_imul hx hb d_MO_tile_78 ?_
  refine ss_rt (y := nI (4 * ((R 3) % 128))) (pk_mul _ _) ?_
  refine lv_iload_n hx hb d_MO_tile_79 rfl (lv_at hl 1 rfl) ?_
  refine lv_bipush (v := nI 8) hx hb d_MO_tile_80 (by decide +kernel) ?_
  refine lv_idiv hx hb d_MO_tile_82 (by first | decide +kernel | exact nI_ne0 (by omega) (by omega)) ?_
  refine ss_rt (y := nI (((B (32 * ((R 2) % 16) + ((y / 8) * 8) + (x / 8))) % 32) / 8)) (pk_div (by omega) (by omega) (by omega)) ?_
  refine lv_iadd hx hb d_MO_tile_83 ?_
  refine ss_rt (y := nI (4 * ((R 3) % 128) + (((B (32 * ((R 2) % 16) + ((y / 8) * 8) + (x / 8))) % 32) / 8))) (nI_add _ _) ?_
  refine va_iald hx hb hK hP 7 0 rfl rfl (vp_in_nI (by omega) (by omega)) d_MO_tile_84 ?_
  refine ss_rt (y := nI (B (4 * ((R 3) % 128) + (((B (32 * ((R 2) % 16) + ((y / 8) * 8) + (x / 8))) % 32) / 8)))) (congrArg (fun z => nI (B z)) (nI_clamp (by omega))) ?_
  have g6 := hB (4 * ((R 3) % 128) + (((B (32 * ((R 2) % 16) + ((y / 8) * 8) + (x / 8))) % 32) / 8))
  refine lv_istore (lv' := [(5, .int (nI (B (4 * ((R 3) % 128) + (((B (32 * ((R 2) % 16) + ((y / 8) * 8) + (x / 8))) % 32) / 8))))), (4, .int (nI (B (256 * ((R 4) % 2) + (8 * ((B (32 * ((R 2) % 16) + ((y / 8) * 8) + (x / 8))) % 32)) + (y % 8))))), (3, .int (nI ((B (32 * ((R 2) % 16) + ((y / 8) * 8) + (x / 8))) % 32))), (0, .ref (q 0)), (1, .int (nI x)), (2, .int (nI y))]) hx hb d_MO_tile_85 hl (by decide) rfl (fun ls hl => ?_)
  refine lv_aload_n hx hb d_MO_tile_87 rfl (lv_at hl 3 rfl) ?_
  refine lv_iload hx hb d_MO_tile_88 (lv_at hl 1 rfl) ?_
  refine lv_bipush (v := nI 7) hx hb d_MO_tile_90 (by decide +kernel) ?_
  refine lv_iload_n hx hb d_MO_tile_92 rfl (lv_at hl 4 rfl) ?_
  refine lv_bipush (v := nI 8) hx hb d_MO_tile_93 (by decide +kernel) ?_
  refine lv_irem hx hb d_MO_tile_95 (by first | decide +kernel | exact nI_ne0 (by omega) (by omega)) ?_
  refine ss_rt (y := nI (x % 8)) (pk_rem (by omega) (by omega) (by omega)) ?_
  refine lv_isub hx hb d_MO_tile_96 ?_
  refine ss_rt (y := nI (7 - (x % 8))) (pk_sub (by omega)) ?_
  refine kr_iV (As := [.int (nI (B (256 * ((R 4) % 2) + (8 * ((B (32 * ((R 2) % 16) + ((y / 8) * 8) + (x / 8))) % 32)) + (y % 8)))), .int (nI (7 - (x % 8)))]) (rest := []) ⟨hx, hb, hml, hown, hts⟩ (c_MO_bit l D k q cd wd se kd bn sh mb pr B R sx pt rd wt ln px (B (256 * ((R 4) % 2) + (8 * ((B (32 * ((R 2) % 16) + ((y / 8) * 8) + (x / 8))) % 32)) + (y % 8))) (7 - (x % 8)) (by omega) (by omega)) (cwV 2 hts (gV w_653 w_655 w_p20 w_5 w_656) rfl rfl rfl (by decide +kernel) ⟨Nat.le_of_ble_eq_true rfl, Nat.le_of_ble_eq_true rfl⟩) hK hP (va_recv hK hP (ci := 7) (q0 := 0) rfl rfl) rfl hl.1 rfl (Nat.le_of_ble_eq_true rfl) d_MO_tile_97 ⟨Nat.zero_le _, Nat.zero_le _⟩ ?_
  refine lv_if_eq (tgt := 111) hx hb d_MO_tile_100 (by decide) (fun c7 => ?_) (fun c7 => ?_)
  · have c7 := (bI_0).mp c7
    refine lv_iload hx hb d_MO_tile_111 (lv_at hl 0 rfl) ?_
    refine lv_bipush (v := nI 16) hx hb d_MO_tile_113 (by decide +kernel) ?_
    refine lv_irem hx hb d_MO_tile_115 (by first | decide +kernel | exact nI_ne0 (by omega) (by omega)) ?_
    refine ss_rt (y := nI ((B (4 * ((R 3) % 128) + (((B (32 * ((R 2) % 16) + ((y / 8) * 8) + (x / 8))) % 32) / 8))) % 16)) (pk_rem (by omega) (by omega) (by omega)) ?_
    exact ro_reti hx hb hr hlocks d_MO_tile_116 (by unfold dtl dnm; first | rw [if_pos (by assumption)] | rw [if_neg (by assumption)])
  · have c7 := mt (bI_0).mpr c7
    have c7 := Classical.not_not.mp c7
    refine lv_iload hx hb d_MO_tile_103 (lv_at hl 0 rfl) ?_
    refine lv_bipush (v := nI 16) hx hb d_MO_tile_105 (by decide +kernel) ?_
    refine lv_idiv hx hb d_MO_tile_107 (by first | decide +kernel | exact nI_ne0 (by omega) (by omega)) ?_
    refine ss_rt (y := nI ((B (4 * ((R 3) % 128) + (((B (32 * ((R 2) % 16) + ((y / 8) * 8) + (x / 8))) % 32) / 8))) / 16)) (pk_div (by omega) (by omega) (by omega)) ?_
    refine lv_goto (tgt := 116) hx hb d_MO_tile_108 (by decide) ?_
    exact ro_reti hx hb hr hlocks d_MO_tile_116 (by unfold dtl dnm; first | rw [if_pos (by assumption)] | rw [if_neg (by assumption)])
set_option maxHeartbeats 4000000 in
set_option maxRecDepth 100000 in
theorem c_MO_has (l : Launch) (D : va_G) (k : Nat → ClassId) (q : Nat → Nat) (cd : Int32) (wd : Nat → Nat) (se : Nat → Nat) (kd : Nat → Nat) (bn : Nat → Int32) (sh : Nat → Nat) (mb : Nat → Nat) (pr : Nat) (B : Nat → Nat) (R : Nat → Nat) (sx : Nat) (pt : Nat) (rd : Nat) (wt : Int32) (ln : Nat) (px : Nat → Nat) (hB : ∀ j, B j < 256) (hR : ∀ j, R j < 256) (z x : Nat) (hz : z < 8) (hx9 : x < 64) (hd : don B R ln z = true) : ro_i l y_MO_has b_MO_has 9 (some .boolean) { frames := 3, cells := 0, slots := 0, locals := 62 } D (kT k) (mW q k cd wd se kd bn sh mb pr B R sx pt rd wt ln px) [.ref (q 0), .int (nI z), .int (nI (drw B R ln z)), .int (nI x)] (bI (dhs B R ln z x = true)) := by
  refine ro_headi (by decide) (Nat.le_of_ble_eq_true rfl) ?_
  intro p e s m below meth c ls hx hb hr hlocks hml hown hts hP hK hl
  have hown : s.vm.findClass "SlotScreenModel" = some m.cls := hown
  have hl : lv_has ls 9 [(0, .ref (q 0)), (1, .int (nI z)), (2, .int (nI (drw B R ln z))), (3, .int (nI x))] := hl
  have z1 := dsz_le R
  have z2 := dtm_le R
  have z3 := (drw_lt hd).2
  have z4 := dsd_or R
  refine lv_aload_n hx hb d_MO_has_0 rfl (lv_at hl 0 rfl) ?_
  refine lv_iload_n hx hb d_MO_has_1 rfl (lv_at hl 1 rfl) ?_
  refine lv_iconst (v := nI 1) hx hb d_MO_has_2 (by decide +kernel) ?_
  have g1 := hB (32 * (R 5 % 16) + 4 * z + 1)
  have g2 : dsp B R z 1 < 256 := hB _
  refine kr_iV (As := [.int (nI z), .int (nI 1)]) (rest := []) ⟨hx, hb, hml, hown, hts⟩ (c_MO_sprite l D k q cd wd se kd bn sh mb pr B R sx pt rd wt ln px hB hR z 1 (by omega) (by omega)) (cwV 2 hts (gV w_661 w_663 w_p22 w_5 w_664) rfl rfl rfl (by decide +kernel) ⟨Nat.le_of_ble_eq_true rfl, Nat.le_of_ble_eq_true rfl⟩) hK hP (va_recv hK hP (ci := 7) (q0 := 0) rfl rfl) rfl hl.1 rfl (Nat.le_of_ble_eq_true rfl) d_MO_has_3 ⟨Nat.zero_le _, Nat.zero_le _⟩ ?_
  refine lv_aload_n hx hb d_MO_has_6 rfl (lv_at hl 0 rfl) ?_
  refine lv_iload_n hx hb d_MO_has_7 rfl (lv_at hl 1 rfl) ?_
  refine lv_iconst (v := nI 3) hx hb d_MO_has_8 (by decide +kernel) ?_
  have g3 := hB (32 * (R 5 % 16) + 4 * z + 3)
  have g4 : dsp B R z 3 < 256 := hB _
  refine kr_iV (As := [.int (nI z), .int (nI 3)]) (rest := [.int (nI (dsp B R z 1))]) ⟨hx, hb, hml, hown, hts⟩ (c_MO_sprite l D k q cd wd se kd bn sh mb pr B R sx pt rd wt ln px hB hR z 3 (by omega) (by omega)) (cwV 2 hts (gV w_661 w_663 w_p22 w_5 w_664) rfl rfl rfl (by decide +kernel) ⟨Nat.le_of_ble_eq_true rfl, Nat.le_of_ble_eq_true rfl⟩) hK hP (va_recv hK hP (ci := 7) (q0 := 0) rfl rfl) rfl hl.1 rfl (Nat.le_of_ble_eq_true rfl) d_MO_has_9 ⟨Nat.zero_le _, Nat.zero_le _⟩ ?_
  refine lv_bipush (v := nI 127) hx hb d_MO_has_12 (by decide +kernel) ?_
  refine lv_icmp_le (tgt := 22) hx hb d_MO_has_14 (by decide) (fun c5 => ?_) (fun c5 => ?_)
  · have c5 := (nI_leI (by omega) (by omega)).mp c5
    have hof : dof B R z = 0 := by unfold dof; rw [if_neg (by omega)]
    refine lv_iconst (v := nI 0) hx hb d_MO_has_22 (by decide +kernel) ?_
    refine lv_isub hx hb d_MO_has_23 ?_
    refine ss_rt (y := nI (dsp B R z 1)) (pk_sub (by omega)) ?_
    refine lv_istore (lv' := [(4, .int (nI (dsp B R z 1))), (0, .ref (q 0)), (1, .int (nI z)), (2, .int (nI (drw B R ln z))), (3, .int (nI x))]) hx hb d_MO_has_24 hl (by decide) rfl (fun ls hl => ?_)
    refine lv_iload_n hx hb d_MO_has_26 rfl (lv_at hl 4 rfl) ?_
    refine lv_iload hx hb d_MO_has_27 (lv_at hl 0 rfl) ?_
    refine lv_icmp_lt (tgt := 43) hx hb d_MO_has_29 (by decide) (fun c6 => ?_) (fun c6 => ?_)
    · have c6 := (nI_ltI (by omega) (by omega)).mp c6
      refine lv_iconst (v := nI 0) hx hb d_MO_has_43 (by decide +kernel) ?_
      exact ro_retz hx hb hr hlocks d_MO_has_44 (by decide +kernel) (bI_f (dhs_o (by omega)))
    · have c6 := mt (nI_ltI (by omega) (by omega)).mpr c6
      refine lv_iload_n hx hb d_MO_has_32 rfl (lv_at hl 4 rfl) ?_
      refine lv_iload hx hb d_MO_has_33 (lv_at hl 0 rfl) ?_
      refine lv_aload_n hx hb d_MO_has_35 rfl (lv_at hl 1 rfl) ?_
      refine kr_iV (As := []) (rest := [.int (nI (dsp B R z 1)), .int (nI x)]) ⟨hx, hb, hml, hown, hts⟩ (c_MO_size l D k q cd wd se kd bn sh mb pr B R sx pt rd wt ln px hB hR) (cwV 0 hts (gV w_673 w_675 w_p25 w_5 w_676) rfl rfl rfl (by decide +kernel) ⟨Nat.le_of_ble_eq_true rfl, Nat.le_of_ble_eq_true rfl⟩) hK hP (va_recv hK hP (ci := 7) (q0 := 0) rfl rfl) rfl hl.1 rfl (Nat.le_of_ble_eq_true rfl) d_MO_has_36 ⟨Nat.zero_le _, Nat.zero_le _⟩ ?_
      refine lv_iadd hx hb d_MO_has_39 ?_
      refine ss_rt (y := nI (dsp B R z 1 + (dsz R))) (nI_add _ _) ?_
      refine lv_icmp_lt (tgt := 45) hx hb d_MO_has_40 (by decide) (fun c7 => ?_) (fun c7 => ?_)
      · have c7 := (nI_ltI (by omega) (by omega)).mp c7
        refine lv_iload_n hx hb d_MO_has_45 rfl (lv_at hl 4 rfl) ?_
        refine lv_iload hx hb d_MO_has_46 (lv_at hl 0 rfl) ?_
        refine lv_isub hx hb d_MO_has_48 ?_
        refine ss_rt (y := nI (x - dsp B R z 1)) (pk_sub (by omega)) ?_
        refine lv_aload_n hx hb d_MO_has_49 rfl (lv_at hl 1 rfl) ?_
        refine kr_iV (As := []) (rest := [.int (nI (x - dsp B R z 1))]) ⟨hx, hb, hml, hown, hts⟩ (c_MO_times l D k q cd wd se kd bn sh mb pr B R sx pt rd wt ln px hB hR) (cwV 0 hts (gV w_677 w_679 w_p26 w_5 w_680) rfl rfl rfl (by decide +kernel) ⟨Nat.le_of_ble_eq_true rfl, Nat.le_of_ble_eq_true rfl⟩) hK hP (va_recv hK hP (ci := 7) (q0 := 0) rfl rfl) rfl hl.1 rfl (Nat.le_of_ble_eq_true rfl) d_MO_has_50 ⟨Nat.zero_le _, Nat.zero_le _⟩ ?_
        refine lv_idiv hx hb d_MO_has_53 (by first | decide +kernel | exact nI_ne0 (by omega) (by omega)) ?_
        refine ss_rt (y := nI ((x - dsp B R z 1) / (dtm R))) (pk_div (by omega) (by omega) (by omega)) ?_
        have g8 := Nat.div_le_self (x - dsp B R z 1) (dtm R)
        refine lv_istore (lv' := [(5, .int (nI ((x - dsp B R z 1) / (dtm R)))), (4, .int (nI (dsp B R z 1))), (0, .ref (q 0)), (1, .int (nI z)), (2, .int (nI (drw B R ln z))), (3, .int (nI x))]) hx hb d_MO_has_54 hl (by decide) rfl (fun ls hl => ?_)
        refine lv_aload_n hx hb d_MO_has_56 rfl (lv_at hl 2 rfl) ?_
        refine lv_iload_n hx hb d_MO_has_57 rfl (lv_at hl 3 rfl) ?_
        refine lv_iconst (v := nI 2) hx hb d_MO_has_58 (by decide +kernel) ?_
        have g9 := hB (32 * (R 5 % 16) + 4 * z + 2)
        have g10 : dsp B R z 2 < 256 := hB _
        refine kr_iV (As := [.int (nI z), .int (nI 2)]) (rest := []) ⟨hx, hb, hml, hown, hts⟩ (c_MO_sprite l D k q cd wd se kd bn sh mb pr B R sx pt rd wt ln px hB hR z 2 (by omega) (by omega)) (cwV 2 hts (gV w_661 w_663 w_p22 w_5 w_664) rfl rfl rfl (by decide +kernel) ⟨Nat.le_of_ble_eq_true rfl, Nat.le_of_ble_eq_true rfl⟩) hK hP (va_recv hK hP (ci := 7) (q0 := 0) rfl rfl) rfl hl.1 rfl (Nat.le_of_ble_eq_true rfl) d_MO_has_59 ⟨Nat.zero_le _, Nat.zero_le _⟩ ?_
        refine lv_bipush (v := nI 16) hx hb d_MO_has_62 (by decide +kernel) ?_
        refine lv_irem hx hb d_MO_has_64 (by first | decide +kernel | exact nI_ne0 (by omega) (by omega)) ?_
        refine ss_rt (y := nI ((dsp B R z 2) % 16)) (pk_rem (by omega) (by omega) (by omega)) ?_
        refine lv_istore (lv' := [(6, .int (nI ((dsp B R z 2) % 16))), (5, .int (nI ((x - dsp B R z 1) / (dtm R)))), (4, .int (nI (dsp B R z 1))), (0, .ref (q 0)), (1, .int (nI z)), (2, .int (nI (drw B R ln z))), (3, .int (nI x))]) hx hb d_MO_has_65 hl (by decide) rfl (fun ls hl => ?_)
        refine lv_sipush (v := nI 128) hx hb d_MO_has_67 (by decide +kernel) ?_
        refine lv_aload_n hx hb d_MO_has_70 rfl (lv_at hl 3 rfl) ?_
        refine va_get (D := D) (ci := 7) (v := .ref (q 8)) (C := R_MO) (T := T_MO) (N := 16) hx hb hts in_MO hown hK hP 0 rfl rfl 9 (by decide) (hts _ w_539) (fun _ h9 => h9) rfl d_MO_has_71 ?_
        refine lv_bipush (v := nI 6) hx hb d_MO_has_74 (by decide +kernel) ?_
        refine va_iald hx hb hK hP 8 0 rfl rfl (vp_in_nI (by omega) (by omega)) d_MO_has_76 ?_
        refine ss_rt (y := nI (R 6)) (congrArg (fun z => nI (R z)) (nI_clamp (by omega))) ?_
        have g11 := hR 6
        refine lv_iconst (v := nI 4) hx hb d_MO_has_77 (by decide +kernel) ?_
        refine lv_irem hx hb d_MO_has_78 (by first | decide +kernel | exact nI_ne0 (by omega) (by omega)) ?_
        refine ss_rt (y := nI ((R 6) % 4)) (pk_rem (by omega) (by omega) (by omega)) ?_
        refine lv_imul hx hb d_MO_has_79 ?_
        refine ss_rt (y := nI (128 * ((R 6) % 4))) (pk_mul _ _) ?_
        refine lv_istore (lv' := [(7, .int (nI (128 * ((R 6) % 4)))), (6, .int (nI ((dsp B R z 2) % 16))), (5, .int (nI ((x - dsp B R z 1) / (dtm R)))), (4, .int (nI (dsp B R z 1))), (0, .ref (q 0)), (1, .int (nI z)), (2, .int (nI (drw B R ln z))), (3, .int (nI x))]) hx hb d_MO_has_80 hl (by decide) rfl (fun ls hl => ?_)
        refine lv_aload_n hx hb d_MO_has_82 rfl (lv_at hl 4 rfl) ?_
        refine lv_aload_n hx hb d_MO_has_83 rfl (lv_at hl 4 rfl) ?_
        refine va_get (D := D) (ci := 7) (v := .ref (q 8)) (C := R_MO) (T := T_MO) (N := 16) hx hb hts in_MO hown hK hP 0 rfl rfl 9 (by decide) (hts _ w_539) (fun _ h9 => h9) rfl d_MO_has_84 ?_
        refine lv_iconst (v := nI 1) hx hb d_MO_has_87 (by decide +kernel) ?_
        refine va_iald hx hb hK hP 8 0 rfl rfl (vp_in_nI (by omega) (by omega)) d_MO_has_88 ?_
        refine ss_rt (y := nI (R 1)) (congrArg (fun z => nI (R z)) (nI_clamp (by omega))) ?_
        have g12 := hR 1
        refine lv_iconst (v := nI 1) hx hb d_MO_has_89 (by decide +kernel) ?_
        refine kr_iV (As := [.int (nI (R 1)), .int (nI 1)]) (rest := []) ⟨hx, hb, hml, hown, hts⟩ (c_MO_bit l D k q cd wd se kd bn sh mb pr B R sx pt rd wt ln px (R 1) 1 (by omega) (by omega)) (cwV 2 hts (gV w_653 w_655 w_p20 w_5 w_656) rfl rfl rfl (by decide +kernel) ⟨Nat.le_of_ble_eq_true rfl, Nat.le_of_ble_eq_true rfl⟩) hK hP (va_recv hK hP (ci := 7) (q0 := 0) rfl rfl) rfl hl.1 rfl (Nat.le_of_ble_eq_true rfl) d_MO_has_90 ⟨Nat.zero_le _, Nat.zero_le _⟩ ?_
        refine lv_if_eq (tgt := 127) hx hb d_MO_has_93 (by decide) (fun c13 => ?_) (fun c13 => ?_)
        · have c13 := (bI_0).mp c13
          have z5 : ¬ dsd R = 16 := by unfold dsd; rw [if_neg (by omega)]; omega
          refine lv_iload hx hb d_MO_has_127 (lv_at hl 0 rfl) ?_
          refine lv_bipush (v := nI 8) hx hb d_MO_has_129 (by decide +kernel) ?_
          refine lv_iload hx hb d_MO_has_131 (lv_at hl 1 rfl) ?_
          refine lv_imul hx hb d_MO_has_133 ?_
          refine ss_rt (y := nI (8 * ((dsp B R z 2) % 16))) (pk_mul _ _) ?_
          refine lv_iadd hx hb d_MO_has_134 ?_
          refine ss_rt (y := nI (128 * ((R 6) % 4) + (8 * ((dsp B R z 2) % 16)))) (nI_add _ _) ?_
          refine lv_iload_n hx hb d_MO_has_135 rfl (lv_at hl 6 rfl) ?_
          refine lv_iadd hx hb d_MO_has_136 ?_
          refine ss_rt (y := nI (128 * ((R 6) % 4) + (8 * ((dsp B R z 2) % 16)) + (drw B R ln z))) (nI_add _ _) ?_
          refine lv_istore (lv' := [(8, .int (nI (128 * ((R 6) % 4) + (8 * ((dsp B R z 2) % 16)) + (drw B R ln z)))), (7, .int (nI (128 * ((R 6) % 4)))), (6, .int (nI ((dsp B R z 2) % 16))), (5, .int (nI ((x - dsp B R z 1) / (dtm R)))), (4, .int (nI (dsp B R z 1))), (0, .ref (q 0)), (1, .int (nI z)), (2, .int (nI (drw B R ln z))), (3, .int (nI x))]) hx hb d_MO_has_137 hl (by decide) rfl (fun ls hl => ?_)
          refine lv_aload_n hx hb d_MO_has_139 rfl (lv_at hl 5 rfl) ?_
          refine lv_aload_n hx hb d_MO_has_140 rfl (lv_at hl 5 rfl) ?_
          refine va_get (D := D) (ci := 7) (v := .ref (q 7)) (C := R_MO) (T := T_MO) (N := 16) hx hb hts in_MO hown hK hP 0 rfl rfl 8 (by decide) (hts _ w_538) (fun _ h9 => h9) rfl d_MO_has_141 ?_
          refine lv_iload hx hb d_MO_has_144 (lv_at hl 0 rfl) ?_
          refine va_iald hx hb hK hP 7 0 rfl rfl (vp_in_nI (by omega) (by omega)) d_MO_has_146 ?_
          refine ss_rt (y := nI (B (128 * ((R 6) % 4) + (8 * ((dsp B R z 2) % 16)) + (drw B R ln z)))) (congrArg (fun z => nI (B z)) (nI_clamp (by omega))) ?_
          have g14 := hB (128 * ((R 6) % 4) + (8 * ((dsp B R z 2) % 16)) + (drw B R ln z))
          refine lv_bipush (v := nI 7) hx hb d_MO_has_147 (by decide +kernel) ?_
          refine lv_iload hx hb d_MO_has_149 (lv_at hl 3 rfl) ?_
          refine lv_bipush (v := nI 8) hx hb d_MO_has_151 (by decide +kernel) ?_
          refine lv_irem hx hb d_MO_has_153 (by first | decide +kernel | exact nI_ne0 (by omega) (by omega)) ?_
          refine ss_rt (y := nI (((x - dsp B R z 1) / (dtm R)) % 8)) (pk_rem (by omega) (by omega) (by omega)) ?_
          refine lv_isub hx hb d_MO_has_154 ?_
          refine ss_rt (y := nI (7 - (((x - dsp B R z 1) / (dtm R)) % 8))) (pk_sub (by omega)) ?_
          refine kr_iV (As := [.int (nI (B (128 * ((R 6) % 4) + (8 * ((dsp B R z 2) % 16)) + (drw B R ln z)))), .int (nI (7 - (((x - dsp B R z 1) / (dtm R)) % 8)))]) (rest := []) ⟨hx, hb, hml, hown, hts⟩ (c_MO_bit l D k q cd wd se kd bn sh mb pr B R sx pt rd wt ln px (B (128 * ((R 6) % 4) + (8 * ((dsp B R z 2) % 16)) + (drw B R ln z))) (7 - (((x - dsp B R z 1) / (dtm R)) % 8)) (by omega) (by omega)) (cwV 2 hts (gV w_653 w_655 w_p20 w_5 w_656) rfl rfl rfl (by decide +kernel) ⟨Nat.le_of_ble_eq_true rfl, Nat.le_of_ble_eq_true rfl⟩) hK hP (va_recv hK hP (ci := 7) (q0 := 0) rfl rfl) rfl hl.1 rfl (Nat.le_of_ble_eq_true rfl) d_MO_has_155 ⟨Nat.zero_le _, Nat.zero_le _⟩ ?_
          exact ro_retz hx hb hr hlocks d_MO_has_158 nb_bI (bI_c (by rw [dhs_i (by omega) (by omega)]; unfold dcc dat; rw [hof]; (try simp only [Nat.add_zero]); (first | rw [if_pos z5] | rw [if_neg z5]); all_goals (first | rw [if_pos (by omega)] | rw [if_neg (by omega)]); all_goals exact Iff.rfl))
        · have c13 := mt (bI_0).mpr c13
          have c13 := Classical.not_not.mp c13
          have z5 : dsd R = 16 := by unfold dsd; rw [if_pos (by omega)]
          refine lv_iload hx hb d_MO_has_96 (lv_at hl 0 rfl) ?_
          refine lv_bipush (v := nI 8) hx hb d_MO_has_98 (by decide +kernel) ?_
          refine lv_iload hx hb d_MO_has_100 (lv_at hl 1 rfl) ?_
          refine lv_iconst (v := nI 4) hx hb d_MO_has_102 (by decide +kernel) ?_
          refine lv_idiv hx hb d_MO_has_103 (by first | decide +kernel | exact nI_ne0 (by omega) (by omega)) ?_
          refine ss_rt (y := nI (((dsp B R z 2) % 16) / 4)) (pk_div (by omega) (by omega) (by omega)) ?_
          refine lv_iconst (v := nI 4) hx hb d_MO_has_104 (by decide +kernel) ?_
          refine lv_imul hx hb d_MO_has_105 ?_
          refine ss_rt (y := nI ((((dsp B R z 2) % 16) / 4) * 4)) (pk_mul _ _) ?_
          refine lv_imul hx hb d_MO_has_106 ?_
          refine ss_rt (y := nI (8 * ((((dsp B R z 2) % 16) / 4) * 4))) (pk_mul _ _) ?_
          refine lv_iadd hx hb d_MO_has_107 ?_
          refine ss_rt (y := nI (128 * ((R 6) % 4) + (8 * ((((dsp B R z 2) % 16) / 4) * 4)))) (nI_add _ _) ?_
          refine lv_iload_n hx hb d_MO_has_108 rfl (lv_at hl 6 rfl) ?_
          refine lv_iadd hx hb d_MO_has_109 ?_
          refine ss_rt (y := nI (128 * ((R 6) % 4) + (8 * ((((dsp B R z 2) % 16) / 4) * 4)) + (drw B R ln z))) (nI_add _ _) ?_
          refine lv_iload hx hb d_MO_has_110 (lv_at hl 2 rfl) ?_
          refine lv_bipush (v := nI 7) hx hb d_MO_has_112 (by decide +kernel) ?_
          refine lv_icmp_le (tgt := 122) hx hb d_MO_has_114 (by decide) (fun c15 => ?_) (fun c15 => ?_)
          · have c15 := (nI_leI (by omega) (by omega)).mp c15
            refine lv_iconst (v := nI 0) hx hb d_MO_has_122 (by decide +kernel) ?_
            refine lv_iadd hx hb d_MO_has_123 ?_
            refine ss_rt (y := nI (128 * ((R 6) % 4) + (8 * ((((dsp B R z 2) % 16) / 4) * 4)) + (drw B R ln z) + 0)) (nI_add _ _) ?_
            refine lv_goto (tgt := 137) hx hb d_MO_has_124 (by decide) ?_
            refine lv_istore (lv' := [(8, .int (nI (128 * ((R 6) % 4) + (8 * ((((dsp B R z 2) % 16) / 4) * 4)) + (drw B R ln z) + 0))), (7, .int (nI (128 * ((R 6) % 4)))), (6, .int (nI ((dsp B R z 2) % 16))), (5, .int (nI ((x - dsp B R z 1) / (dtm R)))), (4, .int (nI (dsp B R z 1))), (0, .ref (q 0)), (1, .int (nI z)), (2, .int (nI (drw B R ln z))), (3, .int (nI x))]) hx hb d_MO_has_137 hl (by decide) rfl (fun ls hl => ?_)
            refine lv_aload_n hx hb d_MO_has_139 rfl (lv_at hl 5 rfl) ?_
            refine lv_aload_n hx hb d_MO_has_140 rfl (lv_at hl 5 rfl) ?_
            refine va_get (D := D) (ci := 7) (v := .ref (q 7)) (C := R_MO) (T := T_MO) (N := 16) hx hb hts in_MO hown hK hP 0 rfl rfl 8 (by decide) (hts _ w_538) (fun _ h9 => h9) rfl d_MO_has_141 ?_
            refine lv_iload hx hb d_MO_has_144 (lv_at hl 0 rfl) ?_
            refine va_iald hx hb hK hP 7 0 rfl rfl (vp_in_nI (by omega) (by omega)) d_MO_has_146 ?_
            refine ss_rt (y := nI (B (128 * ((R 6) % 4) + (8 * ((((dsp B R z 2) % 16) / 4) * 4)) + (drw B R ln z) + 0))) (congrArg (fun z => nI (B z)) (nI_clamp (by omega))) ?_
            have g16 := hB (128 * ((R 6) % 4) + (8 * ((((dsp B R z 2) % 16) / 4) * 4)) + (drw B R ln z) + 0)
            refine lv_bipush (v := nI 7) hx hb d_MO_has_147 (by decide +kernel) ?_
            refine lv_iload hx hb d_MO_has_149 (lv_at hl 3 rfl) ?_
            refine lv_bipush (v := nI 8) hx hb d_MO_has_151 (by decide +kernel) ?_
            refine lv_irem hx hb d_MO_has_153 (by first | decide +kernel | exact nI_ne0 (by omega) (by omega)) ?_
            refine ss_rt (y := nI (((x - dsp B R z 1) / (dtm R)) % 8)) (pk_rem (by omega) (by omega) (by omega)) ?_
            refine lv_isub hx hb d_MO_has_154 ?_
            refine ss_rt (y := nI (7 - (((x - dsp B R z 1) / (dtm R)) % 8))) (pk_sub (by omega)) ?_
            refine kr_iV (As := [.int (nI (B (128 * ((R 6) % 4) + (8 * ((((dsp B R z 2) % 16) / 4) * 4)) + (drw B R ln z) + 0))), .int (nI (7 - (((x - dsp B R z 1) / (dtm R)) % 8)))]) (rest := []) ⟨hx, hb, hml, hown, hts⟩ (c_MO_bit l D k q cd wd se kd bn sh mb pr B R sx pt rd wt ln px (B (128 * ((R 6) % 4) + (8 * ((((dsp B R z 2) % 16) / 4) * 4)) + (drw B R ln z) + 0)) (7 - (((x - dsp B R z 1) / (dtm R)) % 8)) (by omega) (by omega)) (cwV 2 hts (gV w_653 w_655 w_p20 w_5 w_656) rfl rfl rfl (by decide +kernel) ⟨Nat.le_of_ble_eq_true rfl, Nat.le_of_ble_eq_true rfl⟩) hK hP (va_recv hK hP (ci := 7) (q0 := 0) rfl rfl) rfl hl.1 rfl (Nat.le_of_ble_eq_true rfl) d_MO_has_155 ⟨Nat.zero_le _, Nat.zero_le _⟩ ?_
            exact ro_retz hx hb hr hlocks d_MO_has_158 nb_bI (bI_c (by rw [dhs_i (by omega) (by omega)]; unfold dcc dat; rw [hof]; (try simp only [Nat.add_zero]); (first | rw [if_pos z5] | rw [if_neg z5]); all_goals (first | rw [if_pos (by omega)] | rw [if_neg (by omega)]); all_goals exact Iff.rfl))
          · have c15 := mt (nI_leI (by omega) (by omega)).mpr c15
            refine lv_bipush (v := nI 16) hx hb d_MO_has_117 (by decide +kernel) ?_
            refine lv_goto (tgt := 123) hx hb d_MO_has_119 (by decide) ?_
            refine lv_iadd hx hb d_MO_has_123 ?_
            refine ss_rt (y := nI (128 * ((R 6) % 4) + (8 * ((((dsp B R z 2) % 16) / 4) * 4)) + (drw B R ln z) + 16)) (nI_add _ _) ?_
            refine lv_goto (tgt := 137) hx hb d_MO_has_124 (by decide) ?_
            refine lv_istore (lv' := [(8, .int (nI (128 * ((R 6) % 4) + (8 * ((((dsp B R z 2) % 16) / 4) * 4)) + (drw B R ln z) + 16))), (7, .int (nI (128 * ((R 6) % 4)))), (6, .int (nI ((dsp B R z 2) % 16))), (5, .int (nI ((x - dsp B R z 1) / (dtm R)))), (4, .int (nI (dsp B R z 1))), (0, .ref (q 0)), (1, .int (nI z)), (2, .int (nI (drw B R ln z))), (3, .int (nI x))]) hx hb d_MO_has_137 hl (by decide) rfl (fun ls hl => ?_)
            refine lv_aload_n hx hb d_MO_has_139 rfl (lv_at hl 5 rfl) ?_
            refine lv_aload_n hx hb d_MO_has_140 rfl (lv_at hl 5 rfl) ?_
            refine va_get (D := D) (ci := 7) (v := .ref (q 7)) (C := R_MO) (T := T_MO) (N := 16) hx hb hts in_MO hown hK hP 0 rfl rfl 8 (by decide) (hts _ w_538) (fun _ h9 => h9) rfl d_MO_has_141 ?_
            refine lv_iload hx hb d_MO_has_144 (lv_at hl 0 rfl) ?_
            refine va_iald hx hb hK hP 7 0 rfl rfl (vp_in_nI (by omega) (by omega)) d_MO_has_146 ?_
            refine ss_rt (y := nI (B (128 * ((R 6) % 4) + (8 * ((((dsp B R z 2) % 16) / 4) * 4)) + (drw B R ln z) + 16))) (congrArg (fun z => nI (B z)) (nI_clamp (by omega))) ?_
            have g17 := hB (128 * ((R 6) % 4) + (8 * ((((dsp B R z 2) % 16) / 4) * 4)) + (drw B R ln z) + 16)
            refine lv_bipush (v := nI 7) hx hb d_MO_has_147 (by decide +kernel) ?_
            refine lv_iload hx hb d_MO_has_149 (lv_at hl 3 rfl) ?_
            refine lv_bipush (v := nI 8) hx hb d_MO_has_151 (by decide +kernel) ?_
            refine lv_irem hx hb d_MO_has_153 (by first | decide +kernel | exact nI_ne0 (by omega) (by omega)) ?_
            refine ss_rt (y := nI (((x - dsp B R z 1) / (dtm R)) % 8)) (pk_rem (by omega) (by omega) (by omega)) ?_
            refine lv_isub hx hb d_MO_has_154 ?_
            refine ss_rt (y := nI (7 - (((x - dsp B R z 1) / (dtm R)) % 8))) (pk_sub (by omega)) ?_
            refine kr_iV (As := [.int (nI (B (128 * ((R 6) % 4) + (8 * ((((dsp B R z 2) % 16) / 4) * 4)) + (drw B R ln z) + 16))), .int (nI (7 - (((x - dsp B R z 1) / (dtm R)) % 8)))]) (rest := []) ⟨hx, hb, hml, hown, hts⟩ (c_MO_bit l D k q cd wd se kd bn sh mb pr B R sx pt rd wt ln px (B (128 * ((R 6) % 4) + (8 * ((((dsp B R z 2) % 16) / 4) * 4)) + (drw B R ln z) + 16)) (7 - (((x - dsp B R z 1) / (dtm R)) % 8)) (by omega) (by omega)) (cwV 2 hts (gV w_653 w_655 w_p20 w_5 w_656) rfl rfl rfl (by decide +kernel) ⟨Nat.le_of_ble_eq_true rfl, Nat.le_of_ble_eq_true rfl⟩) hK hP (va_recv hK hP (ci := 7) (q0 := 0) rfl rfl) rfl hl.1 rfl (Nat.le_of_ble_eq_true rfl) d_MO_has_155 ⟨Nat.zero_le _, Nat.zero_le _⟩ ?_
            exact ro_retz hx hb hr hlocks d_MO_has_158 nb_bI (bI_c (by rw [dhs_i (by omega) (by omega)]; unfold dcc dat; rw [hof]; (try simp only [Nat.add_zero]); (first | rw [if_pos z5] | rw [if_neg z5]); all_goals (first | rw [if_pos (by omega)] | rw [if_neg (by omega)]); all_goals exact Iff.rfl))
      · have c7 := mt (nI_ltI (by omega) (by omega)).mpr c7
        refine lv_iconst (v := nI 0) hx hb d_MO_has_43 (by decide +kernel) ?_
        exact ro_retz hx hb hr hlocks d_MO_has_44 (by decide +kernel) (bI_f (dhs_o (by omega)))
  · have c5 := mt (nI_leI (by omega) (by omega)).mpr c5
    have hof : dof B R z = 32 := by unfold dof; rw [if_pos (by omega)]
    refine lv_bipush (v := nI 32) hx hb d_MO_has_17 (by decide +kernel) ?_
    refine lv_goto (tgt := 23) hx hb d_MO_has_19 (by decide) ?_
    refine lv_isub hx hb d_MO_has_23 ?_
    refine ss_rt (y := iI ((dsp B R z 1 : Nat) - (32 : Nat) : Int)) (iI_nn _ _) ?_
    refine lv_istore (lv' := [(4, .int (iI ((dsp B R z 1 : Nat) - (32 : Nat) : Int))), (0, .ref (q 0)), (1, .int (nI z)), (2, .int (nI (drw B R ln z))), (3, .int (nI x))]) hx hb d_MO_has_24 hl (by decide) rfl (fun ls hl => ?_)
    refine lv_iload_n hx hb d_MO_has_26 rfl (lv_at hl 4 rfl) ?_
    refine lv_iload hx hb d_MO_has_27 (lv_at hl 0 rfl) ?_
    refine lv_icmp_lt (tgt := 43) hx hb d_MO_has_29 (by decide) (fun c18 => ?_) (fun c18 => ?_)
    · have c18 := (nz_lt (by omega)).mp c18
      rw [iI_t (by omega) (by omega)] at c18
      refine lv_iconst (v := nI 0) hx hb d_MO_has_43 (by decide +kernel) ?_
      exact ro_retz hx hb hr hlocks d_MO_has_44 (by decide +kernel) (bI_f (dhs_o (by omega)))
    · have c18 := mt (nz_lt (by omega)).mpr c18
      rw [iI_t (by omega) (by omega)] at c18
      refine lv_iload_n hx hb d_MO_has_32 rfl (lv_at hl 4 rfl) ?_
      refine lv_iload hx hb d_MO_has_33 (lv_at hl 0 rfl) ?_
      refine lv_aload_n hx hb d_MO_has_35 rfl (lv_at hl 1 rfl) ?_
      refine kr_iV (As := []) (rest := [.int (iI ((dsp B R z 1 : Nat) - (32 : Nat) : Int)), .int (nI x)]) ⟨hx, hb, hml, hown, hts⟩ (c_MO_size l D k q cd wd se kd bn sh mb pr B R sx pt rd wt ln px hB hR) (cwV 0 hts (gV w_673 w_675 w_p25 w_5 w_676) rfl rfl rfl (by decide +kernel) ⟨Nat.le_of_ble_eq_true rfl, Nat.le_of_ble_eq_true rfl⟩) hK hP (va_recv hK hP (ci := 7) (q0 := 0) rfl rfl) rfl hl.1 rfl (Nat.le_of_ble_eq_true rfl) d_MO_has_36 ⟨Nat.zero_le _, Nat.zero_le _⟩ ?_
      refine lv_iadd hx hb d_MO_has_39 ?_
      refine ss_rt (y := iI (((dsp B R z 1 : Nat) - (32 : Nat) : Int) + (dsz R : Nat))) (iI_an _ _) ?_
      refine lv_icmp_lt (tgt := 45) hx hb d_MO_has_40 (by decide) (fun c19 => ?_) (fun c19 => ?_)
      · have c19 := (nz_lt (by omega)).mp c19
        rw [iI_t (by omega) (by omega)] at c19
        refine lv_iload_n hx hb d_MO_has_45 rfl (lv_at hl 4 rfl) ?_
        refine lv_iload hx hb d_MO_has_46 (lv_at hl 0 rfl) ?_
        refine lv_isub hx hb d_MO_has_48 ?_
        refine ss_rt (y := nI (x + 32 - dsp B R z 1)) ((iI_sn _ _).trans (iI_n (by omega))) ?_
        refine lv_aload_n hx hb d_MO_has_49 rfl (lv_at hl 1 rfl) ?_
        refine kr_iV (As := []) (rest := [.int (nI (x + 32 - dsp B R z 1))]) ⟨hx, hb, hml, hown, hts⟩ (c_MO_times l D k q cd wd se kd bn sh mb pr B R sx pt rd wt ln px hB hR) (cwV 0 hts (gV w_677 w_679 w_p26 w_5 w_680) rfl rfl rfl (by decide +kernel) ⟨Nat.le_of_ble_eq_true rfl, Nat.le_of_ble_eq_true rfl⟩) hK hP (va_recv hK hP (ci := 7) (q0 := 0) rfl rfl) rfl hl.1 rfl (Nat.le_of_ble_eq_true rfl) d_MO_has_50 ⟨Nat.zero_le _, Nat.zero_le _⟩ ?_
        refine lv_idiv hx hb d_MO_has_53 (by first | decide +kernel | exact nI_ne0 (by omega) (by omega)) ?_
        refine ss_rt (y := nI ((x + 32 - dsp B R z 1) / (dtm R))) (pk_div (by omega) (by omega) (by omega)) ?_
        have g20 := Nat.div_le_self (x + 32 - dsp B R z 1) (dtm R)
        refine lv_istore (lv' := [(5, .int (nI ((x + 32 - dsp B R z 1) / (dtm R)))), (4, .int (iI ((dsp B R z 1 : Nat) - (32 : Nat) : Int))), (0, .ref (q 0)), (1, .int (nI z)), (2, .int (nI (drw B R ln z))), (3, .int (nI x))]) hx hb d_MO_has_54 hl (by decide) rfl (fun ls hl => ?_)
        refine lv_aload_n hx hb d_MO_has_56 rfl (lv_at hl 2 rfl) ?_
        refine lv_iload_n hx hb d_MO_has_57 rfl (lv_at hl 3 rfl) ?_
        refine lv_iconst (v := nI 2) hx hb d_MO_has_58 (by decide +kernel) ?_
        have g21 := hB (32 * (R 5 % 16) + 4 * z + 2)
        have g22 : dsp B R z 2 < 256 := hB _
        refine kr_iV (As := [.int (nI z), .int (nI 2)]) (rest := []) ⟨hx, hb, hml, hown, hts⟩ (c_MO_sprite l D k q cd wd se kd bn sh mb pr B R sx pt rd wt ln px hB hR z 2 (by omega) (by omega)) (cwV 2 hts (gV w_661 w_663 w_p22 w_5 w_664) rfl rfl rfl (by decide +kernel) ⟨Nat.le_of_ble_eq_true rfl, Nat.le_of_ble_eq_true rfl⟩) hK hP (va_recv hK hP (ci := 7) (q0 := 0) rfl rfl) rfl hl.1 rfl (Nat.le_of_ble_eq_true rfl) d_MO_has_59 ⟨Nat.zero_le _, Nat.zero_le _⟩ ?_
        refine lv_bipush (v := nI 16) hx hb d_MO_has_62 (by decide +kernel) ?_
        refine lv_irem hx hb d_MO_has_64 (by first | decide +kernel | exact nI_ne0 (by omega) (by omega)) ?_
        refine ss_rt (y := nI ((dsp B R z 2) % 16)) (pk_rem (by omega) (by omega) (by omega)) ?_
        refine lv_istore (lv' := [(6, .int (nI ((dsp B R z 2) % 16))), (5, .int (nI ((x + 32 - dsp B R z 1) / (dtm R)))), (4, .int (iI ((dsp B R z 1 : Nat) - (32 : Nat) : Int))), (0, .ref (q 0)), (1, .int (nI z)), (2, .int (nI (drw B R ln z))), (3, .int (nI x))]) hx hb d_MO_has_65 hl (by decide) rfl (fun ls hl => ?_)
        refine lv_sipush (v := nI 128) hx hb d_MO_has_67 (by decide +kernel) ?_
        refine lv_aload_n hx hb d_MO_has_70 rfl (lv_at hl 3 rfl) ?_
        refine va_get (D := D) (ci := 7) (v := .ref (q 8)) (C := R_MO) (T := T_MO) (N := 16) hx hb hts in_MO hown hK hP 0 rfl rfl 9 (by decide) (hts _ w_539) (fun _ h9 => h9) rfl d_MO_has_71 ?_
        refine lv_bipush (v := nI 6) hx hb d_MO_has_74 (by decide +kernel) ?_
        refine va_iald hx hb hK hP 8 0 rfl rfl (vp_in_nI (by omega) (by omega)) d_MO_has_76 ?_
        refine ss_rt (y := nI (R 6)) (congrArg (fun z => nI (R z)) (nI_clamp (by omega))) ?_
        have g23 := hR 6
        refine lv_iconst (v := nI 4) hx hb d_MO_has_77 (by decide +kernel) ?_
        refine lv_irem hx hb d_MO_has_78 (by first | decide +kernel | exact nI_ne0 (by omega) (by omega)) ?_
        refine ss_rt (y := nI ((R 6) % 4)) (pk_rem (by omega) (by omega) (by omega)) ?_
        refine lv_imul hx hb d_MO_has_79 ?_
        refine ss_rt (y := nI (128 * ((R 6) % 4))) (pk_mul _ _) ?_
        refine lv_istore (lv' := [(7, .int (nI (128 * ((R 6) % 4)))), (6, .int (nI ((dsp B R z 2) % 16))), (5, .int (nI ((x + 32 - dsp B R z 1) / (dtm R)))), (4, .int (iI ((dsp B R z 1 : Nat) - (32 : Nat) : Int))), (0, .ref (q 0)), (1, .int (nI z)), (2, .int (nI (drw B R ln z))), (3, .int (nI x))]) hx hb d_MO_has_80 hl (by decide) rfl (fun ls hl => ?_)
        refine lv_aload_n hx hb d_MO_has_82 rfl (lv_at hl 4 rfl) ?_
        refine lv_aload_n hx hb d_MO_has_83 rfl (lv_at hl 4 rfl) ?_
        refine va_get (D := D) (ci := 7) (v := .ref (q 8)) (C := R_MO) (T := T_MO) (N := 16) hx hb hts in_MO hown hK hP 0 rfl rfl 9 (by decide) (hts _ w_539) (fun _ h9 => h9) rfl d_MO_has_84 ?_
        refine lv_iconst (v := nI 1) hx hb d_MO_has_87 (by decide +kernel) ?_
        refine va_iald hx hb hK hP 8 0 rfl rfl (vp_in_nI (by omega) (by omega)) d_MO_has_88 ?_
        refine ss_rt (y := nI (R 1)) (congrArg (fun z => nI (R z)) (nI_clamp (by omega))) ?_
        have g24 := hR 1
        refine lv_iconst (v := nI 1) hx hb d_MO_has_89 (by decide +kernel) ?_
        refine kr_iV (As := [.int (nI (R 1)), .int (nI 1)]) (rest := []) ⟨hx, hb, hml, hown, hts⟩ (c_MO_bit l D k q cd wd se kd bn sh mb pr B R sx pt rd wt ln px (R 1) 1 (by omega) (by omega)) (cwV 2 hts (gV w_653 w_655 w_p20 w_5 w_656) rfl rfl rfl (by decide +kernel) ⟨Nat.le_of_ble_eq_true rfl, Nat.le_of_ble_eq_true rfl⟩) hK hP (va_recv hK hP (ci := 7) (q0 := 0) rfl rfl) rfl hl.1 rfl (Nat.le_of_ble_eq_true rfl) d_MO_has_90 ⟨Nat.zero_le _, Nat.zero_le _⟩ ?_
        refine lv_if_eq (tgt := 127) hx hb d_MO_has_93 (by decide) (fun c25 => ?_) (fun c25 => ?_)
        · have c25 := (bI_0).mp c25
          have z5 : ¬ dsd R = 16 := by unfold dsd; rw [if_neg (by omega)]; omega
          refine lv_iload hx hb d_MO_has_127 (lv_at hl 0 rfl) ?_
          refine lv_bipush (v := nI 8) hx hb d_MO_has_129 (by decide +kernel) ?_
          refine lv_iload hx hb d_MO_has_131 (lv_at hl 1 rfl) ?_
          refine lv_imul hx hb d_MO_has_133 ?_
          refine ss_rt (y := nI (8 * ((dsp B R z 2) % 16))) (pk_mul _ _) ?_
          refine lv_iadd hx hb d_MO_has_134 ?_
          refine ss_rt (y := nI (128 * ((R 6) % 4) + (8 * ((dsp B R z 2) % 16)))) (nI_add _ _) ?_
          refine lv_iload_n hx hb d_MO_has_135 rfl (lv_at hl 6 rfl) ?_
          refine lv_iadd hx hb d_MO_has_136 ?_
          refine ss_rt (y := nI (128 * ((R 6) % 4) + (8 * ((dsp B R z 2) % 16)) + (drw B R ln z))) (nI_add _ _) ?_
          refine lv_istore (lv' := [(8, .int (nI (128 * ((R 6) % 4) + (8 * ((dsp B R z 2) % 16)) + (drw B R ln z)))), (7, .int (nI (128 * ((R 6) % 4)))), (6, .int (nI ((dsp B R z 2) % 16))), (5, .int (nI ((x + 32 - dsp B R z 1) / (dtm R)))), (4, .int (iI ((dsp B R z 1 : Nat) - (32 : Nat) : Int))), (0, .ref (q 0)), (1, .int (nI z)), (2, .int (nI (drw B R ln z))), (3, .int (nI x))]) hx hb d_MO_has_137 hl (by decide) rfl (fun ls hl => ?_)
          refine lv_aload_n hx hb d_MO_has_139 rfl (lv_at hl 5 rfl) ?_
          refine lv_aload_n hx hb d_MO_has_140 rfl (lv_at hl 5 rfl) ?_
          refine va_get (D := D) (ci := 7) (v := .ref (q 7)) (C := R_MO) (T := T_MO) (N := 16) hx hb hts in_MO hown hK hP 0 rfl rfl 8 (by decide) (hts _ w_538) (fun _ h9 => h9) rfl d_MO_has_141 ?_
          refine lv_iload hx hb d_MO_has_144 (lv_at hl 0 rfl) ?_
          refine va_iald hx hb hK hP 7 0 rfl rfl (vp_in_nI (by omega) (by omega)) d_MO_has_146 ?_
          refine ss_rt (y := nI (B (128 * ((R 6) % 4) + (8 * ((dsp B R z 2) % 16)) + (drw B R ln z)))) (congrArg (fun z => nI (B z)) (nI_clamp (by omega))) ?_
          have g26 := hB (128 * ((R 6) % 4) + (8 * ((dsp B R z 2) % 16)) + (drw B R ln z))
          refine lv_bipush (v := nI 7) hx hb d_MO_has_147 (by decide +kernel) ?_
          refine lv_iload hx hb d_MO_has_149 (lv_at hl 3 rfl) ?_
          refine lv_bipush (v := nI 8) hx hb d_MO_has_151 (by decide +kernel) ?_
          refine lv_irem hx hb d_MO_has_153 (by first | decide +kernel | exact nI_ne0 (by omega) (by omega)) ?_
          refine ss_rt (y := nI (((x + 32 - dsp B R z 1) / (dtm R)) % 8)) (pk_rem (by omega) (by omega) (by omega)) ?_
          refine lv_isub hx hb d_MO_has_154 ?_
          refine ss_rt (y := nI (7 - (((x + 32 - dsp B R z 1) / (dtm R)) % 8))) (pk_sub (by omega)) ?_
          refine kr_iV (As := [.int (nI (B (128 * ((R 6) % 4) + (8 * ((dsp B R z 2) % 16)) + (drw B R ln z)))), .int (nI (7 - (((x + 32 - dsp B R z 1) / (dtm R)) % 8)))]) (rest := []) ⟨hx, hb, hml, hown, hts⟩ (c_MO_bit l D k q cd wd se kd bn sh mb pr B R sx pt rd wt ln px (B (128 * ((R 6) % 4) + (8 * ((dsp B R z 2) % 16)) + (drw B R ln z))) (7 - (((x + 32 - dsp B R z 1) / (dtm R)) % 8)) (by omega) (by omega)) (cwV 2 hts (gV w_653 w_655 w_p20 w_5 w_656) rfl rfl rfl (by decide +kernel) ⟨Nat.le_of_ble_eq_true rfl, Nat.le_of_ble_eq_true rfl⟩) hK hP (va_recv hK hP (ci := 7) (q0 := 0) rfl rfl) rfl hl.1 rfl (Nat.le_of_ble_eq_true rfl) d_MO_has_155 ⟨Nat.zero_le _, Nat.zero_le _⟩ ?_
          exact ro_retz hx hb hr hlocks d_MO_has_158 nb_bI (bI_c (by rw [dhs_i (by omega) (by omega)]; unfold dcc dat; rw [hof]; (try simp only [Nat.add_zero]); (first | rw [if_pos z5] | rw [if_neg z5]); all_goals (first | rw [if_pos (by omega)] | rw [if_neg (by omega)]); all_goals exact Iff.rfl))
        · have c25 := mt (bI_0).mpr c25
          have c25 := Classical.not_not.mp c25
          have z5 : dsd R = 16 := by unfold dsd; rw [if_pos (by omega)]
          refine lv_iload hx hb d_MO_has_96 (lv_at hl 0 rfl) ?_
          refine lv_bipush (v := nI 8) hx hb d_MO_has_98 (by decide +kernel) ?_
          refine lv_iload hx hb d_MO_has_100 (lv_at hl 1 rfl) ?_
          refine lv_iconst (v := nI 4) hx hb d_MO_has_102 (by decide +kernel) ?_
          refine lv_idiv hx hb d_MO_has_103 (by first | decide +kernel | exact nI_ne0 (by omega) (by omega)) ?_
          refine ss_rt (y := nI (((dsp B R z 2) % 16) / 4)) (pk_div (by omega) (by omega) (by omega)) ?_
          refine lv_iconst (v := nI 4) hx hb d_MO_has_104 (by decide +kernel) ?_
          refine lv_imul hx hb d_MO_has_105 ?_
          refine ss_rt (y := nI ((((dsp B R z 2) % 16) / 4) * 4)) (pk_mul _ _) ?_
          refine lv_imul hx hb d_MO_has_106 ?_
          refine ss_rt (y := nI (8 * ((((dsp B R z 2) % 16) / 4) * 4))) (pk_mul _ _) ?_
          refine lv_iadd hx hb d_MO_has_107 ?_
          refine ss_rt (y := nI (128 * ((R 6) % 4) + (8 * ((((dsp B R z 2) % 16) / 4) * 4)))) (nI_add _ _) ?_
          refine lv_iload_n hx hb d_MO_has_108 rfl (lv_at hl 6 rfl) ?_
          refine lv_iadd hx hb d_MO_has_109 ?_
          refine ss_rt (y := nI (128 * ((R 6) % 4) + (8 * ((((dsp B R z 2) % 16) / 4) * 4)) + (drw B R ln z))) (nI_add _ _) ?_
          refine lv_iload hx hb d_MO_has_110 (lv_at hl 2 rfl) ?_
          refine lv_bipush (v := nI 7) hx hb d_MO_has_112 (by decide +kernel) ?_
          refine lv_icmp_le (tgt := 122) hx hb d_MO_has_114 (by decide) (fun c27 => ?_) (fun c27 => ?_)
          · have c27 := (nI_leI (by omega) (by omega)).mp c27
            refine lv_iconst (v := nI 0) hx hb d_MO_has_122 (by decide +kernel) ?_
            refine lv_iadd hx hb d_MO_has_123 ?_
            refine ss_rt (y := nI (128 * ((R 6) % 4) + (8 * ((((dsp B R z 2) % 16) / 4) * 4)) + (drw B R ln z) + 0)) (nI_add _ _) ?_
            refine lv_goto (tgt := 137) hx hb d_MO_has_124 (by decide) ?_
            refine lv_istore (lv' := [(8, .int (nI (128 * ((R 6) % 4) + (8 * ((((dsp B R z 2) % 16) / 4) * 4)) + (drw B R ln z) + 0))), (7, .int (nI (128 * ((R 6) % 4)))), (6, .int (nI ((dsp B R z 2) % 16))), (5, .int (nI ((x + 32 - dsp B R z 1) / (dtm R)))), (4, .int (iI ((dsp B R z 1 : Nat) - (32 : Nat) : Int))), (0, .ref (q 0)), (1, .int (nI z)), (2, .int (nI (drw B R ln z))), (3, .int (nI x))]) hx hb d_MO_has_137 hl (by decide) rfl (fun ls hl => ?_)
            refine lv_aload_n hx hb d_MO_has_139 rfl (lv_at hl 5 rfl) ?_
            refine lv_aload_n hx hb d_MO_has_140 rfl (lv_at hl 5 rfl) ?_
            refine va_get (D := D) (ci := 7) (v := .ref (q 7)) (C := R_MO) (T := T_MO) (N := 16) hx hb hts in_MO hown hK hP 0 rfl rfl 8 (by decide) (hts _ w_538) (fun _ h9 => h9) rfl d_MO_has_141 ?_
            refine lv_iload hx hb d_MO_has_144 (lv_at hl 0 rfl) ?_
            refine va_iald hx hb hK hP 7 0 rfl rfl (vp_in_nI (by omega) (by omega)) d_MO_has_146 ?_
            refine ss_rt (y := nI (B (128 * ((R 6) % 4) + (8 * ((((dsp B R z 2) % 16) / 4) * 4)) + (drw B R ln z) + 0))) (congrArg (fun z => nI (B z)) (nI_clamp (by omega))) ?_
            have g28 := hB (128 * ((R 6) % 4) + (8 * ((((dsp B R z 2) % 16) / 4) * 4)) + (drw B R ln z) + 0)
            refine lv_bipush (v := nI 7) hx hb d_MO_has_147 (by decide +kernel) ?_
            refine lv_iload hx hb d_MO_has_149 (lv_at hl 3 rfl) ?_
            refine lv_bipush (v := nI 8) hx hb d_MO_has_151 (by decide +kernel) ?_
            refine lv_irem hx hb d_MO_has_153 (by first | decide +kernel | exact nI_ne0 (by omega) (by omega)) ?_
            refine ss_rt (y := nI (((x + 32 - dsp B R z 1) / (dtm R)) % 8)) (pk_rem (by omega) (by omega) (by omega)) ?_
            refine lv_isub hx hb d_MO_has_154 ?_
            refine ss_rt (y := nI (7 - (((x + 32 - dsp B R z 1) / (dtm R)) % 8))) (pk_sub (by omega)) ?_
            refine kr_iV (As := [.int (nI (B (128 * ((R 6) % 4) + (8 * ((((dsp B R z 2) % 16) / 4) * 4)) + (drw B R ln z) + 0))), .int (nI (7 - (((x + 32 - dsp B R z 1) / (dtm R)) % 8)))]) (rest := []) ⟨hx, hb, hml, hown, hts⟩ (c_MO_bit l D k q cd wd se kd bn sh mb pr B R sx pt rd wt ln px (B (128 * ((R 6) % 4) + (8 * ((((dsp B R z 2) % 16) / 4) * 4)) + (drw B R ln z) + 0)) (7 - (((x + 32 - dsp B R z 1) / (dtm R)) % 8)) (by omega) (by omega)) (cwV 2 hts (gV w_653 w_655 w_p20 w_5 w_656) rfl rfl rfl (by decide +kernel) ⟨Nat.le_of_ble_eq_true rfl, Nat.le_of_ble_eq_true rfl⟩) hK hP (va_recv hK hP (ci := 7) (q0 := 0) rfl rfl) rfl hl.1 rfl (Nat.le_of_ble_eq_true rfl) d_MO_has_155 ⟨Nat.zero_le _, Nat.zero_le _⟩ ?_
            exact ro_retz hx hb hr hlocks d_MO_has_158 nb_bI (bI_c (by rw [dhs_i (by omega) (by omega)]; unfold dcc dat; rw [hof]; (try simp only [Nat.add_zero]); (first | rw [if_pos z5] | rw [if_neg z5]); all_goals (first | rw [if_pos (by omega)] | rw [if_neg (by omega)]); all_goals exact Iff.rfl))
          · have c27 := mt (nI_leI (by omega) (by omega)).mpr c27
            refine lv_bipush (v := nI 16) hx hb d_MO_has_117 (by decide +kernel) ?_
            refine lv_goto (tgt := 123) hx hb d_MO_has_119 (by decide) ?_
            refine lv_iadd hx hb d_MO_has_123 ?_
            refine ss_rt (y := nI (128 * ((R 6) % 4) + (8 * ((((dsp B R z 2) % 16) / 4) * 4)) + (drw B R ln z) + 16)) (nI_add _ _) ?_
            refine lv_goto (tgt := 137) hx hb d_MO_has_124 (by decide) ?_
            refine lv_istore (lv' := [(8, .int (nI (128 * ((R 6) % 4) + (8 * ((((dsp B R z 2) % 16) / 4) * 4)) + (drw B R ln z) + 16))), (7, .int (nI (128 * ((R 6) % 4)))), (6, .int (nI ((dsp B R z 2) % 16))), (5, .int (nI ((x + 32 - dsp B R z 1) / (dtm R)))), (4, .int (iI ((dsp B R z 1 : Nat) - (32 : Nat) : Int))), (0, .ref (q 0)), (1, .int (nI z)), (2, .int (nI (drw B R ln z))), (3, .int (nI x))]) hx hb d_MO_has_137 hl (by decide) rfl (fun ls hl => ?_)
            refine lv_aload_n hx hb d_MO_has_139 rfl (lv_at hl 5 rfl) ?_
            refine lv_aload_n hx hb d_MO_has_140 rfl (lv_at hl 5 rfl) ?_
            refine va_get (D := D) (ci := 7) (v := .ref (q 7)) (C := R_MO) (T := T_MO) (N := 16) hx hb hts in_MO hown hK hP 0 rfl rfl 8 (by decide) (hts _ w_538) (fun _ h9 => h9) rfl d_MO_has_141 ?_
            refine lv_iload hx hb d_MO_has_144 (lv_at hl 0 rfl) ?_
            refine va_iald hx hb hK hP 7 0 rfl rfl (vp_in_nI (by omega) (by omega)) d_MO_has_146 ?_
            refine ss_rt (y := nI (B (128 * ((R 6) % 4) + (8 * ((((dsp B R z 2) % 16) / 4) * 4)) + (drw B R ln z) + 16))) (congrArg (fun z => nI (B z)) (nI_clamp (by omega))) ?_
            have g29 := hB (128 * ((R 6) % 4) + (8 * ((((dsp B R z 2) % 16) / 4) * 4)) + (drw B R ln z) + 16)
            refine lv_bipush (v := nI 7) hx hb d_MO_has_147 (by decide +kernel) ?_
            refine lv_iload hx hb d_MO_has_149 (lv_at hl 3 rfl) ?_
            refine lv_bipush (v := nI 8) hx hb d_MO_has_151 (by decide +kernel) ?_
            refine lv_irem hx hb d_MO_has_153 (by first | decide +kernel | exact nI_ne0 (by omega) (by omega)) ?_
            refine ss_rt (y := nI (((x + 32 - dsp B R z 1) / (dtm R)) % 8)) (pk_rem (by omega) (by omega) (by omega)) ?_
            refine lv_isub hx hb d_MO_has_154 ?_
            refine ss_rt (y := nI (7 - (((x + 32 - dsp B R z 1) / (dtm R)) % 8))) (pk_sub (by omega)) ?_
            refine kr_iV (As := [.int (nI (B (128 * ((R 6) % 4) + (8 * ((((dsp B R z 2) % 16) / 4) * 4)) + (drw B R ln z) + 16))), .int (nI (7 - (((x + 32 - dsp B R z 1) / (dtm R)) % 8)))]) (rest := []) ⟨hx, hb, hml, hown, hts⟩ (c_MO_bit l D k q cd wd se kd bn sh mb pr B R sx pt rd wt ln px (B (128 * ((R 6) % 4) + (8 * ((((dsp B R z 2) % 16) / 4) * 4)) + (drw B R ln z) + 16)) (7 - (((x + 32 - dsp B R z 1) / (dtm R)) % 8)) (by omega) (by omega)) (cwV 2 hts (gV w_653 w_655 w_p20 w_5 w_656) rfl rfl rfl (by decide +kernel) ⟨Nat.le_of_ble_eq_true rfl, Nat.le_of_ble_eq_true rfl⟩) hK hP (va_recv hK hP (ci := 7) (q0 := 0) rfl rfl) rfl hl.1 rfl (Nat.le_of_ble_eq_true rfl) d_MO_has_155 ⟨Nat.zero_le _, Nat.zero_le _⟩ ?_
            exact ro_retz hx hb hr hlocks d_MO_has_158 nb_bI (bI_c (by rw [dhs_i (by omega) (by omega)]; unfold dcc dat; rw [hof]; (try simp only [Nat.add_zero]); (first | rw [if_pos z5] | rw [if_neg z5]); all_goals (first | rw [if_pos (by omega)] | rw [if_neg (by omega)]); all_goals exact Iff.rfl))
      · have c19 := mt (nz_lt (by omega)).mpr c19
        rw [iI_t (by omega) (by omega)] at c19
        refine lv_iconst (v := nI 0) hx hb d_MO_has_43 (by decide +kernel) ?_
        exact ro_retz hx hb hr hlocks d_MO_has_44 (by decide +kernel) (bI_f (dhs_o (by omega)))
theorem c_MO_rowOn_t (l : Launch) (D : va_G) (k : Nat → ClassId) (q : Nat → Nat) (cd : Int32) (wd : Nat → Nat) (se : Nat → Nat) (kd : Nat → Nat) (bn : Nat → Int32) (sh : Nat → Nat) (mb : Nat → Nat) (pr : Nat) (B : Nat → Nat) (R : Nat → Nat) (sx : Nat) (pt : Nat) (rd : Nat) (wt : Int32) (ln : Nat) (px : Nat → Nat) (hB : ∀ j, B j < 256) (hR : ∀ j, R j < 256) (z y : Nat) (hz : z < 8) (hy : y < 32) (hd : don B R y z = true) : ro_i l y_MO_rowOn b_MO_rowOn 4 (some .int) { frames := 3, cells := 0, slots := 0, locals := 62 } D (kT k) (mW q k cd wd se kd bn sh mb pr B R sx pt rd wt ln px) [.ref (q 0), .int (nI z), .int (nI y)] (nI (drw B R y z)) := by
  have h := c_MO_rowOn l D k q cd wd se kd bn sh mb pr B R sx pt rd wt ln px hB hR z y hz hy
  rw [if_pos hd] at h
  exact h
theorem c_MO_rowOn_f (l : Launch) (D : va_G) (k : Nat → ClassId) (q : Nat → Nat) (cd : Int32) (wd : Nat → Nat) (se : Nat → Nat) (kd : Nat → Nat) (bn : Nat → Int32) (sh : Nat → Nat) (mb : Nat → Nat) (pr : Nat) (B : Nat → Nat) (R : Nat → Nat) (sx : Nat) (pt : Nat) (rd : Nat) (wt : Int32) (ln : Nat) (px : Nat → Nat) (hB : ∀ j, B j < 256) (hR : ∀ j, R j < 256) (z y : Nat) (hz : z < 8) (hy : y < 32) (hd : ¬ don B R y z = true) : ro_i l y_MO_rowOn b_MO_rowOn 4 (some .int) { frames := 3, cells := 0, slots := 0, locals := 62 } D (kT k) (mW q k cd wd se kd bn sh mb pr B R sx pt rd wt ln px) [.ref (q 0), .int (nI z), .int (nI y)] (-1) := by
  have h := c_MO_rowOn l D k q cd wd se kd bn sh mb pr B R sx pt rd wt ln px hB hR z y hz hy
  rw [if_neg hd] at h
  exact h
end
section
set_option maxHeartbeats 4000000 in
set_option maxRecDepth 100000 in
theorem c_MO_goOn (l : Launch) (D : va_G) (k : Nat → ClassId) (q : Nat → Nat) (cd : Int32) (wd : Nat → Nat) (se : Nat → Nat) (kd : Nat → Nat) (bn : Nat → Int32) (sh : Nat → Nat) (mb : Nat → Nat) (pr : Nat) (B : Nat → Nat) (R : Nat → Nat) (sx : Nat) (pt : Nat) (rd : Nat) (wt : Int32) (ln : Nat) (px : Nat → Nat) (hpt : pt < 512) : rw_v l y_MO_goOn b_MO_goOn 1 none { frames := 0, cells := 0, slots := 0, locals := 0 } D (kT k) (mW q k cd wd se kd bn sh mb pr B R sx pt rd wt ln px) [.ref (q 0)] (fun (_ : Unit) => True) (fun (_ : Unit) => (mW q k cd wd se kd bn sh mb pr B R sx ((pt + 1) % 512) rd wt ln px)) := by
  refine rw_headv (by decide) (Nat.le_of_ble_eq_true rfl) ?_
  intro p e s m below meth c ls A hx hb hr hlocks hml hown hts hK hA hP hD hS hl
  have hown : s.vm.findClass "SlotScreenModel" = some m.cls := hown
  have hl : lv_has ls 1 [(0, .ref (q 0))] := hl
  refine lv_aload_n hx hb d_MO_goOn_0 rfl (lv_at hl 0 rfl) ?_
  refine lv_aload_n hx hb d_MO_goOn_1 rfl (lv_at hl 0 rfl) ?_
  refine va_get (D := D) (ci := 7) (v := .int (nI pt)) (C := R_MO) (T := T_MO) (N := 16) hx hb hts in_MO hown hK hP 0 rfl rfl 11 (by decide) (hts _ w_541) (fun _ h9 => h9) rfl d_MO_goOn_2 ?_
  refine lv_sipush (v := nI 511) hx hb d_MO_goOn_5 (by decide +kernel) ?_
  refine lv_icmp_ne (tgt := 15) hx hb d_MO_goOn_8 (by decide) (fun c1 => ?_) (fun c1 => ?_)
  · have c1 := mt (nI_eq (by omega) (by omega)).mpr c1
    refine lv_aload_n hx hb d_MO_goOn_15 rfl (lv_at hl 0 rfl) ?_
    refine va_get (D := D) (ci := 7) (v := .int (nI pt)) (C := R_MO) (T := T_MO) (N := 16) hx hb hts in_MO hown hK hP 0 rfl rfl 11 (by decide) (hts _ w_541) (fun _ h9 => h9) rfl d_MO_goOn_16 ?_
    refine lv_iconst (v := nI 1) hx hb d_MO_goOn_19 (by decide +kernel) ?_
    refine lv_iadd hx hb d_MO_goOn_20 ?_
    refine ss_rt (y := nI (pt + 1)) (nI_add _ _) ?_
    refine va_put (D := D) (ci := 7) (v := .int (nI (pt + 1))) (ty := .int) (C := R_MO) (T := T_MO) (N := 16) hx hb hts in_MO t_MO o_MO n_MO hown hK hP hD hS 0 rfl rfl 11 (by decide) (hts _ w_541) (fun _ h9 => h9) rfl (by decide +kernel) rfl rfl (Nat.le_of_ble_eq_true rfl) d_MO_goOn_21 (fun H locs hP hD hS => ?_)
    have hP : va_P D vwCl (mW q k cd wd se kd bn sh mb pr B R sx (pt + 1) rd wt ln px) H := hP
    have hD : va_D A (mW q k cd wd se kd bn sh mb pr B R sx (pt + 1) rd wt ln px) := hD
    exact rw_retv hx hb hr hlocks d_MO_goOn_24 hS () (trivial) (by rw [show ((pt + 1) % 512) = (pt + 1) from by first | rfl | omega]; exact hP)
  · have c1 := (nI_eq (by omega) (by omega)).mp c1
    refine lv_iconst (v := nI 0) hx hb d_MO_goOn_11 (by decide +kernel) ?_
    refine lv_goto (tgt := 21) hx hb d_MO_goOn_12 (by decide) ?_
    refine va_put (D := D) (ci := 7) (v := .int (nI 0)) (ty := .int) (C := R_MO) (T := T_MO) (N := 16) hx hb hts in_MO t_MO o_MO n_MO hown hK hP hD hS 0 rfl rfl 11 (by decide) (hts _ w_541) (fun _ h9 => h9) rfl (by decide +kernel) rfl rfl (Nat.le_of_ble_eq_true rfl) d_MO_goOn_21 (fun H locs hP hD hS => ?_)
    have hP : va_P D vwCl (mW q k cd wd se kd bn sh mb pr B R sx 0 rd wt ln px) H := hP
    have hD : va_D A (mW q k cd wd se kd bn sh mb pr B R sx 0 rd wt ln px) := hD
    exact rw_retv hx hb hr hlocks d_MO_goOn_24 hS () (trivial) (by rw [show ((pt + 1) % 512) = 0 from by first | rfl | omega]; exact hP)
set_option maxHeartbeats 4000000 in
set_option maxRecDepth 100000 in
theorem c_MO_fetch (l : Launch) (D : va_G) (k : Nat → ClassId) (q : Nat → Nat) (cd : Int32) (wd : Nat → Nat) (se : Nat → Nat) (kd : Nat → Nat) (bn : Nat → Int32) (sh : Nat → Nat) (mb : Nat → Nat) (pr : Nat) (B : Nat → Nat) (R : Nat → Nat) (sx : Nat) (pt : Nat) (rd : Nat) (wt : Int32) (ln : Nat) (px : Nat → Nat) (hpt : pt < 512) : rw_v l y_MO_fetch b_MO_fetch 1 none { frames := 1, cells := 0, slots := 0, locals := 20 } D (kT k) (mW q k cd wd se kd bn sh mb pr B R sx pt rd wt ln px) [.ref (q 0)] (fun (_ : Unit) => True) (fun (_ : Unit) => (mW q k cd wd se kd bn sh mb pr B R sx ((pt + 1) % 512) (B pt) wt ln px)) := by
  refine rw_headv (by decide) (Nat.le_of_ble_eq_true rfl) ?_
  intro p e s m below meth c ls A hx hb hr hlocks hml hown hts hK hA hP hD hS hl
  have hown : s.vm.findClass "SlotScreenModel" = some m.cls := hown
  have hl : lv_has ls 1 [(0, .ref (q 0))] := hl
  refine lv_aload_n hx hb d_MO_fetch_0 rfl (lv_at hl 0 rfl) ?_
  refine lv_aload_n hx hb d_MO_fetch_1 rfl (lv_at hl 0 rfl) ?_
  refine va_get (D := D) (ci := 7) (v := .ref (q 7)) (C := R_MO) (T := T_MO) (N := 16) hx hb hts in_MO hown hK hP 0 rfl rfl 8 (by decide) (hts _ w_538) (fun _ h9 => h9) rfl d_MO_fetch_2 ?_
  refine lv_aload_n hx hb d_MO_fetch_5 rfl (lv_at hl 0 rfl) ?_
  refine va_get (D := D) (ci := 7) (v := .int (nI pt)) (C := R_MO) (T := T_MO) (N := 16) hx hb hts in_MO hown hK hP 0 rfl rfl 11 (by decide) (hts _ w_541) (fun _ h9 => h9) rfl d_MO_fetch_6 ?_
  refine va_iald hx hb hK hP 7 0 rfl rfl (vp_in_nI (by omega) (by omega)) d_MO_fetch_9 ?_
  refine ss_rt (y := nI (B pt)) (congrArg (fun z => nI (B z)) (nI_clamp (by omega))) ?_
  refine va_put (D := D) (ci := 7) (v := .int (nI (B pt))) (ty := .int) (C := R_MO) (T := T_MO) (N := 16) hx hb hts in_MO t_MO o_MO n_MO hown hK hP hD hS 0 rfl rfl 12 (by decide) (hts _ w_542) (fun _ h9 => h9) rfl (by decide +kernel) rfl rfl (Nat.le_of_ble_eq_true rfl) d_MO_fetch_10 (fun H locs hP hD hS => ?_)
  have hP : va_P D vwCl (mW q k cd wd se kd bn sh mb pr B R sx pt (B pt) wt ln px) H := hP
  have hD : va_D A (mW q k cd wd se kd bn sh mb pr B R sx pt (B pt) wt ln px) := hD
  refine lv_aload_n hx hb d_MO_fetch_13 rfl (lv_at hl 0 rfl) ?_
  refine kw_vV (As := []) (rest := []) ⟨hx, hb, hml, hown, hts⟩ (c_MO_goOn l D k q cd wd se kd bn sh mb pr B R sx pt (B pt) wt ln px (by omega)) (cwV 0 hts (gV w_637 w_639 w_p18 w_5 w_640) rfl rfl rfl (by decide +kernel) ⟨Nat.le_of_ble_eq_true rfl, Nat.le_of_ble_eq_true rfl⟩) hK hP hD hS hA (va_recv hK hP (ci := 7) (q0 := 0) rfl rfl) rfl hl.1 rfl (Nat.le_of_ble_eq_true rfl) d_MO_fetch_14 ⟨Nat.zero_le _, Nat.zero_le _⟩ (fun _ H locs _ hP _ hS => ?_)
  have hD : va_D A (mW q k cd wd se kd bn sh mb pr B R sx ((pt + 1) % 512) (B pt) wt ln px) := rw_same hD rfl
  have hP : va_P D vwCl (mW q k cd wd se kd bn sh mb pr B R sx ((pt + 1) % 512) (B pt) wt ln px) H := hP
  exact rw_retv hx hb hr hlocks d_MO_fetch_17 hS () (trivial) hP
set_option maxHeartbeats 4000000 in
set_option maxRecDepth 100000 in
theorem c_MO_in2 (l : Launch) (D : va_G) (k : Nat → ClassId) (q : Nat → Nat) (cd : Int32) (wd : Nat → Nat) (se : Nat → Nat) (kd : Nat → Nat) (bn : Nat → Int32) (sh : Nat → Nat) (mb : Nat → Nat) (pr : Nat) (B : Nat → Nat) (R : Nat → Nat) (sx : Nat) (pt : Nat) (rd : Nat) (wt : Int32) (ln : Nat) (px : Nat → Nat) : rw_i l y_MO_in b_MO_in 3 (some .int) { frames := 2, cells := 0, slots := 0, locals := 40 } D (kT k) (mW q k cd wd se kd bn sh mb pr B R sx pt rd wt ln px) [.ref (q 0), .int (nI 2)] (fun (r : Int32) (_ : Unit) => r = nI pr) (fun (_ : Unit) => (mW q k (nI 0) wd se kd bn sh mb pr B R sx pt rd wt ln px)) := by
  refine rw_headi (by decide) (Nat.le_of_ble_eq_true rfl) ?_
  intro p e s m below meth c ls A hx hb hr hlocks hml hown hts hK hA hP hD hS hl
  have hown : s.vm.findClass "SlotScreenModel" = some m.cls := hown
  have hl : lv_has ls 3 [(0, .ref (q 0)), (1, .int (nI 2))] := hl
  refine lv_aload_n hx hb d_MO_in_0 rfl (lv_at hl 0 rfl) ?_
  refine lv_iconst (v := nI 0) hx hb d_MO_in_1 (by decide +kernel) ?_
  refine va_put (D := D) (ci := 7) (v := .int (nI 0)) (ty := .int) (C := R_MO) (T := T_MO) (N := 16) hx hb hts in_MO t_MO o_MO n_MO hown hK hP hD hS 0 rfl rfl 0 (by decide) (hts _ w_530) (fun _ h9 => h9) rfl (by decide +kernel) rfl rfl (Nat.le_of_ble_eq_true rfl) d_MO_in_2 (fun H locs hP hD hS => ?_)
  have hP : va_P D vwCl (mW q k (nI 0) wd se kd bn sh mb pr B R sx pt rd wt ln px) H := hP
  have hD : va_D A (mW q k (nI 0) wd se kd bn sh mb pr B R sx pt rd wt ln px) := hD
  refine lv_iload_n hx hb d_MO_in_5 rfl (lv_at hl 1 rfl) ?_
  refine lv_iconst (v := nI 2) hx hb d_MO_in_6 (by decide +kernel) ?_
  refine lv_icmp_ne (tgt := 15) hx hb d_MO_in_7 (by decide) (fun c1 => ?_) (fun c1 => ?_)
  · have c1 := mt (nI_eq (by omega) (by omega)).mpr c1
    exfalso; omega
  · have c1 := (nI_eq (by omega) (by omega)).mp c1
    refine lv_aload_n hx hb d_MO_in_10 rfl (lv_at hl 0 rfl) ?_
    refine va_get (D := D) (ci := 7) (v := .int (nI pr)) (C := R_MO) (T := T_MO) (N := 16) hx hb hts in_MO hown hK hP 0 rfl rfl 7 (by decide) (hts _ w_537) (fun _ h9 => h9) rfl d_MO_in_11 ?_
    exact rw_reti hx hb hr hlocks d_MO_in_14 hS () (rfl) hP
set_option maxHeartbeats 4000000 in
set_option maxRecDepth 100000 in
theorem c_MO_ino (l : Launch) (D : va_G) (k : Nat → ClassId) (q : Nat → Nat) (cd : Int32) (wd : Nat → Nat) (se : Nat → Nat) (kd : Nat → Nat) (bn : Nat → Int32) (sh : Nat → Nat) (mb : Nat → Nat) (pr : Nat) (B : Nat → Nat) (R : Nat → Nat) (sx : Nat) (pt : Nat) (rd : Nat) (wt : Int32) (ln : Nat) (px : Nat → Nat) (x : Int32) (hx9 : x.toInt ≠ 0 ∧ x.toInt ≠ 1 ∧ x.toInt ≠ 2) : rw_i l y_MO_in b_MO_in 3 (some .int) { frames := 2, cells := 0, slots := 0, locals := 40 } D (kT k) (mW q k cd wd se kd bn sh mb pr B R sx pt rd wt ln px) [.ref (q 0), .int x] (fun (r : Int32) (_ : Unit) => r = nI 255) (fun (_ : Unit) => (mW q k (nI 0) wd se kd bn sh mb pr B R sx pt rd wt ln px)) := by
  refine rw_headi (by decide) (Nat.le_of_ble_eq_true rfl) ?_
  intro p e s m below meth c ls A hx hb hr hlocks hml hown hts hK hA hP hD hS hl
  have hown : s.vm.findClass "SlotScreenModel" = some m.cls := hown
  have hl : lv_has ls 3 [(0, .ref (q 0)), (1, .int x)] := hl
  refine lv_aload_n hx hb d_MO_in_0 rfl (lv_at hl 0 rfl) ?_
  refine lv_iconst (v := nI 0) hx hb d_MO_in_1 (by decide +kernel) ?_
  refine va_put (D := D) (ci := 7) (v := .int (nI 0)) (ty := .int) (C := R_MO) (T := T_MO) (N := 16) hx hb hts in_MO t_MO o_MO n_MO hown hK hP hD hS 0 rfl rfl 0 (by decide) (hts _ w_530) (fun _ h9 => h9) rfl (by decide +kernel) rfl rfl (Nat.le_of_ble_eq_true rfl) d_MO_in_2 (fun H locs hP hD hS => ?_)
  have hP : va_P D vwCl (mW q k (nI 0) wd se kd bn sh mb pr B R sx pt rd wt ln px) H := hP
  have hD : va_D A (mW q k (nI 0) wd se kd bn sh mb pr B R sx pt rd wt ln px) := hD
  refine lv_iload_n hx hb d_MO_in_5 rfl (lv_at hl 1 rfl) ?_
  refine lv_iconst (v := nI 2) hx hb d_MO_in_6 (by decide +kernel) ?_
  refine lv_icmp_ne (tgt := 15) hx hb d_MO_in_7 (by decide) (fun c1 => ?_) (fun c1 => ?_)
  · have c1 := mt (zn_eq (by omega)).mpr c1
    refine lv_iload_n hx hb d_MO_in_15 rfl (lv_at hl 1 rfl) ?_
    refine lv_if_eq (tgt := 28) hx hb d_MO_in_16 (by decide) (fun c2 => ?_) (fun c2 => ?_)
    · have c2 := (z_eq0).mp c2
      exfalso; omega
    · have c2 := mt (z_eq0).mpr c2
      refine lv_iload_n hx hb d_MO_in_19 rfl (lv_at hl 1 rfl) ?_
      refine lv_iconst (v := nI 1) hx hb d_MO_in_20 (by decide +kernel) ?_
      refine lv_icmp_eq (tgt := 28) hx hb d_MO_in_21 (by decide) (fun c3 => ?_) (fun c3 => ?_)
      · have c3 := (zn_eq (by omega)).mp c3
        exfalso; omega
      · have c3 := mt (zn_eq (by omega)).mpr c3
        refine lv_sipush (v := nI 255) hx hb d_MO_in_24 (by decide +kernel) ?_
        exact rw_reti hx hb hr hlocks d_MO_in_27 hS () (rfl) hP
  · have c1 := (zn_eq (by omega)).mp c1
    exfalso; omega
set_option maxHeartbeats 4000000 in
set_option maxRecDepth 100000 in
theorem c_MO_in0 (l : Launch) (D : va_G) (k : Nat → ClassId) (q : Nat → Nat) (cd : Int32) (wd : Nat → Nat) (se : Nat → Nat) (kd : Nat → Nat) (bn : Nat → Int32) (sh : Nat → Nat) (mb : Nat → Nat) (pr : Nat) (B : Nat → Nat) (R : Nat → Nat) (sx : Nat) (pt : Nat) (rd : Nat) (wt : Int32) (ln : Nat) (px : Nat → Nat) (hpt : pt < 512) : rw_i l y_MO_in b_MO_in 3 (some .int) { frames := 2, cells := 0, slots := 0, locals := 40 } D (kT k) (mW q k cd wd se kd bn sh mb pr B R sx pt rd wt ln px) [.ref (q 0), .int (nI 0)] (fun (r : Int32) (_ : Unit) => r = nI rd) (fun (_ : Unit) => (mW q k (nI 0) wd se kd bn sh mb pr B R sx ((pt + 1) % 512) (B pt) (-1) ln px)) := by
  refine rw_headi (by decide) (Nat.le_of_ble_eq_true rfl) ?_
  intro p e s m below meth c ls A hx hb hr hlocks hml hown hts hK hA hP hD hS hl
  have hown : s.vm.findClass "SlotScreenModel" = some m.cls := hown
  have hl : lv_has ls 3 [(0, .ref (q 0)), (1, .int (nI 0))] := hl
  refine lv_aload_n hx hb d_MO_in_0 rfl (lv_at hl 0 rfl) ?_
  refine lv_iconst (v := nI 0) hx hb d_MO_in_1 (by decide +kernel) ?_
  refine va_put (D := D) (ci := 7) (v := .int (nI 0)) (ty := .int) (C := R_MO) (T := T_MO) (N := 16) hx hb hts in_MO t_MO o_MO n_MO hown hK hP hD hS 0 rfl rfl 0 (by decide) (hts _ w_530) (fun _ h9 => h9) rfl (by decide +kernel) rfl rfl (Nat.le_of_ble_eq_true rfl) d_MO_in_2 (fun H locs hP hD hS => ?_)
  have hP : va_P D vwCl (mW q k (nI 0) wd se kd bn sh mb pr B R sx pt rd wt ln px) H := hP
  have hD : va_D A (mW q k (nI 0) wd se kd bn sh mb pr B R sx pt rd wt ln px) := hD
  refine lv_iload_n hx hb d_MO_in_5 rfl (lv_at hl 1 rfl) ?_
  refine lv_iconst (v := nI 2) hx hb d_MO_in_6 (by decide +kernel) ?_
  refine lv_icmp_ne (tgt := 15) hx hb d_MO_in_7 (by decide) (fun c1 => ?_) (fun c1 => ?_)
  · have c1 := mt (nI_eq (by omega) (by omega)).mpr c1
    refine lv_iload_n hx hb d_MO_in_15 rfl (lv_at hl 1 rfl) ?_
    refine lv_if_eq (tgt := 28) hx hb d_MO_in_16 (by decide) (fun c2 => ?_) (fun c2 => ?_)
    · have c2 := (n_eq0 (by omega)).mp c2
      refine lv_aload_n hx hb d_MO_in_28 rfl (lv_at hl 0 rfl) ?_
      refine lv_iconst (v := (-1)) hx hb d_MO_in_29 (by decide +kernel) ?_
      refine va_put (D := D) (ci := 7) (v := .int (-1)) (ty := .int) (C := R_MO) (T := T_MO) (N := 16) hx hb hts in_MO t_MO o_MO n_MO hown hK hP hD hS 0 rfl rfl 13 (by decide) (hts _ w_543) (fun _ h9 => h9) rfl (by decide +kernel) rfl rfl (Nat.le_of_ble_eq_true rfl) d_MO_in_30 (fun H locs hP hD hS => ?_)
      have hP : va_P D vwCl (mW q k (nI 0) wd se kd bn sh mb pr B R sx pt rd (-1) ln px) H := hP
      have hD : va_D A (mW q k (nI 0) wd se kd bn sh mb pr B R sx pt rd (-1) ln px) := hD
      refine lv_iload_n hx hb d_MO_in_33 rfl (lv_at hl 1 rfl) ?_
      refine lv_if_ne (tgt := 44) hx hb d_MO_in_34 (by decide) (fun c3 => ?_) (fun c3 => ?_)
      · have c3 := mt (n_eq0 (by omega)).mpr c3
        exfalso; omega
      · have c3 := (n_eq0 (by omega)).mp c3
        refine lv_aload_n hx hb d_MO_in_37 rfl (lv_at hl 0 rfl) ?_
        refine va_get (D := D) (ci := 7) (v := .int (nI rd)) (C := R_MO) (T := T_MO) (N := 16) hx hb hts in_MO hown hK hP 0 rfl rfl 12 (by decide) (hts _ w_542) (fun _ h9 => h9) rfl d_MO_in_38 ?_
        refine lv_goto (tgt := 48) hx hb d_MO_in_41 (by decide) ?_
        refine lv_istore_n (lv' := [(2, .int (nI rd)), (0, .ref (q 0)), (1, .int (nI 0))]) hx hb d_MO_in_48 rfl hl (by decide) rfl (fun ls hl => ?_)
        refine lv_iload_n hx hb d_MO_in_49 rfl (lv_at hl 2 rfl) ?_
        refine lv_if_ne (tgt := 60) hx hb d_MO_in_50 (by decide) (fun c4 => ?_) (fun c4 => ?_)
        · have c4 := mt (n_eq0 (by omega)).mpr c4
          exfalso; omega
        · have c4 := (n_eq0 (by omega)).mp c4
          refine lv_aload_n hx hb d_MO_in_53 rfl (lv_at hl 1 rfl) ?_
          refine kw_vV (As := []) (rest := []) ⟨hx, hb, hml, hown, hts⟩ (c_MO_fetch l D k q (nI 0) wd se kd bn sh mb pr B R sx pt rd (-1) ln px (by omega)) (cwV 0 hts (gV w_633 w_635 w_p17 w_5 w_636) rfl rfl rfl (by decide +kernel) ⟨Nat.le_of_ble_eq_true rfl, Nat.le_of_ble_eq_true rfl⟩) hK hP hD hS hA (va_recv hK hP (ci := 7) (q0 := 0) rfl rfl) rfl hl.1 rfl (Nat.le_of_ble_eq_true rfl) d_MO_in_54 ⟨Nat.zero_le _, Nat.zero_le _⟩ (fun _ H locs _ hP _ hS => ?_)
          have hD : va_D A (mW q k (nI 0) wd se kd bn sh mb pr B R sx ((pt + 1) % 512) (B pt) (-1) ln px) := rw_same hD rfl
          have hP : va_P D vwCl (mW q k (nI 0) wd se kd bn sh mb pr B R sx ((pt + 1) % 512) (B pt) (-1) ln px) H := hP
          refine lv_goto (tgt := 71) hx hb d_MO_in_57 (by decide) ?_
          refine lv_iload_n hx hb d_MO_in_71 rfl (lv_at hl 0 rfl) ?_
          exact rw_reti hx hb hr hlocks d_MO_in_72 hS () (rfl) hP
    · have c2 := mt (n_eq0 (by omega)).mpr c2
      exfalso; omega
  · have c1 := (nI_eq (by omega) (by omega)).mp c1
    exfalso; omega
set_option maxHeartbeats 4000000 in
set_option maxRecDepth 100000 in
theorem c_MO_in1 (l : Launch) (D : va_G) (k : Nat → ClassId) (q : Nat → Nat) (cd : Int32) (wd : Nat → Nat) (se : Nat → Nat) (kd : Nat → Nat) (bn : Nat → Int32) (sh : Nat → Nat) (mb : Nat → Nat) (pr : Nat) (B : Nat → Nat) (R : Nat → Nat) (sx : Nat) (pt : Nat) (rd : Nat) (wt : Int32) (ln : Nat) (px : Nat → Nat) (hsx : sx < 256) : rw_i l y_MO_in b_MO_in 3 (some .int) { frames := 2, cells := 0, slots := 0, locals := 40 } D (kT k) (mW q k cd wd se kd bn sh mb pr B R sx pt rd wt ln px) [.ref (q 0), .int (nI 1)] (fun (r : Int32) (_ : Unit) => r = nI sx) (fun (_ : Unit) => (mW q k (nI 0) wd se kd bn sh mb pr B R (sx % 32) pt rd (-1) ln px)) := by
  refine rw_headi (by decide) (Nat.le_of_ble_eq_true rfl) ?_
  intro p e s m below meth c ls A hx hb hr hlocks hml hown hts hK hA hP hD hS hl
  have hown : s.vm.findClass "SlotScreenModel" = some m.cls := hown
  have hl : lv_has ls 3 [(0, .ref (q 0)), (1, .int (nI 1))] := hl
  refine lv_aload_n hx hb d_MO_in_0 rfl (lv_at hl 0 rfl) ?_
  refine lv_iconst (v := nI 0) hx hb d_MO_in_1 (by decide +kernel) ?_
  refine va_put (D := D) (ci := 7) (v := .int (nI 0)) (ty := .int) (C := R_MO) (T := T_MO) (N := 16) hx hb hts in_MO t_MO o_MO n_MO hown hK hP hD hS 0 rfl rfl 0 (by decide) (hts _ w_530) (fun _ h9 => h9) rfl (by decide +kernel) rfl rfl (Nat.le_of_ble_eq_true rfl) d_MO_in_2 (fun H locs hP hD hS => ?_)
  have hP : va_P D vwCl (mW q k (nI 0) wd se kd bn sh mb pr B R sx pt rd wt ln px) H := hP
  have hD : va_D A (mW q k (nI 0) wd se kd bn sh mb pr B R sx pt rd wt ln px) := hD
  refine lv_iload_n hx hb d_MO_in_5 rfl (lv_at hl 1 rfl) ?_
  refine lv_iconst (v := nI 2) hx hb d_MO_in_6 (by decide +kernel) ?_
  refine lv_icmp_ne (tgt := 15) hx hb d_MO_in_7 (by decide) (fun c1 => ?_) (fun c1 => ?_)
  · have c1 := mt (nI_eq (by omega) (by omega)).mpr c1
    refine lv_iload_n hx hb d_MO_in_15 rfl (lv_at hl 1 rfl) ?_
    refine lv_if_eq (tgt := 28) hx hb d_MO_in_16 (by decide) (fun c2 => ?_) (fun c2 => ?_)
    · have c2 := (n_eq0 (by omega)).mp c2
      exfalso; omega
    · have c2 := mt (n_eq0 (by omega)).mpr c2
      refine lv_iload_n hx hb d_MO_in_19 rfl (lv_at hl 1 rfl) ?_
      refine lv_iconst (v := nI 1) hx hb d_MO_in_20 (by decide +kernel) ?_
      refine lv_icmp_eq (tgt := 28) hx hb d_MO_in_21 (by decide) (fun c3 => ?_) (fun c3 => ?_)
      · have c3 := (nI_eq (by omega) (by omega)).mp c3
        refine lv_aload_n hx hb d_MO_in_28 rfl (lv_at hl 0 rfl) ?_
        refine lv_iconst (v := (-1)) hx hb d_MO_in_29 (by decide +kernel) ?_
        refine va_put (D := D) (ci := 7) (v := .int (-1)) (ty := .int) (C := R_MO) (T := T_MO) (N := 16) hx hb hts in_MO t_MO o_MO n_MO hown hK hP hD hS 0 rfl rfl 13 (by decide) (hts _ w_543) (fun _ h9 => h9) rfl (by decide +kernel) rfl rfl (Nat.le_of_ble_eq_true rfl) d_MO_in_30 (fun H locs hP hD hS => ?_)
        have hP : va_P D vwCl (mW q k (nI 0) wd se kd bn sh mb pr B R sx pt rd (-1) ln px) H := hP
        have hD : va_D A (mW q k (nI 0) wd se kd bn sh mb pr B R sx pt rd (-1) ln px) := hD
        refine lv_iload_n hx hb d_MO_in_33 rfl (lv_at hl 1 rfl) ?_
        refine lv_if_ne (tgt := 44) hx hb d_MO_in_34 (by decide) (fun c4 => ?_) (fun c4 => ?_)
        · have c4 := mt (n_eq0 (by omega)).mpr c4
          refine lv_aload_n hx hb d_MO_in_44 rfl (lv_at hl 0 rfl) ?_
          refine va_get (D := D) (ci := 7) (v := .int (nI sx)) (C := R_MO) (T := T_MO) (N := 16) hx hb hts in_MO hown hK hP 0 rfl rfl 10 (by decide) (hts _ w_540) (fun _ h9 => h9) rfl d_MO_in_45 ?_
          refine lv_istore_n (lv' := [(2, .int (nI sx)), (0, .ref (q 0)), (1, .int (nI 1))]) hx hb d_MO_in_48 rfl hl (by decide) rfl (fun ls hl => ?_)
          refine lv_iload_n hx hb d_MO_in_49 rfl (lv_at hl 2 rfl) ?_
          refine lv_if_ne (tgt := 60) hx hb d_MO_in_50 (by decide) (fun c5 => ?_) (fun c5 => ?_)
          · have c5 := mt (n_eq0 (by omega)).mpr c5
            refine lv_aload_n hx hb d_MO_in_60 rfl (lv_at hl 1 rfl) ?_
            refine lv_aload_n hx hb d_MO_in_61 rfl (lv_at hl 1 rfl) ?_
            refine va_get (D := D) (ci := 7) (v := .int (nI sx)) (C := R_MO) (T := T_MO) (N := 16) hx hb hts in_MO hown hK hP 0 rfl rfl 10 (by decide) (hts _ w_540) (fun _ h9 => h9) rfl d_MO_in_62 ?_
            refine lv_bipush (v := nI 32) hx hb d_MO_in_65 (by decide +kernel) ?_
            refine lv_irem hx hb d_MO_in_67 (by first | decide +kernel | exact nI_ne0 (by omega) (by omega)) ?_
            refine ss_rt (y := nI (sx % 32)) (pk_rem (by omega) (by omega) (by omega)) ?_
            refine va_put (D := D) (ci := 7) (v := .int (nI (sx % 32))) (ty := .int) (C := R_MO) (T := T_MO) (N := 16) hx hb hts in_MO t_MO o_MO n_MO hown hK hP hD hS 0 rfl rfl 10 (by decide) (hts _ w_540) (fun _ h9 => h9) rfl (by decide +kernel) rfl rfl (Nat.le_of_ble_eq_true rfl) d_MO_in_68 (fun H locs hP hD hS => ?_)
            have hP : va_P D vwCl (mW q k (nI 0) wd se kd bn sh mb pr B R (sx % 32) pt rd (-1) ln px) H := hP
            have hD : va_D A (mW q k (nI 0) wd se kd bn sh mb pr B R (sx % 32) pt rd (-1) ln px) := hD
            refine lv_iload_n hx hb d_MO_in_71 rfl (lv_at hl 0 rfl) ?_
            exact rw_reti hx hb hr hlocks d_MO_in_72 hS () (rfl) hP
          · have c5 := (n_eq0 (by omega)).mp c5
            exfalso; omega
        · have c4 := (n_eq0 (by omega)).mp c4
          exfalso; omega
      · have c3 := mt (nI_eq (by omega) (by omega)).mpr c3
        exfalso; omega
  · have c1 := (nI_eq (by omega) (by omega)).mp c1
    exfalso; omega
set_option maxHeartbeats 4000000 in
set_option maxRecDepth 100000 in
theorem c_MO_controlN (l : Launch) (D : va_G) (k : Nat → ClassId) (q : Nat → Nat) (cd : Int32) (wd : Nat → Nat) (se : Nat → Nat) (kd : Nat → Nat) (bn : Nat → Int32) (sh : Nat → Nat) (mb : Nat → Nat) (pr : Nat) (B : Nat → Nat) (R : Nat → Nat) (sx : Nat) (pt : Nat) (rd : Nat) (ln : Nat) (px : Nat → Nat) (v : Nat) (hv : v < 256) : rw_v l y_MO_control b_MO_control 2 none { frames := 2, cells := 0, slots := 0, locals := 40 } D (kT k) (mW q k cd wd se kd bn sh mb pr B R sx pt rd (-1) ln px) [.ref (q 0), .int (nI v)] (fun (_ : Unit) => True) (fun (_ : Unit) => (mW q k cd wd se kd bn sh mb pr B R sx pt rd (nI v) ln px)) := by
  refine rw_headv (by decide) (Nat.le_of_ble_eq_true rfl) ?_
  intro p e s m below meth c ls A hx hb hr hlocks hml hown hts hK hA hP hD hS hl
  have hown : s.vm.findClass "SlotScreenModel" = some m.cls := hown
  have hl : lv_has ls 2 [(0, .ref (q 0)), (1, .int (nI v))] := hl
  refine lv_aload_n hx hb d_MO_control_0 rfl (lv_at hl 0 rfl) ?_
  refine va_get (D := D) (ci := 7) (v := .int (-1)) (C := R_MO) (T := T_MO) (N := 16) hx hb hts in_MO hown hK hP 0 rfl rfl 13 (by decide) (hts _ w_543) (fun _ h9 => h9) rfl d_MO_control_1 ?_
  refine lv_if_ge (tgt := 13) hx hb d_MO_control_4 (by decide) (fun c1 => ?_) (fun c1 => ?_)
  · have c1 := (z_ge0).mp c1
    exact absurd c1 (by decide +kernel)
  · have c1 := mt (z_ge0).mpr c1
    refine lv_aload_n hx hb d_MO_control_7 rfl (lv_at hl 0 rfl) ?_
    refine lv_iload_n hx hb d_MO_control_8 rfl (lv_at hl 1 rfl) ?_
    refine va_put (D := D) (ci := 7) (v := .int (nI v)) (ty := .int) (C := R_MO) (T := T_MO) (N := 16) hx hb hts in_MO t_MO o_MO n_MO hown hK hP hD hS 0 rfl rfl 13 (by decide) (hts _ w_543) (fun _ h9 => h9) rfl (by decide +kernel) rfl rfl (Nat.le_of_ble_eq_true rfl) d_MO_control_9 (fun H locs hP hD hS => ?_)
    have hP : va_P D vwCl (mW q k cd wd se kd bn sh mb pr B R sx pt rd (nI v) ln px) H := hP
    have hD : va_D A (mW q k cd wd se kd bn sh mb pr B R sx pt rd (nI v) ln px) := hD
    exact rw_retv hx hb hr hlocks d_MO_control_12 hS () (trivial) hP
set_option maxHeartbeats 4000000 in
set_option maxRecDepth 100000 in
theorem c_MO_controlR (l : Launch) (D : va_G) (k : Nat → ClassId) (q : Nat → Nat) (cd : Int32) (wd : Nat → Nat) (se : Nat → Nat) (kd : Nat → Nat) (bn : Nat → Int32) (sh : Nat → Nat) (mb : Nat → Nat) (pr : Nat) (B : Nat → Nat) (R : Nat → Nat) (sx : Nat) (pt : Nat) (rd : Nat) (ln : Nat) (px : Nat → Nat) (a v : Nat) (ha : a < 256) (hv : v < 256) (h1 : 127 < v) : rw_v l y_MO_control b_MO_control 2 none { frames := 2, cells := 0, slots := 0, locals := 40 } D (kT k) (mW q k cd wd se kd bn sh mb pr B R sx pt rd (nI a) ln px) [.ref (q 0), .int (nI v)] (fun (_ : Unit) => True) (fun (_ : Unit) => (mW q k cd wd se kd bn sh mb pr B (ss_up R (v % 8) a) sx pt rd (-1) ln px)) := by
  refine rw_headv (by decide) (Nat.le_of_ble_eq_true rfl) ?_
  intro p e s m below meth c ls A hx hb hr hlocks hml hown hts hK hA hP hD hS hl
  have hown : s.vm.findClass "SlotScreenModel" = some m.cls := hown
  have hl : lv_has ls 2 [(0, .ref (q 0)), (1, .int (nI v))] := hl
  refine lv_aload_n hx hb d_MO_control_0 rfl (lv_at hl 0 rfl) ?_
  refine va_get (D := D) (ci := 7) (v := .int (nI a)) (C := R_MO) (T := T_MO) (N := 16) hx hb hts in_MO hown hK hP 0 rfl rfl 13 (by decide) (hts _ w_543) (fun _ h9 => h9) rfl d_MO_control_1 ?_
  refine lv_if_ge (tgt := 13) hx hb d_MO_control_4 (by decide) (fun c1 => ?_) (fun c1 => ?_)
  · have c1 := (n_ge0 (by omega)).mp c1
    refine lv_iload_n hx hb d_MO_control_13 rfl (lv_at hl 1 rfl) ?_
    refine lv_bipush (v := nI 127) hx hb d_MO_control_14 (by decide +kernel) ?_
    refine lv_icmp_le (tgt := 35) hx hb d_MO_control_16 (by decide) (fun c2 => ?_) (fun c2 => ?_)
    · have c2 := (nI_leI (by omega) (by omega)).mp c2
      exfalso; omega
    · have c2 := mt (nI_leI (by omega) (by omega)).mpr c2
      refine lv_aload_n hx hb d_MO_control_19 rfl (lv_at hl 0 rfl) ?_
      refine va_get (D := D) (ci := 7) (v := .ref (q 8)) (C := R_MO) (T := T_MO) (N := 16) hx hb hts in_MO hown hK hP 0 rfl rfl 9 (by decide) (hts _ w_539) (fun _ h9 => h9) rfl d_MO_control_20 ?_
      refine lv_iload_n hx hb d_MO_control_23 rfl (lv_at hl 1 rfl) ?_
      refine lv_bipush (v := nI 8) hx hb d_MO_control_24 (by decide +kernel) ?_
      refine lv_irem hx hb d_MO_control_26 (by first | decide +kernel | exact nI_ne0 (by omega) (by omega)) ?_
      refine ss_rt (y := nI (v % 8)) (pk_rem (by omega) (by omega) (by omega)) ?_
      refine lv_aload_n hx hb d_MO_control_27 rfl (lv_at hl 0 rfl) ?_
      refine va_get (D := D) (ci := 7) (v := .int (nI a)) (C := R_MO) (T := T_MO) (N := 16) hx hb hts in_MO hown hK hP 0 rfl rfl 13 (by decide) (hts _ w_543) (fun _ h9 => h9) rfl d_MO_control_28 ?_
      refine va_iast hx hb hK hP hD hS 8 0 rfl rfl (vp_in_nI (by omega) (by omega)) d_MO_control_31 (fun H locs hP hD hS => ?_)
      rw [ss_upI R (k := (v % 8)) (v := a) (by omega)] at hP hD
      have hP : va_P D vwCl (mW q k cd wd se kd bn sh mb pr B (ss_up R (v % 8) a) sx pt rd (nI a) ln px) H := hP
      have hD : va_D A (mW q k cd wd se kd bn sh mb pr B (ss_up R (v % 8) a) sx pt rd (nI a) ln px) := hD
      refine lv_goto (tgt := 61) hx hb d_MO_control_32 (by decide) ?_
      refine lv_aload_n hx hb d_MO_control_61 rfl (lv_at hl 0 rfl) ?_
      refine lv_iconst (v := (-1)) hx hb d_MO_control_62 (by decide +kernel) ?_
      refine va_put (D := D) (ci := 7) (v := .int (-1)) (ty := .int) (C := R_MO) (T := T_MO) (N := 16) hx hb hts in_MO t_MO o_MO n_MO hown hK hP hD hS 0 rfl rfl 13 (by decide) (hts _ w_543) (fun _ h9 => h9) rfl (by decide +kernel) rfl rfl (Nat.le_of_ble_eq_true rfl) d_MO_control_63 (fun H locs hP hD hS => ?_)
      have hP : va_P D vwCl (mW q k cd wd se kd bn sh mb pr B (ss_up R (v % 8) a) sx pt rd (-1) ln px) H := hP
      have hD : va_D A (mW q k cd wd se kd bn sh mb pr B (ss_up R (v % 8) a) sx pt rd (-1) ln px) := hD
      exact rw_retv hx hb hr hlocks d_MO_control_66 hS () (trivial) hP
  · have c1 := mt (n_ge0 (by omega)).mpr c1
    exfalso; omega
set_option maxHeartbeats 4000000 in
set_option maxRecDepth 100000 in
theorem c_MO_controlP (l : Launch) (D : va_G) (k : Nat → ClassId) (q : Nat → Nat) (cd : Int32) (wd : Nat → Nat) (se : Nat → Nat) (kd : Nat → Nat) (bn : Nat → Int32) (sh : Nat → Nat) (mb : Nat → Nat) (pr : Nat) (B : Nat → Nat) (R : Nat → Nat) (sx : Nat) (pt : Nat) (rd : Nat) (ln : Nat) (px : Nat → Nat) (a v : Nat) (ha : a < 256) (hv : v < 256) (h1 : v ≤ 127) (h2 : 64 ≤ v) : rw_v l y_MO_control b_MO_control 2 none { frames := 2, cells := 0, slots := 0, locals := 40 } D (kT k) (mW q k cd wd se kd bn sh mb pr B R sx pt rd (nI a) ln px) [.ref (q 0), .int (nI v)] (fun (_ : Unit) => True) (fun (_ : Unit) => (mW q k cd wd se kd bn sh mb pr B R sx (a + 256 * (v % 2)) rd (-1) ln px)) := by
  refine rw_headv (by decide) (Nat.le_of_ble_eq_true rfl) ?_
  intro p e s m below meth c ls A hx hb hr hlocks hml hown hts hK hA hP hD hS hl
  have hown : s.vm.findClass "SlotScreenModel" = some m.cls := hown
  have hl : lv_has ls 2 [(0, .ref (q 0)), (1, .int (nI v))] := hl
  refine lv_aload_n hx hb d_MO_control_0 rfl (lv_at hl 0 rfl) ?_
  refine va_get (D := D) (ci := 7) (v := .int (nI a)) (C := R_MO) (T := T_MO) (N := 16) hx hb hts in_MO hown hK hP 0 rfl rfl 13 (by decide) (hts _ w_543) (fun _ h9 => h9) rfl d_MO_control_1 ?_
  refine lv_if_ge (tgt := 13) hx hb d_MO_control_4 (by decide) (fun c1 => ?_) (fun c1 => ?_)
  · have c1 := (n_ge0 (by omega)).mp c1
    refine lv_iload_n hx hb d_MO_control_13 rfl (lv_at hl 1 rfl) ?_
    refine lv_bipush (v := nI 127) hx hb d_MO_control_14 (by decide +kernel) ?_
    refine lv_icmp_le (tgt := 35) hx hb d_MO_control_16 (by decide) (fun c2 => ?_) (fun c2 => ?_)
    · have c2 := (nI_leI (by omega) (by omega)).mp c2
      refine lv_aload_n hx hb d_MO_control_35 rfl (lv_at hl 0 rfl) ?_
      refine lv_aload_n hx hb d_MO_control_36 rfl (lv_at hl 0 rfl) ?_
      refine va_get (D := D) (ci := 7) (v := .int (nI a)) (C := R_MO) (T := T_MO) (N := 16) hx hb hts in_MO hown hK hP 0 rfl rfl 13 (by decide) (hts _ w_543) (fun _ h9 => h9) rfl d_MO_control_37 ?_
      refine lv_sipush (v := nI 256) hx hb d_MO_control_40 (by decide +kernel) ?_
      refine lv_iload_n hx hb d_MO_control_43 rfl (lv_at hl 1 rfl) ?_
      refine lv_iconst (v := nI 2) hx hb d_MO_control_44 (by decide +kernel) ?_
      refine lv_irem hx hb d_MO_control_45 (by first | decide +kernel | exact nI_ne0 (by omega) (by omega)) ?_
      refine ss_rt (y := nI (v % 2)) (pk_rem (by omega) (by omega) (by omega)) ?_
      refine lv_imul hx hb d_MO_control_46 ?_
      refine ss_rt (y := nI (256 * (v % 2))) (pk_mul _ _) ?_
      refine lv_iadd hx hb d_MO_control_47 ?_
      refine ss_rt (y := nI (a + (256 * (v % 2)))) (nI_add _ _) ?_
      refine va_put (D := D) (ci := 7) (v := .int (nI (a + (256 * (v % 2))))) (ty := .int) (C := R_MO) (T := T_MO) (N := 16) hx hb hts in_MO t_MO o_MO n_MO hown hK hP hD hS 0 rfl rfl 11 (by decide) (hts _ w_541) (fun _ h9 => h9) rfl (by decide +kernel) rfl rfl (Nat.le_of_ble_eq_true rfl) d_MO_control_48 (fun H locs hP hD hS => ?_)
      have hP : va_P D vwCl (mW q k cd wd se kd bn sh mb pr B R sx (a + (256 * (v % 2))) rd (nI a) ln px) H := hP
      have hD : va_D A (mW q k cd wd se kd bn sh mb pr B R sx (a + (256 * (v % 2))) rd (nI a) ln px) := hD
      refine lv_iload_n hx hb d_MO_control_51 rfl (lv_at hl 1 rfl) ?_
      refine lv_bipush (v := nI 64) hx hb d_MO_control_52 (by decide +kernel) ?_
      refine lv_icmp_ge (tgt := 61) hx hb d_MO_control_54 (by decide) (fun c3 => ?_) (fun c3 => ?_)
      · have c3 := (nI_leI (by omega) (by omega)).mp c3
        refine lv_aload_n hx hb d_MO_control_61 rfl (lv_at hl 0 rfl) ?_
        refine lv_iconst (v := (-1)) hx hb d_MO_control_62 (by decide +kernel) ?_
        refine va_put (D := D) (ci := 7) (v := .int (-1)) (ty := .int) (C := R_MO) (T := T_MO) (N := 16) hx hb hts in_MO t_MO o_MO n_MO hown hK hP hD hS 0 rfl rfl 13 (by decide) (hts _ w_543) (fun _ h9 => h9) rfl (by decide +kernel) rfl rfl (Nat.le_of_ble_eq_true rfl) d_MO_control_63 (fun H locs hP hD hS => ?_)
        have hP : va_P D vwCl (mW q k cd wd se kd bn sh mb pr B R sx (a + (256 * (v % 2))) rd (-1) ln px) H := hP
        have hD : va_D A (mW q k cd wd se kd bn sh mb pr B R sx (a + (256 * (v % 2))) rd (-1) ln px) := hD
        exact rw_retv hx hb hr hlocks d_MO_control_66 hS () (trivial) (by rw [show (a + 256 * (v % 2)) = (a + (256 * (v % 2))) from by first | rfl | omega]; exact hP)
      · have c3 := mt (nI_leI (by omega) (by omega)).mpr c3
        exfalso; omega
    · have c2 := mt (nI_leI (by omega) (by omega)).mpr c2
      exfalso; omega
  · have c1 := mt (n_ge0 (by omega)).mpr c1
    exfalso; omega
set_option maxHeartbeats 4000000 in
set_option maxRecDepth 100000 in
theorem c_MO_controlF (l : Launch) (D : va_G) (k : Nat → ClassId) (q : Nat → Nat) (cd : Int32) (wd : Nat → Nat) (se : Nat → Nat) (kd : Nat → Nat) (bn : Nat → Int32) (sh : Nat → Nat) (mb : Nat → Nat) (pr : Nat) (B : Nat → Nat) (R : Nat → Nat) (sx : Nat) (pt : Nat) (rd : Nat) (ln : Nat) (px : Nat → Nat) (a v : Nat) (ha : a < 256) (hv : v < 256) (h2 : v < 64) : rw_v l y_MO_control b_MO_control 2 none { frames := 2, cells := 0, slots := 0, locals := 40 } D (kT k) (mW q k cd wd se kd bn sh mb pr B R sx pt rd (nI a) ln px) [.ref (q 0), .int (nI v)] (fun (_ : Unit) => True) (fun (_ : Unit) => (mW q k cd wd se kd bn sh mb pr B R sx ((a + 256 * (v % 2) + 1) % 512) (B (a + 256 * (v % 2))) (-1) ln px)) := by
  refine rw_headv (by decide) (Nat.le_of_ble_eq_true rfl) ?_
  intro p e s m below meth c ls A hx hb hr hlocks hml hown hts hK hA hP hD hS hl
  have hown : s.vm.findClass "SlotScreenModel" = some m.cls := hown
  have hl : lv_has ls 2 [(0, .ref (q 0)), (1, .int (nI v))] := hl
  refine lv_aload_n hx hb d_MO_control_0 rfl (lv_at hl 0 rfl) ?_
  refine va_get (D := D) (ci := 7) (v := .int (nI a)) (C := R_MO) (T := T_MO) (N := 16) hx hb hts in_MO hown hK hP 0 rfl rfl 13 (by decide) (hts _ w_543) (fun _ h9 => h9) rfl d_MO_control_1 ?_
  refine lv_if_ge (tgt := 13) hx hb d_MO_control_4 (by decide) (fun c1 => ?_) (fun c1 => ?_)
  · have c1 := (n_ge0 (by omega)).mp c1
    refine lv_iload_n hx hb d_MO_control_13 rfl (lv_at hl 1 rfl) ?_
    refine lv_bipush (v := nI 127) hx hb d_MO_control_14 (by decide +kernel) ?_
    refine lv_icmp_le (tgt := 35) hx hb d_MO_control_16 (by decide) (fun c2 => ?_) (fun c2 => ?_)
    · have c2 := (nI_leI (by omega) (by omega)).mp c2
      refine lv_aload_n hx hb d_MO_control_35 rfl (lv_at hl 0 rfl) ?_
      refine lv_aload_n hx hb d_MO_control_36 rfl (lv_at hl 0 rfl) ?_
      refine va_get (D := D) (ci := 7) (v := .int (nI a)) (C := R_MO) (T := T_MO) (N := 16) hx hb hts in_MO hown hK hP 0 rfl rfl 13 (by decide) (hts _ w_543) (fun _ h9 => h9) rfl d_MO_control_37 ?_
      refine lv_sipush (v := nI 256) hx hb d_MO_control_40 (by decide +kernel) ?_
      refine lv_iload_n hx hb d_MO_control_43 rfl (lv_at hl 1 rfl) ?_
      refine lv_iconst (v := nI 2) hx hb d_MO_control_44 (by decide +kernel) ?_
      refine lv_irem hx hb d_MO_control_45 (by first | decide +kernel | exact nI_ne0 (by omega) (by omega)) ?_
      refine ss_rt (y := nI (v % 2)) (pk_rem (by omega) (by omega) (by omega)) ?_
      refine lv_imul hx hb d_MO_control_46 ?_
      refine ss_rt (y := nI (256 * (v % 2))) (pk_mul _ _) ?_
      refine lv_iadd hx hb d_MO_control_47 ?_
      refine ss_rt (y := nI (a + (256 * (v % 2)))) (nI_add _ _) ?_
      refine va_put (D := D) (ci := 7) (v := .int (nI (a + (256 * (v % 2))))) (ty := .int) (C := R_MO) (T := T_MO) (N := 16) hx hb hts in_MO t_MO o_MO n_MO hown hK hP hD hS 0 rfl rfl 11 (by decide) (hts _ w_541) (fun _ h9 => h9) rfl (by decide +kernel) rfl rfl (Nat.le_of_ble_eq_true rfl) d_MO_control_48 (fun H locs hP hD hS => ?_)
      have hP : va_P D vwCl (mW q k cd wd se kd bn sh mb pr B R sx (a + (256 * (v % 2))) rd (nI a) ln px) H := hP
      have hD : va_D A (mW q k cd wd se kd bn sh mb pr B R sx (a + (256 * (v % 2))) rd (nI a) ln px) := hD
      refine lv_iload_n hx hb d_MO_control_51 rfl (lv_at hl 1 rfl) ?_
      refine lv_bipush (v := nI 64) hx hb d_MO_control_52 (by decide +kernel) ?_
      refine lv_icmp_ge (tgt := 61) hx hb d_MO_control_54 (by decide) (fun c3 => ?_) (fun c3 => ?_)
      · have c3 := (nI_leI (by omega) (by omega)).mp c3
        exfalso; omega
      · have c3 := mt (nI_leI (by omega) (by omega)).mpr c3
        refine lv_aload_n hx hb d_MO_control_57 rfl (lv_at hl 0 rfl) ?_
        refine kw_vV (As := []) (rest := []) ⟨hx, hb, hml, hown, hts⟩ (c_MO_fetch l D k q cd wd se kd bn sh mb pr B R sx (a + (256 * (v % 2))) rd (nI a) ln px (by omega)) (cwV 0 hts (gV w_633 w_635 w_p17 w_5 w_636) rfl rfl rfl (by decide +kernel) ⟨Nat.le_of_ble_eq_true rfl, Nat.le_of_ble_eq_true rfl⟩) hK hP hD hS hA (va_recv hK hP (ci := 7) (q0 := 0) rfl rfl) rfl hl.1 rfl (Nat.le_of_ble_eq_true rfl) d_MO_control_58 ⟨Nat.zero_le _, Nat.zero_le _⟩ (fun _ H locs _ hP _ hS => ?_)
        have hD : va_D A (mW q k cd wd se kd bn sh mb pr B R sx (((a + (256 * (v % 2))) + 1) % 512) (B (a + (256 * (v % 2)))) (nI a) ln px) := rw_same hD rfl
        have hP : va_P D vwCl (mW q k cd wd se kd bn sh mb pr B R sx (((a + (256 * (v % 2))) + 1) % 512) (B (a + (256 * (v % 2)))) (nI a) ln px) H := hP
        refine lv_aload_n hx hb d_MO_control_61 rfl (lv_at hl 0 rfl) ?_
        refine lv_iconst (v := (-1)) hx hb d_MO_control_62 (by decide +kernel) ?_
        refine va_put (D := D) (ci := 7) (v := .int (-1)) (ty := .int) (C := R_MO) (T := T_MO) (N := 16) hx hb hts in_MO t_MO o_MO n_MO hown hK hP hD hS 0 rfl rfl 13 (by decide) (hts _ w_543) (fun _ h9 => h9) rfl (by decide +kernel) rfl rfl (Nat.le_of_ble_eq_true rfl) d_MO_control_63 (fun H locs hP hD hS => ?_)
        have hP : va_P D vwCl (mW q k cd wd se kd bn sh mb pr B R sx (((a + (256 * (v % 2))) + 1) % 512) (B (a + (256 * (v % 2)))) (-1) ln px) H := hP
        have hD : va_D A (mW q k cd wd se kd bn sh mb pr B R sx (((a + (256 * (v % 2))) + 1) % 512) (B (a + (256 * (v % 2)))) (-1) ln px) := hD
        exact rw_retv hx hb hr hlocks d_MO_control_66 hS () (trivial) (by rw [show ((a + 256 * (v % 2) + 1) % 512) = (((a + (256 * (v % 2))) + 1) % 512) from by first | rfl | omega, show (B (a + 256 * (v % 2))) = (B (a + (256 * (v % 2)))) from by first | rfl | omega]; exact hP)
    · have c2 := mt (nI_leI (by omega) (by omega)).mpr c2
      exfalso; omega
  · have c1 := mt (n_ge0 (by omega)).mpr c1
    exfalso; omega
end
section
set_option maxHeartbeats 4000000 in
set_option maxRecDepth 100000 in
theorem c_MO_outb (l : Launch) (D : va_G) (k : Nat → ClassId) (q : Nat → Nat) (cd : Int32) (wd : Nat → Nat) (se : Nat → Nat) (kd : Nat → Nat) (bn : Nat → Int32) (sh : Nat → Nat) (mb : Nat → Nat) (pr : Nat) (B : Nat → Nat) (R : Nat → Nat) (sx : Nat) (pt : Nat) (rd : Nat) (wt : Int32) (ln : Nat) (px : Nat → Nat) (x v : Int32) (hv : v.toInt < 0 ∨ 255 < v.toInt) : rw_i l y_MO_out b_MO_out 3 (some .boolean) { frames := 3, cells := 0, slots := 0, locals := 61 } D (kT k) (mW q k cd wd se kd bn sh mb pr B R sx pt rd wt ln px) [.ref (q 0), .int x, .int v] (fun (r : Int32) (_ : Unit) => r = nI 0) (fun (_ : Unit) => (mW q k (nI 0) wd se kd bn sh mb pr B R sx pt rd wt ln px)) := by
  refine rw_headi (by decide) (Nat.le_of_ble_eq_true rfl) ?_
  intro p e s m below meth c ls A hx hb hr hlocks hml hown hts hK hA hP hD hS hl
  have hown : s.vm.findClass "SlotScreenModel" = some m.cls := hown
  have hl : lv_has ls 3 [(0, .ref (q 0)), (1, .int x), (2, .int v)] := hl
  refine lv_aload_n hx hb d_MO_out_0 rfl (lv_at hl 0 rfl) ?_
  refine lv_iconst (v := nI 0) hx hb d_MO_out_1 (by decide +kernel) ?_
  refine va_put (D := D) (ci := 7) (v := .int (nI 0)) (ty := .int) (C := R_MO) (T := T_MO) (N := 16) hx hb hts in_MO t_MO o_MO n_MO hown hK hP hD hS 0 rfl rfl 0 (by decide) (hts _ w_530) (fun _ h9 => h9) rfl (by decide +kernel) rfl rfl (Nat.le_of_ble_eq_true rfl) d_MO_out_2 (fun H locs hP hD hS => ?_)
  have hP : va_P D vwCl (mW q k (nI 0) wd se kd bn sh mb pr B R sx pt rd wt ln px) H := hP
  have hD : va_D A (mW q k (nI 0) wd se kd bn sh mb pr B R sx pt rd wt ln px) := hD
  refine lv_iload_n hx hb d_MO_out_5 rfl (lv_at hl 2 rfl) ?_
  refine lv_iconst (v := nI 0) hx hb d_MO_out_6 (by decide +kernel) ?_
  refine lv_sipush (v := nI 255) hx hb d_MO_out_7 (by decide +kernel) ?_
  refine kr_iS (As := [.int v, .int (nI 0), .int (nI 255)]) (rest := []) ⟨hx, hb, hml, hown, hts⟩ (c_MO_withinZ l D k v 0 255 (by omega) (by omega)) (va_cwS 3 hts (gS w_587 w_588 w_5 w_589) rfl rfl rfl (by decide +kernel) ⟨Nat.le_of_ble_eq_true rfl, Nat.le_of_ble_eq_true rfl⟩) hK va_nil rfl hl.1 rfl (Nat.le_of_ble_eq_true rfl) d_MO_out_10 ⟨Nat.zero_le _, Nat.zero_le _⟩ ?_
  refine lv_if_ne (tgt := 18) hx hb d_MO_out_13 (by decide) (fun c1 => ?_) (fun c1 => ?_)
  · have c1 := mt (bI_0).mpr c1
    have c1 := Classical.not_not.mp c1
    exfalso; omega
  · have c1 := (bI_0).mp c1
    refine lv_iconst (v := nI 0) hx hb d_MO_out_16 (by decide +kernel) ?_
    exact rw_retz hx hb hr hlocks d_MO_out_17 (by decide +kernel) hS () (rfl) hP
set_option maxHeartbeats 4000000 in
set_option maxRecDepth 100000 in
theorem c_MO_outo (l : Launch) (D : va_G) (k : Nat → ClassId) (q : Nat → Nat) (cd : Int32) (wd : Nat → Nat) (se : Nat → Nat) (kd : Nat → Nat) (bn : Nat → Int32) (sh : Nat → Nat) (mb : Nat → Nat) (pr : Nat) (B : Nat → Nat) (R : Nat → Nat) (sx : Nat) (pt : Nat) (rd : Nat) (wt : Int32) (ln : Nat) (px : Nat → Nat) (x : Int32) (v : Nat) (hv : v < 256) (hx9 : x.toInt ≠ 0 ∧ x.toInt ≠ 1 ∧ x.toInt ≠ 2) : rw_i l y_MO_out b_MO_out 3 (some .boolean) { frames := 3, cells := 0, slots := 0, locals := 61 } D (kT k) (mW q k cd wd se kd bn sh mb pr B R sx pt rd wt ln px) [.ref (q 0), .int x, .int (nI v)] (fun (r : Int32) (_ : Unit) => r = nI 1) (fun (_ : Unit) => (mW q k (nI 0) wd se kd bn sh mb pr B R sx pt rd wt ln px)) := by
  refine rw_headi (by decide) (Nat.le_of_ble_eq_true rfl) ?_
  intro p e s m below meth c ls A hx hb hr hlocks hml hown hts hK hA hP hD hS hl
  have hown : s.vm.findClass "SlotScreenModel" = some m.cls := hown
  have hl : lv_has ls 3 [(0, .ref (q 0)), (1, .int x), (2, .int (nI v))] := hl
  refine lv_aload_n hx hb d_MO_out_0 rfl (lv_at hl 0 rfl) ?_
  refine lv_iconst (v := nI 0) hx hb d_MO_out_1 (by decide +kernel) ?_
  refine va_put (D := D) (ci := 7) (v := .int (nI 0)) (ty := .int) (C := R_MO) (T := T_MO) (N := 16) hx hb hts in_MO t_MO o_MO n_MO hown hK hP hD hS 0 rfl rfl 0 (by decide) (hts _ w_530) (fun _ h9 => h9) rfl (by decide +kernel) rfl rfl (Nat.le_of_ble_eq_true rfl) d_MO_out_2 (fun H locs hP hD hS => ?_)
  have hP : va_P D vwCl (mW q k (nI 0) wd se kd bn sh mb pr B R sx pt rd wt ln px) H := hP
  have hD : va_D A (mW q k (nI 0) wd se kd bn sh mb pr B R sx pt rd wt ln px) := hD
  refine lv_iload_n hx hb d_MO_out_5 rfl (lv_at hl 2 rfl) ?_
  refine lv_iconst (v := nI 0) hx hb d_MO_out_6 (by decide +kernel) ?_
  refine lv_sipush (v := nI 255) hx hb d_MO_out_7 (by decide +kernel) ?_
  refine kr_iS (As := [.int (nI v), .int (nI 0), .int (nI 255)]) (rest := []) ⟨hx, hb, hml, hown, hts⟩ (c_MO_within l D k v 0 255 (by omega) (by omega) (by omega)) (va_cwS 3 hts (gS w_587 w_588 w_5 w_589) rfl rfl rfl (by decide +kernel) ⟨Nat.le_of_ble_eq_true rfl, Nat.le_of_ble_eq_true rfl⟩) hK va_nil rfl hl.1 rfl (Nat.le_of_ble_eq_true rfl) d_MO_out_10 ⟨Nat.zero_le _, Nat.zero_le _⟩ ?_
  refine lv_if_ne (tgt := 18) hx hb d_MO_out_13 (by decide) (fun c1 => ?_) (fun c1 => ?_)
  · have c1 := mt (bI_0).mpr c1
    have c1 := Classical.not_not.mp c1
    refine lv_iload_n hx hb d_MO_out_18 rfl (lv_at hl 1 rfl) ?_
    refine lv_if_ne (tgt := 49) hx hb d_MO_out_19 (by decide) (fun c2 => ?_) (fun c2 => ?_)
    · have c2 := mt (z_eq0).mpr c2
      refine lv_iload_n hx hb d_MO_out_49 rfl (lv_at hl 1 rfl) ?_
      refine lv_iconst (v := nI 1) hx hb d_MO_out_50 (by decide +kernel) ?_
      refine lv_icmp_ne (tgt := 62) hx hb d_MO_out_51 (by decide) (fun c3 => ?_) (fun c3 => ?_)
      · have c3 := mt (zn_eq (by omega)).mpr c3
        refine lv_iload_n hx hb d_MO_out_62 rfl (lv_at hl 1 rfl) ?_
        refine lv_iconst (v := nI 2) hx hb d_MO_out_63 (by decide +kernel) ?_
        refine lv_icmp_ne (tgt := 72) hx hb d_MO_out_64 (by decide) (fun c4 => ?_) (fun c4 => ?_)
        · have c4 := mt (zn_eq (by omega)).mpr c4
          refine lv_iconst (v := nI 1) hx hb d_MO_out_72 (by decide +kernel) ?_
          exact rw_retz hx hb hr hlocks d_MO_out_73 (by decide +kernel) hS () (rfl) hP
        · have c4 := (zn_eq (by omega)).mp c4
          exfalso; omega
      · have c3 := (zn_eq (by omega)).mp c3
        exfalso; omega
    · have c2 := (z_eq0).mp c2
      exfalso; omega
  · have c1 := (bI_0).mp c1
    exfalso; omega
set_option maxHeartbeats 4000000 in
set_option maxRecDepth 100000 in
theorem c_MO_out0 (l : Launch) (D : va_G) (k : Nat → ClassId) (q : Nat → Nat) (cd : Int32) (wd : Nat → Nat) (se : Nat → Nat) (kd : Nat → Nat) (bn : Nat → Int32) (sh : Nat → Nat) (mb : Nat → Nat) (pr : Nat) (B : Nat → Nat) (R : Nat → Nat) (sx : Nat) (pt : Nat) (rd : Nat) (wt : Int32) (ln : Nat) (px : Nat → Nat) (v : Nat) (hv : v < 256) (hpt : pt < 512) : rw_i l y_MO_out b_MO_out 3 (some .boolean) { frames := 3, cells := 0, slots := 0, locals := 61 } D (kT k) (mW q k cd wd se kd bn sh mb pr B R sx pt rd wt ln px) [.ref (q 0), .int (nI 0), .int (nI v)] (fun (r : Int32) (_ : Unit) => r = nI 1) (fun (_ : Unit) => (mW q k (nI 0) wd se kd bn sh mb pr (ss_up B pt v) R sx ((pt + 1) % 512) v (-1) ln px)) := by
  refine rw_headi (by decide) (Nat.le_of_ble_eq_true rfl) ?_
  intro p e s m below meth c ls A hx hb hr hlocks hml hown hts hK hA hP hD hS hl
  have hown : s.vm.findClass "SlotScreenModel" = some m.cls := hown
  have hl : lv_has ls 3 [(0, .ref (q 0)), (1, .int (nI 0)), (2, .int (nI v))] := hl
  refine lv_aload_n hx hb d_MO_out_0 rfl (lv_at hl 0 rfl) ?_
  refine lv_iconst (v := nI 0) hx hb d_MO_out_1 (by decide +kernel) ?_
  refine va_put (D := D) (ci := 7) (v := .int (nI 0)) (ty := .int) (C := R_MO) (T := T_MO) (N := 16) hx hb hts in_MO t_MO o_MO n_MO hown hK hP hD hS 0 rfl rfl 0 (by decide) (hts _ w_530) (fun _ h9 => h9) rfl (by decide +kernel) rfl rfl (Nat.le_of_ble_eq_true rfl) d_MO_out_2 (fun H locs hP hD hS => ?_)
  have hP : va_P D vwCl (mW q k (nI 0) wd se kd bn sh mb pr B R sx pt rd wt ln px) H := hP
  have hD : va_D A (mW q k (nI 0) wd se kd bn sh mb pr B R sx pt rd wt ln px) := hD
  refine lv_iload_n hx hb d_MO_out_5 rfl (lv_at hl 2 rfl) ?_
  refine lv_iconst (v := nI 0) hx hb d_MO_out_6 (by decide +kernel) ?_
  refine lv_sipush (v := nI 255) hx hb d_MO_out_7 (by decide +kernel) ?_
  refine kr_iS (As := [.int (nI v), .int (nI 0), .int (nI 255)]) (rest := []) ⟨hx, hb, hml, hown, hts⟩ (c_MO_within l D k v 0 255 (by omega) (by omega) (by omega)) (va_cwS 3 hts (gS w_587 w_588 w_5 w_589) rfl rfl rfl (by decide +kernel) ⟨Nat.le_of_ble_eq_true rfl, Nat.le_of_ble_eq_true rfl⟩) hK va_nil rfl hl.1 rfl (Nat.le_of_ble_eq_true rfl) d_MO_out_10 ⟨Nat.zero_le _, Nat.zero_le _⟩ ?_
  refine lv_if_ne (tgt := 18) hx hb d_MO_out_13 (by decide) (fun c1 => ?_) (fun c1 => ?_)
  · have c1 := mt (bI_0).mpr c1
    have c1 := Classical.not_not.mp c1
    refine lv_iload_n hx hb d_MO_out_18 rfl (lv_at hl 1 rfl) ?_
    refine lv_if_ne (tgt := 49) hx hb d_MO_out_19 (by decide) (fun c2 => ?_) (fun c2 => ?_)
    · have c2 := mt (n_eq0 (by omega)).mpr c2
      exfalso; omega
    · have c2 := (n_eq0 (by omega)).mp c2
      refine lv_aload_n hx hb d_MO_out_22 rfl (lv_at hl 0 rfl) ?_
      refine va_get (D := D) (ci := 7) (v := .ref (q 7)) (C := R_MO) (T := T_MO) (N := 16) hx hb hts in_MO hown hK hP 0 rfl rfl 8 (by decide) (hts _ w_538) (fun _ h9 => h9) rfl d_MO_out_23 ?_
      refine lv_aload_n hx hb d_MO_out_26 rfl (lv_at hl 0 rfl) ?_
      refine va_get (D := D) (ci := 7) (v := .int (nI pt)) (C := R_MO) (T := T_MO) (N := 16) hx hb hts in_MO hown hK hP 0 rfl rfl 11 (by decide) (hts _ w_541) (fun _ h9 => h9) rfl d_MO_out_27 ?_
      refine lv_iload_n hx hb d_MO_out_30 rfl (lv_at hl 2 rfl) ?_
      refine va_iast hx hb hK hP hD hS 7 0 rfl rfl (vp_in_nI (by omega) (by omega)) d_MO_out_31 (fun H locs hP hD hS => ?_)
      rw [ss_upI B (k := pt) (v := v) (by omega)] at hP hD
      have hP : va_P D vwCl (mW q k (nI 0) wd se kd bn sh mb pr (ss_up B pt v) R sx pt rd wt ln px) H := hP
      have hD : va_D A (mW q k (nI 0) wd se kd bn sh mb pr (ss_up B pt v) R sx pt rd wt ln px) := hD
      refine lv_aload_n hx hb d_MO_out_32 rfl (lv_at hl 0 rfl) ?_
      refine lv_iload_n hx hb d_MO_out_33 rfl (lv_at hl 2 rfl) ?_
      refine va_put (D := D) (ci := 7) (v := .int (nI v)) (ty := .int) (C := R_MO) (T := T_MO) (N := 16) hx hb hts in_MO t_MO o_MO n_MO hown hK hP hD hS 0 rfl rfl 12 (by decide) (hts _ w_542) (fun _ h9 => h9) rfl (by decide +kernel) rfl rfl (Nat.le_of_ble_eq_true rfl) d_MO_out_34 (fun H locs hP hD hS => ?_)
      have hP : va_P D vwCl (mW q k (nI 0) wd se kd bn sh mb pr (ss_up B pt v) R sx pt v wt ln px) H := hP
      have hD : va_D A (mW q k (nI 0) wd se kd bn sh mb pr (ss_up B pt v) R sx pt v wt ln px) := hD
      refine lv_aload_n hx hb d_MO_out_37 rfl (lv_at hl 0 rfl) ?_
      refine kw_vV (As := []) (rest := []) ⟨hx, hb, hml, hown, hts⟩ (c_MO_goOn l D k q (nI 0) wd se kd bn sh mb pr (ss_up B pt v) R sx pt v wt ln px (by omega)) (cwV 0 hts (gV w_637 w_639 w_p18 w_5 w_640) rfl rfl rfl (by decide +kernel) ⟨Nat.le_of_ble_eq_true rfl, Nat.le_of_ble_eq_true rfl⟩) hK hP hD hS hA (va_recv hK hP (ci := 7) (q0 := 0) rfl rfl) rfl hl.1 rfl (Nat.le_of_ble_eq_true rfl) d_MO_out_38 ⟨Nat.zero_le _, Nat.zero_le _⟩ (fun _ H locs _ hP _ hS => ?_)
      have hD : va_D A (mW q k (nI 0) wd se kd bn sh mb pr (ss_up B pt v) R sx ((pt + 1) % 512) v wt ln px) := rw_same hD rfl
      have hP : va_P D vwCl (mW q k (nI 0) wd se kd bn sh mb pr (ss_up B pt v) R sx ((pt + 1) % 512) v wt ln px) H := hP
      refine lv_aload_n hx hb d_MO_out_41 rfl (lv_at hl 0 rfl) ?_
      refine lv_iconst (v := (-1)) hx hb d_MO_out_42 (by decide +kernel) ?_
      refine va_put (D := D) (ci := 7) (v := .int (-1)) (ty := .int) (C := R_MO) (T := T_MO) (N := 16) hx hb hts in_MO t_MO o_MO n_MO hown hK hP hD hS 0 rfl rfl 13 (by decide) (hts _ w_543) (fun _ h9 => h9) rfl (by decide +kernel) rfl rfl (Nat.le_of_ble_eq_true rfl) d_MO_out_43 (fun H locs hP hD hS => ?_)
      have hP : va_P D vwCl (mW q k (nI 0) wd se kd bn sh mb pr (ss_up B pt v) R sx ((pt + 1) % 512) v (-1) ln px) H := hP
      have hD : va_D A (mW q k (nI 0) wd se kd bn sh mb pr (ss_up B pt v) R sx ((pt + 1) % 512) v (-1) ln px) := hD
      refine lv_goto (tgt := 72) hx hb d_MO_out_46 (by decide) ?_
      refine lv_iconst (v := nI 1) hx hb d_MO_out_72 (by decide +kernel) ?_
      exact rw_retz hx hb hr hlocks d_MO_out_73 (by decide +kernel) hS () (rfl) hP
  · have c1 := (bI_0).mp c1
    exfalso; omega
set_option maxHeartbeats 4000000 in
set_option maxRecDepth 100000 in
theorem c_MO_out2 (l : Launch) (D : va_G) (k : Nat → ClassId) (q : Nat → Nat) (cd : Int32) (wd : Nat → Nat) (se : Nat → Nat) (kd : Nat → Nat) (bn : Nat → Int32) (sh : Nat → Nat) (mb : Nat → Nat) (pr : Nat) (B : Nat → Nat) (R : Nat → Nat) (sx : Nat) (pt : Nat) (rd : Nat) (wt : Int32) (ln : Nat) (px : Nat → Nat) (v : Nat) (hv : v < 256) : rw_i l y_MO_out b_MO_out 3 (some .boolean) { frames := 3, cells := 0, slots := 0, locals := 61 } D (kT k) (mW q k cd wd se kd bn sh mb pr B R sx pt rd wt ln px) [.ref (q 0), .int (nI 2), .int (nI v)] (fun (r : Int32) (_ : Unit) => r = nI 1) (fun (_ : Unit) => (mW q k (nI 0) wd se kd bn sh mb v B R sx pt rd wt ln px)) := by
  refine rw_headi (by decide) (Nat.le_of_ble_eq_true rfl) ?_
  intro p e s m below meth c ls A hx hb hr hlocks hml hown hts hK hA hP hD hS hl
  have hown : s.vm.findClass "SlotScreenModel" = some m.cls := hown
  have hl : lv_has ls 3 [(0, .ref (q 0)), (1, .int (nI 2)), (2, .int (nI v))] := hl
  refine lv_aload_n hx hb d_MO_out_0 rfl (lv_at hl 0 rfl) ?_
  refine lv_iconst (v := nI 0) hx hb d_MO_out_1 (by decide +kernel) ?_
  refine va_put (D := D) (ci := 7) (v := .int (nI 0)) (ty := .int) (C := R_MO) (T := T_MO) (N := 16) hx hb hts in_MO t_MO o_MO n_MO hown hK hP hD hS 0 rfl rfl 0 (by decide) (hts _ w_530) (fun _ h9 => h9) rfl (by decide +kernel) rfl rfl (Nat.le_of_ble_eq_true rfl) d_MO_out_2 (fun H locs hP hD hS => ?_)
  have hP : va_P D vwCl (mW q k (nI 0) wd se kd bn sh mb pr B R sx pt rd wt ln px) H := hP
  have hD : va_D A (mW q k (nI 0) wd se kd bn sh mb pr B R sx pt rd wt ln px) := hD
  refine lv_iload_n hx hb d_MO_out_5 rfl (lv_at hl 2 rfl) ?_
  refine lv_iconst (v := nI 0) hx hb d_MO_out_6 (by decide +kernel) ?_
  refine lv_sipush (v := nI 255) hx hb d_MO_out_7 (by decide +kernel) ?_
  refine kr_iS (As := [.int (nI v), .int (nI 0), .int (nI 255)]) (rest := []) ⟨hx, hb, hml, hown, hts⟩ (c_MO_within l D k v 0 255 (by omega) (by omega) (by omega)) (va_cwS 3 hts (gS w_587 w_588 w_5 w_589) rfl rfl rfl (by decide +kernel) ⟨Nat.le_of_ble_eq_true rfl, Nat.le_of_ble_eq_true rfl⟩) hK va_nil rfl hl.1 rfl (Nat.le_of_ble_eq_true rfl) d_MO_out_10 ⟨Nat.zero_le _, Nat.zero_le _⟩ ?_
  refine lv_if_ne (tgt := 18) hx hb d_MO_out_13 (by decide) (fun c1 => ?_) (fun c1 => ?_)
  · have c1 := mt (bI_0).mpr c1
    have c1 := Classical.not_not.mp c1
    refine lv_iload_n hx hb d_MO_out_18 rfl (lv_at hl 1 rfl) ?_
    refine lv_if_ne (tgt := 49) hx hb d_MO_out_19 (by decide) (fun c2 => ?_) (fun c2 => ?_)
    · have c2 := mt (n_eq0 (by omega)).mpr c2
      refine lv_iload_n hx hb d_MO_out_49 rfl (lv_at hl 1 rfl) ?_
      refine lv_iconst (v := nI 1) hx hb d_MO_out_50 (by decide +kernel) ?_
      refine lv_icmp_ne (tgt := 62) hx hb d_MO_out_51 (by decide) (fun c3 => ?_) (fun c3 => ?_)
      · have c3 := mt (nI_eq (by omega) (by omega)).mpr c3
        refine lv_iload_n hx hb d_MO_out_62 rfl (lv_at hl 1 rfl) ?_
        refine lv_iconst (v := nI 2) hx hb d_MO_out_63 (by decide +kernel) ?_
        refine lv_icmp_ne (tgt := 72) hx hb d_MO_out_64 (by decide) (fun c4 => ?_) (fun c4 => ?_)
        · have c4 := mt (nI_eq (by omega) (by omega)).mpr c4
          exfalso; omega
        · have c4 := (nI_eq (by omega) (by omega)).mp c4
          refine lv_aload_n hx hb d_MO_out_67 rfl (lv_at hl 0 rfl) ?_
          refine lv_iload_n hx hb d_MO_out_68 rfl (lv_at hl 2 rfl) ?_
          refine va_put (D := D) (ci := 7) (v := .int (nI v)) (ty := .int) (C := R_MO) (T := T_MO) (N := 16) hx hb hts in_MO t_MO o_MO n_MO hown hK hP hD hS 0 rfl rfl 7 (by decide) (hts _ w_537) (fun _ h9 => h9) rfl (by decide +kernel) rfl rfl (Nat.le_of_ble_eq_true rfl) d_MO_out_69 (fun H locs hP hD hS => ?_)
          have hP : va_P D vwCl (mW q k (nI 0) wd se kd bn sh mb v B R sx pt rd wt ln px) H := hP
          have hD : va_D A (mW q k (nI 0) wd se kd bn sh mb v B R sx pt rd wt ln px) := hD
          refine lv_iconst (v := nI 1) hx hb d_MO_out_72 (by decide +kernel) ?_
          exact rw_retz hx hb hr hlocks d_MO_out_73 (by decide +kernel) hS () (rfl) hP
      · have c3 := (nI_eq (by omega) (by omega)).mp c3
        exfalso; omega
    · have c2 := (n_eq0 (by omega)).mp c2
      exfalso; omega
  · have c1 := (bI_0).mp c1
    exfalso; omega
set_option maxHeartbeats 4000000 in
set_option maxRecDepth 100000 in
theorem c_MO_out1N (l : Launch) (D : va_G) (k : Nat → ClassId) (q : Nat → Nat) (cd : Int32) (wd : Nat → Nat) (se : Nat → Nat) (kd : Nat → Nat) (bn : Nat → Int32) (sh : Nat → Nat) (mb : Nat → Nat) (pr : Nat) (B : Nat → Nat) (R : Nat → Nat) (sx : Nat) (pt : Nat) (rd : Nat) (ln : Nat) (px : Nat → Nat) (v : Nat) (hv : v < 256) : rw_i l y_MO_out b_MO_out 3 (some .boolean) { frames := 3, cells := 0, slots := 0, locals := 61 } D (kT k) (mW q k cd wd se kd bn sh mb pr B R sx pt rd (-1) ln px) [.ref (q 0), .int (nI 1), .int (nI v)] (fun (r : Int32) (_ : Unit) => r = nI 1) (fun (_ : Unit) => (mW q k (nI 0) wd se kd bn sh mb pr B R sx pt rd (nI v) ln px)) := by
  refine rw_headi (by decide) (Nat.le_of_ble_eq_true rfl) ?_
  intro p e s m below meth c ls A hx hb hr hlocks hml hown hts hK hA hP hD hS hl
  have hown : s.vm.findClass "SlotScreenModel" = some m.cls := hown
  have hl : lv_has ls 3 [(0, .ref (q 0)), (1, .int (nI 1)), (2, .int (nI v))] := hl
  refine lv_aload_n hx hb d_MO_out_0 rfl (lv_at hl 0 rfl) ?_
  refine lv_iconst (v := nI 0) hx hb d_MO_out_1 (by decide +kernel) ?_
  refine va_put (D := D) (ci := 7) (v := .int (nI 0)) (ty := .int) (C := R_MO) (T := T_MO) (N := 16) hx hb hts in_MO t_MO o_MO n_MO hown hK hP hD hS 0 rfl rfl 0 (by decide) (hts _ w_530) (fun _ h9 => h9) rfl (by decide +kernel) rfl rfl (Nat.le_of_ble_eq_true rfl) d_MO_out_2 (fun H locs hP hD hS => ?_)
  have hP : va_P D vwCl (mW q k (nI 0) wd se kd bn sh mb pr B R sx pt rd (-1) ln px) H := hP
  have hD : va_D A (mW q k (nI 0) wd se kd bn sh mb pr B R sx pt rd (-1) ln px) := hD
  refine lv_iload_n hx hb d_MO_out_5 rfl (lv_at hl 2 rfl) ?_
  refine lv_iconst (v := nI 0) hx hb d_MO_out_6 (by decide +kernel) ?_
  refine lv_sipush (v := nI 255) hx hb d_MO_out_7 (by decide +kernel) ?_
  refine kr_iS (As := [.int (nI v), .int (nI 0), .int (nI 255)]) (rest := []) ⟨hx, hb, hml, hown, hts⟩ (c_MO_within l D k v 0 255 (by omega) (by omega) (by omega)) (va_cwS 3 hts (gS w_587 w_588 w_5 w_589) rfl rfl rfl (by decide +kernel) ⟨Nat.le_of_ble_eq_true rfl, Nat.le_of_ble_eq_true rfl⟩) hK va_nil rfl hl.1 rfl (Nat.le_of_ble_eq_true rfl) d_MO_out_10 ⟨Nat.zero_le _, Nat.zero_le _⟩ ?_
  refine lv_if_ne (tgt := 18) hx hb d_MO_out_13 (by decide) (fun c1 => ?_) (fun c1 => ?_)
  · have c1 := mt (bI_0).mpr c1
    have c1 := Classical.not_not.mp c1
    refine lv_iload_n hx hb d_MO_out_18 rfl (lv_at hl 1 rfl) ?_
    refine lv_if_ne (tgt := 49) hx hb d_MO_out_19 (by decide) (fun c2 => ?_) (fun c2 => ?_)
    · have c2 := mt (n_eq0 (by omega)).mpr c2
      refine lv_iload_n hx hb d_MO_out_49 rfl (lv_at hl 1 rfl) ?_
      refine lv_iconst (v := nI 1) hx hb d_MO_out_50 (by decide +kernel) ?_
      refine lv_icmp_ne (tgt := 62) hx hb d_MO_out_51 (by decide) (fun c3 => ?_) (fun c3 => ?_)
      · have c3 := mt (nI_eq (by omega) (by omega)).mpr c3
        exfalso; omega
      · have c3 := (nI_eq (by omega) (by omega)).mp c3
        refine lv_aload_n hx hb d_MO_out_54 rfl (lv_at hl 0 rfl) ?_
        refine lv_iload_n hx hb d_MO_out_55 rfl (lv_at hl 2 rfl) ?_
        refine kw_vV (As := [.int (nI v)]) (rest := []) ⟨hx, hb, hml, hown, hts⟩ (c_MO_controlN l D k q (nI 0) wd se kd bn sh mb pr B R sx pt rd ln px v (by omega)) (cwV 1 hts (gV w_645 w_647 w_p19 w_5 w_648) rfl rfl rfl (by decide +kernel) ⟨Nat.le_of_ble_eq_true rfl, Nat.le_of_ble_eq_true rfl⟩) hK hP hD hS hA (va_recv hK hP (ci := 7) (q0 := 0) rfl rfl) rfl hl.1 rfl (Nat.le_of_ble_eq_true rfl) d_MO_out_56 ⟨Nat.zero_le _, Nat.zero_le _⟩ (fun _ H locs _ hP _ hS => ?_)
        have hD : va_D A (mW q k (nI 0) wd se kd bn sh mb pr B R sx pt rd (nI v) ln px) := rw_same hD rfl
        have hP : va_P D vwCl (mW q k (nI 0) wd se kd bn sh mb pr B R sx pt rd (nI v) ln px) H := hP
        refine lv_goto (tgt := 72) hx hb d_MO_out_59 (by decide) ?_
        refine lv_iconst (v := nI 1) hx hb d_MO_out_72 (by decide +kernel) ?_
        exact rw_retz hx hb hr hlocks d_MO_out_73 (by decide +kernel) hS () (rfl) hP
    · have c2 := (n_eq0 (by omega)).mp c2
      exfalso; omega
  · have c1 := (bI_0).mp c1
    exfalso; omega
set_option maxHeartbeats 4000000 in
set_option maxRecDepth 100000 in
theorem c_MO_out1R (l : Launch) (D : va_G) (k : Nat → ClassId) (q : Nat → Nat) (cd : Int32) (wd : Nat → Nat) (se : Nat → Nat) (kd : Nat → Nat) (bn : Nat → Int32) (sh : Nat → Nat) (mb : Nat → Nat) (pr : Nat) (B : Nat → Nat) (R : Nat → Nat) (sx : Nat) (pt : Nat) (rd : Nat) (ln : Nat) (px : Nat → Nat) (a v : Nat) (ha : a < 256) (hv : v < 256) (h1 : 127 < v) : rw_i l y_MO_out b_MO_out 3 (some .boolean) { frames := 3, cells := 0, slots := 0, locals := 61 } D (kT k) (mW q k cd wd se kd bn sh mb pr B R sx pt rd (nI a) ln px) [.ref (q 0), .int (nI 1), .int (nI v)] (fun (r : Int32) (_ : Unit) => r = nI 1) (fun (_ : Unit) => (mW q k (nI 0) wd se kd bn sh mb pr B (ss_up R (v % 8) a) sx pt rd (-1) ln px)) := by
  refine rw_headi (by decide) (Nat.le_of_ble_eq_true rfl) ?_
  intro p e s m below meth c ls A hx hb hr hlocks hml hown hts hK hA hP hD hS hl
  have hown : s.vm.findClass "SlotScreenModel" = some m.cls := hown
  have hl : lv_has ls 3 [(0, .ref (q 0)), (1, .int (nI 1)), (2, .int (nI v))] := hl
  refine lv_aload_n hx hb d_MO_out_0 rfl (lv_at hl 0 rfl) ?_
  refine lv_iconst (v := nI 0) hx hb d_MO_out_1 (by decide +kernel) ?_
  refine va_put (D := D) (ci := 7) (v := .int (nI 0)) (ty := .int) (C := R_MO) (T := T_MO) (N := 16) hx hb hts in_MO t_MO o_MO n_MO hown hK hP hD hS 0 rfl rfl 0 (by decide) (hts _ w_530) (fun _ h9 => h9) rfl (by decide +kernel) rfl rfl (Nat.le_of_ble_eq_true rfl) d_MO_out_2 (fun H locs hP hD hS => ?_)
  have hP : va_P D vwCl (mW q k (nI 0) wd se kd bn sh mb pr B R sx pt rd (nI a) ln px) H := hP
  have hD : va_D A (mW q k (nI 0) wd se kd bn sh mb pr B R sx pt rd (nI a) ln px) := hD
  refine lv_iload_n hx hb d_MO_out_5 rfl (lv_at hl 2 rfl) ?_
  refine lv_iconst (v := nI 0) hx hb d_MO_out_6 (by decide +kernel) ?_
  refine lv_sipush (v := nI 255) hx hb d_MO_out_7 (by decide +kernel) ?_
  refine kr_iS (As := [.int (nI v), .int (nI 0), .int (nI 255)]) (rest := []) ⟨hx, hb, hml, hown, hts⟩ (c_MO_within l D k v 0 255 (by omega) (by omega) (by omega)) (va_cwS 3 hts (gS w_587 w_588 w_5 w_589) rfl rfl rfl (by decide +kernel) ⟨Nat.le_of_ble_eq_true rfl, Nat.le_of_ble_eq_true rfl⟩) hK va_nil rfl hl.1 rfl (Nat.le_of_ble_eq_true rfl) d_MO_out_10 ⟨Nat.zero_le _, Nat.zero_le _⟩ ?_
  refine lv_if_ne (tgt := 18) hx hb d_MO_out_13 (by decide) (fun c1 => ?_) (fun c1 => ?_)
  · have c1 := mt (bI_0).mpr c1
    have c1 := Classical.not_not.mp c1
    refine lv_iload_n hx hb d_MO_out_18 rfl (lv_at hl 1 rfl) ?_
    refine lv_if_ne (tgt := 49) hx hb d_MO_out_19 (by decide) (fun c2 => ?_) (fun c2 => ?_)
    · have c2 := mt (n_eq0 (by omega)).mpr c2
      refine lv_iload_n hx hb d_MO_out_49 rfl (lv_at hl 1 rfl) ?_
      refine lv_iconst (v := nI 1) hx hb d_MO_out_50 (by decide +kernel) ?_
      refine lv_icmp_ne (tgt := 62) hx hb d_MO_out_51 (by decide) (fun c3 => ?_) (fun c3 => ?_)
      · have c3 := mt (nI_eq (by omega) (by omega)).mpr c3
        exfalso; omega
      · have c3 := (nI_eq (by omega) (by omega)).mp c3
        refine lv_aload_n hx hb d_MO_out_54 rfl (lv_at hl 0 rfl) ?_
        refine lv_iload_n hx hb d_MO_out_55 rfl (lv_at hl 2 rfl) ?_
        refine kw_vV (As := [.int (nI v)]) (rest := []) ⟨hx, hb, hml, hown, hts⟩ (c_MO_controlR l D k q (nI 0) wd se kd bn sh mb pr B R sx pt rd ln px a v (by omega) (by omega) (by omega)) (cwV 1 hts (gV w_645 w_647 w_p19 w_5 w_648) rfl rfl rfl (by decide +kernel) ⟨Nat.le_of_ble_eq_true rfl, Nat.le_of_ble_eq_true rfl⟩) hK hP hD hS hA (va_recv hK hP (ci := 7) (q0 := 0) rfl rfl) rfl hl.1 rfl (Nat.le_of_ble_eq_true rfl) d_MO_out_56 ⟨Nat.zero_le _, Nat.zero_le _⟩ (fun _ H locs _ hP _ hS => ?_)
        have hD : va_D A (mW q k (nI 0) wd se kd bn sh mb pr B (ss_up R (v % 8) a) sx pt rd (-1) ln px) := rw_same hD rfl
        have hP : va_P D vwCl (mW q k (nI 0) wd se kd bn sh mb pr B (ss_up R (v % 8) a) sx pt rd (-1) ln px) H := hP
        refine lv_goto (tgt := 72) hx hb d_MO_out_59 (by decide) ?_
        refine lv_iconst (v := nI 1) hx hb d_MO_out_72 (by decide +kernel) ?_
        exact rw_retz hx hb hr hlocks d_MO_out_73 (by decide +kernel) hS () (rfl) hP
    · have c2 := (n_eq0 (by omega)).mp c2
      exfalso; omega
  · have c1 := (bI_0).mp c1
    exfalso; omega
set_option maxHeartbeats 4000000 in
set_option maxRecDepth 100000 in
theorem c_MO_out1P (l : Launch) (D : va_G) (k : Nat → ClassId) (q : Nat → Nat) (cd : Int32) (wd : Nat → Nat) (se : Nat → Nat) (kd : Nat → Nat) (bn : Nat → Int32) (sh : Nat → Nat) (mb : Nat → Nat) (pr : Nat) (B : Nat → Nat) (R : Nat → Nat) (sx : Nat) (pt : Nat) (rd : Nat) (ln : Nat) (px : Nat → Nat) (a v : Nat) (ha : a < 256) (hv : v < 256) (h1 : v ≤ 127) (h2 : 64 ≤ v) : rw_i l y_MO_out b_MO_out 3 (some .boolean) { frames := 3, cells := 0, slots := 0, locals := 61 } D (kT k) (mW q k cd wd se kd bn sh mb pr B R sx pt rd (nI a) ln px) [.ref (q 0), .int (nI 1), .int (nI v)] (fun (r : Int32) (_ : Unit) => r = nI 1) (fun (_ : Unit) => (mW q k (nI 0) wd se kd bn sh mb pr B R sx (a + 256 * (v % 2)) rd (-1) ln px)) := by
  refine rw_headi (by decide) (Nat.le_of_ble_eq_true rfl) ?_
  intro p e s m below meth c ls A hx hb hr hlocks hml hown hts hK hA hP hD hS hl
  have hown : s.vm.findClass "SlotScreenModel" = some m.cls := hown
  have hl : lv_has ls 3 [(0, .ref (q 0)), (1, .int (nI 1)), (2, .int (nI v))] := hl
  refine lv_aload_n hx hb d_MO_out_0 rfl (lv_at hl 0 rfl) ?_
  refine lv_iconst (v := nI 0) hx hb d_MO_out_1 (by decide +kernel) ?_
  refine va_put (D := D) (ci := 7) (v := .int (nI 0)) (ty := .int) (C := R_MO) (T := T_MO) (N := 16) hx hb hts in_MO t_MO o_MO n_MO hown hK hP hD hS 0 rfl rfl 0 (by decide) (hts _ w_530) (fun _ h9 => h9) rfl (by decide +kernel) rfl rfl (Nat.le_of_ble_eq_true rfl) d_MO_out_2 (fun H locs hP hD hS => ?_)
  have hP : va_P D vwCl (mW q k (nI 0) wd se kd bn sh mb pr B R sx pt rd (nI a) ln px) H := hP
  have hD : va_D A (mW q k (nI 0) wd se kd bn sh mb pr B R sx pt rd (nI a) ln px) := hD
  refine lv_iload_n hx hb d_MO_out_5 rfl (lv_at hl 2 rfl) ?_
  refine lv_iconst (v := nI 0) hx hb d_MO_out_6 (by decide +kernel) ?_
  refine lv_sipush (v := nI 255) hx hb d_MO_out_7 (by decide +kernel) ?_
  refine kr_iS (As := [.int (nI v), .int (nI 0), .int (nI 255)]) (rest := []) ⟨hx, hb, hml, hown, hts⟩ (c_MO_within l D k v 0 255 (by omega) (by omega) (by omega)) (va_cwS 3 hts (gS w_587 w_588 w_5 w_589) rfl rfl rfl (by decide +kernel) ⟨Nat.le_of_ble_eq_true rfl, Nat.le_of_ble_eq_true rfl⟩) hK va_nil rfl hl.1 rfl (Nat.le_of_ble_eq_true rfl) d_MO_out_10 ⟨Nat.zero_le _, Nat.zero_le _⟩ ?_
  refine lv_if_ne (tgt := 18) hx hb d_MO_out_13 (by decide) (fun c1 => ?_) (fun c1 => ?_)
  · have c1 := mt (bI_0).mpr c1
    have c1 := Classical.not_not.mp c1
    refine lv_iload_n hx hb d_MO_out_18 rfl (lv_at hl 1 rfl) ?_
    refine lv_if_ne (tgt := 49) hx hb d_MO_out_19 (by decide) (fun c2 => ?_) (fun c2 => ?_)
    · have c2 := mt (n_eq0 (by omega)).mpr c2
      refine lv_iload_n hx hb d_MO_out_49 rfl (lv_at hl 1 rfl) ?_
      refine lv_iconst (v := nI 1) hx hb d_MO_out_50 (by decide +kernel) ?_
      refine lv_icmp_ne (tgt := 62) hx hb d_MO_out_51 (by decide) (fun c3 => ?_) (fun c3 => ?_)
      · have c3 := mt (nI_eq (by omega) (by omega)).mpr c3
        exfalso; omega
      · have c3 := (nI_eq (by omega) (by omega)).mp c3
        refine lv_aload_n hx hb d_MO_out_54 rfl (lv_at hl 0 rfl) ?_
        refine lv_iload_n hx hb d_MO_out_55 rfl (lv_at hl 2 rfl) ?_
        refine kw_vV (As := [.int (nI v)]) (rest := []) ⟨hx, hb, hml, hown, hts⟩ (c_MO_controlP l D k q (nI 0) wd se kd bn sh mb pr B R sx pt rd ln px a v (by omega) (by omega) (by omega) (by omega)) (cwV 1 hts (gV w_645 w_647 w_p19 w_5 w_648) rfl rfl rfl (by decide +kernel) ⟨Nat.le_of_ble_eq_true rfl, Nat.le_of_ble_eq_true rfl⟩) hK hP hD hS hA (va_recv hK hP (ci := 7) (q0 := 0) rfl rfl) rfl hl.1 rfl (Nat.le_of_ble_eq_true rfl) d_MO_out_56 ⟨Nat.zero_le _, Nat.zero_le _⟩ (fun _ H locs _ hP _ hS => ?_)
        have hD : va_D A (mW q k (nI 0) wd se kd bn sh mb pr B R sx (a + 256 * (v % 2)) rd (-1) ln px) := rw_same hD rfl
        have hP : va_P D vwCl (mW q k (nI 0) wd se kd bn sh mb pr B R sx (a + 256 * (v % 2)) rd (-1) ln px) H := hP
        refine lv_goto (tgt := 72) hx hb d_MO_out_59 (by decide) ?_
        refine lv_iconst (v := nI 1) hx hb d_MO_out_72 (by decide +kernel) ?_
        exact rw_retz hx hb hr hlocks d_MO_out_73 (by decide +kernel) hS () (rfl) hP
    · have c2 := (n_eq0 (by omega)).mp c2
      exfalso; omega
  · have c1 := (bI_0).mp c1
    exfalso; omega
set_option maxHeartbeats 4000000 in
set_option maxRecDepth 100000 in
theorem c_MO_out1F (l : Launch) (D : va_G) (k : Nat → ClassId) (q : Nat → Nat) (cd : Int32) (wd : Nat → Nat) (se : Nat → Nat) (kd : Nat → Nat) (bn : Nat → Int32) (sh : Nat → Nat) (mb : Nat → Nat) (pr : Nat) (B : Nat → Nat) (R : Nat → Nat) (sx : Nat) (pt : Nat) (rd : Nat) (ln : Nat) (px : Nat → Nat) (a v : Nat) (ha : a < 256) (hv : v < 256) (h2 : v < 64) : rw_i l y_MO_out b_MO_out 3 (some .boolean) { frames := 3, cells := 0, slots := 0, locals := 61 } D (kT k) (mW q k cd wd se kd bn sh mb pr B R sx pt rd (nI a) ln px) [.ref (q 0), .int (nI 1), .int (nI v)] (fun (r : Int32) (_ : Unit) => r = nI 1) (fun (_ : Unit) => (mW q k (nI 0) wd se kd bn sh mb pr B R sx ((a + 256 * (v % 2) + 1) % 512) (B (a + 256 * (v % 2))) (-1) ln px)) := by
  refine rw_headi (by decide) (Nat.le_of_ble_eq_true rfl) ?_
  intro p e s m below meth c ls A hx hb hr hlocks hml hown hts hK hA hP hD hS hl
  have hown : s.vm.findClass "SlotScreenModel" = some m.cls := hown
  have hl : lv_has ls 3 [(0, .ref (q 0)), (1, .int (nI 1)), (2, .int (nI v))] := hl
  refine lv_aload_n hx hb d_MO_out_0 rfl (lv_at hl 0 rfl) ?_
  refine lv_iconst (v := nI 0) hx hb d_MO_out_1 (by decide +kernel) ?_
  refine va_put (D := D) (ci := 7) (v := .int (nI 0)) (ty := .int) (C := R_MO) (T := T_MO) (N := 16) hx hb hts in_MO t_MO o_MO n_MO hown hK hP hD hS 0 rfl rfl 0 (by decide) (hts _ w_530) (fun _ h9 => h9) rfl (by decide +kernel) rfl rfl (Nat.le_of_ble_eq_true rfl) d_MO_out_2 (fun H locs hP hD hS => ?_)
  have hP : va_P D vwCl (mW q k (nI 0) wd se kd bn sh mb pr B R sx pt rd (nI a) ln px) H := hP
  have hD : va_D A (mW q k (nI 0) wd se kd bn sh mb pr B R sx pt rd (nI a) ln px) := hD
  refine lv_iload_n hx hb d_MO_out_5 rfl (lv_at hl 2 rfl) ?_
  refine lv_iconst (v := nI 0) hx hb d_MO_out_6 (by decide +kernel) ?_
  refine lv_sipush (v := nI 255) hx hb d_MO_out_7 (by decide +kernel) ?_
  refine kr_iS (As := [.int (nI v), .int (nI 0), .int (nI 255)]) (rest := []) ⟨hx, hb, hml, hown, hts⟩ (c_MO_within l D k v 0 255 (by omega) (by omega) (by omega)) (va_cwS 3 hts (gS w_587 w_588 w_5 w_589) rfl rfl rfl (by decide +kernel) ⟨Nat.le_of_ble_eq_true rfl, Nat.le_of_ble_eq_true rfl⟩) hK va_nil rfl hl.1 rfl (Nat.le_of_ble_eq_true rfl) d_MO_out_10 ⟨Nat.zero_le _, Nat.zero_le _⟩ ?_
  refine lv_if_ne (tgt := 18) hx hb d_MO_out_13 (by decide) (fun c1 => ?_) (fun c1 => ?_)
  · have c1 := mt (bI_0).mpr c1
    have c1 := Classical.not_not.mp c1
    refine lv_iload_n hx hb d_MO_out_18 rfl (lv_at hl 1 rfl) ?_
    refine lv_if_ne (tgt := 49) hx hb d_MO_out_19 (by decide) (fun c2 => ?_) (fun c2 => ?_)
    · have c2 := mt (n_eq0 (by omega)).mpr c2
      refine lv_iload_n hx hb d_MO_out_49 rfl (lv_at hl 1 rfl) ?_
      refine lv_iconst (v := nI 1) hx hb d_MO_out_50 (by decide +kernel) ?_
      refine lv_icmp_ne (tgt := 62) hx hb d_MO_out_51 (by decide) (fun c3 => ?_) (fun c3 => ?_)
      · have c3 := mt (nI_eq (by omega) (by omega)).mpr c3
        exfalso; omega
      · have c3 := (nI_eq (by omega) (by omega)).mp c3
        refine lv_aload_n hx hb d_MO_out_54 rfl (lv_at hl 0 rfl) ?_
        refine lv_iload_n hx hb d_MO_out_55 rfl (lv_at hl 2 rfl) ?_
        refine kw_vV (As := [.int (nI v)]) (rest := []) ⟨hx, hb, hml, hown, hts⟩ (c_MO_controlF l D k q (nI 0) wd se kd bn sh mb pr B R sx pt rd ln px a v (by omega) (by omega) (by omega)) (cwV 1 hts (gV w_645 w_647 w_p19 w_5 w_648) rfl rfl rfl (by decide +kernel) ⟨Nat.le_of_ble_eq_true rfl, Nat.le_of_ble_eq_true rfl⟩) hK hP hD hS hA (va_recv hK hP (ci := 7) (q0 := 0) rfl rfl) rfl hl.1 rfl (Nat.le_of_ble_eq_true rfl) d_MO_out_56 ⟨Nat.zero_le _, Nat.zero_le _⟩ (fun _ H locs _ hP _ hS => ?_)
        have hD : va_D A (mW q k (nI 0) wd se kd bn sh mb pr B R sx ((a + 256 * (v % 2) + 1) % 512) (B (a + 256 * (v % 2))) (-1) ln px) := rw_same hD rfl
        have hP : va_P D vwCl (mW q k (nI 0) wd se kd bn sh mb pr B R sx ((a + 256 * (v % 2) + 1) % 512) (B (a + 256 * (v % 2))) (-1) ln px) H := hP
        refine lv_goto (tgt := 72) hx hb d_MO_out_59 (by decide) ?_
        refine lv_iconst (v := nI 1) hx hb d_MO_out_72 (by decide +kernel) ?_
        exact rw_retz hx hb hr hlocks d_MO_out_73 (by decide +kernel) hS () (rfl) hP
    · have c2 := (n_eq0 (by omega)).mp c2
      exfalso; omega
  · have c1 := (bI_0).mp c1
    exfalso; omega
set_option maxHeartbeats 4000000 in
set_option maxRecDepth 100000 in
theorem c_MO_bits (l : Launch) (D : va_G) (k : Nat → ClassId) (n g : Nat) (hn : n < 256) (hg : g < 4) : ro_i l y_MO_bits b_MO_bits 4 (some .int) { frames := 0, cells := 0, slots := 0, locals := 0 } D (kT k) [] [.int (nI n), .int (nI g)] (nI (n / 4 ^ g % 4)) := by
  refine ro_headi (by decide) (Nat.le_of_ble_eq_true rfl) ?_
  intro p e s m below meth c ls hx hb hr hlocks hml hown hts hP hK hl
  have hown : s.vm.findClass "SlotScreenModel" = some m.cls := hown
  have hl : lv_has ls 4 [(0, .int (nI n)), (1, .int (nI g))] := hl
  refine lv_iload_n hx hb d_MO_bits_0 rfl (lv_at hl 0 rfl) ?_
  refine lv_istore_n (lv' := [(2, .int (nI n)), (0, .int (nI n)), (1, .int (nI g))]) hx hb d_MO_bits_1 rfl hl (by decide) rfl (fun ls hl => ?_)
  refine lv_iconst (v := nI 0) hx hb d_MO_bits_2 (by decide +kernel) ?_
  refine lv_istore_n (lv' := [(3, .int (nI 0)), (2, .int (nI n)), (0, .int (nI n)), (1, .int (nI g))]) hx hb d_MO_bits_3 rfl hl (by decide) rfl (fun ls hl => ?_)
  have loop : ∀ (j9 i : Nat), i + j9 = g → ∀ (ls : Array Slot), lv_has ls 4 [(3, .int (nI i)), (2, .int (nI (n / 4 ^ i))), (0, .int (nI n)), (1, .int (nI g))] → W p l e (headSpec (wsG y_MO_bits b_MO_bits 4 (some .int)) { frames := 0, cells := 0, slots := 0, locals := 0 }).room s m ([.int (nI n), .int (nI g)] : List Value).toArray below meth c s.heap [] 0 0 (MQ below (vp_Si (fun x => x = nI (n / 4 ^ g % 4))) ([.int (nI n), .int (nI g)] : List Value).toArray s 0 0 (fun _ => False)) (F0 m 4 ls []) := by
    intro j9
    induction j9 with
    | zero =>
      intro i h9 ls hl
      obtain rfl : i = g := by omega
      have z1 := mpw_le n i
      refine lv_iload_n hx hb d_MO_bits_4 rfl (lv_at hl 0 rfl) ?_
      refine lv_iload_n hx hb d_MO_bits_5 rfl (lv_at hl 3 rfl) ?_
      refine lv_icmp_ge (tgt := 19) hx hb d_MO_bits_6 (by decide) (fun c1 => ?_) (fun c1 => ?_)
      · have c1 := (nI_leI (by omega) (by omega)).mp c1
        refine lv_iload_n hx hb d_MO_bits_19 rfl (lv_at hl 1 rfl) ?_
        refine lv_iconst (v := nI 4) hx hb d_MO_bits_20 (by decide +kernel) ?_
        refine lv_irem hx hb d_MO_bits_21 (by first | decide +kernel | exact nI_ne0 (by omega) (by omega)) ?_
        refine ss_rt (y := nI ((n / 4 ^ i) % 4)) (pk_rem (by omega) (by omega) (by omega)) ?_
        exact ro_reti hx hb hr hlocks d_MO_bits_22 (rfl)
      · have c1 := mt (nI_leI (by omega) (by omega)).mpr c1
        exact absurd c1 (by omega)
    | succ j9 ih =>
      intro i h9 ls hl
      have z1 := mpw_le n i
      refine lv_iload_n hx hb d_MO_bits_4 rfl (lv_at hl 0 rfl) ?_
      refine lv_iload_n hx hb d_MO_bits_5 rfl (lv_at hl 3 rfl) ?_
      refine lv_icmp_ge (tgt := 19) hx hb d_MO_bits_6 (by decide) (fun c2 => ?_) (fun c2 => ?_)
      · have c2 := (nI_leI (by omega) (by omega)).mp c2
        exact absurd c2 (by omega)
      · have c2 := mt (nI_leI (by omega) (by omega)).mpr c2
        refine lv_iload_n hx hb d_MO_bits_9 rfl (lv_at hl 1 rfl) ?_
        refine lv_iconst (v := nI 4) hx hb d_MO_bits_10 (by decide +kernel) ?_
        refine lv_idiv hx hb d_MO_bits_11 (by first | decide +kernel | exact nI_ne0 (by omega) (by omega)) ?_
        refine ss_rt (y := nI ((n / 4 ^ i) / 4)) (pk_div (by omega) (by omega) (by omega)) ?_
        refine lv_istore_n (lv' := [(2, .int (nI ((n / 4 ^ i) / 4))), (3, .int (nI i)), (0, .int (nI n)), (1, .int (nI g))]) hx hb d_MO_bits_12 rfl hl (by decide) rfl (fun ls hl => ?_)
        refine lv_iinc (v := nI (i + 1)) (lv' := [(3, .int (nI (i + 1))), (2, .int (nI ((n / 4 ^ i) / 4))), (0, .int (nI n)), (1, .int (nI g))]) hx hb d_MO_bits_13 hl (k := 1) rfl (nI_1 _) (by decide) rfl (fun ls hl => ?_)
        refine lv_goto (tgt := 4) hx hb d_MO_bits_16 (by decide) ?_
        rw [mpw_s] at hl
        exact ih (i + 1) (by omega) ls (lv_sub hl [0, 1, 2, 3] rfl)
  have hl : lv_has ls 4 [(3, .int (nI 0)), (2, .int (nI (n / 4 ^ 0))), (0, .int (nI n)), (1, .int (nI g))] := by rw [Nat.pow_zero, Nat.div_one]; exact hl
  exact loop (g - 0) 0 (by omega) ls (lv_sub hl [0, 1, 2, 3] rfl)
set_option maxHeartbeats 4000000 in
set_option maxRecDepth 100000 in
theorem c_MO_slotOf (l : Launch) (D : va_G) (k : Nat → ClassId) (q : Nat → Nat) (cd : Int32) (wd : Nat → Nat) (se : Nat → Nat) (kd : Nat → Nat) (bn : Nat → Int32) (sh : Nat → Nat) (mb : Nat → Nat) (pr : Nat) (B : Nat → Nat) (R : Nat → Nat) (sx : Nat) (pt : Nat) (rd : Nat) (wt : Int32) (ln : Nat) (px : Nat → Nat) (hpr : pr < 256) (a : Nat) (ha : a < 256) : ro_i l y_MO_slotOf b_MO_slotOf 2 (some .int) { frames := 1, cells := 0, slots := 0, locals := 23 } D (kT k) (mW q k cd wd se kd bn sh mb pr B R sx pt rd wt ln px) [.ref (q 0), .int (nI a)] (nI (msl pr a)) := by
  refine ro_headi (by decide) (Nat.le_of_ble_eq_true rfl) ?_
  intro p e s m below meth c ls hx hb hr hlocks hml hown hts hP hK hl
  have hown : s.vm.findClass "SlotScreenModel" = some m.cls := hown
  have hl : lv_has ls 2 [(0, .ref (q 0)), (1, .int (nI a))] := hl
  refine lv_aload_n hx hb d_MO_slotOf_0 rfl (lv_at hl 0 rfl) ?_
  refine va_get (D := D) (ci := 7) (v := .int (nI pr)) (C := R_MO) (T := T_MO) (N := 16) hx hb hts in_MO hown hK hP 0 rfl rfl 7 (by decide) (hts _ w_537) (fun _ h9 => h9) rfl d_MO_slotOf_1 ?_
  refine lv_iload_n hx hb d_MO_slotOf_4 rfl (lv_at hl 1 rfl) ?_
  refine lv_bipush (v := nI 64) hx hb d_MO_slotOf_5 (by decide +kernel) ?_
  refine lv_idiv hx hb d_MO_slotOf_7 (by first | decide +kernel | exact nI_ne0 (by omega) (by omega)) ?_
  refine ss_rt (y := nI (a / 64)) (pk_div (by omega) (by omega) (by omega)) ?_
  refine kr_iS (As := [.int (nI pr), .int (nI (a / 64))]) (rest := []) ⟨hx, hb, hml, hown, hts⟩ (c_MO_bits l D k pr (a / 64) (by omega) (by omega)) (va_cwS 2 hts (gS w_606 w_607 w_5 w_608) rfl rfl rfl (by decide +kernel) ⟨Nat.le_of_ble_eq_true rfl, Nat.le_of_ble_eq_true rfl⟩) hK va_nil rfl hl.1 rfl (Nat.le_of_ble_eq_true rfl) d_MO_slotOf_8 ⟨Nat.zero_le _, Nat.zero_le _⟩ ?_
  exact ro_reti hx hb hr hlocks d_MO_slotOf_11 (rfl)
set_option maxHeartbeats 4000000 in
set_option maxRecDepth 100000 in
theorem c_MO_deviceAt (l : Launch) (D : va_G) (k : Nat → ClassId) (q : Nat → Nat) (cd : Int32) (wd : Nat → Nat) (se : Nat → Nat) (kd : Nat → Nat) (bn : Nat → Int32) (sh : Nat → Nat) (mb : Nat → Nat) (pr : Nat) (B : Nat → Nat) (R : Nat → Nat) (sx : Nat) (pt : Nat) (rd : Nat) (wt : Int32) (ln : Nat) (px : Nat → Nat) (hwd : ∀ j, wd j < 2) (hse : ∀ j, se j < 256) (hpr : pr < 256) (a : Nat) (ha : a < 256) : ro_i l y_MO_deviceAt b_MO_deviceAt 3 (some .int) { frames := 2, cells := 0, slots := 0, locals := 44 } D (kT k) (mW q k cd wd se kd bn sh mb pr B R sx pt rd wt ln px) [.ref (q 0), .int (nI a)] (nI (4 * msl pr a + mpg wd se (msl pr a) a)) := by
  refine ro_headi (by decide) (Nat.le_of_ble_eq_true rfl) ?_
  intro p e s m below meth c ls hx hb hr hlocks hml hown hts hP hK hl
  have hown : s.vm.findClass "SlotScreenModel" = some m.cls := hown
  have hl : lv_has ls 3 [(0, .ref (q 0)), (1, .int (nI a))] := hl
  refine lv_aload_n hx hb d_MO_deviceAt_0 rfl (lv_at hl 0 rfl) ?_
  refine lv_iload_n hx hb d_MO_deviceAt_1 rfl (lv_at hl 1 rfl) ?_
  have g1 := msl_lt pr a
  refine kr_iV (As := [.int (nI a)]) (rest := []) ⟨hx, hb, hml, hown, hts⟩ (c_MO_slotOf l D k q cd wd se kd bn sh mb pr B R sx pt rd wt ln px (by omega) a (by omega)) (cwV 1 hts (gV w_602 w_604 w_p13 w_5 w_605) rfl rfl rfl (by decide +kernel) ⟨Nat.le_of_ble_eq_true rfl, Nat.le_of_ble_eq_true rfl⟩) hK hP (va_recv hK hP (ci := 7) (q0 := 0) rfl rfl) rfl hl.1 rfl (Nat.le_of_ble_eq_true rfl) d_MO_deviceAt_2 ⟨Nat.zero_le _, Nat.zero_le _⟩ ?_
  refine lv_istore_n (lv' := [(2, .int (nI (msl pr a))), (0, .ref (q 0)), (1, .int (nI a))]) hx hb d_MO_deviceAt_5 rfl hl (by decide) rfl (fun ls hl => ?_)
  refine lv_iconst (v := nI 4) hx hb d_MO_deviceAt_6 (by decide +kernel) ?_
  refine lv_iload_n hx hb d_MO_deviceAt_7 rfl (lv_at hl 0 rfl) ?_
  refine lv_imul hx hb d_MO_deviceAt_8 ?_
  refine ss_rt (y := nI (4 * (msl pr a))) (pk_mul _ _) ?_
  refine lv_aload_n hx hb d_MO_deviceAt_9 rfl (lv_at hl 1 rfl) ?_
  refine va_get (D := D) (ci := 7) (v := .ref (q 1)) (C := R_MO) (T := T_MO) (N := 16) hx hb hts in_MO hown hK hP 0 rfl rfl 1 (by decide) (hts _ w_531) (fun _ h9 => h9) rfl d_MO_deviceAt_10 ?_
  refine lv_iload_n hx hb d_MO_deviceAt_13 rfl (lv_at hl 0 rfl) ?_
  refine va_zald hx hb hK hP 1 1 rfl rfl (vp_in_nI (by omega) (by omega)) d_MO_deviceAt_14 ?_
  refine ss_rt (y := nI (wd (msl pr a))) (congrArg (fun z => nI (wd z)) (nI_clamp (by omega))) ?_
  have g2 := hwd (msl pr a)
  refine lv_if_eq (tgt := 34) hx hb d_MO_deviceAt_15 (by decide) (fun c3 => ?_) (fun c3 => ?_)
  · have c3 := (n_eq0 (by omega)).mp c3
    refine lv_iconst (v := nI 0) hx hb d_MO_deviceAt_34 (by decide +kernel) ?_
    refine lv_iadd hx hb d_MO_deviceAt_35 ?_
    refine ss_rt (y := nI (4 * (msl pr a) + 0)) (nI_add _ _) ?_
    exact ro_reti hx hb hr hlocks d_MO_deviceAt_36 (by unfold mpg; first | rw [if_pos (by omega)] | rw [if_neg (by omega)])
  · have c3 := mt (n_eq0 (by omega)).mpr c3
    refine lv_aload_n hx hb d_MO_deviceAt_18 rfl (lv_at hl 1 rfl) ?_
    refine va_get (D := D) (ci := 7) (v := .ref (q 2)) (C := R_MO) (T := T_MO) (N := 16) hx hb hts in_MO hown hK hP 0 rfl rfl 2 (by decide) (hts _ w_532) (fun _ h9 => h9) rfl d_MO_deviceAt_19 ?_
    refine lv_iload_n hx hb d_MO_deviceAt_22 rfl (lv_at hl 0 rfl) ?_
    refine va_iald hx hb hK hP 2 0 rfl rfl (vp_in_nI (by omega) (by omega)) d_MO_deviceAt_23 ?_
    refine ss_rt (y := nI (se (msl pr a))) (congrArg (fun z => nI (se z)) (nI_clamp (by omega))) ?_
    have g4 := hse (msl pr a)
    refine lv_iload_n hx hb d_MO_deviceAt_24 rfl (lv_at hl 2 rfl) ?_
    refine lv_bipush (v := nI 64) hx hb d_MO_deviceAt_25 (by decide +kernel) ?_
    refine lv_idiv hx hb d_MO_deviceAt_27 (by first | decide +kernel | exact nI_ne0 (by omega) (by omega)) ?_
    refine ss_rt (y := nI (a / 64)) (pk_div (by omega) (by omega) (by omega)) ?_
    refine kr_iS (As := [.int (nI (se (msl pr a))), .int (nI (a / 64))]) (rest := [.int (nI (4 * (msl pr a)))]) ⟨hx, hb, hml, hown, hts⟩ (c_MO_bits l D k (se (msl pr a)) (a / 64) (by omega) (by omega)) (va_cwS 2 hts (gS w_606 w_607 w_5 w_608) rfl rfl rfl (by decide +kernel) ⟨Nat.le_of_ble_eq_true rfl, Nat.le_of_ble_eq_true rfl⟩) hK va_nil rfl hl.1 rfl (Nat.le_of_ble_eq_true rfl) d_MO_deviceAt_28 ⟨Nat.zero_le _, Nat.zero_le _⟩ ?_
    refine lv_goto (tgt := 35) hx hb d_MO_deviceAt_31 (by decide) ?_
    refine lv_iadd hx hb d_MO_deviceAt_35 ?_
    refine ss_rt (y := nI (4 * (msl pr a) + ((se (msl pr a)) / 4 ^ (a / 64) % 4))) (nI_add _ _) ?_
    exact ro_reti hx hb hr hlocks d_MO_deviceAt_36 (by unfold mpg; first | rw [if_pos (by omega)] | rw [if_neg (by omega)])
set_option maxHeartbeats 4000000 in
set_option maxRecDepth 100000 in
theorem c_MO_placeOf12 (l : Launch) (D : va_G) (k : Nat → ClassId) (q : Nat → Nat) (cd : Int32) (wd : Nat → Nat) (se : Nat → Nat) (kd : Nat → Nat) (bn : Nat → Int32) (sh : Nat → Nat) (mb : Nat → Nat) (pr : Nat) (B : Nat → Nat) (R : Nat → Nat) (sx : Nat) (pt : Nat) (rd : Nat) (wt : Int32) (ln : Nat) (px : Nat → Nat) (hkd : ∀ j, kd j < 5) (hsh : ∀ j, sh j < 8) (hmb : ∀ j, mb j < 256) (d a : Nat) (hd9 : d < 16) (ha : a < 256) (hk : kd d = 1 ∨ kd d = 2) : ro_i l y_MO_placeOf b_MO_placeOf 3 (some .int) { frames := 1, cells := 0, slots := 0, locals := 22 } D (kT k) (mW q k cd wd se kd bn sh mb pr B R sx pt rd wt ln px) [.ref (q 0), .int (nI d), .int (nI a)] (nI (256 * d + a)) := by
  refine ro_headi (by decide) (Nat.le_of_ble_eq_true rfl) ?_
  intro p e s m below meth c ls hx hb hr hlocks hml hown hts hP hK hl
  have hown : s.vm.findClass "SlotScreenModel" = some m.cls := hown
  have hl : lv_has ls 3 [(0, .ref (q 0)), (1, .int (nI d)), (2, .int (nI a))] := hl
  refine lv_aload_n hx hb d_MO_placeOf_0 rfl (lv_at hl 0 rfl) ?_
  refine va_get (D := D) (ci := 7) (v := .ref (q 3)) (C := R_MO) (T := T_MO) (N := 16) hx hb hts in_MO hown hK hP 0 rfl rfl 3 (by decide) (hts _ w_533) (fun _ h9 => h9) rfl d_MO_placeOf_1 ?_
  refine lv_iload_n hx hb d_MO_placeOf_4 rfl (lv_at hl 1 rfl) ?_
  refine va_iald hx hb hK hP 3 0 rfl rfl (vp_in_nI (by omega) (by omega)) d_MO_placeOf_5 ?_
  refine ss_rt (y := nI (kd d)) (congrArg (fun z => nI (kd z)) (nI_clamp (by omega))) ?_
  have g1 := hkd d
  have t9 : (nI (kd d)).toInt = ((kd d : Nat) : Int) := nI_toInt (by omega)
  by_cases c3 : kd d = 1
  · refine lv_tableIn (off := 30) (tgt := 36) hx hb d_MO_placeOf_6 (by rw [t9]; omega) (by rw [t9]; omega) (by rw [t9, show ((kd d : Nat) : Int) = 1 from (by omega)]; decide) (by decide) ?_
    refine lv_sipush (v := nI 256) hx hb d_MO_placeOf_36 (by decide +kernel) ?_
    refine lv_iload_n hx hb d_MO_placeOf_39 rfl (lv_at hl 1 rfl) ?_
    refine lv_imul hx hb d_MO_placeOf_40 ?_
    refine ss_rt (y := nI (256 * d)) (pk_mul _ _) ?_
    refine lv_iload_n hx hb d_MO_placeOf_41 rfl (lv_at hl 2 rfl) ?_
    refine lv_iadd hx hb d_MO_placeOf_42 ?_
    refine ss_rt (y := nI (256 * d + a)) (nI_add _ _) ?_
    exact ro_reti hx hb hr hlocks d_MO_placeOf_43 (rfl)
  by_cases c4 : kd d = 2
  · refine lv_tableIn (off := 30) (tgt := 36) hx hb d_MO_placeOf_6 (by rw [t9]; omega) (by rw [t9]; omega) (by rw [t9, show ((kd d : Nat) : Int) = 2 from (by omega)]; decide) (by decide) ?_
    refine lv_sipush (v := nI 256) hx hb d_MO_placeOf_36 (by decide +kernel) ?_
    refine lv_iload_n hx hb d_MO_placeOf_39 rfl (lv_at hl 1 rfl) ?_
    refine lv_imul hx hb d_MO_placeOf_40 ?_
    refine ss_rt (y := nI (256 * d)) (pk_mul _ _) ?_
    refine lv_iload_n hx hb d_MO_placeOf_41 rfl (lv_at hl 2 rfl) ?_
    refine lv_iadd hx hb d_MO_placeOf_42 ?_
    refine ss_rt (y := nI (256 * d + a)) (nI_add _ _) ?_
    exact ro_reti hx hb hr hlocks d_MO_placeOf_43 (rfl)
  exfalso; omega
set_option maxHeartbeats 4000000 in
set_option maxRecDepth 100000 in
theorem c_MO_placeOf3i (l : Launch) (D : va_G) (k : Nat → ClassId) (q : Nat → Nat) (cd : Int32) (wd : Nat → Nat) (se : Nat → Nat) (kd : Nat → Nat) (bn : Nat → Int32) (sh : Nat → Nat) (mb : Nat → Nat) (pr : Nat) (B : Nat → Nat) (R : Nat → Nat) (sx : Nat) (pt : Nat) (rd : Nat) (wt : Int32) (ln : Nat) (px : Nat → Nat) (hkd : ∀ j, kd j < 5) (hsh : ∀ j, sh j < 8) (hmb : ∀ j, mb j < 256) (d a : Nat) (hd9 : d < 16) (ha : a < 256) (hk : kd d = 3) (h1 : 64 ≤ a) (h2 : a ≤ 191) : ro_i l y_MO_placeOf b_MO_placeOf 3 (some .int) { frames := 1, cells := 0, slots := 0, locals := 22 } D (kT k) (mW q k cd wd se kd bn sh mb pr B R sx pt rd wt ln px) [.ref (q 0), .int (nI d), .int (nI a)] (nI (256 * d + 32 * sh (4 * d + a / 32 - 2) + a % 32)) := by
  refine ro_headi (by decide) (Nat.le_of_ble_eq_true rfl) ?_
  intro p e s m below meth c ls hx hb hr hlocks hml hown hts hP hK hl
  have hown : s.vm.findClass "SlotScreenModel" = some m.cls := hown
  have hl : lv_has ls 3 [(0, .ref (q 0)), (1, .int (nI d)), (2, .int (nI a))] := hl
  refine lv_aload_n hx hb d_MO_placeOf_0 rfl (lv_at hl 0 rfl) ?_
  refine va_get (D := D) (ci := 7) (v := .ref (q 3)) (C := R_MO) (T := T_MO) (N := 16) hx hb hts in_MO hown hK hP 0 rfl rfl 3 (by decide) (hts _ w_533) (fun _ h9 => h9) rfl d_MO_placeOf_1 ?_
  refine lv_iload_n hx hb d_MO_placeOf_4 rfl (lv_at hl 1 rfl) ?_
  refine va_iald hx hb hK hP 3 0 rfl rfl (vp_in_nI (by omega) (by omega)) d_MO_placeOf_5 ?_
  refine ss_rt (y := nI (kd d)) (congrArg (fun z => nI (kd z)) (nI_clamp (by omega))) ?_
  have g1 := hkd d
  have t9 : (nI (kd d)).toInt = ((kd d : Nat) : Int) := nI_toInt (by omega)
  by_cases c3 : kd d = 3
  · refine lv_tableIn (off := 38) (tgt := 44) hx hb d_MO_placeOf_6 (by rw [t9]; omega) (by rw [t9]; omega) (by rw [t9, show ((kd d : Nat) : Int) = 3 from (by omega)]; decide) (by decide) ?_
    refine lv_iload_n hx hb d_MO_placeOf_44 rfl (lv_at hl 2 rfl) ?_
    refine lv_bipush (v := nI 64) hx hb d_MO_placeOf_45 (by decide +kernel) ?_
    refine lv_sipush (v := nI 191) hx hb d_MO_placeOf_47 (by decide +kernel) ?_
    refine kr_iS (As := [.int (nI a), .int (nI 64), .int (nI 191)]) (rest := []) ⟨hx, hb, hml, hown, hts⟩ (c_MO_within l D k a 64 191 (by omega) (by omega) (by omega)) (va_cwS 3 hts (gS w_587 w_588 w_5 w_589) rfl rfl rfl (by decide +kernel) ⟨Nat.le_of_ble_eq_true rfl, Nat.le_of_ble_eq_true rfl⟩) hK va_nil rfl hl.1 rfl (Nat.le_of_ble_eq_true rfl) d_MO_placeOf_50 ⟨Nat.zero_le _, Nat.zero_le _⟩ ?_
    refine lv_if_eq (tgt := 88) hx hb d_MO_placeOf_53 (by decide) (fun c4 => ?_) (fun c4 => ?_)
    · have c4 := (bI_0).mp c4
      exfalso; omega
    · have c4 := mt (bI_0).mpr c4
      have c4 := Classical.not_not.mp c4
      refine lv_sipush (v := nI 256) hx hb d_MO_placeOf_56 (by decide +kernel) ?_
      refine lv_iload_n hx hb d_MO_placeOf_59 rfl (lv_at hl 1 rfl) ?_
      refine lv_imul hx hb d_MO_placeOf_60 ?_
      refine ss_rt (y := nI (256 * d)) (pk_mul _ _) ?_
      refine lv_bipush (v := nI 32) hx hb d_MO_placeOf_61 (by decide +kernel) ?_
      refine lv_aload_n hx hb d_MO_placeOf_63 rfl (lv_at hl 0 rfl) ?_
      refine va_get (D := D) (ci := 7) (v := .ref (q 5)) (C := R_MO) (T := T_MO) (N := 16) hx hb hts in_MO hown hK hP 0 rfl rfl 5 (by decide) (hts _ w_535) (fun _ h9 => h9) rfl d_MO_placeOf_64 ?_
      refine lv_iconst (v := nI 4) hx hb d_MO_placeOf_67 (by decide +kernel) ?_
      refine lv_iload_n hx hb d_MO_placeOf_68 rfl (lv_at hl 1 rfl) ?_
      refine lv_imul hx hb d_MO_placeOf_69 ?_
      refine ss_rt (y := nI (4 * d)) (pk_mul _ _) ?_
      refine lv_iload_n hx hb d_MO_placeOf_70 rfl (lv_at hl 2 rfl) ?_
      refine lv_bipush (v := nI 32) hx hb d_MO_placeOf_71 (by decide +kernel) ?_
      refine lv_idiv hx hb d_MO_placeOf_73 (by first | decide +kernel | exact nI_ne0 (by omega) (by omega)) ?_
      refine ss_rt (y := nI (a / 32)) (pk_div (by omega) (by omega) (by omega)) ?_
      refine lv_iadd hx hb d_MO_placeOf_74 ?_
      refine ss_rt (y := nI (4 * d + (a / 32))) (nI_add _ _) ?_
      refine lv_iconst (v := nI 2) hx hb d_MO_placeOf_75 (by decide +kernel) ?_
      refine lv_isub hx hb d_MO_placeOf_76 ?_
      refine ss_rt (y := nI (4 * d + (a / 32) - 2)) (pk_sub (by omega)) ?_
      refine va_iald hx hb hK hP 5 0 rfl rfl (vp_in_nI (by omega) (by omega)) d_MO_placeOf_77 ?_
      refine ss_rt (y := nI (sh (4 * d + (a / 32) - 2))) (congrArg (fun z => nI (sh z)) (nI_clamp (by omega))) ?_
      have g5 := hsh (4 * d + (a / 32) - 2)
      refine lv_imul hx hb d_MO_placeOf_78 ?_
      refine ss_rt (y := nI (32 * (sh (4 * d + (a / 32) - 2)))) (pk_mul _ _) ?_
      refine lv_iadd hx hb d_MO_placeOf_79 ?_
      refine ss_rt (y := nI (256 * d + (32 * (sh (4 * d + (a / 32) - 2))))) (nI_add _ _) ?_
      refine lv_iload_n hx hb d_MO_placeOf_80 rfl (lv_at hl 2 rfl) ?_
      refine lv_bipush (v := nI 32) hx hb d_MO_placeOf_81 (by decide +kernel) ?_
      refine lv_irem hx hb d_MO_placeOf_83 (by first | decide +kernel | exact nI_ne0 (by omega) (by omega)) ?_
      refine ss_rt (y := nI (a % 32)) (pk_rem (by omega) (by omega) (by omega)) ?_
      refine lv_iadd hx hb d_MO_placeOf_84 ?_
      refine ss_rt (y := nI (256 * d + (32 * (sh (4 * d + (a / 32) - 2))) + (a % 32))) (nI_add _ _) ?_
      refine lv_goto (tgt := 89) hx hb d_MO_placeOf_85 (by decide) ?_
      exact ro_reti hx hb hr hlocks d_MO_placeOf_89 (rfl)
  exfalso; omega
set_option maxHeartbeats 4000000 in
set_option maxRecDepth 100000 in
theorem c_MO_placeOf3o (l : Launch) (D : va_G) (k : Nat → ClassId) (q : Nat → Nat) (cd : Int32) (wd : Nat → Nat) (se : Nat → Nat) (kd : Nat → Nat) (bn : Nat → Int32) (sh : Nat → Nat) (mb : Nat → Nat) (pr : Nat) (B : Nat → Nat) (R : Nat → Nat) (sx : Nat) (pt : Nat) (rd : Nat) (wt : Int32) (ln : Nat) (px : Nat → Nat) (hkd : ∀ j, kd j < 5) (hsh : ∀ j, sh j < 8) (hmb : ∀ j, mb j < 256) (d a : Nat) (hd9 : d < 16) (ha : a < 256) (hk : kd d = 3) (h1 : ¬ (64 ≤ a ∧ a ≤ 191)) : ro_i l y_MO_placeOf b_MO_placeOf 3 (some .int) { frames := 1, cells := 0, slots := 0, locals := 22 } D (kT k) (mW q k cd wd se kd bn sh mb pr B R sx pt rd wt ln px) [.ref (q 0), .int (nI d), .int (nI a)] (-1) := by
  refine ro_headi (by decide) (Nat.le_of_ble_eq_true rfl) ?_
  intro p e s m below meth c ls hx hb hr hlocks hml hown hts hP hK hl
  have hown : s.vm.findClass "SlotScreenModel" = some m.cls := hown
  have hl : lv_has ls 3 [(0, .ref (q 0)), (1, .int (nI d)), (2, .int (nI a))] := hl
  refine lv_aload_n hx hb d_MO_placeOf_0 rfl (lv_at hl 0 rfl) ?_
  refine va_get (D := D) (ci := 7) (v := .ref (q 3)) (C := R_MO) (T := T_MO) (N := 16) hx hb hts in_MO hown hK hP 0 rfl rfl 3 (by decide) (hts _ w_533) (fun _ h9 => h9) rfl d_MO_placeOf_1 ?_
  refine lv_iload_n hx hb d_MO_placeOf_4 rfl (lv_at hl 1 rfl) ?_
  refine va_iald hx hb hK hP 3 0 rfl rfl (vp_in_nI (by omega) (by omega)) d_MO_placeOf_5 ?_
  refine ss_rt (y := nI (kd d)) (congrArg (fun z => nI (kd z)) (nI_clamp (by omega))) ?_
  have g1 := hkd d
  have t9 : (nI (kd d)).toInt = ((kd d : Nat) : Int) := nI_toInt (by omega)
  by_cases c3 : kd d = 3
  · refine lv_tableIn (off := 38) (tgt := 44) hx hb d_MO_placeOf_6 (by rw [t9]; omega) (by rw [t9]; omega) (by rw [t9, show ((kd d : Nat) : Int) = 3 from (by omega)]; decide) (by decide) ?_
    refine lv_iload_n hx hb d_MO_placeOf_44 rfl (lv_at hl 2 rfl) ?_
    refine lv_bipush (v := nI 64) hx hb d_MO_placeOf_45 (by decide +kernel) ?_
    refine lv_sipush (v := nI 191) hx hb d_MO_placeOf_47 (by decide +kernel) ?_
    refine kr_iS (As := [.int (nI a), .int (nI 64), .int (nI 191)]) (rest := []) ⟨hx, hb, hml, hown, hts⟩ (c_MO_within l D k a 64 191 (by omega) (by omega) (by omega)) (va_cwS 3 hts (gS w_587 w_588 w_5 w_589) rfl rfl rfl (by decide +kernel) ⟨Nat.le_of_ble_eq_true rfl, Nat.le_of_ble_eq_true rfl⟩) hK va_nil rfl hl.1 rfl (Nat.le_of_ble_eq_true rfl) d_MO_placeOf_50 ⟨Nat.zero_le _, Nat.zero_le _⟩ ?_
    refine lv_if_eq (tgt := 88) hx hb d_MO_placeOf_53 (by decide) (fun c4 => ?_) (fun c4 => ?_)
    · have c4 := (bI_0).mp c4
      refine lv_iconst (v := (-1)) hx hb d_MO_placeOf_88 (by decide +kernel) ?_
      exact ro_reti hx hb hr hlocks d_MO_placeOf_89 (rfl)
    · have c4 := mt (bI_0).mpr c4
      have c4 := Classical.not_not.mp c4
      exfalso; omega
  exfalso; omega
set_option maxHeartbeats 4000000 in
set_option maxRecDepth 100000 in
theorem c_MO_placeOf4 (l : Launch) (D : va_G) (k : Nat → ClassId) (q : Nat → Nat) (cd : Int32) (wd : Nat → Nat) (se : Nat → Nat) (kd : Nat → Nat) (bn : Nat → Int32) (sh : Nat → Nat) (mb : Nat → Nat) (pr : Nat) (B : Nat → Nat) (R : Nat → Nat) (sx : Nat) (pt : Nat) (rd : Nat) (wt : Int32) (ln : Nat) (px : Nat → Nat) (hkd : ∀ j, kd j < 5) (hsh : ∀ j, sh j < 8) (hmb : ∀ j, mb j < 256) (d a : Nat) (hd9 : d < 16) (ha : a < 256) (hk : kd d = 4) : ro_i l y_MO_placeOf b_MO_placeOf 3 (some .int) { frames := 1, cells := 0, slots := 0, locals := 22 } D (kT k) (mW q k cd wd se kd bn sh mb pr B R sx pt rd wt ln px) [.ref (q 0), .int (nI d), .int (nI a)] (nI (256 * d + a % 64)) := by
  refine ro_headi (by decide) (Nat.le_of_ble_eq_true rfl) ?_
  intro p e s m below meth c ls hx hb hr hlocks hml hown hts hP hK hl
  have hown : s.vm.findClass "SlotScreenModel" = some m.cls := hown
  have hl : lv_has ls 3 [(0, .ref (q 0)), (1, .int (nI d)), (2, .int (nI a))] := hl
  refine lv_aload_n hx hb d_MO_placeOf_0 rfl (lv_at hl 0 rfl) ?_
  refine va_get (D := D) (ci := 7) (v := .ref (q 3)) (C := R_MO) (T := T_MO) (N := 16) hx hb hts in_MO hown hK hP 0 rfl rfl 3 (by decide) (hts _ w_533) (fun _ h9 => h9) rfl d_MO_placeOf_1 ?_
  refine lv_iload_n hx hb d_MO_placeOf_4 rfl (lv_at hl 1 rfl) ?_
  refine va_iald hx hb hK hP 3 0 rfl rfl (vp_in_nI (by omega) (by omega)) d_MO_placeOf_5 ?_
  refine ss_rt (y := nI (kd d)) (congrArg (fun z => nI (kd z)) (nI_clamp (by omega))) ?_
  have g1 := hkd d
  have t9 : (nI (kd d)).toInt = ((kd d : Nat) : Int) := nI_toInt (by omega)
  by_cases c3 : kd d = 4
  · refine lv_tableIn (off := 84) (tgt := 90) hx hb d_MO_placeOf_6 (by rw [t9]; omega) (by rw [t9]; omega) (by rw [t9, show ((kd d : Nat) : Int) = 4 from (by omega)]; decide) (by decide) ?_
    refine lv_sipush (v := nI 256) hx hb d_MO_placeOf_90 (by decide +kernel) ?_
    refine lv_iload_n hx hb d_MO_placeOf_93 rfl (lv_at hl 1 rfl) ?_
    refine lv_imul hx hb d_MO_placeOf_94 ?_
    refine ss_rt (y := nI (256 * d)) (pk_mul _ _) ?_
    refine lv_iload_n hx hb d_MO_placeOf_95 rfl (lv_at hl 2 rfl) ?_
    refine lv_bipush (v := nI 64) hx hb d_MO_placeOf_96 (by decide +kernel) ?_
    refine lv_irem hx hb d_MO_placeOf_98 (by first | decide +kernel | exact nI_ne0 (by omega) (by omega)) ?_
    refine ss_rt (y := nI (a % 64)) (pk_rem (by omega) (by omega) (by omega)) ?_
    refine lv_iadd hx hb d_MO_placeOf_99 ?_
    refine ss_rt (y := nI (256 * d + (a % 64))) (nI_add _ _) ?_
    exact ro_reti hx hb hr hlocks d_MO_placeOf_100 (rfl)
  exfalso; omega
set_option maxHeartbeats 4000000 in
set_option maxRecDepth 100000 in
theorem c_MO_placeOf0 (l : Launch) (D : va_G) (k : Nat → ClassId) (q : Nat → Nat) (cd : Int32) (wd : Nat → Nat) (se : Nat → Nat) (kd : Nat → Nat) (bn : Nat → Int32) (sh : Nat → Nat) (mb : Nat → Nat) (pr : Nat) (B : Nat → Nat) (R : Nat → Nat) (sx : Nat) (pt : Nat) (rd : Nat) (wt : Int32) (ln : Nat) (px : Nat → Nat) (hkd : ∀ j, kd j < 5) (hsh : ∀ j, sh j < 8) (hmb : ∀ j, mb j < 256) (d a : Nat) (hd9 : d < 16) (ha : a < 256) (hk : kd d = 0) : ro_i l y_MO_placeOf b_MO_placeOf 3 (some .int) { frames := 1, cells := 0, slots := 0, locals := 22 } D (kT k) (mW q k cd wd se kd bn sh mb pr B R sx pt rd wt ln px) [.ref (q 0), .int (nI d), .int (nI a)] (-1) := by
  refine ro_headi (by decide) (Nat.le_of_ble_eq_true rfl) ?_
  intro p e s m below meth c ls hx hb hr hlocks hml hown hts hP hK hl
  have hown : s.vm.findClass "SlotScreenModel" = some m.cls := hown
  have hl : lv_has ls 3 [(0, .ref (q 0)), (1, .int (nI d)), (2, .int (nI a))] := hl
  refine lv_aload_n hx hb d_MO_placeOf_0 rfl (lv_at hl 0 rfl) ?_
  refine va_get (D := D) (ci := 7) (v := .ref (q 3)) (C := R_MO) (T := T_MO) (N := 16) hx hb hts in_MO hown hK hP 0 rfl rfl 3 (by decide) (hts _ w_533) (fun _ h9 => h9) rfl d_MO_placeOf_1 ?_
  refine lv_iload_n hx hb d_MO_placeOf_4 rfl (lv_at hl 1 rfl) ?_
  refine va_iald hx hb hK hP 3 0 rfl rfl (vp_in_nI (by omega) (by omega)) d_MO_placeOf_5 ?_
  refine ss_rt (y := nI (kd d)) (congrArg (fun z => nI (kd z)) (nI_clamp (by omega))) ?_
  have g1 := hkd d
  have t9 : (nI (kd d)).toInt = ((kd d : Nat) : Int) := nI_toInt (by omega)
  refine lv_tableOut (tgt := 101) hx hb d_MO_placeOf_6 (by rw [t9]; omega) (by decide) ?_
  refine lv_iconst (v := (-1)) hx hb d_MO_placeOf_101 (by decide +kernel) ?_
  exact ro_reti hx hb hr hlocks d_MO_placeOf_102 (rfl)
set_option maxHeartbeats 4000000 in
set_option maxRecDepth 100000 in
theorem c_MO_get (l : Launch) (D : va_G) (k : Nat → ClassId) (q : Nat → Nat) (cd : Int32) (wd : Nat → Nat) (se : Nat → Nat) (kd : Nat → Nat) (bn : Nat → Int32) (sh : Nat → Nat) (mb : Nat → Nat) (pr : Nat) (B : Nat → Nat) (R : Nat → Nat) (sx : Nat) (pt : Nat) (rd : Nat) (wt : Int32) (ln : Nat) (px : Nat → Nat) (hkd : ∀ j, kd j < 5) (hsh : ∀ j, sh j < 8) (hmb : ∀ j, mb j < 256) (d a : Nat) (hd9 : d < 16) (ha : a < 256) : ro_i l y_MO_get b_MO_get 4 (some .int) { frames := 2, cells := 0, slots := 0, locals := 44 } D (kT k) (mW q k cd wd se kd bn sh mb pr B R sx pt rd wt ln px) [.ref (q 0), .int (nI d), .int (nI a)] (nI (mget kd sh mb d a)) := by
  refine ro_headi (by decide) (Nat.le_of_ble_eq_true rfl) ?_
  intro p e s m below meth c ls hx hb hr hlocks hml hown hts hP hK hl
  have hown : s.vm.findClass "SlotScreenModel" = some m.cls := hown
  have hl : lv_has ls 4 [(0, .ref (q 0)), (1, .int (nI d)), (2, .int (nI a))] := hl
  have k9 := hkd d
  by_cases h_0 : kd d = 1 ∨ kd d = 2
  · skip
    refine lv_aload_n hx hb d_MO_get_0 rfl (lv_at hl 0 rfl) ?_
    refine lv_iload_n hx hb d_MO_get_1 rfl (lv_at hl 1 rfl) ?_
    refine lv_iload_n hx hb d_MO_get_2 rfl (lv_at hl 2 rfl) ?_
    refine kr_iV (As := [.int (nI d), .int (nI a)]) (rest := []) ⟨hx, hb, hml, hown, hts⟩ (c_MO_placeOf12 l D k q cd wd se kd bn sh mb pr B R sx pt rd wt ln px hkd hsh hmb d a (by omega) (by omega) (by omega)) (cwV 2 hts (gV w_617 w_619 w_p16 w_5 w_620) rfl rfl rfl (by decide +kernel) ⟨Nat.le_of_ble_eq_true rfl, Nat.le_of_ble_eq_true rfl⟩) hK hP (va_recv hK hP (ci := 7) (q0 := 0) rfl rfl) rfl hl.1 rfl (Nat.le_of_ble_eq_true rfl) d_MO_get_3 ⟨Nat.zero_le _, Nat.zero_le _⟩ ?_
    refine lv_istore_n (lv' := [(3, .int (nI (256 * d + a))), (0, .ref (q 0)), (1, .int (nI d)), (2, .int (nI a))]) hx hb d_MO_get_6 rfl hl (by decide) rfl (fun ls hl => ?_)
    refine lv_iload_n hx hb d_MO_get_7 rfl (lv_at hl 0 rfl) ?_
    refine lv_if_ge (tgt := 17) hx hb d_MO_get_8 (by decide) (fun c1 => ?_) (fun c1 => ?_)
    · have c1 := (n_ge0 (by omega)).mp c1
      refine lv_aload_n hx hb d_MO_get_17 rfl (lv_at hl 1 rfl) ?_
      refine va_get (D := D) (ci := 7) (v := .ref (q 6)) (C := R_MO) (T := T_MO) (N := 16) hx hb hts in_MO hown hK hP 0 rfl rfl 6 (by decide) (hts _ w_536) (fun _ h9 => h9) rfl d_MO_get_18 ?_
      refine lv_iload_n hx hb d_MO_get_21 rfl (lv_at hl 0 rfl) ?_
      refine va_iald hx hb hK hP 6 0 rfl rfl (vp_in_nI (by omega) (by omega)) d_MO_get_22 ?_
      refine ss_rt (y := nI (mb (256 * d + a))) (congrArg (fun z => nI (mb z)) (nI_clamp (by omega))) ?_
      have g2 := hmb (256 * d + a)
      exact ro_reti hx hb hr hlocks d_MO_get_23 (by unfold mget; rw [if_pos (by omega)])
    · have c1 := mt (n_ge0 (by omega)).mpr c1
      exfalso; omega
  by_cases h_1 : kd d = 3 ∧ 64 ≤ a ∧ a ≤ 191
  · skip
    refine lv_aload_n hx hb d_MO_get_0 rfl (lv_at hl 0 rfl) ?_
    refine lv_iload_n hx hb d_MO_get_1 rfl (lv_at hl 1 rfl) ?_
    refine lv_iload_n hx hb d_MO_get_2 rfl (lv_at hl 2 rfl) ?_
    have g3 := hsh (4 * d + a / 32 - 2)
    refine kr_iV (As := [.int (nI d), .int (nI a)]) (rest := []) ⟨hx, hb, hml, hown, hts⟩ (c_MO_placeOf3i l D k q cd wd se kd bn sh mb pr B R sx pt rd wt ln px hkd hsh hmb d a (by omega) (by omega) (by omega) (by omega) (by omega)) (cwV 2 hts (gV w_617 w_619 w_p16 w_5 w_620) rfl rfl rfl (by decide +kernel) ⟨Nat.le_of_ble_eq_true rfl, Nat.le_of_ble_eq_true rfl⟩) hK hP (va_recv hK hP (ci := 7) (q0 := 0) rfl rfl) rfl hl.1 rfl (Nat.le_of_ble_eq_true rfl) d_MO_get_3 ⟨Nat.zero_le _, Nat.zero_le _⟩ ?_
    refine lv_istore_n (lv' := [(3, .int (nI (256 * d + 32 * sh (4 * d + a / 32 - 2) + a % 32))), (0, .ref (q 0)), (1, .int (nI d)), (2, .int (nI a))]) hx hb d_MO_get_6 rfl hl (by decide) rfl (fun ls hl => ?_)
    refine lv_iload_n hx hb d_MO_get_7 rfl (lv_at hl 0 rfl) ?_
    refine lv_if_ge (tgt := 17) hx hb d_MO_get_8 (by decide) (fun c4 => ?_) (fun c4 => ?_)
    · have c4 := (n_ge0 (by omega)).mp c4
      refine lv_aload_n hx hb d_MO_get_17 rfl (lv_at hl 1 rfl) ?_
      refine va_get (D := D) (ci := 7) (v := .ref (q 6)) (C := R_MO) (T := T_MO) (N := 16) hx hb hts in_MO hown hK hP 0 rfl rfl 6 (by decide) (hts _ w_536) (fun _ h9 => h9) rfl d_MO_get_18 ?_
      refine lv_iload_n hx hb d_MO_get_21 rfl (lv_at hl 0 rfl) ?_
      refine va_iald hx hb hK hP 6 0 rfl rfl (vp_in_nI (by omega) (by omega)) d_MO_get_22 ?_
      refine ss_rt (y := nI (mb (256 * d + 32 * sh (4 * d + a / 32 - 2) + a % 32))) (congrArg (fun z => nI (mb z)) (nI_clamp (by omega))) ?_
      have g5 := hmb (256 * d + 32 * sh (4 * d + a / 32 - 2) + a % 32)
      exact ro_reti hx hb hr hlocks d_MO_get_23 (by unfold mget; rw [if_neg (by omega), if_pos (by omega), if_pos (by omega)])
    · have c4 := mt (n_ge0 (by omega)).mpr c4
      exfalso; omega
  by_cases h_2 : kd d = 3
  · skip
    refine lv_aload_n hx hb d_MO_get_0 rfl (lv_at hl 0 rfl) ?_
    refine lv_iload_n hx hb d_MO_get_1 rfl (lv_at hl 1 rfl) ?_
    refine lv_iload_n hx hb d_MO_get_2 rfl (lv_at hl 2 rfl) ?_
    refine kr_iV (As := [.int (nI d), .int (nI a)]) (rest := []) ⟨hx, hb, hml, hown, hts⟩ (c_MO_placeOf3o l D k q cd wd se kd bn sh mb pr B R sx pt rd wt ln px hkd hsh hmb d a (by omega) (by omega) (by omega) (by omega)) (cwV 2 hts (gV w_617 w_619 w_p16 w_5 w_620) rfl rfl rfl (by decide +kernel) ⟨Nat.le_of_ble_eq_true rfl, Nat.le_of_ble_eq_true rfl⟩) hK hP (va_recv hK hP (ci := 7) (q0 := 0) rfl rfl) rfl hl.1 rfl (Nat.le_of_ble_eq_true rfl) d_MO_get_3 ⟨Nat.zero_le _, Nat.zero_le _⟩ ?_
    refine lv_istore_n (lv' := [(3, .int (-1)), (0, .ref (q 0)), (1, .int (nI d)), (2, .int (nI a))]) hx hb d_MO_get_6 rfl hl (by decide) rfl (fun ls hl => ?_)
    refine lv_iload_n hx hb d_MO_get_7 rfl (lv_at hl 0 rfl) ?_
    refine lv_if_ge (tgt := 17) hx hb d_MO_get_8 (by decide) (fun c6 => ?_) (fun c6 => ?_)
    · have c6 := (z_ge0).mp c6
      exact absurd c6 (by decide +kernel)
    · have c6 := mt (z_ge0).mpr c6
      refine lv_sipush (v := nI 255) hx hb d_MO_get_11 (by decide +kernel) ?_
      refine lv_goto (tgt := 23) hx hb d_MO_get_14 (by decide) ?_
      exact ro_reti hx hb hr hlocks d_MO_get_23 (by unfold mget; rw [if_neg (by omega), if_pos (by omega), if_neg (by omega)])
  by_cases h_3 : kd d = 4
  · skip
    refine lv_aload_n hx hb d_MO_get_0 rfl (lv_at hl 0 rfl) ?_
    refine lv_iload_n hx hb d_MO_get_1 rfl (lv_at hl 1 rfl) ?_
    refine lv_iload_n hx hb d_MO_get_2 rfl (lv_at hl 2 rfl) ?_
    refine kr_iV (As := [.int (nI d), .int (nI a)]) (rest := []) ⟨hx, hb, hml, hown, hts⟩ (c_MO_placeOf4 l D k q cd wd se kd bn sh mb pr B R sx pt rd wt ln px hkd hsh hmb d a (by omega) (by omega) (by omega)) (cwV 2 hts (gV w_617 w_619 w_p16 w_5 w_620) rfl rfl rfl (by decide +kernel) ⟨Nat.le_of_ble_eq_true rfl, Nat.le_of_ble_eq_true rfl⟩) hK hP (va_recv hK hP (ci := 7) (q0 := 0) rfl rfl) rfl hl.1 rfl (Nat.le_of_ble_eq_true rfl) d_MO_get_3 ⟨Nat.zero_le _, Nat.zero_le _⟩ ?_
    refine lv_istore_n (lv' := [(3, .int (nI (256 * d + a % 64))), (0, .ref (q 0)), (1, .int (nI d)), (2, .int (nI a))]) hx hb d_MO_get_6 rfl hl (by decide) rfl (fun ls hl => ?_)
    refine lv_iload_n hx hb d_MO_get_7 rfl (lv_at hl 0 rfl) ?_
    refine lv_if_ge (tgt := 17) hx hb d_MO_get_8 (by decide) (fun c7 => ?_) (fun c7 => ?_)
    · have c7 := (n_ge0 (by omega)).mp c7
      refine lv_aload_n hx hb d_MO_get_17 rfl (lv_at hl 1 rfl) ?_
      refine va_get (D := D) (ci := 7) (v := .ref (q 6)) (C := R_MO) (T := T_MO) (N := 16) hx hb hts in_MO hown hK hP 0 rfl rfl 6 (by decide) (hts _ w_536) (fun _ h9 => h9) rfl d_MO_get_18 ?_
      refine lv_iload_n hx hb d_MO_get_21 rfl (lv_at hl 0 rfl) ?_
      refine va_iald hx hb hK hP 6 0 rfl rfl (vp_in_nI (by omega) (by omega)) d_MO_get_22 ?_
      refine ss_rt (y := nI (mb (256 * d + a % 64))) (congrArg (fun z => nI (mb z)) (nI_clamp (by omega))) ?_
      have g8 := hmb (256 * d + a % 64)
      exact ro_reti hx hb hr hlocks d_MO_get_23 (by unfold mget; rw [if_neg (by omega), if_neg (by omega), if_pos (by omega)])
    · have c7 := mt (n_ge0 (by omega)).mpr c7
      exfalso; omega
  refine lv_aload_n hx hb d_MO_get_0 rfl (lv_at hl 0 rfl) ?_
  refine lv_iload_n hx hb d_MO_get_1 rfl (lv_at hl 1 rfl) ?_
  refine lv_iload_n hx hb d_MO_get_2 rfl (lv_at hl 2 rfl) ?_
  refine kr_iV (As := [.int (nI d), .int (nI a)]) (rest := []) ⟨hx, hb, hml, hown, hts⟩ (c_MO_placeOf0 l D k q cd wd se kd bn sh mb pr B R sx pt rd wt ln px hkd hsh hmb d a (by omega) (by omega) (by omega)) (cwV 2 hts (gV w_617 w_619 w_p16 w_5 w_620) rfl rfl rfl (by decide +kernel) ⟨Nat.le_of_ble_eq_true rfl, Nat.le_of_ble_eq_true rfl⟩) hK hP (va_recv hK hP (ci := 7) (q0 := 0) rfl rfl) rfl hl.1 rfl (Nat.le_of_ble_eq_true rfl) d_MO_get_3 ⟨Nat.zero_le _, Nat.zero_le _⟩ ?_
  refine lv_istore_n (lv' := [(3, .int (-1)), (0, .ref (q 0)), (1, .int (nI d)), (2, .int (nI a))]) hx hb d_MO_get_6 rfl hl (by decide) rfl (fun ls hl => ?_)
  refine lv_iload_n hx hb d_MO_get_7 rfl (lv_at hl 0 rfl) ?_
  refine lv_if_ge (tgt := 17) hx hb d_MO_get_8 (by decide) (fun c9 => ?_) (fun c9 => ?_)
  · have c9 := (z_ge0).mp c9
    exact absurd c9 (by decide +kernel)
  · have c9 := mt (z_ge0).mpr c9
    refine lv_sipush (v := nI 255) hx hb d_MO_get_11 (by decide +kernel) ?_
    refine lv_goto (tgt := 23) hx hb d_MO_get_14 (by decide) ?_
    exact ro_reti hx hb hr hlocks d_MO_get_23 (by unfold mget; rw [if_neg (by omega), if_neg (by omega), if_neg (by omega)])
end
section
set_option maxHeartbeats 4000000 in
set_option maxRecDepth 100000 in
theorem c_MO_readb (l : Launch) (D : va_G) (k : Nat → ClassId) (q : Nat → Nat) (cd : Int32) (wd : Nat → Nat) (se : Nat → Nat) (kd : Nat → Nat) (bn : Nat → Int32) (sh : Nat → Nat) (mb : Nat → Nat) (pr : Nat) (B : Nat → Nat) (R : Nat → Nat) (sx : Nat) (pt : Nat) (rd : Nat) (wt : Int32) (ln : Nat) (px : Nat → Nat) (x : Int32) (hx9 : x.toInt < 0 ∨ 255 < x.toInt) : rw_i l y_MO_read b_MO_read 3 (some .int) { frames := 3, cells := 0, slots := 0, locals := 67 } D (kT k) (mW q k cd wd se kd bn sh mb pr B R sx pt rd wt ln px) [.ref (q 0), .int x] (fun (r : Int32) (_ : Unit) => r = nI 0) (fun (_ : Unit) => (mW q k (nI 1) wd se kd bn sh mb pr B R sx pt rd wt ln px)) := by
  refine rw_headi (by decide) (Nat.le_of_ble_eq_true rfl) ?_
  intro p e s m below meth c ls A hx hb hr hlocks hml hown hts hK hA hP hD hS hl
  have hown : s.vm.findClass "SlotScreenModel" = some m.cls := hown
  have hl : lv_has ls 3 [(0, .ref (q 0)), (1, .int x)] := hl
  refine lv_aload_n hx hb d_MO_read_0 rfl (lv_at hl 0 rfl) ?_
  refine lv_iload_n hx hb d_MO_read_1 rfl (lv_at hl 1 rfl) ?_
  refine lv_iconst (v := nI 0) hx hb d_MO_read_2 (by decide +kernel) ?_
  refine lv_sipush (v := nI 255) hx hb d_MO_read_3 (by decide +kernel) ?_
  refine kr_iS (As := [.int x, .int (nI 0), .int (nI 255)]) (rest := [.ref (q 0)]) ⟨hx, hb, hml, hown, hts⟩ (c_MO_withinZ l D k x 0 255 (by omega) (by omega)) (va_cwS 3 hts (gS w_587 w_588 w_5 w_589) rfl rfl rfl (by decide +kernel) ⟨Nat.le_of_ble_eq_true rfl, Nat.le_of_ble_eq_true rfl⟩) hK va_nil rfl hl.1 rfl (Nat.le_of_ble_eq_true rfl) d_MO_read_6 ⟨Nat.zero_le _, Nat.zero_le _⟩ ?_
  refine lv_if_eq (tgt := 16) hx hb d_MO_read_9 (by decide) (fun c1 => ?_) (fun c1 => ?_)
  · have c1 := (bI_0).mp c1
    refine lv_iconst (v := nI 1) hx hb d_MO_read_16 (by decide +kernel) ?_
    refine va_put (D := D) (ci := 7) (v := .int (nI 1)) (ty := .int) (C := R_MO) (T := T_MO) (N := 16) hx hb hts in_MO t_MO o_MO n_MO hown hK hP hD hS 0 rfl rfl 0 (by decide) (hts _ w_530) (fun _ h9 => h9) rfl (by decide +kernel) rfl rfl (Nat.le_of_ble_eq_true rfl) d_MO_read_17 (fun H locs hP hD hS => ?_)
    have hP : va_P D vwCl (mW q k (nI 1) wd se kd bn sh mb pr B R sx pt rd wt ln px) H := hP
    have hD : va_D A (mW q k (nI 1) wd se kd bn sh mb pr B R sx pt rd wt ln px) := hD
    refine lv_aload_n hx hb d_MO_read_20 rfl (lv_at hl 0 rfl) ?_
    refine va_get (D := D) (ci := 7) (v := .int (nI 1)) (C := R_MO) (T := T_MO) (N := 16) hx hb hts in_MO hown hK hP 0 rfl rfl 0 (by decide) (hts _ w_530) (fun _ h9 => h9) rfl d_MO_read_21 ?_
    refine lv_if_eq (tgt := 29) hx hb d_MO_read_24 (by decide) (fun c2 => ?_) (fun c2 => ?_)
    · have c2 := (n_eq0 (by omega)).mp c2
      exfalso; omega
    · have c2 := mt (n_eq0 (by omega)).mpr c2
      refine lv_iconst (v := nI 0) hx hb d_MO_read_27 (by decide +kernel) ?_
      exact rw_reti hx hb hr hlocks d_MO_read_28 hS () (rfl) hP
  · have c1 := mt (bI_0).mpr c1
    have c1 := Classical.not_not.mp c1
    exfalso; omega
set_option maxHeartbeats 4000000 in
set_option maxRecDepth 100000 in
theorem c_MO_read (l : Launch) (D : va_G) (k : Nat → ClassId) (q : Nat → Nat) (cd : Int32) (wd : Nat → Nat) (se : Nat → Nat) (kd : Nat → Nat) (bn : Nat → Int32) (sh : Nat → Nat) (mb : Nat → Nat) (pr : Nat) (B : Nat → Nat) (R : Nat → Nat) (sx : Nat) (pt : Nat) (rd : Nat) (wt : Int32) (ln : Nat) (px : Nat → Nat) (hwd : ∀ j, wd j < 2) (hse : ∀ j, se j < 256) (hpr : pr < 256) (hkd : ∀ j, kd j < 5) (hsh : ∀ j, sh j < 8) (hmb : ∀ j, mb j < 256) (a : Nat) (ha : a < 256) : rw_i l y_MO_read b_MO_read 3 (some .int) { frames := 3, cells := 0, slots := 0, locals := 67 } D (kT k) (mW q k cd wd se kd bn sh mb pr B R sx pt rd wt ln px) [.ref (q 0), .int (nI a)] (fun (r : Int32) (_ : Unit) => r = nI (if a = 255 ∧ wd (msl pr a) = 1 then 255 - se (msl pr a) else mget kd sh mb (4 * msl pr a + mpg wd se (msl pr a) a) a)) (fun (_ : Unit) => (mW q k (nI 0) wd se kd bn sh mb pr B R sx pt rd wt ln px)) := by
  refine rw_headi (by decide) (Nat.le_of_ble_eq_true rfl) ?_
  intro p e s m below meth c ls A hx hb hr hlocks hml hown hts hK hA hP hD hS hl
  have hown : s.vm.findClass "SlotScreenModel" = some m.cls := hown
  have hl : lv_has ls 3 [(0, .ref (q 0)), (1, .int (nI a))] := hl
  have z1 := msl_lt pr a
  have z2 := mpg_lt wd se (msl pr a) a
  refine lv_aload_n hx hb d_MO_read_0 rfl (lv_at hl 0 rfl) ?_
  refine lv_iload_n hx hb d_MO_read_1 rfl (lv_at hl 1 rfl) ?_
  refine lv_iconst (v := nI 0) hx hb d_MO_read_2 (by decide +kernel) ?_
  refine lv_sipush (v := nI 255) hx hb d_MO_read_3 (by decide +kernel) ?_
  refine kr_iS (As := [.int (nI a), .int (nI 0), .int (nI 255)]) (rest := [.ref (q 0)]) ⟨hx, hb, hml, hown, hts⟩ (c_MO_within l D k a 0 255 (by omega) (by omega) (by omega)) (va_cwS 3 hts (gS w_587 w_588 w_5 w_589) rfl rfl rfl (by decide +kernel) ⟨Nat.le_of_ble_eq_true rfl, Nat.le_of_ble_eq_true rfl⟩) hK va_nil rfl hl.1 rfl (Nat.le_of_ble_eq_true rfl) d_MO_read_6 ⟨Nat.zero_le _, Nat.zero_le _⟩ ?_
  refine lv_if_eq (tgt := 16) hx hb d_MO_read_9 (by decide) (fun c1 => ?_) (fun c1 => ?_)
  · have c1 := (bI_0).mp c1
    exfalso; omega
  · have c1 := mt (bI_0).mpr c1
    have c1 := Classical.not_not.mp c1
    refine lv_iconst (v := nI 0) hx hb d_MO_read_12 (by decide +kernel) ?_
    refine lv_goto (tgt := 17) hx hb d_MO_read_13 (by decide) ?_
    refine va_put (D := D) (ci := 7) (v := .int (nI 0)) (ty := .int) (C := R_MO) (T := T_MO) (N := 16) hx hb hts in_MO t_MO o_MO n_MO hown hK hP hD hS 0 rfl rfl 0 (by decide) (hts _ w_530) (fun _ h9 => h9) rfl (by decide +kernel) rfl rfl (Nat.le_of_ble_eq_true rfl) d_MO_read_17 (fun H locs hP hD hS => ?_)
    have hP : va_P D vwCl (mW q k (nI 0) wd se kd bn sh mb pr B R sx pt rd wt ln px) H := hP
    have hD : va_D A (mW q k (nI 0) wd se kd bn sh mb pr B R sx pt rd wt ln px) := hD
    refine lv_aload_n hx hb d_MO_read_20 rfl (lv_at hl 0 rfl) ?_
    refine va_get (D := D) (ci := 7) (v := .int (nI 0)) (C := R_MO) (T := T_MO) (N := 16) hx hb hts in_MO hown hK hP 0 rfl rfl 0 (by decide) (hts _ w_530) (fun _ h9 => h9) rfl d_MO_read_21 ?_
    refine lv_if_eq (tgt := 29) hx hb d_MO_read_24 (by decide) (fun c2 => ?_) (fun c2 => ?_)
    · have c2 := (n_eq0 (by omega)).mp c2
      refine lv_aload_n hx hb d_MO_read_29 rfl (lv_at hl 0 rfl) ?_
      refine lv_iload_n hx hb d_MO_read_30 rfl (lv_at hl 1 rfl) ?_
      have g3 := msl_lt pr a
      refine kr_iV (As := [.int (nI a)]) (rest := []) ⟨hx, hb, hml, hown, hts⟩ (c_MO_slotOf l D k q (nI 0) wd se kd bn sh mb pr B R sx pt rd wt ln px (by omega) a (by omega)) (cwV 1 hts (gV w_602 w_604 w_p13 w_5 w_605) rfl rfl rfl (by decide +kernel) ⟨Nat.le_of_ble_eq_true rfl, Nat.le_of_ble_eq_true rfl⟩) hK hP (va_recv hK hP (ci := 7) (q0 := 0) rfl rfl) rfl hl.1 rfl (Nat.le_of_ble_eq_true rfl) d_MO_read_31 ⟨Nat.zero_le _, Nat.zero_le _⟩ ?_
      refine lv_istore_n (lv' := [(2, .int (nI (msl pr a))), (0, .ref (q 0)), (1, .int (nI a))]) hx hb d_MO_read_34 rfl hl (by decide) rfl (fun ls hl => ?_)
      refine lv_iload_n hx hb d_MO_read_35 rfl (lv_at hl 2 rfl) ?_
      refine lv_sipush (v := nI 255) hx hb d_MO_read_36 (by decide +kernel) ?_
      refine lv_icmp_ne (tgt := 64) hx hb d_MO_read_39 (by decide) (fun c4 => ?_) (fun c4 => ?_)
      · have c4 := mt (nI_eq (by omega) (by omega)).mpr c4
        refine lv_aload_n hx hb d_MO_read_64 rfl (lv_at hl 1 rfl) ?_
        refine lv_aload_n hx hb d_MO_read_65 rfl (lv_at hl 1 rfl) ?_
        refine lv_iload_n hx hb d_MO_read_66 rfl (lv_at hl 2 rfl) ?_
        have g5 := msl_lt pr a
        have g6 := mpg_lt wd se (msl pr a) a
        refine kr_iV (As := [.int (nI a)]) (rest := [.ref (q 0)]) ⟨hx, hb, hml, hown, hts⟩ (c_MO_deviceAt l D k q (nI 0) wd se kd bn sh mb pr B R sx pt rd wt ln px hwd hse hpr a (by omega)) (cwV 1 hts (gV w_609 w_611 w_p14 w_5 w_612) rfl rfl rfl (by decide +kernel) ⟨Nat.le_of_ble_eq_true rfl, Nat.le_of_ble_eq_true rfl⟩) hK hP (va_recv hK hP (ci := 7) (q0 := 0) rfl rfl) rfl hl.1 rfl (Nat.le_of_ble_eq_true rfl) d_MO_read_67 ⟨Nat.zero_le _, Nat.zero_le _⟩ ?_
        refine lv_iload_n hx hb d_MO_read_70 rfl (lv_at hl 2 rfl) ?_
        refine kr_iV (As := [.int (nI (4 * msl pr a + mpg wd se (msl pr a) a)), .int (nI a)]) (rest := []) ⟨hx, hb, hml, hown, hts⟩ (c_MO_get l D k q (nI 0) wd se kd bn sh mb pr B R sx pt rd wt ln px hkd hsh hmb (4 * msl pr a + mpg wd se (msl pr a) a) a (by omega) (by omega)) (cwV 2 hts (gV w_613 w_615 w_p15 w_5 w_616) rfl rfl rfl (by decide +kernel) ⟨Nat.le_of_ble_eq_true rfl, Nat.le_of_ble_eq_true rfl⟩) hK hP (va_recv hK hP (ci := 7) (q0 := 0) rfl rfl) rfl hl.1 rfl (Nat.le_of_ble_eq_true rfl) d_MO_read_71 ⟨Nat.zero_le _, Nat.zero_le _⟩ ?_
        exact rw_reti hx hb hr hlocks d_MO_read_74 hS () (by first | rw [if_pos (by omega)] | rw [if_neg (by omega)]) hP
      · have c4 := (nI_eq (by omega) (by omega)).mp c4
        refine lv_aload_n hx hb d_MO_read_42 rfl (lv_at hl 1 rfl) ?_
        refine va_get (D := D) (ci := 7) (v := .ref (q 1)) (C := R_MO) (T := T_MO) (N := 16) hx hb hts in_MO hown hK hP 0 rfl rfl 1 (by decide) (hts _ w_531) (fun _ h9 => h9) rfl d_MO_read_43 ?_
        refine lv_iload_n hx hb d_MO_read_46 rfl (lv_at hl 0 rfl) ?_
        refine va_zald hx hb hK hP 1 1 rfl rfl (vp_in_nI (by omega) (by omega)) d_MO_read_47 ?_
        refine ss_rt (y := nI (wd (msl pr a))) (congrArg (fun z => nI (wd z)) (nI_clamp (by omega))) ?_
        have g7 := hwd (msl pr a)
        refine lv_if_eq (tgt := 64) hx hb d_MO_read_48 (by decide) (fun c8 => ?_) (fun c8 => ?_)
        · have c8 := (n_eq0 (by omega)).mp c8
          refine lv_aload_n hx hb d_MO_read_64 rfl (lv_at hl 1 rfl) ?_
          refine lv_aload_n hx hb d_MO_read_65 rfl (lv_at hl 1 rfl) ?_
          refine lv_iload_n hx hb d_MO_read_66 rfl (lv_at hl 2 rfl) ?_
          have g9 := msl_lt pr a
          have g10 := mpg_lt wd se (msl pr a) a
          refine kr_iV (As := [.int (nI a)]) (rest := [.ref (q 0)]) ⟨hx, hb, hml, hown, hts⟩ (c_MO_deviceAt l D k q (nI 0) wd se kd bn sh mb pr B R sx pt rd wt ln px hwd hse hpr a (by omega)) (cwV 1 hts (gV w_609 w_611 w_p14 w_5 w_612) rfl rfl rfl (by decide +kernel) ⟨Nat.le_of_ble_eq_true rfl, Nat.le_of_ble_eq_true rfl⟩) hK hP (va_recv hK hP (ci := 7) (q0 := 0) rfl rfl) rfl hl.1 rfl (Nat.le_of_ble_eq_true rfl) d_MO_read_67 ⟨Nat.zero_le _, Nat.zero_le _⟩ ?_
          refine lv_iload_n hx hb d_MO_read_70 rfl (lv_at hl 2 rfl) ?_
          refine kr_iV (As := [.int (nI (4 * msl pr a + mpg wd se (msl pr a) a)), .int (nI a)]) (rest := []) ⟨hx, hb, hml, hown, hts⟩ (c_MO_get l D k q (nI 0) wd se kd bn sh mb pr B R sx pt rd wt ln px hkd hsh hmb (4 * msl pr a + mpg wd se (msl pr a) a) a (by omega) (by omega)) (cwV 2 hts (gV w_613 w_615 w_p15 w_5 w_616) rfl rfl rfl (by decide +kernel) ⟨Nat.le_of_ble_eq_true rfl, Nat.le_of_ble_eq_true rfl⟩) hK hP (va_recv hK hP (ci := 7) (q0 := 0) rfl rfl) rfl hl.1 rfl (Nat.le_of_ble_eq_true rfl) d_MO_read_71 ⟨Nat.zero_le _, Nat.zero_le _⟩ ?_
          exact rw_reti hx hb hr hlocks d_MO_read_74 hS () (by first | rw [if_pos (by omega)] | rw [if_neg (by omega)]) hP
        · have c8 := mt (n_eq0 (by omega)).mpr c8
          refine lv_sipush (v := nI 255) hx hb d_MO_read_51 (by decide +kernel) ?_
          refine lv_aload_n hx hb d_MO_read_54 rfl (lv_at hl 1 rfl) ?_
          refine va_get (D := D) (ci := 7) (v := .ref (q 2)) (C := R_MO) (T := T_MO) (N := 16) hx hb hts in_MO hown hK hP 0 rfl rfl 2 (by decide) (hts _ w_532) (fun _ h9 => h9) rfl d_MO_read_55 ?_
          refine lv_iload_n hx hb d_MO_read_58 rfl (lv_at hl 0 rfl) ?_
          refine va_iald hx hb hK hP 2 0 rfl rfl (vp_in_nI (by omega) (by omega)) d_MO_read_59 ?_
          refine ss_rt (y := nI (se (msl pr a))) (congrArg (fun z => nI (se z)) (nI_clamp (by omega))) ?_
          have g11 := hse (msl pr a)
          refine lv_isub hx hb d_MO_read_60 ?_
          refine ss_rt (y := nI (255 - (se (msl pr a)))) (pk_sub (by omega)) ?_
          refine lv_goto (tgt := 74) hx hb d_MO_read_61 (by decide) ?_
          exact rw_reti hx hb hr hlocks d_MO_read_74 hS () (by first | rw [if_pos (by omega)] | rw [if_neg (by omega)]) hP
    · have c2 := mt (n_eq0 (by omega)).mpr c2
      exfalso; omega
set_option maxHeartbeats 4000000 in
set_option maxRecDepth 100000 in
theorem c_MO_farb (l : Launch) (D : va_G) (k : Nat → ClassId) (q : Nat → Nat) (cd : Int32) (wd : Nat → Nat) (se : Nat → Nat) (kd : Nat → Nat) (bn : Nat → Int32) (sh : Nat → Nat) (mb : Nat → Nat) (pr : Nat) (B : Nat → Nat) (R : Nat → Nat) (sx : Nat) (pt : Nat) (rd : Nat) (wt : Int32) (ln : Nat) (px : Nat → Nat) (x y z : Int32) (hx9 : ¬ (0 ≤ x.toInt ∧ x.toInt ≤ 3 ∧ 0 ≤ y.toInt ∧ y.toInt ≤ 3 ∧ 0 ≤ z.toInt ∧ z.toInt ≤ 255)) : rw_i l y_MO_far b_MO_far 4 (some .int) { frames := 3, cells := 0, slots := 0, locals := 67 } D (kT k) (mW q k cd wd se kd bn sh mb pr B R sx pt rd wt ln px) [.ref (q 0), .int x, .int y, .int z] (fun (r : Int32) (_ : Unit) => r = nI 0) (fun (_ : Unit) => (mW q k (nI 1) wd se kd bn sh mb pr B R sx pt rd wt ln px)) := by
  refine rw_headi (by decide) (Nat.le_of_ble_eq_true rfl) ?_
  intro p e s m below meth c ls A hx hb hr hlocks hml hown hts hK hA hP hD hS hl
  have hown : s.vm.findClass "SlotScreenModel" = some m.cls := hown
  have hl : lv_has ls 4 [(0, .ref (q 0)), (1, .int x), (2, .int y), (3, .int z)] := hl
  refine lv_aload_n hx hb d_MO_far_0 rfl (lv_at hl 0 rfl) ?_
  refine lv_iload_n hx hb d_MO_far_1 rfl (lv_at hl 1 rfl) ?_
  refine lv_iconst (v := nI 0) hx hb d_MO_far_2 (by decide +kernel) ?_
  refine lv_iconst (v := nI 3) hx hb d_MO_far_3 (by decide +kernel) ?_
  refine kr_iS (As := [.int x, .int (nI 0), .int (nI 3)]) (rest := [.ref (q 0)]) ⟨hx, hb, hml, hown, hts⟩ (c_MO_withinZ l D k x 0 3 (by omega) (by omega)) (va_cwS 3 hts (gS w_587 w_588 w_5 w_589) rfl rfl rfl (by decide +kernel) ⟨Nat.le_of_ble_eq_true rfl, Nat.le_of_ble_eq_true rfl⟩) hK va_nil rfl hl.1 rfl (Nat.le_of_ble_eq_true rfl) d_MO_far_4 ⟨Nat.zero_le _, Nat.zero_le _⟩ ?_
  refine lv_if_eq (tgt := 34) hx hb d_MO_far_7 (by decide) (fun c1 => ?_) (fun c1 => ?_)
  · have c1 := (bI_0).mp c1
    refine lv_iconst (v := nI 1) hx hb d_MO_far_34 (by decide +kernel) ?_
    refine va_put (D := D) (ci := 7) (v := .int (nI 1)) (ty := .int) (C := R_MO) (T := T_MO) (N := 16) hx hb hts in_MO t_MO o_MO n_MO hown hK hP hD hS 0 rfl rfl 0 (by decide) (hts _ w_530) (fun _ h9 => h9) rfl (by decide +kernel) rfl rfl (Nat.le_of_ble_eq_true rfl) d_MO_far_35 (fun H locs hP hD hS => ?_)
    have hP : va_P D vwCl (mW q k (nI 1) wd se kd bn sh mb pr B R sx pt rd wt ln px) H := hP
    have hD : va_D A (mW q k (nI 1) wd se kd bn sh mb pr B R sx pt rd wt ln px) := hD
    refine lv_aload_n hx hb d_MO_far_38 rfl (lv_at hl 0 rfl) ?_
    refine va_get (D := D) (ci := 7) (v := .int (nI 1)) (C := R_MO) (T := T_MO) (N := 16) hx hb hts in_MO hown hK hP 0 rfl rfl 0 (by decide) (hts _ w_530) (fun _ h9 => h9) rfl d_MO_far_39 ?_
    refine lv_if_eq (tgt := 47) hx hb d_MO_far_42 (by decide) (fun c2 => ?_) (fun c2 => ?_)
    · have c2 := (n_eq0 (by omega)).mp c2
      exfalso; omega
    · have c2 := mt (n_eq0 (by omega)).mpr c2
      refine lv_iconst (v := nI 0) hx hb d_MO_far_45 (by decide +kernel) ?_
      exact rw_reti hx hb hr hlocks d_MO_far_46 hS () (rfl) hP
  · have c1 := mt (bI_0).mpr c1
    have c1 := Classical.not_not.mp c1
    refine lv_iload_n hx hb d_MO_far_10 rfl (lv_at hl 2 rfl) ?_
    refine lv_iconst (v := nI 0) hx hb d_MO_far_11 (by decide +kernel) ?_
    refine lv_iconst (v := nI 3) hx hb d_MO_far_12 (by decide +kernel) ?_
    refine kr_iS (As := [.int y, .int (nI 0), .int (nI 3)]) (rest := [.ref (q 0)]) ⟨hx, hb, hml, hown, hts⟩ (c_MO_withinZ l D k y 0 3 (by omega) (by omega)) (va_cwS 3 hts (gS w_587 w_588 w_5 w_589) rfl rfl rfl (by decide +kernel) ⟨Nat.le_of_ble_eq_true rfl, Nat.le_of_ble_eq_true rfl⟩) hK va_nil rfl hl.1 rfl (Nat.le_of_ble_eq_true rfl) d_MO_far_13 ⟨Nat.zero_le _, Nat.zero_le _⟩ ?_
    refine lv_if_eq (tgt := 34) hx hb d_MO_far_16 (by decide) (fun c3 => ?_) (fun c3 => ?_)
    · have c3 := (bI_0).mp c3
      refine lv_iconst (v := nI 1) hx hb d_MO_far_34 (by decide +kernel) ?_
      refine va_put (D := D) (ci := 7) (v := .int (nI 1)) (ty := .int) (C := R_MO) (T := T_MO) (N := 16) hx hb hts in_MO t_MO o_MO n_MO hown hK hP hD hS 0 rfl rfl 0 (by decide) (hts _ w_530) (fun _ h9 => h9) rfl (by decide +kernel) rfl rfl (Nat.le_of_ble_eq_true rfl) d_MO_far_35 (fun H locs hP hD hS => ?_)
      have hP : va_P D vwCl (mW q k (nI 1) wd se kd bn sh mb pr B R sx pt rd wt ln px) H := hP
      have hD : va_D A (mW q k (nI 1) wd se kd bn sh mb pr B R sx pt rd wt ln px) := hD
      refine lv_aload_n hx hb d_MO_far_38 rfl (lv_at hl 0 rfl) ?_
      refine va_get (D := D) (ci := 7) (v := .int (nI 1)) (C := R_MO) (T := T_MO) (N := 16) hx hb hts in_MO hown hK hP 0 rfl rfl 0 (by decide) (hts _ w_530) (fun _ h9 => h9) rfl d_MO_far_39 ?_
      refine lv_if_eq (tgt := 47) hx hb d_MO_far_42 (by decide) (fun c4 => ?_) (fun c4 => ?_)
      · have c4 := (n_eq0 (by omega)).mp c4
        exfalso; omega
      · have c4 := mt (n_eq0 (by omega)).mpr c4
        refine lv_iconst (v := nI 0) hx hb d_MO_far_45 (by decide +kernel) ?_
        exact rw_reti hx hb hr hlocks d_MO_far_46 hS () (rfl) hP
    · have c3 := mt (bI_0).mpr c3
      have c3 := Classical.not_not.mp c3
      refine lv_iload_n hx hb d_MO_far_19 rfl (lv_at hl 3 rfl) ?_
      refine lv_iconst (v := nI 0) hx hb d_MO_far_20 (by decide +kernel) ?_
      refine lv_sipush (v := nI 255) hx hb d_MO_far_21 (by decide +kernel) ?_
      refine kr_iS (As := [.int z, .int (nI 0), .int (nI 255)]) (rest := [.ref (q 0)]) ⟨hx, hb, hml, hown, hts⟩ (c_MO_withinZ l D k z 0 255 (by omega) (by omega)) (va_cwS 3 hts (gS w_587 w_588 w_5 w_589) rfl rfl rfl (by decide +kernel) ⟨Nat.le_of_ble_eq_true rfl, Nat.le_of_ble_eq_true rfl⟩) hK va_nil rfl hl.1 rfl (Nat.le_of_ble_eq_true rfl) d_MO_far_24 ⟨Nat.zero_le _, Nat.zero_le _⟩ ?_
      refine lv_if_eq (tgt := 34) hx hb d_MO_far_27 (by decide) (fun c5 => ?_) (fun c5 => ?_)
      · have c5 := (bI_0).mp c5
        refine lv_iconst (v := nI 1) hx hb d_MO_far_34 (by decide +kernel) ?_
        refine va_put (D := D) (ci := 7) (v := .int (nI 1)) (ty := .int) (C := R_MO) (T := T_MO) (N := 16) hx hb hts in_MO t_MO o_MO n_MO hown hK hP hD hS 0 rfl rfl 0 (by decide) (hts _ w_530) (fun _ h9 => h9) rfl (by decide +kernel) rfl rfl (Nat.le_of_ble_eq_true rfl) d_MO_far_35 (fun H locs hP hD hS => ?_)
        have hP : va_P D vwCl (mW q k (nI 1) wd se kd bn sh mb pr B R sx pt rd wt ln px) H := hP
        have hD : va_D A (mW q k (nI 1) wd se kd bn sh mb pr B R sx pt rd wt ln px) := hD
        refine lv_aload_n hx hb d_MO_far_38 rfl (lv_at hl 0 rfl) ?_
        refine va_get (D := D) (ci := 7) (v := .int (nI 1)) (C := R_MO) (T := T_MO) (N := 16) hx hb hts in_MO hown hK hP 0 rfl rfl 0 (by decide) (hts _ w_530) (fun _ h9 => h9) rfl d_MO_far_39 ?_
        refine lv_if_eq (tgt := 47) hx hb d_MO_far_42 (by decide) (fun c6 => ?_) (fun c6 => ?_)
        · have c6 := (n_eq0 (by omega)).mp c6
          exfalso; omega
        · have c6 := mt (n_eq0 (by omega)).mpr c6
          refine lv_iconst (v := nI 0) hx hb d_MO_far_45 (by decide +kernel) ?_
          exact rw_reti hx hb hr hlocks d_MO_far_46 hS () (rfl) hP
      · have c5 := mt (bI_0).mpr c5
        have c5 := Classical.not_not.mp c5
        exfalso; omega
set_option maxHeartbeats 4000000 in
set_option maxRecDepth 100000 in
theorem c_MO_far (l : Launch) (D : va_G) (k : Nat → ClassId) (q : Nat → Nat) (cd : Int32) (wd : Nat → Nat) (se : Nat → Nat) (kd : Nat → Nat) (bn : Nat → Int32) (sh : Nat → Nat) (mb : Nat → Nat) (pr : Nat) (B : Nat → Nat) (R : Nat → Nat) (sx : Nat) (pt : Nat) (rd : Nat) (wt : Int32) (ln : Nat) (px : Nat → Nat) (hwd : ∀ j, wd j < 2) (hse : ∀ j, se j < 256) (hpr : pr < 256) (hkd : ∀ j, kd j < 5) (hsh : ∀ j, sh j < 8) (hmb : ∀ j, mb j < 256) (s9 p9 a : Nat) (hs9 : s9 < 4) (hp9 : p9 < 4) (ha : a < 256) : rw_i l y_MO_far b_MO_far 4 (some .int) { frames := 3, cells := 0, slots := 0, locals := 67 } D (kT k) (mW q k cd wd se kd bn sh mb pr B R sx pt rd wt ln px) [.ref (q 0), .int (nI s9), .int (nI p9), .int (nI a)] (fun (r : Int32) (_ : Unit) => r = nI (if a = 255 ∧ wd s9 = 1 then 255 - (se s9 % 64 + 64 * p9) else mget kd sh mb (4 * s9 + (if wd s9 = 1 then p9 else 0)) a)) (fun (_ : Unit) => (mW q k (nI 0) wd se kd bn sh mb pr B R sx pt rd wt ln px)) := by
  refine rw_headi (by decide) (Nat.le_of_ble_eq_true rfl) ?_
  intro p e s m below meth c ls A hx hb hr hlocks hml hown hts hK hA hP hD hS hl
  have hown : s.vm.findClass "SlotScreenModel" = some m.cls := hown
  have hl : lv_has ls 4 [(0, .ref (q 0)), (1, .int (nI s9)), (2, .int (nI p9)), (3, .int (nI a))] := hl
  refine lv_aload_n hx hb d_MO_far_0 rfl (lv_at hl 0 rfl) ?_
  refine lv_iload_n hx hb d_MO_far_1 rfl (lv_at hl 1 rfl) ?_
  refine lv_iconst (v := nI 0) hx hb d_MO_far_2 (by decide +kernel) ?_
  refine lv_iconst (v := nI 3) hx hb d_MO_far_3 (by decide +kernel) ?_
  refine kr_iS (As := [.int (nI s9), .int (nI 0), .int (nI 3)]) (rest := [.ref (q 0)]) ⟨hx, hb, hml, hown, hts⟩ (c_MO_within l D k s9 0 3 (by omega) (by omega) (by omega)) (va_cwS 3 hts (gS w_587 w_588 w_5 w_589) rfl rfl rfl (by decide +kernel) ⟨Nat.le_of_ble_eq_true rfl, Nat.le_of_ble_eq_true rfl⟩) hK va_nil rfl hl.1 rfl (Nat.le_of_ble_eq_true rfl) d_MO_far_4 ⟨Nat.zero_le _, Nat.zero_le _⟩ ?_
  refine lv_if_eq (tgt := 34) hx hb d_MO_far_7 (by decide) (fun c1 => ?_) (fun c1 => ?_)
  · have c1 := (bI_0).mp c1
    exfalso; omega
  · have c1 := mt (bI_0).mpr c1
    have c1 := Classical.not_not.mp c1
    refine lv_iload_n hx hb d_MO_far_10 rfl (lv_at hl 2 rfl) ?_
    refine lv_iconst (v := nI 0) hx hb d_MO_far_11 (by decide +kernel) ?_
    refine lv_iconst (v := nI 3) hx hb d_MO_far_12 (by decide +kernel) ?_
    refine kr_iS (As := [.int (nI p9), .int (nI 0), .int (nI 3)]) (rest := [.ref (q 0)]) ⟨hx, hb, hml, hown, hts⟩ (c_MO_within l D k p9 0 3 (by omega) (by omega) (by omega)) (va_cwS 3 hts (gS w_587 w_588 w_5 w_589) rfl rfl rfl (by decide +kernel) ⟨Nat.le_of_ble_eq_true rfl, Nat.le_of_ble_eq_true rfl⟩) hK va_nil rfl hl.1 rfl (Nat.le_of_ble_eq_true rfl) d_MO_far_13 ⟨Nat.zero_le _, Nat.zero_le _⟩ ?_
    refine lv_if_eq (tgt := 34) hx hb d_MO_far_16 (by decide) (fun c2 => ?_) (fun c2 => ?_)
    · have c2 := (bI_0).mp c2
      exfalso; omega
    · have c2 := mt (bI_0).mpr c2
      have c2 := Classical.not_not.mp c2
      refine lv_iload_n hx hb d_MO_far_19 rfl (lv_at hl 3 rfl) ?_
      refine lv_iconst (v := nI 0) hx hb d_MO_far_20 (by decide +kernel) ?_
      refine lv_sipush (v := nI 255) hx hb d_MO_far_21 (by decide +kernel) ?_
      refine kr_iS (As := [.int (nI a), .int (nI 0), .int (nI 255)]) (rest := [.ref (q 0)]) ⟨hx, hb, hml, hown, hts⟩ (c_MO_within l D k a 0 255 (by omega) (by omega) (by omega)) (va_cwS 3 hts (gS w_587 w_588 w_5 w_589) rfl rfl rfl (by decide +kernel) ⟨Nat.le_of_ble_eq_true rfl, Nat.le_of_ble_eq_true rfl⟩) hK va_nil rfl hl.1 rfl (Nat.le_of_ble_eq_true rfl) d_MO_far_24 ⟨Nat.zero_le _, Nat.zero_le _⟩ ?_
      refine lv_if_eq (tgt := 34) hx hb d_MO_far_27 (by decide) (fun c3 => ?_) (fun c3 => ?_)
      · have c3 := (bI_0).mp c3
        exfalso; omega
      · have c3 := mt (bI_0).mpr c3
        have c3 := Classical.not_not.mp c3
        refine lv_iconst (v := nI 0) hx hb d_MO_far_30 (by decide +kernel) ?_
        refine lv_goto (tgt := 35) hx hb d_MO_far_31 (by decide) ?_
        refine va_put (D := D) (ci := 7) (v := .int (nI 0)) (ty := .int) (C := R_MO) (T := T_MO) (N := 16) hx hb hts in_MO t_MO o_MO n_MO hown hK hP hD hS 0 rfl rfl 0 (by decide) (hts _ w_530) (fun _ h9 => h9) rfl (by decide +kernel) rfl rfl (Nat.le_of_ble_eq_true rfl) d_MO_far_35 (fun H locs hP hD hS => ?_)
        have hP : va_P D vwCl (mW q k (nI 0) wd se kd bn sh mb pr B R sx pt rd wt ln px) H := hP
        have hD : va_D A (mW q k (nI 0) wd se kd bn sh mb pr B R sx pt rd wt ln px) := hD
        refine lv_aload_n hx hb d_MO_far_38 rfl (lv_at hl 0 rfl) ?_
        refine va_get (D := D) (ci := 7) (v := .int (nI 0)) (C := R_MO) (T := T_MO) (N := 16) hx hb hts in_MO hown hK hP 0 rfl rfl 0 (by decide) (hts _ w_530) (fun _ h9 => h9) rfl d_MO_far_39 ?_
        refine lv_if_eq (tgt := 47) hx hb d_MO_far_42 (by decide) (fun c4 => ?_) (fun c4 => ?_)
        · have c4 := (n_eq0 (by omega)).mp c4
          refine lv_iload_n hx hb d_MO_far_47 rfl (lv_at hl 3 rfl) ?_
          refine lv_sipush (v := nI 255) hx hb d_MO_far_48 (by decide +kernel) ?_
          refine lv_icmp_ne (tgt := 82) hx hb d_MO_far_51 (by decide) (fun c5 => ?_) (fun c5 => ?_)
          · have c5 := mt (nI_eq (by omega) (by omega)).mpr c5
            refine lv_aload_n hx hb d_MO_far_82 rfl (lv_at hl 0 rfl) ?_
            refine lv_iconst (v := nI 4) hx hb d_MO_far_83 (by decide +kernel) ?_
            refine lv_iload_n hx hb d_MO_far_84 rfl (lv_at hl 1 rfl) ?_
            refine lv_imul hx hb d_MO_far_85 ?_
            refine ss_rt (y := nI (4 * s9)) (pk_mul _ _) ?_
            refine lv_aload_n hx hb d_MO_far_86 rfl (lv_at hl 0 rfl) ?_
            refine va_get (D := D) (ci := 7) (v := .ref (q 1)) (C := R_MO) (T := T_MO) (N := 16) hx hb hts in_MO hown hK hP 0 rfl rfl 1 (by decide) (hts _ w_531) (fun _ h9 => h9) rfl d_MO_far_87 ?_
            refine lv_iload_n hx hb d_MO_far_90 rfl (lv_at hl 1 rfl) ?_
            refine va_zald hx hb hK hP 1 1 rfl rfl (vp_in_nI (by omega) (by omega)) d_MO_far_91 ?_
            refine ss_rt (y := nI (wd s9)) (congrArg (fun z => nI (wd z)) (nI_clamp (by omega))) ?_
            have g6 := hwd s9
            refine lv_if_eq (tgt := 99) hx hb d_MO_far_92 (by decide) (fun c7 => ?_) (fun c7 => ?_)
            · have c7 := (n_eq0 (by omega)).mp c7
              refine lv_iconst (v := nI 0) hx hb d_MO_far_99 (by decide +kernel) ?_
              refine lv_iadd hx hb d_MO_far_100 ?_
              refine ss_rt (y := nI (4 * s9 + 0)) (nI_add _ _) ?_
              refine lv_iload_n hx hb d_MO_far_101 rfl (lv_at hl 3 rfl) ?_
              refine kr_iV (As := [.int (nI (4 * s9 + 0)), .int (nI a)]) (rest := []) ⟨hx, hb, hml, hown, hts⟩ (c_MO_get l D k q (nI 0) wd se kd bn sh mb pr B R sx pt rd wt ln px hkd hsh hmb (4 * s9 + 0) a (by omega) (by omega)) (cwV 2 hts (gV w_613 w_615 w_p15 w_5 w_616) rfl rfl rfl (by decide +kernel) ⟨Nat.le_of_ble_eq_true rfl, Nat.le_of_ble_eq_true rfl⟩) hK hP (va_recv hK hP (ci := 7) (q0 := 0) rfl rfl) rfl hl.1 rfl (Nat.le_of_ble_eq_true rfl) d_MO_far_102 ⟨Nat.zero_le _, Nat.zero_le _⟩ ?_
              exact rw_reti hx hb hr hlocks d_MO_far_105 hS () (by rw [if_neg (by omega)]; first | rw [if_pos (by omega)] | rw [if_neg (by omega)]) hP
            · have c7 := mt (n_eq0 (by omega)).mpr c7
              refine lv_iload_n hx hb d_MO_far_95 rfl (lv_at hl 2 rfl) ?_
              refine lv_goto (tgt := 100) hx hb d_MO_far_96 (by decide) ?_
              refine lv_iadd hx hb d_MO_far_100 ?_
              refine ss_rt (y := nI (4 * s9 + p9)) (nI_add _ _) ?_
              refine lv_iload_n hx hb d_MO_far_101 rfl (lv_at hl 3 rfl) ?_
              refine kr_iV (As := [.int (nI (4 * s9 + p9)), .int (nI a)]) (rest := []) ⟨hx, hb, hml, hown, hts⟩ (c_MO_get l D k q (nI 0) wd se kd bn sh mb pr B R sx pt rd wt ln px hkd hsh hmb (4 * s9 + p9) a (by omega) (by omega)) (cwV 2 hts (gV w_613 w_615 w_p15 w_5 w_616) rfl rfl rfl (by decide +kernel) ⟨Nat.le_of_ble_eq_true rfl, Nat.le_of_ble_eq_true rfl⟩) hK hP (va_recv hK hP (ci := 7) (q0 := 0) rfl rfl) rfl hl.1 rfl (Nat.le_of_ble_eq_true rfl) d_MO_far_102 ⟨Nat.zero_le _, Nat.zero_le _⟩ ?_
              exact rw_reti hx hb hr hlocks d_MO_far_105 hS () (by rw [if_neg (by omega)]; first | rw [if_pos (by omega)] | rw [if_neg (by omega)]) hP
          · have c5 := (nI_eq (by omega) (by omega)).mp c5
            refine lv_aload_n hx hb d_MO_far_54 rfl (lv_at hl 0 rfl) ?_
            refine va_get (D := D) (ci := 7) (v := .ref (q 1)) (C := R_MO) (T := T_MO) (N := 16) hx hb hts in_MO hown hK hP 0 rfl rfl 1 (by decide) (hts _ w_531) (fun _ h9 => h9) rfl d_MO_far_55 ?_
            refine lv_iload_n hx hb d_MO_far_58 rfl (lv_at hl 1 rfl) ?_
            refine va_zald hx hb hK hP 1 1 rfl rfl (vp_in_nI (by omega) (by omega)) d_MO_far_59 ?_
            refine ss_rt (y := nI (wd s9)) (congrArg (fun z => nI (wd z)) (nI_clamp (by omega))) ?_
            have g8 := hwd s9
            refine lv_if_eq (tgt := 82) hx hb d_MO_far_60 (by decide) (fun c9 => ?_) (fun c9 => ?_)
            · have c9 := (n_eq0 (by omega)).mp c9
              refine lv_aload_n hx hb d_MO_far_82 rfl (lv_at hl 0 rfl) ?_
              refine lv_iconst (v := nI 4) hx hb d_MO_far_83 (by decide +kernel) ?_
              refine lv_iload_n hx hb d_MO_far_84 rfl (lv_at hl 1 rfl) ?_
              refine lv_imul hx hb d_MO_far_85 ?_
              refine ss_rt (y := nI (4 * s9)) (pk_mul _ _) ?_
              refine lv_aload_n hx hb d_MO_far_86 rfl (lv_at hl 0 rfl) ?_
              refine va_get (D := D) (ci := 7) (v := .ref (q 1)) (C := R_MO) (T := T_MO) (N := 16) hx hb hts in_MO hown hK hP 0 rfl rfl 1 (by decide) (hts _ w_531) (fun _ h9 => h9) rfl d_MO_far_87 ?_
              refine lv_iload_n hx hb d_MO_far_90 rfl (lv_at hl 1 rfl) ?_
              refine va_zald hx hb hK hP 1 1 rfl rfl (vp_in_nI (by omega) (by omega)) d_MO_far_91 ?_
              refine ss_rt (y := nI (wd s9)) (congrArg (fun z => nI (wd z)) (nI_clamp (by omega))) ?_
              have g10 := hwd s9
              refine lv_if_eq (tgt := 99) hx hb d_MO_far_92 (by decide) (fun c11 => ?_) (fun c11 => ?_)
              · have c11 := (n_eq0 (by omega)).mp c11
                refine lv_iconst (v := nI 0) hx hb d_MO_far_99 (by decide +kernel) ?_
                refine lv_iadd hx hb d_MO_far_100 ?_
                refine ss_rt (y := nI (4 * s9 + 0)) (nI_add _ _) ?_
                refine lv_iload_n hx hb d_MO_far_101 rfl (lv_at hl 3 rfl) ?_
                refine kr_iV (As := [.int (nI (4 * s9 + 0)), .int (nI a)]) (rest := []) ⟨hx, hb, hml, hown, hts⟩ (c_MO_get l D k q (nI 0) wd se kd bn sh mb pr B R sx pt rd wt ln px hkd hsh hmb (4 * s9 + 0) a (by omega) (by omega)) (cwV 2 hts (gV w_613 w_615 w_p15 w_5 w_616) rfl rfl rfl (by decide +kernel) ⟨Nat.le_of_ble_eq_true rfl, Nat.le_of_ble_eq_true rfl⟩) hK hP (va_recv hK hP (ci := 7) (q0 := 0) rfl rfl) rfl hl.1 rfl (Nat.le_of_ble_eq_true rfl) d_MO_far_102 ⟨Nat.zero_le _, Nat.zero_le _⟩ ?_
                exact rw_reti hx hb hr hlocks d_MO_far_105 hS () (by rw [if_neg (by omega)]; first | rw [if_pos (by omega)] | rw [if_neg (by omega)]) hP
              · have c11 := mt (n_eq0 (by omega)).mpr c11
                refine lv_iload_n hx hb d_MO_far_95 rfl (lv_at hl 2 rfl) ?_
                refine lv_goto (tgt := 100) hx hb d_MO_far_96 (by decide) ?_
                refine lv_iadd hx hb d_MO_far_100 ?_
                refine ss_rt (y := nI (4 * s9 + p9)) (nI_add _ _) ?_
                refine lv_iload_n hx hb d_MO_far_101 rfl (lv_at hl 3 rfl) ?_
                refine kr_iV (As := [.int (nI (4 * s9 + p9)), .int (nI a)]) (rest := []) ⟨hx, hb, hml, hown, hts⟩ (c_MO_get l D k q (nI 0) wd se kd bn sh mb pr B R sx pt rd wt ln px hkd hsh hmb (4 * s9 + p9) a (by omega) (by omega)) (cwV 2 hts (gV w_613 w_615 w_p15 w_5 w_616) rfl rfl rfl (by decide +kernel) ⟨Nat.le_of_ble_eq_true rfl, Nat.le_of_ble_eq_true rfl⟩) hK hP (va_recv hK hP (ci := 7) (q0 := 0) rfl rfl) rfl hl.1 rfl (Nat.le_of_ble_eq_true rfl) d_MO_far_102 ⟨Nat.zero_le _, Nat.zero_le _⟩ ?_
                exact rw_reti hx hb hr hlocks d_MO_far_105 hS () (by rw [if_neg (by omega)]; first | rw [if_pos (by omega)] | rw [if_neg (by omega)]) hP
            · have c9 := mt (n_eq0 (by omega)).mpr c9
              refine lv_sipush (v := nI 255) hx hb d_MO_far_63 (by decide +kernel) ?_
              refine lv_aload_n hx hb d_MO_far_66 rfl (lv_at hl 0 rfl) ?_
              refine va_get (D := D) (ci := 7) (v := .ref (q 2)) (C := R_MO) (T := T_MO) (N := 16) hx hb hts in_MO hown hK hP 0 rfl rfl 2 (by decide) (hts _ w_532) (fun _ h9 => h9) rfl d_MO_far_67 ?_
              refine lv_iload_n hx hb d_MO_far_70 rfl (lv_at hl 1 rfl) ?_
              refine va_iald hx hb hK hP 2 0 rfl rfl (vp_in_nI (by omega) (by omega)) d_MO_far_71 ?_
              refine ss_rt (y := nI (se s9)) (congrArg (fun z => nI (se z)) (nI_clamp (by omega))) ?_
              have g12 := hse s9
              refine lv_bipush (v := nI 64) hx hb d_MO_far_72 (by decide +kernel) ?_
              refine lv_irem hx hb d_MO_far_74 (by first | decide +kernel | exact nI_ne0 (by omega) (by omega)) ?_
              refine ss_rt (y := nI ((se s9) % 64)) (pk_rem (by omega) (by omega) (by omega)) ?_
              refine lv_bipush (v := nI 64) hx hb d_MO_far_75 (by decide +kernel) ?_
              refine lv_iload_n hx hb d_MO_far_77 rfl (lv_at hl 2 rfl) ?_
              refine lv_imul hx hb d_MO_far_78 ?_
              refine ss_rt (y := nI (64 * p9)) (pk_mul _ _) ?_
              refine lv_iadd hx hb d_MO_far_79 ?_
              refine ss_rt (y := nI ((se s9) % 64 + (64 * p9))) (nI_add _ _) ?_
              refine lv_isub hx hb d_MO_far_80 ?_
              refine ss_rt (y := nI (255 - ((se s9) % 64 + (64 * p9)))) (pk_sub (by omega)) ?_
              exact rw_reti hx hb hr hlocks d_MO_far_81 hS () (by first | rw [if_pos (by omega)] | rw [if_neg (by omega)]) hP
        · have c4 := mt (n_eq0 (by omega)).mpr c4
          exfalso; omega
set_option maxHeartbeats 4000000 in
set_option maxRecDepth 100000 in
theorem c_MO_writeb (l : Launch) (D : va_G) (k : Nat → ClassId) (q : Nat → Nat) (cd : Int32) (wd : Nat → Nat) (se : Nat → Nat) (kd : Nat → Nat) (bn : Nat → Int32) (sh : Nat → Nat) (mb : Nat → Nat) (pr : Nat) (B : Nat → Nat) (R : Nat → Nat) (sx : Nat) (pt : Nat) (rd : Nat) (wt : Int32) (ln : Nat) (px : Nat → Nat) (x y : Int32) (hx9 : ¬ (0 ≤ x.toInt ∧ x.toInt ≤ 255 ∧ 0 ≤ y.toInt ∧ y.toInt ≤ 255)) : rw_v l y_MO_write b_MO_write 5 none { frames := 3, cells := 0, slots := 0, locals := 67 } D (kT k) (mW q k cd wd se kd bn sh mb pr B R sx pt rd wt ln px) [.ref (q 0), .int x, .int y] (fun (_ : Unit) => True) (fun (_ : Unit) => (mW q k (nI 1) wd se kd bn sh mb pr B R sx pt rd wt ln px)) := by
  refine rw_headv (by decide) (Nat.le_of_ble_eq_true rfl) ?_
  intro p e s m below meth c ls A hx hb hr hlocks hml hown hts hK hA hP hD hS hl
  have hown : s.vm.findClass "SlotScreenModel" = some m.cls := hown
  have hl : lv_has ls 5 [(0, .ref (q 0)), (1, .int x), (2, .int y)] := hl
  refine lv_aload_n hx hb d_MO_write_0 rfl (lv_at hl 0 rfl) ?_
  refine lv_iload_n hx hb d_MO_write_1 rfl (lv_at hl 1 rfl) ?_
  refine lv_iconst (v := nI 0) hx hb d_MO_write_2 (by decide +kernel) ?_
  refine lv_sipush (v := nI 255) hx hb d_MO_write_3 (by decide +kernel) ?_
  refine kr_iS (As := [.int x, .int (nI 0), .int (nI 255)]) (rest := [.ref (q 0)]) ⟨hx, hb, hml, hown, hts⟩ (c_MO_withinZ l D k x 0 255 (by omega) (by omega)) (va_cwS 3 hts (gS w_587 w_588 w_5 w_589) rfl rfl rfl (by decide +kernel) ⟨Nat.le_of_ble_eq_true rfl, Nat.le_of_ble_eq_true rfl⟩) hK va_nil rfl hl.1 rfl (Nat.le_of_ble_eq_true rfl) d_MO_write_6 ⟨Nat.zero_le _, Nat.zero_le _⟩ ?_
  refine lv_if_eq (tgt := 27) hx hb d_MO_write_9 (by decide) (fun c1 => ?_) (fun c1 => ?_)
  · have c1 := (bI_0).mp c1
    refine lv_iconst (v := nI 1) hx hb d_MO_write_27 (by decide +kernel) ?_
    refine va_put (D := D) (ci := 7) (v := .int (nI 1)) (ty := .int) (C := R_MO) (T := T_MO) (N := 16) hx hb hts in_MO t_MO o_MO n_MO hown hK hP hD hS 0 rfl rfl 0 (by decide) (hts _ w_530) (fun _ h9 => h9) rfl (by decide +kernel) rfl rfl (Nat.le_of_ble_eq_true rfl) d_MO_write_28 (fun H locs hP hD hS => ?_)
    have hP : va_P D vwCl (mW q k (nI 1) wd se kd bn sh mb pr B R sx pt rd wt ln px) H := hP
    have hD : va_D A (mW q k (nI 1) wd se kd bn sh mb pr B R sx pt rd wt ln px) := hD
    refine lv_aload_n hx hb d_MO_write_31 rfl (lv_at hl 0 rfl) ?_
    refine va_get (D := D) (ci := 7) (v := .int (nI 1)) (C := R_MO) (T := T_MO) (N := 16) hx hb hts in_MO hown hK hP 0 rfl rfl 0 (by decide) (hts _ w_530) (fun _ h9 => h9) rfl d_MO_write_32 ?_
    refine lv_if_eq (tgt := 39) hx hb d_MO_write_35 (by decide) (fun c2 => ?_) (fun c2 => ?_)
    · have c2 := (n_eq0 (by omega)).mp c2
      exfalso; omega
    · have c2 := mt (n_eq0 (by omega)).mpr c2
      exact rw_retv hx hb hr hlocks d_MO_write_38 hS () (trivial) hP
  · have c1 := mt (bI_0).mpr c1
    have c1 := Classical.not_not.mp c1
    refine lv_iload_n hx hb d_MO_write_12 rfl (lv_at hl 2 rfl) ?_
    refine lv_iconst (v := nI 0) hx hb d_MO_write_13 (by decide +kernel) ?_
    refine lv_sipush (v := nI 255) hx hb d_MO_write_14 (by decide +kernel) ?_
    refine kr_iS (As := [.int y, .int (nI 0), .int (nI 255)]) (rest := [.ref (q 0)]) ⟨hx, hb, hml, hown, hts⟩ (c_MO_withinZ l D k y 0 255 (by omega) (by omega)) (va_cwS 3 hts (gS w_587 w_588 w_5 w_589) rfl rfl rfl (by decide +kernel) ⟨Nat.le_of_ble_eq_true rfl, Nat.le_of_ble_eq_true rfl⟩) hK va_nil rfl hl.1 rfl (Nat.le_of_ble_eq_true rfl) d_MO_write_17 ⟨Nat.zero_le _, Nat.zero_le _⟩ ?_
    refine lv_if_eq (tgt := 27) hx hb d_MO_write_20 (by decide) (fun c3 => ?_) (fun c3 => ?_)
    · have c3 := (bI_0).mp c3
      refine lv_iconst (v := nI 1) hx hb d_MO_write_27 (by decide +kernel) ?_
      refine va_put (D := D) (ci := 7) (v := .int (nI 1)) (ty := .int) (C := R_MO) (T := T_MO) (N := 16) hx hb hts in_MO t_MO o_MO n_MO hown hK hP hD hS 0 rfl rfl 0 (by decide) (hts _ w_530) (fun _ h9 => h9) rfl (by decide +kernel) rfl rfl (Nat.le_of_ble_eq_true rfl) d_MO_write_28 (fun H locs hP hD hS => ?_)
      have hP : va_P D vwCl (mW q k (nI 1) wd se kd bn sh mb pr B R sx pt rd wt ln px) H := hP
      have hD : va_D A (mW q k (nI 1) wd se kd bn sh mb pr B R sx pt rd wt ln px) := hD
      refine lv_aload_n hx hb d_MO_write_31 rfl (lv_at hl 0 rfl) ?_
      refine va_get (D := D) (ci := 7) (v := .int (nI 1)) (C := R_MO) (T := T_MO) (N := 16) hx hb hts in_MO hown hK hP 0 rfl rfl 0 (by decide) (hts _ w_530) (fun _ h9 => h9) rfl d_MO_write_32 ?_
      refine lv_if_eq (tgt := 39) hx hb d_MO_write_35 (by decide) (fun c4 => ?_) (fun c4 => ?_)
      · have c4 := (n_eq0 (by omega)).mp c4
        exfalso; omega
      · have c4 := mt (n_eq0 (by omega)).mpr c4
        exact rw_retv hx hb hr hlocks d_MO_write_38 hS () (trivial) hP
    · have c3 := mt (bI_0).mpr c3
      have c3 := Classical.not_not.mp c3
      exfalso; omega
set_option maxHeartbeats 4000000 in
set_option maxRecDepth 100000 in
theorem c_MO_writeS (l : Launch) (D : va_G) (k : Nat → ClassId) (q : Nat → Nat) (cd : Int32) (wd : Nat → Nat) (se : Nat → Nat) (kd : Nat → Nat) (bn : Nat → Int32) (sh : Nat → Nat) (mb : Nat → Nat) (pr : Nat) (B : Nat → Nat) (R : Nat → Nat) (sx : Nat) (pt : Nat) (rd : Nat) (wt : Int32) (ln : Nat) (px : Nat → Nat) (hwd : ∀ j, wd j < 2) (hse : ∀ j, se j < 256) (hpr : pr < 256) (hkd : ∀ j, kd j < 5) (hsh : ∀ j, sh j < 8) (hmb : ∀ j, mb j < 256) (a v : Nat) (ha : a < 256) (hv : v < 256) (h1 : a = 255 ∧ wd (msl pr a) = 1) : rw_v l y_MO_write b_MO_write 5 none { frames := 3, cells := 0, slots := 0, locals := 67 } D (kT k) (mW q k cd wd se kd bn sh mb pr B R sx pt rd wt ln px) [.ref (q 0), .int (nI a), .int (nI v)] (fun (_ : Unit) => True) (fun (_ : Unit) => (mW q k (nI 0) wd (ss_up se (msl pr a) v) kd bn sh mb pr B R sx pt rd wt ln px)) := by
  refine rw_headv (by decide) (Nat.le_of_ble_eq_true rfl) ?_
  intro p e s m below meth c ls A hx hb hr hlocks hml hown hts hK hA hP hD hS hl
  have hown : s.vm.findClass "SlotScreenModel" = some m.cls := hown
  have hl : lv_has ls 5 [(0, .ref (q 0)), (1, .int (nI a)), (2, .int (nI v))] := hl
  have z1 := msl_lt pr a
  have z2 := mpg_lt wd se (msl pr a) a
  refine lv_aload_n hx hb d_MO_write_0 rfl (lv_at hl 0 rfl) ?_
  refine lv_iload_n hx hb d_MO_write_1 rfl (lv_at hl 1 rfl) ?_
  refine lv_iconst (v := nI 0) hx hb d_MO_write_2 (by decide +kernel) ?_
  refine lv_sipush (v := nI 255) hx hb d_MO_write_3 (by decide +kernel) ?_
  refine kr_iS (As := [.int (nI a), .int (nI 0), .int (nI 255)]) (rest := [.ref (q 0)]) ⟨hx, hb, hml, hown, hts⟩ (c_MO_within l D k a 0 255 (by omega) (by omega) (by omega)) (va_cwS 3 hts (gS w_587 w_588 w_5 w_589) rfl rfl rfl (by decide +kernel) ⟨Nat.le_of_ble_eq_true rfl, Nat.le_of_ble_eq_true rfl⟩) hK va_nil rfl hl.1 rfl (Nat.le_of_ble_eq_true rfl) d_MO_write_6 ⟨Nat.zero_le _, Nat.zero_le _⟩ ?_
  refine lv_if_eq (tgt := 27) hx hb d_MO_write_9 (by decide) (fun c1 => ?_) (fun c1 => ?_)
  · have c1 := (bI_0).mp c1
    exfalso; omega
  · have c1 := mt (bI_0).mpr c1
    have c1 := Classical.not_not.mp c1
    refine lv_iload_n hx hb d_MO_write_12 rfl (lv_at hl 2 rfl) ?_
    refine lv_iconst (v := nI 0) hx hb d_MO_write_13 (by decide +kernel) ?_
    refine lv_sipush (v := nI 255) hx hb d_MO_write_14 (by decide +kernel) ?_
    refine kr_iS (As := [.int (nI v), .int (nI 0), .int (nI 255)]) (rest := [.ref (q 0)]) ⟨hx, hb, hml, hown, hts⟩ (c_MO_within l D k v 0 255 (by omega) (by omega) (by omega)) (va_cwS 3 hts (gS w_587 w_588 w_5 w_589) rfl rfl rfl (by decide +kernel) ⟨Nat.le_of_ble_eq_true rfl, Nat.le_of_ble_eq_true rfl⟩) hK va_nil rfl hl.1 rfl (Nat.le_of_ble_eq_true rfl) d_MO_write_17 ⟨Nat.zero_le _, Nat.zero_le _⟩ ?_
    refine lv_if_eq (tgt := 27) hx hb d_MO_write_20 (by decide) (fun c2 => ?_) (fun c2 => ?_)
    · have c2 := (bI_0).mp c2
      exfalso; omega
    · have c2 := mt (bI_0).mpr c2
      have c2 := Classical.not_not.mp c2
      refine lv_iconst (v := nI 0) hx hb d_MO_write_23 (by decide +kernel) ?_
      refine lv_goto (tgt := 28) hx hb d_MO_write_24 (by decide) ?_
      refine va_put (D := D) (ci := 7) (v := .int (nI 0)) (ty := .int) (C := R_MO) (T := T_MO) (N := 16) hx hb hts in_MO t_MO o_MO n_MO hown hK hP hD hS 0 rfl rfl 0 (by decide) (hts _ w_530) (fun _ h9 => h9) rfl (by decide +kernel) rfl rfl (Nat.le_of_ble_eq_true rfl) d_MO_write_28 (fun H locs hP hD hS => ?_)
      have hP : va_P D vwCl (mW q k (nI 0) wd se kd bn sh mb pr B R sx pt rd wt ln px) H := hP
      have hD : va_D A (mW q k (nI 0) wd se kd bn sh mb pr B R sx pt rd wt ln px) := hD
      refine lv_aload_n hx hb d_MO_write_31 rfl (lv_at hl 0 rfl) ?_
      refine va_get (D := D) (ci := 7) (v := .int (nI 0)) (C := R_MO) (T := T_MO) (N := 16) hx hb hts in_MO hown hK hP 0 rfl rfl 0 (by decide) (hts _ w_530) (fun _ h9 => h9) rfl d_MO_write_32 ?_
      refine lv_if_eq (tgt := 39) hx hb d_MO_write_35 (by decide) (fun c3 => ?_) (fun c3 => ?_)
      · have c3 := (n_eq0 (by omega)).mp c3
        refine lv_aload_n hx hb d_MO_write_39 rfl (lv_at hl 0 rfl) ?_
        refine lv_iload_n hx hb d_MO_write_40 rfl (lv_at hl 1 rfl) ?_
        have g4 := msl_lt pr a
        refine kr_iV (As := [.int (nI a)]) (rest := []) ⟨hx, hb, hml, hown, hts⟩ (c_MO_slotOf l D k q (nI 0) wd se kd bn sh mb pr B R sx pt rd wt ln px (by omega) a (by omega)) (cwV 1 hts (gV w_602 w_604 w_p13 w_5 w_605) rfl rfl rfl (by decide +kernel) ⟨Nat.le_of_ble_eq_true rfl, Nat.le_of_ble_eq_true rfl⟩) hK hP (va_recv hK hP (ci := 7) (q0 := 0) rfl rfl) rfl hl.1 rfl (Nat.le_of_ble_eq_true rfl) d_MO_write_41 ⟨Nat.zero_le _, Nat.zero_le _⟩ ?_
        refine lv_istore_n (lv' := [(3, .int (nI (msl pr a))), (0, .ref (q 0)), (1, .int (nI a)), (2, .int (nI v))]) hx hb d_MO_write_44 rfl hl (by decide) rfl (fun ls hl => ?_)
        refine lv_aload_n hx hb d_MO_write_45 rfl (lv_at hl 1 rfl) ?_
        refine lv_iload_n hx hb d_MO_write_46 rfl (lv_at hl 2 rfl) ?_
        have g5 := msl_lt pr a
        have g6 := mpg_lt wd se (msl pr a) a
        refine kr_iV (As := [.int (nI a)]) (rest := []) ⟨hx, hb, hml, hown, hts⟩ (c_MO_deviceAt l D k q (nI 0) wd se kd bn sh mb pr B R sx pt rd wt ln px hwd hse hpr a (by omega)) (cwV 1 hts (gV w_609 w_611 w_p14 w_5 w_612) rfl rfl rfl (by decide +kernel) ⟨Nat.le_of_ble_eq_true rfl, Nat.le_of_ble_eq_true rfl⟩) hK hP (va_recv hK hP (ci := 7) (q0 := 0) rfl rfl) rfl hl.1 rfl (Nat.le_of_ble_eq_true rfl) d_MO_write_47 ⟨Nat.zero_le _, Nat.zero_le _⟩ ?_
        refine lv_istore (lv' := [(4, .int (nI (4 * msl pr a + mpg wd se (msl pr a) a))), (3, .int (nI (msl pr a))), (0, .ref (q 0)), (1, .int (nI a)), (2, .int (nI v))]) hx hb d_MO_write_50 hl (by decide) rfl (fun ls hl => ?_)
        refine lv_iload_n hx hb d_MO_write_52 rfl (lv_at hl 3 rfl) ?_
        refine lv_sipush (v := nI 255) hx hb d_MO_write_53 (by decide +kernel) ?_
        refine lv_icmp_ne (tgt := 78) hx hb d_MO_write_56 (by decide) (fun c7 => ?_) (fun c7 => ?_)
        · have c7 := mt (nI_eq (by omega) (by omega)).mpr c7
          exfalso; omega
        · have c7 := (nI_eq (by omega) (by omega)).mp c7
          refine lv_aload_n hx hb d_MO_write_59 rfl (lv_at hl 2 rfl) ?_
          refine va_get (D := D) (ci := 7) (v := .ref (q 1)) (C := R_MO) (T := T_MO) (N := 16) hx hb hts in_MO hown hK hP 0 rfl rfl 1 (by decide) (hts _ w_531) (fun _ h9 => h9) rfl d_MO_write_60 ?_
          refine lv_iload_n hx hb d_MO_write_63 rfl (lv_at hl 1 rfl) ?_
          refine va_zald hx hb hK hP 1 1 rfl rfl (vp_in_nI (by omega) (by omega)) d_MO_write_64 ?_
          refine ss_rt (y := nI (wd (msl pr a))) (congrArg (fun z => nI (wd z)) (nI_clamp (by omega))) ?_
          have g8 := hwd (msl pr a)
          refine lv_if_eq (tgt := 78) hx hb d_MO_write_65 (by decide) (fun c9 => ?_) (fun c9 => ?_)
          · have c9 := (n_eq0 (by omega)).mp c9
            exfalso; omega
          · have c9 := mt (n_eq0 (by omega)).mpr c9
            refine lv_aload_n hx hb d_MO_write_68 rfl (lv_at hl 2 rfl) ?_
            refine va_get (D := D) (ci := 7) (v := .ref (q 2)) (C := R_MO) (T := T_MO) (N := 16) hx hb hts in_MO hown hK hP 0 rfl rfl 2 (by decide) (hts _ w_532) (fun _ h9 => h9) rfl d_MO_write_69 ?_
            refine lv_iload_n hx hb d_MO_write_72 rfl (lv_at hl 1 rfl) ?_
            refine lv_iload_n hx hb d_MO_write_73 rfl (lv_at hl 4 rfl) ?_
            refine va_iast hx hb hK hP hD hS 2 0 rfl rfl (vp_in_nI (by omega) (by omega)) d_MO_write_74 (fun H locs hP hD hS => ?_)
            rw [ss_upI se (k := (msl pr a)) (v := v) (by omega)] at hP hD
            have hP : va_P D vwCl (mW q k (nI 0) wd (ss_up se (msl pr a) v) kd bn sh mb pr B R sx pt rd wt ln px) H := hP
            have hD : va_D A (mW q k (nI 0) wd (ss_up se (msl pr a) v) kd bn sh mb pr B R sx pt rd wt ln px) := hD
            refine lv_goto (tgt := 164) hx hb d_MO_write_75 (by decide) ?_
            exact rw_retv hx hb hr hlocks d_MO_write_164 hS () (trivial) hP
      · have c3 := mt (n_eq0 (by omega)).mpr c3
        exfalso; omega
set_option maxHeartbeats 4000000 in
set_option maxRecDepth 100000 in
theorem c_MO_write3 (l : Launch) (D : va_G) (k : Nat → ClassId) (q : Nat → Nat) (cd : Int32) (wd : Nat → Nat) (se : Nat → Nat) (kd : Nat → Nat) (bn : Nat → Int32) (sh : Nat → Nat) (mb : Nat → Nat) (pr : Nat) (B : Nat → Nat) (R : Nat → Nat) (sx : Nat) (pt : Nat) (rd : Nat) (wt : Int32) (ln : Nat) (px : Nat → Nat) (hwd : ∀ j, wd j < 2) (hse : ∀ j, se j < 256) (hpr : pr < 256) (hkd : ∀ j, kd j < 5) (hsh : ∀ j, sh j < 8) (hmb : ∀ j, mb j < 256) (a v : Nat) (ha : a < 256) (hv : v < 256) (h1 : ¬ (a = 255 ∧ wd (msl pr a) = 1)) (n : Nat) (hn1 : 1 ≤ n) (hn2 : n ≤ 8) (hk : kd (4 * msl pr a + mpg wd se (msl pr a) a) = 3) (hbn : bn (4 * msl pr a + mpg wd se (msl pr a) a) = nI n) (h2 : 64 ≤ a ∧ a ≤ 191) : rw_v l y_MO_write b_MO_write 5 none { frames := 3, cells := 0, slots := 0, locals := 67 } D (kT k) (mW q k cd wd se kd bn sh mb pr B R sx pt rd wt ln px) [.ref (q 0), .int (nI a), .int (nI v)] (fun (_ : Unit) => True) (fun (_ : Unit) => (mW q k (nI 0) wd se kd bn (ss_up sh (4 * (4 * msl pr a + mpg wd se (msl pr a) a) + a / 32 - 2) (v % n)) mb pr B R sx pt rd wt ln px)) := by
  refine rw_headv (by decide) (Nat.le_of_ble_eq_true rfl) ?_
  intro p e s m below meth c ls A hx hb hr hlocks hml hown hts hK hA hP hD hS hl
  have hown : s.vm.findClass "SlotScreenModel" = some m.cls := hown
  have hl : lv_has ls 5 [(0, .ref (q 0)), (1, .int (nI a)), (2, .int (nI v))] := hl
  have z1 := msl_lt pr a
  have z2 := mpg_lt wd se (msl pr a) a
  refine lv_aload_n hx hb d_MO_write_0 rfl (lv_at hl 0 rfl) ?_
  refine lv_iload_n hx hb d_MO_write_1 rfl (lv_at hl 1 rfl) ?_
  refine lv_iconst (v := nI 0) hx hb d_MO_write_2 (by decide +kernel) ?_
  refine lv_sipush (v := nI 255) hx hb d_MO_write_3 (by decide +kernel) ?_
  refine kr_iS (As := [.int (nI a), .int (nI 0), .int (nI 255)]) (rest := [.ref (q 0)]) ⟨hx, hb, hml, hown, hts⟩ (c_MO_within l D k a 0 255 (by omega) (by omega) (by omega)) (va_cwS 3 hts (gS w_587 w_588 w_5 w_589) rfl rfl rfl (by decide +kernel) ⟨Nat.le_of_ble_eq_true rfl, Nat.le_of_ble_eq_true rfl⟩) hK va_nil rfl hl.1 rfl (Nat.le_of_ble_eq_true rfl) d_MO_write_6 ⟨Nat.zero_le _, Nat.zero_le _⟩ ?_
  refine lv_if_eq (tgt := 27) hx hb d_MO_write_9 (by decide) (fun c1 => ?_) (fun c1 => ?_)
  · have c1 := (bI_0).mp c1
    exfalso; omega
  · have c1 := mt (bI_0).mpr c1
    have c1 := Classical.not_not.mp c1
    refine lv_iload_n hx hb d_MO_write_12 rfl (lv_at hl 2 rfl) ?_
    refine lv_iconst (v := nI 0) hx hb d_MO_write_13 (by decide +kernel) ?_
    refine lv_sipush (v := nI 255) hx hb d_MO_write_14 (by decide +kernel) ?_
    refine kr_iS (As := [.int (nI v), .int (nI 0), .int (nI 255)]) (rest := [.ref (q 0)]) ⟨hx, hb, hml, hown, hts⟩ (c_MO_within l D k v 0 255 (by omega) (by omega) (by omega)) (va_cwS 3 hts (gS w_587 w_588 w_5 w_589) rfl rfl rfl (by decide +kernel) ⟨Nat.le_of_ble_eq_true rfl, Nat.le_of_ble_eq_true rfl⟩) hK va_nil rfl hl.1 rfl (Nat.le_of_ble_eq_true rfl) d_MO_write_17 ⟨Nat.zero_le _, Nat.zero_le _⟩ ?_
    refine lv_if_eq (tgt := 27) hx hb d_MO_write_20 (by decide) (fun c2 => ?_) (fun c2 => ?_)
    · have c2 := (bI_0).mp c2
      exfalso; omega
    · have c2 := mt (bI_0).mpr c2
      have c2 := Classical.not_not.mp c2
      refine lv_iconst (v := nI 0) hx hb d_MO_write_23 (by decide +kernel) ?_
      refine lv_goto (tgt := 28) hx hb d_MO_write_24 (by decide) ?_
      refine va_put (D := D) (ci := 7) (v := .int (nI 0)) (ty := .int) (C := R_MO) (T := T_MO) (N := 16) hx hb hts in_MO t_MO o_MO n_MO hown hK hP hD hS 0 rfl rfl 0 (by decide) (hts _ w_530) (fun _ h9 => h9) rfl (by decide +kernel) rfl rfl (Nat.le_of_ble_eq_true rfl) d_MO_write_28 (fun H locs hP hD hS => ?_)
      have hP : va_P D vwCl (mW q k (nI 0) wd se kd bn sh mb pr B R sx pt rd wt ln px) H := hP
      have hD : va_D A (mW q k (nI 0) wd se kd bn sh mb pr B R sx pt rd wt ln px) := hD
      refine lv_aload_n hx hb d_MO_write_31 rfl (lv_at hl 0 rfl) ?_
      refine va_get (D := D) (ci := 7) (v := .int (nI 0)) (C := R_MO) (T := T_MO) (N := 16) hx hb hts in_MO hown hK hP 0 rfl rfl 0 (by decide) (hts _ w_530) (fun _ h9 => h9) rfl d_MO_write_32 ?_
      refine lv_if_eq (tgt := 39) hx hb d_MO_write_35 (by decide) (fun c3 => ?_) (fun c3 => ?_)
      · have c3 := (n_eq0 (by omega)).mp c3
        refine lv_aload_n hx hb d_MO_write_39 rfl (lv_at hl 0 rfl) ?_
        refine lv_iload_n hx hb d_MO_write_40 rfl (lv_at hl 1 rfl) ?_
        have g4 := msl_lt pr a
        refine kr_iV (As := [.int (nI a)]) (rest := []) ⟨hx, hb, hml, hown, hts⟩ (c_MO_slotOf l D k q (nI 0) wd se kd bn sh mb pr B R sx pt rd wt ln px (by omega) a (by omega)) (cwV 1 hts (gV w_602 w_604 w_p13 w_5 w_605) rfl rfl rfl (by decide +kernel) ⟨Nat.le_of_ble_eq_true rfl, Nat.le_of_ble_eq_true rfl⟩) hK hP (va_recv hK hP (ci := 7) (q0 := 0) rfl rfl) rfl hl.1 rfl (Nat.le_of_ble_eq_true rfl) d_MO_write_41 ⟨Nat.zero_le _, Nat.zero_le _⟩ ?_
        refine lv_istore_n (lv' := [(3, .int (nI (msl pr a))), (0, .ref (q 0)), (1, .int (nI a)), (2, .int (nI v))]) hx hb d_MO_write_44 rfl hl (by decide) rfl (fun ls hl => ?_)
        refine lv_aload_n hx hb d_MO_write_45 rfl (lv_at hl 1 rfl) ?_
        refine lv_iload_n hx hb d_MO_write_46 rfl (lv_at hl 2 rfl) ?_
        have g5 := msl_lt pr a
        have g6 := mpg_lt wd se (msl pr a) a
        refine kr_iV (As := [.int (nI a)]) (rest := []) ⟨hx, hb, hml, hown, hts⟩ (c_MO_deviceAt l D k q (nI 0) wd se kd bn sh mb pr B R sx pt rd wt ln px hwd hse hpr a (by omega)) (cwV 1 hts (gV w_609 w_611 w_p14 w_5 w_612) rfl rfl rfl (by decide +kernel) ⟨Nat.le_of_ble_eq_true rfl, Nat.le_of_ble_eq_true rfl⟩) hK hP (va_recv hK hP (ci := 7) (q0 := 0) rfl rfl) rfl hl.1 rfl (Nat.le_of_ble_eq_true rfl) d_MO_write_47 ⟨Nat.zero_le _, Nat.zero_le _⟩ ?_
        refine lv_istore (lv' := [(4, .int (nI (4 * msl pr a + mpg wd se (msl pr a) a))), (3, .int (nI (msl pr a))), (0, .ref (q 0)), (1, .int (nI a)), (2, .int (nI v))]) hx hb d_MO_write_50 hl (by decide) rfl (fun ls hl => ?_)
        refine lv_iload_n hx hb d_MO_write_52 rfl (lv_at hl 3 rfl) ?_
        refine lv_sipush (v := nI 255) hx hb d_MO_write_53 (by decide +kernel) ?_
        refine lv_icmp_ne (tgt := 78) hx hb d_MO_write_56 (by decide) (fun c7 => ?_) (fun c7 => ?_)
        · have c7 := mt (nI_eq (by omega) (by omega)).mpr c7
          refine lv_aload_n hx hb d_MO_write_78 rfl (lv_at hl 2 rfl) ?_
          refine va_get (D := D) (ci := 7) (v := .ref (q 3)) (C := R_MO) (T := T_MO) (N := 16) hx hb hts in_MO hown hK hP 0 rfl rfl 3 (by decide) (hts _ w_533) (fun _ h9 => h9) rfl d_MO_write_79 ?_
          refine lv_iload hx hb d_MO_write_82 (lv_at hl 0 rfl) ?_
          refine va_iald hx hb hK hP 3 0 rfl rfl (vp_in_nI (by omega) (by omega)) d_MO_write_84 ?_
          refine ss_rt (y := nI (kd (4 * msl pr a + mpg wd se (msl pr a) a))) (congrArg (fun z => nI (kd z)) (nI_clamp (by omega))) ?_
          have g8 := hkd (4 * msl pr a + mpg wd se (msl pr a) a)
          refine lv_iconst (v := nI 3) hx hb d_MO_write_85 (by decide +kernel) ?_
          refine lv_icmp_ne (tgt := 129) hx hb d_MO_write_86 (by decide) (fun c9 => ?_) (fun c9 => ?_)
          · have c9 := mt (nI_eq (by omega) (by omega)).mpr c9
            exfalso; omega
          · have c9 := (nI_eq (by omega) (by omega)).mp c9
            refine lv_iload_n hx hb d_MO_write_89 rfl (lv_at hl 3 rfl) ?_
            refine lv_bipush (v := nI 64) hx hb d_MO_write_90 (by decide +kernel) ?_
            refine lv_sipush (v := nI 191) hx hb d_MO_write_92 (by decide +kernel) ?_
            refine kr_iS (As := [.int (nI a), .int (nI 64), .int (nI 191)]) (rest := []) ⟨hx, hb, hml, hown, hts⟩ (c_MO_within l D k a 64 191 (by omega) (by omega) (by omega)) (va_cwS 3 hts (gS w_587 w_588 w_5 w_589) rfl rfl rfl (by decide +kernel) ⟨Nat.le_of_ble_eq_true rfl, Nat.le_of_ble_eq_true rfl⟩) hK va_nil rfl hl.1 rfl (Nat.le_of_ble_eq_true rfl) d_MO_write_95 ⟨Nat.zero_le _, Nat.zero_le _⟩ ?_
            refine lv_if_eq (tgt := 164) hx hb d_MO_write_98 (by decide) (fun c10 => ?_) (fun c10 => ?_)
            · have c10 := (bI_0).mp c10
              exfalso; omega
            · have c10 := mt (bI_0).mpr c10
              have c10 := Classical.not_not.mp c10
              refine lv_aload_n hx hb d_MO_write_101 rfl (lv_at hl 2 rfl) ?_
              refine va_get (D := D) (ci := 7) (v := .ref (q 5)) (C := R_MO) (T := T_MO) (N := 16) hx hb hts in_MO hown hK hP 0 rfl rfl 5 (by decide) (hts _ w_535) (fun _ h9 => h9) rfl d_MO_write_102 ?_
              refine lv_iconst (v := nI 4) hx hb d_MO_write_105 (by decide +kernel) ?_
              refine lv_iload hx hb d_MO_write_106 (lv_at hl 0 rfl) ?_
              refine lv_imul hx hb d_MO_write_108 ?_
              refine ss_rt (y := nI (4 * (4 * msl pr a + mpg wd se (msl pr a) a))) (pk_mul _ _) ?_
              refine lv_iload_n hx hb d_MO_write_109 rfl (lv_at hl 3 rfl) ?_
              refine lv_bipush (v := nI 32) hx hb d_MO_write_110 (by decide +kernel) ?_
              refine lv_idiv hx hb d_MO_write_112 (by first | decide +kernel | exact nI_ne0 (by omega) (by omega)) ?_
              refine ss_rt (y := nI (a / 32)) (pk_div (by omega) (by omega) (by omega)) ?_
              refine lv_iadd hx hb d_MO_write_113 ?_
              refine ss_rt (y := nI (4 * (4 * msl pr a + mpg wd se (msl pr a) a) + (a / 32))) (nI_add _ _) ?_
              refine lv_iconst (v := nI 2) hx hb d_MO_write_114 (by decide +kernel) ?_
              refine lv_isub hx hb d_MO_write_115 ?_
              refine ss_rt (y := nI (4 * (4 * msl pr a + mpg wd se (msl pr a) a) + (a / 32) - 2)) (pk_sub (by omega)) ?_
              refine lv_iload_n hx hb d_MO_write_116 rfl (lv_at hl 4 rfl) ?_
              refine lv_aload_n hx hb d_MO_write_117 rfl (lv_at hl 2 rfl) ?_
              refine va_get (D := D) (ci := 7) (v := .ref (q 4)) (C := R_MO) (T := T_MO) (N := 16) hx hb hts in_MO hown hK hP 0 rfl rfl 4 (by decide) (hts _ w_534) (fun _ h9 => h9) rfl d_MO_write_118 ?_
              refine lv_iload hx hb d_MO_write_121 (lv_at hl 0 rfl) ?_
              refine va_iald hx hb hK hP 4 0 rfl rfl (vp_in_nI (by omega) (by omega)) d_MO_write_123 ?_
              refine ss_rt (y := bn (4 * msl pr a + mpg wd se (msl pr a) a)) (congrArg bn (nI_clamp (by omega))) ?_
              refine ss_rt (y := nI n) hbn ?_
              refine lv_irem hx hb d_MO_write_124 (by first | decide +kernel | exact nI_ne0 (by omega) (by omega)) ?_
              refine ss_rt (y := nI (v % n)) (pk_rem (by omega) (by omega) (by omega)) ?_
              refine va_iast hx hb hK hP hD hS 5 0 rfl rfl (vp_in_nI (by omega) (by omega)) d_MO_write_125 (fun H locs hP hD hS => ?_)
              rw [ss_upI sh (k := (4 * (4 * msl pr a + mpg wd se (msl pr a) a) + (a / 32) - 2)) (v := (v % n)) (by omega)] at hP hD
              have hP : va_P D vwCl (mW q k (nI 0) wd se kd bn (ss_up sh (4 * (4 * msl pr a + mpg wd se (msl pr a) a) + (a / 32) - 2) (v % n)) mb pr B R sx pt rd wt ln px) H := hP
              have hD : va_D A (mW q k (nI 0) wd se kd bn (ss_up sh (4 * (4 * msl pr a + mpg wd se (msl pr a) a) + (a / 32) - 2) (v % n)) mb pr B R sx pt rd wt ln px) := hD
              refine lv_goto (tgt := 164) hx hb d_MO_write_126 (by decide) ?_
              exact rw_retv hx hb hr hlocks d_MO_write_164 hS () (trivial) (by rw [show (ss_up sh (4 * (4 * msl pr a + mpg wd se (msl pr a) a) + a / 32 - 2) (v % n)) = (ss_up sh (4 * (4 * msl pr a + mpg wd se (msl pr a) a) + (a / 32) - 2) (v % n)) from by first | rfl | omega]; exact hP)
        · have c7 := (nI_eq (by omega) (by omega)).mp c7
          refine lv_aload_n hx hb d_MO_write_59 rfl (lv_at hl 2 rfl) ?_
          refine va_get (D := D) (ci := 7) (v := .ref (q 1)) (C := R_MO) (T := T_MO) (N := 16) hx hb hts in_MO hown hK hP 0 rfl rfl 1 (by decide) (hts _ w_531) (fun _ h9 => h9) rfl d_MO_write_60 ?_
          refine lv_iload_n hx hb d_MO_write_63 rfl (lv_at hl 1 rfl) ?_
          refine va_zald hx hb hK hP 1 1 rfl rfl (vp_in_nI (by omega) (by omega)) d_MO_write_64 ?_
          refine ss_rt (y := nI (wd (msl pr a))) (congrArg (fun z => nI (wd z)) (nI_clamp (by omega))) ?_
          have g11 := hwd (msl pr a)
          refine lv_if_eq (tgt := 78) hx hb d_MO_write_65 (by decide) (fun c12 => ?_) (fun c12 => ?_)
          · have c12 := (n_eq0 (by omega)).mp c12
            refine lv_aload_n hx hb d_MO_write_78 rfl (lv_at hl 2 rfl) ?_
            refine va_get (D := D) (ci := 7) (v := .ref (q 3)) (C := R_MO) (T := T_MO) (N := 16) hx hb hts in_MO hown hK hP 0 rfl rfl 3 (by decide) (hts _ w_533) (fun _ h9 => h9) rfl d_MO_write_79 ?_
            refine lv_iload hx hb d_MO_write_82 (lv_at hl 0 rfl) ?_
            refine va_iald hx hb hK hP 3 0 rfl rfl (vp_in_nI (by omega) (by omega)) d_MO_write_84 ?_
            refine ss_rt (y := nI (kd (4 * msl pr a + mpg wd se (msl pr a) a))) (congrArg (fun z => nI (kd z)) (nI_clamp (by omega))) ?_
            have g13 := hkd (4 * msl pr a + mpg wd se (msl pr a) a)
            refine lv_iconst (v := nI 3) hx hb d_MO_write_85 (by decide +kernel) ?_
            refine lv_icmp_ne (tgt := 129) hx hb d_MO_write_86 (by decide) (fun c14 => ?_) (fun c14 => ?_)
            · have c14 := mt (nI_eq (by omega) (by omega)).mpr c14
              exfalso; omega
            · have c14 := (nI_eq (by omega) (by omega)).mp c14
              refine lv_iload_n hx hb d_MO_write_89 rfl (lv_at hl 3 rfl) ?_
              refine lv_bipush (v := nI 64) hx hb d_MO_write_90 (by decide +kernel) ?_
              refine lv_sipush (v := nI 191) hx hb d_MO_write_92 (by decide +kernel) ?_
              refine kr_iS (As := [.int (nI a), .int (nI 64), .int (nI 191)]) (rest := []) ⟨hx, hb, hml, hown, hts⟩ (c_MO_within l D k a 64 191 (by omega) (by omega) (by omega)) (va_cwS 3 hts (gS w_587 w_588 w_5 w_589) rfl rfl rfl (by decide +kernel) ⟨Nat.le_of_ble_eq_true rfl, Nat.le_of_ble_eq_true rfl⟩) hK va_nil rfl hl.1 rfl (Nat.le_of_ble_eq_true rfl) d_MO_write_95 ⟨Nat.zero_le _, Nat.zero_le _⟩ ?_
              refine lv_if_eq (tgt := 164) hx hb d_MO_write_98 (by decide) (fun c15 => ?_) (fun c15 => ?_)
              · have c15 := (bI_0).mp c15
                exfalso; omega
              · have c15 := mt (bI_0).mpr c15
                have c15 := Classical.not_not.mp c15
                refine lv_aload_n hx hb d_MO_write_101 rfl (lv_at hl 2 rfl) ?_
                refine va_get (D := D) (ci := 7) (v := .ref (q 5)) (C := R_MO) (T := T_MO) (N := 16) hx hb hts in_MO hown hK hP 0 rfl rfl 5 (by decide) (hts _ w_535) (fun _ h9 => h9) rfl d_MO_write_102 ?_
                refine lv_iconst (v := nI 4) hx hb d_MO_write_105 (by decide +kernel) ?_
                refine lv_iload hx hb d_MO_write_106 (lv_at hl 0 rfl) ?_
                refine lv_imul hx hb d_MO_write_108 ?_
                refine ss_rt (y := nI (4 * (4 * msl pr a + mpg wd se (msl pr a) a))) (pk_mul _ _) ?_
                refine lv_iload_n hx hb d_MO_write_109 rfl (lv_at hl 3 rfl) ?_
                refine lv_bipush (v := nI 32) hx hb d_MO_write_110 (by decide +kernel) ?_
                refine lv_idiv hx hb d_MO_write_112 (by first | decide +kernel | exact nI_ne0 (by omega) (by omega)) ?_
                refine ss_rt (y := nI (a / 32)) (pk_div (by omega) (by omega) (by omega)) ?_
                refine lv_iadd hx hb d_MO_write_113 ?_
                refine ss_rt (y := nI (4 * (4 * msl pr a + mpg wd se (msl pr a) a) + (a / 32))) (nI_add _ _) ?_
                refine lv_iconst (v := nI 2) hx hb d_MO_write_114 (by decide +kernel) ?_
                refine lv_isub hx hb d_MO_write_115 ?_
                refine ss_rt (y := nI (4 * (4 * msl pr a + mpg wd se (msl pr a) a) + (a / 32) - 2)) (pk_sub (by omega)) ?_
                refine lv_iload_n hx hb d_MO_write_116 rfl (lv_at hl 4 rfl) ?_
                refine lv_aload_n hx hb d_MO_write_117 rfl (lv_at hl 2 rfl) ?_
                refine va_get (D := D) (ci := 7) (v := .ref (q 4)) (C := R_MO) (T := T_MO) (N := 16) hx hb hts in_MO hown hK hP 0 rfl rfl 4 (by decide) (hts _ w_534) (fun _ h9 => h9) rfl d_MO_write_118 ?_
                refine lv_iload hx hb d_MO_write_121 (lv_at hl 0 rfl) ?_
                refine va_iald hx hb hK hP 4 0 rfl rfl (vp_in_nI (by omega) (by omega)) d_MO_write_123 ?_
                refine ss_rt (y := bn (4 * msl pr a + mpg wd se (msl pr a) a)) (congrArg bn (nI_clamp (by omega))) ?_
                refine ss_rt (y := nI n) hbn ?_
                refine lv_irem hx hb d_MO_write_124 (by first | decide +kernel | exact nI_ne0 (by omega) (by omega)) ?_
                refine ss_rt (y := nI (v % n)) (pk_rem (by omega) (by omega) (by omega)) ?_
                refine va_iast hx hb hK hP hD hS 5 0 rfl rfl (vp_in_nI (by omega) (by omega)) d_MO_write_125 (fun H locs hP hD hS => ?_)
                rw [ss_upI sh (k := (4 * (4 * msl pr a + mpg wd se (msl pr a) a) + (a / 32) - 2)) (v := (v % n)) (by omega)] at hP hD
                have hP : va_P D vwCl (mW q k (nI 0) wd se kd bn (ss_up sh (4 * (4 * msl pr a + mpg wd se (msl pr a) a) + (a / 32) - 2) (v % n)) mb pr B R sx pt rd wt ln px) H := hP
                have hD : va_D A (mW q k (nI 0) wd se kd bn (ss_up sh (4 * (4 * msl pr a + mpg wd se (msl pr a) a) + (a / 32) - 2) (v % n)) mb pr B R sx pt rd wt ln px) := hD
                refine lv_goto (tgt := 164) hx hb d_MO_write_126 (by decide) ?_
                exact rw_retv hx hb hr hlocks d_MO_write_164 hS () (trivial) (by rw [show (ss_up sh (4 * (4 * msl pr a + mpg wd se (msl pr a) a) + a / 32 - 2) (v % n)) = (ss_up sh (4 * (4 * msl pr a + mpg wd se (msl pr a) a) + (a / 32) - 2) (v % n)) from by first | rfl | omega]; exact hP)
          · have c12 := mt (n_eq0 (by omega)).mpr c12
            exfalso; omega
      · have c3 := mt (n_eq0 (by omega)).mpr c3
        exfalso; omega
set_option maxHeartbeats 4000000 in
set_option maxRecDepth 100000 in
theorem c_MO_write3o (l : Launch) (D : va_G) (k : Nat → ClassId) (q : Nat → Nat) (cd : Int32) (wd : Nat → Nat) (se : Nat → Nat) (kd : Nat → Nat) (bn : Nat → Int32) (sh : Nat → Nat) (mb : Nat → Nat) (pr : Nat) (B : Nat → Nat) (R : Nat → Nat) (sx : Nat) (pt : Nat) (rd : Nat) (wt : Int32) (ln : Nat) (px : Nat → Nat) (hwd : ∀ j, wd j < 2) (hse : ∀ j, se j < 256) (hpr : pr < 256) (hkd : ∀ j, kd j < 5) (hsh : ∀ j, sh j < 8) (hmb : ∀ j, mb j < 256) (a v : Nat) (ha : a < 256) (hv : v < 256) (h1 : ¬ (a = 255 ∧ wd (msl pr a) = 1)) (hk : kd (4 * msl pr a + mpg wd se (msl pr a) a) = 3) (h2 : ¬ (64 ≤ a ∧ a ≤ 191)) : rw_v l y_MO_write b_MO_write 5 none { frames := 3, cells := 0, slots := 0, locals := 67 } D (kT k) (mW q k cd wd se kd bn sh mb pr B R sx pt rd wt ln px) [.ref (q 0), .int (nI a), .int (nI v)] (fun (_ : Unit) => True) (fun (_ : Unit) => (mW q k (nI 0) wd se kd bn sh mb pr B R sx pt rd wt ln px)) := by
  refine rw_headv (by decide) (Nat.le_of_ble_eq_true rfl) ?_
  intro p e s m below meth c ls A hx hb hr hlocks hml hown hts hK hA hP hD hS hl
  have hown : s.vm.findClass "SlotScreenModel" = some m.cls := hown
  have hl : lv_has ls 5 [(0, .ref (q 0)), (1, .int (nI a)), (2, .int (nI v))] := hl
  have z1 := msl_lt pr a
  have z2 := mpg_lt wd se (msl pr a) a
  refine lv_aload_n hx hb d_MO_write_0 rfl (lv_at hl 0 rfl) ?_
  refine lv_iload_n hx hb d_MO_write_1 rfl (lv_at hl 1 rfl) ?_
  refine lv_iconst (v := nI 0) hx hb d_MO_write_2 (by decide +kernel) ?_
  refine lv_sipush (v := nI 255) hx hb d_MO_write_3 (by decide +kernel) ?_
  refine kr_iS (As := [.int (nI a), .int (nI 0), .int (nI 255)]) (rest := [.ref (q 0)]) ⟨hx, hb, hml, hown, hts⟩ (c_MO_within l D k a 0 255 (by omega) (by omega) (by omega)) (va_cwS 3 hts (gS w_587 w_588 w_5 w_589) rfl rfl rfl (by decide +kernel) ⟨Nat.le_of_ble_eq_true rfl, Nat.le_of_ble_eq_true rfl⟩) hK va_nil rfl hl.1 rfl (Nat.le_of_ble_eq_true rfl) d_MO_write_6 ⟨Nat.zero_le _, Nat.zero_le _⟩ ?_
  refine lv_if_eq (tgt := 27) hx hb d_MO_write_9 (by decide) (fun c1 => ?_) (fun c1 => ?_)
  · have c1 := (bI_0).mp c1
    exfalso; omega
  · have c1 := mt (bI_0).mpr c1
    have c1 := Classical.not_not.mp c1
    refine lv_iload_n hx hb d_MO_write_12 rfl (lv_at hl 2 rfl) ?_
    refine lv_iconst (v := nI 0) hx hb d_MO_write_13 (by decide +kernel) ?_
    refine lv_sipush (v := nI 255) hx hb d_MO_write_14 (by decide +kernel) ?_
    refine kr_iS (As := [.int (nI v), .int (nI 0), .int (nI 255)]) (rest := [.ref (q 0)]) ⟨hx, hb, hml, hown, hts⟩ (c_MO_within l D k v 0 255 (by omega) (by omega) (by omega)) (va_cwS 3 hts (gS w_587 w_588 w_5 w_589) rfl rfl rfl (by decide +kernel) ⟨Nat.le_of_ble_eq_true rfl, Nat.le_of_ble_eq_true rfl⟩) hK va_nil rfl hl.1 rfl (Nat.le_of_ble_eq_true rfl) d_MO_write_17 ⟨Nat.zero_le _, Nat.zero_le _⟩ ?_
    refine lv_if_eq (tgt := 27) hx hb d_MO_write_20 (by decide) (fun c2 => ?_) (fun c2 => ?_)
    · have c2 := (bI_0).mp c2
      exfalso; omega
    · have c2 := mt (bI_0).mpr c2
      have c2 := Classical.not_not.mp c2
      refine lv_iconst (v := nI 0) hx hb d_MO_write_23 (by decide +kernel) ?_
      refine lv_goto (tgt := 28) hx hb d_MO_write_24 (by decide) ?_
      refine va_put (D := D) (ci := 7) (v := .int (nI 0)) (ty := .int) (C := R_MO) (T := T_MO) (N := 16) hx hb hts in_MO t_MO o_MO n_MO hown hK hP hD hS 0 rfl rfl 0 (by decide) (hts _ w_530) (fun _ h9 => h9) rfl (by decide +kernel) rfl rfl (Nat.le_of_ble_eq_true rfl) d_MO_write_28 (fun H locs hP hD hS => ?_)
      have hP : va_P D vwCl (mW q k (nI 0) wd se kd bn sh mb pr B R sx pt rd wt ln px) H := hP
      have hD : va_D A (mW q k (nI 0) wd se kd bn sh mb pr B R sx pt rd wt ln px) := hD
      refine lv_aload_n hx hb d_MO_write_31 rfl (lv_at hl 0 rfl) ?_
      refine va_get (D := D) (ci := 7) (v := .int (nI 0)) (C := R_MO) (T := T_MO) (N := 16) hx hb hts in_MO hown hK hP 0 rfl rfl 0 (by decide) (hts _ w_530) (fun _ h9 => h9) rfl d_MO_write_32 ?_
      refine lv_if_eq (tgt := 39) hx hb d_MO_write_35 (by decide) (fun c3 => ?_) (fun c3 => ?_)
      · have c3 := (n_eq0 (by omega)).mp c3
        refine lv_aload_n hx hb d_MO_write_39 rfl (lv_at hl 0 rfl) ?_
        refine lv_iload_n hx hb d_MO_write_40 rfl (lv_at hl 1 rfl) ?_
        have g4 := msl_lt pr a
        refine kr_iV (As := [.int (nI a)]) (rest := []) ⟨hx, hb, hml, hown, hts⟩ (c_MO_slotOf l D k q (nI 0) wd se kd bn sh mb pr B R sx pt rd wt ln px (by omega) a (by omega)) (cwV 1 hts (gV w_602 w_604 w_p13 w_5 w_605) rfl rfl rfl (by decide +kernel) ⟨Nat.le_of_ble_eq_true rfl, Nat.le_of_ble_eq_true rfl⟩) hK hP (va_recv hK hP (ci := 7) (q0 := 0) rfl rfl) rfl hl.1 rfl (Nat.le_of_ble_eq_true rfl) d_MO_write_41 ⟨Nat.zero_le _, Nat.zero_le _⟩ ?_
        refine lv_istore_n (lv' := [(3, .int (nI (msl pr a))), (0, .ref (q 0)), (1, .int (nI a)), (2, .int (nI v))]) hx hb d_MO_write_44 rfl hl (by decide) rfl (fun ls hl => ?_)
        refine lv_aload_n hx hb d_MO_write_45 rfl (lv_at hl 1 rfl) ?_
        refine lv_iload_n hx hb d_MO_write_46 rfl (lv_at hl 2 rfl) ?_
        have g5 := msl_lt pr a
        have g6 := mpg_lt wd se (msl pr a) a
        refine kr_iV (As := [.int (nI a)]) (rest := []) ⟨hx, hb, hml, hown, hts⟩ (c_MO_deviceAt l D k q (nI 0) wd se kd bn sh mb pr B R sx pt rd wt ln px hwd hse hpr a (by omega)) (cwV 1 hts (gV w_609 w_611 w_p14 w_5 w_612) rfl rfl rfl (by decide +kernel) ⟨Nat.le_of_ble_eq_true rfl, Nat.le_of_ble_eq_true rfl⟩) hK hP (va_recv hK hP (ci := 7) (q0 := 0) rfl rfl) rfl hl.1 rfl (Nat.le_of_ble_eq_true rfl) d_MO_write_47 ⟨Nat.zero_le _, Nat.zero_le _⟩ ?_
        refine lv_istore (lv' := [(4, .int (nI (4 * msl pr a + mpg wd se (msl pr a) a))), (3, .int (nI (msl pr a))), (0, .ref (q 0)), (1, .int (nI a)), (2, .int (nI v))]) hx hb d_MO_write_50 hl (by decide) rfl (fun ls hl => ?_)
        refine lv_iload_n hx hb d_MO_write_52 rfl (lv_at hl 3 rfl) ?_
        refine lv_sipush (v := nI 255) hx hb d_MO_write_53 (by decide +kernel) ?_
        refine lv_icmp_ne (tgt := 78) hx hb d_MO_write_56 (by decide) (fun c7 => ?_) (fun c7 => ?_)
        · have c7 := mt (nI_eq (by omega) (by omega)).mpr c7
          refine lv_aload_n hx hb d_MO_write_78 rfl (lv_at hl 2 rfl) ?_
          refine va_get (D := D) (ci := 7) (v := .ref (q 3)) (C := R_MO) (T := T_MO) (N := 16) hx hb hts in_MO hown hK hP 0 rfl rfl 3 (by decide) (hts _ w_533) (fun _ h9 => h9) rfl d_MO_write_79 ?_
          refine lv_iload hx hb d_MO_write_82 (lv_at hl 0 rfl) ?_
          refine va_iald hx hb hK hP 3 0 rfl rfl (vp_in_nI (by omega) (by omega)) d_MO_write_84 ?_
          refine ss_rt (y := nI (kd (4 * msl pr a + mpg wd se (msl pr a) a))) (congrArg (fun z => nI (kd z)) (nI_clamp (by omega))) ?_
          have g8 := hkd (4 * msl pr a + mpg wd se (msl pr a) a)
          refine lv_iconst (v := nI 3) hx hb d_MO_write_85 (by decide +kernel) ?_
          refine lv_icmp_ne (tgt := 129) hx hb d_MO_write_86 (by decide) (fun c9 => ?_) (fun c9 => ?_)
          · have c9 := mt (nI_eq (by omega) (by omega)).mpr c9
            exfalso; omega
          · have c9 := (nI_eq (by omega) (by omega)).mp c9
            refine lv_iload_n hx hb d_MO_write_89 rfl (lv_at hl 3 rfl) ?_
            refine lv_bipush (v := nI 64) hx hb d_MO_write_90 (by decide +kernel) ?_
            refine lv_sipush (v := nI 191) hx hb d_MO_write_92 (by decide +kernel) ?_
            refine kr_iS (As := [.int (nI a), .int (nI 64), .int (nI 191)]) (rest := []) ⟨hx, hb, hml, hown, hts⟩ (c_MO_within l D k a 64 191 (by omega) (by omega) (by omega)) (va_cwS 3 hts (gS w_587 w_588 w_5 w_589) rfl rfl rfl (by decide +kernel) ⟨Nat.le_of_ble_eq_true rfl, Nat.le_of_ble_eq_true rfl⟩) hK va_nil rfl hl.1 rfl (Nat.le_of_ble_eq_true rfl) d_MO_write_95 ⟨Nat.zero_le _, Nat.zero_le _⟩ ?_
            refine lv_if_eq (tgt := 164) hx hb d_MO_write_98 (by decide) (fun c10 => ?_) (fun c10 => ?_)
            · have c10 := (bI_0).mp c10
              exact rw_retv hx hb hr hlocks d_MO_write_164 hS () (trivial) hP
            · have c10 := mt (bI_0).mpr c10
              have c10 := Classical.not_not.mp c10
              exfalso; omega
        · have c7 := (nI_eq (by omega) (by omega)).mp c7
          refine lv_aload_n hx hb d_MO_write_59 rfl (lv_at hl 2 rfl) ?_
          refine va_get (D := D) (ci := 7) (v := .ref (q 1)) (C := R_MO) (T := T_MO) (N := 16) hx hb hts in_MO hown hK hP 0 rfl rfl 1 (by decide) (hts _ w_531) (fun _ h9 => h9) rfl d_MO_write_60 ?_
          refine lv_iload_n hx hb d_MO_write_63 rfl (lv_at hl 1 rfl) ?_
          refine va_zald hx hb hK hP 1 1 rfl rfl (vp_in_nI (by omega) (by omega)) d_MO_write_64 ?_
          refine ss_rt (y := nI (wd (msl pr a))) (congrArg (fun z => nI (wd z)) (nI_clamp (by omega))) ?_
          have g11 := hwd (msl pr a)
          refine lv_if_eq (tgt := 78) hx hb d_MO_write_65 (by decide) (fun c12 => ?_) (fun c12 => ?_)
          · have c12 := (n_eq0 (by omega)).mp c12
            refine lv_aload_n hx hb d_MO_write_78 rfl (lv_at hl 2 rfl) ?_
            refine va_get (D := D) (ci := 7) (v := .ref (q 3)) (C := R_MO) (T := T_MO) (N := 16) hx hb hts in_MO hown hK hP 0 rfl rfl 3 (by decide) (hts _ w_533) (fun _ h9 => h9) rfl d_MO_write_79 ?_
            refine lv_iload hx hb d_MO_write_82 (lv_at hl 0 rfl) ?_
            refine va_iald hx hb hK hP 3 0 rfl rfl (vp_in_nI (by omega) (by omega)) d_MO_write_84 ?_
            refine ss_rt (y := nI (kd (4 * msl pr a + mpg wd se (msl pr a) a))) (congrArg (fun z => nI (kd z)) (nI_clamp (by omega))) ?_
            have g13 := hkd (4 * msl pr a + mpg wd se (msl pr a) a)
            refine lv_iconst (v := nI 3) hx hb d_MO_write_85 (by decide +kernel) ?_
            refine lv_icmp_ne (tgt := 129) hx hb d_MO_write_86 (by decide) (fun c14 => ?_) (fun c14 => ?_)
            · have c14 := mt (nI_eq (by omega) (by omega)).mpr c14
              exfalso; omega
            · have c14 := (nI_eq (by omega) (by omega)).mp c14
              refine lv_iload_n hx hb d_MO_write_89 rfl (lv_at hl 3 rfl) ?_
              refine lv_bipush (v := nI 64) hx hb d_MO_write_90 (by decide +kernel) ?_
              refine lv_sipush (v := nI 191) hx hb d_MO_write_92 (by decide +kernel) ?_
              refine kr_iS (As := [.int (nI a), .int (nI 64), .int (nI 191)]) (rest := []) ⟨hx, hb, hml, hown, hts⟩ (c_MO_within l D k a 64 191 (by omega) (by omega) (by omega)) (va_cwS 3 hts (gS w_587 w_588 w_5 w_589) rfl rfl rfl (by decide +kernel) ⟨Nat.le_of_ble_eq_true rfl, Nat.le_of_ble_eq_true rfl⟩) hK va_nil rfl hl.1 rfl (Nat.le_of_ble_eq_true rfl) d_MO_write_95 ⟨Nat.zero_le _, Nat.zero_le _⟩ ?_
              refine lv_if_eq (tgt := 164) hx hb d_MO_write_98 (by decide) (fun c15 => ?_) (fun c15 => ?_)
              · have c15 := (bI_0).mp c15
                exact rw_retv hx hb hr hlocks d_MO_write_164 hS () (trivial) hP
              · have c15 := mt (bI_0).mpr c15
                have c15 := Classical.not_not.mp c15
                exfalso; omega
          · have c12 := mt (n_eq0 (by omega)).mpr c12
            exfalso; omega
      · have c3 := mt (n_eq0 (by omega)).mpr c3
        exfalso; omega
set_option maxHeartbeats 4000000 in
set_option maxRecDepth 100000 in
theorem c_MO_write1 (l : Launch) (D : va_G) (k : Nat → ClassId) (q : Nat → Nat) (cd : Int32) (wd : Nat → Nat) (se : Nat → Nat) (kd : Nat → Nat) (bn : Nat → Int32) (sh : Nat → Nat) (mb : Nat → Nat) (pr : Nat) (B : Nat → Nat) (R : Nat → Nat) (sx : Nat) (pt : Nat) (rd : Nat) (wt : Int32) (ln : Nat) (px : Nat → Nat) (hwd : ∀ j, wd j < 2) (hse : ∀ j, se j < 256) (hpr : pr < 256) (hkd : ∀ j, kd j < 5) (hsh : ∀ j, sh j < 8) (hmb : ∀ j, mb j < 256) (a v : Nat) (ha : a < 256) (hv : v < 256) (h1 : ¬ (a = 255 ∧ wd (msl pr a) = 1)) (hk : kd (4 * msl pr a + mpg wd se (msl pr a) a) = 1) : rw_v l y_MO_write b_MO_write 5 none { frames := 3, cells := 0, slots := 0, locals := 67 } D (kT k) (mW q k cd wd se kd bn sh mb pr B R sx pt rd wt ln px) [.ref (q 0), .int (nI a), .int (nI v)] (fun (_ : Unit) => True) (fun (_ : Unit) => (mW q k (nI 0) wd se kd bn sh (ss_up mb (256 * (4 * msl pr a + mpg wd se (msl pr a) a) + a) v) pr B R sx pt rd wt ln px)) := by
  refine rw_headv (by decide) (Nat.le_of_ble_eq_true rfl) ?_
  intro p e s m below meth c ls A hx hb hr hlocks hml hown hts hK hA hP hD hS hl
  have hown : s.vm.findClass "SlotScreenModel" = some m.cls := hown
  have hl : lv_has ls 5 [(0, .ref (q 0)), (1, .int (nI a)), (2, .int (nI v))] := hl
  have z1 := msl_lt pr a
  have z2 := mpg_lt wd se (msl pr a) a
  refine lv_aload_n hx hb d_MO_write_0 rfl (lv_at hl 0 rfl) ?_
  refine lv_iload_n hx hb d_MO_write_1 rfl (lv_at hl 1 rfl) ?_
  refine lv_iconst (v := nI 0) hx hb d_MO_write_2 (by decide +kernel) ?_
  refine lv_sipush (v := nI 255) hx hb d_MO_write_3 (by decide +kernel) ?_
  refine kr_iS (As := [.int (nI a), .int (nI 0), .int (nI 255)]) (rest := [.ref (q 0)]) ⟨hx, hb, hml, hown, hts⟩ (c_MO_within l D k a 0 255 (by omega) (by omega) (by omega)) (va_cwS 3 hts (gS w_587 w_588 w_5 w_589) rfl rfl rfl (by decide +kernel) ⟨Nat.le_of_ble_eq_true rfl, Nat.le_of_ble_eq_true rfl⟩) hK va_nil rfl hl.1 rfl (Nat.le_of_ble_eq_true rfl) d_MO_write_6 ⟨Nat.zero_le _, Nat.zero_le _⟩ ?_
  refine lv_if_eq (tgt := 27) hx hb d_MO_write_9 (by decide) (fun c1 => ?_) (fun c1 => ?_)
  · have c1 := (bI_0).mp c1
    exfalso; omega
  · have c1 := mt (bI_0).mpr c1
    have c1 := Classical.not_not.mp c1
    refine lv_iload_n hx hb d_MO_write_12 rfl (lv_at hl 2 rfl) ?_
    refine lv_iconst (v := nI 0) hx hb d_MO_write_13 (by decide +kernel) ?_
    refine lv_sipush (v := nI 255) hx hb d_MO_write_14 (by decide +kernel) ?_
    refine kr_iS (As := [.int (nI v), .int (nI 0), .int (nI 255)]) (rest := [.ref (q 0)]) ⟨hx, hb, hml, hown, hts⟩ (c_MO_within l D k v 0 255 (by omega) (by omega) (by omega)) (va_cwS 3 hts (gS w_587 w_588 w_5 w_589) rfl rfl rfl (by decide +kernel) ⟨Nat.le_of_ble_eq_true rfl, Nat.le_of_ble_eq_true rfl⟩) hK va_nil rfl hl.1 rfl (Nat.le_of_ble_eq_true rfl) d_MO_write_17 ⟨Nat.zero_le _, Nat.zero_le _⟩ ?_
    refine lv_if_eq (tgt := 27) hx hb d_MO_write_20 (by decide) (fun c2 => ?_) (fun c2 => ?_)
    · have c2 := (bI_0).mp c2
      exfalso; omega
    · have c2 := mt (bI_0).mpr c2
      have c2 := Classical.not_not.mp c2
      refine lv_iconst (v := nI 0) hx hb d_MO_write_23 (by decide +kernel) ?_
      refine lv_goto (tgt := 28) hx hb d_MO_write_24 (by decide) ?_
      refine va_put (D := D) (ci := 7) (v := .int (nI 0)) (ty := .int) (C := R_MO) (T := T_MO) (N := 16) hx hb hts in_MO t_MO o_MO n_MO hown hK hP hD hS 0 rfl rfl 0 (by decide) (hts _ w_530) (fun _ h9 => h9) rfl (by decide +kernel) rfl rfl (Nat.le_of_ble_eq_true rfl) d_MO_write_28 (fun H locs hP hD hS => ?_)
      have hP : va_P D vwCl (mW q k (nI 0) wd se kd bn sh mb pr B R sx pt rd wt ln px) H := hP
      have hD : va_D A (mW q k (nI 0) wd se kd bn sh mb pr B R sx pt rd wt ln px) := hD
      refine lv_aload_n hx hb d_MO_write_31 rfl (lv_at hl 0 rfl) ?_
      refine va_get (D := D) (ci := 7) (v := .int (nI 0)) (C := R_MO) (T := T_MO) (N := 16) hx hb hts in_MO hown hK hP 0 rfl rfl 0 (by decide) (hts _ w_530) (fun _ h9 => h9) rfl d_MO_write_32 ?_
      refine lv_if_eq (tgt := 39) hx hb d_MO_write_35 (by decide) (fun c3 => ?_) (fun c3 => ?_)
      · have c3 := (n_eq0 (by omega)).mp c3
        refine lv_aload_n hx hb d_MO_write_39 rfl (lv_at hl 0 rfl) ?_
        refine lv_iload_n hx hb d_MO_write_40 rfl (lv_at hl 1 rfl) ?_
        have g4 := msl_lt pr a
        refine kr_iV (As := [.int (nI a)]) (rest := []) ⟨hx, hb, hml, hown, hts⟩ (c_MO_slotOf l D k q (nI 0) wd se kd bn sh mb pr B R sx pt rd wt ln px (by omega) a (by omega)) (cwV 1 hts (gV w_602 w_604 w_p13 w_5 w_605) rfl rfl rfl (by decide +kernel) ⟨Nat.le_of_ble_eq_true rfl, Nat.le_of_ble_eq_true rfl⟩) hK hP (va_recv hK hP (ci := 7) (q0 := 0) rfl rfl) rfl hl.1 rfl (Nat.le_of_ble_eq_true rfl) d_MO_write_41 ⟨Nat.zero_le _, Nat.zero_le _⟩ ?_
        refine lv_istore_n (lv' := [(3, .int (nI (msl pr a))), (0, .ref (q 0)), (1, .int (nI a)), (2, .int (nI v))]) hx hb d_MO_write_44 rfl hl (by decide) rfl (fun ls hl => ?_)
        refine lv_aload_n hx hb d_MO_write_45 rfl (lv_at hl 1 rfl) ?_
        refine lv_iload_n hx hb d_MO_write_46 rfl (lv_at hl 2 rfl) ?_
        have g5 := msl_lt pr a
        have g6 := mpg_lt wd se (msl pr a) a
        refine kr_iV (As := [.int (nI a)]) (rest := []) ⟨hx, hb, hml, hown, hts⟩ (c_MO_deviceAt l D k q (nI 0) wd se kd bn sh mb pr B R sx pt rd wt ln px hwd hse hpr a (by omega)) (cwV 1 hts (gV w_609 w_611 w_p14 w_5 w_612) rfl rfl rfl (by decide +kernel) ⟨Nat.le_of_ble_eq_true rfl, Nat.le_of_ble_eq_true rfl⟩) hK hP (va_recv hK hP (ci := 7) (q0 := 0) rfl rfl) rfl hl.1 rfl (Nat.le_of_ble_eq_true rfl) d_MO_write_47 ⟨Nat.zero_le _, Nat.zero_le _⟩ ?_
        refine lv_istore (lv' := [(4, .int (nI (4 * msl pr a + mpg wd se (msl pr a) a))), (3, .int (nI (msl pr a))), (0, .ref (q 0)), (1, .int (nI a)), (2, .int (nI v))]) hx hb d_MO_write_50 hl (by decide) rfl (fun ls hl => ?_)
        refine lv_iload_n hx hb d_MO_write_52 rfl (lv_at hl 3 rfl) ?_
        refine lv_sipush (v := nI 255) hx hb d_MO_write_53 (by decide +kernel) ?_
        refine lv_icmp_ne (tgt := 78) hx hb d_MO_write_56 (by decide) (fun c7 => ?_) (fun c7 => ?_)
        · have c7 := mt (nI_eq (by omega) (by omega)).mpr c7
          refine lv_aload_n hx hb d_MO_write_78 rfl (lv_at hl 2 rfl) ?_
          refine va_get (D := D) (ci := 7) (v := .ref (q 3)) (C := R_MO) (T := T_MO) (N := 16) hx hb hts in_MO hown hK hP 0 rfl rfl 3 (by decide) (hts _ w_533) (fun _ h9 => h9) rfl d_MO_write_79 ?_
          refine lv_iload hx hb d_MO_write_82 (lv_at hl 0 rfl) ?_
          refine va_iald hx hb hK hP 3 0 rfl rfl (vp_in_nI (by omega) (by omega)) d_MO_write_84 ?_
          refine ss_rt (y := nI (kd (4 * msl pr a + mpg wd se (msl pr a) a))) (congrArg (fun z => nI (kd z)) (nI_clamp (by omega))) ?_
          have g8 := hkd (4 * msl pr a + mpg wd se (msl pr a) a)
          refine lv_iconst (v := nI 3) hx hb d_MO_write_85 (by decide +kernel) ?_
          refine lv_icmp_ne (tgt := 129) hx hb d_MO_write_86 (by decide) (fun c9 => ?_) (fun c9 => ?_)
          · have c9 := mt (nI_eq (by omega) (by omega)).mpr c9
            refine lv_aload_n hx hb d_MO_write_129 rfl (lv_at hl 2 rfl) ?_
            refine va_get (D := D) (ci := 7) (v := .ref (q 3)) (C := R_MO) (T := T_MO) (N := 16) hx hb hts in_MO hown hK hP 0 rfl rfl 3 (by decide) (hts _ w_533) (fun _ h9 => h9) rfl d_MO_write_130 ?_
            refine lv_iload hx hb d_MO_write_133 (lv_at hl 0 rfl) ?_
            refine va_iald hx hb hK hP 3 0 rfl rfl (vp_in_nI (by omega) (by omega)) d_MO_write_135 ?_
            refine ss_rt (y := nI (kd (4 * msl pr a + mpg wd se (msl pr a) a))) (congrArg (fun z => nI (kd z)) (nI_clamp (by omega))) ?_
            have g10 := hkd (4 * msl pr a + mpg wd se (msl pr a) a)
            refine lv_iconst (v := nI 1) hx hb d_MO_write_136 (by decide +kernel) ?_
            refine lv_icmp_eq (tgt := 151) hx hb d_MO_write_137 (by decide) (fun c11 => ?_) (fun c11 => ?_)
            · have c11 := (nI_eq (by omega) (by omega)).mp c11
              refine lv_aload_n hx hb d_MO_write_151 rfl (lv_at hl 2 rfl) ?_
              refine va_get (D := D) (ci := 7) (v := .ref (q 6)) (C := R_MO) (T := T_MO) (N := 16) hx hb hts in_MO hown hK hP 0 rfl rfl 6 (by decide) (hts _ w_536) (fun _ h9 => h9) rfl d_MO_write_152 ?_
              refine lv_aload_n hx hb d_MO_write_155 rfl (lv_at hl 2 rfl) ?_
              refine lv_iload hx hb d_MO_write_156 (lv_at hl 0 rfl) ?_
              refine lv_iload_n hx hb d_MO_write_158 rfl (lv_at hl 3 rfl) ?_
              refine kr_iV (As := [.int (nI (4 * msl pr a + mpg wd se (msl pr a) a)), .int (nI a)]) (rest := [.ref (q 6)]) ⟨hx, hb, hml, hown, hts⟩ (c_MO_placeOf12 l D k q (nI 0) wd se kd bn sh mb pr B R sx pt rd wt ln px hkd hsh hmb (4 * msl pr a + mpg wd se (msl pr a) a) a (by omega) (by omega) (by omega)) (cwV 2 hts (gV w_617 w_619 w_p16 w_5 w_620) rfl rfl rfl (by decide +kernel) ⟨Nat.le_of_ble_eq_true rfl, Nat.le_of_ble_eq_true rfl⟩) hK hP (va_recv hK hP (ci := 7) (q0 := 0) rfl rfl) rfl hl.1 rfl (Nat.le_of_ble_eq_true rfl) d_MO_write_159 ⟨Nat.zero_le _, Nat.zero_le _⟩ ?_
              refine lv_iload_n hx hb d_MO_write_162 rfl (lv_at hl 4 rfl) ?_
              refine va_iast hx hb hK hP hD hS 6 0 rfl rfl (vp_in_nI (by omega) (by omega)) d_MO_write_163 (fun H locs hP hD hS => ?_)
              rw [ss_upI mb (k := (256 * (4 * msl pr a + mpg wd se (msl pr a) a) + a)) (v := v) (by omega)] at hP hD
              have hP : va_P D vwCl (mW q k (nI 0) wd se kd bn sh (ss_up mb (256 * (4 * msl pr a + mpg wd se (msl pr a) a) + a) v) pr B R sx pt rd wt ln px) H := hP
              have hD : va_D A (mW q k (nI 0) wd se kd bn sh (ss_up mb (256 * (4 * msl pr a + mpg wd se (msl pr a) a) + a) v) pr B R sx pt rd wt ln px) := hD
              exact rw_retv hx hb hr hlocks d_MO_write_164 hS () (trivial) hP
            · have c11 := mt (nI_eq (by omega) (by omega)).mpr c11
              exfalso; omega
          · have c9 := (nI_eq (by omega) (by omega)).mp c9
            exfalso; omega
        · have c7 := (nI_eq (by omega) (by omega)).mp c7
          refine lv_aload_n hx hb d_MO_write_59 rfl (lv_at hl 2 rfl) ?_
          refine va_get (D := D) (ci := 7) (v := .ref (q 1)) (C := R_MO) (T := T_MO) (N := 16) hx hb hts in_MO hown hK hP 0 rfl rfl 1 (by decide) (hts _ w_531) (fun _ h9 => h9) rfl d_MO_write_60 ?_
          refine lv_iload_n hx hb d_MO_write_63 rfl (lv_at hl 1 rfl) ?_
          refine va_zald hx hb hK hP 1 1 rfl rfl (vp_in_nI (by omega) (by omega)) d_MO_write_64 ?_
          refine ss_rt (y := nI (wd (msl pr a))) (congrArg (fun z => nI (wd z)) (nI_clamp (by omega))) ?_
          have g12 := hwd (msl pr a)
          refine lv_if_eq (tgt := 78) hx hb d_MO_write_65 (by decide) (fun c13 => ?_) (fun c13 => ?_)
          · have c13 := (n_eq0 (by omega)).mp c13
            refine lv_aload_n hx hb d_MO_write_78 rfl (lv_at hl 2 rfl) ?_
            refine va_get (D := D) (ci := 7) (v := .ref (q 3)) (C := R_MO) (T := T_MO) (N := 16) hx hb hts in_MO hown hK hP 0 rfl rfl 3 (by decide) (hts _ w_533) (fun _ h9 => h9) rfl d_MO_write_79 ?_
            refine lv_iload hx hb d_MO_write_82 (lv_at hl 0 rfl) ?_
            refine va_iald hx hb hK hP 3 0 rfl rfl (vp_in_nI (by omega) (by omega)) d_MO_write_84 ?_
            refine ss_rt (y := nI (kd (4 * msl pr a + mpg wd se (msl pr a) a))) (congrArg (fun z => nI (kd z)) (nI_clamp (by omega))) ?_
            have g14 := hkd (4 * msl pr a + mpg wd se (msl pr a) a)
            refine lv_iconst (v := nI 3) hx hb d_MO_write_85 (by decide +kernel) ?_
            refine lv_icmp_ne (tgt := 129) hx hb d_MO_write_86 (by decide) (fun c15 => ?_) (fun c15 => ?_)
            · have c15 := mt (nI_eq (by omega) (by omega)).mpr c15
              refine lv_aload_n hx hb d_MO_write_129 rfl (lv_at hl 2 rfl) ?_
              refine va_get (D := D) (ci := 7) (v := .ref (q 3)) (C := R_MO) (T := T_MO) (N := 16) hx hb hts in_MO hown hK hP 0 rfl rfl 3 (by decide) (hts _ w_533) (fun _ h9 => h9) rfl d_MO_write_130 ?_
              refine lv_iload hx hb d_MO_write_133 (lv_at hl 0 rfl) ?_
              refine va_iald hx hb hK hP 3 0 rfl rfl (vp_in_nI (by omega) (by omega)) d_MO_write_135 ?_
              refine ss_rt (y := nI (kd (4 * msl pr a + mpg wd se (msl pr a) a))) (congrArg (fun z => nI (kd z)) (nI_clamp (by omega))) ?_
              have g16 := hkd (4 * msl pr a + mpg wd se (msl pr a) a)
              refine lv_iconst (v := nI 1) hx hb d_MO_write_136 (by decide +kernel) ?_
              refine lv_icmp_eq (tgt := 151) hx hb d_MO_write_137 (by decide) (fun c17 => ?_) (fun c17 => ?_)
              · have c17 := (nI_eq (by omega) (by omega)).mp c17
                refine lv_aload_n hx hb d_MO_write_151 rfl (lv_at hl 2 rfl) ?_
                refine va_get (D := D) (ci := 7) (v := .ref (q 6)) (C := R_MO) (T := T_MO) (N := 16) hx hb hts in_MO hown hK hP 0 rfl rfl 6 (by decide) (hts _ w_536) (fun _ h9 => h9) rfl d_MO_write_152 ?_
                refine lv_aload_n hx hb d_MO_write_155 rfl (lv_at hl 2 rfl) ?_
                refine lv_iload hx hb d_MO_write_156 (lv_at hl 0 rfl) ?_
                refine lv_iload_n hx hb d_MO_write_158 rfl (lv_at hl 3 rfl) ?_
                refine kr_iV (As := [.int (nI (4 * msl pr a + mpg wd se (msl pr a) a)), .int (nI a)]) (rest := [.ref (q 6)]) ⟨hx, hb, hml, hown, hts⟩ (c_MO_placeOf12 l D k q (nI 0) wd se kd bn sh mb pr B R sx pt rd wt ln px hkd hsh hmb (4 * msl pr a + mpg wd se (msl pr a) a) a (by omega) (by omega) (by omega)) (cwV 2 hts (gV w_617 w_619 w_p16 w_5 w_620) rfl rfl rfl (by decide +kernel) ⟨Nat.le_of_ble_eq_true rfl, Nat.le_of_ble_eq_true rfl⟩) hK hP (va_recv hK hP (ci := 7) (q0 := 0) rfl rfl) rfl hl.1 rfl (Nat.le_of_ble_eq_true rfl) d_MO_write_159 ⟨Nat.zero_le _, Nat.zero_le _⟩ ?_
                refine lv_iload_n hx hb d_MO_write_162 rfl (lv_at hl 4 rfl) ?_
                refine va_iast hx hb hK hP hD hS 6 0 rfl rfl (vp_in_nI (by omega) (by omega)) d_MO_write_163 (fun H locs hP hD hS => ?_)
                rw [ss_upI mb (k := (256 * (4 * msl pr a + mpg wd se (msl pr a) a) + a)) (v := v) (by omega)] at hP hD
                have hP : va_P D vwCl (mW q k (nI 0) wd se kd bn sh (ss_up mb (256 * (4 * msl pr a + mpg wd se (msl pr a) a) + a) v) pr B R sx pt rd wt ln px) H := hP
                have hD : va_D A (mW q k (nI 0) wd se kd bn sh (ss_up mb (256 * (4 * msl pr a + mpg wd se (msl pr a) a) + a) v) pr B R sx pt rd wt ln px) := hD
                exact rw_retv hx hb hr hlocks d_MO_write_164 hS () (trivial) hP
              · have c17 := mt (nI_eq (by omega) (by omega)).mpr c17
                exfalso; omega
            · have c15 := (nI_eq (by omega) (by omega)).mp c15
              exfalso; omega
          · have c13 := mt (n_eq0 (by omega)).mpr c13
            exfalso; omega
      · have c3 := mt (n_eq0 (by omega)).mpr c3
        exfalso; omega
set_option maxHeartbeats 4000000 in
set_option maxRecDepth 100000 in
theorem c_MO_write4 (l : Launch) (D : va_G) (k : Nat → ClassId) (q : Nat → Nat) (cd : Int32) (wd : Nat → Nat) (se : Nat → Nat) (kd : Nat → Nat) (bn : Nat → Int32) (sh : Nat → Nat) (mb : Nat → Nat) (pr : Nat) (B : Nat → Nat) (R : Nat → Nat) (sx : Nat) (pt : Nat) (rd : Nat) (wt : Int32) (ln : Nat) (px : Nat → Nat) (hwd : ∀ j, wd j < 2) (hse : ∀ j, se j < 256) (hpr : pr < 256) (hkd : ∀ j, kd j < 5) (hsh : ∀ j, sh j < 8) (hmb : ∀ j, mb j < 256) (a v : Nat) (ha : a < 256) (hv : v < 256) (h1 : ¬ (a = 255 ∧ wd (msl pr a) = 1)) (hk : kd (4 * msl pr a + mpg wd se (msl pr a) a) = 4) : rw_v l y_MO_write b_MO_write 5 none { frames := 3, cells := 0, slots := 0, locals := 67 } D (kT k) (mW q k cd wd se kd bn sh mb pr B R sx pt rd wt ln px) [.ref (q 0), .int (nI a), .int (nI v)] (fun (_ : Unit) => True) (fun (_ : Unit) => (mW q k (nI 0) wd se kd bn sh (ss_up mb (256 * (4 * msl pr a + mpg wd se (msl pr a) a) + a % 64) v) pr B R sx pt rd wt ln px)) := by
  refine rw_headv (by decide) (Nat.le_of_ble_eq_true rfl) ?_
  intro p e s m below meth c ls A hx hb hr hlocks hml hown hts hK hA hP hD hS hl
  have hown : s.vm.findClass "SlotScreenModel" = some m.cls := hown
  have hl : lv_has ls 5 [(0, .ref (q 0)), (1, .int (nI a)), (2, .int (nI v))] := hl
  have z1 := msl_lt pr a
  have z2 := mpg_lt wd se (msl pr a) a
  refine lv_aload_n hx hb d_MO_write_0 rfl (lv_at hl 0 rfl) ?_
  refine lv_iload_n hx hb d_MO_write_1 rfl (lv_at hl 1 rfl) ?_
  refine lv_iconst (v := nI 0) hx hb d_MO_write_2 (by decide +kernel) ?_
  refine lv_sipush (v := nI 255) hx hb d_MO_write_3 (by decide +kernel) ?_
  refine kr_iS (As := [.int (nI a), .int (nI 0), .int (nI 255)]) (rest := [.ref (q 0)]) ⟨hx, hb, hml, hown, hts⟩ (c_MO_within l D k a 0 255 (by omega) (by omega) (by omega)) (va_cwS 3 hts (gS w_587 w_588 w_5 w_589) rfl rfl rfl (by decide +kernel) ⟨Nat.le_of_ble_eq_true rfl, Nat.le_of_ble_eq_true rfl⟩) hK va_nil rfl hl.1 rfl (Nat.le_of_ble_eq_true rfl) d_MO_write_6 ⟨Nat.zero_le _, Nat.zero_le _⟩ ?_
  refine lv_if_eq (tgt := 27) hx hb d_MO_write_9 (by decide) (fun c1 => ?_) (fun c1 => ?_)
  · have c1 := (bI_0).mp c1
    exfalso; omega
  · have c1 := mt (bI_0).mpr c1
    have c1 := Classical.not_not.mp c1
    refine lv_iload_n hx hb d_MO_write_12 rfl (lv_at hl 2 rfl) ?_
    refine lv_iconst (v := nI 0) hx hb d_MO_write_13 (by decide +kernel) ?_
    refine lv_sipush (v := nI 255) hx hb d_MO_write_14 (by decide +kernel) ?_
    refine kr_iS (As := [.int (nI v), .int (nI 0), .int (nI 255)]) (rest := [.ref (q 0)]) ⟨hx, hb, hml, hown, hts⟩ (c_MO_within l D k v 0 255 (by omega) (by omega) (by omega)) (va_cwS 3 hts (gS w_587 w_588 w_5 w_589) rfl rfl rfl (by decide +kernel) ⟨Nat.le_of_ble_eq_true rfl, Nat.le_of_ble_eq_true rfl⟩) hK va_nil rfl hl.1 rfl (Nat.le_of_ble_eq_true rfl) d_MO_write_17 ⟨Nat.zero_le _, Nat.zero_le _⟩ ?_
    refine lv_if_eq (tgt := 27) hx hb d_MO_write_20 (by decide) (fun c2 => ?_) (fun c2 => ?_)
    · have c2 := (bI_0).mp c2
      exfalso; omega
    · have c2 := mt (bI_0).mpr c2
      have c2 := Classical.not_not.mp c2
      refine lv_iconst (v := nI 0) hx hb d_MO_write_23 (by decide +kernel) ?_
      refine lv_goto (tgt := 28) hx hb d_MO_write_24 (by decide) ?_
      refine va_put (D := D) (ci := 7) (v := .int (nI 0)) (ty := .int) (C := R_MO) (T := T_MO) (N := 16) hx hb hts in_MO t_MO o_MO n_MO hown hK hP hD hS 0 rfl rfl 0 (by decide) (hts _ w_530) (fun _ h9 => h9) rfl (by decide +kernel) rfl rfl (Nat.le_of_ble_eq_true rfl) d_MO_write_28 (fun H locs hP hD hS => ?_)
      have hP : va_P D vwCl (mW q k (nI 0) wd se kd bn sh mb pr B R sx pt rd wt ln px) H := hP
      have hD : va_D A (mW q k (nI 0) wd se kd bn sh mb pr B R sx pt rd wt ln px) := hD
      refine lv_aload_n hx hb d_MO_write_31 rfl (lv_at hl 0 rfl) ?_
      refine va_get (D := D) (ci := 7) (v := .int (nI 0)) (C := R_MO) (T := T_MO) (N := 16) hx hb hts in_MO hown hK hP 0 rfl rfl 0 (by decide) (hts _ w_530) (fun _ h9 => h9) rfl d_MO_write_32 ?_
      refine lv_if_eq (tgt := 39) hx hb d_MO_write_35 (by decide) (fun c3 => ?_) (fun c3 => ?_)
      · have c3 := (n_eq0 (by omega)).mp c3
        refine lv_aload_n hx hb d_MO_write_39 rfl (lv_at hl 0 rfl) ?_
        refine lv_iload_n hx hb d_MO_write_40 rfl (lv_at hl 1 rfl) ?_
        have g4 := msl_lt pr a
        refine kr_iV (As := [.int (nI a)]) (rest := []) ⟨hx, hb, hml, hown, hts⟩ (c_MO_slotOf l D k q (nI 0) wd se kd bn sh mb pr B R sx pt rd wt ln px (by omega) a (by omega)) (cwV 1 hts (gV w_602 w_604 w_p13 w_5 w_605) rfl rfl rfl (by decide +kernel) ⟨Nat.le_of_ble_eq_true rfl, Nat.le_of_ble_eq_true rfl⟩) hK hP (va_recv hK hP (ci := 7) (q0 := 0) rfl rfl) rfl hl.1 rfl (Nat.le_of_ble_eq_true rfl) d_MO_write_41 ⟨Nat.zero_le _, Nat.zero_le _⟩ ?_
        refine lv_istore_n (lv' := [(3, .int (nI (msl pr a))), (0, .ref (q 0)), (1, .int (nI a)), (2, .int (nI v))]) hx hb d_MO_write_44 rfl hl (by decide) rfl (fun ls hl => ?_)
        refine lv_aload_n hx hb d_MO_write_45 rfl (lv_at hl 1 rfl) ?_
        refine lv_iload_n hx hb d_MO_write_46 rfl (lv_at hl 2 rfl) ?_
        have g5 := msl_lt pr a
        have g6 := mpg_lt wd se (msl pr a) a
        refine kr_iV (As := [.int (nI a)]) (rest := []) ⟨hx, hb, hml, hown, hts⟩ (c_MO_deviceAt l D k q (nI 0) wd se kd bn sh mb pr B R sx pt rd wt ln px hwd hse hpr a (by omega)) (cwV 1 hts (gV w_609 w_611 w_p14 w_5 w_612) rfl rfl rfl (by decide +kernel) ⟨Nat.le_of_ble_eq_true rfl, Nat.le_of_ble_eq_true rfl⟩) hK hP (va_recv hK hP (ci := 7) (q0 := 0) rfl rfl) rfl hl.1 rfl (Nat.le_of_ble_eq_true rfl) d_MO_write_47 ⟨Nat.zero_le _, Nat.zero_le _⟩ ?_
        refine lv_istore (lv' := [(4, .int (nI (4 * msl pr a + mpg wd se (msl pr a) a))), (3, .int (nI (msl pr a))), (0, .ref (q 0)), (1, .int (nI a)), (2, .int (nI v))]) hx hb d_MO_write_50 hl (by decide) rfl (fun ls hl => ?_)
        refine lv_iload_n hx hb d_MO_write_52 rfl (lv_at hl 3 rfl) ?_
        refine lv_sipush (v := nI 255) hx hb d_MO_write_53 (by decide +kernel) ?_
        refine lv_icmp_ne (tgt := 78) hx hb d_MO_write_56 (by decide) (fun c7 => ?_) (fun c7 => ?_)
        · have c7 := mt (nI_eq (by omega) (by omega)).mpr c7
          refine lv_aload_n hx hb d_MO_write_78 rfl (lv_at hl 2 rfl) ?_
          refine va_get (D := D) (ci := 7) (v := .ref (q 3)) (C := R_MO) (T := T_MO) (N := 16) hx hb hts in_MO hown hK hP 0 rfl rfl 3 (by decide) (hts _ w_533) (fun _ h9 => h9) rfl d_MO_write_79 ?_
          refine lv_iload hx hb d_MO_write_82 (lv_at hl 0 rfl) ?_
          refine va_iald hx hb hK hP 3 0 rfl rfl (vp_in_nI (by omega) (by omega)) d_MO_write_84 ?_
          refine ss_rt (y := nI (kd (4 * msl pr a + mpg wd se (msl pr a) a))) (congrArg (fun z => nI (kd z)) (nI_clamp (by omega))) ?_
          have g8 := hkd (4 * msl pr a + mpg wd se (msl pr a) a)
          refine lv_iconst (v := nI 3) hx hb d_MO_write_85 (by decide +kernel) ?_
          refine lv_icmp_ne (tgt := 129) hx hb d_MO_write_86 (by decide) (fun c9 => ?_) (fun c9 => ?_)
          · have c9 := mt (nI_eq (by omega) (by omega)).mpr c9
            refine lv_aload_n hx hb d_MO_write_129 rfl (lv_at hl 2 rfl) ?_
            refine va_get (D := D) (ci := 7) (v := .ref (q 3)) (C := R_MO) (T := T_MO) (N := 16) hx hb hts in_MO hown hK hP 0 rfl rfl 3 (by decide) (hts _ w_533) (fun _ h9 => h9) rfl d_MO_write_130 ?_
            refine lv_iload hx hb d_MO_write_133 (lv_at hl 0 rfl) ?_
            refine va_iald hx hb hK hP 3 0 rfl rfl (vp_in_nI (by omega) (by omega)) d_MO_write_135 ?_
            refine ss_rt (y := nI (kd (4 * msl pr a + mpg wd se (msl pr a) a))) (congrArg (fun z => nI (kd z)) (nI_clamp (by omega))) ?_
            have g10 := hkd (4 * msl pr a + mpg wd se (msl pr a) a)
            refine lv_iconst (v := nI 1) hx hb d_MO_write_136 (by decide +kernel) ?_
            refine lv_icmp_eq (tgt := 151) hx hb d_MO_write_137 (by decide) (fun c11 => ?_) (fun c11 => ?_)
            · have c11 := (nI_eq (by omega) (by omega)).mp c11
              exfalso; omega
            · have c11 := mt (nI_eq (by omega) (by omega)).mpr c11
              refine lv_aload_n hx hb d_MO_write_140 rfl (lv_at hl 2 rfl) ?_
              refine va_get (D := D) (ci := 7) (v := .ref (q 3)) (C := R_MO) (T := T_MO) (N := 16) hx hb hts in_MO hown hK hP 0 rfl rfl 3 (by decide) (hts _ w_533) (fun _ h9 => h9) rfl d_MO_write_141 ?_
              refine lv_iload hx hb d_MO_write_144 (lv_at hl 0 rfl) ?_
              refine va_iald hx hb hK hP 3 0 rfl rfl (vp_in_nI (by omega) (by omega)) d_MO_write_146 ?_
              refine ss_rt (y := nI (kd (4 * msl pr a + mpg wd se (msl pr a) a))) (congrArg (fun z => nI (kd z)) (nI_clamp (by omega))) ?_
              have g12 := hkd (4 * msl pr a + mpg wd se (msl pr a) a)
              refine lv_iconst (v := nI 4) hx hb d_MO_write_147 (by decide +kernel) ?_
              refine lv_icmp_ne (tgt := 164) hx hb d_MO_write_148 (by decide) (fun c13 => ?_) (fun c13 => ?_)
              · have c13 := mt (nI_eq (by omega) (by omega)).mpr c13
                exfalso; omega
              · have c13 := (nI_eq (by omega) (by omega)).mp c13
                refine lv_aload_n hx hb d_MO_write_151 rfl (lv_at hl 2 rfl) ?_
                refine va_get (D := D) (ci := 7) (v := .ref (q 6)) (C := R_MO) (T := T_MO) (N := 16) hx hb hts in_MO hown hK hP 0 rfl rfl 6 (by decide) (hts _ w_536) (fun _ h9 => h9) rfl d_MO_write_152 ?_
                refine lv_aload_n hx hb d_MO_write_155 rfl (lv_at hl 2 rfl) ?_
                refine lv_iload hx hb d_MO_write_156 (lv_at hl 0 rfl) ?_
                refine lv_iload_n hx hb d_MO_write_158 rfl (lv_at hl 3 rfl) ?_
                refine kr_iV (As := [.int (nI (4 * msl pr a + mpg wd se (msl pr a) a)), .int (nI a)]) (rest := [.ref (q 6)]) ⟨hx, hb, hml, hown, hts⟩ (c_MO_placeOf4 l D k q (nI 0) wd se kd bn sh mb pr B R sx pt rd wt ln px hkd hsh hmb (4 * msl pr a + mpg wd se (msl pr a) a) a (by omega) (by omega) (by omega)) (cwV 2 hts (gV w_617 w_619 w_p16 w_5 w_620) rfl rfl rfl (by decide +kernel) ⟨Nat.le_of_ble_eq_true rfl, Nat.le_of_ble_eq_true rfl⟩) hK hP (va_recv hK hP (ci := 7) (q0 := 0) rfl rfl) rfl hl.1 rfl (Nat.le_of_ble_eq_true rfl) d_MO_write_159 ⟨Nat.zero_le _, Nat.zero_le _⟩ ?_
                refine lv_iload_n hx hb d_MO_write_162 rfl (lv_at hl 4 rfl) ?_
                refine va_iast hx hb hK hP hD hS 6 0 rfl rfl (vp_in_nI (by omega) (by omega)) d_MO_write_163 (fun H locs hP hD hS => ?_)
                rw [ss_upI mb (k := (256 * (4 * msl pr a + mpg wd se (msl pr a) a) + a % 64)) (v := v) (by omega)] at hP hD
                have hP : va_P D vwCl (mW q k (nI 0) wd se kd bn sh (ss_up mb (256 * (4 * msl pr a + mpg wd se (msl pr a) a) + a % 64) v) pr B R sx pt rd wt ln px) H := hP
                have hD : va_D A (mW q k (nI 0) wd se kd bn sh (ss_up mb (256 * (4 * msl pr a + mpg wd se (msl pr a) a) + a % 64) v) pr B R sx pt rd wt ln px) := hD
                exact rw_retv hx hb hr hlocks d_MO_write_164 hS () (trivial) hP
          · have c9 := (nI_eq (by omega) (by omega)).mp c9
            exfalso; omega
        · have c7 := (nI_eq (by omega) (by omega)).mp c7
          refine lv_aload_n hx hb d_MO_write_59 rfl (lv_at hl 2 rfl) ?_
          refine va_get (D := D) (ci := 7) (v := .ref (q 1)) (C := R_MO) (T := T_MO) (N := 16) hx hb hts in_MO hown hK hP 0 rfl rfl 1 (by decide) (hts _ w_531) (fun _ h9 => h9) rfl d_MO_write_60 ?_
          refine lv_iload_n hx hb d_MO_write_63 rfl (lv_at hl 1 rfl) ?_
          refine va_zald hx hb hK hP 1 1 rfl rfl (vp_in_nI (by omega) (by omega)) d_MO_write_64 ?_
          refine ss_rt (y := nI (wd (msl pr a))) (congrArg (fun z => nI (wd z)) (nI_clamp (by omega))) ?_
          have g14 := hwd (msl pr a)
          refine lv_if_eq (tgt := 78) hx hb d_MO_write_65 (by decide) (fun c15 => ?_) (fun c15 => ?_)
          · have c15 := (n_eq0 (by omega)).mp c15
            refine lv_aload_n hx hb d_MO_write_78 rfl (lv_at hl 2 rfl) ?_
            refine va_get (D := D) (ci := 7) (v := .ref (q 3)) (C := R_MO) (T := T_MO) (N := 16) hx hb hts in_MO hown hK hP 0 rfl rfl 3 (by decide) (hts _ w_533) (fun _ h9 => h9) rfl d_MO_write_79 ?_
            refine lv_iload hx hb d_MO_write_82 (lv_at hl 0 rfl) ?_
            refine va_iald hx hb hK hP 3 0 rfl rfl (vp_in_nI (by omega) (by omega)) d_MO_write_84 ?_
            refine ss_rt (y := nI (kd (4 * msl pr a + mpg wd se (msl pr a) a))) (congrArg (fun z => nI (kd z)) (nI_clamp (by omega))) ?_
            have g16 := hkd (4 * msl pr a + mpg wd se (msl pr a) a)
            refine lv_iconst (v := nI 3) hx hb d_MO_write_85 (by decide +kernel) ?_
            refine lv_icmp_ne (tgt := 129) hx hb d_MO_write_86 (by decide) (fun c17 => ?_) (fun c17 => ?_)
            · have c17 := mt (nI_eq (by omega) (by omega)).mpr c17
              refine lv_aload_n hx hb d_MO_write_129 rfl (lv_at hl 2 rfl) ?_
              refine va_get (D := D) (ci := 7) (v := .ref (q 3)) (C := R_MO) (T := T_MO) (N := 16) hx hb hts in_MO hown hK hP 0 rfl rfl 3 (by decide) (hts _ w_533) (fun _ h9 => h9) rfl d_MO_write_130 ?_
              refine lv_iload hx hb d_MO_write_133 (lv_at hl 0 rfl) ?_
              refine va_iald hx hb hK hP 3 0 rfl rfl (vp_in_nI (by omega) (by omega)) d_MO_write_135 ?_
              refine ss_rt (y := nI (kd (4 * msl pr a + mpg wd se (msl pr a) a))) (congrArg (fun z => nI (kd z)) (nI_clamp (by omega))) ?_
              have g18 := hkd (4 * msl pr a + mpg wd se (msl pr a) a)
              refine lv_iconst (v := nI 1) hx hb d_MO_write_136 (by decide +kernel) ?_
              refine lv_icmp_eq (tgt := 151) hx hb d_MO_write_137 (by decide) (fun c19 => ?_) (fun c19 => ?_)
              · have c19 := (nI_eq (by omega) (by omega)).mp c19
                exfalso; omega
              · have c19 := mt (nI_eq (by omega) (by omega)).mpr c19
                refine lv_aload_n hx hb d_MO_write_140 rfl (lv_at hl 2 rfl) ?_
                refine va_get (D := D) (ci := 7) (v := .ref (q 3)) (C := R_MO) (T := T_MO) (N := 16) hx hb hts in_MO hown hK hP 0 rfl rfl 3 (by decide) (hts _ w_533) (fun _ h9 => h9) rfl d_MO_write_141 ?_
                refine lv_iload hx hb d_MO_write_144 (lv_at hl 0 rfl) ?_
                refine va_iald hx hb hK hP 3 0 rfl rfl (vp_in_nI (by omega) (by omega)) d_MO_write_146 ?_
                refine ss_rt (y := nI (kd (4 * msl pr a + mpg wd se (msl pr a) a))) (congrArg (fun z => nI (kd z)) (nI_clamp (by omega))) ?_
                have g20 := hkd (4 * msl pr a + mpg wd se (msl pr a) a)
                refine lv_iconst (v := nI 4) hx hb d_MO_write_147 (by decide +kernel) ?_
                refine lv_icmp_ne (tgt := 164) hx hb d_MO_write_148 (by decide) (fun c21 => ?_) (fun c21 => ?_)
                · have c21 := mt (nI_eq (by omega) (by omega)).mpr c21
                  exfalso; omega
                · have c21 := (nI_eq (by omega) (by omega)).mp c21
                  refine lv_aload_n hx hb d_MO_write_151 rfl (lv_at hl 2 rfl) ?_
                  refine va_get (D := D) (ci := 7) (v := .ref (q 6)) (C := R_MO) (T := T_MO) (N := 16) hx hb hts in_MO hown hK hP 0 rfl rfl 6 (by decide) (hts _ w_536) (fun _ h9 => h9) rfl d_MO_write_152 ?_
                  refine lv_aload_n hx hb d_MO_write_155 rfl (lv_at hl 2 rfl) ?_
                  refine lv_iload hx hb d_MO_write_156 (lv_at hl 0 rfl) ?_
                  refine lv_iload_n hx hb d_MO_write_158 rfl (lv_at hl 3 rfl) ?_
                  refine kr_iV (As := [.int (nI (4 * msl pr a + mpg wd se (msl pr a) a)), .int (nI a)]) (rest := [.ref (q 6)]) ⟨hx, hb, hml, hown, hts⟩ (c_MO_placeOf4 l D k q (nI 0) wd se kd bn sh mb pr B R sx pt rd wt ln px hkd hsh hmb (4 * msl pr a + mpg wd se (msl pr a) a) a (by omega) (by omega) (by omega)) (cwV 2 hts (gV w_617 w_619 w_p16 w_5 w_620) rfl rfl rfl (by decide +kernel) ⟨Nat.le_of_ble_eq_true rfl, Nat.le_of_ble_eq_true rfl⟩) hK hP (va_recv hK hP (ci := 7) (q0 := 0) rfl rfl) rfl hl.1 rfl (Nat.le_of_ble_eq_true rfl) d_MO_write_159 ⟨Nat.zero_le _, Nat.zero_le _⟩ ?_
                  refine lv_iload_n hx hb d_MO_write_162 rfl (lv_at hl 4 rfl) ?_
                  refine va_iast hx hb hK hP hD hS 6 0 rfl rfl (vp_in_nI (by omega) (by omega)) d_MO_write_163 (fun H locs hP hD hS => ?_)
                  rw [ss_upI mb (k := (256 * (4 * msl pr a + mpg wd se (msl pr a) a) + a % 64)) (v := v) (by omega)] at hP hD
                  have hP : va_P D vwCl (mW q k (nI 0) wd se kd bn sh (ss_up mb (256 * (4 * msl pr a + mpg wd se (msl pr a) a) + a % 64) v) pr B R sx pt rd wt ln px) H := hP
                  have hD : va_D A (mW q k (nI 0) wd se kd bn sh (ss_up mb (256 * (4 * msl pr a + mpg wd se (msl pr a) a) + a % 64) v) pr B R sx pt rd wt ln px) := hD
                  exact rw_retv hx hb hr hlocks d_MO_write_164 hS () (trivial) hP
            · have c17 := (nI_eq (by omega) (by omega)).mp c17
              exfalso; omega
          · have c15 := mt (n_eq0 (by omega)).mpr c15
            exfalso; omega
      · have c3 := mt (n_eq0 (by omega)).mpr c3
        exfalso; omega
set_option maxHeartbeats 4000000 in
set_option maxRecDepth 100000 in
theorem c_MO_writeo (l : Launch) (D : va_G) (k : Nat → ClassId) (q : Nat → Nat) (cd : Int32) (wd : Nat → Nat) (se : Nat → Nat) (kd : Nat → Nat) (bn : Nat → Int32) (sh : Nat → Nat) (mb : Nat → Nat) (pr : Nat) (B : Nat → Nat) (R : Nat → Nat) (sx : Nat) (pt : Nat) (rd : Nat) (wt : Int32) (ln : Nat) (px : Nat → Nat) (hwd : ∀ j, wd j < 2) (hse : ∀ j, se j < 256) (hpr : pr < 256) (hkd : ∀ j, kd j < 5) (hsh : ∀ j, sh j < 8) (hmb : ∀ j, mb j < 256) (a v : Nat) (ha : a < 256) (hv : v < 256) (h1 : ¬ (a = 255 ∧ wd (msl pr a) = 1)) (hk : kd (4 * msl pr a + mpg wd se (msl pr a) a) = 0 ∨ kd (4 * msl pr a + mpg wd se (msl pr a) a) = 2) : rw_v l y_MO_write b_MO_write 5 none { frames := 3, cells := 0, slots := 0, locals := 67 } D (kT k) (mW q k cd wd se kd bn sh mb pr B R sx pt rd wt ln px) [.ref (q 0), .int (nI a), .int (nI v)] (fun (_ : Unit) => True) (fun (_ : Unit) => (mW q k (nI 0) wd se kd bn sh mb pr B R sx pt rd wt ln px)) := by
  refine rw_headv (by decide) (Nat.le_of_ble_eq_true rfl) ?_
  intro p e s m below meth c ls A hx hb hr hlocks hml hown hts hK hA hP hD hS hl
  have hown : s.vm.findClass "SlotScreenModel" = some m.cls := hown
  have hl : lv_has ls 5 [(0, .ref (q 0)), (1, .int (nI a)), (2, .int (nI v))] := hl
  have z1 := msl_lt pr a
  have z2 := mpg_lt wd se (msl pr a) a
  refine lv_aload_n hx hb d_MO_write_0 rfl (lv_at hl 0 rfl) ?_
  refine lv_iload_n hx hb d_MO_write_1 rfl (lv_at hl 1 rfl) ?_
  refine lv_iconst (v := nI 0) hx hb d_MO_write_2 (by decide +kernel) ?_
  refine lv_sipush (v := nI 255) hx hb d_MO_write_3 (by decide +kernel) ?_
  refine kr_iS (As := [.int (nI a), .int (nI 0), .int (nI 255)]) (rest := [.ref (q 0)]) ⟨hx, hb, hml, hown, hts⟩ (c_MO_within l D k a 0 255 (by omega) (by omega) (by omega)) (va_cwS 3 hts (gS w_587 w_588 w_5 w_589) rfl rfl rfl (by decide +kernel) ⟨Nat.le_of_ble_eq_true rfl, Nat.le_of_ble_eq_true rfl⟩) hK va_nil rfl hl.1 rfl (Nat.le_of_ble_eq_true rfl) d_MO_write_6 ⟨Nat.zero_le _, Nat.zero_le _⟩ ?_
  refine lv_if_eq (tgt := 27) hx hb d_MO_write_9 (by decide) (fun c1 => ?_) (fun c1 => ?_)
  · have c1 := (bI_0).mp c1
    exfalso; omega
  · have c1 := mt (bI_0).mpr c1
    have c1 := Classical.not_not.mp c1
    refine lv_iload_n hx hb d_MO_write_12 rfl (lv_at hl 2 rfl) ?_
    refine lv_iconst (v := nI 0) hx hb d_MO_write_13 (by decide +kernel) ?_
    refine lv_sipush (v := nI 255) hx hb d_MO_write_14 (by decide +kernel) ?_
    refine kr_iS (As := [.int (nI v), .int (nI 0), .int (nI 255)]) (rest := [.ref (q 0)]) ⟨hx, hb, hml, hown, hts⟩ (c_MO_within l D k v 0 255 (by omega) (by omega) (by omega)) (va_cwS 3 hts (gS w_587 w_588 w_5 w_589) rfl rfl rfl (by decide +kernel) ⟨Nat.le_of_ble_eq_true rfl, Nat.le_of_ble_eq_true rfl⟩) hK va_nil rfl hl.1 rfl (Nat.le_of_ble_eq_true rfl) d_MO_write_17 ⟨Nat.zero_le _, Nat.zero_le _⟩ ?_
    refine lv_if_eq (tgt := 27) hx hb d_MO_write_20 (by decide) (fun c2 => ?_) (fun c2 => ?_)
    · have c2 := (bI_0).mp c2
      exfalso; omega
    · have c2 := mt (bI_0).mpr c2
      have c2 := Classical.not_not.mp c2
      refine lv_iconst (v := nI 0) hx hb d_MO_write_23 (by decide +kernel) ?_
      refine lv_goto (tgt := 28) hx hb d_MO_write_24 (by decide) ?_
      refine va_put (D := D) (ci := 7) (v := .int (nI 0)) (ty := .int) (C := R_MO) (T := T_MO) (N := 16) hx hb hts in_MO t_MO o_MO n_MO hown hK hP hD hS 0 rfl rfl 0 (by decide) (hts _ w_530) (fun _ h9 => h9) rfl (by decide +kernel) rfl rfl (Nat.le_of_ble_eq_true rfl) d_MO_write_28 (fun H locs hP hD hS => ?_)
      have hP : va_P D vwCl (mW q k (nI 0) wd se kd bn sh mb pr B R sx pt rd wt ln px) H := hP
      have hD : va_D A (mW q k (nI 0) wd se kd bn sh mb pr B R sx pt rd wt ln px) := hD
      refine lv_aload_n hx hb d_MO_write_31 rfl (lv_at hl 0 rfl) ?_
      refine va_get (D := D) (ci := 7) (v := .int (nI 0)) (C := R_MO) (T := T_MO) (N := 16) hx hb hts in_MO hown hK hP 0 rfl rfl 0 (by decide) (hts _ w_530) (fun _ h9 => h9) rfl d_MO_write_32 ?_
      refine lv_if_eq (tgt := 39) hx hb d_MO_write_35 (by decide) (fun c3 => ?_) (fun c3 => ?_)
      · have c3 := (n_eq0 (by omega)).mp c3
        refine lv_aload_n hx hb d_MO_write_39 rfl (lv_at hl 0 rfl) ?_
        refine lv_iload_n hx hb d_MO_write_40 rfl (lv_at hl 1 rfl) ?_
        have g4 := msl_lt pr a
        refine kr_iV (As := [.int (nI a)]) (rest := []) ⟨hx, hb, hml, hown, hts⟩ (c_MO_slotOf l D k q (nI 0) wd se kd bn sh mb pr B R sx pt rd wt ln px (by omega) a (by omega)) (cwV 1 hts (gV w_602 w_604 w_p13 w_5 w_605) rfl rfl rfl (by decide +kernel) ⟨Nat.le_of_ble_eq_true rfl, Nat.le_of_ble_eq_true rfl⟩) hK hP (va_recv hK hP (ci := 7) (q0 := 0) rfl rfl) rfl hl.1 rfl (Nat.le_of_ble_eq_true rfl) d_MO_write_41 ⟨Nat.zero_le _, Nat.zero_le _⟩ ?_
        refine lv_istore_n (lv' := [(3, .int (nI (msl pr a))), (0, .ref (q 0)), (1, .int (nI a)), (2, .int (nI v))]) hx hb d_MO_write_44 rfl hl (by decide) rfl (fun ls hl => ?_)
        refine lv_aload_n hx hb d_MO_write_45 rfl (lv_at hl 1 rfl) ?_
        refine lv_iload_n hx hb d_MO_write_46 rfl (lv_at hl 2 rfl) ?_
        have g5 := msl_lt pr a
        have g6 := mpg_lt wd se (msl pr a) a
        refine kr_iV (As := [.int (nI a)]) (rest := []) ⟨hx, hb, hml, hown, hts⟩ (c_MO_deviceAt l D k q (nI 0) wd se kd bn sh mb pr B R sx pt rd wt ln px hwd hse hpr a (by omega)) (cwV 1 hts (gV w_609 w_611 w_p14 w_5 w_612) rfl rfl rfl (by decide +kernel) ⟨Nat.le_of_ble_eq_true rfl, Nat.le_of_ble_eq_true rfl⟩) hK hP (va_recv hK hP (ci := 7) (q0 := 0) rfl rfl) rfl hl.1 rfl (Nat.le_of_ble_eq_true rfl) d_MO_write_47 ⟨Nat.zero_le _, Nat.zero_le _⟩ ?_
        refine lv_istore (lv' := [(4, .int (nI (4 * msl pr a + mpg wd se (msl pr a) a))), (3, .int (nI (msl pr a))), (0, .ref (q 0)), (1, .int (nI a)), (2, .int (nI v))]) hx hb d_MO_write_50 hl (by decide) rfl (fun ls hl => ?_)
        refine lv_iload_n hx hb d_MO_write_52 rfl (lv_at hl 3 rfl) ?_
        refine lv_sipush (v := nI 255) hx hb d_MO_write_53 (by decide +kernel) ?_
        refine lv_icmp_ne (tgt := 78) hx hb d_MO_write_56 (by decide) (fun c7 => ?_) (fun c7 => ?_)
        · have c7 := mt (nI_eq (by omega) (by omega)).mpr c7
          refine lv_aload_n hx hb d_MO_write_78 rfl (lv_at hl 2 rfl) ?_
          refine va_get (D := D) (ci := 7) (v := .ref (q 3)) (C := R_MO) (T := T_MO) (N := 16) hx hb hts in_MO hown hK hP 0 rfl rfl 3 (by decide) (hts _ w_533) (fun _ h9 => h9) rfl d_MO_write_79 ?_
          refine lv_iload hx hb d_MO_write_82 (lv_at hl 0 rfl) ?_
          refine va_iald hx hb hK hP 3 0 rfl rfl (vp_in_nI (by omega) (by omega)) d_MO_write_84 ?_
          refine ss_rt (y := nI (kd (4 * msl pr a + mpg wd se (msl pr a) a))) (congrArg (fun z => nI (kd z)) (nI_clamp (by omega))) ?_
          have g8 := hkd (4 * msl pr a + mpg wd se (msl pr a) a)
          refine lv_iconst (v := nI 3) hx hb d_MO_write_85 (by decide +kernel) ?_
          refine lv_icmp_ne (tgt := 129) hx hb d_MO_write_86 (by decide) (fun c9 => ?_) (fun c9 => ?_)
          · have c9 := mt (nI_eq (by omega) (by omega)).mpr c9
            refine lv_aload_n hx hb d_MO_write_129 rfl (lv_at hl 2 rfl) ?_
            refine va_get (D := D) (ci := 7) (v := .ref (q 3)) (C := R_MO) (T := T_MO) (N := 16) hx hb hts in_MO hown hK hP 0 rfl rfl 3 (by decide) (hts _ w_533) (fun _ h9 => h9) rfl d_MO_write_130 ?_
            refine lv_iload hx hb d_MO_write_133 (lv_at hl 0 rfl) ?_
            refine va_iald hx hb hK hP 3 0 rfl rfl (vp_in_nI (by omega) (by omega)) d_MO_write_135 ?_
            refine ss_rt (y := nI (kd (4 * msl pr a + mpg wd se (msl pr a) a))) (congrArg (fun z => nI (kd z)) (nI_clamp (by omega))) ?_
            have g10 := hkd (4 * msl pr a + mpg wd se (msl pr a) a)
            refine lv_iconst (v := nI 1) hx hb d_MO_write_136 (by decide +kernel) ?_
            refine lv_icmp_eq (tgt := 151) hx hb d_MO_write_137 (by decide) (fun c11 => ?_) (fun c11 => ?_)
            · have c11 := (nI_eq (by omega) (by omega)).mp c11
              exfalso; omega
            · have c11 := mt (nI_eq (by omega) (by omega)).mpr c11
              refine lv_aload_n hx hb d_MO_write_140 rfl (lv_at hl 2 rfl) ?_
              refine va_get (D := D) (ci := 7) (v := .ref (q 3)) (C := R_MO) (T := T_MO) (N := 16) hx hb hts in_MO hown hK hP 0 rfl rfl 3 (by decide) (hts _ w_533) (fun _ h9 => h9) rfl d_MO_write_141 ?_
              refine lv_iload hx hb d_MO_write_144 (lv_at hl 0 rfl) ?_
              refine va_iald hx hb hK hP 3 0 rfl rfl (vp_in_nI (by omega) (by omega)) d_MO_write_146 ?_
              refine ss_rt (y := nI (kd (4 * msl pr a + mpg wd se (msl pr a) a))) (congrArg (fun z => nI (kd z)) (nI_clamp (by omega))) ?_
              have g12 := hkd (4 * msl pr a + mpg wd se (msl pr a) a)
              refine lv_iconst (v := nI 4) hx hb d_MO_write_147 (by decide +kernel) ?_
              refine lv_icmp_ne (tgt := 164) hx hb d_MO_write_148 (by decide) (fun c13 => ?_) (fun c13 => ?_)
              · have c13 := mt (nI_eq (by omega) (by omega)).mpr c13
                exact rw_retv hx hb hr hlocks d_MO_write_164 hS () (trivial) hP
              · have c13 := (nI_eq (by omega) (by omega)).mp c13
                exfalso; omega
          · have c9 := (nI_eq (by omega) (by omega)).mp c9
            exfalso; omega
        · have c7 := (nI_eq (by omega) (by omega)).mp c7
          refine lv_aload_n hx hb d_MO_write_59 rfl (lv_at hl 2 rfl) ?_
          refine va_get (D := D) (ci := 7) (v := .ref (q 1)) (C := R_MO) (T := T_MO) (N := 16) hx hb hts in_MO hown hK hP 0 rfl rfl 1 (by decide) (hts _ w_531) (fun _ h9 => h9) rfl d_MO_write_60 ?_
          refine lv_iload_n hx hb d_MO_write_63 rfl (lv_at hl 1 rfl) ?_
          refine va_zald hx hb hK hP 1 1 rfl rfl (vp_in_nI (by omega) (by omega)) d_MO_write_64 ?_
          refine ss_rt (y := nI (wd (msl pr a))) (congrArg (fun z => nI (wd z)) (nI_clamp (by omega))) ?_
          have g14 := hwd (msl pr a)
          refine lv_if_eq (tgt := 78) hx hb d_MO_write_65 (by decide) (fun c15 => ?_) (fun c15 => ?_)
          · have c15 := (n_eq0 (by omega)).mp c15
            refine lv_aload_n hx hb d_MO_write_78 rfl (lv_at hl 2 rfl) ?_
            refine va_get (D := D) (ci := 7) (v := .ref (q 3)) (C := R_MO) (T := T_MO) (N := 16) hx hb hts in_MO hown hK hP 0 rfl rfl 3 (by decide) (hts _ w_533) (fun _ h9 => h9) rfl d_MO_write_79 ?_
            refine lv_iload hx hb d_MO_write_82 (lv_at hl 0 rfl) ?_
            refine va_iald hx hb hK hP 3 0 rfl rfl (vp_in_nI (by omega) (by omega)) d_MO_write_84 ?_
            refine ss_rt (y := nI (kd (4 * msl pr a + mpg wd se (msl pr a) a))) (congrArg (fun z => nI (kd z)) (nI_clamp (by omega))) ?_
            have g16 := hkd (4 * msl pr a + mpg wd se (msl pr a) a)
            refine lv_iconst (v := nI 3) hx hb d_MO_write_85 (by decide +kernel) ?_
            refine lv_icmp_ne (tgt := 129) hx hb d_MO_write_86 (by decide) (fun c17 => ?_) (fun c17 => ?_)
            · have c17 := mt (nI_eq (by omega) (by omega)).mpr c17
              refine lv_aload_n hx hb d_MO_write_129 rfl (lv_at hl 2 rfl) ?_
              refine va_get (D := D) (ci := 7) (v := .ref (q 3)) (C := R_MO) (T := T_MO) (N := 16) hx hb hts in_MO hown hK hP 0 rfl rfl 3 (by decide) (hts _ w_533) (fun _ h9 => h9) rfl d_MO_write_130 ?_
              refine lv_iload hx hb d_MO_write_133 (lv_at hl 0 rfl) ?_
              refine va_iald hx hb hK hP 3 0 rfl rfl (vp_in_nI (by omega) (by omega)) d_MO_write_135 ?_
              refine ss_rt (y := nI (kd (4 * msl pr a + mpg wd se (msl pr a) a))) (congrArg (fun z => nI (kd z)) (nI_clamp (by omega))) ?_
              have g18 := hkd (4 * msl pr a + mpg wd se (msl pr a) a)
              refine lv_iconst (v := nI 1) hx hb d_MO_write_136 (by decide +kernel) ?_
              refine lv_icmp_eq (tgt := 151) hx hb d_MO_write_137 (by decide) (fun c19 => ?_) (fun c19 => ?_)
              · have c19 := (nI_eq (by omega) (by omega)).mp c19
                exfalso; omega
              · have c19 := mt (nI_eq (by omega) (by omega)).mpr c19
                refine lv_aload_n hx hb d_MO_write_140 rfl (lv_at hl 2 rfl) ?_
                refine va_get (D := D) (ci := 7) (v := .ref (q 3)) (C := R_MO) (T := T_MO) (N := 16) hx hb hts in_MO hown hK hP 0 rfl rfl 3 (by decide) (hts _ w_533) (fun _ h9 => h9) rfl d_MO_write_141 ?_
                refine lv_iload hx hb d_MO_write_144 (lv_at hl 0 rfl) ?_
                refine va_iald hx hb hK hP 3 0 rfl rfl (vp_in_nI (by omega) (by omega)) d_MO_write_146 ?_
                refine ss_rt (y := nI (kd (4 * msl pr a + mpg wd se (msl pr a) a))) (congrArg (fun z => nI (kd z)) (nI_clamp (by omega))) ?_
                have g20 := hkd (4 * msl pr a + mpg wd se (msl pr a) a)
                refine lv_iconst (v := nI 4) hx hb d_MO_write_147 (by decide +kernel) ?_
                refine lv_icmp_ne (tgt := 164) hx hb d_MO_write_148 (by decide) (fun c21 => ?_) (fun c21 => ?_)
                · have c21 := mt (nI_eq (by omega) (by omega)).mpr c21
                  exact rw_retv hx hb hr hlocks d_MO_write_164 hS () (trivial) hP
                · have c21 := (nI_eq (by omega) (by omega)).mp c21
                  exfalso; omega
            · have c17 := (nI_eq (by omega) (by omega)).mp c17
              exfalso; omega
          · have c15 := mt (n_eq0 (by omega)).mpr c15
            exfalso; omega
      · have c3 := mt (n_eq0 (by omega)).mpr c3
        exfalso; omega
set_option maxHeartbeats 4000000 in
set_option maxRecDepth 100000 in
theorem c_MO_widenb (l : Launch) (D : va_G) (k : Nat → ClassId) (q : Nat → Nat) (cd : Int32) (wd : Nat → Nat) (se : Nat → Nat) (kd : Nat → Nat) (bn : Nat → Int32) (sh : Nat → Nat) (mb : Nat → Nat) (pr : Nat) (B : Nat → Nat) (R : Nat → Nat) (sx : Nat) (pt : Nat) (rd : Nat) (wt : Int32) (ln : Nat) (px : Nat → Nat) (x : Int32) (hx9 : ¬ (0 ≤ x.toInt ∧ x.toInt ≤ 3)) : rw_v l y_MO_widen b_MO_widen 2 none { frames := 3, cells := 0, slots := 0, locals := 67 } D (kT k) (mW q k cd wd se kd bn sh mb pr B R sx pt rd wt ln px) [.ref (q 0), .int x] (fun (_ : Unit) => True) (fun (_ : Unit) => (mW q k (nI 1) wd se kd bn sh mb pr B R sx pt rd wt ln px)) := by
  refine rw_headv (by decide) (Nat.le_of_ble_eq_true rfl) ?_
  intro p e s m below meth c ls A hx hb hr hlocks hml hown hts hK hA hP hD hS hl
  have hown : s.vm.findClass "SlotScreenModel" = some m.cls := hown
  have hl : lv_has ls 2 [(0, .ref (q 0)), (1, .int x)] := hl
  refine lv_aload_n hx hb d_MO_widen_0 rfl (lv_at hl 0 rfl) ?_
  refine lv_iload_n hx hb d_MO_widen_1 rfl (lv_at hl 1 rfl) ?_
  refine lv_iconst (v := nI 0) hx hb d_MO_widen_2 (by decide +kernel) ?_
  refine lv_iconst (v := nI 3) hx hb d_MO_widen_3 (by decide +kernel) ?_
  refine kr_iS (As := [.int x, .int (nI 0), .int (nI 3)]) (rest := [.ref (q 0)]) ⟨hx, hb, hml, hown, hts⟩ (c_MO_withinZ l D k x 0 3 (by omega) (by omega)) (va_cwS 3 hts (gS w_587 w_588 w_5 w_589) rfl rfl rfl (by decide +kernel) ⟨Nat.le_of_ble_eq_true rfl, Nat.le_of_ble_eq_true rfl⟩) hK va_nil rfl hl.1 rfl (Nat.le_of_ble_eq_true rfl) d_MO_widen_4 ⟨Nat.zero_le _, Nat.zero_le _⟩ ?_
  refine lv_if_eq (tgt := 14) hx hb d_MO_widen_7 (by decide) (fun c1 => ?_) (fun c1 => ?_)
  · have c1 := (bI_0).mp c1
    refine lv_iconst (v := nI 1) hx hb d_MO_widen_14 (by decide +kernel) ?_
    refine va_put (D := D) (ci := 7) (v := .int (nI 1)) (ty := .int) (C := R_MO) (T := T_MO) (N := 16) hx hb hts in_MO t_MO o_MO n_MO hown hK hP hD hS 0 rfl rfl 0 (by decide) (hts _ w_530) (fun _ h9 => h9) rfl (by decide +kernel) rfl rfl (Nat.le_of_ble_eq_true rfl) d_MO_widen_15 (fun H locs hP hD hS => ?_)
    have hP : va_P D vwCl (mW q k (nI 1) wd se kd bn sh mb pr B R sx pt rd wt ln px) H := hP
    have hD : va_D A (mW q k (nI 1) wd se kd bn sh mb pr B R sx pt rd wt ln px) := hD
    refine lv_aload_n hx hb d_MO_widen_18 rfl (lv_at hl 0 rfl) ?_
    refine va_get (D := D) (ci := 7) (v := .int (nI 1)) (C := R_MO) (T := T_MO) (N := 16) hx hb hts in_MO hown hK hP 0 rfl rfl 0 (by decide) (hts _ w_530) (fun _ h9 => h9) rfl d_MO_widen_19 ?_
    refine lv_if_eq (tgt := 26) hx hb d_MO_widen_22 (by decide) (fun c2 => ?_) (fun c2 => ?_)
    · have c2 := (n_eq0 (by omega)).mp c2
      exfalso; omega
    · have c2 := mt (n_eq0 (by omega)).mpr c2
      exact rw_retv hx hb hr hlocks d_MO_widen_25 hS () (trivial) hP
  · have c1 := mt (bI_0).mpr c1
    have c1 := Classical.not_not.mp c1
    exfalso; omega
set_option maxHeartbeats 4000000 in
set_option maxRecDepth 100000 in
theorem c_MO_wident (l : Launch) (D : va_G) (k : Nat → ClassId) (q : Nat → Nat) (cd : Int32) (wd : Nat → Nat) (se : Nat → Nat) (kd : Nat → Nat) (bn : Nat → Int32) (sh : Nat → Nat) (mb : Nat → Nat) (pr : Nat) (B : Nat → Nat) (R : Nat → Nat) (sx : Nat) (pt : Nat) (rd : Nat) (wt : Int32) (ln : Nat) (px : Nat → Nat) (hwd : ∀ j, wd j < 2) (hse : ∀ j, se j < 256) (hpr : pr < 256) (hkd : ∀ j, kd j < 5) (hsh : ∀ j, sh j < 8) (hmb : ∀ j, mb j < 256) (j : Nat) (hj : j < 4) (h1 : wd j = 1 ∨ kd (4 * j) ≠ 0) : rw_v l y_MO_widen b_MO_widen 2 none { frames := 3, cells := 0, slots := 0, locals := 67 } D (kT k) (mW q k cd wd se kd bn sh mb pr B R sx pt rd wt ln px) [.ref (q 0), .int (nI j)] (fun (_ : Unit) => True) (fun (_ : Unit) => (mW q k (nI 2) wd se kd bn sh mb pr B R sx pt rd wt ln px)) := by
  refine rw_headv (by decide) (Nat.le_of_ble_eq_true rfl) ?_
  intro p e s m below meth c ls A hx hb hr hlocks hml hown hts hK hA hP hD hS hl
  have hown : s.vm.findClass "SlotScreenModel" = some m.cls := hown
  have hl : lv_has ls 2 [(0, .ref (q 0)), (1, .int (nI j))] := hl
  refine lv_aload_n hx hb d_MO_widen_0 rfl (lv_at hl 0 rfl) ?_
  refine lv_iload_n hx hb d_MO_widen_1 rfl (lv_at hl 1 rfl) ?_
  refine lv_iconst (v := nI 0) hx hb d_MO_widen_2 (by decide +kernel) ?_
  refine lv_iconst (v := nI 3) hx hb d_MO_widen_3 (by decide +kernel) ?_
  refine kr_iS (As := [.int (nI j), .int (nI 0), .int (nI 3)]) (rest := [.ref (q 0)]) ⟨hx, hb, hml, hown, hts⟩ (c_MO_within l D k j 0 3 (by omega) (by omega) (by omega)) (va_cwS 3 hts (gS w_587 w_588 w_5 w_589) rfl rfl rfl (by decide +kernel) ⟨Nat.le_of_ble_eq_true rfl, Nat.le_of_ble_eq_true rfl⟩) hK va_nil rfl hl.1 rfl (Nat.le_of_ble_eq_true rfl) d_MO_widen_4 ⟨Nat.zero_le _, Nat.zero_le _⟩ ?_
  refine lv_if_eq (tgt := 14) hx hb d_MO_widen_7 (by decide) (fun c1 => ?_) (fun c1 => ?_)
  · have c1 := (bI_0).mp c1
    exfalso; omega
  · have c1 := mt (bI_0).mpr c1
    have c1 := Classical.not_not.mp c1
    refine lv_iconst (v := nI 0) hx hb d_MO_widen_10 (by decide +kernel) ?_
    refine lv_goto (tgt := 15) hx hb d_MO_widen_11 (by decide) ?_
    refine va_put (D := D) (ci := 7) (v := .int (nI 0)) (ty := .int) (C := R_MO) (T := T_MO) (N := 16) hx hb hts in_MO t_MO o_MO n_MO hown hK hP hD hS 0 rfl rfl 0 (by decide) (hts _ w_530) (fun _ h9 => h9) rfl (by decide +kernel) rfl rfl (Nat.le_of_ble_eq_true rfl) d_MO_widen_15 (fun H locs hP hD hS => ?_)
    have hP : va_P D vwCl (mW q k (nI 0) wd se kd bn sh mb pr B R sx pt rd wt ln px) H := hP
    have hD : va_D A (mW q k (nI 0) wd se kd bn sh mb pr B R sx pt rd wt ln px) := hD
    refine lv_aload_n hx hb d_MO_widen_18 rfl (lv_at hl 0 rfl) ?_
    refine va_get (D := D) (ci := 7) (v := .int (nI 0)) (C := R_MO) (T := T_MO) (N := 16) hx hb hts in_MO hown hK hP 0 rfl rfl 0 (by decide) (hts _ w_530) (fun _ h9 => h9) rfl d_MO_widen_19 ?_
    refine lv_if_eq (tgt := 26) hx hb d_MO_widen_22 (by decide) (fun c2 => ?_) (fun c2 => ?_)
    · have c2 := (n_eq0 (by omega)).mp c2
      refine lv_aload_n hx hb d_MO_widen_26 rfl (lv_at hl 0 rfl) ?_
      refine va_get (D := D) (ci := 7) (v := .ref (q 1)) (C := R_MO) (T := T_MO) (N := 16) hx hb hts in_MO hown hK hP 0 rfl rfl 1 (by decide) (hts _ w_531) (fun _ h9 => h9) rfl d_MO_widen_27 ?_
      refine lv_iload_n hx hb d_MO_widen_30 rfl (lv_at hl 1 rfl) ?_
      refine va_zald hx hb hK hP 1 1 rfl rfl (vp_in_nI (by omega) (by omega)) d_MO_widen_31 ?_
      refine ss_rt (y := nI (wd j)) (congrArg (fun z => nI (wd z)) (nI_clamp (by omega))) ?_
      have g3 := hwd j
      refine lv_if_ne (tgt := 46) hx hb d_MO_widen_32 (by decide) (fun c4 => ?_) (fun c4 => ?_)
      · have c4 := mt (n_eq0 (by omega)).mpr c4
        refine lv_aload_n hx hb d_MO_widen_46 rfl (lv_at hl 0 rfl) ?_
        refine lv_iconst (v := nI 2) hx hb d_MO_widen_47 (by decide +kernel) ?_
        refine va_put (D := D) (ci := 7) (v := .int (nI 2)) (ty := .int) (C := R_MO) (T := T_MO) (N := 16) hx hb hts in_MO t_MO o_MO n_MO hown hK hP hD hS 0 rfl rfl 0 (by decide) (hts _ w_530) (fun _ h9 => h9) rfl (by decide +kernel) rfl rfl (Nat.le_of_ble_eq_true rfl) d_MO_widen_48 (fun H locs hP hD hS => ?_)
        have hP : va_P D vwCl (mW q k (nI 2) wd se kd bn sh mb pr B R sx pt rd wt ln px) H := hP
        have hD : va_D A (mW q k (nI 2) wd se kd bn sh mb pr B R sx pt rd wt ln px) := hD
        exact rw_retv hx hb hr hlocks d_MO_widen_51 hS () (trivial) hP
      · have c4 := (n_eq0 (by omega)).mp c4
        refine lv_aload_n hx hb d_MO_widen_35 rfl (lv_at hl 0 rfl) ?_
        refine va_get (D := D) (ci := 7) (v := .ref (q 3)) (C := R_MO) (T := T_MO) (N := 16) hx hb hts in_MO hown hK hP 0 rfl rfl 3 (by decide) (hts _ w_533) (fun _ h9 => h9) rfl d_MO_widen_36 ?_
        refine lv_iconst (v := nI 4) hx hb d_MO_widen_39 (by decide +kernel) ?_
        refine lv_iload_n hx hb d_MO_widen_40 rfl (lv_at hl 1 rfl) ?_
        refine lv_imul hx hb d_MO_widen_41 ?_
        refine ss_rt (y := nI (4 * j)) (pk_mul _ _) ?_
        refine va_iald hx hb hK hP 3 0 rfl rfl (vp_in_nI (by omega) (by omega)) d_MO_widen_42 ?_
        refine ss_rt (y := nI (kd (4 * j))) (congrArg (fun z => nI (kd z)) (nI_clamp (by omega))) ?_
        have g5 := hkd (4 * j)
        refine lv_if_eq (tgt := 52) hx hb d_MO_widen_43 (by decide) (fun c6 => ?_) (fun c6 => ?_)
        · have c6 := (n_eq0 (by omega)).mp c6
          exfalso; omega
        · have c6 := mt (n_eq0 (by omega)).mpr c6
          refine lv_aload_n hx hb d_MO_widen_46 rfl (lv_at hl 0 rfl) ?_
          refine lv_iconst (v := nI 2) hx hb d_MO_widen_47 (by decide +kernel) ?_
          refine va_put (D := D) (ci := 7) (v := .int (nI 2)) (ty := .int) (C := R_MO) (T := T_MO) (N := 16) hx hb hts in_MO t_MO o_MO n_MO hown hK hP hD hS 0 rfl rfl 0 (by decide) (hts _ w_530) (fun _ h9 => h9) rfl (by decide +kernel) rfl rfl (Nat.le_of_ble_eq_true rfl) d_MO_widen_48 (fun H locs hP hD hS => ?_)
          have hP : va_P D vwCl (mW q k (nI 2) wd se kd bn sh mb pr B R sx pt rd wt ln px) H := hP
          have hD : va_D A (mW q k (nI 2) wd se kd bn sh mb pr B R sx pt rd wt ln px) := hD
          exact rw_retv hx hb hr hlocks d_MO_widen_51 hS () (trivial) hP
    · have c2 := mt (n_eq0 (by omega)).mpr c2
      exfalso; omega
set_option maxHeartbeats 4000000 in
set_option maxRecDepth 100000 in
theorem c_MO_widen (l : Launch) (D : va_G) (k : Nat → ClassId) (q : Nat → Nat) (cd : Int32) (wd : Nat → Nat) (se : Nat → Nat) (kd : Nat → Nat) (bn : Nat → Int32) (sh : Nat → Nat) (mb : Nat → Nat) (pr : Nat) (B : Nat → Nat) (R : Nat → Nat) (sx : Nat) (pt : Nat) (rd : Nat) (wt : Int32) (ln : Nat) (px : Nat → Nat) (hwd : ∀ j, wd j < 2) (hse : ∀ j, se j < 256) (hpr : pr < 256) (hkd : ∀ j, kd j < 5) (hsh : ∀ j, sh j < 8) (hmb : ∀ j, mb j < 256) (j : Nat) (hj : j < 4) (h1 : wd j = 0) (h2 : kd (4 * j) = 0) : rw_v l y_MO_widen b_MO_widen 2 none { frames := 3, cells := 0, slots := 0, locals := 67 } D (kT k) (mW q k cd wd se kd bn sh mb pr B R sx pt rd wt ln px) [.ref (q 0), .int (nI j)] (fun (_ : Unit) => True) (fun (_ : Unit) => (mW q k (nI 0) (ss_up wd j 1) se kd bn sh mb pr B R sx pt rd wt ln px)) := by
  refine rw_headv (by decide) (Nat.le_of_ble_eq_true rfl) ?_
  intro p e s m below meth c ls A hx hb hr hlocks hml hown hts hK hA hP hD hS hl
  have hown : s.vm.findClass "SlotScreenModel" = some m.cls := hown
  have hl : lv_has ls 2 [(0, .ref (q 0)), (1, .int (nI j))] := hl
  refine lv_aload_n hx hb d_MO_widen_0 rfl (lv_at hl 0 rfl) ?_
  refine lv_iload_n hx hb d_MO_widen_1 rfl (lv_at hl 1 rfl) ?_
  refine lv_iconst (v := nI 0) hx hb d_MO_widen_2 (by decide +kernel) ?_
  refine lv_iconst (v := nI 3) hx hb d_MO_widen_3 (by decide +kernel) ?_
  refine kr_iS (As := [.int (nI j), .int (nI 0), .int (nI 3)]) (rest := [.ref (q 0)]) ⟨hx, hb, hml, hown, hts⟩ (c_MO_within l D k j 0 3 (by omega) (by omega) (by omega)) (va_cwS 3 hts (gS w_587 w_588 w_5 w_589) rfl rfl rfl (by decide +kernel) ⟨Nat.le_of_ble_eq_true rfl, Nat.le_of_ble_eq_true rfl⟩) hK va_nil rfl hl.1 rfl (Nat.le_of_ble_eq_true rfl) d_MO_widen_4 ⟨Nat.zero_le _, Nat.zero_le _⟩ ?_
  refine lv_if_eq (tgt := 14) hx hb d_MO_widen_7 (by decide) (fun c1 => ?_) (fun c1 => ?_)
  · have c1 := (bI_0).mp c1
    exfalso; omega
  · have c1 := mt (bI_0).mpr c1
    have c1 := Classical.not_not.mp c1
    refine lv_iconst (v := nI 0) hx hb d_MO_widen_10 (by decide +kernel) ?_
    refine lv_goto (tgt := 15) hx hb d_MO_widen_11 (by decide) ?_
    refine va_put (D := D) (ci := 7) (v := .int (nI 0)) (ty := .int) (C := R_MO) (T := T_MO) (N := 16) hx hb hts in_MO t_MO o_MO n_MO hown hK hP hD hS 0 rfl rfl 0 (by decide) (hts _ w_530) (fun _ h9 => h9) rfl (by decide +kernel) rfl rfl (Nat.le_of_ble_eq_true rfl) d_MO_widen_15 (fun H locs hP hD hS => ?_)
    have hP : va_P D vwCl (mW q k (nI 0) wd se kd bn sh mb pr B R sx pt rd wt ln px) H := hP
    have hD : va_D A (mW q k (nI 0) wd se kd bn sh mb pr B R sx pt rd wt ln px) := hD
    refine lv_aload_n hx hb d_MO_widen_18 rfl (lv_at hl 0 rfl) ?_
    refine va_get (D := D) (ci := 7) (v := .int (nI 0)) (C := R_MO) (T := T_MO) (N := 16) hx hb hts in_MO hown hK hP 0 rfl rfl 0 (by decide) (hts _ w_530) (fun _ h9 => h9) rfl d_MO_widen_19 ?_
    refine lv_if_eq (tgt := 26) hx hb d_MO_widen_22 (by decide) (fun c2 => ?_) (fun c2 => ?_)
    · have c2 := (n_eq0 (by omega)).mp c2
      refine lv_aload_n hx hb d_MO_widen_26 rfl (lv_at hl 0 rfl) ?_
      refine va_get (D := D) (ci := 7) (v := .ref (q 1)) (C := R_MO) (T := T_MO) (N := 16) hx hb hts in_MO hown hK hP 0 rfl rfl 1 (by decide) (hts _ w_531) (fun _ h9 => h9) rfl d_MO_widen_27 ?_
      refine lv_iload_n hx hb d_MO_widen_30 rfl (lv_at hl 1 rfl) ?_
      refine va_zald hx hb hK hP 1 1 rfl rfl (vp_in_nI (by omega) (by omega)) d_MO_widen_31 ?_
      refine ss_rt (y := nI (wd j)) (congrArg (fun z => nI (wd z)) (nI_clamp (by omega))) ?_
      have g3 := hwd j
      refine lv_if_ne (tgt := 46) hx hb d_MO_widen_32 (by decide) (fun c4 => ?_) (fun c4 => ?_)
      · have c4 := mt (n_eq0 (by omega)).mpr c4
        exfalso; omega
      · have c4 := (n_eq0 (by omega)).mp c4
        refine lv_aload_n hx hb d_MO_widen_35 rfl (lv_at hl 0 rfl) ?_
        refine va_get (D := D) (ci := 7) (v := .ref (q 3)) (C := R_MO) (T := T_MO) (N := 16) hx hb hts in_MO hown hK hP 0 rfl rfl 3 (by decide) (hts _ w_533) (fun _ h9 => h9) rfl d_MO_widen_36 ?_
        refine lv_iconst (v := nI 4) hx hb d_MO_widen_39 (by decide +kernel) ?_
        refine lv_iload_n hx hb d_MO_widen_40 rfl (lv_at hl 1 rfl) ?_
        refine lv_imul hx hb d_MO_widen_41 ?_
        refine ss_rt (y := nI (4 * j)) (pk_mul _ _) ?_
        refine va_iald hx hb hK hP 3 0 rfl rfl (vp_in_nI (by omega) (by omega)) d_MO_widen_42 ?_
        refine ss_rt (y := nI (kd (4 * j))) (congrArg (fun z => nI (kd z)) (nI_clamp (by omega))) ?_
        have g5 := hkd (4 * j)
        refine lv_if_eq (tgt := 52) hx hb d_MO_widen_43 (by decide) (fun c6 => ?_) (fun c6 => ?_)
        · have c6 := (n_eq0 (by omega)).mp c6
          refine lv_aload_n hx hb d_MO_widen_52 rfl (lv_at hl 0 rfl) ?_
          refine va_get (D := D) (ci := 7) (v := .ref (q 1)) (C := R_MO) (T := T_MO) (N := 16) hx hb hts in_MO hown hK hP 0 rfl rfl 1 (by decide) (hts _ w_531) (fun _ h9 => h9) rfl d_MO_widen_53 ?_
          refine lv_iload_n hx hb d_MO_widen_56 rfl (lv_at hl 1 rfl) ?_
          refine lv_iconst (v := nI 1) hx hb d_MO_widen_57 (by decide +kernel) ?_
          refine va_zast hx hb hK hP hD hS 1 1 rfl rfl (vp_in_nI (by omega) (by omega)) d_MO_widen_58 (fun H locs hP hD hS => ?_)
          rw [show vp_nar .boolean (nI 1) = nI 1 by decide +kernel] at hP hD
          rw [ss_upI wd (k := j) (v := 1) (by omega)] at hP hD
          have hP : va_P D vwCl (mW q k (nI 0) (ss_up wd j 1) se kd bn sh mb pr B R sx pt rd wt ln px) H := hP
          have hD : va_D A (mW q k (nI 0) (ss_up wd j 1) se kd bn sh mb pr B R sx pt rd wt ln px) := hD
          exact rw_retv hx hb hr hlocks d_MO_widen_59 hS () (trivial) hP
        · have c6 := mt (n_eq0 (by omega)).mpr c6
          exfalso; omega
    · have c2 := mt (n_eq0 (by omega)).mpr c2
      exfalso; omega
set_option maxHeartbeats 4000000 in
set_option maxRecDepth 100000 in
theorem c_MO_plugb (l : Launch) (D : va_G) (k : Nat → ClassId) (q : Nat → Nat) (cd : Int32) (wd : Nat → Nat) (se : Nat → Nat) (kd : Nat → Nat) (bn : Nat → Int32) (sh : Nat → Nat) (mb : Nat → Nat) (pr : Nat) (B : Nat → Nat) (R : Nat → Nat) (sx : Nat) (pt : Nat) (rd : Nat) (wt : Int32) (ln : Nat) (px : Nat → Nat) (x y z b : Int32) (hx9 : ¬ (0 ≤ x.toInt ∧ x.toInt ≤ 3 ∧ 0 ≤ y.toInt ∧ y.toInt ≤ 3 ∧ 1 ≤ z.toInt ∧ z.toInt ≤ 4 ∧ (z.toInt = 3 → 1 ≤ b.toInt ∧ b.toInt ≤ 8))) : rw_v l y_MO_plug b_MO_plug 7 none { frames := 3, cells := 0, slots := 0, locals := 67 } D (kT k) (mW q k cd wd se kd bn sh mb pr B R sx pt rd wt ln px) [.ref (q 0), .int x, .int y, .int z, .int b] (fun (_ : Unit) => True) (fun (_ : Unit) => (mW q k (nI 1) wd se kd bn sh mb pr B R sx pt rd wt ln px)) := by
  refine rw_headv (by decide) (Nat.le_of_ble_eq_true rfl) ?_
  intro p e s m below meth c ls A hx hb hr hlocks hml hown hts hK hA hP hD hS hl
  have hown : s.vm.findClass "SlotScreenModel" = some m.cls := hown
  have hl : lv_has ls 7 [(0, .ref (q 0)), (1, .int x), (2, .int y), (3, .int z), (4, .int b)] := hl
  refine lv_aload_n hx hb d_MO_plug_0 rfl (lv_at hl 0 rfl) ?_
  refine lv_iload_n hx hb d_MO_plug_1 rfl (lv_at hl 1 rfl) ?_
  refine lv_iconst (v := nI 0) hx hb d_MO_plug_2 (by decide +kernel) ?_
  refine lv_iconst (v := nI 3) hx hb d_MO_plug_3 (by decide +kernel) ?_
  refine kr_iS (As := [.int x, .int (nI 0), .int (nI 3)]) (rest := [.ref (q 0)]) ⟨hx, hb, hml, hown, hts⟩ (c_MO_withinZ l D k x 0 3 (by omega) (by omega)) (va_cwS 3 hts (gS w_587 w_588 w_5 w_589) rfl rfl rfl (by decide +kernel) ⟨Nat.le_of_ble_eq_true rfl, Nat.le_of_ble_eq_true rfl⟩) hK va_nil rfl hl.1 rfl (Nat.le_of_ble_eq_true rfl) d_MO_plug_4 ⟨Nat.zero_le _, Nat.zero_le _⟩ ?_
  refine lv_if_eq (tgt := 48) hx hb d_MO_plug_7 (by decide) (fun c1 => ?_) (fun c1 => ?_)
  · have c1 := (bI_0).mp c1
    refine lv_iconst (v := nI 1) hx hb d_MO_plug_48 (by decide +kernel) ?_
    refine va_put (D := D) (ci := 7) (v := .int (nI 1)) (ty := .int) (C := R_MO) (T := T_MO) (N := 16) hx hb hts in_MO t_MO o_MO n_MO hown hK hP hD hS 0 rfl rfl 0 (by decide) (hts _ w_530) (fun _ h9 => h9) rfl (by decide +kernel) rfl rfl (Nat.le_of_ble_eq_true rfl) d_MO_plug_49 (fun H locs hP hD hS => ?_)
    have hP : va_P D vwCl (mW q k (nI 1) wd se kd bn sh mb pr B R sx pt rd wt ln px) H := hP
    have hD : va_D A (mW q k (nI 1) wd se kd bn sh mb pr B R sx pt rd wt ln px) := hD
    refine lv_aload_n hx hb d_MO_plug_52 rfl (lv_at hl 0 rfl) ?_
    refine va_get (D := D) (ci := 7) (v := .int (nI 1)) (C := R_MO) (T := T_MO) (N := 16) hx hb hts in_MO hown hK hP 0 rfl rfl 0 (by decide) (hts _ w_530) (fun _ h9 => h9) rfl d_MO_plug_53 ?_
    refine lv_if_eq (tgt := 60) hx hb d_MO_plug_56 (by decide) (fun c2 => ?_) (fun c2 => ?_)
    · have c2 := (n_eq0 (by omega)).mp c2
      exfalso; omega
    · have c2 := mt (n_eq0 (by omega)).mpr c2
      exact rw_retv hx hb hr hlocks d_MO_plug_59 hS () (trivial) hP
  · have c1 := mt (bI_0).mpr c1
    have c1 := Classical.not_not.mp c1
    refine lv_iload_n hx hb d_MO_plug_10 rfl (lv_at hl 2 rfl) ?_
    refine lv_iconst (v := nI 0) hx hb d_MO_plug_11 (by decide +kernel) ?_
    refine lv_iconst (v := nI 3) hx hb d_MO_plug_12 (by decide +kernel) ?_
    refine kr_iS (As := [.int y, .int (nI 0), .int (nI 3)]) (rest := [.ref (q 0)]) ⟨hx, hb, hml, hown, hts⟩ (c_MO_withinZ l D k y 0 3 (by omega) (by omega)) (va_cwS 3 hts (gS w_587 w_588 w_5 w_589) rfl rfl rfl (by decide +kernel) ⟨Nat.le_of_ble_eq_true rfl, Nat.le_of_ble_eq_true rfl⟩) hK va_nil rfl hl.1 rfl (Nat.le_of_ble_eq_true rfl) d_MO_plug_13 ⟨Nat.zero_le _, Nat.zero_le _⟩ ?_
    refine lv_if_eq (tgt := 48) hx hb d_MO_plug_16 (by decide) (fun c3 => ?_) (fun c3 => ?_)
    · have c3 := (bI_0).mp c3
      refine lv_iconst (v := nI 1) hx hb d_MO_plug_48 (by decide +kernel) ?_
      refine va_put (D := D) (ci := 7) (v := .int (nI 1)) (ty := .int) (C := R_MO) (T := T_MO) (N := 16) hx hb hts in_MO t_MO o_MO n_MO hown hK hP hD hS 0 rfl rfl 0 (by decide) (hts _ w_530) (fun _ h9 => h9) rfl (by decide +kernel) rfl rfl (Nat.le_of_ble_eq_true rfl) d_MO_plug_49 (fun H locs hP hD hS => ?_)
      have hP : va_P D vwCl (mW q k (nI 1) wd se kd bn sh mb pr B R sx pt rd wt ln px) H := hP
      have hD : va_D A (mW q k (nI 1) wd se kd bn sh mb pr B R sx pt rd wt ln px) := hD
      refine lv_aload_n hx hb d_MO_plug_52 rfl (lv_at hl 0 rfl) ?_
      refine va_get (D := D) (ci := 7) (v := .int (nI 1)) (C := R_MO) (T := T_MO) (N := 16) hx hb hts in_MO hown hK hP 0 rfl rfl 0 (by decide) (hts _ w_530) (fun _ h9 => h9) rfl d_MO_plug_53 ?_
      refine lv_if_eq (tgt := 60) hx hb d_MO_plug_56 (by decide) (fun c4 => ?_) (fun c4 => ?_)
      · have c4 := (n_eq0 (by omega)).mp c4
        exfalso; omega
      · have c4 := mt (n_eq0 (by omega)).mpr c4
        exact rw_retv hx hb hr hlocks d_MO_plug_59 hS () (trivial) hP
    · have c3 := mt (bI_0).mpr c3
      have c3 := Classical.not_not.mp c3
      refine lv_iload_n hx hb d_MO_plug_19 rfl (lv_at hl 3 rfl) ?_
      refine lv_iconst (v := nI 1) hx hb d_MO_plug_20 (by decide +kernel) ?_
      refine lv_iconst (v := nI 4) hx hb d_MO_plug_21 (by decide +kernel) ?_
      refine kr_iS (As := [.int z, .int (nI 1), .int (nI 4)]) (rest := [.ref (q 0)]) ⟨hx, hb, hml, hown, hts⟩ (c_MO_withinZ l D k z 1 4 (by omega) (by omega)) (va_cwS 3 hts (gS w_587 w_588 w_5 w_589) rfl rfl rfl (by decide +kernel) ⟨Nat.le_of_ble_eq_true rfl, Nat.le_of_ble_eq_true rfl⟩) hK va_nil rfl hl.1 rfl (Nat.le_of_ble_eq_true rfl) d_MO_plug_22 ⟨Nat.zero_le _, Nat.zero_le _⟩ ?_
      refine lv_if_eq (tgt := 48) hx hb d_MO_plug_25 (by decide) (fun c5 => ?_) (fun c5 => ?_)
      · have c5 := (bI_0).mp c5
        refine lv_iconst (v := nI 1) hx hb d_MO_plug_48 (by decide +kernel) ?_
        refine va_put (D := D) (ci := 7) (v := .int (nI 1)) (ty := .int) (C := R_MO) (T := T_MO) (N := 16) hx hb hts in_MO t_MO o_MO n_MO hown hK hP hD hS 0 rfl rfl 0 (by decide) (hts _ w_530) (fun _ h9 => h9) rfl (by decide +kernel) rfl rfl (Nat.le_of_ble_eq_true rfl) d_MO_plug_49 (fun H locs hP hD hS => ?_)
        have hP : va_P D vwCl (mW q k (nI 1) wd se kd bn sh mb pr B R sx pt rd wt ln px) H := hP
        have hD : va_D A (mW q k (nI 1) wd se kd bn sh mb pr B R sx pt rd wt ln px) := hD
        refine lv_aload_n hx hb d_MO_plug_52 rfl (lv_at hl 0 rfl) ?_
        refine va_get (D := D) (ci := 7) (v := .int (nI 1)) (C := R_MO) (T := T_MO) (N := 16) hx hb hts in_MO hown hK hP 0 rfl rfl 0 (by decide) (hts _ w_530) (fun _ h9 => h9) rfl d_MO_plug_53 ?_
        refine lv_if_eq (tgt := 60) hx hb d_MO_plug_56 (by decide) (fun c6 => ?_) (fun c6 => ?_)
        · have c6 := (n_eq0 (by omega)).mp c6
          exfalso; omega
        · have c6 := mt (n_eq0 (by omega)).mpr c6
          exact rw_retv hx hb hr hlocks d_MO_plug_59 hS () (trivial) hP
      · have c5 := mt (bI_0).mpr c5
        have c5 := Classical.not_not.mp c5
        refine lv_iload_n hx hb d_MO_plug_28 rfl (lv_at hl 3 rfl) ?_
        refine lv_iconst (v := nI 3) hx hb d_MO_plug_29 (by decide +kernel) ?_
        refine lv_icmp_ne (tgt := 44) hx hb d_MO_plug_30 (by decide) (fun c7 => ?_) (fun c7 => ?_)
        · have c7 := mt (zn_eq (by omega)).mpr c7
          exfalso; omega
        · have c7 := (zn_eq (by omega)).mp c7
          refine lv_iload hx hb d_MO_plug_33 (lv_at hl 4 rfl) ?_
          refine lv_iconst (v := nI 1) hx hb d_MO_plug_35 (by decide +kernel) ?_
          refine lv_bipush (v := nI 8) hx hb d_MO_plug_36 (by decide +kernel) ?_
          refine kr_iS (As := [.int b, .int (nI 1), .int (nI 8)]) (rest := [.ref (q 0)]) ⟨hx, hb, hml, hown, hts⟩ (c_MO_withinZ l D k b 1 8 (by omega) (by omega)) (va_cwS 3 hts (gS w_587 w_588 w_5 w_589) rfl rfl rfl (by decide +kernel) ⟨Nat.le_of_ble_eq_true rfl, Nat.le_of_ble_eq_true rfl⟩) hK va_nil rfl hl.1 rfl (Nat.le_of_ble_eq_true rfl) d_MO_plug_38 ⟨Nat.zero_le _, Nat.zero_le _⟩ ?_
          refine lv_if_eq (tgt := 48) hx hb d_MO_plug_41 (by decide) (fun c8 => ?_) (fun c8 => ?_)
          · have c8 := (bI_0).mp c8
            refine lv_iconst (v := nI 1) hx hb d_MO_plug_48 (by decide +kernel) ?_
            refine va_put (D := D) (ci := 7) (v := .int (nI 1)) (ty := .int) (C := R_MO) (T := T_MO) (N := 16) hx hb hts in_MO t_MO o_MO n_MO hown hK hP hD hS 0 rfl rfl 0 (by decide) (hts _ w_530) (fun _ h9 => h9) rfl (by decide +kernel) rfl rfl (Nat.le_of_ble_eq_true rfl) d_MO_plug_49 (fun H locs hP hD hS => ?_)
            have hP : va_P D vwCl (mW q k (nI 1) wd se kd bn sh mb pr B R sx pt rd wt ln px) H := hP
            have hD : va_D A (mW q k (nI 1) wd se kd bn sh mb pr B R sx pt rd wt ln px) := hD
            refine lv_aload_n hx hb d_MO_plug_52 rfl (lv_at hl 0 rfl) ?_
            refine va_get (D := D) (ci := 7) (v := .int (nI 1)) (C := R_MO) (T := T_MO) (N := 16) hx hb hts in_MO hown hK hP 0 rfl rfl 0 (by decide) (hts _ w_530) (fun _ h9 => h9) rfl d_MO_plug_53 ?_
            refine lv_if_eq (tgt := 60) hx hb d_MO_plug_56 (by decide) (fun c9 => ?_) (fun c9 => ?_)
            · have c9 := (n_eq0 (by omega)).mp c9
              exfalso; omega
            · have c9 := mt (n_eq0 (by omega)).mpr c9
              exact rw_retv hx hb hr hlocks d_MO_plug_59 hS () (trivial) hP
          · have c8 := mt (bI_0).mpr c8
            have c8 := Classical.not_not.mp c8
            exfalso; omega
set_option maxHeartbeats 4000000 in
set_option maxRecDepth 100000 in
theorem c_MO_plugt (l : Launch) (D : va_G) (k : Nat → ClassId) (q : Nat → Nat) (cd : Int32) (wd : Nat → Nat) (se : Nat → Nat) (kd : Nat → Nat) (bn : Nat → Int32) (sh : Nat → Nat) (mb : Nat → Nat) (pr : Nat) (B : Nat → Nat) (R : Nat → Nat) (sx : Nat) (pt : Nat) (rd : Nat) (wt : Int32) (ln : Nat) (px : Nat → Nat) (hwd : ∀ j, wd j < 2) (hse : ∀ j, se j < 256) (hpr : pr < 256) (hkd : ∀ j, kd j < 5) (hsh : ∀ j, sh j < 8) (hmb : ∀ j, mb j < 256) (s9 p9 : Nat) (hs9 : s9 < 4) (hp9 : p9 < 4) (kk : Nat) (hk1 : 1 ≤ kk) (hk2 : kk ≤ 4) (hk3 : kk ≠ 3) (b : Int32) (h1 : (wd s9 = 0 ∧ 0 < p9) ∨ kd (4 * s9 + p9) ≠ 0) : rw_v l y_MO_plug b_MO_plug 7 none { frames := 3, cells := 0, slots := 0, locals := 67 } D (kT k) (mW q k cd wd se kd bn sh mb pr B R sx pt rd wt ln px) [.ref (q 0), .int (nI s9), .int (nI p9), .int (nI kk), .int b] (fun (_ : Unit) => True) (fun (_ : Unit) => (mW q k (nI 2) wd se kd bn sh mb pr B R sx pt rd wt ln px)) := by
  refine rw_headv (by decide) (Nat.le_of_ble_eq_true rfl) ?_
  intro p e s m below meth c ls A hx hb hr hlocks hml hown hts hK hA hP hD hS hl
  have hown : s.vm.findClass "SlotScreenModel" = some m.cls := hown
  have hl : lv_has ls 7 [(0, .ref (q 0)), (1, .int (nI s9)), (2, .int (nI p9)), (3, .int (nI kk)), (4, .int b)] := hl
  refine lv_aload_n hx hb d_MO_plug_0 rfl (lv_at hl 0 rfl) ?_
  refine lv_iload_n hx hb d_MO_plug_1 rfl (lv_at hl 1 rfl) ?_
  refine lv_iconst (v := nI 0) hx hb d_MO_plug_2 (by decide +kernel) ?_
  refine lv_iconst (v := nI 3) hx hb d_MO_plug_3 (by decide +kernel) ?_
  refine kr_iS (As := [.int (nI s9), .int (nI 0), .int (nI 3)]) (rest := [.ref (q 0)]) ⟨hx, hb, hml, hown, hts⟩ (c_MO_within l D k s9 0 3 (by omega) (by omega) (by omega)) (va_cwS 3 hts (gS w_587 w_588 w_5 w_589) rfl rfl rfl (by decide +kernel) ⟨Nat.le_of_ble_eq_true rfl, Nat.le_of_ble_eq_true rfl⟩) hK va_nil rfl hl.1 rfl (Nat.le_of_ble_eq_true rfl) d_MO_plug_4 ⟨Nat.zero_le _, Nat.zero_le _⟩ ?_
  refine lv_if_eq (tgt := 48) hx hb d_MO_plug_7 (by decide) (fun c1 => ?_) (fun c1 => ?_)
  · have c1 := (bI_0).mp c1
    exfalso; omega
  · have c1 := mt (bI_0).mpr c1
    have c1 := Classical.not_not.mp c1
    refine lv_iload_n hx hb d_MO_plug_10 rfl (lv_at hl 2 rfl) ?_
    refine lv_iconst (v := nI 0) hx hb d_MO_plug_11 (by decide +kernel) ?_
    refine lv_iconst (v := nI 3) hx hb d_MO_plug_12 (by decide +kernel) ?_
    refine kr_iS (As := [.int (nI p9), .int (nI 0), .int (nI 3)]) (rest := [.ref (q 0)]) ⟨hx, hb, hml, hown, hts⟩ (c_MO_within l D k p9 0 3 (by omega) (by omega) (by omega)) (va_cwS 3 hts (gS w_587 w_588 w_5 w_589) rfl rfl rfl (by decide +kernel) ⟨Nat.le_of_ble_eq_true rfl, Nat.le_of_ble_eq_true rfl⟩) hK va_nil rfl hl.1 rfl (Nat.le_of_ble_eq_true rfl) d_MO_plug_13 ⟨Nat.zero_le _, Nat.zero_le _⟩ ?_
    refine lv_if_eq (tgt := 48) hx hb d_MO_plug_16 (by decide) (fun c2 => ?_) (fun c2 => ?_)
    · have c2 := (bI_0).mp c2
      exfalso; omega
    · have c2 := mt (bI_0).mpr c2
      have c2 := Classical.not_not.mp c2
      refine lv_iload_n hx hb d_MO_plug_19 rfl (lv_at hl 3 rfl) ?_
      refine lv_iconst (v := nI 1) hx hb d_MO_plug_20 (by decide +kernel) ?_
      refine lv_iconst (v := nI 4) hx hb d_MO_plug_21 (by decide +kernel) ?_
      refine kr_iS (As := [.int (nI kk), .int (nI 1), .int (nI 4)]) (rest := [.ref (q 0)]) ⟨hx, hb, hml, hown, hts⟩ (c_MO_within l D k kk 1 4 (by omega) (by omega) (by omega)) (va_cwS 3 hts (gS w_587 w_588 w_5 w_589) rfl rfl rfl (by decide +kernel) ⟨Nat.le_of_ble_eq_true rfl, Nat.le_of_ble_eq_true rfl⟩) hK va_nil rfl hl.1 rfl (Nat.le_of_ble_eq_true rfl) d_MO_plug_22 ⟨Nat.zero_le _, Nat.zero_le _⟩ ?_
      refine lv_if_eq (tgt := 48) hx hb d_MO_plug_25 (by decide) (fun c3 => ?_) (fun c3 => ?_)
      · have c3 := (bI_0).mp c3
        exfalso; omega
      · have c3 := mt (bI_0).mpr c3
        have c3 := Classical.not_not.mp c3
        refine lv_iload_n hx hb d_MO_plug_28 rfl (lv_at hl 3 rfl) ?_
        refine lv_iconst (v := nI 3) hx hb d_MO_plug_29 (by decide +kernel) ?_
        refine lv_icmp_ne (tgt := 44) hx hb d_MO_plug_30 (by decide) (fun c4 => ?_) (fun c4 => ?_)
        · have c4 := mt (nI_eq (by omega) (by omega)).mpr c4
          refine lv_iconst (v := nI 0) hx hb d_MO_plug_44 (by decide +kernel) ?_
          refine lv_goto (tgt := 49) hx hb d_MO_plug_45 (by decide) ?_
          refine va_put (D := D) (ci := 7) (v := .int (nI 0)) (ty := .int) (C := R_MO) (T := T_MO) (N := 16) hx hb hts in_MO t_MO o_MO n_MO hown hK hP hD hS 0 rfl rfl 0 (by decide) (hts _ w_530) (fun _ h9 => h9) rfl (by decide +kernel) rfl rfl (Nat.le_of_ble_eq_true rfl) d_MO_plug_49 (fun H locs hP hD hS => ?_)
          have hP : va_P D vwCl (mW q k (nI 0) wd se kd bn sh mb pr B R sx pt rd wt ln px) H := hP
          have hD : va_D A (mW q k (nI 0) wd se kd bn sh mb pr B R sx pt rd wt ln px) := hD
          refine lv_aload_n hx hb d_MO_plug_52 rfl (lv_at hl 0 rfl) ?_
          refine va_get (D := D) (ci := 7) (v := .int (nI 0)) (C := R_MO) (T := T_MO) (N := 16) hx hb hts in_MO hown hK hP 0 rfl rfl 0 (by decide) (hts _ w_530) (fun _ h9 => h9) rfl d_MO_plug_53 ?_
          refine lv_if_eq (tgt := 60) hx hb d_MO_plug_56 (by decide) (fun c5 => ?_) (fun c5 => ?_)
          · have c5 := (n_eq0 (by omega)).mp c5
            refine lv_iconst (v := nI 4) hx hb d_MO_plug_60 (by decide +kernel) ?_
            refine lv_iload_n hx hb d_MO_plug_61 rfl (lv_at hl 1 rfl) ?_
            refine lv_imul hx hb d_MO_plug_62 ?_
            refine ss_rt (y := nI (4 * s9)) (pk_mul _ _) ?_
            refine lv_iload_n hx hb d_MO_plug_63 rfl (lv_at hl 2 rfl) ?_
            refine lv_iadd hx hb d_MO_plug_64 ?_
            refine ss_rt (y := nI (4 * s9 + p9)) (nI_add _ _) ?_
            refine lv_istore (lv' := [(5, .int (nI (4 * s9 + p9))), (0, .ref (q 0)), (1, .int (nI s9)), (2, .int (nI p9)), (3, .int (nI kk)), (4, .int b)]) hx hb d_MO_plug_65 hl (by decide) rfl (fun ls hl => ?_)
            refine lv_aload_n hx hb d_MO_plug_67 rfl (lv_at hl 1 rfl) ?_
            refine va_get (D := D) (ci := 7) (v := .ref (q 1)) (C := R_MO) (T := T_MO) (N := 16) hx hb hts in_MO hown hK hP 0 rfl rfl 1 (by decide) (hts _ w_531) (fun _ h9 => h9) rfl d_MO_plug_68 ?_
            refine lv_iload_n hx hb d_MO_plug_71 rfl (lv_at hl 2 rfl) ?_
            refine va_zald hx hb hK hP 1 1 rfl rfl (vp_in_nI (by omega) (by omega)) d_MO_plug_72 ?_
            refine ss_rt (y := nI (wd s9)) (congrArg (fun z => nI (wd z)) (nI_clamp (by omega))) ?_
            have g6 := hwd s9
            refine lv_if_ne (tgt := 80) hx hb d_MO_plug_73 (by decide) (fun c7 => ?_) (fun c7 => ?_)
            · have c7 := mt (n_eq0 (by omega)).mpr c7
              refine lv_aload_n hx hb d_MO_plug_80 rfl (lv_at hl 1 rfl) ?_
              refine va_get (D := D) (ci := 7) (v := .ref (q 3)) (C := R_MO) (T := T_MO) (N := 16) hx hb hts in_MO hown hK hP 0 rfl rfl 3 (by decide) (hts _ w_533) (fun _ h9 => h9) rfl d_MO_plug_81 ?_
              refine lv_iload hx hb d_MO_plug_84 (lv_at hl 0 rfl) ?_
              refine va_iald hx hb hK hP 3 0 rfl rfl (vp_in_nI (by omega) (by omega)) d_MO_plug_86 ?_
              refine ss_rt (y := nI (kd (4 * s9 + p9))) (congrArg (fun z => nI (kd z)) (nI_clamp (by omega))) ?_
              have g8 := hkd (4 * s9 + p9)
              refine lv_if_eq (tgt := 96) hx hb d_MO_plug_87 (by decide) (fun c9 => ?_) (fun c9 => ?_)
              · have c9 := (n_eq0 (by omega)).mp c9
                exfalso; omega
              · have c9 := mt (n_eq0 (by omega)).mpr c9
                refine lv_aload_n hx hb d_MO_plug_90 rfl (lv_at hl 1 rfl) ?_
                refine lv_iconst (v := nI 2) hx hb d_MO_plug_91 (by decide +kernel) ?_
                refine va_put (D := D) (ci := 7) (v := .int (nI 2)) (ty := .int) (C := R_MO) (T := T_MO) (N := 16) hx hb hts in_MO t_MO o_MO n_MO hown hK hP hD hS 0 rfl rfl 0 (by decide) (hts _ w_530) (fun _ h9 => h9) rfl (by decide +kernel) rfl rfl (Nat.le_of_ble_eq_true rfl) d_MO_plug_92 (fun H locs hP hD hS => ?_)
                have hP : va_P D vwCl (mW q k (nI 2) wd se kd bn sh mb pr B R sx pt rd wt ln px) H := hP
                have hD : va_D A (mW q k (nI 2) wd se kd bn sh mb pr B R sx pt rd wt ln px) := hD
                exact rw_retv hx hb hr hlocks d_MO_plug_95 hS () (trivial) hP
            · have c7 := (n_eq0 (by omega)).mp c7
              refine lv_iload_n hx hb d_MO_plug_76 rfl (lv_at hl 3 rfl) ?_
              refine lv_if_gt (tgt := 90) hx hb d_MO_plug_77 (by decide) (fun c10 => ?_) (fun c10 => ?_)
              · have c10 := (n_gt0 (by omega)).mp c10
                refine lv_aload_n hx hb d_MO_plug_90 rfl (lv_at hl 1 rfl) ?_
                refine lv_iconst (v := nI 2) hx hb d_MO_plug_91 (by decide +kernel) ?_
                refine va_put (D := D) (ci := 7) (v := .int (nI 2)) (ty := .int) (C := R_MO) (T := T_MO) (N := 16) hx hb hts in_MO t_MO o_MO n_MO hown hK hP hD hS 0 rfl rfl 0 (by decide) (hts _ w_530) (fun _ h9 => h9) rfl (by decide +kernel) rfl rfl (Nat.le_of_ble_eq_true rfl) d_MO_plug_92 (fun H locs hP hD hS => ?_)
                have hP : va_P D vwCl (mW q k (nI 2) wd se kd bn sh mb pr B R sx pt rd wt ln px) H := hP
                have hD : va_D A (mW q k (nI 2) wd se kd bn sh mb pr B R sx pt rd wt ln px) := hD
                exact rw_retv hx hb hr hlocks d_MO_plug_95 hS () (trivial) hP
              · have c10 := mt (n_gt0 (by omega)).mpr c10
                refine lv_aload_n hx hb d_MO_plug_80 rfl (lv_at hl 1 rfl) ?_
                refine va_get (D := D) (ci := 7) (v := .ref (q 3)) (C := R_MO) (T := T_MO) (N := 16) hx hb hts in_MO hown hK hP 0 rfl rfl 3 (by decide) (hts _ w_533) (fun _ h9 => h9) rfl d_MO_plug_81 ?_
                refine lv_iload hx hb d_MO_plug_84 (lv_at hl 0 rfl) ?_
                refine va_iald hx hb hK hP 3 0 rfl rfl (vp_in_nI (by omega) (by omega)) d_MO_plug_86 ?_
                refine ss_rt (y := nI (kd (4 * s9 + p9))) (congrArg (fun z => nI (kd z)) (nI_clamp (by omega))) ?_
                have g11 := hkd (4 * s9 + p9)
                refine lv_if_eq (tgt := 96) hx hb d_MO_plug_87 (by decide) (fun c12 => ?_) (fun c12 => ?_)
                · have c12 := (n_eq0 (by omega)).mp c12
                  exfalso; omega
                · have c12 := mt (n_eq0 (by omega)).mpr c12
                  refine lv_aload_n hx hb d_MO_plug_90 rfl (lv_at hl 1 rfl) ?_
                  refine lv_iconst (v := nI 2) hx hb d_MO_plug_91 (by decide +kernel) ?_
                  refine va_put (D := D) (ci := 7) (v := .int (nI 2)) (ty := .int) (C := R_MO) (T := T_MO) (N := 16) hx hb hts in_MO t_MO o_MO n_MO hown hK hP hD hS 0 rfl rfl 0 (by decide) (hts _ w_530) (fun _ h9 => h9) rfl (by decide +kernel) rfl rfl (Nat.le_of_ble_eq_true rfl) d_MO_plug_92 (fun H locs hP hD hS => ?_)
                  have hP : va_P D vwCl (mW q k (nI 2) wd se kd bn sh mb pr B R sx pt rd wt ln px) H := hP
                  have hD : va_D A (mW q k (nI 2) wd se kd bn sh mb pr B R sx pt rd wt ln px) := hD
                  exact rw_retv hx hb hr hlocks d_MO_plug_95 hS () (trivial) hP
          · have c5 := mt (n_eq0 (by omega)).mpr c5
            exfalso; omega
        · have c4 := (nI_eq (by omega) (by omega)).mp c4
          exfalso; omega
set_option maxHeartbeats 4000000 in
set_option maxRecDepth 100000 in
theorem c_MO_plug (l : Launch) (D : va_G) (k : Nat → ClassId) (q : Nat → Nat) (cd : Int32) (wd : Nat → Nat) (se : Nat → Nat) (kd : Nat → Nat) (bn : Nat → Int32) (sh : Nat → Nat) (mb : Nat → Nat) (pr : Nat) (B : Nat → Nat) (R : Nat → Nat) (sx : Nat) (pt : Nat) (rd : Nat) (wt : Int32) (ln : Nat) (px : Nat → Nat) (hwd : ∀ j, wd j < 2) (hse : ∀ j, se j < 256) (hpr : pr < 256) (hkd : ∀ j, kd j < 5) (hsh : ∀ j, sh j < 8) (hmb : ∀ j, mb j < 256) (s9 p9 : Nat) (hs9 : s9 < 4) (hp9 : p9 < 4) (kk : Nat) (hk1 : 1 ≤ kk) (hk2 : kk ≤ 4) (hk3 : kk ≠ 3) (b : Int32) (h1 : wd s9 = 1 ∨ p9 = 0) (h2 : kd (4 * s9 + p9) = 0) : rw_v l y_MO_plug b_MO_plug 7 none { frames := 3, cells := 0, slots := 0, locals := 67 } D (kT k) (mW q k cd wd se kd bn sh mb pr B R sx pt rd wt ln px) [.ref (q 0), .int (nI s9), .int (nI p9), .int (nI kk), .int b] (fun (_ : Unit) => True) (fun (_ : Unit) => (mW q k (nI 0) wd se (ss_up kd (4 * s9 + p9) kk) (upd bn (4 * s9 + p9) (b)) sh mb pr B R sx pt rd wt ln px)) := by
  refine rw_headv (by decide) (Nat.le_of_ble_eq_true rfl) ?_
  intro p e s m below meth c ls A hx hb hr hlocks hml hown hts hK hA hP hD hS hl
  have hown : s.vm.findClass "SlotScreenModel" = some m.cls := hown
  have hl : lv_has ls 7 [(0, .ref (q 0)), (1, .int (nI s9)), (2, .int (nI p9)), (3, .int (nI kk)), (4, .int b)] := hl
  refine lv_aload_n hx hb d_MO_plug_0 rfl (lv_at hl 0 rfl) ?_
  refine lv_iload_n hx hb d_MO_plug_1 rfl (lv_at hl 1 rfl) ?_
  refine lv_iconst (v := nI 0) hx hb d_MO_plug_2 (by decide +kernel) ?_
  refine lv_iconst (v := nI 3) hx hb d_MO_plug_3 (by decide +kernel) ?_
  refine kr_iS (As := [.int (nI s9), .int (nI 0), .int (nI 3)]) (rest := [.ref (q 0)]) ⟨hx, hb, hml, hown, hts⟩ (c_MO_within l D k s9 0 3 (by omega) (by omega) (by omega)) (va_cwS 3 hts (gS w_587 w_588 w_5 w_589) rfl rfl rfl (by decide +kernel) ⟨Nat.le_of_ble_eq_true rfl, Nat.le_of_ble_eq_true rfl⟩) hK va_nil rfl hl.1 rfl (Nat.le_of_ble_eq_true rfl) d_MO_plug_4 ⟨Nat.zero_le _, Nat.zero_le _⟩ ?_
  refine lv_if_eq (tgt := 48) hx hb d_MO_plug_7 (by decide) (fun c1 => ?_) (fun c1 => ?_)
  · have c1 := (bI_0).mp c1
    exfalso; omega
  · have c1 := mt (bI_0).mpr c1
    have c1 := Classical.not_not.mp c1
    refine lv_iload_n hx hb d_MO_plug_10 rfl (lv_at hl 2 rfl) ?_
    refine lv_iconst (v := nI 0) hx hb d_MO_plug_11 (by decide +kernel) ?_
    refine lv_iconst (v := nI 3) hx hb d_MO_plug_12 (by decide +kernel) ?_
    refine kr_iS (As := [.int (nI p9), .int (nI 0), .int (nI 3)]) (rest := [.ref (q 0)]) ⟨hx, hb, hml, hown, hts⟩ (c_MO_within l D k p9 0 3 (by omega) (by omega) (by omega)) (va_cwS 3 hts (gS w_587 w_588 w_5 w_589) rfl rfl rfl (by decide +kernel) ⟨Nat.le_of_ble_eq_true rfl, Nat.le_of_ble_eq_true rfl⟩) hK va_nil rfl hl.1 rfl (Nat.le_of_ble_eq_true rfl) d_MO_plug_13 ⟨Nat.zero_le _, Nat.zero_le _⟩ ?_
    refine lv_if_eq (tgt := 48) hx hb d_MO_plug_16 (by decide) (fun c2 => ?_) (fun c2 => ?_)
    · have c2 := (bI_0).mp c2
      exfalso; omega
    · have c2 := mt (bI_0).mpr c2
      have c2 := Classical.not_not.mp c2
      refine lv_iload_n hx hb d_MO_plug_19 rfl (lv_at hl 3 rfl) ?_
      refine lv_iconst (v := nI 1) hx hb d_MO_plug_20 (by decide +kernel) ?_
      refine lv_iconst (v := nI 4) hx hb d_MO_plug_21 (by decide +kernel) ?_
      refine kr_iS (As := [.int (nI kk), .int (nI 1), .int (nI 4)]) (rest := [.ref (q 0)]) ⟨hx, hb, hml, hown, hts⟩ (c_MO_within l D k kk 1 4 (by omega) (by omega) (by omega)) (va_cwS 3 hts (gS w_587 w_588 w_5 w_589) rfl rfl rfl (by decide +kernel) ⟨Nat.le_of_ble_eq_true rfl, Nat.le_of_ble_eq_true rfl⟩) hK va_nil rfl hl.1 rfl (Nat.le_of_ble_eq_true rfl) d_MO_plug_22 ⟨Nat.zero_le _, Nat.zero_le _⟩ ?_
      refine lv_if_eq (tgt := 48) hx hb d_MO_plug_25 (by decide) (fun c3 => ?_) (fun c3 => ?_)
      · have c3 := (bI_0).mp c3
        exfalso; omega
      · have c3 := mt (bI_0).mpr c3
        have c3 := Classical.not_not.mp c3
        refine lv_iload_n hx hb d_MO_plug_28 rfl (lv_at hl 3 rfl) ?_
        refine lv_iconst (v := nI 3) hx hb d_MO_plug_29 (by decide +kernel) ?_
        refine lv_icmp_ne (tgt := 44) hx hb d_MO_plug_30 (by decide) (fun c4 => ?_) (fun c4 => ?_)
        · have c4 := mt (nI_eq (by omega) (by omega)).mpr c4
          refine lv_iconst (v := nI 0) hx hb d_MO_plug_44 (by decide +kernel) ?_
          refine lv_goto (tgt := 49) hx hb d_MO_plug_45 (by decide) ?_
          refine va_put (D := D) (ci := 7) (v := .int (nI 0)) (ty := .int) (C := R_MO) (T := T_MO) (N := 16) hx hb hts in_MO t_MO o_MO n_MO hown hK hP hD hS 0 rfl rfl 0 (by decide) (hts _ w_530) (fun _ h9 => h9) rfl (by decide +kernel) rfl rfl (Nat.le_of_ble_eq_true rfl) d_MO_plug_49 (fun H locs hP hD hS => ?_)
          have hP : va_P D vwCl (mW q k (nI 0) wd se kd bn sh mb pr B R sx pt rd wt ln px) H := hP
          have hD : va_D A (mW q k (nI 0) wd se kd bn sh mb pr B R sx pt rd wt ln px) := hD
          refine lv_aload_n hx hb d_MO_plug_52 rfl (lv_at hl 0 rfl) ?_
          refine va_get (D := D) (ci := 7) (v := .int (nI 0)) (C := R_MO) (T := T_MO) (N := 16) hx hb hts in_MO hown hK hP 0 rfl rfl 0 (by decide) (hts _ w_530) (fun _ h9 => h9) rfl d_MO_plug_53 ?_
          refine lv_if_eq (tgt := 60) hx hb d_MO_plug_56 (by decide) (fun c5 => ?_) (fun c5 => ?_)
          · have c5 := (n_eq0 (by omega)).mp c5
            refine lv_iconst (v := nI 4) hx hb d_MO_plug_60 (by decide +kernel) ?_
            refine lv_iload_n hx hb d_MO_plug_61 rfl (lv_at hl 1 rfl) ?_
            refine lv_imul hx hb d_MO_plug_62 ?_
            refine ss_rt (y := nI (4 * s9)) (pk_mul _ _) ?_
            refine lv_iload_n hx hb d_MO_plug_63 rfl (lv_at hl 2 rfl) ?_
            refine lv_iadd hx hb d_MO_plug_64 ?_
            refine ss_rt (y := nI (4 * s9 + p9)) (nI_add _ _) ?_
            refine lv_istore (lv' := [(5, .int (nI (4 * s9 + p9))), (0, .ref (q 0)), (1, .int (nI s9)), (2, .int (nI p9)), (3, .int (nI kk)), (4, .int b)]) hx hb d_MO_plug_65 hl (by decide) rfl (fun ls hl => ?_)
            refine lv_aload_n hx hb d_MO_plug_67 rfl (lv_at hl 1 rfl) ?_
            refine va_get (D := D) (ci := 7) (v := .ref (q 1)) (C := R_MO) (T := T_MO) (N := 16) hx hb hts in_MO hown hK hP 0 rfl rfl 1 (by decide) (hts _ w_531) (fun _ h9 => h9) rfl d_MO_plug_68 ?_
            refine lv_iload_n hx hb d_MO_plug_71 rfl (lv_at hl 2 rfl) ?_
            refine va_zald hx hb hK hP 1 1 rfl rfl (vp_in_nI (by omega) (by omega)) d_MO_plug_72 ?_
            refine ss_rt (y := nI (wd s9)) (congrArg (fun z => nI (wd z)) (nI_clamp (by omega))) ?_
            have g6 := hwd s9
            refine lv_if_ne (tgt := 80) hx hb d_MO_plug_73 (by decide) (fun c7 => ?_) (fun c7 => ?_)
            · have c7 := mt (n_eq0 (by omega)).mpr c7
              refine lv_aload_n hx hb d_MO_plug_80 rfl (lv_at hl 1 rfl) ?_
              refine va_get (D := D) (ci := 7) (v := .ref (q 3)) (C := R_MO) (T := T_MO) (N := 16) hx hb hts in_MO hown hK hP 0 rfl rfl 3 (by decide) (hts _ w_533) (fun _ h9 => h9) rfl d_MO_plug_81 ?_
              refine lv_iload hx hb d_MO_plug_84 (lv_at hl 0 rfl) ?_
              refine va_iald hx hb hK hP 3 0 rfl rfl (vp_in_nI (by omega) (by omega)) d_MO_plug_86 ?_
              refine ss_rt (y := nI (kd (4 * s9 + p9))) (congrArg (fun z => nI (kd z)) (nI_clamp (by omega))) ?_
              have g8 := hkd (4 * s9 + p9)
              refine lv_if_eq (tgt := 96) hx hb d_MO_plug_87 (by decide) (fun c9 => ?_) (fun c9 => ?_)
              · have c9 := (n_eq0 (by omega)).mp c9
                refine lv_aload_n hx hb d_MO_plug_96 rfl (lv_at hl 1 rfl) ?_
                refine va_get (D := D) (ci := 7) (v := .ref (q 3)) (C := R_MO) (T := T_MO) (N := 16) hx hb hts in_MO hown hK hP 0 rfl rfl 3 (by decide) (hts _ w_533) (fun _ h9 => h9) rfl d_MO_plug_97 ?_
                refine lv_iload hx hb d_MO_plug_100 (lv_at hl 0 rfl) ?_
                refine lv_iload_n hx hb d_MO_plug_102 rfl (lv_at hl 4 rfl) ?_
                refine va_iast hx hb hK hP hD hS 3 0 rfl rfl (vp_in_nI (by omega) (by omega)) d_MO_plug_103 (fun H locs hP hD hS => ?_)
                rw [ss_upI kd (k := (4 * s9 + p9)) (v := kk) (by omega)] at hP hD
                have hP : va_P D vwCl (mW q k (nI 0) wd se (ss_up kd (4 * s9 + p9) kk) bn sh mb pr B R sx pt rd wt ln px) H := hP
                have hD : va_D A (mW q k (nI 0) wd se (ss_up kd (4 * s9 + p9) kk) bn sh mb pr B R sx pt rd wt ln px) := hD
                refine lv_aload_n hx hb d_MO_plug_104 rfl (lv_at hl 1 rfl) ?_
                refine va_get (D := D) (ci := 7) (v := .ref (q 4)) (C := R_MO) (T := T_MO) (N := 16) hx hb hts in_MO hown hK hP 0 rfl rfl 4 (by decide) (hts _ w_534) (fun _ h9 => h9) rfl d_MO_plug_105 ?_
                refine lv_iload hx hb d_MO_plug_108 (lv_at hl 0 rfl) ?_
                refine lv_iload hx hb d_MO_plug_110 (lv_at hl 5 rfl) ?_
                refine va_iast hx hb hK hP hD hS 4 0 rfl rfl (vp_in_nI (by omega) (by omega)) d_MO_plug_112 (fun H locs hP hD hS => ?_)
                rw [nI_clamp (n := (4 * s9 + p9)) (by omega)] at hP hD
                have hP : va_P D vwCl (mW q k (nI 0) wd se (ss_up kd (4 * s9 + p9) kk) (upd bn (4 * s9 + p9) b) sh mb pr B R sx pt rd wt ln px) H := hP
                have hD : va_D A (mW q k (nI 0) wd se (ss_up kd (4 * s9 + p9) kk) (upd bn (4 * s9 + p9) b) sh mb pr B R sx pt rd wt ln px) := hD
                refine lv_iconst (v := nI 0) hx hb d_MO_plug_113 (by decide +kernel) ?_
                refine lv_istore (lv' := [(6, .int (nI 0)), (5, .int (nI (4 * s9 + p9))), (0, .ref (q 0)), (1, .int (nI s9)), (2, .int (nI p9)), (3, .int (nI kk)), (4, .int b)]) hx hb d_MO_plug_114 hl (by decide) rfl (fun ls hl => ?_)
                refine lv_iload hx hb d_MO_plug_116 (lv_at hl 0 rfl) ?_
                refine lv_iconst (v := nI 4) hx hb d_MO_plug_118 (by decide +kernel) ?_
                refine lv_icmp_ge (tgt := 150) hx hb d_MO_plug_119 (by decide) (fun c10 => ?_) (fun c10 => ?_)
                · have c10 := (nI_leI (by omega) (by omega)).mp c10
                  exfalso; omega
                · have c10 := mt (nI_leI (by omega) (by omega)).mpr c10
                  refine lv_iload_n hx hb d_MO_plug_122 rfl (lv_at hl 5 rfl) ?_
                  refine lv_iconst (v := nI 3) hx hb d_MO_plug_123 (by decide +kernel) ?_
                  refine lv_icmp_ne (tgt := 150) hx hb d_MO_plug_124 (by decide) (fun c11 => ?_) (fun c11 => ?_)
                  · have c11 := mt (nI_eq (by omega) (by omega)).mpr c11
                    exact rw_retv hx hb hr hlocks d_MO_plug_150 hS () (trivial) (by rw [show (upd bn (4 * s9 + p9) (b)) = (upd bn (4 * s9 + p9) b) from by first | rfl | omega]; exact hP)
                  · have c11 := (nI_eq (by omega) (by omega)).mp c11
                    exfalso; omega
              · have c9 := mt (n_eq0 (by omega)).mpr c9
                exfalso; omega
            · have c7 := (n_eq0 (by omega)).mp c7
              refine lv_iload_n hx hb d_MO_plug_76 rfl (lv_at hl 3 rfl) ?_
              refine lv_if_gt (tgt := 90) hx hb d_MO_plug_77 (by decide) (fun c12 => ?_) (fun c12 => ?_)
              · have c12 := (n_gt0 (by omega)).mp c12
                exfalso; omega
              · have c12 := mt (n_gt0 (by omega)).mpr c12
                refine lv_aload_n hx hb d_MO_plug_80 rfl (lv_at hl 1 rfl) ?_
                refine va_get (D := D) (ci := 7) (v := .ref (q 3)) (C := R_MO) (T := T_MO) (N := 16) hx hb hts in_MO hown hK hP 0 rfl rfl 3 (by decide) (hts _ w_533) (fun _ h9 => h9) rfl d_MO_plug_81 ?_
                refine lv_iload hx hb d_MO_plug_84 (lv_at hl 0 rfl) ?_
                refine va_iald hx hb hK hP 3 0 rfl rfl (vp_in_nI (by omega) (by omega)) d_MO_plug_86 ?_
                refine ss_rt (y := nI (kd (4 * s9 + p9))) (congrArg (fun z => nI (kd z)) (nI_clamp (by omega))) ?_
                have g13 := hkd (4 * s9 + p9)
                refine lv_if_eq (tgt := 96) hx hb d_MO_plug_87 (by decide) (fun c14 => ?_) (fun c14 => ?_)
                · have c14 := (n_eq0 (by omega)).mp c14
                  refine lv_aload_n hx hb d_MO_plug_96 rfl (lv_at hl 1 rfl) ?_
                  refine va_get (D := D) (ci := 7) (v := .ref (q 3)) (C := R_MO) (T := T_MO) (N := 16) hx hb hts in_MO hown hK hP 0 rfl rfl 3 (by decide) (hts _ w_533) (fun _ h9 => h9) rfl d_MO_plug_97 ?_
                  refine lv_iload hx hb d_MO_plug_100 (lv_at hl 0 rfl) ?_
                  refine lv_iload_n hx hb d_MO_plug_102 rfl (lv_at hl 4 rfl) ?_
                  refine va_iast hx hb hK hP hD hS 3 0 rfl rfl (vp_in_nI (by omega) (by omega)) d_MO_plug_103 (fun H locs hP hD hS => ?_)
                  rw [ss_upI kd (k := (4 * s9 + p9)) (v := kk) (by omega)] at hP hD
                  have hP : va_P D vwCl (mW q k (nI 0) wd se (ss_up kd (4 * s9 + p9) kk) bn sh mb pr B R sx pt rd wt ln px) H := hP
                  have hD : va_D A (mW q k (nI 0) wd se (ss_up kd (4 * s9 + p9) kk) bn sh mb pr B R sx pt rd wt ln px) := hD
                  refine lv_aload_n hx hb d_MO_plug_104 rfl (lv_at hl 1 rfl) ?_
                  refine va_get (D := D) (ci := 7) (v := .ref (q 4)) (C := R_MO) (T := T_MO) (N := 16) hx hb hts in_MO hown hK hP 0 rfl rfl 4 (by decide) (hts _ w_534) (fun _ h9 => h9) rfl d_MO_plug_105 ?_
                  refine lv_iload hx hb d_MO_plug_108 (lv_at hl 0 rfl) ?_
                  refine lv_iload hx hb d_MO_plug_110 (lv_at hl 5 rfl) ?_
                  refine va_iast hx hb hK hP hD hS 4 0 rfl rfl (vp_in_nI (by omega) (by omega)) d_MO_plug_112 (fun H locs hP hD hS => ?_)
                  rw [nI_clamp (n := (4 * s9 + p9)) (by omega)] at hP hD
                  have hP : va_P D vwCl (mW q k (nI 0) wd se (ss_up kd (4 * s9 + p9) kk) (upd bn (4 * s9 + p9) b) sh mb pr B R sx pt rd wt ln px) H := hP
                  have hD : va_D A (mW q k (nI 0) wd se (ss_up kd (4 * s9 + p9) kk) (upd bn (4 * s9 + p9) b) sh mb pr B R sx pt rd wt ln px) := hD
                  refine lv_iconst (v := nI 0) hx hb d_MO_plug_113 (by decide +kernel) ?_
                  refine lv_istore (lv' := [(6, .int (nI 0)), (5, .int (nI (4 * s9 + p9))), (0, .ref (q 0)), (1, .int (nI s9)), (2, .int (nI p9)), (3, .int (nI kk)), (4, .int b)]) hx hb d_MO_plug_114 hl (by decide) rfl (fun ls hl => ?_)
                  refine lv_iload hx hb d_MO_plug_116 (lv_at hl 0 rfl) ?_
                  refine lv_iconst (v := nI 4) hx hb d_MO_plug_118 (by decide +kernel) ?_
                  refine lv_icmp_ge (tgt := 150) hx hb d_MO_plug_119 (by decide) (fun c15 => ?_) (fun c15 => ?_)
                  · have c15 := (nI_leI (by omega) (by omega)).mp c15
                    exfalso; omega
                  · have c15 := mt (nI_leI (by omega) (by omega)).mpr c15
                    refine lv_iload_n hx hb d_MO_plug_122 rfl (lv_at hl 5 rfl) ?_
                    refine lv_iconst (v := nI 3) hx hb d_MO_plug_123 (by decide +kernel) ?_
                    refine lv_icmp_ne (tgt := 150) hx hb d_MO_plug_124 (by decide) (fun c16 => ?_) (fun c16 => ?_)
                    · have c16 := mt (nI_eq (by omega) (by omega)).mpr c16
                      exact rw_retv hx hb hr hlocks d_MO_plug_150 hS () (trivial) (by rw [show (upd bn (4 * s9 + p9) (b)) = (upd bn (4 * s9 + p9) b) from by first | rfl | omega]; exact hP)
                    · have c16 := (nI_eq (by omega) (by omega)).mp c16
                      exfalso; omega
                · have c14 := mt (n_eq0 (by omega)).mpr c14
                  exfalso; omega
          · have c5 := mt (n_eq0 (by omega)).mpr c5
            exfalso; omega
        · have c4 := (nI_eq (by omega) (by omega)).mp c4
          exfalso; omega
set_option maxHeartbeats 4000000 in
set_option maxRecDepth 100000 in
theorem c_MO_plug3t (l : Launch) (D : va_G) (k : Nat → ClassId) (q : Nat → Nat) (cd : Int32) (wd : Nat → Nat) (se : Nat → Nat) (kd : Nat → Nat) (bn : Nat → Int32) (sh : Nat → Nat) (mb : Nat → Nat) (pr : Nat) (B : Nat → Nat) (R : Nat → Nat) (sx : Nat) (pt : Nat) (rd : Nat) (wt : Int32) (ln : Nat) (px : Nat → Nat) (hwd : ∀ j, wd j < 2) (hse : ∀ j, se j < 256) (hpr : pr < 256) (hkd : ∀ j, kd j < 5) (hsh : ∀ j, sh j < 8) (hmb : ∀ j, mb j < 256) (s9 p9 : Nat) (hs9 : s9 < 4) (hp9 : p9 < 4) (kk : Nat) (hk1 : 1 ≤ kk) (hk2 : kk ≤ 4) (hk3 : kk = 3) (n : Nat) (hn1 : 1 ≤ n) (hn2 : n ≤ 8) (h1 : (wd s9 = 0 ∧ 0 < p9) ∨ kd (4 * s9 + p9) ≠ 0) : rw_v l y_MO_plug b_MO_plug 7 none { frames := 3, cells := 0, slots := 0, locals := 67 } D (kT k) (mW q k cd wd se kd bn sh mb pr B R sx pt rd wt ln px) [.ref (q 0), .int (nI s9), .int (nI p9), .int (nI kk), .int (nI n)] (fun (_ : Unit) => True) (fun (_ : Unit) => (mW q k (nI 2) wd se kd bn sh mb pr B R sx pt rd wt ln px)) := by
  refine rw_headv (by decide) (Nat.le_of_ble_eq_true rfl) ?_
  intro p e s m below meth c ls A hx hb hr hlocks hml hown hts hK hA hP hD hS hl
  have hown : s.vm.findClass "SlotScreenModel" = some m.cls := hown
  have hl : lv_has ls 7 [(0, .ref (q 0)), (1, .int (nI s9)), (2, .int (nI p9)), (3, .int (nI kk)), (4, .int (nI n))] := hl
  refine lv_aload_n hx hb d_MO_plug_0 rfl (lv_at hl 0 rfl) ?_
  refine lv_iload_n hx hb d_MO_plug_1 rfl (lv_at hl 1 rfl) ?_
  refine lv_iconst (v := nI 0) hx hb d_MO_plug_2 (by decide +kernel) ?_
  refine lv_iconst (v := nI 3) hx hb d_MO_plug_3 (by decide +kernel) ?_
  refine kr_iS (As := [.int (nI s9), .int (nI 0), .int (nI 3)]) (rest := [.ref (q 0)]) ⟨hx, hb, hml, hown, hts⟩ (c_MO_within l D k s9 0 3 (by omega) (by omega) (by omega)) (va_cwS 3 hts (gS w_587 w_588 w_5 w_589) rfl rfl rfl (by decide +kernel) ⟨Nat.le_of_ble_eq_true rfl, Nat.le_of_ble_eq_true rfl⟩) hK va_nil rfl hl.1 rfl (Nat.le_of_ble_eq_true rfl) d_MO_plug_4 ⟨Nat.zero_le _, Nat.zero_le _⟩ ?_
  refine lv_if_eq (tgt := 48) hx hb d_MO_plug_7 (by decide) (fun c1 => ?_) (fun c1 => ?_)
  · have c1 := (bI_0).mp c1
    exfalso; omega
  · have c1 := mt (bI_0).mpr c1
    have c1 := Classical.not_not.mp c1
    refine lv_iload_n hx hb d_MO_plug_10 rfl (lv_at hl 2 rfl) ?_
    refine lv_iconst (v := nI 0) hx hb d_MO_plug_11 (by decide +kernel) ?_
    refine lv_iconst (v := nI 3) hx hb d_MO_plug_12 (by decide +kernel) ?_
    refine kr_iS (As := [.int (nI p9), .int (nI 0), .int (nI 3)]) (rest := [.ref (q 0)]) ⟨hx, hb, hml, hown, hts⟩ (c_MO_within l D k p9 0 3 (by omega) (by omega) (by omega)) (va_cwS 3 hts (gS w_587 w_588 w_5 w_589) rfl rfl rfl (by decide +kernel) ⟨Nat.le_of_ble_eq_true rfl, Nat.le_of_ble_eq_true rfl⟩) hK va_nil rfl hl.1 rfl (Nat.le_of_ble_eq_true rfl) d_MO_plug_13 ⟨Nat.zero_le _, Nat.zero_le _⟩ ?_
    refine lv_if_eq (tgt := 48) hx hb d_MO_plug_16 (by decide) (fun c2 => ?_) (fun c2 => ?_)
    · have c2 := (bI_0).mp c2
      exfalso; omega
    · have c2 := mt (bI_0).mpr c2
      have c2 := Classical.not_not.mp c2
      refine lv_iload_n hx hb d_MO_plug_19 rfl (lv_at hl 3 rfl) ?_
      refine lv_iconst (v := nI 1) hx hb d_MO_plug_20 (by decide +kernel) ?_
      refine lv_iconst (v := nI 4) hx hb d_MO_plug_21 (by decide +kernel) ?_
      refine kr_iS (As := [.int (nI kk), .int (nI 1), .int (nI 4)]) (rest := [.ref (q 0)]) ⟨hx, hb, hml, hown, hts⟩ (c_MO_within l D k kk 1 4 (by omega) (by omega) (by omega)) (va_cwS 3 hts (gS w_587 w_588 w_5 w_589) rfl rfl rfl (by decide +kernel) ⟨Nat.le_of_ble_eq_true rfl, Nat.le_of_ble_eq_true rfl⟩) hK va_nil rfl hl.1 rfl (Nat.le_of_ble_eq_true rfl) d_MO_plug_22 ⟨Nat.zero_le _, Nat.zero_le _⟩ ?_
      refine lv_if_eq (tgt := 48) hx hb d_MO_plug_25 (by decide) (fun c3 => ?_) (fun c3 => ?_)
      · have c3 := (bI_0).mp c3
        exfalso; omega
      · have c3 := mt (bI_0).mpr c3
        have c3 := Classical.not_not.mp c3
        refine lv_iload_n hx hb d_MO_plug_28 rfl (lv_at hl 3 rfl) ?_
        refine lv_iconst (v := nI 3) hx hb d_MO_plug_29 (by decide +kernel) ?_
        refine lv_icmp_ne (tgt := 44) hx hb d_MO_plug_30 (by decide) (fun c4 => ?_) (fun c4 => ?_)
        · have c4 := mt (nI_eq (by omega) (by omega)).mpr c4
          exfalso; omega
        · have c4 := (nI_eq (by omega) (by omega)).mp c4
          refine lv_iload hx hb d_MO_plug_33 (lv_at hl 4 rfl) ?_
          refine lv_iconst (v := nI 1) hx hb d_MO_plug_35 (by decide +kernel) ?_
          refine lv_bipush (v := nI 8) hx hb d_MO_plug_36 (by decide +kernel) ?_
          refine kr_iS (As := [.int (nI n), .int (nI 1), .int (nI 8)]) (rest := [.ref (q 0)]) ⟨hx, hb, hml, hown, hts⟩ (c_MO_within l D k n 1 8 (by omega) (by omega) (by omega)) (va_cwS 3 hts (gS w_587 w_588 w_5 w_589) rfl rfl rfl (by decide +kernel) ⟨Nat.le_of_ble_eq_true rfl, Nat.le_of_ble_eq_true rfl⟩) hK va_nil rfl hl.1 rfl (Nat.le_of_ble_eq_true rfl) d_MO_plug_38 ⟨Nat.zero_le _, Nat.zero_le _⟩ ?_
          refine lv_if_eq (tgt := 48) hx hb d_MO_plug_41 (by decide) (fun c5 => ?_) (fun c5 => ?_)
          · have c5 := (bI_0).mp c5
            exfalso; omega
          · have c5 := mt (bI_0).mpr c5
            have c5 := Classical.not_not.mp c5
            refine lv_iconst (v := nI 0) hx hb d_MO_plug_44 (by decide +kernel) ?_
            refine lv_goto (tgt := 49) hx hb d_MO_plug_45 (by decide) ?_
            refine va_put (D := D) (ci := 7) (v := .int (nI 0)) (ty := .int) (C := R_MO) (T := T_MO) (N := 16) hx hb hts in_MO t_MO o_MO n_MO hown hK hP hD hS 0 rfl rfl 0 (by decide) (hts _ w_530) (fun _ h9 => h9) rfl (by decide +kernel) rfl rfl (Nat.le_of_ble_eq_true rfl) d_MO_plug_49 (fun H locs hP hD hS => ?_)
            have hP : va_P D vwCl (mW q k (nI 0) wd se kd bn sh mb pr B R sx pt rd wt ln px) H := hP
            have hD : va_D A (mW q k (nI 0) wd se kd bn sh mb pr B R sx pt rd wt ln px) := hD
            refine lv_aload_n hx hb d_MO_plug_52 rfl (lv_at hl 0 rfl) ?_
            refine va_get (D := D) (ci := 7) (v := .int (nI 0)) (C := R_MO) (T := T_MO) (N := 16) hx hb hts in_MO hown hK hP 0 rfl rfl 0 (by decide) (hts _ w_530) (fun _ h9 => h9) rfl d_MO_plug_53 ?_
            refine lv_if_eq (tgt := 60) hx hb d_MO_plug_56 (by decide) (fun c6 => ?_) (fun c6 => ?_)
            · have c6 := (n_eq0 (by omega)).mp c6
              refine lv_iconst (v := nI 4) hx hb d_MO_plug_60 (by decide +kernel) ?_
              refine lv_iload_n hx hb d_MO_plug_61 rfl (lv_at hl 1 rfl) ?_
              refine lv_imul hx hb d_MO_plug_62 ?_
              refine ss_rt (y := nI (4 * s9)) (pk_mul _ _) ?_
              refine lv_iload_n hx hb d_MO_plug_63 rfl (lv_at hl 2 rfl) ?_
              refine lv_iadd hx hb d_MO_plug_64 ?_
              refine ss_rt (y := nI (4 * s9 + p9)) (nI_add _ _) ?_
              refine lv_istore (lv' := [(5, .int (nI (4 * s9 + p9))), (0, .ref (q 0)), (1, .int (nI s9)), (2, .int (nI p9)), (3, .int (nI kk)), (4, .int (nI n))]) hx hb d_MO_plug_65 hl (by decide) rfl (fun ls hl => ?_)
              refine lv_aload_n hx hb d_MO_plug_67 rfl (lv_at hl 1 rfl) ?_
              refine va_get (D := D) (ci := 7) (v := .ref (q 1)) (C := R_MO) (T := T_MO) (N := 16) hx hb hts in_MO hown hK hP 0 rfl rfl 1 (by decide) (hts _ w_531) (fun _ h9 => h9) rfl d_MO_plug_68 ?_
              refine lv_iload_n hx hb d_MO_plug_71 rfl (lv_at hl 2 rfl) ?_
              refine va_zald hx hb hK hP 1 1 rfl rfl (vp_in_nI (by omega) (by omega)) d_MO_plug_72 ?_
              refine ss_rt (y := nI (wd s9)) (congrArg (fun z => nI (wd z)) (nI_clamp (by omega))) ?_
              have g7 := hwd s9
              refine lv_if_ne (tgt := 80) hx hb d_MO_plug_73 (by decide) (fun c8 => ?_) (fun c8 => ?_)
              · have c8 := mt (n_eq0 (by omega)).mpr c8
                refine lv_aload_n hx hb d_MO_plug_80 rfl (lv_at hl 1 rfl) ?_
                refine va_get (D := D) (ci := 7) (v := .ref (q 3)) (C := R_MO) (T := T_MO) (N := 16) hx hb hts in_MO hown hK hP 0 rfl rfl 3 (by decide) (hts _ w_533) (fun _ h9 => h9) rfl d_MO_plug_81 ?_
                refine lv_iload hx hb d_MO_plug_84 (lv_at hl 0 rfl) ?_
                refine va_iald hx hb hK hP 3 0 rfl rfl (vp_in_nI (by omega) (by omega)) d_MO_plug_86 ?_
                refine ss_rt (y := nI (kd (4 * s9 + p9))) (congrArg (fun z => nI (kd z)) (nI_clamp (by omega))) ?_
                have g9 := hkd (4 * s9 + p9)
                refine lv_if_eq (tgt := 96) hx hb d_MO_plug_87 (by decide) (fun c10 => ?_) (fun c10 => ?_)
                · have c10 := (n_eq0 (by omega)).mp c10
                  exfalso; omega
                · have c10 := mt (n_eq0 (by omega)).mpr c10
                  refine lv_aload_n hx hb d_MO_plug_90 rfl (lv_at hl 1 rfl) ?_
                  refine lv_iconst (v := nI 2) hx hb d_MO_plug_91 (by decide +kernel) ?_
                  refine va_put (D := D) (ci := 7) (v := .int (nI 2)) (ty := .int) (C := R_MO) (T := T_MO) (N := 16) hx hb hts in_MO t_MO o_MO n_MO hown hK hP hD hS 0 rfl rfl 0 (by decide) (hts _ w_530) (fun _ h9 => h9) rfl (by decide +kernel) rfl rfl (Nat.le_of_ble_eq_true rfl) d_MO_plug_92 (fun H locs hP hD hS => ?_)
                  have hP : va_P D vwCl (mW q k (nI 2) wd se kd bn sh mb pr B R sx pt rd wt ln px) H := hP
                  have hD : va_D A (mW q k (nI 2) wd se kd bn sh mb pr B R sx pt rd wt ln px) := hD
                  exact rw_retv hx hb hr hlocks d_MO_plug_95 hS () (trivial) hP
              · have c8 := (n_eq0 (by omega)).mp c8
                refine lv_iload_n hx hb d_MO_plug_76 rfl (lv_at hl 3 rfl) ?_
                refine lv_if_gt (tgt := 90) hx hb d_MO_plug_77 (by decide) (fun c11 => ?_) (fun c11 => ?_)
                · have c11 := (n_gt0 (by omega)).mp c11
                  refine lv_aload_n hx hb d_MO_plug_90 rfl (lv_at hl 1 rfl) ?_
                  refine lv_iconst (v := nI 2) hx hb d_MO_plug_91 (by decide +kernel) ?_
                  refine va_put (D := D) (ci := 7) (v := .int (nI 2)) (ty := .int) (C := R_MO) (T := T_MO) (N := 16) hx hb hts in_MO t_MO o_MO n_MO hown hK hP hD hS 0 rfl rfl 0 (by decide) (hts _ w_530) (fun _ h9 => h9) rfl (by decide +kernel) rfl rfl (Nat.le_of_ble_eq_true rfl) d_MO_plug_92 (fun H locs hP hD hS => ?_)
                  have hP : va_P D vwCl (mW q k (nI 2) wd se kd bn sh mb pr B R sx pt rd wt ln px) H := hP
                  have hD : va_D A (mW q k (nI 2) wd se kd bn sh mb pr B R sx pt rd wt ln px) := hD
                  exact rw_retv hx hb hr hlocks d_MO_plug_95 hS () (trivial) hP
                · have c11 := mt (n_gt0 (by omega)).mpr c11
                  refine lv_aload_n hx hb d_MO_plug_80 rfl (lv_at hl 1 rfl) ?_
                  refine va_get (D := D) (ci := 7) (v := .ref (q 3)) (C := R_MO) (T := T_MO) (N := 16) hx hb hts in_MO hown hK hP 0 rfl rfl 3 (by decide) (hts _ w_533) (fun _ h9 => h9) rfl d_MO_plug_81 ?_
                  refine lv_iload hx hb d_MO_plug_84 (lv_at hl 0 rfl) ?_
                  refine va_iald hx hb hK hP 3 0 rfl rfl (vp_in_nI (by omega) (by omega)) d_MO_plug_86 ?_
                  refine ss_rt (y := nI (kd (4 * s9 + p9))) (congrArg (fun z => nI (kd z)) (nI_clamp (by omega))) ?_
                  have g12 := hkd (4 * s9 + p9)
                  refine lv_if_eq (tgt := 96) hx hb d_MO_plug_87 (by decide) (fun c13 => ?_) (fun c13 => ?_)
                  · have c13 := (n_eq0 (by omega)).mp c13
                    exfalso; omega
                  · have c13 := mt (n_eq0 (by omega)).mpr c13
                    refine lv_aload_n hx hb d_MO_plug_90 rfl (lv_at hl 1 rfl) ?_
                    refine lv_iconst (v := nI 2) hx hb d_MO_plug_91 (by decide +kernel) ?_
                    refine va_put (D := D) (ci := 7) (v := .int (nI 2)) (ty := .int) (C := R_MO) (T := T_MO) (N := 16) hx hb hts in_MO t_MO o_MO n_MO hown hK hP hD hS 0 rfl rfl 0 (by decide) (hts _ w_530) (fun _ h9 => h9) rfl (by decide +kernel) rfl rfl (Nat.le_of_ble_eq_true rfl) d_MO_plug_92 (fun H locs hP hD hS => ?_)
                    have hP : va_P D vwCl (mW q k (nI 2) wd se kd bn sh mb pr B R sx pt rd wt ln px) H := hP
                    have hD : va_D A (mW q k (nI 2) wd se kd bn sh mb pr B R sx pt rd wt ln px) := hD
                    exact rw_retv hx hb hr hlocks d_MO_plug_95 hS () (trivial) hP
            · have c6 := mt (n_eq0 (by omega)).mpr c6
              exfalso; omega
set_option maxHeartbeats 4000000 in
set_option maxRecDepth 100000 in
theorem c_MO_plug3 (l : Launch) (D : va_G) (k : Nat → ClassId) (q : Nat → Nat) (cd : Int32) (wd : Nat → Nat) (se : Nat → Nat) (kd : Nat → Nat) (bn : Nat → Int32) (sh : Nat → Nat) (mb : Nat → Nat) (pr : Nat) (B : Nat → Nat) (R : Nat → Nat) (sx : Nat) (pt : Nat) (rd : Nat) (wt : Int32) (ln : Nat) (px : Nat → Nat) (hwd : ∀ j, wd j < 2) (hse : ∀ j, se j < 256) (hpr : pr < 256) (hkd : ∀ j, kd j < 5) (hsh : ∀ j, sh j < 8) (hmb : ∀ j, mb j < 256) (s9 p9 : Nat) (hs9 : s9 < 4) (hp9 : p9 < 4) (kk : Nat) (hk1 : 1 ≤ kk) (hk2 : kk ≤ 4) (hk3 : kk = 3) (n : Nat) (hn1 : 1 ≤ n) (hn2 : n ≤ 8) (h1 : wd s9 = 1 ∨ p9 = 0) (h2 : kd (4 * s9 + p9) = 0) : rw_v l y_MO_plug b_MO_plug 7 none { frames := 3, cells := 0, slots := 0, locals := 67 } D (kT k) (mW q k cd wd se kd bn sh mb pr B R sx pt rd wt ln px) [.ref (q 0), .int (nI s9), .int (nI p9), .int (nI kk), .int (nI n)] (fun (_ : Unit) => True) (fun (_ : Unit) => (mW q k (nI 0) wd se (ss_up kd (4 * s9 + p9) kk) (upd bn (4 * s9 + p9) (nI n)) (mshn sh (4 * s9 + p9) n 4) mb pr B R sx pt rd wt ln px)) := by
  refine rw_headv (by decide) (Nat.le_of_ble_eq_true rfl) ?_
  intro p e s m below meth c ls A hx hb hr hlocks hml hown hts hK hA hP hD hS hl
  have hown : s.vm.findClass "SlotScreenModel" = some m.cls := hown
  have hl : lv_has ls 7 [(0, .ref (q 0)), (1, .int (nI s9)), (2, .int (nI p9)), (3, .int (nI kk)), (4, .int (nI n))] := hl
  refine lv_aload_n hx hb d_MO_plug_0 rfl (lv_at hl 0 rfl) ?_
  refine lv_iload_n hx hb d_MO_plug_1 rfl (lv_at hl 1 rfl) ?_
  refine lv_iconst (v := nI 0) hx hb d_MO_plug_2 (by decide +kernel) ?_
  refine lv_iconst (v := nI 3) hx hb d_MO_plug_3 (by decide +kernel) ?_
  refine kr_iS (As := [.int (nI s9), .int (nI 0), .int (nI 3)]) (rest := [.ref (q 0)]) ⟨hx, hb, hml, hown, hts⟩ (c_MO_within l D k s9 0 3 (by omega) (by omega) (by omega)) (va_cwS 3 hts (gS w_587 w_588 w_5 w_589) rfl rfl rfl (by decide +kernel) ⟨Nat.le_of_ble_eq_true rfl, Nat.le_of_ble_eq_true rfl⟩) hK va_nil rfl hl.1 rfl (Nat.le_of_ble_eq_true rfl) d_MO_plug_4 ⟨Nat.zero_le _, Nat.zero_le _⟩ ?_
  refine lv_if_eq (tgt := 48) hx hb d_MO_plug_7 (by decide) (fun c1 => ?_) (fun c1 => ?_)
  · have c1 := (bI_0).mp c1
    exfalso; omega
  · have c1 := mt (bI_0).mpr c1
    have c1 := Classical.not_not.mp c1
    refine lv_iload_n hx hb d_MO_plug_10 rfl (lv_at hl 2 rfl) ?_
    refine lv_iconst (v := nI 0) hx hb d_MO_plug_11 (by decide +kernel) ?_
    refine lv_iconst (v := nI 3) hx hb d_MO_plug_12 (by decide +kernel) ?_
    refine kr_iS (As := [.int (nI p9), .int (nI 0), .int (nI 3)]) (rest := [.ref (q 0)]) ⟨hx, hb, hml, hown, hts⟩ (c_MO_within l D k p9 0 3 (by omega) (by omega) (by omega)) (va_cwS 3 hts (gS w_587 w_588 w_5 w_589) rfl rfl rfl (by decide +kernel) ⟨Nat.le_of_ble_eq_true rfl, Nat.le_of_ble_eq_true rfl⟩) hK va_nil rfl hl.1 rfl (Nat.le_of_ble_eq_true rfl) d_MO_plug_13 ⟨Nat.zero_le _, Nat.zero_le _⟩ ?_
    refine lv_if_eq (tgt := 48) hx hb d_MO_plug_16 (by decide) (fun c2 => ?_) (fun c2 => ?_)
    · have c2 := (bI_0).mp c2
      exfalso; omega
    · have c2 := mt (bI_0).mpr c2
      have c2 := Classical.not_not.mp c2
      refine lv_iload_n hx hb d_MO_plug_19 rfl (lv_at hl 3 rfl) ?_
      refine lv_iconst (v := nI 1) hx hb d_MO_plug_20 (by decide +kernel) ?_
      refine lv_iconst (v := nI 4) hx hb d_MO_plug_21 (by decide +kernel) ?_
      refine kr_iS (As := [.int (nI kk), .int (nI 1), .int (nI 4)]) (rest := [.ref (q 0)]) ⟨hx, hb, hml, hown, hts⟩ (c_MO_within l D k kk 1 4 (by omega) (by omega) (by omega)) (va_cwS 3 hts (gS w_587 w_588 w_5 w_589) rfl rfl rfl (by decide +kernel) ⟨Nat.le_of_ble_eq_true rfl, Nat.le_of_ble_eq_true rfl⟩) hK va_nil rfl hl.1 rfl (Nat.le_of_ble_eq_true rfl) d_MO_plug_22 ⟨Nat.zero_le _, Nat.zero_le _⟩ ?_
      refine lv_if_eq (tgt := 48) hx hb d_MO_plug_25 (by decide) (fun c3 => ?_) (fun c3 => ?_)
      · have c3 := (bI_0).mp c3
        exfalso; omega
      · have c3 := mt (bI_0).mpr c3
        have c3 := Classical.not_not.mp c3
        refine lv_iload_n hx hb d_MO_plug_28 rfl (lv_at hl 3 rfl) ?_
        refine lv_iconst (v := nI 3) hx hb d_MO_plug_29 (by decide +kernel) ?_
        refine lv_icmp_ne (tgt := 44) hx hb d_MO_plug_30 (by decide) (fun c4 => ?_) (fun c4 => ?_)
        · have c4 := mt (nI_eq (by omega) (by omega)).mpr c4
          exfalso; omega
        · have c4 := (nI_eq (by omega) (by omega)).mp c4
          refine lv_iload hx hb d_MO_plug_33 (lv_at hl 4 rfl) ?_
          refine lv_iconst (v := nI 1) hx hb d_MO_plug_35 (by decide +kernel) ?_
          refine lv_bipush (v := nI 8) hx hb d_MO_plug_36 (by decide +kernel) ?_
          refine kr_iS (As := [.int (nI n), .int (nI 1), .int (nI 8)]) (rest := [.ref (q 0)]) ⟨hx, hb, hml, hown, hts⟩ (c_MO_within l D k n 1 8 (by omega) (by omega) (by omega)) (va_cwS 3 hts (gS w_587 w_588 w_5 w_589) rfl rfl rfl (by decide +kernel) ⟨Nat.le_of_ble_eq_true rfl, Nat.le_of_ble_eq_true rfl⟩) hK va_nil rfl hl.1 rfl (Nat.le_of_ble_eq_true rfl) d_MO_plug_38 ⟨Nat.zero_le _, Nat.zero_le _⟩ ?_
          refine lv_if_eq (tgt := 48) hx hb d_MO_plug_41 (by decide) (fun c5 => ?_) (fun c5 => ?_)
          · have c5 := (bI_0).mp c5
            exfalso; omega
          · have c5 := mt (bI_0).mpr c5
            have c5 := Classical.not_not.mp c5
            refine lv_iconst (v := nI 0) hx hb d_MO_plug_44 (by decide +kernel) ?_
            refine lv_goto (tgt := 49) hx hb d_MO_plug_45 (by decide) ?_
            refine va_put (D := D) (ci := 7) (v := .int (nI 0)) (ty := .int) (C := R_MO) (T := T_MO) (N := 16) hx hb hts in_MO t_MO o_MO n_MO hown hK hP hD hS 0 rfl rfl 0 (by decide) (hts _ w_530) (fun _ h9 => h9) rfl (by decide +kernel) rfl rfl (Nat.le_of_ble_eq_true rfl) d_MO_plug_49 (fun H locs hP hD hS => ?_)
            have hP : va_P D vwCl (mW q k (nI 0) wd se kd bn sh mb pr B R sx pt rd wt ln px) H := hP
            have hD : va_D A (mW q k (nI 0) wd se kd bn sh mb pr B R sx pt rd wt ln px) := hD
            refine lv_aload_n hx hb d_MO_plug_52 rfl (lv_at hl 0 rfl) ?_
            refine va_get (D := D) (ci := 7) (v := .int (nI 0)) (C := R_MO) (T := T_MO) (N := 16) hx hb hts in_MO hown hK hP 0 rfl rfl 0 (by decide) (hts _ w_530) (fun _ h9 => h9) rfl d_MO_plug_53 ?_
            refine lv_if_eq (tgt := 60) hx hb d_MO_plug_56 (by decide) (fun c6 => ?_) (fun c6 => ?_)
            · have c6 := (n_eq0 (by omega)).mp c6
              refine lv_iconst (v := nI 4) hx hb d_MO_plug_60 (by decide +kernel) ?_
              refine lv_iload_n hx hb d_MO_plug_61 rfl (lv_at hl 1 rfl) ?_
              refine lv_imul hx hb d_MO_plug_62 ?_
              refine ss_rt (y := nI (4 * s9)) (pk_mul _ _) ?_
              refine lv_iload_n hx hb d_MO_plug_63 rfl (lv_at hl 2 rfl) ?_
              refine lv_iadd hx hb d_MO_plug_64 ?_
              refine ss_rt (y := nI (4 * s9 + p9)) (nI_add _ _) ?_
              refine lv_istore (lv' := [(5, .int (nI (4 * s9 + p9))), (0, .ref (q 0)), (1, .int (nI s9)), (2, .int (nI p9)), (3, .int (nI kk)), (4, .int (nI n))]) hx hb d_MO_plug_65 hl (by decide) rfl (fun ls hl => ?_)
              refine lv_aload_n hx hb d_MO_plug_67 rfl (lv_at hl 1 rfl) ?_
              refine va_get (D := D) (ci := 7) (v := .ref (q 1)) (C := R_MO) (T := T_MO) (N := 16) hx hb hts in_MO hown hK hP 0 rfl rfl 1 (by decide) (hts _ w_531) (fun _ h9 => h9) rfl d_MO_plug_68 ?_
              refine lv_iload_n hx hb d_MO_plug_71 rfl (lv_at hl 2 rfl) ?_
              refine va_zald hx hb hK hP 1 1 rfl rfl (vp_in_nI (by omega) (by omega)) d_MO_plug_72 ?_
              refine ss_rt (y := nI (wd s9)) (congrArg (fun z => nI (wd z)) (nI_clamp (by omega))) ?_
              have g7 := hwd s9
              refine lv_if_ne (tgt := 80) hx hb d_MO_plug_73 (by decide) (fun c8 => ?_) (fun c8 => ?_)
              · have c8 := mt (n_eq0 (by omega)).mpr c8
                refine lv_aload_n hx hb d_MO_plug_80 rfl (lv_at hl 1 rfl) ?_
                refine va_get (D := D) (ci := 7) (v := .ref (q 3)) (C := R_MO) (T := T_MO) (N := 16) hx hb hts in_MO hown hK hP 0 rfl rfl 3 (by decide) (hts _ w_533) (fun _ h9 => h9) rfl d_MO_plug_81 ?_
                refine lv_iload hx hb d_MO_plug_84 (lv_at hl 0 rfl) ?_
                refine va_iald hx hb hK hP 3 0 rfl rfl (vp_in_nI (by omega) (by omega)) d_MO_plug_86 ?_
                refine ss_rt (y := nI (kd (4 * s9 + p9))) (congrArg (fun z => nI (kd z)) (nI_clamp (by omega))) ?_
                have g9 := hkd (4 * s9 + p9)
                refine lv_if_eq (tgt := 96) hx hb d_MO_plug_87 (by decide) (fun c10 => ?_) (fun c10 => ?_)
                · have c10 := (n_eq0 (by omega)).mp c10
                  refine lv_aload_n hx hb d_MO_plug_96 rfl (lv_at hl 1 rfl) ?_
                  refine va_get (D := D) (ci := 7) (v := .ref (q 3)) (C := R_MO) (T := T_MO) (N := 16) hx hb hts in_MO hown hK hP 0 rfl rfl 3 (by decide) (hts _ w_533) (fun _ h9 => h9) rfl d_MO_plug_97 ?_
                  refine lv_iload hx hb d_MO_plug_100 (lv_at hl 0 rfl) ?_
                  refine lv_iload_n hx hb d_MO_plug_102 rfl (lv_at hl 4 rfl) ?_
                  refine va_iast hx hb hK hP hD hS 3 0 rfl rfl (vp_in_nI (by omega) (by omega)) d_MO_plug_103 (fun H locs hP hD hS => ?_)
                  rw [ss_upI kd (k := (4 * s9 + p9)) (v := kk) (by omega)] at hP hD
                  have hP : va_P D vwCl (mW q k (nI 0) wd se (ss_up kd (4 * s9 + p9) kk) bn sh mb pr B R sx pt rd wt ln px) H := hP
                  have hD : va_D A (mW q k (nI 0) wd se (ss_up kd (4 * s9 + p9) kk) bn sh mb pr B R sx pt rd wt ln px) := hD
                  refine lv_aload_n hx hb d_MO_plug_104 rfl (lv_at hl 1 rfl) ?_
                  refine va_get (D := D) (ci := 7) (v := .ref (q 4)) (C := R_MO) (T := T_MO) (N := 16) hx hb hts in_MO hown hK hP 0 rfl rfl 4 (by decide) (hts _ w_534) (fun _ h9 => h9) rfl d_MO_plug_105 ?_
                  refine lv_iload hx hb d_MO_plug_108 (lv_at hl 0 rfl) ?_
                  refine lv_iload hx hb d_MO_plug_110 (lv_at hl 5 rfl) ?_
                  refine va_iast hx hb hK hP hD hS 4 0 rfl rfl (vp_in_nI (by omega) (by omega)) d_MO_plug_112 (fun H locs hP hD hS => ?_)
                  rw [nI_clamp (n := (4 * s9 + p9)) (by omega)] at hP hD
                  have hP : va_P D vwCl (mW q k (nI 0) wd se (ss_up kd (4 * s9 + p9) kk) (upd bn (4 * s9 + p9) (nI n)) sh mb pr B R sx pt rd wt ln px) H := hP
                  have hD : va_D A (mW q k (nI 0) wd se (ss_up kd (4 * s9 + p9) kk) (upd bn (4 * s9 + p9) (nI n)) sh mb pr B R sx pt rd wt ln px) := hD
                  refine lv_iconst (v := nI 0) hx hb d_MO_plug_113 (by decide +kernel) ?_
                  refine lv_istore (lv' := [(6, .int (nI 0)), (5, .int (nI (4 * s9 + p9))), (0, .ref (q 0)), (1, .int (nI s9)), (2, .int (nI p9)), (3, .int (nI kk)), (4, .int (nI n))]) hx hb d_MO_plug_114 hl (by decide) rfl (fun ls hl => ?_)
                  have loop : ∀ (j9 i : Nat), i + j9 = 4 → ∀ (H : Heap) (locs : List Loc), va_P D vwCl (mW q k (nI 0) wd se (ss_up kd (4 * s9 + p9) kk) (upd bn (4 * s9 + p9) (nI n)) (mshn sh (4 * s9 + p9) n i) mb pr B R sx pt rd wt ln px) H → va_D A (mW q k (nI 0) wd se (ss_up kd (4 * s9 + p9) kk) (upd bn (4 * s9 + p9) (nI n)) (mshn sh (4 * s9 + p9) n i) mb pr B R sx pt rd wt ln px) → va_S A s.heap H locs → ∀ (ls : Array Slot), lv_has ls 7 [(6, .int (nI i)), (5, .int (nI (4 * s9 + p9))), (0, .ref (q 0)), (1, .int (nI s9)), (2, .int (nI p9)), (3, .int (nI kk)), (4, .int (nI n))] → W p l e (headSpec (wsG y_MO_plug b_MO_plug 7 none) { frames := 3, cells := 0, slots := 0, locals := 67 }).room s m ([.ref (q 0), .int (nI s9), .int (nI p9), .int (nI kk), .int (nI n)] : List Value).toArray below meth c H locs 0 0 (MQ below (rw_Qv D (fun (_ : Unit) => True) (fun (_ : Unit) => (mW q k (nI 0) wd se (ss_up kd (4 * s9 + p9) kk) (upd bn (4 * s9 + p9) (nI n)) (mshn sh (4 * s9 + p9) n 4) mb pr B R sx pt rd wt ln px)) A) ([.ref (q 0), .int (nI s9), .int (nI p9), .int (nI kk), .int (nI n)] : List Value).toArray s 0 0 A) (F0 m 116 ls []) := by
                    intro j9
                    induction j9 with
                    | zero =>
                      intro i h9 H locs hP hD hS ls hl
                      obtain rfl : i = 4 := by omega
                      refine lv_iload hx hb d_MO_plug_116 (lv_at hl 0 rfl) ?_
                      refine lv_iconst (v := nI 4) hx hb d_MO_plug_118 (by decide +kernel) ?_
                      refine lv_icmp_ge (tgt := 150) hx hb d_MO_plug_119 (by decide) (fun c11 => ?_) (fun c11 => ?_)
                      · have c11 := (nI_leI (by omega) (by omega)).mp c11
                        exact rw_retv hx hb hr hlocks d_MO_plug_150 hS () (trivial) hP
                      · have c11 := mt (nI_leI (by omega) (by omega)).mpr c11
                        exfalso; omega
                    | succ j9 ih =>
                      intro i h9 H locs hP hD hS ls hl
                      refine lv_iload hx hb d_MO_plug_116 (lv_at hl 0 rfl) ?_
                      refine lv_iconst (v := nI 4) hx hb d_MO_plug_118 (by decide +kernel) ?_
                      refine lv_icmp_ge (tgt := 150) hx hb d_MO_plug_119 (by decide) (fun c12 => ?_) (fun c12 => ?_)
                      · have c12 := (nI_leI (by omega) (by omega)).mp c12
                        exfalso; omega
                      · have c12 := mt (nI_leI (by omega) (by omega)).mpr c12
                        refine lv_iload_n hx hb d_MO_plug_122 rfl (lv_at hl 5 rfl) ?_
                        refine lv_iconst (v := nI 3) hx hb d_MO_plug_123 (by decide +kernel) ?_
                        refine lv_icmp_ne (tgt := 150) hx hb d_MO_plug_124 (by decide) (fun c13 => ?_) (fun c13 => ?_)
                        · have c13 := mt (nI_eq (by omega) (by omega)).mpr c13
                          exfalso; omega
                        · have c13 := (nI_eq (by omega) (by omega)).mp c13
                          refine lv_aload_n hx hb d_MO_plug_127 rfl (lv_at hl 2 rfl) ?_
                          refine va_get (D := D) (ci := 7) (v := .ref (q 5)) (C := R_MO) (T := T_MO) (N := 16) hx hb hts in_MO hown hK hP 0 rfl rfl 5 (by decide) (hts _ w_535) (fun _ h9 => h9) rfl d_MO_plug_128 ?_
                          refine lv_iconst (v := nI 4) hx hb d_MO_plug_131 (by decide +kernel) ?_
                          refine lv_iload hx hb d_MO_plug_132 (lv_at hl 1 rfl) ?_
                          refine lv_imul hx hb d_MO_plug_134 ?_
                          refine ss_rt (y := nI (4 * (4 * s9 + p9))) (pk_mul _ _) ?_
                          refine lv_iload hx hb d_MO_plug_135 (lv_at hl 0 rfl) ?_
                          refine lv_iadd hx hb d_MO_plug_137 ?_
                          refine ss_rt (y := nI (4 * (4 * s9 + p9) + i)) (nI_add _ _) ?_
                          refine lv_iload hx hb d_MO_plug_138 (lv_at hl 0 rfl) ?_
                          refine lv_iload hx hb d_MO_plug_140 (lv_at hl 6 rfl) ?_
                          refine lv_irem hx hb d_MO_plug_142 (by first | decide +kernel | exact nI_ne0 (by omega) (by omega)) ?_
                          refine ss_rt (y := nI (i % n)) (pk_rem (by omega) (by omega) (by omega)) ?_
                          refine va_iast hx hb hK hP hD hS 5 0 rfl rfl (vp_in_nI (by omega) (by omega)) d_MO_plug_143 (fun H locs hP hD hS => ?_)
                          rw [ss_upI (mshn sh (4 * s9 + p9) n i) (k := (4 * (4 * s9 + p9) + i)) (v := (i % n)) (by omega)] at hP hD
                          have hP : va_P D vwCl (mW q k (nI 0) wd se (ss_up kd (4 * s9 + p9) kk) (upd bn (4 * s9 + p9) (nI n)) (ss_up (mshn sh (4 * s9 + p9) n i) (4 * (4 * s9 + p9) + i) (i % n)) mb pr B R sx pt rd wt ln px) H := hP
                          have hD : va_D A (mW q k (nI 0) wd se (ss_up kd (4 * s9 + p9) kk) (upd bn (4 * s9 + p9) (nI n)) (ss_up (mshn sh (4 * s9 + p9) n i) (4 * (4 * s9 + p9) + i) (i % n)) mb pr B R sx pt rd wt ln px) := hD
                          refine lv_iinc (v := nI (i + 1)) (lv' := [(6, .int (nI (i + 1))), (5, .int (nI (4 * s9 + p9))), (0, .ref (q 0)), (1, .int (nI s9)), (2, .int (nI p9)), (3, .int (nI kk)), (4, .int (nI n))]) hx hb d_MO_plug_144 hl (k := 0) rfl (nI_1 _) (by decide) rfl (fun ls hl => ?_)
                          refine lv_goto (tgt := 116) hx hb d_MO_plug_147 (by decide) ?_
                          rw [mshn_s] at hP hD
                          exact ih (i + 1) (by omega) _ _ hP hD hS ls (lv_sub hl [0, 1, 2, 3, 4, 5, 6] rfl)
                  rw [← mshn_0 sh (4 * s9 + p9) n] at hP hD
                  exact loop (4 - 0) 0 (by omega) _ _ hP hD hS ls (lv_sub hl [0, 1, 2, 3, 4, 5, 6] rfl)
                · have c10 := mt (n_eq0 (by omega)).mpr c10
                  exfalso; omega
              · have c8 := (n_eq0 (by omega)).mp c8
                refine lv_iload_n hx hb d_MO_plug_76 rfl (lv_at hl 3 rfl) ?_
                refine lv_if_gt (tgt := 90) hx hb d_MO_plug_77 (by decide) (fun c14 => ?_) (fun c14 => ?_)
                · have c14 := (n_gt0 (by omega)).mp c14
                  exfalso; omega
                · have c14 := mt (n_gt0 (by omega)).mpr c14
                  refine lv_aload_n hx hb d_MO_plug_80 rfl (lv_at hl 1 rfl) ?_
                  refine va_get (D := D) (ci := 7) (v := .ref (q 3)) (C := R_MO) (T := T_MO) (N := 16) hx hb hts in_MO hown hK hP 0 rfl rfl 3 (by decide) (hts _ w_533) (fun _ h9 => h9) rfl d_MO_plug_81 ?_
                  refine lv_iload hx hb d_MO_plug_84 (lv_at hl 0 rfl) ?_
                  refine va_iald hx hb hK hP 3 0 rfl rfl (vp_in_nI (by omega) (by omega)) d_MO_plug_86 ?_
                  refine ss_rt (y := nI (kd (4 * s9 + p9))) (congrArg (fun z => nI (kd z)) (nI_clamp (by omega))) ?_
                  have g15 := hkd (4 * s9 + p9)
                  refine lv_if_eq (tgt := 96) hx hb d_MO_plug_87 (by decide) (fun c16 => ?_) (fun c16 => ?_)
                  · have c16 := (n_eq0 (by omega)).mp c16
                    refine lv_aload_n hx hb d_MO_plug_96 rfl (lv_at hl 1 rfl) ?_
                    refine va_get (D := D) (ci := 7) (v := .ref (q 3)) (C := R_MO) (T := T_MO) (N := 16) hx hb hts in_MO hown hK hP 0 rfl rfl 3 (by decide) (hts _ w_533) (fun _ h9 => h9) rfl d_MO_plug_97 ?_
                    refine lv_iload hx hb d_MO_plug_100 (lv_at hl 0 rfl) ?_
                    refine lv_iload_n hx hb d_MO_plug_102 rfl (lv_at hl 4 rfl) ?_
                    refine va_iast hx hb hK hP hD hS 3 0 rfl rfl (vp_in_nI (by omega) (by omega)) d_MO_plug_103 (fun H locs hP hD hS => ?_)
                    rw [ss_upI kd (k := (4 * s9 + p9)) (v := kk) (by omega)] at hP hD
                    have hP : va_P D vwCl (mW q k (nI 0) wd se (ss_up kd (4 * s9 + p9) kk) bn sh mb pr B R sx pt rd wt ln px) H := hP
                    have hD : va_D A (mW q k (nI 0) wd se (ss_up kd (4 * s9 + p9) kk) bn sh mb pr B R sx pt rd wt ln px) := hD
                    refine lv_aload_n hx hb d_MO_plug_104 rfl (lv_at hl 1 rfl) ?_
                    refine va_get (D := D) (ci := 7) (v := .ref (q 4)) (C := R_MO) (T := T_MO) (N := 16) hx hb hts in_MO hown hK hP 0 rfl rfl 4 (by decide) (hts _ w_534) (fun _ h9 => h9) rfl d_MO_plug_105 ?_
                    refine lv_iload hx hb d_MO_plug_108 (lv_at hl 0 rfl) ?_
                    refine lv_iload hx hb d_MO_plug_110 (lv_at hl 5 rfl) ?_
                    refine va_iast hx hb hK hP hD hS 4 0 rfl rfl (vp_in_nI (by omega) (by omega)) d_MO_plug_112 (fun H locs hP hD hS => ?_)
                    rw [nI_clamp (n := (4 * s9 + p9)) (by omega)] at hP hD
                    have hP : va_P D vwCl (mW q k (nI 0) wd se (ss_up kd (4 * s9 + p9) kk) (upd bn (4 * s9 + p9) (nI n)) sh mb pr B R sx pt rd wt ln px) H := hP
                    have hD : va_D A (mW q k (nI 0) wd se (ss_up kd (4 * s9 + p9) kk) (upd bn (4 * s9 + p9) (nI n)) sh mb pr B R sx pt rd wt ln px) := hD
                    refine lv_iconst (v := nI 0) hx hb d_MO_plug_113 (by decide +kernel) ?_
                    refine lv_istore (lv' := [(6, .int (nI 0)), (5, .int (nI (4 * s9 + p9))), (0, .ref (q 0)), (1, .int (nI s9)), (2, .int (nI p9)), (3, .int (nI kk)), (4, .int (nI n))]) hx hb d_MO_plug_114 hl (by decide) rfl (fun ls hl => ?_)
                    have loop : ∀ (j9 i : Nat), i + j9 = 4 → ∀ (H : Heap) (locs : List Loc), va_P D vwCl (mW q k (nI 0) wd se (ss_up kd (4 * s9 + p9) kk) (upd bn (4 * s9 + p9) (nI n)) (mshn sh (4 * s9 + p9) n i) mb pr B R sx pt rd wt ln px) H → va_D A (mW q k (nI 0) wd se (ss_up kd (4 * s9 + p9) kk) (upd bn (4 * s9 + p9) (nI n)) (mshn sh (4 * s9 + p9) n i) mb pr B R sx pt rd wt ln px) → va_S A s.heap H locs → ∀ (ls : Array Slot), lv_has ls 7 [(6, .int (nI i)), (5, .int (nI (4 * s9 + p9))), (0, .ref (q 0)), (1, .int (nI s9)), (2, .int (nI p9)), (3, .int (nI kk)), (4, .int (nI n))] → W p l e (headSpec (wsG y_MO_plug b_MO_plug 7 none) { frames := 3, cells := 0, slots := 0, locals := 67 }).room s m ([.ref (q 0), .int (nI s9), .int (nI p9), .int (nI kk), .int (nI n)] : List Value).toArray below meth c H locs 0 0 (MQ below (rw_Qv D (fun (_ : Unit) => True) (fun (_ : Unit) => (mW q k (nI 0) wd se (ss_up kd (4 * s9 + p9) kk) (upd bn (4 * s9 + p9) (nI n)) (mshn sh (4 * s9 + p9) n 4) mb pr B R sx pt rd wt ln px)) A) ([.ref (q 0), .int (nI s9), .int (nI p9), .int (nI kk), .int (nI n)] : List Value).toArray s 0 0 A) (F0 m 116 ls []) := by
                      intro j9
                      induction j9 with
                      | zero =>
                        intro i h9 H locs hP hD hS ls hl
                        obtain rfl : i = 4 := by omega
                        refine lv_iload hx hb d_MO_plug_116 (lv_at hl 0 rfl) ?_
                        refine lv_iconst (v := nI 4) hx hb d_MO_plug_118 (by decide +kernel) ?_
                        refine lv_icmp_ge (tgt := 150) hx hb d_MO_plug_119 (by decide) (fun c17 => ?_) (fun c17 => ?_)
                        · have c17 := (nI_leI (by omega) (by omega)).mp c17
                          exact rw_retv hx hb hr hlocks d_MO_plug_150 hS () (trivial) hP
                        · have c17 := mt (nI_leI (by omega) (by omega)).mpr c17
                          exfalso; omega
                      | succ j9 ih =>
                        intro i h9 H locs hP hD hS ls hl
                        refine lv_iload hx hb d_MO_plug_116 (lv_at hl 0 rfl) ?_
                        refine lv_iconst (v := nI 4) hx hb d_MO_plug_118 (by decide +kernel) ?_
                        refine lv_icmp_ge (tgt := 150) hx hb d_MO_plug_119 (by decide) (fun c18 => ?_) (fun c18 => ?_)
                        · have c18 := (nI_leI (by omega) (by omega)).mp c18
                          exfalso; omega
                        · have c18 := mt (nI_leI (by omega) (by omega)).mpr c18
                          refine lv_iload_n hx hb d_MO_plug_122 rfl (lv_at hl 5 rfl) ?_
                          refine lv_iconst (v := nI 3) hx hb d_MO_plug_123 (by decide +kernel) ?_
                          refine lv_icmp_ne (tgt := 150) hx hb d_MO_plug_124 (by decide) (fun c19 => ?_) (fun c19 => ?_)
                          · have c19 := mt (nI_eq (by omega) (by omega)).mpr c19
                            exfalso; omega
                          · have c19 := (nI_eq (by omega) (by omega)).mp c19
                            refine lv_aload_n hx hb d_MO_plug_127 rfl (lv_at hl 2 rfl) ?_
                            refine va_get (D := D) (ci := 7) (v := .ref (q 5)) (C := R_MO) (T := T_MO) (N := 16) hx hb hts in_MO hown hK hP 0 rfl rfl 5 (by decide) (hts _ w_535) (fun _ h9 => h9) rfl d_MO_plug_128 ?_
                            refine lv_iconst (v := nI 4) hx hb d_MO_plug_131 (by decide +kernel) ?_
                            refine lv_iload hx hb d_MO_plug_132 (lv_at hl 1 rfl) ?_
                            refine lv_imul hx hb d_MO_plug_134 ?_
                            refine ss_rt (y := nI (4 * (4 * s9 + p9))) (pk_mul _ _) ?_
                            refine lv_iload hx hb d_MO_plug_135 (lv_at hl 0 rfl) ?_
                            refine lv_iadd hx hb d_MO_plug_137 ?_
                            refine ss_rt (y := nI (4 * (4 * s9 + p9) + i)) (nI_add _ _) ?_
                            refine lv_iload hx hb d_MO_plug_138 (lv_at hl 0 rfl) ?_
                            refine lv_iload hx hb d_MO_plug_140 (lv_at hl 6 rfl) ?_
                            refine lv_irem hx hb d_MO_plug_142 (by first | decide +kernel | exact nI_ne0 (by omega) (by omega)) ?_
                            refine ss_rt (y := nI (i % n)) (pk_rem (by omega) (by omega) (by omega)) ?_
                            refine va_iast hx hb hK hP hD hS 5 0 rfl rfl (vp_in_nI (by omega) (by omega)) d_MO_plug_143 (fun H locs hP hD hS => ?_)
                            rw [ss_upI (mshn sh (4 * s9 + p9) n i) (k := (4 * (4 * s9 + p9) + i)) (v := (i % n)) (by omega)] at hP hD
                            have hP : va_P D vwCl (mW q k (nI 0) wd se (ss_up kd (4 * s9 + p9) kk) (upd bn (4 * s9 + p9) (nI n)) (ss_up (mshn sh (4 * s9 + p9) n i) (4 * (4 * s9 + p9) + i) (i % n)) mb pr B R sx pt rd wt ln px) H := hP
                            have hD : va_D A (mW q k (nI 0) wd se (ss_up kd (4 * s9 + p9) kk) (upd bn (4 * s9 + p9) (nI n)) (ss_up (mshn sh (4 * s9 + p9) n i) (4 * (4 * s9 + p9) + i) (i % n)) mb pr B R sx pt rd wt ln px) := hD
                            refine lv_iinc (v := nI (i + 1)) (lv' := [(6, .int (nI (i + 1))), (5, .int (nI (4 * s9 + p9))), (0, .ref (q 0)), (1, .int (nI s9)), (2, .int (nI p9)), (3, .int (nI kk)), (4, .int (nI n))]) hx hb d_MO_plug_144 hl (k := 0) rfl (nI_1 _) (by decide) rfl (fun ls hl => ?_)
                            refine lv_goto (tgt := 116) hx hb d_MO_plug_147 (by decide) ?_
                            rw [mshn_s] at hP hD
                            exact ih (i + 1) (by omega) _ _ hP hD hS ls (lv_sub hl [0, 1, 2, 3, 4, 5, 6] rfl)
                    rw [← mshn_0 sh (4 * s9 + p9) n] at hP hD
                    exact loop (4 - 0) 0 (by omega) _ _ hP hD hS ls (lv_sub hl [0, 1, 2, 3, 4, 5, 6] rfl)
                  · have c16 := mt (n_eq0 (by omega)).mpr c16
                    exfalso; omega
            · have c6 := mt (n_eq0 (by omega)).mpr c6
              exfalso; omega
end
section
theorem dtl_lt {B R : Nat → Nat} (hB : ∀ j, B j < 256) (x y : Nat) : dtl B R x y < 16 := by
  have h := hB (4 * (R 3 % 128) + dnm B R x y / 8)
  unfold dtl
  split <;> omega
theorem dob_lt {R : Nat → Nat} {c : Nat} (h : c < 16) : dob R c < 16 := by
  unfold dob; split <;> omega
theorem dpx_lt {B R : Nat → Nat} (hB : ∀ j, B j < 256) (L x : Nat) : dpx B R L x < 16 := by
  unfold dpx
  split
  · exact dob_lt (dtl_lt hB x L)
  · exact dcl_lt B R L x 8
end
section
set_option maxHeartbeats 4000000 in
set_option maxRecDepth 100000 in
theorem c_MO_pixel (l : Launch) (D : va_G) (k : Nat → ClassId) (q : Nat → Nat) (cd : Int32) (wd : Nat → Nat) (se : Nat → Nat) (kd : Nat → Nat) (bn : Nat → Int32) (sh : Nat → Nat) (mb : Nat → Nat) (pr : Nat) (B : Nat → Nat) (R : Nat → Nat) (sx : Nat) (pt : Nat) (rd : Nat) (wt : Int32) (ln : Nat) (px : Nat → Nat) (x y : Nat) (hx9 : x < 64) (hy9 : y < 32) : rw_i l y_MO_pixel b_MO_pixel 3 (some .int) { frames := 1, cells := 0, slots := 0, locals := 22 } D (kT k) (mW q k cd wd se kd bn sh mb pr B R sx pt rd wt ln px) [.ref (q 0), .int (nI x), .int (nI y)] (fun (r : Int32) (_ : Unit) => r = nI (px (64 * y + x))) (fun (_ : Unit) => (mW q k (nI 0) wd se kd bn sh mb pr B R sx pt rd wt ln px)) := by
  refine rw_headi (by decide) (Nat.le_of_ble_eq_true rfl) ?_
  intro p e s m below meth c ls A hx hb hr hlocks hml hown hts hK hA hP hD hS hl
  have hown : s.vm.findClass "SlotScreenModel" = some m.cls := hown
  have hl : lv_has ls 3 [(0, .ref (q 0)), (1, .int (nI x)), (2, .int (nI y))] := hl
  refine lv_aload_n hx hb d_MO_pixel_0 rfl (lv_at hl 0 rfl) ?_
  refine lv_iconst (v := nI 0) hx hb d_MO_pixel_1 (by decide +kernel) ?_
  refine va_put (D := D) (ci := 7) (v := .int (nI 0)) (ty := .int) (C := R_MO) (T := T_MO) (N := 16) hx hb hts in_MO t_MO o_MO n_MO hown hK hP hD hS 0 rfl rfl 0 (by decide) (hts _ w_530) (fun _ h9 => h9) rfl (by decide +kernel) rfl rfl (Nat.le_of_ble_eq_true rfl) d_MO_pixel_2 (fun H locs hP hD hS => ?_)
  have hP : va_P D vwCl (mW q k (nI 0) wd se kd bn sh mb pr B R sx pt rd wt ln px) H := hP
  have hD : va_D A (mW q k (nI 0) wd se kd bn sh mb pr B R sx pt rd wt ln px) := hD
  refine lv_iload_n hx hb d_MO_pixel_5 rfl (lv_at hl 1 rfl) ?_
  refine lv_iconst (v := nI 0) hx hb d_MO_pixel_6 (by decide +kernel) ?_
  refine lv_bipush (v := nI 63) hx hb d_MO_pixel_7 (by decide +kernel) ?_
  refine kr_iS (As := [.int (nI x), .int (nI 0), .int (nI 63)]) (rest := []) ⟨hx, hb, hml, hown, hts⟩ (c_MO_within l D k x 0 63 (by omega) (by omega) (by omega)) (va_cwS 3 hts (gS w_587 w_588 w_5 w_589) rfl rfl rfl (by decide +kernel) ⟨Nat.le_of_ble_eq_true rfl, Nat.le_of_ble_eq_true rfl⟩) hK va_nil rfl hl.1 rfl (Nat.le_of_ble_eq_true rfl) d_MO_pixel_9 ⟨Nat.zero_le _, Nat.zero_le _⟩ ?_
  refine lv_if_eq (tgt := 39) hx hb d_MO_pixel_12 (by decide) (fun c1 => ?_) (fun c1 => ?_)
  · have c1 := (bI_0).mp c1
    exfalso; omega
  · have c1 := mt (bI_0).mpr c1
    have c1 := Classical.not_not.mp c1
    refine lv_iload_n hx hb d_MO_pixel_15 rfl (lv_at hl 2 rfl) ?_
    refine lv_iconst (v := nI 0) hx hb d_MO_pixel_16 (by decide +kernel) ?_
    refine lv_bipush (v := nI 31) hx hb d_MO_pixel_17 (by decide +kernel) ?_
    refine kr_iS (As := [.int (nI y), .int (nI 0), .int (nI 31)]) (rest := []) ⟨hx, hb, hml, hown, hts⟩ (c_MO_within l D k y 0 31 (by omega) (by omega) (by omega)) (va_cwS 3 hts (gS w_587 w_588 w_5 w_589) rfl rfl rfl (by decide +kernel) ⟨Nat.le_of_ble_eq_true rfl, Nat.le_of_ble_eq_true rfl⟩) hK va_nil rfl hl.1 rfl (Nat.le_of_ble_eq_true rfl) d_MO_pixel_19 ⟨Nat.zero_le _, Nat.zero_le _⟩ ?_
    refine lv_if_eq (tgt := 39) hx hb d_MO_pixel_22 (by decide) (fun c2 => ?_) (fun c2 => ?_)
    · have c2 := (bI_0).mp c2
      exfalso; omega
    · have c2 := mt (bI_0).mpr c2
      have c2 := Classical.not_not.mp c2
      refine lv_aload_n hx hb d_MO_pixel_25 rfl (lv_at hl 0 rfl) ?_
      refine va_get (D := D) (ci := 7) (v := .ref (q 9)) (C := R_MO) (T := T_MO) (N := 16) hx hb hts in_MO hown hK hP 0 rfl rfl 15 (by decide) (hts _ w_545) (fun _ h9 => h9) rfl d_MO_pixel_26 ?_
      refine lv_bipush (v := nI 64) hx hb d_MO_pixel_29 (by decide +kernel) ?_
      refine lv_iload_n hx hb d_MO_pixel_31 rfl (lv_at hl 2 rfl) ?_
      refine lv_imul hx hb d_MO_pixel_32 ?_
      refine ss_rt (y := nI (64 * y)) (pk_mul _ _) ?_
      refine lv_iload_n hx hb d_MO_pixel_33 rfl (lv_at hl 1 rfl) ?_
      refine lv_iadd hx hb d_MO_pixel_34 ?_
      refine ss_rt (y := nI (64 * y + x)) (nI_add _ _) ?_
      refine va_iald hx hb hK hP 9 0 rfl rfl (vp_in_nI (by omega) (by omega)) d_MO_pixel_35 ?_
      refine ss_rt (y := nI (px (64 * y + x))) (congrArg (fun z => nI (px z)) (nI_clamp (by omega))) ?_
      refine lv_goto (tgt := 40) hx hb d_MO_pixel_36 (by decide) ?_
      exact rw_reti hx hb hr hlocks d_MO_pixel_40 hS () (rfl) hP
set_option maxHeartbeats 4000000 in
set_option maxRecDepth 100000 in
theorem c_MO_pixelb (l : Launch) (D : va_G) (k : Nat → ClassId) (q : Nat → Nat) (cd : Int32) (wd : Nat → Nat) (se : Nat → Nat) (kd : Nat → Nat) (bn : Nat → Int32) (sh : Nat → Nat) (mb : Nat → Nat) (pr : Nat) (B : Nat → Nat) (R : Nat → Nat) (sx : Nat) (pt : Nat) (rd : Nat) (wt : Int32) (ln : Nat) (px : Nat → Nat) (x y : Int32) (hx9 : ¬ (0 ≤ x.toInt ∧ x.toInt ≤ 63 ∧ 0 ≤ y.toInt ∧ y.toInt ≤ 31)) : rw_i l y_MO_pixel b_MO_pixel 3 (some .int) { frames := 1, cells := 0, slots := 0, locals := 22 } D (kT k) (mW q k cd wd se kd bn sh mb pr B R sx pt rd wt ln px) [.ref (q 0), .int x, .int y] (fun (r : Int32) (_ : Unit) => r = (-1)) (fun (_ : Unit) => (mW q k (nI 0) wd se kd bn sh mb pr B R sx pt rd wt ln px)) := by
  refine rw_headi (by decide) (Nat.le_of_ble_eq_true rfl) ?_
  intro p e s m below meth c ls A hx hb hr hlocks hml hown hts hK hA hP hD hS hl
  have hown : s.vm.findClass "SlotScreenModel" = some m.cls := hown
  have hl : lv_has ls 3 [(0, .ref (q 0)), (1, .int x), (2, .int y)] := hl
  refine lv_aload_n hx hb d_MO_pixel_0 rfl (lv_at hl 0 rfl) ?_
  refine lv_iconst (v := nI 0) hx hb d_MO_pixel_1 (by decide +kernel) ?_
  refine va_put (D := D) (ci := 7) (v := .int (nI 0)) (ty := .int) (C := R_MO) (T := T_MO) (N := 16) hx hb hts in_MO t_MO o_MO n_MO hown hK hP hD hS 0 rfl rfl 0 (by decide) (hts _ w_530) (fun _ h9 => h9) rfl (by decide +kernel) rfl rfl (Nat.le_of_ble_eq_true rfl) d_MO_pixel_2 (fun H locs hP hD hS => ?_)
  have hP : va_P D vwCl (mW q k (nI 0) wd se kd bn sh mb pr B R sx pt rd wt ln px) H := hP
  have hD : va_D A (mW q k (nI 0) wd se kd bn sh mb pr B R sx pt rd wt ln px) := hD
  refine lv_iload_n hx hb d_MO_pixel_5 rfl (lv_at hl 1 rfl) ?_
  refine lv_iconst (v := nI 0) hx hb d_MO_pixel_6 (by decide +kernel) ?_
  refine lv_bipush (v := nI 63) hx hb d_MO_pixel_7 (by decide +kernel) ?_
  refine kr_iS (As := [.int x, .int (nI 0), .int (nI 63)]) (rest := []) ⟨hx, hb, hml, hown, hts⟩ (c_MO_withinZ l D k x 0 63 (by omega) (by omega)) (va_cwS 3 hts (gS w_587 w_588 w_5 w_589) rfl rfl rfl (by decide +kernel) ⟨Nat.le_of_ble_eq_true rfl, Nat.le_of_ble_eq_true rfl⟩) hK va_nil rfl hl.1 rfl (Nat.le_of_ble_eq_true rfl) d_MO_pixel_9 ⟨Nat.zero_le _, Nat.zero_le _⟩ ?_
  refine lv_if_eq (tgt := 39) hx hb d_MO_pixel_12 (by decide) (fun c1 => ?_) (fun c1 => ?_)
  · have c1 := (bI_0).mp c1
    refine lv_iconst (v := (-1)) hx hb d_MO_pixel_39 (by decide +kernel) ?_
    exact rw_reti hx hb hr hlocks d_MO_pixel_40 hS () (rfl) hP
  · have c1 := mt (bI_0).mpr c1
    have c1 := Classical.not_not.mp c1
    refine lv_iload_n hx hb d_MO_pixel_15 rfl (lv_at hl 2 rfl) ?_
    refine lv_iconst (v := nI 0) hx hb d_MO_pixel_16 (by decide +kernel) ?_
    refine lv_bipush (v := nI 31) hx hb d_MO_pixel_17 (by decide +kernel) ?_
    refine kr_iS (As := [.int y, .int (nI 0), .int (nI 31)]) (rest := []) ⟨hx, hb, hml, hown, hts⟩ (c_MO_withinZ l D k y 0 31 (by omega) (by omega)) (va_cwS 3 hts (gS w_587 w_588 w_5 w_589) rfl rfl rfl (by decide +kernel) ⟨Nat.le_of_ble_eq_true rfl, Nat.le_of_ble_eq_true rfl⟩) hK va_nil rfl hl.1 rfl (Nat.le_of_ble_eq_true rfl) d_MO_pixel_19 ⟨Nat.zero_le _, Nat.zero_le _⟩ ?_
    refine lv_if_eq (tgt := 39) hx hb d_MO_pixel_22 (by decide) (fun c2 => ?_) (fun c2 => ?_)
    · have c2 := (bI_0).mp c2
      refine lv_iconst (v := (-1)) hx hb d_MO_pixel_39 (by decide +kernel) ?_
      exact rw_reti hx hb hr hlocks d_MO_pixel_40 hS () (rfl) hP
    · have c2 := mt (bI_0).mpr c2
      have c2 := Classical.not_not.mp c2
      exfalso; omega
set_option maxHeartbeats 4000000 in
set_option maxRecDepth 100000 in
theorem c_MO_video (l : Launch) (D : va_G) (k : Nat → ClassId) (q : Nat → Nat) (cd : Int32) (wd : Nat → Nat) (se : Nat → Nat) (kd : Nat → Nat) (bn : Nat → Int32) (sh : Nat → Nat) (mb : Nat → Nat) (pr : Nat) (B : Nat → Nat) (R : Nat → Nat) (sx : Nat) (pt : Nat) (rd : Nat) (wt : Int32) (ln : Nat) (px : Nat → Nat) (x : Nat) (hx9 : x < 512) : rw_i l y_MO_video b_MO_video 2 (some .int) { frames := 1, cells := 0, slots := 0, locals := 22 } D (kT k) (mW q k cd wd se kd bn sh mb pr B R sx pt rd wt ln px) [.ref (q 0), .int (nI x)] (fun (r : Int32) (_ : Unit) => r = nI (B x)) (fun (_ : Unit) => (mW q k (nI 0) wd se kd bn sh mb pr B R sx pt rd wt ln px)) := by
  refine rw_headi (by decide) (Nat.le_of_ble_eq_true rfl) ?_
  intro p e s m below meth c ls A hx hb hr hlocks hml hown hts hK hA hP hD hS hl
  have hown : s.vm.findClass "SlotScreenModel" = some m.cls := hown
  have hl : lv_has ls 2 [(0, .ref (q 0)), (1, .int (nI x))] := hl
  refine lv_aload_n hx hb d_MO_video_0 rfl (lv_at hl 0 rfl) ?_
  refine lv_iconst (v := nI 0) hx hb d_MO_video_1 (by decide +kernel) ?_
  refine va_put (D := D) (ci := 7) (v := .int (nI 0)) (ty := .int) (C := R_MO) (T := T_MO) (N := 16) hx hb hts in_MO t_MO o_MO n_MO hown hK hP hD hS 0 rfl rfl 0 (by decide) (hts _ w_530) (fun _ h9 => h9) rfl (by decide +kernel) rfl rfl (Nat.le_of_ble_eq_true rfl) d_MO_video_2 (fun H locs hP hD hS => ?_)
  have hP : va_P D vwCl (mW q k (nI 0) wd se kd bn sh mb pr B R sx pt rd wt ln px) H := hP
  have hD : va_D A (mW q k (nI 0) wd se kd bn sh mb pr B R sx pt rd wt ln px) := hD
  refine lv_iload_n hx hb d_MO_video_5 rfl (lv_at hl 1 rfl) ?_
  refine lv_iconst (v := nI 0) hx hb d_MO_video_6 (by decide +kernel) ?_
  refine lv_sipush (v := nI 511) hx hb d_MO_video_7 (by decide +kernel) ?_
  refine kr_iS (As := [.int (nI x), .int (nI 0), .int (nI 511)]) (rest := []) ⟨hx, hb, hml, hown, hts⟩ (c_MO_within l D k x 0 511 (by omega) (by omega) (by omega)) (va_cwS 3 hts (gS w_587 w_588 w_5 w_589) rfl rfl rfl (by decide +kernel) ⟨Nat.le_of_ble_eq_true rfl, Nat.le_of_ble_eq_true rfl⟩) hK va_nil rfl hl.1 rfl (Nat.le_of_ble_eq_true rfl) d_MO_video_10 ⟨Nat.zero_le _, Nat.zero_le _⟩ ?_
  refine lv_if_eq (tgt := 25) hx hb d_MO_video_13 (by decide) (fun c1 => ?_) (fun c1 => ?_)
  · have c1 := (bI_0).mp c1
    exfalso; omega
  · have c1 := mt (bI_0).mpr c1
    have c1 := Classical.not_not.mp c1
    refine lv_aload_n hx hb d_MO_video_16 rfl (lv_at hl 0 rfl) ?_
    refine va_get (D := D) (ci := 7) (v := .ref (q 7)) (C := R_MO) (T := T_MO) (N := 16) hx hb hts in_MO hown hK hP 0 rfl rfl 8 (by decide) (hts _ w_538) (fun _ h9 => h9) rfl d_MO_video_17 ?_
    refine lv_iload_n hx hb d_MO_video_20 rfl (lv_at hl 1 rfl) ?_
    refine va_iald hx hb hK hP 7 0 rfl rfl (vp_in_nI (by omega) (by omega)) d_MO_video_21 ?_
    refine ss_rt (y := nI (B x)) (congrArg (fun z => nI (B z)) (nI_clamp (by omega))) ?_
    refine lv_goto (tgt := 26) hx hb d_MO_video_22 (by decide) ?_
    exact rw_reti hx hb hr hlocks d_MO_video_26 hS () (rfl) hP
set_option maxHeartbeats 4000000 in
set_option maxRecDepth 100000 in
theorem c_MO_videob (l : Launch) (D : va_G) (k : Nat → ClassId) (q : Nat → Nat) (cd : Int32) (wd : Nat → Nat) (se : Nat → Nat) (kd : Nat → Nat) (bn : Nat → Int32) (sh : Nat → Nat) (mb : Nat → Nat) (pr : Nat) (B : Nat → Nat) (R : Nat → Nat) (sx : Nat) (pt : Nat) (rd : Nat) (wt : Int32) (ln : Nat) (px : Nat → Nat) (x : Int32) (hx9 : ¬ (0 ≤ x.toInt ∧ x.toInt ≤ 511)) : rw_i l y_MO_video b_MO_video 2 (some .int) { frames := 1, cells := 0, slots := 0, locals := 22 } D (kT k) (mW q k cd wd se kd bn sh mb pr B R sx pt rd wt ln px) [.ref (q 0), .int x] (fun (r : Int32) (_ : Unit) => r = (-1)) (fun (_ : Unit) => (mW q k (nI 0) wd se kd bn sh mb pr B R sx pt rd wt ln px)) := by
  refine rw_headi (by decide) (Nat.le_of_ble_eq_true rfl) ?_
  intro p e s m below meth c ls A hx hb hr hlocks hml hown hts hK hA hP hD hS hl
  have hown : s.vm.findClass "SlotScreenModel" = some m.cls := hown
  have hl : lv_has ls 2 [(0, .ref (q 0)), (1, .int x)] := hl
  refine lv_aload_n hx hb d_MO_video_0 rfl (lv_at hl 0 rfl) ?_
  refine lv_iconst (v := nI 0) hx hb d_MO_video_1 (by decide +kernel) ?_
  refine va_put (D := D) (ci := 7) (v := .int (nI 0)) (ty := .int) (C := R_MO) (T := T_MO) (N := 16) hx hb hts in_MO t_MO o_MO n_MO hown hK hP hD hS 0 rfl rfl 0 (by decide) (hts _ w_530) (fun _ h9 => h9) rfl (by decide +kernel) rfl rfl (Nat.le_of_ble_eq_true rfl) d_MO_video_2 (fun H locs hP hD hS => ?_)
  have hP : va_P D vwCl (mW q k (nI 0) wd se kd bn sh mb pr B R sx pt rd wt ln px) H := hP
  have hD : va_D A (mW q k (nI 0) wd se kd bn sh mb pr B R sx pt rd wt ln px) := hD
  refine lv_iload_n hx hb d_MO_video_5 rfl (lv_at hl 1 rfl) ?_
  refine lv_iconst (v := nI 0) hx hb d_MO_video_6 (by decide +kernel) ?_
  refine lv_sipush (v := nI 511) hx hb d_MO_video_7 (by decide +kernel) ?_
  refine kr_iS (As := [.int x, .int (nI 0), .int (nI 511)]) (rest := []) ⟨hx, hb, hml, hown, hts⟩ (c_MO_withinZ l D k x 0 511 (by omega) (by omega)) (va_cwS 3 hts (gS w_587 w_588 w_5 w_589) rfl rfl rfl (by decide +kernel) ⟨Nat.le_of_ble_eq_true rfl, Nat.le_of_ble_eq_true rfl⟩) hK va_nil rfl hl.1 rfl (Nat.le_of_ble_eq_true rfl) d_MO_video_10 ⟨Nat.zero_le _, Nat.zero_le _⟩ ?_
  refine lv_if_eq (tgt := 25) hx hb d_MO_video_13 (by decide) (fun c1 => ?_) (fun c1 => ?_)
  · have c1 := (bI_0).mp c1
    refine lv_iconst (v := (-1)) hx hb d_MO_video_25 (by decide +kernel) ?_
    exact rw_reti hx hb hr hlocks d_MO_video_26 hS () (rfl) hP
  · have c1 := mt (bI_0).mpr c1
    have c1 := Classical.not_not.mp c1
    exfalso; omega
set_option maxHeartbeats 4000000 in
set_option maxRecDepth 100000 in
theorem c_MO_chipr (l : Launch) (D : va_G) (k : Nat → ClassId) (q : Nat → Nat) (cd : Int32) (wd : Nat → Nat) (se : Nat → Nat) (kd : Nat → Nat) (bn : Nat → Int32) (sh : Nat → Nat) (mb : Nat → Nat) (pr : Nat) (B : Nat → Nat) (R : Nat → Nat) (sx : Nat) (pt : Nat) (rd : Nat) (wt : Int32) (ln : Nat) (px : Nat → Nat) (x : Nat) (hx9 : x < 8) : rw_i l y_MO_chip b_MO_chip 2 (some .int) { frames := 1, cells := 0, slots := 0, locals := 22 } D (kT k) (mW q k cd wd se kd bn sh mb pr B R sx pt rd wt ln px) [.ref (q 0), .int (nI x)] (fun (r : Int32) (_ : Unit) => r = nI (R x)) (fun (_ : Unit) => (mW q k (nI 0) wd se kd bn sh mb pr B R sx pt rd wt ln px)) := by
  refine rw_headi (by decide) (Nat.le_of_ble_eq_true rfl) ?_
  intro p e s m below meth c ls A hx hb hr hlocks hml hown hts hK hA hP hD hS hl
  have hown : s.vm.findClass "SlotScreenModel" = some m.cls := hown
  have hl : lv_has ls 2 [(0, .ref (q 0)), (1, .int (nI x))] := hl
  refine lv_aload_n hx hb d_MO_chip_0 rfl (lv_at hl 0 rfl) ?_
  refine lv_iconst (v := nI 0) hx hb d_MO_chip_1 (by decide +kernel) ?_
  refine va_put (D := D) (ci := 7) (v := .int (nI 0)) (ty := .int) (C := R_MO) (T := T_MO) (N := 16) hx hb hts in_MO t_MO o_MO n_MO hown hK hP hD hS 0 rfl rfl 0 (by decide) (hts _ w_530) (fun _ h9 => h9) rfl (by decide +kernel) rfl rfl (Nat.le_of_ble_eq_true rfl) d_MO_chip_2 (fun H locs hP hD hS => ?_)
  have hP : va_P D vwCl (mW q k (nI 0) wd se kd bn sh mb pr B R sx pt rd wt ln px) H := hP
  have hD : va_D A (mW q k (nI 0) wd se kd bn sh mb pr B R sx pt rd wt ln px) := hD
  refine lv_iload_n hx hb d_MO_chip_5 rfl (lv_at hl 1 rfl) ?_
  refine lv_iconst (v := nI 0) hx hb d_MO_chip_6 (by decide +kernel) ?_
  refine lv_bipush (v := nI 7) hx hb d_MO_chip_7 (by decide +kernel) ?_
  refine kr_iS (As := [.int (nI x), .int (nI 0), .int (nI 7)]) (rest := []) ⟨hx, hb, hml, hown, hts⟩ (c_MO_within l D k x 0 7 (by omega) (by omega) (by omega)) (va_cwS 3 hts (gS w_587 w_588 w_5 w_589) rfl rfl rfl (by decide +kernel) ⟨Nat.le_of_ble_eq_true rfl, Nat.le_of_ble_eq_true rfl⟩) hK va_nil rfl hl.1 rfl (Nat.le_of_ble_eq_true rfl) d_MO_chip_9 ⟨Nat.zero_le _, Nat.zero_le _⟩ ?_
  refine lv_if_eq (tgt := 22) hx hb d_MO_chip_12 (by decide) (fun c1 => ?_) (fun c1 => ?_)
  · have c1 := (bI_0).mp c1
    exfalso; omega
  · have c1 := mt (bI_0).mpr c1
    have c1 := Classical.not_not.mp c1
    refine lv_aload_n hx hb d_MO_chip_15 rfl (lv_at hl 0 rfl) ?_
    refine va_get (D := D) (ci := 7) (v := .ref (q 8)) (C := R_MO) (T := T_MO) (N := 16) hx hb hts in_MO hown hK hP 0 rfl rfl 9 (by decide) (hts _ w_539) (fun _ h9 => h9) rfl d_MO_chip_16 ?_
    refine lv_iload_n hx hb d_MO_chip_19 rfl (lv_at hl 1 rfl) ?_
    refine va_iald hx hb hK hP 8 0 rfl rfl (vp_in_nI (by omega) (by omega)) d_MO_chip_20 ?_
    refine ss_rt (y := nI (R x)) (congrArg (fun z => nI (R z)) (nI_clamp (by omega))) ?_
    exact rw_reti hx hb hr hlocks d_MO_chip_21 hS () (rfl) hP
set_option maxHeartbeats 4000000 in
set_option maxRecDepth 100000 in
theorem c_MO_chip8 (l : Launch) (D : va_G) (k : Nat → ClassId) (q : Nat → Nat) (cd : Int32) (wd : Nat → Nat) (se : Nat → Nat) (kd : Nat → Nat) (bn : Nat → Int32) (sh : Nat → Nat) (mb : Nat → Nat) (pr : Nat) (B : Nat → Nat) (R : Nat → Nat) (sx : Nat) (pt : Nat) (rd : Nat) (wt : Int32) (ln : Nat) (px : Nat → Nat) : rw_i l y_MO_chip b_MO_chip 2 (some .int) { frames := 1, cells := 0, slots := 0, locals := 22 } D (kT k) (mW q k cd wd se kd bn sh mb pr B R sx pt rd wt ln px) [.ref (q 0), .int (nI 8)] (fun (r : Int32) (_ : Unit) => r = nI sx) (fun (_ : Unit) => (mW q k (nI 0) wd se kd bn sh mb pr B R sx pt rd wt ln px)) := by
  refine rw_headi (by decide) (Nat.le_of_ble_eq_true rfl) ?_
  intro p e s m below meth c ls A hx hb hr hlocks hml hown hts hK hA hP hD hS hl
  have hown : s.vm.findClass "SlotScreenModel" = some m.cls := hown
  have hl : lv_has ls 2 [(0, .ref (q 0)), (1, .int (nI 8))] := hl
  refine lv_aload_n hx hb d_MO_chip_0 rfl (lv_at hl 0 rfl) ?_
  refine lv_iconst (v := nI 0) hx hb d_MO_chip_1 (by decide +kernel) ?_
  refine va_put (D := D) (ci := 7) (v := .int (nI 0)) (ty := .int) (C := R_MO) (T := T_MO) (N := 16) hx hb hts in_MO t_MO o_MO n_MO hown hK hP hD hS 0 rfl rfl 0 (by decide) (hts _ w_530) (fun _ h9 => h9) rfl (by decide +kernel) rfl rfl (Nat.le_of_ble_eq_true rfl) d_MO_chip_2 (fun H locs hP hD hS => ?_)
  have hP : va_P D vwCl (mW q k (nI 0) wd se kd bn sh mb pr B R sx pt rd wt ln px) H := hP
  have hD : va_D A (mW q k (nI 0) wd se kd bn sh mb pr B R sx pt rd wt ln px) := hD
  refine lv_iload_n hx hb d_MO_chip_5 rfl (lv_at hl 1 rfl) ?_
  refine lv_iconst (v := nI 0) hx hb d_MO_chip_6 (by decide +kernel) ?_
  refine lv_bipush (v := nI 7) hx hb d_MO_chip_7 (by decide +kernel) ?_
  refine kr_iS (As := [.int (nI 8), .int (nI 0), .int (nI 7)]) (rest := []) ⟨hx, hb, hml, hown, hts⟩ (c_MO_within l D k 8 0 7 (by omega) (by omega) (by omega)) (va_cwS 3 hts (gS w_587 w_588 w_5 w_589) rfl rfl rfl (by decide +kernel) ⟨Nat.le_of_ble_eq_true rfl, Nat.le_of_ble_eq_true rfl⟩) hK va_nil rfl hl.1 rfl (Nat.le_of_ble_eq_true rfl) d_MO_chip_9 ⟨Nat.zero_le _, Nat.zero_le _⟩ ?_
  refine lv_if_eq (tgt := 22) hx hb d_MO_chip_12 (by decide) (fun c1 => ?_) (fun c1 => ?_)
  · have c1 := (bI_0).mp c1
    refine lv_iload_n hx hb d_MO_chip_22 rfl (lv_at hl 1 rfl) ?_
    refine lv_bipush (v := nI 8) hx hb d_MO_chip_23 (by decide +kernel) ?_
    refine lv_icmp_ne (tgt := 35) hx hb d_MO_chip_25 (by decide) (fun c2 => ?_) (fun c2 => ?_)
    · have c2 := mt (nI_eq (by omega) (by omega)).mpr c2
      exfalso; omega
    · have c2 := (nI_eq (by omega) (by omega)).mp c2
      refine lv_aload_n hx hb d_MO_chip_28 rfl (lv_at hl 0 rfl) ?_
      refine va_get (D := D) (ci := 7) (v := .int (nI sx)) (C := R_MO) (T := T_MO) (N := 16) hx hb hts in_MO hown hK hP 0 rfl rfl 10 (by decide) (hts _ w_540) (fun _ h9 => h9) rfl d_MO_chip_29 ?_
      refine lv_goto (tgt := 75) hx hb d_MO_chip_32 (by decide) ?_
      exact rw_reti hx hb hr hlocks d_MO_chip_75 hS () (rfl) hP
  · have c1 := mt (bI_0).mpr c1
    have c1 := Classical.not_not.mp c1
    exfalso; omega
set_option maxHeartbeats 4000000 in
set_option maxRecDepth 100000 in
theorem c_MO_chip9 (l : Launch) (D : va_G) (k : Nat → ClassId) (q : Nat → Nat) (cd : Int32) (wd : Nat → Nat) (se : Nat → Nat) (kd : Nat → Nat) (bn : Nat → Int32) (sh : Nat → Nat) (mb : Nat → Nat) (pr : Nat) (B : Nat → Nat) (R : Nat → Nat) (sx : Nat) (pt : Nat) (rd : Nat) (wt : Int32) (ln : Nat) (px : Nat → Nat) : rw_i l y_MO_chip b_MO_chip 2 (some .int) { frames := 1, cells := 0, slots := 0, locals := 22 } D (kT k) (mW q k cd wd se kd bn sh mb pr B R sx pt rd wt ln px) [.ref (q 0), .int (nI 9)] (fun (r : Int32) (_ : Unit) => r = nI pt) (fun (_ : Unit) => (mW q k (nI 0) wd se kd bn sh mb pr B R sx pt rd wt ln px)) := by
  refine rw_headi (by decide) (Nat.le_of_ble_eq_true rfl) ?_
  intro p e s m below meth c ls A hx hb hr hlocks hml hown hts hK hA hP hD hS hl
  have hown : s.vm.findClass "SlotScreenModel" = some m.cls := hown
  have hl : lv_has ls 2 [(0, .ref (q 0)), (1, .int (nI 9))] := hl
  refine lv_aload_n hx hb d_MO_chip_0 rfl (lv_at hl 0 rfl) ?_
  refine lv_iconst (v := nI 0) hx hb d_MO_chip_1 (by decide +kernel) ?_
  refine va_put (D := D) (ci := 7) (v := .int (nI 0)) (ty := .int) (C := R_MO) (T := T_MO) (N := 16) hx hb hts in_MO t_MO o_MO n_MO hown hK hP hD hS 0 rfl rfl 0 (by decide) (hts _ w_530) (fun _ h9 => h9) rfl (by decide +kernel) rfl rfl (Nat.le_of_ble_eq_true rfl) d_MO_chip_2 (fun H locs hP hD hS => ?_)
  have hP : va_P D vwCl (mW q k (nI 0) wd se kd bn sh mb pr B R sx pt rd wt ln px) H := hP
  have hD : va_D A (mW q k (nI 0) wd se kd bn sh mb pr B R sx pt rd wt ln px) := hD
  refine lv_iload_n hx hb d_MO_chip_5 rfl (lv_at hl 1 rfl) ?_
  refine lv_iconst (v := nI 0) hx hb d_MO_chip_6 (by decide +kernel) ?_
  refine lv_bipush (v := nI 7) hx hb d_MO_chip_7 (by decide +kernel) ?_
  refine kr_iS (As := [.int (nI 9), .int (nI 0), .int (nI 7)]) (rest := []) ⟨hx, hb, hml, hown, hts⟩ (c_MO_within l D k 9 0 7 (by omega) (by omega) (by omega)) (va_cwS 3 hts (gS w_587 w_588 w_5 w_589) rfl rfl rfl (by decide +kernel) ⟨Nat.le_of_ble_eq_true rfl, Nat.le_of_ble_eq_true rfl⟩) hK va_nil rfl hl.1 rfl (Nat.le_of_ble_eq_true rfl) d_MO_chip_9 ⟨Nat.zero_le _, Nat.zero_le _⟩ ?_
  refine lv_if_eq (tgt := 22) hx hb d_MO_chip_12 (by decide) (fun c1 => ?_) (fun c1 => ?_)
  · have c1 := (bI_0).mp c1
    refine lv_iload_n hx hb d_MO_chip_22 rfl (lv_at hl 1 rfl) ?_
    refine lv_bipush (v := nI 8) hx hb d_MO_chip_23 (by decide +kernel) ?_
    refine lv_icmp_ne (tgt := 35) hx hb d_MO_chip_25 (by decide) (fun c2 => ?_) (fun c2 => ?_)
    · have c2 := mt (nI_eq (by omega) (by omega)).mpr c2
      refine lv_iload_n hx hb d_MO_chip_35 rfl (lv_at hl 1 rfl) ?_
      refine lv_bipush (v := nI 9) hx hb d_MO_chip_36 (by decide +kernel) ?_
      refine lv_icmp_ne (tgt := 48) hx hb d_MO_chip_38 (by decide) (fun c3 => ?_) (fun c3 => ?_)
      · have c3 := mt (nI_eq (by omega) (by omega)).mpr c3
        exfalso; omega
      · have c3 := (nI_eq (by omega) (by omega)).mp c3
        refine lv_aload_n hx hb d_MO_chip_41 rfl (lv_at hl 0 rfl) ?_
        refine va_get (D := D) (ci := 7) (v := .int (nI pt)) (C := R_MO) (T := T_MO) (N := 16) hx hb hts in_MO hown hK hP 0 rfl rfl 11 (by decide) (hts _ w_541) (fun _ h9 => h9) rfl d_MO_chip_42 ?_
        refine lv_goto (tgt := 75) hx hb d_MO_chip_45 (by decide) ?_
        exact rw_reti hx hb hr hlocks d_MO_chip_75 hS () (rfl) hP
    · have c2 := (nI_eq (by omega) (by omega)).mp c2
      exfalso; omega
  · have c1 := mt (bI_0).mpr c1
    have c1 := Classical.not_not.mp c1
    exfalso; omega
set_option maxHeartbeats 4000000 in
set_option maxRecDepth 100000 in
theorem c_MO_chip10 (l : Launch) (D : va_G) (k : Nat → ClassId) (q : Nat → Nat) (cd : Int32) (wd : Nat → Nat) (se : Nat → Nat) (kd : Nat → Nat) (bn : Nat → Int32) (sh : Nat → Nat) (mb : Nat → Nat) (pr : Nat) (B : Nat → Nat) (R : Nat → Nat) (sx : Nat) (pt : Nat) (rd : Nat) (wt : Int32) (ln : Nat) (px : Nat → Nat) : rw_i l y_MO_chip b_MO_chip 2 (some .int) { frames := 1, cells := 0, slots := 0, locals := 22 } D (kT k) (mW q k cd wd se kd bn sh mb pr B R sx pt rd wt ln px) [.ref (q 0), .int (nI 10)] (fun (r : Int32) (_ : Unit) => r = nI rd) (fun (_ : Unit) => (mW q k (nI 0) wd se kd bn sh mb pr B R sx pt rd wt ln px)) := by
  refine rw_headi (by decide) (Nat.le_of_ble_eq_true rfl) ?_
  intro p e s m below meth c ls A hx hb hr hlocks hml hown hts hK hA hP hD hS hl
  have hown : s.vm.findClass "SlotScreenModel" = some m.cls := hown
  have hl : lv_has ls 2 [(0, .ref (q 0)), (1, .int (nI 10))] := hl
  refine lv_aload_n hx hb d_MO_chip_0 rfl (lv_at hl 0 rfl) ?_
  refine lv_iconst (v := nI 0) hx hb d_MO_chip_1 (by decide +kernel) ?_
  refine va_put (D := D) (ci := 7) (v := .int (nI 0)) (ty := .int) (C := R_MO) (T := T_MO) (N := 16) hx hb hts in_MO t_MO o_MO n_MO hown hK hP hD hS 0 rfl rfl 0 (by decide) (hts _ w_530) (fun _ h9 => h9) rfl (by decide +kernel) rfl rfl (Nat.le_of_ble_eq_true rfl) d_MO_chip_2 (fun H locs hP hD hS => ?_)
  have hP : va_P D vwCl (mW q k (nI 0) wd se kd bn sh mb pr B R sx pt rd wt ln px) H := hP
  have hD : va_D A (mW q k (nI 0) wd se kd bn sh mb pr B R sx pt rd wt ln px) := hD
  refine lv_iload_n hx hb d_MO_chip_5 rfl (lv_at hl 1 rfl) ?_
  refine lv_iconst (v := nI 0) hx hb d_MO_chip_6 (by decide +kernel) ?_
  refine lv_bipush (v := nI 7) hx hb d_MO_chip_7 (by decide +kernel) ?_
  refine kr_iS (As := [.int (nI 10), .int (nI 0), .int (nI 7)]) (rest := []) ⟨hx, hb, hml, hown, hts⟩ (c_MO_within l D k 10 0 7 (by omega) (by omega) (by omega)) (va_cwS 3 hts (gS w_587 w_588 w_5 w_589) rfl rfl rfl (by decide +kernel) ⟨Nat.le_of_ble_eq_true rfl, Nat.le_of_ble_eq_true rfl⟩) hK va_nil rfl hl.1 rfl (Nat.le_of_ble_eq_true rfl) d_MO_chip_9 ⟨Nat.zero_le _, Nat.zero_le _⟩ ?_
  refine lv_if_eq (tgt := 22) hx hb d_MO_chip_12 (by decide) (fun c1 => ?_) (fun c1 => ?_)
  · have c1 := (bI_0).mp c1
    refine lv_iload_n hx hb d_MO_chip_22 rfl (lv_at hl 1 rfl) ?_
    refine lv_bipush (v := nI 8) hx hb d_MO_chip_23 (by decide +kernel) ?_
    refine lv_icmp_ne (tgt := 35) hx hb d_MO_chip_25 (by decide) (fun c2 => ?_) (fun c2 => ?_)
    · have c2 := mt (nI_eq (by omega) (by omega)).mpr c2
      refine lv_iload_n hx hb d_MO_chip_35 rfl (lv_at hl 1 rfl) ?_
      refine lv_bipush (v := nI 9) hx hb d_MO_chip_36 (by decide +kernel) ?_
      refine lv_icmp_ne (tgt := 48) hx hb d_MO_chip_38 (by decide) (fun c3 => ?_) (fun c3 => ?_)
      · have c3 := mt (nI_eq (by omega) (by omega)).mpr c3
        refine lv_iload_n hx hb d_MO_chip_48 rfl (lv_at hl 1 rfl) ?_
        refine lv_bipush (v := nI 10) hx hb d_MO_chip_49 (by decide +kernel) ?_
        refine lv_icmp_ne (tgt := 61) hx hb d_MO_chip_51 (by decide) (fun c4 => ?_) (fun c4 => ?_)
        · have c4 := mt (nI_eq (by omega) (by omega)).mpr c4
          exfalso; omega
        · have c4 := (nI_eq (by omega) (by omega)).mp c4
          refine lv_aload_n hx hb d_MO_chip_54 rfl (lv_at hl 0 rfl) ?_
          refine va_get (D := D) (ci := 7) (v := .int (nI rd)) (C := R_MO) (T := T_MO) (N := 16) hx hb hts in_MO hown hK hP 0 rfl rfl 12 (by decide) (hts _ w_542) (fun _ h9 => h9) rfl d_MO_chip_55 ?_
          refine lv_goto (tgt := 75) hx hb d_MO_chip_58 (by decide) ?_
          exact rw_reti hx hb hr hlocks d_MO_chip_75 hS () (rfl) hP
      · have c3 := (nI_eq (by omega) (by omega)).mp c3
        exfalso; omega
    · have c2 := (nI_eq (by omega) (by omega)).mp c2
      exfalso; omega
  · have c1 := mt (bI_0).mpr c1
    have c1 := Classical.not_not.mp c1
    exfalso; omega
set_option maxHeartbeats 4000000 in
set_option maxRecDepth 100000 in
theorem c_MO_chip11 (l : Launch) (D : va_G) (k : Nat → ClassId) (q : Nat → Nat) (cd : Int32) (wd : Nat → Nat) (se : Nat → Nat) (kd : Nat → Nat) (bn : Nat → Int32) (sh : Nat → Nat) (mb : Nat → Nat) (pr : Nat) (B : Nat → Nat) (R : Nat → Nat) (sx : Nat) (pt : Nat) (rd : Nat) (wt : Int32) (ln : Nat) (px : Nat → Nat) : rw_i l y_MO_chip b_MO_chip 2 (some .int) { frames := 1, cells := 0, slots := 0, locals := 22 } D (kT k) (mW q k cd wd se kd bn sh mb pr B R sx pt rd wt ln px) [.ref (q 0), .int (nI 11)] (fun (r : Int32) (_ : Unit) => r = wt) (fun (_ : Unit) => (mW q k (nI 0) wd se kd bn sh mb pr B R sx pt rd wt ln px)) := by
  refine rw_headi (by decide) (Nat.le_of_ble_eq_true rfl) ?_
  intro p e s m below meth c ls A hx hb hr hlocks hml hown hts hK hA hP hD hS hl
  have hown : s.vm.findClass "SlotScreenModel" = some m.cls := hown
  have hl : lv_has ls 2 [(0, .ref (q 0)), (1, .int (nI 11))] := hl
  refine lv_aload_n hx hb d_MO_chip_0 rfl (lv_at hl 0 rfl) ?_
  refine lv_iconst (v := nI 0) hx hb d_MO_chip_1 (by decide +kernel) ?_
  refine va_put (D := D) (ci := 7) (v := .int (nI 0)) (ty := .int) (C := R_MO) (T := T_MO) (N := 16) hx hb hts in_MO t_MO o_MO n_MO hown hK hP hD hS 0 rfl rfl 0 (by decide) (hts _ w_530) (fun _ h9 => h9) rfl (by decide +kernel) rfl rfl (Nat.le_of_ble_eq_true rfl) d_MO_chip_2 (fun H locs hP hD hS => ?_)
  have hP : va_P D vwCl (mW q k (nI 0) wd se kd bn sh mb pr B R sx pt rd wt ln px) H := hP
  have hD : va_D A (mW q k (nI 0) wd se kd bn sh mb pr B R sx pt rd wt ln px) := hD
  refine lv_iload_n hx hb d_MO_chip_5 rfl (lv_at hl 1 rfl) ?_
  refine lv_iconst (v := nI 0) hx hb d_MO_chip_6 (by decide +kernel) ?_
  refine lv_bipush (v := nI 7) hx hb d_MO_chip_7 (by decide +kernel) ?_
  refine kr_iS (As := [.int (nI 11), .int (nI 0), .int (nI 7)]) (rest := []) ⟨hx, hb, hml, hown, hts⟩ (c_MO_within l D k 11 0 7 (by omega) (by omega) (by omega)) (va_cwS 3 hts (gS w_587 w_588 w_5 w_589) rfl rfl rfl (by decide +kernel) ⟨Nat.le_of_ble_eq_true rfl, Nat.le_of_ble_eq_true rfl⟩) hK va_nil rfl hl.1 rfl (Nat.le_of_ble_eq_true rfl) d_MO_chip_9 ⟨Nat.zero_le _, Nat.zero_le _⟩ ?_
  refine lv_if_eq (tgt := 22) hx hb d_MO_chip_12 (by decide) (fun c1 => ?_) (fun c1 => ?_)
  · have c1 := (bI_0).mp c1
    refine lv_iload_n hx hb d_MO_chip_22 rfl (lv_at hl 1 rfl) ?_
    refine lv_bipush (v := nI 8) hx hb d_MO_chip_23 (by decide +kernel) ?_
    refine lv_icmp_ne (tgt := 35) hx hb d_MO_chip_25 (by decide) (fun c2 => ?_) (fun c2 => ?_)
    · have c2 := mt (nI_eq (by omega) (by omega)).mpr c2
      refine lv_iload_n hx hb d_MO_chip_35 rfl (lv_at hl 1 rfl) ?_
      refine lv_bipush (v := nI 9) hx hb d_MO_chip_36 (by decide +kernel) ?_
      refine lv_icmp_ne (tgt := 48) hx hb d_MO_chip_38 (by decide) (fun c3 => ?_) (fun c3 => ?_)
      · have c3 := mt (nI_eq (by omega) (by omega)).mpr c3
        refine lv_iload_n hx hb d_MO_chip_48 rfl (lv_at hl 1 rfl) ?_
        refine lv_bipush (v := nI 10) hx hb d_MO_chip_49 (by decide +kernel) ?_
        refine lv_icmp_ne (tgt := 61) hx hb d_MO_chip_51 (by decide) (fun c4 => ?_) (fun c4 => ?_)
        · have c4 := mt (nI_eq (by omega) (by omega)).mpr c4
          refine lv_iload_n hx hb d_MO_chip_61 rfl (lv_at hl 1 rfl) ?_
          refine lv_bipush (v := nI 11) hx hb d_MO_chip_62 (by decide +kernel) ?_
          refine lv_icmp_ne (tgt := 74) hx hb d_MO_chip_64 (by decide) (fun c5 => ?_) (fun c5 => ?_)
          · have c5 := mt (nI_eq (by omega) (by omega)).mpr c5
            exfalso; omega
          · have c5 := (nI_eq (by omega) (by omega)).mp c5
            refine lv_aload_n hx hb d_MO_chip_67 rfl (lv_at hl 0 rfl) ?_
            refine va_get (D := D) (ci := 7) (v := .int wt) (C := R_MO) (T := T_MO) (N := 16) hx hb hts in_MO hown hK hP 0 rfl rfl 13 (by decide) (hts _ w_543) (fun _ h9 => h9) rfl d_MO_chip_68 ?_
            refine lv_goto (tgt := 75) hx hb d_MO_chip_71 (by decide) ?_
            exact rw_reti hx hb hr hlocks d_MO_chip_75 hS () (rfl) hP
        · have c4 := (nI_eq (by omega) (by omega)).mp c4
          exfalso; omega
      · have c3 := (nI_eq (by omega) (by omega)).mp c3
        exfalso; omega
    · have c2 := (nI_eq (by omega) (by omega)).mp c2
      exfalso; omega
  · have c1 := mt (bI_0).mpr c1
    have c1 := Classical.not_not.mp c1
    exfalso; omega
set_option maxHeartbeats 4000000 in
set_option maxRecDepth 100000 in
theorem c_MO_chipb (l : Launch) (D : va_G) (k : Nat → ClassId) (q : Nat → Nat) (cd : Int32) (wd : Nat → Nat) (se : Nat → Nat) (kd : Nat → Nat) (bn : Nat → Int32) (sh : Nat → Nat) (mb : Nat → Nat) (pr : Nat) (B : Nat → Nat) (R : Nat → Nat) (sx : Nat) (pt : Nat) (rd : Nat) (wt : Int32) (ln : Nat) (px : Nat → Nat) (x : Int32) (hx9 : ¬ (0 ≤ x.toInt ∧ x.toInt ≤ 11)) : rw_i l y_MO_chip b_MO_chip 2 (some .int) { frames := 1, cells := 0, slots := 0, locals := 22 } D (kT k) (mW q k cd wd se kd bn sh mb pr B R sx pt rd wt ln px) [.ref (q 0), .int x] (fun (r : Int32) (_ : Unit) => r = (-1)) (fun (_ : Unit) => (mW q k (nI 0) wd se kd bn sh mb pr B R sx pt rd wt ln px)) := by
  refine rw_headi (by decide) (Nat.le_of_ble_eq_true rfl) ?_
  intro p e s m below meth c ls A hx hb hr hlocks hml hown hts hK hA hP hD hS hl
  have hown : s.vm.findClass "SlotScreenModel" = some m.cls := hown
  have hl : lv_has ls 2 [(0, .ref (q 0)), (1, .int x)] := hl
  refine lv_aload_n hx hb d_MO_chip_0 rfl (lv_at hl 0 rfl) ?_
  refine lv_iconst (v := nI 0) hx hb d_MO_chip_1 (by decide +kernel) ?_
  refine va_put (D := D) (ci := 7) (v := .int (nI 0)) (ty := .int) (C := R_MO) (T := T_MO) (N := 16) hx hb hts in_MO t_MO o_MO n_MO hown hK hP hD hS 0 rfl rfl 0 (by decide) (hts _ w_530) (fun _ h9 => h9) rfl (by decide +kernel) rfl rfl (Nat.le_of_ble_eq_true rfl) d_MO_chip_2 (fun H locs hP hD hS => ?_)
  have hP : va_P D vwCl (mW q k (nI 0) wd se kd bn sh mb pr B R sx pt rd wt ln px) H := hP
  have hD : va_D A (mW q k (nI 0) wd se kd bn sh mb pr B R sx pt rd wt ln px) := hD
  refine lv_iload_n hx hb d_MO_chip_5 rfl (lv_at hl 1 rfl) ?_
  refine lv_iconst (v := nI 0) hx hb d_MO_chip_6 (by decide +kernel) ?_
  refine lv_bipush (v := nI 7) hx hb d_MO_chip_7 (by decide +kernel) ?_
  refine kr_iS (As := [.int x, .int (nI 0), .int (nI 7)]) (rest := []) ⟨hx, hb, hml, hown, hts⟩ (c_MO_withinZ l D k x 0 7 (by omega) (by omega)) (va_cwS 3 hts (gS w_587 w_588 w_5 w_589) rfl rfl rfl (by decide +kernel) ⟨Nat.le_of_ble_eq_true rfl, Nat.le_of_ble_eq_true rfl⟩) hK va_nil rfl hl.1 rfl (Nat.le_of_ble_eq_true rfl) d_MO_chip_9 ⟨Nat.zero_le _, Nat.zero_le _⟩ ?_
  refine lv_if_eq (tgt := 22) hx hb d_MO_chip_12 (by decide) (fun c1 => ?_) (fun c1 => ?_)
  · have c1 := (bI_0).mp c1
    refine lv_iload_n hx hb d_MO_chip_22 rfl (lv_at hl 1 rfl) ?_
    refine lv_bipush (v := nI 8) hx hb d_MO_chip_23 (by decide +kernel) ?_
    refine lv_icmp_ne (tgt := 35) hx hb d_MO_chip_25 (by decide) (fun c2 => ?_) (fun c2 => ?_)
    · have c2 := mt (zn_eq (by omega)).mpr c2
      refine lv_iload_n hx hb d_MO_chip_35 rfl (lv_at hl 1 rfl) ?_
      refine lv_bipush (v := nI 9) hx hb d_MO_chip_36 (by decide +kernel) ?_
      refine lv_icmp_ne (tgt := 48) hx hb d_MO_chip_38 (by decide) (fun c3 => ?_) (fun c3 => ?_)
      · have c3 := mt (zn_eq (by omega)).mpr c3
        refine lv_iload_n hx hb d_MO_chip_48 rfl (lv_at hl 1 rfl) ?_
        refine lv_bipush (v := nI 10) hx hb d_MO_chip_49 (by decide +kernel) ?_
        refine lv_icmp_ne (tgt := 61) hx hb d_MO_chip_51 (by decide) (fun c4 => ?_) (fun c4 => ?_)
        · have c4 := mt (zn_eq (by omega)).mpr c4
          refine lv_iload_n hx hb d_MO_chip_61 rfl (lv_at hl 1 rfl) ?_
          refine lv_bipush (v := nI 11) hx hb d_MO_chip_62 (by decide +kernel) ?_
          refine lv_icmp_ne (tgt := 74) hx hb d_MO_chip_64 (by decide) (fun c5 => ?_) (fun c5 => ?_)
          · have c5 := mt (zn_eq (by omega)).mpr c5
            refine lv_iconst (v := (-1)) hx hb d_MO_chip_74 (by decide +kernel) ?_
            exact rw_reti hx hb hr hlocks d_MO_chip_75 hS () (rfl) hP
          · have c5 := (zn_eq (by omega)).mp c5
            exfalso; omega
        · have c4 := (zn_eq (by omega)).mp c4
          exfalso; omega
      · have c3 := (zn_eq (by omega)).mp c3
        exfalso; omega
    · have c2 := (zn_eq (by omega)).mp c2
      exfalso; omega
  · have c1 := mt (bI_0).mpr c1
    have c1 := Classical.not_not.mp c1
    exfalso; omega
set_option maxHeartbeats 4000000 in
set_option maxRecDepth 100000 in
theorem c_MO_secondary (l : Launch) (D : va_G) (k : Nat → ClassId) (q : Nat → Nat) (cd : Int32) (wd : Nat → Nat) (se : Nat → Nat) (kd : Nat → Nat) (bn : Nat → Int32) (sh : Nat → Nat) (mb : Nat → Nat) (pr : Nat) (B : Nat → Nat) (R : Nat → Nat) (sx : Nat) (pt : Nat) (rd : Nat) (wt : Int32) (ln : Nat) (px : Nat → Nat) (j : Nat) (hj : j < 4) (h1 : wd j = 1) : rw_i l y_MO_secondary b_MO_secondary 2 (some .int) { frames := 1, cells := 0, slots := 0, locals := 22 } D (kT k) (mW q k cd wd se kd bn sh mb pr B R sx pt rd wt ln px) [.ref (q 0), .int (nI j)] (fun (r : Int32) (_ : Unit) => r = nI (se j)) (fun (_ : Unit) => (mW q k (nI 0) wd se kd bn sh mb pr B R sx pt rd wt ln px)) := by
  refine rw_headi (by decide) (Nat.le_of_ble_eq_true rfl) ?_
  intro p e s m below meth c ls A hx hb hr hlocks hml hown hts hK hA hP hD hS hl
  have hown : s.vm.findClass "SlotScreenModel" = some m.cls := hown
  have hl : lv_has ls 2 [(0, .ref (q 0)), (1, .int (nI j))] := hl
  refine lv_aload_n hx hb d_MO_secondary_0 rfl (lv_at hl 0 rfl) ?_
  refine lv_iconst (v := nI 0) hx hb d_MO_secondary_1 (by decide +kernel) ?_
  refine va_put (D := D) (ci := 7) (v := .int (nI 0)) (ty := .int) (C := R_MO) (T := T_MO) (N := 16) hx hb hts in_MO t_MO o_MO n_MO hown hK hP hD hS 0 rfl rfl 0 (by decide) (hts _ w_530) (fun _ h9 => h9) rfl (by decide +kernel) rfl rfl (Nat.le_of_ble_eq_true rfl) d_MO_secondary_2 (fun H locs hP hD hS => ?_)
  have hP : va_P D vwCl (mW q k (nI 0) wd se kd bn sh mb pr B R sx pt rd wt ln px) H := hP
  have hD : va_D A (mW q k (nI 0) wd se kd bn sh mb pr B R sx pt rd wt ln px) := hD
  refine lv_iload_n hx hb d_MO_secondary_5 rfl (lv_at hl 1 rfl) ?_
  refine lv_iconst (v := nI 0) hx hb d_MO_secondary_6 (by decide +kernel) ?_
  refine lv_iconst (v := nI 3) hx hb d_MO_secondary_7 (by decide +kernel) ?_
  refine kr_iS (As := [.int (nI j), .int (nI 0), .int (nI 3)]) (rest := []) ⟨hx, hb, hml, hown, hts⟩ (c_MO_within l D k j 0 3 (by omega) (by omega) (by omega)) (va_cwS 3 hts (gS w_587 w_588 w_5 w_589) rfl rfl rfl (by decide +kernel) ⟨Nat.le_of_ble_eq_true rfl, Nat.le_of_ble_eq_true rfl⟩) hK va_nil rfl hl.1 rfl (Nat.le_of_ble_eq_true rfl) d_MO_secondary_8 ⟨Nat.zero_le _, Nat.zero_le _⟩ ?_
  refine lv_if_eq (tgt := 32) hx hb d_MO_secondary_11 (by decide) (fun c1 => ?_) (fun c1 => ?_)
  · have c1 := (bI_0).mp c1
    exfalso; omega
  · have c1 := mt (bI_0).mpr c1
    have c1 := Classical.not_not.mp c1
    refine lv_aload_n hx hb d_MO_secondary_14 rfl (lv_at hl 0 rfl) ?_
    refine va_get (D := D) (ci := 7) (v := .ref (q 1)) (C := R_MO) (T := T_MO) (N := 16) hx hb hts in_MO hown hK hP 0 rfl rfl 1 (by decide) (hts _ w_531) (fun _ h9 => h9) rfl d_MO_secondary_15 ?_
    refine lv_iload_n hx hb d_MO_secondary_18 rfl (lv_at hl 1 rfl) ?_
    refine va_zald hx hb hK hP 1 1 rfl rfl (vp_in_nI (by omega) (by omega)) d_MO_secondary_19 ?_
    refine ss_rt (y := nI (wd j)) (congrArg (fun z => nI (wd z)) (nI_clamp (by omega))) ?_
    refine lv_if_eq (tgt := 32) hx hb d_MO_secondary_20 (by decide) (fun c2 => ?_) (fun c2 => ?_)
    · have c2 := (n_eq0 (by omega)).mp c2
      exfalso; omega
    · have c2 := mt (n_eq0 (by omega)).mpr c2
      refine lv_aload_n hx hb d_MO_secondary_23 rfl (lv_at hl 0 rfl) ?_
      refine va_get (D := D) (ci := 7) (v := .ref (q 2)) (C := R_MO) (T := T_MO) (N := 16) hx hb hts in_MO hown hK hP 0 rfl rfl 2 (by decide) (hts _ w_532) (fun _ h9 => h9) rfl d_MO_secondary_24 ?_
      refine lv_iload_n hx hb d_MO_secondary_27 rfl (lv_at hl 1 rfl) ?_
      refine va_iald hx hb hK hP 2 0 rfl rfl (vp_in_nI (by omega) (by omega)) d_MO_secondary_28 ?_
      refine ss_rt (y := nI (se j)) (congrArg (fun z => nI (se z)) (nI_clamp (by omega))) ?_
      refine lv_goto (tgt := 33) hx hb d_MO_secondary_29 (by decide) ?_
      exact rw_reti hx hb hr hlocks d_MO_secondary_33 hS () (rfl) hP
set_option maxHeartbeats 4000000 in
set_option maxRecDepth 100000 in
theorem c_MO_secondary0 (l : Launch) (D : va_G) (k : Nat → ClassId) (q : Nat → Nat) (cd : Int32) (wd : Nat → Nat) (se : Nat → Nat) (kd : Nat → Nat) (bn : Nat → Int32) (sh : Nat → Nat) (mb : Nat → Nat) (pr : Nat) (B : Nat → Nat) (R : Nat → Nat) (sx : Nat) (pt : Nat) (rd : Nat) (wt : Int32) (ln : Nat) (px : Nat → Nat) (j : Nat) (hj : j < 4) (h1 : wd j = 0) : rw_i l y_MO_secondary b_MO_secondary 2 (some .int) { frames := 1, cells := 0, slots := 0, locals := 22 } D (kT k) (mW q k cd wd se kd bn sh mb pr B R sx pt rd wt ln px) [.ref (q 0), .int (nI j)] (fun (r : Int32) (_ : Unit) => r = (-1)) (fun (_ : Unit) => (mW q k (nI 0) wd se kd bn sh mb pr B R sx pt rd wt ln px)) := by
  refine rw_headi (by decide) (Nat.le_of_ble_eq_true rfl) ?_
  intro p e s m below meth c ls A hx hb hr hlocks hml hown hts hK hA hP hD hS hl
  have hown : s.vm.findClass "SlotScreenModel" = some m.cls := hown
  have hl : lv_has ls 2 [(0, .ref (q 0)), (1, .int (nI j))] := hl
  refine lv_aload_n hx hb d_MO_secondary_0 rfl (lv_at hl 0 rfl) ?_
  refine lv_iconst (v := nI 0) hx hb d_MO_secondary_1 (by decide +kernel) ?_
  refine va_put (D := D) (ci := 7) (v := .int (nI 0)) (ty := .int) (C := R_MO) (T := T_MO) (N := 16) hx hb hts in_MO t_MO o_MO n_MO hown hK hP hD hS 0 rfl rfl 0 (by decide) (hts _ w_530) (fun _ h9 => h9) rfl (by decide +kernel) rfl rfl (Nat.le_of_ble_eq_true rfl) d_MO_secondary_2 (fun H locs hP hD hS => ?_)
  have hP : va_P D vwCl (mW q k (nI 0) wd se kd bn sh mb pr B R sx pt rd wt ln px) H := hP
  have hD : va_D A (mW q k (nI 0) wd se kd bn sh mb pr B R sx pt rd wt ln px) := hD
  refine lv_iload_n hx hb d_MO_secondary_5 rfl (lv_at hl 1 rfl) ?_
  refine lv_iconst (v := nI 0) hx hb d_MO_secondary_6 (by decide +kernel) ?_
  refine lv_iconst (v := nI 3) hx hb d_MO_secondary_7 (by decide +kernel) ?_
  refine kr_iS (As := [.int (nI j), .int (nI 0), .int (nI 3)]) (rest := []) ⟨hx, hb, hml, hown, hts⟩ (c_MO_within l D k j 0 3 (by omega) (by omega) (by omega)) (va_cwS 3 hts (gS w_587 w_588 w_5 w_589) rfl rfl rfl (by decide +kernel) ⟨Nat.le_of_ble_eq_true rfl, Nat.le_of_ble_eq_true rfl⟩) hK va_nil rfl hl.1 rfl (Nat.le_of_ble_eq_true rfl) d_MO_secondary_8 ⟨Nat.zero_le _, Nat.zero_le _⟩ ?_
  refine lv_if_eq (tgt := 32) hx hb d_MO_secondary_11 (by decide) (fun c1 => ?_) (fun c1 => ?_)
  · have c1 := (bI_0).mp c1
    exfalso; omega
  · have c1 := mt (bI_0).mpr c1
    have c1 := Classical.not_not.mp c1
    refine lv_aload_n hx hb d_MO_secondary_14 rfl (lv_at hl 0 rfl) ?_
    refine va_get (D := D) (ci := 7) (v := .ref (q 1)) (C := R_MO) (T := T_MO) (N := 16) hx hb hts in_MO hown hK hP 0 rfl rfl 1 (by decide) (hts _ w_531) (fun _ h9 => h9) rfl d_MO_secondary_15 ?_
    refine lv_iload_n hx hb d_MO_secondary_18 rfl (lv_at hl 1 rfl) ?_
    refine va_zald hx hb hK hP 1 1 rfl rfl (vp_in_nI (by omega) (by omega)) d_MO_secondary_19 ?_
    refine ss_rt (y := nI (wd j)) (congrArg (fun z => nI (wd z)) (nI_clamp (by omega))) ?_
    refine lv_if_eq (tgt := 32) hx hb d_MO_secondary_20 (by decide) (fun c2 => ?_) (fun c2 => ?_)
    · have c2 := (n_eq0 (by omega)).mp c2
      refine lv_iconst (v := (-1)) hx hb d_MO_secondary_32 (by decide +kernel) ?_
      exact rw_reti hx hb hr hlocks d_MO_secondary_33 hS () (rfl) hP
    · have c2 := mt (n_eq0 (by omega)).mpr c2
      exfalso; omega
set_option maxHeartbeats 4000000 in
set_option maxRecDepth 100000 in
theorem c_MO_secondaryb (l : Launch) (D : va_G) (k : Nat → ClassId) (q : Nat → Nat) (cd : Int32) (wd : Nat → Nat) (se : Nat → Nat) (kd : Nat → Nat) (bn : Nat → Int32) (sh : Nat → Nat) (mb : Nat → Nat) (pr : Nat) (B : Nat → Nat) (R : Nat → Nat) (sx : Nat) (pt : Nat) (rd : Nat) (wt : Int32) (ln : Nat) (px : Nat → Nat) (x : Int32) (hx9 : ¬ (0 ≤ x.toInt ∧ x.toInt ≤ 3)) : rw_i l y_MO_secondary b_MO_secondary 2 (some .int) { frames := 1, cells := 0, slots := 0, locals := 22 } D (kT k) (mW q k cd wd se kd bn sh mb pr B R sx pt rd wt ln px) [.ref (q 0), .int x] (fun (r : Int32) (_ : Unit) => r = (-1)) (fun (_ : Unit) => (mW q k (nI 0) wd se kd bn sh mb pr B R sx pt rd wt ln px)) := by
  refine rw_headi (by decide) (Nat.le_of_ble_eq_true rfl) ?_
  intro p e s m below meth c ls A hx hb hr hlocks hml hown hts hK hA hP hD hS hl
  have hown : s.vm.findClass "SlotScreenModel" = some m.cls := hown
  have hl : lv_has ls 2 [(0, .ref (q 0)), (1, .int x)] := hl
  refine lv_aload_n hx hb d_MO_secondary_0 rfl (lv_at hl 0 rfl) ?_
  refine lv_iconst (v := nI 0) hx hb d_MO_secondary_1 (by decide +kernel) ?_
  refine va_put (D := D) (ci := 7) (v := .int (nI 0)) (ty := .int) (C := R_MO) (T := T_MO) (N := 16) hx hb hts in_MO t_MO o_MO n_MO hown hK hP hD hS 0 rfl rfl 0 (by decide) (hts _ w_530) (fun _ h9 => h9) rfl (by decide +kernel) rfl rfl (Nat.le_of_ble_eq_true rfl) d_MO_secondary_2 (fun H locs hP hD hS => ?_)
  have hP : va_P D vwCl (mW q k (nI 0) wd se kd bn sh mb pr B R sx pt rd wt ln px) H := hP
  have hD : va_D A (mW q k (nI 0) wd se kd bn sh mb pr B R sx pt rd wt ln px) := hD
  refine lv_iload_n hx hb d_MO_secondary_5 rfl (lv_at hl 1 rfl) ?_
  refine lv_iconst (v := nI 0) hx hb d_MO_secondary_6 (by decide +kernel) ?_
  refine lv_iconst (v := nI 3) hx hb d_MO_secondary_7 (by decide +kernel) ?_
  refine kr_iS (As := [.int x, .int (nI 0), .int (nI 3)]) (rest := []) ⟨hx, hb, hml, hown, hts⟩ (c_MO_withinZ l D k x 0 3 (by omega) (by omega)) (va_cwS 3 hts (gS w_587 w_588 w_5 w_589) rfl rfl rfl (by decide +kernel) ⟨Nat.le_of_ble_eq_true rfl, Nat.le_of_ble_eq_true rfl⟩) hK va_nil rfl hl.1 rfl (Nat.le_of_ble_eq_true rfl) d_MO_secondary_8 ⟨Nat.zero_le _, Nat.zero_le _⟩ ?_
  refine lv_if_eq (tgt := 32) hx hb d_MO_secondary_11 (by decide) (fun c1 => ?_) (fun c1 => ?_)
  · have c1 := (bI_0).mp c1
    refine lv_iconst (v := (-1)) hx hb d_MO_secondary_32 (by decide +kernel) ?_
    exact rw_reti hx hb hr hlocks d_MO_secondary_33 hS () (rfl) hP
  · have c1 := mt (bI_0).mpr c1
    have c1 := Classical.not_not.mp c1
    exfalso; omega
set_option maxHeartbeats 4000000 in
set_option maxRecDepth 100000 in
theorem c_MO_calls (l : Launch) (D : va_G) (k : Nat → ClassId) (q : Nat → Nat) (cd : Int32) (wd : Nat → Nat) (se : Nat → Nat) (kd : Nat → Nat) (bn : Nat → Int32) (sh : Nat → Nat) (mb : Nat → Nat) (pr : Nat) (B : Nat → Nat) (R : Nat → Nat) (sx : Nat) (pt : Nat) (rd : Nat) (wt : Int32) (ln : Nat) (px : Nat → Nat) (hB : ∀ j, B j < 256) (hR : ∀ j, R j < 256) (hsx : sx < 256) : rw_i l y_MO_calls b_MO_calls 1 (some .boolean) { frames := 1, cells := 0, slots := 0, locals := 22 } D (kT k) (mW q k cd wd se kd bn sh mb pr B R sx pt rd wt ln px) [.ref (q 0)] (fun (r : Int32) (_ : Unit) => r = bI (R 1 / 32 % 2 = 1 ∧ 127 < sx)) (fun (_ : Unit) => (mW q k (nI 0) wd se kd bn sh mb pr B R sx pt rd wt ln px)) := by
  refine rw_headi (by decide) (Nat.le_of_ble_eq_true rfl) ?_
  intro p e s m below meth c ls A hx hb hr hlocks hml hown hts hK hA hP hD hS hl
  have hown : s.vm.findClass "SlotScreenModel" = some m.cls := hown
  have hl : lv_has ls 1 [(0, .ref (q 0))] := hl
  refine lv_aload_n hx hb d_MO_calls_0 rfl (lv_at hl 0 rfl) ?_
  refine lv_iconst (v := nI 0) hx hb d_MO_calls_1 (by decide +kernel) ?_
  refine va_put (D := D) (ci := 7) (v := .int (nI 0)) (ty := .int) (C := R_MO) (T := T_MO) (N := 16) hx hb hts in_MO t_MO o_MO n_MO hown hK hP hD hS 0 rfl rfl 0 (by decide) (hts _ w_530) (fun _ h9 => h9) rfl (by decide +kernel) rfl rfl (Nat.le_of_ble_eq_true rfl) d_MO_calls_2 (fun H locs hP hD hS => ?_)
  have hP : va_P D vwCl (mW q k (nI 0) wd se kd bn sh mb pr B R sx pt rd wt ln px) H := hP
  have hD : va_D A (mW q k (nI 0) wd se kd bn sh mb pr B R sx pt rd wt ln px) := hD
  refine lv_aload_n hx hb d_MO_calls_5 rfl (lv_at hl 0 rfl) ?_
  refine lv_aload_n hx hb d_MO_calls_6 rfl (lv_at hl 0 rfl) ?_
  refine va_get (D := D) (ci := 7) (v := .ref (q 8)) (C := R_MO) (T := T_MO) (N := 16) hx hb hts in_MO hown hK hP 0 rfl rfl 9 (by decide) (hts _ w_539) (fun _ h9 => h9) rfl d_MO_calls_7 ?_
  refine lv_iconst (v := nI 1) hx hb d_MO_calls_10 (by decide +kernel) ?_
  refine va_iald hx hb hK hP 8 0 rfl rfl (vp_in_nI (by omega) (by omega)) d_MO_calls_11 ?_
  refine ss_rt (y := nI (R 1)) (congrArg (fun z => nI (R z)) (nI_clamp (by omega))) ?_
  have g1 := hR 1
  refine lv_iconst (v := nI 5) hx hb d_MO_calls_12 (by decide +kernel) ?_
  refine kr_iV (As := [.int (nI (R 1)), .int (nI 5)]) (rest := []) ⟨hx, hb, hml, hown, hts⟩ (c_MO_bit l D k q (nI 0) wd se kd bn sh mb pr B R sx pt rd wt ln px (R 1) 5 (by omega) (by omega)) (cwV 2 hts (gV w_653 w_655 w_p20 w_5 w_656) rfl rfl rfl (by decide +kernel) ⟨Nat.le_of_ble_eq_true rfl, Nat.le_of_ble_eq_true rfl⟩) hK hP (va_recv hK hP (ci := 7) (q0 := 0) rfl rfl) rfl hl.1 rfl (Nat.le_of_ble_eq_true rfl) d_MO_calls_13 ⟨Nat.zero_le _, Nat.zero_le _⟩ ?_
  refine lv_if_eq (tgt := 32) hx hb d_MO_calls_16 (by decide) (fun c2 => ?_) (fun c2 => ?_)
  · have c2 := (bI_0).mp c2
    refine lv_iconst (v := nI 0) hx hb d_MO_calls_32 (by decide +kernel) ?_
    exact rw_retz hx hb hr hlocks d_MO_calls_33 (by decide +kernel) hS () (bI_f (by omega)) hP
  · have c2 := mt (bI_0).mpr c2
    have c2 := Classical.not_not.mp c2
    refine lv_aload_n hx hb d_MO_calls_19 rfl (lv_at hl 0 rfl) ?_
    refine va_get (D := D) (ci := 7) (v := .int (nI sx)) (C := R_MO) (T := T_MO) (N := 16) hx hb hts in_MO hown hK hP 0 rfl rfl 10 (by decide) (hts _ w_540) (fun _ h9 => h9) rfl d_MO_calls_20 ?_
    refine lv_bipush (v := nI 127) hx hb d_MO_calls_23 (by decide +kernel) ?_
    refine lv_icmp_le (tgt := 32) hx hb d_MO_calls_25 (by decide) (fun c3 => ?_) (fun c3 => ?_)
    · have c3 := (nI_leI (by omega) (by omega)).mp c3
      refine lv_iconst (v := nI 0) hx hb d_MO_calls_32 (by decide +kernel) ?_
      exact rw_retz hx hb hr hlocks d_MO_calls_33 (by decide +kernel) hS () (bI_f (by omega)) hP
    · have c3 := mt (nI_leI (by omega) (by omega)).mpr c3
      refine lv_iconst (v := nI 1) hx hb d_MO_calls_28 (by decide +kernel) ?_
      refine lv_goto (tgt := 33) hx hb d_MO_calls_29 (by decide) ?_
      exact rw_retz hx hb hr hlocks d_MO_calls_33 (by decide +kernel) hS () (bI_t (by omega)) hP
set_option maxHeartbeats 4000000 in
set_option maxRecDepth 100000 in
theorem c_MO_thrown (l : Launch) (D : va_G) (k : Nat → ClassId) (q : Nat → Nat) (cd : Int32) (wd : Nat → Nat) (se : Nat → Nat) (kd : Nat → Nat) (bn : Nat → Int32) (sh : Nat → Nat) (mb : Nat → Nat) (pr : Nat) (B : Nat → Nat) (R : Nat → Nat) (sx : Nat) (pt : Nat) (rd : Nat) (wt : Int32) (ln : Nat) (px : Nat → Nat) : ro_i l y_MO_thrown b_MO_thrown 1 (some .int) { frames := 0, cells := 0, slots := 0, locals := 0 } D (kT k) (mW q k cd wd se kd bn sh mb pr B R sx pt rd wt ln px) [.ref (q 0)] cd := by
  refine ro_headi (by decide) (Nat.le_of_ble_eq_true rfl) ?_
  intro p e s m below meth c ls hx hb hr hlocks hml hown hts hP hK hl
  have hown : s.vm.findClass "SlotScreenModel" = some m.cls := hown
  have hl : lv_has ls 1 [(0, .ref (q 0))] := hl
  refine lv_aload_n hx hb d_MO_thrown_0 rfl (lv_at hl 0 rfl) ?_
  refine va_get (D := D) (ci := 7) (v := .int cd) (C := R_MO) (T := T_MO) (N := 16) hx hb hts in_MO hown hK hP 0 rfl rfl 0 (by decide) (hts _ w_530) (fun _ h9 => h9) rfl d_MO_thrown_1 ?_
  exact ro_reti hx hb hr hlocks d_MO_thrown_4 (rfl)
set_option maxHeartbeats 4000000 in
set_option maxRecDepth 100000 in
theorem c_MO_color (l : Launch) (D : va_G) (k : Nat → ClassId) (q : Nat → Nat) (cd : Int32) (wd : Nat → Nat) (se : Nat → Nat) (kd : Nat → Nat) (bn : Nat → Int32) (sh : Nat → Nat) (mb : Nat → Nat) (pr : Nat) (B : Nat → Nat) (R : Nat → Nat) (sx : Nat) (pt : Nat) (rd : Nat) (wt : Int32) (ln : Nat) (px : Nat → Nat) (hB : ∀ j, B j < 256) (hR : ∀ j, R j < 256) (hsx : sx < 256) (hln : ln < 32) (x : Nat) (hx9 : x < 64) : rw_i l y_MO_color b_MO_color 8 (some .int) { frames := 4, cells := 0, slots := 0, locals := 90 } D (kT k) (mW q k cd wd se kd bn sh mb pr B R sx pt rd wt ln px) [.ref (q 0), .int (nI x), .int (nI (dmo B R))] (fun (r : Int32) (_ : Unit) => r = nI (dpx B R ln x)) (fun (_ : Unit) => (mW q k cd wd se kd bn sh mb pr B R (dts (decide (1 < dht B R ln x 8)) sx) pt rd wt ln px)) := by
  refine rw_headi (by decide) (Nat.le_of_ble_eq_true rfl) ?_
  intro p e s m below meth c ls A hx hb hr hlocks hml hown hts hK hA hP hD hS hl
  have hown : s.vm.findClass "SlotScreenModel" = some m.cls := hown
  have hl : lv_has ls 8 [(0, .ref (q 0)), (1, .int (nI x)), (2, .int (nI (dmo B R)))] := hl
  have z1 := dmo_le B R
  refine lv_iconst (v := nI 0) hx hb d_MO_color_0 (by decide +kernel) ?_
  refine lv_istore_n (lv' := [(3, .int (nI 0)), (0, .ref (q 0)), (1, .int (nI x)), (2, .int (nI (dmo B R)))]) hx hb d_MO_color_1 rfl hl (by decide) rfl (fun ls hl => ?_)
  refine lv_iconst (v := nI 0) hx hb d_MO_color_2 (by decide +kernel) ?_
  refine lv_istore (lv' := [(4, .int (nI 0)), (3, .int (nI 0)), (0, .ref (q 0)), (1, .int (nI x)), (2, .int (nI (dmo B R)))]) hx hb d_MO_color_3 hl (by decide) rfl (fun ls hl => ?_)
  refine lv_iconst (v := nI 0) hx hb d_MO_color_5 (by decide +kernel) ?_
  refine lv_istore (lv' := [(5, .int (nI 0)), (4, .int (nI 0)), (3, .int (nI 0)), (0, .ref (q 0)), (1, .int (nI x)), (2, .int (nI (dmo B R)))]) hx hb d_MO_color_6 hl (by decide) rfl (fun ls hl => ?_)
  refine lv_iconst (v := nI 0) hx hb d_MO_color_8 (by decide +kernel) ?_
  refine lv_istore (lv' := [(6, .int (nI 0)), (5, .int (nI 0)), (4, .int (nI 0)), (3, .int (nI 0)), (0, .ref (q 0)), (1, .int (nI x)), (2, .int (nI (dmo B R)))]) hx hb d_MO_color_9 hl (by decide) rfl (fun ls hl => ?_)
  have loop : ∀ (j9 i : Nat), i + j9 = 8 → (hi : i ≤ dmo B R ∧ dct B R ln i ≤ 4) → ∀ (H : Heap) (locs : List Loc), va_P D vwCl (mW q k cd wd se kd bn sh mb pr B R sx pt rd wt ln px) H → va_D A (mW q k cd wd se kd bn sh mb pr B R sx pt rd wt ln px) → va_S A s.heap H locs → ∀ (ls : Array Slot), lv_has ls 8 [(6, .int (nI i)), (5, .int (nI (dct B R ln i))), (4, .int (nI (dht B R ln x i))), (3, .int (nI (dcl B R ln x i))), (0, .ref (q 0)), (1, .int (nI x)), (2, .int (nI (dmo B R)))] → W p l e (headSpec (wsG y_MO_color b_MO_color 8 (some .int)) { frames := 4, cells := 0, slots := 0, locals := 90 }).room s m ([.ref (q 0), .int (nI x), .int (nI (dmo B R))] : List Value).toArray below meth c H locs 0 0 (MQ below (rw_Qi D (fun (r : Int32) (_ : Unit) => r = nI (dpx B R ln x)) (fun (_ : Unit) => (mW q k cd wd se kd bn sh mb pr B R (dts (decide (1 < dht B R ln x 8)) sx) pt rd wt ln px)) A) ([.ref (q 0), .int (nI x), .int (nI (dmo B R))] : List Value).toArray s 0 0 A) (F0 m 11 ls []) := by
    intro j9
    induction j9 with
    | zero =>
      intro i h9 hi H locs hP hD hS ls hl
      have hht : dht B R ln x i ≤ i := dht_le B R ln x i
      have hcl : dcl B R ln x i < 16 := dcl_lt B R ln x i
      refine lv_iload hx hb d_MO_color_11 (lv_at hl 0 rfl) ?_
      refine lv_iload_n hx hb d_MO_color_13 rfl (lv_at hl 6 rfl) ?_
      refine lv_icmp_ge (tgt := 85) hx hb d_MO_color_14 (by decide) (fun c1 => ?_) (fun c1 => ?_)
      · have c1 := (nI_leI (by omega) (by omega)).mp c1
        have hend := dht_end (B := B) (R := R) (L := ln) x (k := i) (by omega) (by omega)
        refine lv_iload hx hb d_MO_color_85 (lv_at hl 2 rfl) ?_
        refine lv_iconst (v := nI 1) hx hb d_MO_color_87 (by decide +kernel) ?_
        refine lv_icmp_le (tgt := 102) hx hb d_MO_color_88 (by decide) (fun c2 => ?_) (fun c2 => ?_)
        · have c2 := (nI_leI (by omega) (by omega)).mp c2
          refine lv_iload_n hx hb d_MO_color_102 rfl (lv_at hl 3 rfl) ?_
          refine lv_if_ne (tgt := 116) hx hb d_MO_color_103 (by decide) (fun c3 => ?_) (fun c3 => ?_)
          · have c3 := mt (n_eq0 (by omega)).mpr c3
            refine lv_iload_n hx hb d_MO_color_116 rfl (lv_at hl 3 rfl) ?_
            refine lv_if_ne (tgt := 133) hx hb d_MO_color_117 (by decide) (fun c4 => ?_) (fun c4 => ?_)
            · have c4 := mt (n_eq0 (by omega)).mpr c4
              refine lv_iload_n hx hb d_MO_color_133 rfl (lv_at hl 3 rfl) ?_
              exact rw_reti hx hb hr hlocks d_MO_color_134 hS () (by first | (exfalso; omega) | (unfold dpx; rw [hend.2, if_neg (by omega)]) | (unfold dpx dob; rw [hend.2, if_pos (by omega), if_neg (by omega)]) | (unfold dpx dob; rw [hend.2, if_pos (by omega), if_pos (by omega)])) (by rw [show (dts (decide (1 < dht B R ln x 8)) sx) = sx from by first | (exfalso; omega) | (unfold dts; rw [hend.1, decide_eq_true (by omega), if_pos rfl]) | (unfold dts; rw [hend.1, decide_eq_false (by omega), if_neg (by decide)])]; exact hP)
            · have c4 := (n_eq0 (by omega)).mp c4
              refine lv_aload_n hx hb d_MO_color_120 rfl (lv_at hl 4 rfl) ?_
              refine va_get (D := D) (ci := 7) (v := .ref (q 8)) (C := R_MO) (T := T_MO) (N := 16) hx hb hts in_MO hown hK hP 0 rfl rfl 9 (by decide) (hts _ w_539) (fun _ h9 => h9) rfl d_MO_color_121 ?_
              refine lv_bipush (v := nI 7) hx hb d_MO_color_124 (by decide +kernel) ?_
              refine va_iald hx hb hK hP 8 0 rfl rfl (vp_in_nI (by omega) (by omega)) d_MO_color_126 ?_
              refine ss_rt (y := nI (R 7)) (congrArg (fun z => nI (R z)) (nI_clamp (by omega))) ?_
              have g5 := hR 7
              refine lv_bipush (v := nI 16) hx hb d_MO_color_127 (by decide +kernel) ?_
              refine lv_irem hx hb d_MO_color_129 (by first | decide +kernel | exact nI_ne0 (by omega) (by omega)) ?_
              refine ss_rt (y := nI ((R 7) % 16)) (pk_rem (by omega) (by omega) (by omega)) ?_
              refine lv_goto (tgt := 134) hx hb d_MO_color_130 (by decide) ?_
              exact rw_reti hx hb hr hlocks d_MO_color_134 hS () (by first | (exfalso; omega) | (unfold dpx; rw [hend.2, if_neg (by omega)]) | (unfold dpx dob; rw [hend.2, if_pos (by omega), if_neg (by omega)]) | (unfold dpx dob; rw [hend.2, if_pos (by omega), if_pos (by omega)])) (by rw [show (dts (decide (1 < dht B R ln x 8)) sx) = sx from by first | (exfalso; omega) | (unfold dts; rw [hend.1, decide_eq_true (by omega), if_pos rfl]) | (unfold dts; rw [hend.1, decide_eq_false (by omega), if_neg (by decide)])]; exact hP)
          · have c3 := (n_eq0 (by omega)).mp c3
            refine lv_aload_n hx hb d_MO_color_106 rfl (lv_at hl 4 rfl) ?_
            refine lv_iload_n hx hb d_MO_color_107 rfl (lv_at hl 5 rfl) ?_
            refine lv_aload_n hx hb d_MO_color_108 rfl (lv_at hl 4 rfl) ?_
            refine va_get (D := D) (ci := 7) (v := .int (nI ln)) (C := R_MO) (T := T_MO) (N := 16) hx hb hts in_MO hown hK hP 0 rfl rfl 14 (by decide) (hts _ w_544) (fun _ h9 => h9) rfl d_MO_color_109 ?_
            have g6 := dtl_lt (R := R) hB x ln
            refine kr_iV (As := [.int (nI x), .int (nI ln)]) (rest := []) ⟨hx, hb, hml, hown, hts⟩ (c_MO_tile l D k q cd wd se kd bn sh mb pr B R sx pt rd wt ln px hB hR x ln (by omega) (by omega)) (cwV 2 hts (gV w_689 w_691 w_p29 w_5 w_692) rfl rfl rfl (by decide +kernel) ⟨Nat.le_of_ble_eq_true rfl, Nat.le_of_ble_eq_true rfl⟩) hK hP (va_recv hK hP (ci := 7) (q0 := 0) rfl rfl) rfl hl.1 rfl (Nat.le_of_ble_eq_true rfl) d_MO_color_112 ⟨Nat.zero_le _, Nat.zero_le _⟩ ?_
            refine lv_istore_n (lv' := [(3, .int (nI (dtl B R x ln))), (6, .int (nI i)), (5, .int (nI (dct B R ln i))), (4, .int (nI (dht B R ln x i))), (0, .ref (q 0)), (1, .int (nI x)), (2, .int (nI (dmo B R)))]) hx hb d_MO_color_115 rfl hl (by decide) rfl (fun ls hl => ?_)
            refine lv_iload_n hx hb d_MO_color_116 rfl (lv_at hl 0 rfl) ?_
            refine lv_if_ne (tgt := 133) hx hb d_MO_color_117 (by decide) (fun c7 => ?_) (fun c7 => ?_)
            · have c7 := mt (n_eq0 (by omega)).mpr c7
              refine lv_iload_n hx hb d_MO_color_133 rfl (lv_at hl 0 rfl) ?_
              exact rw_reti hx hb hr hlocks d_MO_color_134 hS () (by first | (exfalso; omega) | (unfold dpx; rw [hend.2, if_neg (by omega)]) | (unfold dpx dob; rw [hend.2, if_pos (by omega), if_neg (by omega)]) | (unfold dpx dob; rw [hend.2, if_pos (by omega), if_pos (by omega)])) (by rw [show (dts (decide (1 < dht B R ln x 8)) sx) = sx from by first | (exfalso; omega) | (unfold dts; rw [hend.1, decide_eq_true (by omega), if_pos rfl]) | (unfold dts; rw [hend.1, decide_eq_false (by omega), if_neg (by decide)])]; exact hP)
            · have c7 := (n_eq0 (by omega)).mp c7
              refine lv_aload_n hx hb d_MO_color_120 rfl (lv_at hl 4 rfl) ?_
              refine va_get (D := D) (ci := 7) (v := .ref (q 8)) (C := R_MO) (T := T_MO) (N := 16) hx hb hts in_MO hown hK hP 0 rfl rfl 9 (by decide) (hts _ w_539) (fun _ h9 => h9) rfl d_MO_color_121 ?_
              refine lv_bipush (v := nI 7) hx hb d_MO_color_124 (by decide +kernel) ?_
              refine va_iald hx hb hK hP 8 0 rfl rfl (vp_in_nI (by omega) (by omega)) d_MO_color_126 ?_
              refine ss_rt (y := nI (R 7)) (congrArg (fun z => nI (R z)) (nI_clamp (by omega))) ?_
              have g8 := hR 7
              refine lv_bipush (v := nI 16) hx hb d_MO_color_127 (by decide +kernel) ?_
              refine lv_irem hx hb d_MO_color_129 (by first | decide +kernel | exact nI_ne0 (by omega) (by omega)) ?_
              refine ss_rt (y := nI ((R 7) % 16)) (pk_rem (by omega) (by omega) (by omega)) ?_
              refine lv_goto (tgt := 134) hx hb d_MO_color_130 (by decide) ?_
              exact rw_reti hx hb hr hlocks d_MO_color_134 hS () (by first | (exfalso; omega) | (unfold dpx; rw [hend.2, if_neg (by omega)]) | (unfold dpx dob; rw [hend.2, if_pos (by omega), if_neg (by omega)]) | (unfold dpx dob; rw [hend.2, if_pos (by omega), if_pos (by omega)])) (by rw [show (dts (decide (1 < dht B R ln x 8)) sx) = sx from by first | (exfalso; omega) | (unfold dts; rw [hend.1, decide_eq_true (by omega), if_pos rfl]) | (unfold dts; rw [hend.1, decide_eq_false (by omega), if_neg (by decide)])]; exact hP)
        · have c2 := mt (nI_leI (by omega) (by omega)).mpr c2
          refine lv_aload_n hx hb d_MO_color_91 rfl (lv_at hl 4 rfl) ?_
          refine lv_aload_n hx hb d_MO_color_92 rfl (lv_at hl 4 rfl) ?_
          refine va_get (D := D) (ci := 7) (v := .int (nI sx)) (C := R_MO) (T := T_MO) (N := 16) hx hb hts in_MO hown hK hP 0 rfl rfl 10 (by decide) (hts _ w_540) (fun _ h9 => h9) rfl d_MO_color_93 ?_
          refine lv_bipush (v := nI 32) hx hb d_MO_color_96 (by decide +kernel) ?_
          refine lv_ior hx hb d_MO_color_98 ?_
          refine ss_rt (y := nI (ss_so 32 sx)) (ss_or32 _ hsx) ?_
          refine va_put (D := D) (ci := 7) (v := .int (nI (ss_so 32 sx))) (ty := .int) (C := R_MO) (T := T_MO) (N := 16) hx hb hts in_MO t_MO o_MO n_MO hown hK hP hD hS 0 rfl rfl 10 (by decide) (hts _ w_540) (fun _ h9 => h9) rfl (by decide +kernel) rfl rfl (Nat.le_of_ble_eq_true rfl) d_MO_color_99 (fun H locs hP hD hS => ?_)
          have hP : va_P D vwCl (mW q k cd wd se kd bn sh mb pr B R (ss_so 32 sx) pt rd wt ln px) H := hP
          have hD : va_D A (mW q k cd wd se kd bn sh mb pr B R (ss_so 32 sx) pt rd wt ln px) := hD
          refine lv_iload_n hx hb d_MO_color_102 rfl (lv_at hl 3 rfl) ?_
          refine lv_if_ne (tgt := 116) hx hb d_MO_color_103 (by decide) (fun c9 => ?_) (fun c9 => ?_)
          · have c9 := mt (n_eq0 (by omega)).mpr c9
            refine lv_iload_n hx hb d_MO_color_116 rfl (lv_at hl 3 rfl) ?_
            refine lv_if_ne (tgt := 133) hx hb d_MO_color_117 (by decide) (fun c10 => ?_) (fun c10 => ?_)
            · have c10 := mt (n_eq0 (by omega)).mpr c10
              refine lv_iload_n hx hb d_MO_color_133 rfl (lv_at hl 3 rfl) ?_
              exact rw_reti hx hb hr hlocks d_MO_color_134 hS () (by first | (exfalso; omega) | (unfold dpx; rw [hend.2, if_neg (by omega)]) | (unfold dpx dob; rw [hend.2, if_pos (by omega), if_neg (by omega)]) | (unfold dpx dob; rw [hend.2, if_pos (by omega), if_pos (by omega)])) (by rw [show (dts (decide (1 < dht B R ln x 8)) sx) = (ss_so 32 sx) from by first | (exfalso; omega) | (unfold dts; rw [hend.1, decide_eq_true (by omega), if_pos rfl]) | (unfold dts; rw [hend.1, decide_eq_false (by omega), if_neg (by decide)])]; exact hP)
            · have c10 := (n_eq0 (by omega)).mp c10
              refine lv_aload_n hx hb d_MO_color_120 rfl (lv_at hl 4 rfl) ?_
              refine va_get (D := D) (ci := 7) (v := .ref (q 8)) (C := R_MO) (T := T_MO) (N := 16) hx hb hts in_MO hown hK hP 0 rfl rfl 9 (by decide) (hts _ w_539) (fun _ h9 => h9) rfl d_MO_color_121 ?_
              refine lv_bipush (v := nI 7) hx hb d_MO_color_124 (by decide +kernel) ?_
              refine va_iald hx hb hK hP 8 0 rfl rfl (vp_in_nI (by omega) (by omega)) d_MO_color_126 ?_
              refine ss_rt (y := nI (R 7)) (congrArg (fun z => nI (R z)) (nI_clamp (by omega))) ?_
              have g11 := hR 7
              refine lv_bipush (v := nI 16) hx hb d_MO_color_127 (by decide +kernel) ?_
              refine lv_irem hx hb d_MO_color_129 (by first | decide +kernel | exact nI_ne0 (by omega) (by omega)) ?_
              refine ss_rt (y := nI ((R 7) % 16)) (pk_rem (by omega) (by omega) (by omega)) ?_
              refine lv_goto (tgt := 134) hx hb d_MO_color_130 (by decide) ?_
              exact rw_reti hx hb hr hlocks d_MO_color_134 hS () (by first | (exfalso; omega) | (unfold dpx; rw [hend.2, if_neg (by omega)]) | (unfold dpx dob; rw [hend.2, if_pos (by omega), if_neg (by omega)]) | (unfold dpx dob; rw [hend.2, if_pos (by omega), if_pos (by omega)])) (by rw [show (dts (decide (1 < dht B R ln x 8)) sx) = (ss_so 32 sx) from by first | (exfalso; omega) | (unfold dts; rw [hend.1, decide_eq_true (by omega), if_pos rfl]) | (unfold dts; rw [hend.1, decide_eq_false (by omega), if_neg (by decide)])]; exact hP)
          · have c9 := (n_eq0 (by omega)).mp c9
            refine lv_aload_n hx hb d_MO_color_106 rfl (lv_at hl 4 rfl) ?_
            refine lv_iload_n hx hb d_MO_color_107 rfl (lv_at hl 5 rfl) ?_
            refine lv_aload_n hx hb d_MO_color_108 rfl (lv_at hl 4 rfl) ?_
            refine va_get (D := D) (ci := 7) (v := .int (nI ln)) (C := R_MO) (T := T_MO) (N := 16) hx hb hts in_MO hown hK hP 0 rfl rfl 14 (by decide) (hts _ w_544) (fun _ h9 => h9) rfl d_MO_color_109 ?_
            have g12 := dtl_lt (R := R) hB x ln
            refine kr_iV (As := [.int (nI x), .int (nI ln)]) (rest := []) ⟨hx, hb, hml, hown, hts⟩ (c_MO_tile l D k q cd wd se kd bn sh mb pr B R (ss_so 32 sx) pt rd wt ln px hB hR x ln (by omega) (by omega)) (cwV 2 hts (gV w_689 w_691 w_p29 w_5 w_692) rfl rfl rfl (by decide +kernel) ⟨Nat.le_of_ble_eq_true rfl, Nat.le_of_ble_eq_true rfl⟩) hK hP (va_recv hK hP (ci := 7) (q0 := 0) rfl rfl) rfl hl.1 rfl (Nat.le_of_ble_eq_true rfl) d_MO_color_112 ⟨Nat.zero_le _, Nat.zero_le _⟩ ?_
            refine lv_istore_n (lv' := [(3, .int (nI (dtl B R x ln))), (6, .int (nI i)), (5, .int (nI (dct B R ln i))), (4, .int (nI (dht B R ln x i))), (0, .ref (q 0)), (1, .int (nI x)), (2, .int (nI (dmo B R)))]) hx hb d_MO_color_115 rfl hl (by decide) rfl (fun ls hl => ?_)
            refine lv_iload_n hx hb d_MO_color_116 rfl (lv_at hl 0 rfl) ?_
            refine lv_if_ne (tgt := 133) hx hb d_MO_color_117 (by decide) (fun c13 => ?_) (fun c13 => ?_)
            · have c13 := mt (n_eq0 (by omega)).mpr c13
              refine lv_iload_n hx hb d_MO_color_133 rfl (lv_at hl 0 rfl) ?_
              exact rw_reti hx hb hr hlocks d_MO_color_134 hS () (by first | (exfalso; omega) | (unfold dpx; rw [hend.2, if_neg (by omega)]) | (unfold dpx dob; rw [hend.2, if_pos (by omega), if_neg (by omega)]) | (unfold dpx dob; rw [hend.2, if_pos (by omega), if_pos (by omega)])) (by rw [show (dts (decide (1 < dht B R ln x 8)) sx) = (ss_so 32 sx) from by first | (exfalso; omega) | (unfold dts; rw [hend.1, decide_eq_true (by omega), if_pos rfl]) | (unfold dts; rw [hend.1, decide_eq_false (by omega), if_neg (by decide)])]; exact hP)
            · have c13 := (n_eq0 (by omega)).mp c13
              refine lv_aload_n hx hb d_MO_color_120 rfl (lv_at hl 4 rfl) ?_
              refine va_get (D := D) (ci := 7) (v := .ref (q 8)) (C := R_MO) (T := T_MO) (N := 16) hx hb hts in_MO hown hK hP 0 rfl rfl 9 (by decide) (hts _ w_539) (fun _ h9 => h9) rfl d_MO_color_121 ?_
              refine lv_bipush (v := nI 7) hx hb d_MO_color_124 (by decide +kernel) ?_
              refine va_iald hx hb hK hP 8 0 rfl rfl (vp_in_nI (by omega) (by omega)) d_MO_color_126 ?_
              refine ss_rt (y := nI (R 7)) (congrArg (fun z => nI (R z)) (nI_clamp (by omega))) ?_
              have g14 := hR 7
              refine lv_bipush (v := nI 16) hx hb d_MO_color_127 (by decide +kernel) ?_
              refine lv_irem hx hb d_MO_color_129 (by first | decide +kernel | exact nI_ne0 (by omega) (by omega)) ?_
              refine ss_rt (y := nI ((R 7) % 16)) (pk_rem (by omega) (by omega) (by omega)) ?_
              refine lv_goto (tgt := 134) hx hb d_MO_color_130 (by decide) ?_
              exact rw_reti hx hb hr hlocks d_MO_color_134 hS () (by first | (exfalso; omega) | (unfold dpx; rw [hend.2, if_neg (by omega)]) | (unfold dpx dob; rw [hend.2, if_pos (by omega), if_neg (by omega)]) | (unfold dpx dob; rw [hend.2, if_pos (by omega), if_pos (by omega)])) (by rw [show (dts (decide (1 < dht B R ln x 8)) sx) = (ss_so 32 sx) from by first | (exfalso; omega) | (unfold dts; rw [hend.1, decide_eq_true (by omega), if_pos rfl]) | (unfold dts; rw [hend.1, decide_eq_false (by omega), if_neg (by decide)])]; exact hP)
      · have c1 := mt (nI_leI (by omega) (by omega)).mpr c1
        exfalso; omega
    | succ j9 ih =>
      intro i h9 hi H locs hP hD hS ls hl
      have hht : dht B R ln x i ≤ i := dht_le B R ln x i
      have hcl : dcl B R ln x i < 16 := dcl_lt B R ln x i
      refine lv_iload hx hb d_MO_color_11 (lv_at hl 0 rfl) ?_
      refine lv_iload_n hx hb d_MO_color_13 rfl (lv_at hl 6 rfl) ?_
      refine lv_icmp_ge (tgt := 85) hx hb d_MO_color_14 (by decide) (fun c15 => ?_) (fun c15 => ?_)
      · have c15 := (nI_leI (by omega) (by omega)).mp c15
        have hend := dht_end (B := B) (R := R) (L := ln) x (k := i) (by omega) (by omega)
        refine lv_iload hx hb d_MO_color_85 (lv_at hl 2 rfl) ?_
        refine lv_iconst (v := nI 1) hx hb d_MO_color_87 (by decide +kernel) ?_
        refine lv_icmp_le (tgt := 102) hx hb d_MO_color_88 (by decide) (fun c16 => ?_) (fun c16 => ?_)
        · have c16 := (nI_leI (by omega) (by omega)).mp c16
          refine lv_iload_n hx hb d_MO_color_102 rfl (lv_at hl 3 rfl) ?_
          refine lv_if_ne (tgt := 116) hx hb d_MO_color_103 (by decide) (fun c17 => ?_) (fun c17 => ?_)
          · have c17 := mt (n_eq0 (by omega)).mpr c17
            refine lv_iload_n hx hb d_MO_color_116 rfl (lv_at hl 3 rfl) ?_
            refine lv_if_ne (tgt := 133) hx hb d_MO_color_117 (by decide) (fun c18 => ?_) (fun c18 => ?_)
            · have c18 := mt (n_eq0 (by omega)).mpr c18
              refine lv_iload_n hx hb d_MO_color_133 rfl (lv_at hl 3 rfl) ?_
              exact rw_reti hx hb hr hlocks d_MO_color_134 hS () (by first | (exfalso; omega) | (unfold dpx; rw [hend.2, if_neg (by omega)]) | (unfold dpx dob; rw [hend.2, if_pos (by omega), if_neg (by omega)]) | (unfold dpx dob; rw [hend.2, if_pos (by omega), if_pos (by omega)])) (by rw [show (dts (decide (1 < dht B R ln x 8)) sx) = sx from by first | (exfalso; omega) | (unfold dts; rw [hend.1, decide_eq_true (by omega), if_pos rfl]) | (unfold dts; rw [hend.1, decide_eq_false (by omega), if_neg (by decide)])]; exact hP)
            · have c18 := (n_eq0 (by omega)).mp c18
              refine lv_aload_n hx hb d_MO_color_120 rfl (lv_at hl 4 rfl) ?_
              refine va_get (D := D) (ci := 7) (v := .ref (q 8)) (C := R_MO) (T := T_MO) (N := 16) hx hb hts in_MO hown hK hP 0 rfl rfl 9 (by decide) (hts _ w_539) (fun _ h9 => h9) rfl d_MO_color_121 ?_
              refine lv_bipush (v := nI 7) hx hb d_MO_color_124 (by decide +kernel) ?_
              refine va_iald hx hb hK hP 8 0 rfl rfl (vp_in_nI (by omega) (by omega)) d_MO_color_126 ?_
              refine ss_rt (y := nI (R 7)) (congrArg (fun z => nI (R z)) (nI_clamp (by omega))) ?_
              have g19 := hR 7
              refine lv_bipush (v := nI 16) hx hb d_MO_color_127 (by decide +kernel) ?_
              refine lv_irem hx hb d_MO_color_129 (by first | decide +kernel | exact nI_ne0 (by omega) (by omega)) ?_
              refine ss_rt (y := nI ((R 7) % 16)) (pk_rem (by omega) (by omega) (by omega)) ?_
              refine lv_goto (tgt := 134) hx hb d_MO_color_130 (by decide) ?_
              exact rw_reti hx hb hr hlocks d_MO_color_134 hS () (by first | (exfalso; omega) | (unfold dpx; rw [hend.2, if_neg (by omega)]) | (unfold dpx dob; rw [hend.2, if_pos (by omega), if_neg (by omega)]) | (unfold dpx dob; rw [hend.2, if_pos (by omega), if_pos (by omega)])) (by rw [show (dts (decide (1 < dht B R ln x 8)) sx) = sx from by first | (exfalso; omega) | (unfold dts; rw [hend.1, decide_eq_true (by omega), if_pos rfl]) | (unfold dts; rw [hend.1, decide_eq_false (by omega), if_neg (by decide)])]; exact hP)
          · have c17 := (n_eq0 (by omega)).mp c17
            refine lv_aload_n hx hb d_MO_color_106 rfl (lv_at hl 4 rfl) ?_
            refine lv_iload_n hx hb d_MO_color_107 rfl (lv_at hl 5 rfl) ?_
            refine lv_aload_n hx hb d_MO_color_108 rfl (lv_at hl 4 rfl) ?_
            refine va_get (D := D) (ci := 7) (v := .int (nI ln)) (C := R_MO) (T := T_MO) (N := 16) hx hb hts in_MO hown hK hP 0 rfl rfl 14 (by decide) (hts _ w_544) (fun _ h9 => h9) rfl d_MO_color_109 ?_
            have g20 := dtl_lt (R := R) hB x ln
            refine kr_iV (As := [.int (nI x), .int (nI ln)]) (rest := []) ⟨hx, hb, hml, hown, hts⟩ (c_MO_tile l D k q cd wd se kd bn sh mb pr B R sx pt rd wt ln px hB hR x ln (by omega) (by omega)) (cwV 2 hts (gV w_689 w_691 w_p29 w_5 w_692) rfl rfl rfl (by decide +kernel) ⟨Nat.le_of_ble_eq_true rfl, Nat.le_of_ble_eq_true rfl⟩) hK hP (va_recv hK hP (ci := 7) (q0 := 0) rfl rfl) rfl hl.1 rfl (Nat.le_of_ble_eq_true rfl) d_MO_color_112 ⟨Nat.zero_le _, Nat.zero_le _⟩ ?_
            refine lv_istore_n (lv' := [(3, .int (nI (dtl B R x ln))), (6, .int (nI i)), (5, .int (nI (dct B R ln i))), (4, .int (nI (dht B R ln x i))), (0, .ref (q 0)), (1, .int (nI x)), (2, .int (nI (dmo B R)))]) hx hb d_MO_color_115 rfl hl (by decide) rfl (fun ls hl => ?_)
            refine lv_iload_n hx hb d_MO_color_116 rfl (lv_at hl 0 rfl) ?_
            refine lv_if_ne (tgt := 133) hx hb d_MO_color_117 (by decide) (fun c21 => ?_) (fun c21 => ?_)
            · have c21 := mt (n_eq0 (by omega)).mpr c21
              refine lv_iload_n hx hb d_MO_color_133 rfl (lv_at hl 0 rfl) ?_
              exact rw_reti hx hb hr hlocks d_MO_color_134 hS () (by first | (exfalso; omega) | (unfold dpx; rw [hend.2, if_neg (by omega)]) | (unfold dpx dob; rw [hend.2, if_pos (by omega), if_neg (by omega)]) | (unfold dpx dob; rw [hend.2, if_pos (by omega), if_pos (by omega)])) (by rw [show (dts (decide (1 < dht B R ln x 8)) sx) = sx from by first | (exfalso; omega) | (unfold dts; rw [hend.1, decide_eq_true (by omega), if_pos rfl]) | (unfold dts; rw [hend.1, decide_eq_false (by omega), if_neg (by decide)])]; exact hP)
            · have c21 := (n_eq0 (by omega)).mp c21
              refine lv_aload_n hx hb d_MO_color_120 rfl (lv_at hl 4 rfl) ?_
              refine va_get (D := D) (ci := 7) (v := .ref (q 8)) (C := R_MO) (T := T_MO) (N := 16) hx hb hts in_MO hown hK hP 0 rfl rfl 9 (by decide) (hts _ w_539) (fun _ h9 => h9) rfl d_MO_color_121 ?_
              refine lv_bipush (v := nI 7) hx hb d_MO_color_124 (by decide +kernel) ?_
              refine va_iald hx hb hK hP 8 0 rfl rfl (vp_in_nI (by omega) (by omega)) d_MO_color_126 ?_
              refine ss_rt (y := nI (R 7)) (congrArg (fun z => nI (R z)) (nI_clamp (by omega))) ?_
              have g22 := hR 7
              refine lv_bipush (v := nI 16) hx hb d_MO_color_127 (by decide +kernel) ?_
              refine lv_irem hx hb d_MO_color_129 (by first | decide +kernel | exact nI_ne0 (by omega) (by omega)) ?_
              refine ss_rt (y := nI ((R 7) % 16)) (pk_rem (by omega) (by omega) (by omega)) ?_
              refine lv_goto (tgt := 134) hx hb d_MO_color_130 (by decide) ?_
              exact rw_reti hx hb hr hlocks d_MO_color_134 hS () (by first | (exfalso; omega) | (unfold dpx; rw [hend.2, if_neg (by omega)]) | (unfold dpx dob; rw [hend.2, if_pos (by omega), if_neg (by omega)]) | (unfold dpx dob; rw [hend.2, if_pos (by omega), if_pos (by omega)])) (by rw [show (dts (decide (1 < dht B R ln x 8)) sx) = sx from by first | (exfalso; omega) | (unfold dts; rw [hend.1, decide_eq_true (by omega), if_pos rfl]) | (unfold dts; rw [hend.1, decide_eq_false (by omega), if_neg (by decide)])]; exact hP)
        · have c16 := mt (nI_leI (by omega) (by omega)).mpr c16
          refine lv_aload_n hx hb d_MO_color_91 rfl (lv_at hl 4 rfl) ?_
          refine lv_aload_n hx hb d_MO_color_92 rfl (lv_at hl 4 rfl) ?_
          refine va_get (D := D) (ci := 7) (v := .int (nI sx)) (C := R_MO) (T := T_MO) (N := 16) hx hb hts in_MO hown hK hP 0 rfl rfl 10 (by decide) (hts _ w_540) (fun _ h9 => h9) rfl d_MO_color_93 ?_
          refine lv_bipush (v := nI 32) hx hb d_MO_color_96 (by decide +kernel) ?_
          refine lv_ior hx hb d_MO_color_98 ?_
          refine ss_rt (y := nI (ss_so 32 sx)) (ss_or32 _ hsx) ?_
          refine va_put (D := D) (ci := 7) (v := .int (nI (ss_so 32 sx))) (ty := .int) (C := R_MO) (T := T_MO) (N := 16) hx hb hts in_MO t_MO o_MO n_MO hown hK hP hD hS 0 rfl rfl 10 (by decide) (hts _ w_540) (fun _ h9 => h9) rfl (by decide +kernel) rfl rfl (Nat.le_of_ble_eq_true rfl) d_MO_color_99 (fun H locs hP hD hS => ?_)
          have hP : va_P D vwCl (mW q k cd wd se kd bn sh mb pr B R (ss_so 32 sx) pt rd wt ln px) H := hP
          have hD : va_D A (mW q k cd wd se kd bn sh mb pr B R (ss_so 32 sx) pt rd wt ln px) := hD
          refine lv_iload_n hx hb d_MO_color_102 rfl (lv_at hl 3 rfl) ?_
          refine lv_if_ne (tgt := 116) hx hb d_MO_color_103 (by decide) (fun c23 => ?_) (fun c23 => ?_)
          · have c23 := mt (n_eq0 (by omega)).mpr c23
            refine lv_iload_n hx hb d_MO_color_116 rfl (lv_at hl 3 rfl) ?_
            refine lv_if_ne (tgt := 133) hx hb d_MO_color_117 (by decide) (fun c24 => ?_) (fun c24 => ?_)
            · have c24 := mt (n_eq0 (by omega)).mpr c24
              refine lv_iload_n hx hb d_MO_color_133 rfl (lv_at hl 3 rfl) ?_
              exact rw_reti hx hb hr hlocks d_MO_color_134 hS () (by first | (exfalso; omega) | (unfold dpx; rw [hend.2, if_neg (by omega)]) | (unfold dpx dob; rw [hend.2, if_pos (by omega), if_neg (by omega)]) | (unfold dpx dob; rw [hend.2, if_pos (by omega), if_pos (by omega)])) (by rw [show (dts (decide (1 < dht B R ln x 8)) sx) = (ss_so 32 sx) from by first | (exfalso; omega) | (unfold dts; rw [hend.1, decide_eq_true (by omega), if_pos rfl]) | (unfold dts; rw [hend.1, decide_eq_false (by omega), if_neg (by decide)])]; exact hP)
            · have c24 := (n_eq0 (by omega)).mp c24
              refine lv_aload_n hx hb d_MO_color_120 rfl (lv_at hl 4 rfl) ?_
              refine va_get (D := D) (ci := 7) (v := .ref (q 8)) (C := R_MO) (T := T_MO) (N := 16) hx hb hts in_MO hown hK hP 0 rfl rfl 9 (by decide) (hts _ w_539) (fun _ h9 => h9) rfl d_MO_color_121 ?_
              refine lv_bipush (v := nI 7) hx hb d_MO_color_124 (by decide +kernel) ?_
              refine va_iald hx hb hK hP 8 0 rfl rfl (vp_in_nI (by omega) (by omega)) d_MO_color_126 ?_
              refine ss_rt (y := nI (R 7)) (congrArg (fun z => nI (R z)) (nI_clamp (by omega))) ?_
              have g25 := hR 7
              refine lv_bipush (v := nI 16) hx hb d_MO_color_127 (by decide +kernel) ?_
              refine lv_irem hx hb d_MO_color_129 (by first | decide +kernel | exact nI_ne0 (by omega) (by omega)) ?_
              refine ss_rt (y := nI ((R 7) % 16)) (pk_rem (by omega) (by omega) (by omega)) ?_
              refine lv_goto (tgt := 134) hx hb d_MO_color_130 (by decide) ?_
              exact rw_reti hx hb hr hlocks d_MO_color_134 hS () (by first | (exfalso; omega) | (unfold dpx; rw [hend.2, if_neg (by omega)]) | (unfold dpx dob; rw [hend.2, if_pos (by omega), if_neg (by omega)]) | (unfold dpx dob; rw [hend.2, if_pos (by omega), if_pos (by omega)])) (by rw [show (dts (decide (1 < dht B R ln x 8)) sx) = (ss_so 32 sx) from by first | (exfalso; omega) | (unfold dts; rw [hend.1, decide_eq_true (by omega), if_pos rfl]) | (unfold dts; rw [hend.1, decide_eq_false (by omega), if_neg (by decide)])]; exact hP)
          · have c23 := (n_eq0 (by omega)).mp c23
            refine lv_aload_n hx hb d_MO_color_106 rfl (lv_at hl 4 rfl) ?_
            refine lv_iload_n hx hb d_MO_color_107 rfl (lv_at hl 5 rfl) ?_
            refine lv_aload_n hx hb d_MO_color_108 rfl (lv_at hl 4 rfl) ?_
            refine va_get (D := D) (ci := 7) (v := .int (nI ln)) (C := R_MO) (T := T_MO) (N := 16) hx hb hts in_MO hown hK hP 0 rfl rfl 14 (by decide) (hts _ w_544) (fun _ h9 => h9) rfl d_MO_color_109 ?_
            have g26 := dtl_lt (R := R) hB x ln
            refine kr_iV (As := [.int (nI x), .int (nI ln)]) (rest := []) ⟨hx, hb, hml, hown, hts⟩ (c_MO_tile l D k q cd wd se kd bn sh mb pr B R (ss_so 32 sx) pt rd wt ln px hB hR x ln (by omega) (by omega)) (cwV 2 hts (gV w_689 w_691 w_p29 w_5 w_692) rfl rfl rfl (by decide +kernel) ⟨Nat.le_of_ble_eq_true rfl, Nat.le_of_ble_eq_true rfl⟩) hK hP (va_recv hK hP (ci := 7) (q0 := 0) rfl rfl) rfl hl.1 rfl (Nat.le_of_ble_eq_true rfl) d_MO_color_112 ⟨Nat.zero_le _, Nat.zero_le _⟩ ?_
            refine lv_istore_n (lv' := [(3, .int (nI (dtl B R x ln))), (6, .int (nI i)), (5, .int (nI (dct B R ln i))), (4, .int (nI (dht B R ln x i))), (0, .ref (q 0)), (1, .int (nI x)), (2, .int (nI (dmo B R)))]) hx hb d_MO_color_115 rfl hl (by decide) rfl (fun ls hl => ?_)
            refine lv_iload_n hx hb d_MO_color_116 rfl (lv_at hl 0 rfl) ?_
            refine lv_if_ne (tgt := 133) hx hb d_MO_color_117 (by decide) (fun c27 => ?_) (fun c27 => ?_)
            · have c27 := mt (n_eq0 (by omega)).mpr c27
              refine lv_iload_n hx hb d_MO_color_133 rfl (lv_at hl 0 rfl) ?_
              exact rw_reti hx hb hr hlocks d_MO_color_134 hS () (by first | (exfalso; omega) | (unfold dpx; rw [hend.2, if_neg (by omega)]) | (unfold dpx dob; rw [hend.2, if_pos (by omega), if_neg (by omega)]) | (unfold dpx dob; rw [hend.2, if_pos (by omega), if_pos (by omega)])) (by rw [show (dts (decide (1 < dht B R ln x 8)) sx) = (ss_so 32 sx) from by first | (exfalso; omega) | (unfold dts; rw [hend.1, decide_eq_true (by omega), if_pos rfl]) | (unfold dts; rw [hend.1, decide_eq_false (by omega), if_neg (by decide)])]; exact hP)
            · have c27 := (n_eq0 (by omega)).mp c27
              refine lv_aload_n hx hb d_MO_color_120 rfl (lv_at hl 4 rfl) ?_
              refine va_get (D := D) (ci := 7) (v := .ref (q 8)) (C := R_MO) (T := T_MO) (N := 16) hx hb hts in_MO hown hK hP 0 rfl rfl 9 (by decide) (hts _ w_539) (fun _ h9 => h9) rfl d_MO_color_121 ?_
              refine lv_bipush (v := nI 7) hx hb d_MO_color_124 (by decide +kernel) ?_
              refine va_iald hx hb hK hP 8 0 rfl rfl (vp_in_nI (by omega) (by omega)) d_MO_color_126 ?_
              refine ss_rt (y := nI (R 7)) (congrArg (fun z => nI (R z)) (nI_clamp (by omega))) ?_
              have g28 := hR 7
              refine lv_bipush (v := nI 16) hx hb d_MO_color_127 (by decide +kernel) ?_
              refine lv_irem hx hb d_MO_color_129 (by first | decide +kernel | exact nI_ne0 (by omega) (by omega)) ?_
              refine ss_rt (y := nI ((R 7) % 16)) (pk_rem (by omega) (by omega) (by omega)) ?_
              refine lv_goto (tgt := 134) hx hb d_MO_color_130 (by decide) ?_
              exact rw_reti hx hb hr hlocks d_MO_color_134 hS () (by first | (exfalso; omega) | (unfold dpx; rw [hend.2, if_neg (by omega)]) | (unfold dpx dob; rw [hend.2, if_pos (by omega), if_neg (by omega)]) | (unfold dpx dob; rw [hend.2, if_pos (by omega), if_pos (by omega)])) (by rw [show (dts (decide (1 < dht B R ln x 8)) sx) = (ss_so 32 sx) from by first | (exfalso; omega) | (unfold dts; rw [hend.1, decide_eq_true (by omega), if_pos rfl]) | (unfold dts; rw [hend.1, decide_eq_false (by omega), if_neg (by decide)])]; exact hP)
      · have c15 := mt (nI_leI (by omega) (by omega)).mpr c15
        refine lv_iload hx hb d_MO_color_17 (lv_at hl 1 rfl) ?_
        refine lv_iconst (v := nI 4) hx hb d_MO_color_19 (by decide +kernel) ?_
        refine lv_icmp_ge (tgt := 85) hx hb d_MO_color_20 (by decide) (fun c29 => ?_) (fun c29 => ?_)
        · have c29 := (nI_leI (by omega) (by omega)).mp c29
          have hend := dht_end (B := B) (R := R) (L := ln) x (k := i) (by omega) (by omega)
          refine lv_iload hx hb d_MO_color_85 (lv_at hl 2 rfl) ?_
          refine lv_iconst (v := nI 1) hx hb d_MO_color_87 (by decide +kernel) ?_
          refine lv_icmp_le (tgt := 102) hx hb d_MO_color_88 (by decide) (fun c30 => ?_) (fun c30 => ?_)
          · have c30 := (nI_leI (by omega) (by omega)).mp c30
            refine lv_iload_n hx hb d_MO_color_102 rfl (lv_at hl 3 rfl) ?_
            refine lv_if_ne (tgt := 116) hx hb d_MO_color_103 (by decide) (fun c31 => ?_) (fun c31 => ?_)
            · have c31 := mt (n_eq0 (by omega)).mpr c31
              refine lv_iload_n hx hb d_MO_color_116 rfl (lv_at hl 3 rfl) ?_
              refine lv_if_ne (tgt := 133) hx hb d_MO_color_117 (by decide) (fun c32 => ?_) (fun c32 => ?_)
              · have c32 := mt (n_eq0 (by omega)).mpr c32
                refine lv_iload_n hx hb d_MO_color_133 rfl (lv_at hl 3 rfl) ?_
                exact rw_reti hx hb hr hlocks d_MO_color_134 hS () (by first | (exfalso; omega) | (unfold dpx; rw [hend.2, if_neg (by omega)]) | (unfold dpx dob; rw [hend.2, if_pos (by omega), if_neg (by omega)]) | (unfold dpx dob; rw [hend.2, if_pos (by omega), if_pos (by omega)])) (by rw [show (dts (decide (1 < dht B R ln x 8)) sx) = sx from by first | (exfalso; omega) | (unfold dts; rw [hend.1, decide_eq_true (by omega), if_pos rfl]) | (unfold dts; rw [hend.1, decide_eq_false (by omega), if_neg (by decide)])]; exact hP)
              · have c32 := (n_eq0 (by omega)).mp c32
                refine lv_aload_n hx hb d_MO_color_120 rfl (lv_at hl 4 rfl) ?_
                refine va_get (D := D) (ci := 7) (v := .ref (q 8)) (C := R_MO) (T := T_MO) (N := 16) hx hb hts in_MO hown hK hP 0 rfl rfl 9 (by decide) (hts _ w_539) (fun _ h9 => h9) rfl d_MO_color_121 ?_
                refine lv_bipush (v := nI 7) hx hb d_MO_color_124 (by decide +kernel) ?_
                refine va_iald hx hb hK hP 8 0 rfl rfl (vp_in_nI (by omega) (by omega)) d_MO_color_126 ?_
                refine ss_rt (y := nI (R 7)) (congrArg (fun z => nI (R z)) (nI_clamp (by omega))) ?_
                have g33 := hR 7
                refine lv_bipush (v := nI 16) hx hb d_MO_color_127 (by decide +kernel) ?_
                refine lv_irem hx hb d_MO_color_129 (by first | decide +kernel | exact nI_ne0 (by omega) (by omega)) ?_
                refine ss_rt (y := nI ((R 7) % 16)) (pk_rem (by omega) (by omega) (by omega)) ?_
                refine lv_goto (tgt := 134) hx hb d_MO_color_130 (by decide) ?_
                exact rw_reti hx hb hr hlocks d_MO_color_134 hS () (by first | (exfalso; omega) | (unfold dpx; rw [hend.2, if_neg (by omega)]) | (unfold dpx dob; rw [hend.2, if_pos (by omega), if_neg (by omega)]) | (unfold dpx dob; rw [hend.2, if_pos (by omega), if_pos (by omega)])) (by rw [show (dts (decide (1 < dht B R ln x 8)) sx) = sx from by first | (exfalso; omega) | (unfold dts; rw [hend.1, decide_eq_true (by omega), if_pos rfl]) | (unfold dts; rw [hend.1, decide_eq_false (by omega), if_neg (by decide)])]; exact hP)
            · have c31 := (n_eq0 (by omega)).mp c31
              refine lv_aload_n hx hb d_MO_color_106 rfl (lv_at hl 4 rfl) ?_
              refine lv_iload_n hx hb d_MO_color_107 rfl (lv_at hl 5 rfl) ?_
              refine lv_aload_n hx hb d_MO_color_108 rfl (lv_at hl 4 rfl) ?_
              refine va_get (D := D) (ci := 7) (v := .int (nI ln)) (C := R_MO) (T := T_MO) (N := 16) hx hb hts in_MO hown hK hP 0 rfl rfl 14 (by decide) (hts _ w_544) (fun _ h9 => h9) rfl d_MO_color_109 ?_
              have g34 := dtl_lt (R := R) hB x ln
              refine kr_iV (As := [.int (nI x), .int (nI ln)]) (rest := []) ⟨hx, hb, hml, hown, hts⟩ (c_MO_tile l D k q cd wd se kd bn sh mb pr B R sx pt rd wt ln px hB hR x ln (by omega) (by omega)) (cwV 2 hts (gV w_689 w_691 w_p29 w_5 w_692) rfl rfl rfl (by decide +kernel) ⟨Nat.le_of_ble_eq_true rfl, Nat.le_of_ble_eq_true rfl⟩) hK hP (va_recv hK hP (ci := 7) (q0 := 0) rfl rfl) rfl hl.1 rfl (Nat.le_of_ble_eq_true rfl) d_MO_color_112 ⟨Nat.zero_le _, Nat.zero_le _⟩ ?_
              refine lv_istore_n (lv' := [(3, .int (nI (dtl B R x ln))), (6, .int (nI i)), (5, .int (nI (dct B R ln i))), (4, .int (nI (dht B R ln x i))), (0, .ref (q 0)), (1, .int (nI x)), (2, .int (nI (dmo B R)))]) hx hb d_MO_color_115 rfl hl (by decide) rfl (fun ls hl => ?_)
              refine lv_iload_n hx hb d_MO_color_116 rfl (lv_at hl 0 rfl) ?_
              refine lv_if_ne (tgt := 133) hx hb d_MO_color_117 (by decide) (fun c35 => ?_) (fun c35 => ?_)
              · have c35 := mt (n_eq0 (by omega)).mpr c35
                refine lv_iload_n hx hb d_MO_color_133 rfl (lv_at hl 0 rfl) ?_
                exact rw_reti hx hb hr hlocks d_MO_color_134 hS () (by first | (exfalso; omega) | (unfold dpx; rw [hend.2, if_neg (by omega)]) | (unfold dpx dob; rw [hend.2, if_pos (by omega), if_neg (by omega)]) | (unfold dpx dob; rw [hend.2, if_pos (by omega), if_pos (by omega)])) (by rw [show (dts (decide (1 < dht B R ln x 8)) sx) = sx from by first | (exfalso; omega) | (unfold dts; rw [hend.1, decide_eq_true (by omega), if_pos rfl]) | (unfold dts; rw [hend.1, decide_eq_false (by omega), if_neg (by decide)])]; exact hP)
              · have c35 := (n_eq0 (by omega)).mp c35
                refine lv_aload_n hx hb d_MO_color_120 rfl (lv_at hl 4 rfl) ?_
                refine va_get (D := D) (ci := 7) (v := .ref (q 8)) (C := R_MO) (T := T_MO) (N := 16) hx hb hts in_MO hown hK hP 0 rfl rfl 9 (by decide) (hts _ w_539) (fun _ h9 => h9) rfl d_MO_color_121 ?_
                refine lv_bipush (v := nI 7) hx hb d_MO_color_124 (by decide +kernel) ?_
                refine va_iald hx hb hK hP 8 0 rfl rfl (vp_in_nI (by omega) (by omega)) d_MO_color_126 ?_
                refine ss_rt (y := nI (R 7)) (congrArg (fun z => nI (R z)) (nI_clamp (by omega))) ?_
                have g36 := hR 7
                refine lv_bipush (v := nI 16) hx hb d_MO_color_127 (by decide +kernel) ?_
                refine lv_irem hx hb d_MO_color_129 (by first | decide +kernel | exact nI_ne0 (by omega) (by omega)) ?_
                refine ss_rt (y := nI ((R 7) % 16)) (pk_rem (by omega) (by omega) (by omega)) ?_
                refine lv_goto (tgt := 134) hx hb d_MO_color_130 (by decide) ?_
                exact rw_reti hx hb hr hlocks d_MO_color_134 hS () (by first | (exfalso; omega) | (unfold dpx; rw [hend.2, if_neg (by omega)]) | (unfold dpx dob; rw [hend.2, if_pos (by omega), if_neg (by omega)]) | (unfold dpx dob; rw [hend.2, if_pos (by omega), if_pos (by omega)])) (by rw [show (dts (decide (1 < dht B R ln x 8)) sx) = sx from by first | (exfalso; omega) | (unfold dts; rw [hend.1, decide_eq_true (by omega), if_pos rfl]) | (unfold dts; rw [hend.1, decide_eq_false (by omega), if_neg (by decide)])]; exact hP)
          · have c30 := mt (nI_leI (by omega) (by omega)).mpr c30
            refine lv_aload_n hx hb d_MO_color_91 rfl (lv_at hl 4 rfl) ?_
            refine lv_aload_n hx hb d_MO_color_92 rfl (lv_at hl 4 rfl) ?_
            refine va_get (D := D) (ci := 7) (v := .int (nI sx)) (C := R_MO) (T := T_MO) (N := 16) hx hb hts in_MO hown hK hP 0 rfl rfl 10 (by decide) (hts _ w_540) (fun _ h9 => h9) rfl d_MO_color_93 ?_
            refine lv_bipush (v := nI 32) hx hb d_MO_color_96 (by decide +kernel) ?_
            refine lv_ior hx hb d_MO_color_98 ?_
            refine ss_rt (y := nI (ss_so 32 sx)) (ss_or32 _ hsx) ?_
            refine va_put (D := D) (ci := 7) (v := .int (nI (ss_so 32 sx))) (ty := .int) (C := R_MO) (T := T_MO) (N := 16) hx hb hts in_MO t_MO o_MO n_MO hown hK hP hD hS 0 rfl rfl 10 (by decide) (hts _ w_540) (fun _ h9 => h9) rfl (by decide +kernel) rfl rfl (Nat.le_of_ble_eq_true rfl) d_MO_color_99 (fun H locs hP hD hS => ?_)
            have hP : va_P D vwCl (mW q k cd wd se kd bn sh mb pr B R (ss_so 32 sx) pt rd wt ln px) H := hP
            have hD : va_D A (mW q k cd wd se kd bn sh mb pr B R (ss_so 32 sx) pt rd wt ln px) := hD
            refine lv_iload_n hx hb d_MO_color_102 rfl (lv_at hl 3 rfl) ?_
            refine lv_if_ne (tgt := 116) hx hb d_MO_color_103 (by decide) (fun c37 => ?_) (fun c37 => ?_)
            · have c37 := mt (n_eq0 (by omega)).mpr c37
              refine lv_iload_n hx hb d_MO_color_116 rfl (lv_at hl 3 rfl) ?_
              refine lv_if_ne (tgt := 133) hx hb d_MO_color_117 (by decide) (fun c38 => ?_) (fun c38 => ?_)
              · have c38 := mt (n_eq0 (by omega)).mpr c38
                refine lv_iload_n hx hb d_MO_color_133 rfl (lv_at hl 3 rfl) ?_
                exact rw_reti hx hb hr hlocks d_MO_color_134 hS () (by first | (exfalso; omega) | (unfold dpx; rw [hend.2, if_neg (by omega)]) | (unfold dpx dob; rw [hend.2, if_pos (by omega), if_neg (by omega)]) | (unfold dpx dob; rw [hend.2, if_pos (by omega), if_pos (by omega)])) (by rw [show (dts (decide (1 < dht B R ln x 8)) sx) = (ss_so 32 sx) from by first | (exfalso; omega) | (unfold dts; rw [hend.1, decide_eq_true (by omega), if_pos rfl]) | (unfold dts; rw [hend.1, decide_eq_false (by omega), if_neg (by decide)])]; exact hP)
              · have c38 := (n_eq0 (by omega)).mp c38
                refine lv_aload_n hx hb d_MO_color_120 rfl (lv_at hl 4 rfl) ?_
                refine va_get (D := D) (ci := 7) (v := .ref (q 8)) (C := R_MO) (T := T_MO) (N := 16) hx hb hts in_MO hown hK hP 0 rfl rfl 9 (by decide) (hts _ w_539) (fun _ h9 => h9) rfl d_MO_color_121 ?_
                refine lv_bipush (v := nI 7) hx hb d_MO_color_124 (by decide +kernel) ?_
                refine va_iald hx hb hK hP 8 0 rfl rfl (vp_in_nI (by omega) (by omega)) d_MO_color_126 ?_
                refine ss_rt (y := nI (R 7)) (congrArg (fun z => nI (R z)) (nI_clamp (by omega))) ?_
                have g39 := hR 7
                refine lv_bipush (v := nI 16) hx hb d_MO_color_127 (by decide +kernel) ?_
                refine lv_irem hx hb d_MO_color_129 (by first | decide +kernel | exact nI_ne0 (by omega) (by omega)) ?_
                refine ss_rt (y := nI ((R 7) % 16)) (pk_rem (by omega) (by omega) (by omega)) ?_
                refine lv_goto (tgt := 134) hx hb d_MO_color_130 (by decide) ?_
                exact rw_reti hx hb hr hlocks d_MO_color_134 hS () (by first | (exfalso; omega) | (unfold dpx; rw [hend.2, if_neg (by omega)]) | (unfold dpx dob; rw [hend.2, if_pos (by omega), if_neg (by omega)]) | (unfold dpx dob; rw [hend.2, if_pos (by omega), if_pos (by omega)])) (by rw [show (dts (decide (1 < dht B R ln x 8)) sx) = (ss_so 32 sx) from by first | (exfalso; omega) | (unfold dts; rw [hend.1, decide_eq_true (by omega), if_pos rfl]) | (unfold dts; rw [hend.1, decide_eq_false (by omega), if_neg (by decide)])]; exact hP)
            · have c37 := (n_eq0 (by omega)).mp c37
              refine lv_aload_n hx hb d_MO_color_106 rfl (lv_at hl 4 rfl) ?_
              refine lv_iload_n hx hb d_MO_color_107 rfl (lv_at hl 5 rfl) ?_
              refine lv_aload_n hx hb d_MO_color_108 rfl (lv_at hl 4 rfl) ?_
              refine va_get (D := D) (ci := 7) (v := .int (nI ln)) (C := R_MO) (T := T_MO) (N := 16) hx hb hts in_MO hown hK hP 0 rfl rfl 14 (by decide) (hts _ w_544) (fun _ h9 => h9) rfl d_MO_color_109 ?_
              have g40 := dtl_lt (R := R) hB x ln
              refine kr_iV (As := [.int (nI x), .int (nI ln)]) (rest := []) ⟨hx, hb, hml, hown, hts⟩ (c_MO_tile l D k q cd wd se kd bn sh mb pr B R (ss_so 32 sx) pt rd wt ln px hB hR x ln (by omega) (by omega)) (cwV 2 hts (gV w_689 w_691 w_p29 w_5 w_692) rfl rfl rfl (by decide +kernel) ⟨Nat.le_of_ble_eq_true rfl, Nat.le_of_ble_eq_true rfl⟩) hK hP (va_recv hK hP (ci := 7) (q0 := 0) rfl rfl) rfl hl.1 rfl (Nat.le_of_ble_eq_true rfl) d_MO_color_112 ⟨Nat.zero_le _, Nat.zero_le _⟩ ?_
              refine lv_istore_n (lv' := [(3, .int (nI (dtl B R x ln))), (6, .int (nI i)), (5, .int (nI (dct B R ln i))), (4, .int (nI (dht B R ln x i))), (0, .ref (q 0)), (1, .int (nI x)), (2, .int (nI (dmo B R)))]) hx hb d_MO_color_115 rfl hl (by decide) rfl (fun ls hl => ?_)
              refine lv_iload_n hx hb d_MO_color_116 rfl (lv_at hl 0 rfl) ?_
              refine lv_if_ne (tgt := 133) hx hb d_MO_color_117 (by decide) (fun c41 => ?_) (fun c41 => ?_)
              · have c41 := mt (n_eq0 (by omega)).mpr c41
                refine lv_iload_n hx hb d_MO_color_133 rfl (lv_at hl 0 rfl) ?_
                exact rw_reti hx hb hr hlocks d_MO_color_134 hS () (by first | (exfalso; omega) | (unfold dpx; rw [hend.2, if_neg (by omega)]) | (unfold dpx dob; rw [hend.2, if_pos (by omega), if_neg (by omega)]) | (unfold dpx dob; rw [hend.2, if_pos (by omega), if_pos (by omega)])) (by rw [show (dts (decide (1 < dht B R ln x 8)) sx) = (ss_so 32 sx) from by first | (exfalso; omega) | (unfold dts; rw [hend.1, decide_eq_true (by omega), if_pos rfl]) | (unfold dts; rw [hend.1, decide_eq_false (by omega), if_neg (by decide)])]; exact hP)
              · have c41 := (n_eq0 (by omega)).mp c41
                refine lv_aload_n hx hb d_MO_color_120 rfl (lv_at hl 4 rfl) ?_
                refine va_get (D := D) (ci := 7) (v := .ref (q 8)) (C := R_MO) (T := T_MO) (N := 16) hx hb hts in_MO hown hK hP 0 rfl rfl 9 (by decide) (hts _ w_539) (fun _ h9 => h9) rfl d_MO_color_121 ?_
                refine lv_bipush (v := nI 7) hx hb d_MO_color_124 (by decide +kernel) ?_
                refine va_iald hx hb hK hP 8 0 rfl rfl (vp_in_nI (by omega) (by omega)) d_MO_color_126 ?_
                refine ss_rt (y := nI (R 7)) (congrArg (fun z => nI (R z)) (nI_clamp (by omega))) ?_
                have g42 := hR 7
                refine lv_bipush (v := nI 16) hx hb d_MO_color_127 (by decide +kernel) ?_
                refine lv_irem hx hb d_MO_color_129 (by first | decide +kernel | exact nI_ne0 (by omega) (by omega)) ?_
                refine ss_rt (y := nI ((R 7) % 16)) (pk_rem (by omega) (by omega) (by omega)) ?_
                refine lv_goto (tgt := 134) hx hb d_MO_color_130 (by decide) ?_
                exact rw_reti hx hb hr hlocks d_MO_color_134 hS () (by first | (exfalso; omega) | (unfold dpx; rw [hend.2, if_neg (by omega)]) | (unfold dpx dob; rw [hend.2, if_pos (by omega), if_neg (by omega)]) | (unfold dpx dob; rw [hend.2, if_pos (by omega), if_pos (by omega)])) (by rw [show (dts (decide (1 < dht B R ln x 8)) sx) = (ss_so 32 sx) from by first | (exfalso; omega) | (unfold dts; rw [hend.1, decide_eq_true (by omega), if_pos rfl]) | (unfold dts; rw [hend.1, decide_eq_false (by omega), if_neg (by decide)])]; exact hP)
        · have c29 := mt (nI_leI (by omega) (by omega)).mpr c29
          by_cases hd : don B R ln i = true
          · skip
            have g43 := drw_lt hd
            have g44 := dsd_or R
            refine lv_aload_n hx hb d_MO_color_23 rfl (lv_at hl 4 rfl) ?_
            refine lv_iload hx hb d_MO_color_24 (lv_at hl 0 rfl) ?_
            refine lv_aload_n hx hb d_MO_color_26 rfl (lv_at hl 4 rfl) ?_
            refine va_get (D := D) (ci := 7) (v := .int (nI ln)) (C := R_MO) (T := T_MO) (N := 16) hx hb hts in_MO hown hK hP 0 rfl rfl 14 (by decide) (hts _ w_544) (fun _ h9 => h9) rfl d_MO_color_27 ?_
            refine kr_iV (As := [.int (nI i), .int (nI ln)]) (rest := []) ⟨hx, hb, hml, hown, hts⟩ (c_MO_rowOn_t l D k q cd wd se kd bn sh mb pr B R sx pt rd wt ln px hB hR i ln (by omega) (by omega) (by assumption)) (cwV 2 hts (gV w_669 w_671 w_p24 w_5 w_672) rfl rfl rfl (by decide +kernel) ⟨Nat.le_of_ble_eq_true rfl, Nat.le_of_ble_eq_true rfl⟩) hK hP (va_recv hK hP (ci := 7) (q0 := 0) rfl rfl) rfl hl.1 rfl (Nat.le_of_ble_eq_true rfl) d_MO_color_30 ⟨Nat.zero_le _, Nat.zero_le _⟩ ?_
            refine lv_istore (lv' := [(7, .int (nI (drw B R ln i))), (6, .int (nI i)), (5, .int (nI (dct B R ln i))), (4, .int (nI (dht B R ln x i))), (3, .int (nI (dcl B R ln x i))), (0, .ref (q 0)), (1, .int (nI x)), (2, .int (nI (dmo B R)))]) hx hb d_MO_color_33 hl (by decide) rfl (fun ls hl => ?_)
            refine lv_iload hx hb d_MO_color_35 (lv_at hl 0 rfl) ?_
            refine lv_if_ge (tgt := 43) hx hb d_MO_color_37 (by decide) (fun c45 => ?_) (fun c45 => ?_)
            · have c45 := (n_ge0 (by omega)).mp c45
              refine lv_iinc (v := nI (dct B R ln i + 1)) (lv' := [(5, .int (nI (dct B R ln i + 1))), (7, .int (nI (drw B R ln i))), (6, .int (nI i)), (4, .int (nI (dht B R ln x i))), (3, .int (nI (dcl B R ln x i))), (0, .ref (q 0)), (1, .int (nI x)), (2, .int (nI (dmo B R)))]) hx hb d_MO_color_43 hl (k := 2) rfl (nI_1 _) (by decide) rfl (fun ls hl => ?_)
              refine lv_aload_n hx hb d_MO_color_46 rfl (lv_at hl 5 rfl) ?_
              refine lv_iload hx hb d_MO_color_47 (lv_at hl 2 rfl) ?_
              refine lv_iload hx hb d_MO_color_49 (lv_at hl 1 rfl) ?_
              refine lv_iload_n hx hb d_MO_color_51 rfl (lv_at hl 6 rfl) ?_
              refine kr_iV (As := [.int (nI i), .int (nI (drw B R ln i)), .int (nI x)]) (rest := []) ⟨hx, hb, hml, hown, hts⟩ (c_MO_has l D k q cd wd se kd bn sh mb pr B R sx pt rd wt ln px hB hR i x (by omega) (by omega) (by assumption)) (cwV 3 hts (gV w_685 w_687 w_p28 w_5 w_688) rfl rfl rfl (by decide +kernel) ⟨Nat.le_of_ble_eq_true rfl, Nat.le_of_ble_eq_true rfl⟩) hK hP (va_recv hK hP (ci := 7) (q0 := 0) rfl rfl) rfl hl.1 rfl (Nat.le_of_ble_eq_true rfl) d_MO_color_52 ⟨Nat.zero_le _, Nat.zero_le _⟩ ?_
              refine lv_if_ne (tgt := 61) hx hb d_MO_color_55 (by decide) (fun c46 => ?_) (fun c46 => ?_)
              · have c46 := mt (bI_0).mpr c46
                have c46 := Classical.not_not.mp c46
                refine lv_iinc (v := nI (dht B R ln x i + 1)) (lv' := [(4, .int (nI (dht B R ln x i + 1))), (5, .int (nI (dct B R ln i + 1))), (7, .int (nI (drw B R ln i))), (6, .int (nI i)), (3, .int (nI (dcl B R ln x i))), (0, .ref (q 0)), (1, .int (nI x)), (2, .int (nI (dmo B R)))]) hx hb d_MO_color_61 hl (k := 3) rfl (nI_1 _) (by decide) rfl (fun ls hl => ?_)
                refine lv_iload_n hx hb d_MO_color_64 rfl (lv_at hl 4 rfl) ?_
                refine lv_if_ne (tgt := 79) hx hb d_MO_color_65 (by decide) (fun c47 => ?_) (fun c47 => ?_)
                · have c47 := mt (n_eq0 (by omega)).mpr c47
                  refine lv_iinc (v := nI (i + 1)) (lv' := [(6, .int (nI (i + 1))), (4, .int (nI (dht B R ln x i + 1))), (5, .int (nI (dct B R ln i + 1))), (7, .int (nI (drw B R ln i))), (3, .int (nI (dcl B R ln x i))), (0, .ref (q 0)), (1, .int (nI x)), (2, .int (nI (dmo B R)))]) hx hb d_MO_color_79 hl (k := 3) rfl (nI_1 _) (by decide) rfl (fun ls hl => ?_)
                  refine lv_goto (tgt := 11) hx hb d_MO_color_82 (by decide) ?_
                  rw [← st_ct hd, ← st_hit hd (by omega) (by omega) (by assumption), ← st_c1 (by omega)] at hl
                  exact ih (i + 1) (by omega) ⟨by omega, by first | (rw [st_ct hd]; omega) | (rw [(st_off hd x).1]; omega)⟩ _ _ hP hD hS ls (lv_sub hl [0, 2, 1, 4, 5, 6, 7] rfl)
                · have c47 := (n_eq0 (by omega)).mp c47
                  refine lv_aload_n hx hb d_MO_color_68 rfl (lv_at hl 5 rfl) ?_
                  refine lv_iload hx hb d_MO_color_69 (lv_at hl 3 rfl) ?_
                  refine lv_iconst (v := nI 3) hx hb d_MO_color_71 (by decide +kernel) ?_
                  have g48 := hB (32 * (R 5 % 16) + 4 * i + 3)
                  have g49 : dsp B R i 3 < 256 := hB _
                  refine kr_iV (As := [.int (nI i), .int (nI 3)]) (rest := []) ⟨hx, hb, hml, hown, hts⟩ (c_MO_sprite l D k q cd wd se kd bn sh mb pr B R sx pt rd wt ln px hB hR i 3 (by omega) (by omega)) (cwV 2 hts (gV w_661 w_663 w_p22 w_5 w_664) rfl rfl rfl (by decide +kernel) ⟨Nat.le_of_ble_eq_true rfl, Nat.le_of_ble_eq_true rfl⟩) hK hP (va_recv hK hP (ci := 7) (q0 := 0) rfl rfl) rfl hl.1 rfl (Nat.le_of_ble_eq_true rfl) d_MO_color_72 ⟨Nat.zero_le _, Nat.zero_le _⟩ ?_
                  refine lv_bipush (v := nI 16) hx hb d_MO_color_75 (by decide +kernel) ?_
                  refine lv_irem hx hb d_MO_color_77 (by first | decide +kernel | exact nI_ne0 (by omega) (by omega)) ?_
                  refine ss_rt (y := nI ((dsp B R i 3) % 16)) (pk_rem (by omega) (by omega) (by omega)) ?_
                  refine lv_istore_n (lv' := [(3, .int (nI ((dsp B R i 3) % 16))), (4, .int (nI (dht B R ln x i + 1))), (5, .int (nI (dct B R ln i + 1))), (7, .int (nI (drw B R ln i))), (6, .int (nI i)), (0, .ref (q 0)), (1, .int (nI x)), (2, .int (nI (dmo B R)))]) hx hb d_MO_color_78 rfl hl (by decide) rfl (fun ls hl => ?_)
                  refine lv_iinc (v := nI (i + 1)) (lv' := [(6, .int (nI (i + 1))), (3, .int (nI ((dsp B R i 3) % 16))), (4, .int (nI (dht B R ln x i + 1))), (5, .int (nI (dct B R ln i + 1))), (7, .int (nI (drw B R ln i))), (0, .ref (q 0)), (1, .int (nI x)), (2, .int (nI (dmo B R)))]) hx hb d_MO_color_79 hl (k := 4) rfl (nI_1 _) (by decide) rfl (fun ls hl => ?_)
                  refine lv_goto (tgt := 11) hx hb d_MO_color_82 (by decide) ?_
                  rw [← st_ct hd, ← st_hit hd (by omega) (by omega) (by assumption), ← st_c0 hd (by omega) (by omega) (by assumption) (by omega)] at hl
                  exact ih (i + 1) (by omega) ⟨by omega, by first | (rw [st_ct hd]; omega) | (rw [(st_off hd x).1]; omega)⟩ _ _ hP hD hS ls (lv_sub hl [0, 3, 2, 1, 5, 6, 7] rfl)
              · have c46 := (bI_0).mp c46
                refine lv_goto (tgt := 79) hx hb d_MO_color_58 (by decide) ?_
                refine lv_iinc (v := nI (i + 1)) (lv' := [(6, .int (nI (i + 1))), (5, .int (nI (dct B R ln i + 1))), (7, .int (nI (drw B R ln i))), (4, .int (nI (dht B R ln x i))), (3, .int (nI (dcl B R ln x i))), (0, .ref (q 0)), (1, .int (nI x)), (2, .int (nI (dmo B R)))]) hx hb d_MO_color_79 hl (k := 2) rfl (nI_1 _) (by decide) rfl (fun ls hl => ?_)
                refine lv_goto (tgt := 11) hx hb d_MO_color_82 (by decide) ?_
                rw [← st_ct hd, ← (st_no (by assumption)).1, ← (st_no (by assumption)).2] at hl
                exact ih (i + 1) (by omega) ⟨by omega, by first | (rw [st_ct hd]; omega) | (rw [(st_off hd x).1]; omega)⟩ _ _ hP hD hS ls (lv_sub hl [0, 1, 3, 4, 5, 6, 7] rfl)
            · have c45 := mt (n_ge0 (by omega)).mpr c45
              exfalso; omega
          · skip
            refine lv_aload_n hx hb d_MO_color_23 rfl (lv_at hl 4 rfl) ?_
            refine lv_iload hx hb d_MO_color_24 (lv_at hl 0 rfl) ?_
            refine lv_aload_n hx hb d_MO_color_26 rfl (lv_at hl 4 rfl) ?_
            refine va_get (D := D) (ci := 7) (v := .int (nI ln)) (C := R_MO) (T := T_MO) (N := 16) hx hb hts in_MO hown hK hP 0 rfl rfl 14 (by decide) (hts _ w_544) (fun _ h9 => h9) rfl d_MO_color_27 ?_
            refine kr_iV (As := [.int (nI i), .int (nI ln)]) (rest := []) ⟨hx, hb, hml, hown, hts⟩ (c_MO_rowOn_f l D k q cd wd se kd bn sh mb pr B R sx pt rd wt ln px hB hR i ln (by omega) (by omega) (by assumption)) (cwV 2 hts (gV w_669 w_671 w_p24 w_5 w_672) rfl rfl rfl (by decide +kernel) ⟨Nat.le_of_ble_eq_true rfl, Nat.le_of_ble_eq_true rfl⟩) hK hP (va_recv hK hP (ci := 7) (q0 := 0) rfl rfl) rfl hl.1 rfl (Nat.le_of_ble_eq_true rfl) d_MO_color_30 ⟨Nat.zero_le _, Nat.zero_le _⟩ ?_
            refine lv_istore (lv' := [(7, .int (-1)), (6, .int (nI i)), (5, .int (nI (dct B R ln i))), (4, .int (nI (dht B R ln x i))), (3, .int (nI (dcl B R ln x i))), (0, .ref (q 0)), (1, .int (nI x)), (2, .int (nI (dmo B R)))]) hx hb d_MO_color_33 hl (by decide) rfl (fun ls hl => ?_)
            refine lv_iload hx hb d_MO_color_35 (lv_at hl 0 rfl) ?_
            refine lv_if_ge (tgt := 43) hx hb d_MO_color_37 (by decide) (fun c50 => ?_) (fun c50 => ?_)
            · have c50 := (z_ge0).mp c50
              exact absurd c50 (by decide +kernel)
            · have c50 := mt (z_ge0).mpr c50
              refine lv_goto (tgt := 79) hx hb d_MO_color_40 (by decide) ?_
              refine lv_iinc (v := nI (i + 1)) (lv' := [(6, .int (nI (i + 1))), (7, .int (-1)), (5, .int (nI (dct B R ln i))), (4, .int (nI (dht B R ln x i))), (3, .int (nI (dcl B R ln x i))), (0, .ref (q 0)), (1, .int (nI x)), (2, .int (nI (dmo B R)))]) hx hb d_MO_color_79 hl (k := 1) rfl (nI_1 _) (by decide) rfl (fun ls hl => ?_)
              refine lv_goto (tgt := 11) hx hb d_MO_color_82 (by decide) ?_
              rw [← (st_off hd x).1, ← (st_off hd x).2.1, ← (st_off hd x).2.2] at hl
              exact ih (i + 1) (by omega) ⟨by omega, by first | (rw [st_ct hd]; omega) | (rw [(st_off hd x).1]; omega)⟩ _ _ hP hD hS ls (lv_sub hl [0, 2, 3, 4, 5, 6, 7] rfl)
  exact loop (8 - 0) 0 (by omega) ⟨by omega, by simp [dct]⟩ _ _ hP hD hS ls (lv_sub hl [0, 1, 2, 3, 4, 5, 6] rfl)
end
section
set_option maxHeartbeats 4000000 in
set_option maxRecDepth 100000 in
theorem c_MO_tellFifth (l : Launch) (D : va_G) (k : Nat → ClassId) (q : Nat → Nat) (cd : Int32) (wd : Nat → Nat) (se : Nat → Nat) (kd : Nat → Nat) (bn : Nat → Int32) (sh : Nat → Nat) (mb : Nat → Nat) (pr : Nat) (B : Nat → Nat) (R : Nat → Nat) (sx : Nat) (pt : Nat) (rd : Nat) (wt : Int32) (ln : Nat) (px : Nat → Nat) (hB : ∀ j, B j < 256) (hR : ∀ j, R j < 256) (hsx : sx < 256) (hln : ln < 32) : rw_v l y_MO_tellFifth b_MO_tellFifth 4 none { frames := 4, cells := 0, slots := 0, locals := 85 } D (kT k) (mW q k cd wd se kd bn sh mb pr B R sx pt rd wt ln px) [.ref (q 0), .int (nI (dmo B R))] (fun (_ : Unit) => True) (fun (_ : Unit) => (mW q k cd wd se kd bn sh mb pr B R (d5f B R ln sx 8) pt rd wt ln px)) := by
  refine rw_headv (by decide) (Nat.le_of_ble_eq_true rfl) ?_
  intro p e s m below meth c ls A hx hb hr hlocks hml hown hts hK hA hP hD hS hl
  have hown : s.vm.findClass "SlotScreenModel" = some m.cls := hown
  have hl : lv_has ls 4 [(0, .ref (q 0)), (1, .int (nI (dmo B R)))] := hl
  have z1 := dmo_le B R
  refine lv_iconst (v := nI 0) hx hb d_MO_tellFifth_0 (by decide +kernel) ?_
  refine lv_istore_n (lv' := [(2, .int (nI 0)), (0, .ref (q 0)), (1, .int (nI (dmo B R)))]) hx hb d_MO_tellFifth_1 rfl hl (by decide) rfl (fun ls hl => ?_)
  refine lv_iconst (v := nI 0) hx hb d_MO_tellFifth_2 (by decide +kernel) ?_
  refine lv_istore_n (lv' := [(3, .int (nI 0)), (2, .int (nI 0)), (0, .ref (q 0)), (1, .int (nI (dmo B R)))]) hx hb d_MO_tellFifth_3 rfl hl (by decide) rfl (fun ls hl => ?_)
  have loop : ∀ (j9 i : Nat), i + j9 = dmo B R → ∀ (H : Heap) (locs : List Loc), va_P D vwCl (mW q k cd wd se kd bn sh mb pr B R (d5f B R ln sx i) pt rd wt ln px) H → va_D A (mW q k cd wd se kd bn sh mb pr B R (d5f B R ln sx i) pt rd wt ln px) → va_S A s.heap H locs → ∀ (ls : Array Slot), lv_has ls 4 [(3, .int (nI i)), (2, .int (nI (dct B R ln i))), (0, .ref (q 0)), (1, .int (nI (dmo B R)))] → W p l e (headSpec (wsG y_MO_tellFifth b_MO_tellFifth 4 none) { frames := 4, cells := 0, slots := 0, locals := 85 }).room s m ([.ref (q 0), .int (nI (dmo B R))] : List Value).toArray below meth c H locs 0 0 (MQ below (rw_Qv D (fun (_ : Unit) => True) (fun (_ : Unit) => (mW q k cd wd se kd bn sh mb pr B R (d5f B R ln sx 8) pt rd wt ln px)) A) ([.ref (q 0), .int (nI (dmo B R))] : List Value).toArray s 0 0 A) (F0 m 4 ls []) := by
    intro j9
    induction j9 with
    | zero =>
      intro i h9 H locs hP hD hS ls hl
      have f5 := d5f_lt (B := B) (R := R) (L := ln) hsx i (by omega)
      have f6 := dct_le B R ln i
      refine lv_iload_n hx hb d_MO_tellFifth_4 rfl (lv_at hl 0 rfl) ?_
      refine lv_iload_n hx hb d_MO_tellFifth_5 rfl (lv_at hl 3 rfl) ?_
      refine lv_icmp_ge (tgt := 80) hx hb d_MO_tellFifth_6 (by decide) (fun c1 => ?_) (fun c1 => ?_)
      · have c1 := (nI_leI (by omega) (by omega)).mp c1
        exact rw_retv hx hb hr hlocks d_MO_tellFifth_80 hS () (trivial) (by rw [show (d5f B R ln sx 8) = (d5f B R ln sx i) from by rw [d5f_e, show dmo B R = i by omega]]; exact hP)
      · have c1 := mt (nI_leI (by omega) (by omega)).mpr c1
        exfalso; omega
    | succ j9 ih =>
      intro i h9 H locs hP hD hS ls hl
      have f5 := d5f_lt (B := B) (R := R) (L := ln) hsx i (by omega)
      have f6 := dct_le B R ln i
      refine lv_iload_n hx hb d_MO_tellFifth_4 rfl (lv_at hl 0 rfl) ?_
      refine lv_iload_n hx hb d_MO_tellFifth_5 rfl (lv_at hl 3 rfl) ?_
      refine lv_icmp_ge (tgt := 80) hx hb d_MO_tellFifth_6 (by decide) (fun c2 => ?_) (fun c2 => ?_)
      · have c2 := (nI_leI (by omega) (by omega)).mp c2
        exfalso; omega
      · have c2 := mt (nI_leI (by omega) (by omega)).mpr c2
        by_cases hd : don B R ln i = true
        · skip
          have g3 := drw_lt hd
          have g4 := dsd_or R
          refine lv_aload_n hx hb d_MO_tellFifth_9 rfl (lv_at hl 2 rfl) ?_
          refine lv_iload_n hx hb d_MO_tellFifth_10 rfl (lv_at hl 0 rfl) ?_
          refine lv_aload_n hx hb d_MO_tellFifth_11 rfl (lv_at hl 2 rfl) ?_
          refine va_get (D := D) (ci := 7) (v := .int (nI ln)) (C := R_MO) (T := T_MO) (N := 16) hx hb hts in_MO hown hK hP 0 rfl rfl 14 (by decide) (hts _ w_544) (fun _ h9 => h9) rfl d_MO_tellFifth_12 ?_
          refine kr_iV (As := [.int (nI i), .int (nI ln)]) (rest := []) ⟨hx, hb, hml, hown, hts⟩ (c_MO_rowOn_t l D k q cd wd se kd bn sh mb pr B R (d5f B R ln sx i) pt rd wt ln px hB hR i ln (by omega) (by omega) (by assumption)) (cwV 2 hts (gV w_669 w_671 w_p24 w_5 w_672) rfl rfl rfl (by decide +kernel) ⟨Nat.le_of_ble_eq_true rfl, Nat.le_of_ble_eq_true rfl⟩) hK hP (va_recv hK hP (ci := 7) (q0 := 0) rfl rfl) rfl hl.1 rfl (Nat.le_of_ble_eq_true rfl) d_MO_tellFifth_15 ⟨Nat.zero_le _, Nat.zero_le _⟩ ?_
          refine lv_if_ge (tgt := 24) hx hb d_MO_tellFifth_18 (by decide) (fun c5 => ?_) (fun c5 => ?_)
          · have c5 := (n_ge0 (by omega)).mp c5
            refine lv_iinc (v := nI (dct B R ln i + 1)) (lv' := [(2, .int (nI (dct B R ln i + 1))), (3, .int (nI i)), (0, .ref (q 0)), (1, .int (nI (dmo B R)))]) hx hb d_MO_tellFifth_24 hl (k := 1) rfl (nI_1 _) (by decide) rfl (fun ls hl => ?_)
            refine lv_iload_n hx hb d_MO_tellFifth_27 rfl (lv_at hl 0 rfl) ?_
            refine lv_iconst (v := nI 5) hx hb d_MO_tellFifth_28 (by decide +kernel) ?_
            refine lv_icmp_ne (tgt := 74) hx hb d_MO_tellFifth_29 (by decide) (fun c6 => ?_) (fun c6 => ?_)
            · have c6 := mt (nI_eq (by omega) (by omega)).mpr c6
              refine lv_iinc (v := nI (i + 1)) (lv' := [(3, .int (nI (i + 1))), (2, .int (nI (dct B R ln i + 1))), (0, .ref (q 0)), (1, .int (nI (dmo B R)))]) hx hb d_MO_tellFifth_74 hl (k := 1) rfl (nI_1 _) (by decide) rfl (fun ls hl => ?_)
              refine lv_goto (tgt := 4) hx hb d_MO_tellFifth_77 (by decide) ?_
              rw [← st_ct hd] at hl
              have e5 : d5f B R ln sx (i + 1) = d5f B R ln sx i := by first | exact d5f_0 (by omega) | (rw [d5f_1 (by omega) hd (by omega)]; exact dff_b (by assumption))
              rw [← e5] at hP hD
              exact ih (i + 1) (by omega) _ _ hP hD hS ls (lv_sub hl [0, 1, 2, 3] rfl)
            · have c6 := (nI_eq (by omega) (by omega)).mp c6
              refine lv_aload_n hx hb d_MO_tellFifth_32 rfl (lv_at hl 2 rfl) ?_
              refine lv_aload_n hx hb d_MO_tellFifth_33 rfl (lv_at hl 2 rfl) ?_
              refine va_get (D := D) (ci := 7) (v := .int (nI (d5f B R ln sx i))) (C := R_MO) (T := T_MO) (N := 16) hx hb hts in_MO hown hK hP 0 rfl rfl 10 (by decide) (hts _ w_540) (fun _ h9 => h9) rfl d_MO_tellFifth_34 ?_
              refine lv_bipush (v := nI 6) hx hb d_MO_tellFifth_37 (by decide +kernel) ?_
              refine kr_iV (As := [.int (nI (d5f B R ln sx i)), .int (nI 6)]) (rest := []) ⟨hx, hb, hml, hown, hts⟩ (c_MO_bit l D k q cd wd se kd bn sh mb pr B R (d5f B R ln sx i) pt rd wt ln px (d5f B R ln sx i) 6 (by omega) (by omega)) (cwV 2 hts (gV w_653 w_655 w_p20 w_5 w_656) rfl rfl rfl (by decide +kernel) ⟨Nat.le_of_ble_eq_true rfl, Nat.le_of_ble_eq_true rfl⟩) hK hP (va_recv hK hP (ci := 7) (q0 := 0) rfl rfl) rfl hl.1 rfl (Nat.le_of_ble_eq_true rfl) d_MO_tellFifth_39 ⟨Nat.zero_le _, Nat.zero_le _⟩ ?_
              refine lv_if_ne (tgt := 74) hx hb d_MO_tellFifth_42 (by decide) (fun c7 => ?_) (fun c7 => ?_)
              · have c7 := mt (bI_0).mpr c7
                have c7 := Classical.not_not.mp c7
                refine lv_iinc (v := nI (i + 1)) (lv' := [(3, .int (nI (i + 1))), (2, .int (nI (dct B R ln i + 1))), (0, .ref (q 0)), (1, .int (nI (dmo B R)))]) hx hb d_MO_tellFifth_74 hl (k := 1) rfl (nI_1 _) (by decide) rfl (fun ls hl => ?_)
                refine lv_goto (tgt := 4) hx hb d_MO_tellFifth_77 (by decide) ?_
                rw [← st_ct hd] at hl
                have e5 : d5f B R ln sx (i + 1) = d5f B R ln sx i := by first | exact d5f_0 (by omega) | (rw [d5f_1 (by omega) hd (by omega)]; exact dff_b (by assumption))
                rw [← e5] at hP hD
                exact ih (i + 1) (by omega) _ _ hP hD hS ls (lv_sub hl [0, 1, 2, 3] rfl)
              · have c7 := (bI_0).mp c7
                refine lv_aload_n hx hb d_MO_tellFifth_45 rfl (lv_at hl 2 rfl) ?_
                refine lv_aload_n hx hb d_MO_tellFifth_46 rfl (lv_at hl 2 rfl) ?_
                refine va_get (D := D) (ci := 7) (v := .int (nI (d5f B R ln sx i))) (C := R_MO) (T := T_MO) (N := 16) hx hb hts in_MO hown hK hP 0 rfl rfl 10 (by decide) (hts _ w_540) (fun _ h9 => h9) rfl d_MO_tellFifth_47 ?_
                refine lv_sipush (v := nI 128) hx hb d_MO_tellFifth_50 (by decide +kernel) ?_
                refine lv_idiv hx hb d_MO_tellFifth_53 (by first | decide +kernel | exact nI_ne0 (by omega) (by omega)) ?_
                refine ss_rt (y := nI ((d5f B R ln sx i) / 128)) (pk_div (by omega) (by omega) (by omega)) ?_
                refine lv_sipush (v := nI 128) hx hb d_MO_tellFifth_54 (by decide +kernel) ?_
                refine lv_imul hx hb d_MO_tellFifth_57 ?_
                refine ss_rt (y := nI (((d5f B R ln sx i) / 128) * 128)) (pk_mul _ _) ?_
                refine lv_aload_n hx hb d_MO_tellFifth_58 rfl (lv_at hl 2 rfl) ?_
                refine va_get (D := D) (ci := 7) (v := .int (nI (d5f B R ln sx i))) (C := R_MO) (T := T_MO) (N := 16) hx hb hts in_MO hown hK hP 0 rfl rfl 10 (by decide) (hts _ w_540) (fun _ h9 => h9) rfl d_MO_tellFifth_59 ?_
                refine lv_bipush (v := nI 32) hx hb d_MO_tellFifth_62 (by decide +kernel) ?_
                refine lv_iand hx hb d_MO_tellFifth_64 ?_
                refine ss_rt (y := nI (d5f B R ln sx i / 32 % 2 * 32)) (ss_and32 _ f5) ?_
                refine lv_iadd hx hb d_MO_tellFifth_65 ?_
                refine ss_rt (y := nI (((d5f B R ln sx i) / 128) * 128 + (d5f B R ln sx i / 32 % 2 * 32))) (nI_add _ _) ?_
                refine lv_bipush (v := nI 64) hx hb d_MO_tellFifth_66 (by decide +kernel) ?_
                refine lv_iadd hx hb d_MO_tellFifth_68 ?_
                refine ss_rt (y := nI (((d5f B R ln sx i) / 128) * 128 + (d5f B R ln sx i / 32 % 2 * 32) + 64)) (nI_add _ _) ?_
                refine lv_iload_n hx hb d_MO_tellFifth_69 rfl (lv_at hl 1 rfl) ?_
                refine lv_iadd hx hb d_MO_tellFifth_70 ?_
                refine ss_rt (y := nI (((d5f B R ln sx i) / 128) * 128 + (d5f B R ln sx i / 32 % 2 * 32) + 64 + i)) (nI_add _ _) ?_
                refine va_put (D := D) (ci := 7) (v := .int (nI (((d5f B R ln sx i) / 128) * 128 + (d5f B R ln sx i / 32 % 2 * 32) + 64 + i))) (ty := .int) (C := R_MO) (T := T_MO) (N := 16) hx hb hts in_MO t_MO o_MO n_MO hown hK hP hD hS 0 rfl rfl 10 (by decide) (hts _ w_540) (fun _ h9 => h9) rfl (by decide +kernel) rfl rfl (Nat.le_of_ble_eq_true rfl) d_MO_tellFifth_71 (fun H locs hP hD hS => ?_)
                have hP : va_P D vwCl (mW q k cd wd se kd bn sh mb pr B R (((d5f B R ln sx i) / 128) * 128 + (d5f B R ln sx i / 32 % 2 * 32) + 64 + i) pt rd wt ln px) H := hP
                have hD : va_D A (mW q k cd wd se kd bn sh mb pr B R (((d5f B R ln sx i) / 128) * 128 + (d5f B R ln sx i / 32 % 2 * 32) + 64 + i) pt rd wt ln px) := hD
                refine lv_iinc (v := nI (i + 1)) (lv' := [(3, .int (nI (i + 1))), (2, .int (nI (dct B R ln i + 1))), (0, .ref (q 0)), (1, .int (nI (dmo B R)))]) hx hb d_MO_tellFifth_74 hl (k := 1) rfl (nI_1 _) (by decide) rfl (fun ls hl => ?_)
                refine lv_goto (tgt := 4) hx hb d_MO_tellFifth_77 (by decide) ?_
                rw [← st_ct hd] at hl
                rw [← dff_n (by assumption), ← d5f_1 (by omega) hd (by omega)] at hP hD
                exact ih (i + 1) (by omega) _ _ hP hD hS ls (lv_sub hl [0, 1, 2, 3] rfl)
          · have c5 := mt (n_ge0 (by omega)).mpr c5
            exfalso; omega
        · skip
          refine lv_aload_n hx hb d_MO_tellFifth_9 rfl (lv_at hl 2 rfl) ?_
          refine lv_iload_n hx hb d_MO_tellFifth_10 rfl (lv_at hl 0 rfl) ?_
          refine lv_aload_n hx hb d_MO_tellFifth_11 rfl (lv_at hl 2 rfl) ?_
          refine va_get (D := D) (ci := 7) (v := .int (nI ln)) (C := R_MO) (T := T_MO) (N := 16) hx hb hts in_MO hown hK hP 0 rfl rfl 14 (by decide) (hts _ w_544) (fun _ h9 => h9) rfl d_MO_tellFifth_12 ?_
          refine kr_iV (As := [.int (nI i), .int (nI ln)]) (rest := []) ⟨hx, hb, hml, hown, hts⟩ (c_MO_rowOn_f l D k q cd wd se kd bn sh mb pr B R (d5f B R ln sx i) pt rd wt ln px hB hR i ln (by omega) (by omega) (by assumption)) (cwV 2 hts (gV w_669 w_671 w_p24 w_5 w_672) rfl rfl rfl (by decide +kernel) ⟨Nat.le_of_ble_eq_true rfl, Nat.le_of_ble_eq_true rfl⟩) hK hP (va_recv hK hP (ci := 7) (q0 := 0) rfl rfl) rfl hl.1 rfl (Nat.le_of_ble_eq_true rfl) d_MO_tellFifth_15 ⟨Nat.zero_le _, Nat.zero_le _⟩ ?_
          refine lv_if_ge (tgt := 24) hx hb d_MO_tellFifth_18 (by decide) (fun c8 => ?_) (fun c8 => ?_)
          · have c8 := (z_ge0).mp c8
            exact absurd c8 (by decide +kernel)
          · have c8 := mt (z_ge0).mpr c8
            refine lv_goto (tgt := 74) hx hb d_MO_tellFifth_21 (by decide) ?_
            refine lv_iinc (v := nI (i + 1)) (lv' := [(3, .int (nI (i + 1))), (2, .int (nI (dct B R ln i))), (0, .ref (q 0)), (1, .int (nI (dmo B R)))]) hx hb d_MO_tellFifth_74 hl (k := 0) rfl (nI_1 _) (by decide) rfl (fun ls hl => ?_)
            refine lv_goto (tgt := 4) hx hb d_MO_tellFifth_77 (by decide) ?_
            rw [← (st_off hd 0).1] at hl
            rw [← d5f_0 (fun q => hd q.1)] at hP hD
            exact ih (i + 1) (by omega) _ _ hP hD hS ls (lv_sub hl [0, 1, 2, 3] rfl)
  exact loop (dmo B R - 0) 0 (by omega) _ _ hP hD hS ls (lv_sub hl [0, 1, 2, 3] rfl)
set_option maxHeartbeats 4000000 in
set_option maxRecDepth 100000 in
theorem c_MO_scan_on (l : Launch) (D : va_G) (k : Nat → ClassId) (q : Nat → Nat) (cd : Int32) (wd : Nat → Nat) (se : Nat → Nat) (kd : Nat → Nat) (bn : Nat → Int32) (sh : Nat → Nat) (mb : Nat → Nat) (pr : Nat) (B : Nat → Nat) (R : Nat → Nat) (sx : Nat) (pt : Nat) (rd : Nat) (wt : Int32) (ln : Nat) (px : Nat → Nat) (hB : ∀ j, B j < 256) (hR : ∀ j, R j < 256) (hsx : sx < 256) (hln : ln < 32) (hon : R 1 / 2 ^ 6 % 2 = 1) : rw_i l y_MO_scan b_MO_scan 4 (some .int) { frames := 5, cells := 0, slots := 0, locals := 117 } D (kT k) (mW q k cd wd se kd bn sh mb pr B R sx pt rd wt ln px) [.ref (q 0)] (fun (r : Int32) (_ : Unit) => r = nI ln) (fun (_ : Unit) => (mW q k (nI 0) wd se kd bn sh mb pr B R (if ln = 31 then ss_so 128 (dts (dtc B R ln 8 64) (d5f B R ln sx 8)) else dts (dtc B R ln 8 64) (d5f B R ln sx 8)) pt rd wt ((ln + 1) % 32) (dln (dpx B R ln) ln 64 px))) := by
  refine rw_headi (by decide) (Nat.le_of_ble_eq_true rfl) ?_
  intro p e s m below meth c ls A hx hb hr hlocks hml hown hts hK hA hP hD hS hl
  have hown : s.vm.findClass "SlotScreenModel" = some m.cls := hown
  have hl : lv_has ls 4 [(0, .ref (q 0))] := hl
  have z1 := dmo_le B R
  refine lv_aload_n hx hb d_MO_scan_0 rfl (lv_at hl 0 rfl) ?_
  refine lv_iconst (v := nI 0) hx hb d_MO_scan_1 (by decide +kernel) ?_
  refine va_put (D := D) (ci := 7) (v := .int (nI 0)) (ty := .int) (C := R_MO) (T := T_MO) (N := 16) hx hb hts in_MO t_MO o_MO n_MO hown hK hP hD hS 0 rfl rfl 0 (by decide) (hts _ w_530) (fun _ h9 => h9) rfl (by decide +kernel) rfl rfl (Nat.le_of_ble_eq_true rfl) d_MO_scan_2 (fun H locs hP hD hS => ?_)
  have hP : va_P D vwCl (mW q k (nI 0) wd se kd bn sh mb pr B R sx pt rd wt ln px) H := hP
  have hD : va_D A (mW q k (nI 0) wd se kd bn sh mb pr B R sx pt rd wt ln px) := hD
  refine lv_aload_n hx hb d_MO_scan_5 rfl (lv_at hl 0 rfl) ?_
  refine lv_aload_n hx hb d_MO_scan_6 rfl (lv_at hl 0 rfl) ?_
  refine va_get (D := D) (ci := 7) (v := .ref (q 8)) (C := R_MO) (T := T_MO) (N := 16) hx hb hts in_MO hown hK hP 0 rfl rfl 9 (by decide) (hts _ w_539) (fun _ h9 => h9) rfl d_MO_scan_7 ?_
  refine lv_iconst (v := nI 1) hx hb d_MO_scan_10 (by decide +kernel) ?_
  refine va_iald hx hb hK hP 8 0 rfl rfl (vp_in_nI (by omega) (by omega)) d_MO_scan_11 ?_
  refine ss_rt (y := nI (R 1)) (congrArg (fun z => nI (R z)) (nI_clamp (by omega))) ?_
  have g1 := hR 1
  refine lv_bipush (v := nI 6) hx hb d_MO_scan_12 (by decide +kernel) ?_
  refine kr_iV (As := [.int (nI (R 1)), .int (nI 6)]) (rest := []) ⟨hx, hb, hml, hown, hts⟩ (c_MO_bit l D k q (nI 0) wd se kd bn sh mb pr B R sx pt rd wt ln px (R 1) 6 (by omega) (by omega)) (cwV 2 hts (gV w_653 w_655 w_p20 w_5 w_656) rfl rfl rfl (by decide +kernel) ⟨Nat.le_of_ble_eq_true rfl, Nat.le_of_ble_eq_true rfl⟩) hK hP (va_recv hK hP (ci := 7) (q0 := 0) rfl rfl) rfl hl.1 rfl (Nat.le_of_ble_eq_true rfl) d_MO_scan_14 ⟨Nat.zero_le _, Nat.zero_le _⟩ ?_
  refine lv_istore_n (lv' := [(1, .int (bI ((R 1) / 2 ^ 6 % 2 = 1))), (0, .ref (q 0))]) hx hb d_MO_scan_17 rfl hl (by decide) rfl (fun ls hl => ?_)
  refine lv_aload_n hx hb d_MO_scan_18 rfl (lv_at hl 1 rfl) ?_
  refine kr_iV (As := []) (rest := []) ⟨hx, hb, hml, hown, hts⟩ (c_MO_there l D k q (nI 0) wd se kd bn sh mb pr B R sx pt rd wt ln px hB hR) (cwV 0 hts (gV w_657 w_659 w_p21 w_5 w_660) rfl rfl rfl (by decide +kernel) ⟨Nat.le_of_ble_eq_true rfl, Nat.le_of_ble_eq_true rfl⟩) hK hP (va_recv hK hP (ci := 7) (q0 := 0) rfl rfl) rfl hl.1 rfl (Nat.le_of_ble_eq_true rfl) d_MO_scan_19 ⟨Nat.zero_le _, Nat.zero_le _⟩ ?_
  refine lv_istore_n (lv' := [(2, .int (nI (dmo B R))), (1, .int (bI ((R 1) / 2 ^ 6 % 2 = 1))), (0, .ref (q 0))]) hx hb d_MO_scan_22 rfl hl (by decide) rfl (fun ls hl => ?_)
  refine lv_iload_n hx hb d_MO_scan_23 rfl (lv_at hl 1 rfl) ?_
  refine lv_if_eq (tgt := 32) hx hb d_MO_scan_24 (by decide) (fun c2 => ?_) (fun c2 => ?_)
  · have c2 := (bI_0).mp c2
    exfalso; omega
  · have c2 := mt (bI_0).mpr c2
    have c2 := Classical.not_not.mp c2
    refine lv_aload_n hx hb d_MO_scan_27 rfl (lv_at hl 2 rfl) ?_
    refine lv_iload_n hx hb d_MO_scan_28 rfl (lv_at hl 0 rfl) ?_
    refine kw_vV (As := [.int (nI (dmo B R))]) (rest := []) ⟨hx, hb, hml, hown, hts⟩ (c_MO_tellFifth l D k q (nI 0) wd se kd bn sh mb pr B R sx pt rd wt ln px hB hR (by omega) (by omega)) (cwV 1 hts (gV w_665 w_667 w_p23 w_5 w_668) rfl rfl rfl (by decide +kernel) ⟨Nat.le_of_ble_eq_true rfl, Nat.le_of_ble_eq_true rfl⟩) hK hP hD hS hA (va_recv hK hP (ci := 7) (q0 := 0) rfl rfl) rfl hl.1 rfl (Nat.le_of_ble_eq_true rfl) d_MO_scan_29 ⟨Nat.zero_le _, Nat.zero_le _⟩ (fun _ H locs _ hP _ hS => ?_)
    have hD : va_D A (mW q k (nI 0) wd se kd bn sh mb pr B R (d5f B R ln sx 8) pt rd wt ln px) := rw_same hD rfl
    have hP : va_P D vwCl (mW q k (nI 0) wd se kd bn sh mb pr B R (d5f B R ln sx 8) pt rd wt ln px) H := hP
    refine lv_iconst (v := nI 0) hx hb d_MO_scan_32 (by decide +kernel) ?_
    refine lv_istore_n (lv' := [(3, .int (nI 0)), (2, .int (nI (dmo B R))), (1, .int (bI ((R 1) / 2 ^ 6 % 2 = 1))), (0, .ref (q 0))]) hx hb d_MO_scan_33 rfl hl (by decide) rfl (fun ls hl => ?_)
    have loop : ∀ (j9 i : Nat), i + j9 = 64 → ∀ (H : Heap) (locs : List Loc), va_P D vwCl (mW q k (nI 0) wd se kd bn sh mb pr B R (dts (dtc B R ln 8 i) (d5f B R ln sx 8)) pt rd wt ln (dln (dpx B R ln) ln i px)) H → va_D A (mW q k (nI 0) wd se kd bn sh mb pr B R (dts (dtc B R ln 8 i) (d5f B R ln sx 8)) pt rd wt ln (dln (dpx B R ln) ln i px)) → va_S A s.heap H locs → ∀ (ls : Array Slot), lv_has ls 4 [(3, .int (nI i)), (2, .int (nI (dmo B R))), (1, .int (bI (R 1 / 2 ^ 6 % 2 = 1))), (0, .ref (q 0))] → W p l e (headSpec (wsG y_MO_scan b_MO_scan 4 (some .int)) { frames := 5, cells := 0, slots := 0, locals := 117 }).room s m ([.ref (q 0)] : List Value).toArray below meth c H locs 0 0 (MQ below (rw_Qi D (fun (r : Int32) (_ : Unit) => r = nI ln) (fun (_ : Unit) => (mW q k (nI 0) wd se kd bn sh mb pr B R (if ln = 31 then ss_so 128 (dts (dtc B R ln 8 64) (d5f B R ln sx 8)) else dts (dtc B R ln 8 64) (d5f B R ln sx 8)) pt rd wt ((ln + 1) % 32) (dln (dpx B R ln) ln 64 px))) A) ([.ref (q 0)] : List Value).toArray s 0 0 A) (F0 m 34 ls []) := by
      intro j9
      induction j9 with
      | zero =>
        intro i h9 H locs hP hD hS ls hl
        have f5 := d5f_lt (B := B) (R := R) (L := ln) hsx 8 (by omega)
        have f6 := dts_lt (b := dtc B R ln 8 i) f5
        obtain rfl : i = 64 := by omega
        refine lv_iload_n hx hb d_MO_scan_34 rfl (lv_at hl 0 rfl) ?_
        refine lv_bipush (v := nI 64) hx hb d_MO_scan_35 (by decide +kernel) ?_
        refine lv_icmp_ge (tgt := 83) hx hb d_MO_scan_37 (by decide) (fun c3 => ?_) (fun c3 => ?_)
        · have c3 := (nI_leI (by omega) (by omega)).mp c3
          refine lv_aload_n hx hb d_MO_scan_83 rfl (lv_at hl 3 rfl) ?_
          refine va_get (D := D) (ci := 7) (v := .int (nI ln)) (C := R_MO) (T := T_MO) (N := 16) hx hb hts in_MO hown hK hP 0 rfl rfl 14 (by decide) (hts _ w_544) (fun _ h9 => h9) rfl d_MO_scan_84 ?_
          refine lv_istore_n (lv' := [(3, .int (nI ln)), (2, .int (nI (dmo B R))), (1, .int (bI (R 1 / 2 ^ 6 % 2 = 1))), (0, .ref (q 0))]) hx hb d_MO_scan_87 rfl hl (by decide) rfl (fun ls hl => ?_)
          refine lv_aload_n hx hb d_MO_scan_88 rfl (lv_at hl 3 rfl) ?_
          refine lv_aload_n hx hb d_MO_scan_89 rfl (lv_at hl 3 rfl) ?_
          refine va_get (D := D) (ci := 7) (v := .int (nI ln)) (C := R_MO) (T := T_MO) (N := 16) hx hb hts in_MO hown hK hP 0 rfl rfl 14 (by decide) (hts _ w_544) (fun _ h9 => h9) rfl d_MO_scan_90 ?_
          refine lv_bipush (v := nI 31) hx hb d_MO_scan_93 (by decide +kernel) ?_
          refine lv_icmp_ne (tgt := 102) hx hb d_MO_scan_95 (by decide) (fun c4 => ?_) (fun c4 => ?_)
          · have c4 := mt (nI_eq (by omega) (by omega)).mpr c4
            refine lv_aload_n hx hb d_MO_scan_102 rfl (lv_at hl 3 rfl) ?_
            refine va_get (D := D) (ci := 7) (v := .int (nI ln)) (C := R_MO) (T := T_MO) (N := 16) hx hb hts in_MO hown hK hP 0 rfl rfl 14 (by decide) (hts _ w_544) (fun _ h9 => h9) rfl d_MO_scan_103 ?_
            refine lv_iconst (v := nI 1) hx hb d_MO_scan_106 (by decide +kernel) ?_
            refine lv_iadd hx hb d_MO_scan_107 ?_
            refine ss_rt (y := nI (ln + 1)) (nI_add _ _) ?_
            refine va_put (D := D) (ci := 7) (v := .int (nI (ln + 1))) (ty := .int) (C := R_MO) (T := T_MO) (N := 16) hx hb hts in_MO t_MO o_MO n_MO hown hK hP hD hS 0 rfl rfl 14 (by decide) (hts _ w_544) (fun _ h9 => h9) rfl (by decide +kernel) rfl rfl (Nat.le_of_ble_eq_true rfl) d_MO_scan_108 (fun H locs hP hD hS => ?_)
            have hP : va_P D vwCl (mW q k (nI 0) wd se kd bn sh mb pr B R (dts (dtc B R ln 8 64) (d5f B R ln sx 8)) pt rd wt (ln + 1) (dln (dpx B R ln) ln 64 px)) H := hP
            have hD : va_D A (mW q k (nI 0) wd se kd bn sh mb pr B R (dts (dtc B R ln 8 64) (d5f B R ln sx 8)) pt rd wt (ln + 1) (dln (dpx B R ln) ln 64 px)) := hD
            refine lv_aload_n hx hb d_MO_scan_111 rfl (lv_at hl 3 rfl) ?_
            refine va_get (D := D) (ci := 7) (v := .int (nI (ln + 1))) (C := R_MO) (T := T_MO) (N := 16) hx hb hts in_MO hown hK hP 0 rfl rfl 14 (by decide) (hts _ w_544) (fun _ h9 => h9) rfl d_MO_scan_112 ?_
            refine lv_if_ne (tgt := 130) hx hb d_MO_scan_115 (by decide) (fun c5 => ?_) (fun c5 => ?_)
            · have c5 := mt (n_eq0 (by omega)).mpr c5
              refine lv_iload_n hx hb d_MO_scan_130 rfl (lv_at hl 0 rfl) ?_
              exact rw_reti hx hb hr hlocks d_MO_scan_131 hS () (rfl) (by rw [show (if ln = 31 then ss_so 128 (dts (dtc B R ln 8 64) (d5f B R ln sx 8)) else dts (dtc B R ln 8 64) (d5f B R ln sx 8)) = (dts (dtc B R ln 8 64) (d5f B R ln sx 8)) from by first | rw [if_pos (by omega)] | rw [if_neg (by omega)], show ((ln + 1) % 32) = (ln + 1) from by first | rfl | omega]; exact hP)
            · have c5 := (n_eq0 (by omega)).mp c5
              exfalso; omega
          · have c4 := (nI_eq (by omega) (by omega)).mp c4
            refine lv_iconst (v := nI 0) hx hb d_MO_scan_98 (by decide +kernel) ?_
            refine lv_goto (tgt := 108) hx hb d_MO_scan_99 (by decide) ?_
            refine va_put (D := D) (ci := 7) (v := .int (nI 0)) (ty := .int) (C := R_MO) (T := T_MO) (N := 16) hx hb hts in_MO t_MO o_MO n_MO hown hK hP hD hS 0 rfl rfl 14 (by decide) (hts _ w_544) (fun _ h9 => h9) rfl (by decide +kernel) rfl rfl (Nat.le_of_ble_eq_true rfl) d_MO_scan_108 (fun H locs hP hD hS => ?_)
            have hP : va_P D vwCl (mW q k (nI 0) wd se kd bn sh mb pr B R (dts (dtc B R ln 8 64) (d5f B R ln sx 8)) pt rd wt 0 (dln (dpx B R ln) ln 64 px)) H := hP
            have hD : va_D A (mW q k (nI 0) wd se kd bn sh mb pr B R (dts (dtc B R ln 8 64) (d5f B R ln sx 8)) pt rd wt 0 (dln (dpx B R ln) ln 64 px)) := hD
            refine lv_aload_n hx hb d_MO_scan_111 rfl (lv_at hl 3 rfl) ?_
            refine va_get (D := D) (ci := 7) (v := .int (nI 0)) (C := R_MO) (T := T_MO) (N := 16) hx hb hts in_MO hown hK hP 0 rfl rfl 14 (by decide) (hts _ w_544) (fun _ h9 => h9) rfl d_MO_scan_112 ?_
            refine lv_if_ne (tgt := 130) hx hb d_MO_scan_115 (by decide) (fun c6 => ?_) (fun c6 => ?_)
            · have c6 := mt (n_eq0 (by omega)).mpr c6
              exfalso; omega
            · have c6 := (n_eq0 (by omega)).mp c6
              refine lv_aload_n hx hb d_MO_scan_118 rfl (lv_at hl 3 rfl) ?_
              refine lv_aload_n hx hb d_MO_scan_119 rfl (lv_at hl 3 rfl) ?_
              refine va_get (D := D) (ci := 7) (v := .int (nI (dts (dtc B R ln 8 64) (d5f B R ln sx 8)))) (C := R_MO) (T := T_MO) (N := 16) hx hb hts in_MO hown hK hP 0 rfl rfl 10 (by decide) (hts _ w_540) (fun _ h9 => h9) rfl d_MO_scan_120 ?_
              refine lv_sipush (v := nI 128) hx hb d_MO_scan_123 (by decide +kernel) ?_
              refine lv_ior hx hb d_MO_scan_126 ?_
              refine ss_rt (y := nI (ss_so 128 (dts (dtc B R ln 8 64) (d5f B R ln sx 8)))) (ss_or128 _ (by omega)) ?_
              refine va_put (D := D) (ci := 7) (v := .int (nI (ss_so 128 (dts (dtc B R ln 8 64) (d5f B R ln sx 8))))) (ty := .int) (C := R_MO) (T := T_MO) (N := 16) hx hb hts in_MO t_MO o_MO n_MO hown hK hP hD hS 0 rfl rfl 10 (by decide) (hts _ w_540) (fun _ h9 => h9) rfl (by decide +kernel) rfl rfl (Nat.le_of_ble_eq_true rfl) d_MO_scan_127 (fun H locs hP hD hS => ?_)
              have hP : va_P D vwCl (mW q k (nI 0) wd se kd bn sh mb pr B R (ss_so 128 (dts (dtc B R ln 8 64) (d5f B R ln sx 8))) pt rd wt 0 (dln (dpx B R ln) ln 64 px)) H := hP
              have hD : va_D A (mW q k (nI 0) wd se kd bn sh mb pr B R (ss_so 128 (dts (dtc B R ln 8 64) (d5f B R ln sx 8))) pt rd wt 0 (dln (dpx B R ln) ln 64 px)) := hD
              refine lv_iload_n hx hb d_MO_scan_130 rfl (lv_at hl 0 rfl) ?_
              exact rw_reti hx hb hr hlocks d_MO_scan_131 hS () (rfl) (by rw [show (if ln = 31 then ss_so 128 (dts (dtc B R ln 8 64) (d5f B R ln sx 8)) else dts (dtc B R ln 8 64) (d5f B R ln sx 8)) = (ss_so 128 (dts (dtc B R ln 8 64) (d5f B R ln sx 8))) from by first | rw [if_pos (by omega)] | rw [if_neg (by omega)], show ((ln + 1) % 32) = 0 from by first | rfl | omega]; exact hP)
        · have c3 := mt (nI_leI (by omega) (by omega)).mpr c3
          exfalso; omega
      | succ j9 ih =>
        intro i h9 H locs hP hD hS ls hl
        have f5 := d5f_lt (B := B) (R := R) (L := ln) hsx 8 (by omega)
        have f6 := dts_lt (b := dtc B R ln 8 i) f5
        refine lv_iload_n hx hb d_MO_scan_34 rfl (lv_at hl 0 rfl) ?_
        refine lv_bipush (v := nI 64) hx hb d_MO_scan_35 (by decide +kernel) ?_
        refine lv_icmp_ge (tgt := 83) hx hb d_MO_scan_37 (by decide) (fun c7 => ?_) (fun c7 => ?_)
        · have c7 := (nI_leI (by omega) (by omega)).mp c7
          exfalso; omega
        · have c7 := mt (nI_leI (by omega) (by omega)).mpr c7
          refine lv_aload_n hx hb d_MO_scan_40 rfl (lv_at hl 3 rfl) ?_
          refine va_get (D := D) (ci := 7) (v := .ref (q 9)) (C := R_MO) (T := T_MO) (N := 16) hx hb hts in_MO hown hK hP 0 rfl rfl 15 (by decide) (hts _ w_545) (fun _ h9 => h9) rfl d_MO_scan_41 ?_
          refine lv_bipush (v := nI 64) hx hb d_MO_scan_44 (by decide +kernel) ?_
          refine lv_aload_n hx hb d_MO_scan_46 rfl (lv_at hl 3 rfl) ?_
          refine va_get (D := D) (ci := 7) (v := .int (nI ln)) (C := R_MO) (T := T_MO) (N := 16) hx hb hts in_MO hown hK hP 0 rfl rfl 14 (by decide) (hts _ w_544) (fun _ h9 => h9) rfl d_MO_scan_47 ?_
          refine lv_imul hx hb d_MO_scan_50 ?_
          refine ss_rt (y := nI (64 * ln)) (pk_mul _ _) ?_
          refine lv_iload_n hx hb d_MO_scan_51 rfl (lv_at hl 0 rfl) ?_
          refine lv_iadd hx hb d_MO_scan_52 ?_
          refine ss_rt (y := nI (64 * ln + i)) (nI_add _ _) ?_
          refine lv_iload_n hx hb d_MO_scan_53 rfl (lv_at hl 2 rfl) ?_
          refine lv_if_eq (tgt := 66) hx hb d_MO_scan_54 (by decide) (fun c8 => ?_) (fun c8 => ?_)
          · have c8 := (bI_0).mp c8
            exfalso; omega
          · have c8 := mt (bI_0).mpr c8
            have c8 := Classical.not_not.mp c8
            refine lv_aload_n hx hb d_MO_scan_57 rfl (lv_at hl 3 rfl) ?_
            refine lv_iload_n hx hb d_MO_scan_58 rfl (lv_at hl 0 rfl) ?_
            refine lv_iload_n hx hb d_MO_scan_59 rfl (lv_at hl 1 rfl) ?_
            refine kw_iV (As := [.int (nI i), .int (nI (dmo B R))]) (rest := [.int (nI (64 * ln + i)), .ref (q 9)]) ⟨hx, hb, hml, hown, hts⟩ (c_MO_color l D k q (nI 0) wd se kd bn sh mb pr B R (dts (dtc B R ln 8 i) (d5f B R ln sx 8)) pt rd wt ln (dln (dpx B R ln) ln i px) hB hR (by omega) (by omega) i (by omega)) (cwV 2 hts (gV w_681 w_683 w_p27 w_5 w_684) rfl rfl rfl (by decide +kernel) ⟨Nat.le_of_ble_eq_true rfl, Nat.le_of_ble_eq_true rfl⟩) hK hP hD hS hA (va_recv hK hP (ci := 7) (q0 := 0) rfl rfl) rfl hl.1 rfl (Nat.le_of_ble_eq_true rfl) d_MO_scan_60 ⟨Nat.zero_le _, Nat.zero_le _⟩ (fun _ _ H locs h9 hP _ hS => ?_)
            subst h9
            have hD : va_D A (mW q k (nI 0) wd se kd bn sh mb pr B R (dts (decide (1 < dht B R ln i 8)) (dts (dtc B R ln 8 i) (d5f B R ln sx 8))) pt rd wt ln (dln (dpx B R ln) ln i px)) := rw_same hD rfl
            have hP : va_P D vwCl (mW q k (nI 0) wd se kd bn sh mb pr B R (dts (decide (1 < dht B R ln i 8)) (dts (dtc B R ln 8 i) (d5f B R ln sx 8))) pt rd wt ln (dln (dpx B R ln) ln i px)) H := hP
            refine lv_goto (tgt := 76) hx hb d_MO_scan_63 (by decide) ?_
            refine va_iast hx hb hK hP hD hS 9 0 rfl rfl (vp_in_nI (by omega) (by omega)) d_MO_scan_76 (fun H locs hP hD hS => ?_)
            rw [ss_upI (dln (dpx B R ln) ln i px) (k := (64 * ln + i)) (v := (dpx B R ln i)) (by omega)] at hP hD
            have hP : va_P D vwCl (mW q k (nI 0) wd se kd bn sh mb pr B R (dts (decide (1 < dht B R ln i 8)) (dts (dtc B R ln 8 i) (d5f B R ln sx 8))) pt rd wt ln (ss_up (dln (dpx B R ln) ln i px) (64 * ln + i) (dpx B R ln i))) H := hP
            have hD : va_D A (mW q k (nI 0) wd se kd bn sh mb pr B R (dts (decide (1 < dht B R ln i 8)) (dts (dtc B R ln 8 i) (d5f B R ln sx 8))) pt rd wt ln (ss_up (dln (dpx B R ln) ln i px) (64 * ln + i) (dpx B R ln i))) := hD
            refine lv_iinc (v := nI (i + 1)) (lv' := [(3, .int (nI (i + 1))), (2, .int (nI (dmo B R))), (1, .int (bI (R 1 / 2 ^ 6 % 2 = 1))), (0, .ref (q 0))]) hx hb d_MO_scan_77 hl (k := 0) rfl (nI_1 _) (by decide) rfl (fun ls hl => ?_)
            refine lv_goto (tgt := 34) hx hb d_MO_scan_80 (by decide) ?_
            rw [dts_s f5, dln_s] at hP hD
            exact ih (i + 1) (by omega) _ _ hP hD hS ls (lv_sub hl [0, 1, 2, 3] rfl)
    rw [← dln_0 (dpx B R ln) ln px] at hP hD
    rw [← dts_0 (B := B) (R := R) (L := ln) (st := d5f B R ln sx 8)] at hP hD
    exact loop (64 - 0) 0 (by omega) _ _ hP hD hS ls (lv_sub hl [0, 1, 2, 3] rfl)
set_option maxHeartbeats 4000000 in
set_option maxRecDepth 100000 in
theorem c_MO_scan_off (l : Launch) (D : va_G) (k : Nat → ClassId) (q : Nat → Nat) (cd : Int32) (wd : Nat → Nat) (se : Nat → Nat) (kd : Nat → Nat) (bn : Nat → Int32) (sh : Nat → Nat) (mb : Nat → Nat) (pr : Nat) (B : Nat → Nat) (R : Nat → Nat) (sx : Nat) (pt : Nat) (rd : Nat) (wt : Int32) (ln : Nat) (px : Nat → Nat) (hB : ∀ j, B j < 256) (hR : ∀ j, R j < 256) (hsx : sx < 256) (hln : ln < 32) (hon : ¬ R 1 / 2 ^ 6 % 2 = 1) : rw_i l y_MO_scan b_MO_scan 4 (some .int) { frames := 5, cells := 0, slots := 0, locals := 117 } D (kT k) (mW q k cd wd se kd bn sh mb pr B R sx pt rd wt ln px) [.ref (q 0)] (fun (r : Int32) (_ : Unit) => r = nI ln) (fun (_ : Unit) => (mW q k (nI 0) wd se kd bn sh mb pr B R (if ln = 31 then ss_so 128 (sx) else sx) pt rd wt ((ln + 1) % 32) (dln (fun _ => R 7 % 16) ln 64 px))) := by
  refine rw_headi (by decide) (Nat.le_of_ble_eq_true rfl) ?_
  intro p e s m below meth c ls A hx hb hr hlocks hml hown hts hK hA hP hD hS hl
  have hown : s.vm.findClass "SlotScreenModel" = some m.cls := hown
  have hl : lv_has ls 4 [(0, .ref (q 0))] := hl
  have z1 := dmo_le B R
  refine lv_aload_n hx hb d_MO_scan_0 rfl (lv_at hl 0 rfl) ?_
  refine lv_iconst (v := nI 0) hx hb d_MO_scan_1 (by decide +kernel) ?_
  refine va_put (D := D) (ci := 7) (v := .int (nI 0)) (ty := .int) (C := R_MO) (T := T_MO) (N := 16) hx hb hts in_MO t_MO o_MO n_MO hown hK hP hD hS 0 rfl rfl 0 (by decide) (hts _ w_530) (fun _ h9 => h9) rfl (by decide +kernel) rfl rfl (Nat.le_of_ble_eq_true rfl) d_MO_scan_2 (fun H locs hP hD hS => ?_)
  have hP : va_P D vwCl (mW q k (nI 0) wd se kd bn sh mb pr B R sx pt rd wt ln px) H := hP
  have hD : va_D A (mW q k (nI 0) wd se kd bn sh mb pr B R sx pt rd wt ln px) := hD
  refine lv_aload_n hx hb d_MO_scan_5 rfl (lv_at hl 0 rfl) ?_
  refine lv_aload_n hx hb d_MO_scan_6 rfl (lv_at hl 0 rfl) ?_
  refine va_get (D := D) (ci := 7) (v := .ref (q 8)) (C := R_MO) (T := T_MO) (N := 16) hx hb hts in_MO hown hK hP 0 rfl rfl 9 (by decide) (hts _ w_539) (fun _ h9 => h9) rfl d_MO_scan_7 ?_
  refine lv_iconst (v := nI 1) hx hb d_MO_scan_10 (by decide +kernel) ?_
  refine va_iald hx hb hK hP 8 0 rfl rfl (vp_in_nI (by omega) (by omega)) d_MO_scan_11 ?_
  refine ss_rt (y := nI (R 1)) (congrArg (fun z => nI (R z)) (nI_clamp (by omega))) ?_
  have g1 := hR 1
  refine lv_bipush (v := nI 6) hx hb d_MO_scan_12 (by decide +kernel) ?_
  refine kr_iV (As := [.int (nI (R 1)), .int (nI 6)]) (rest := []) ⟨hx, hb, hml, hown, hts⟩ (c_MO_bit l D k q (nI 0) wd se kd bn sh mb pr B R sx pt rd wt ln px (R 1) 6 (by omega) (by omega)) (cwV 2 hts (gV w_653 w_655 w_p20 w_5 w_656) rfl rfl rfl (by decide +kernel) ⟨Nat.le_of_ble_eq_true rfl, Nat.le_of_ble_eq_true rfl⟩) hK hP (va_recv hK hP (ci := 7) (q0 := 0) rfl rfl) rfl hl.1 rfl (Nat.le_of_ble_eq_true rfl) d_MO_scan_14 ⟨Nat.zero_le _, Nat.zero_le _⟩ ?_
  refine lv_istore_n (lv' := [(1, .int (bI ((R 1) / 2 ^ 6 % 2 = 1))), (0, .ref (q 0))]) hx hb d_MO_scan_17 rfl hl (by decide) rfl (fun ls hl => ?_)
  refine lv_aload_n hx hb d_MO_scan_18 rfl (lv_at hl 1 rfl) ?_
  refine kr_iV (As := []) (rest := []) ⟨hx, hb, hml, hown, hts⟩ (c_MO_there l D k q (nI 0) wd se kd bn sh mb pr B R sx pt rd wt ln px hB hR) (cwV 0 hts (gV w_657 w_659 w_p21 w_5 w_660) rfl rfl rfl (by decide +kernel) ⟨Nat.le_of_ble_eq_true rfl, Nat.le_of_ble_eq_true rfl⟩) hK hP (va_recv hK hP (ci := 7) (q0 := 0) rfl rfl) rfl hl.1 rfl (Nat.le_of_ble_eq_true rfl) d_MO_scan_19 ⟨Nat.zero_le _, Nat.zero_le _⟩ ?_
  refine lv_istore_n (lv' := [(2, .int (nI (dmo B R))), (1, .int (bI ((R 1) / 2 ^ 6 % 2 = 1))), (0, .ref (q 0))]) hx hb d_MO_scan_22 rfl hl (by decide) rfl (fun ls hl => ?_)
  refine lv_iload_n hx hb d_MO_scan_23 rfl (lv_at hl 1 rfl) ?_
  refine lv_if_eq (tgt := 32) hx hb d_MO_scan_24 (by decide) (fun c2 => ?_) (fun c2 => ?_)
  · have c2 := (bI_0).mp c2
    refine lv_iconst (v := nI 0) hx hb d_MO_scan_32 (by decide +kernel) ?_
    refine lv_istore_n (lv' := [(3, .int (nI 0)), (2, .int (nI (dmo B R))), (1, .int (bI ((R 1) / 2 ^ 6 % 2 = 1))), (0, .ref (q 0))]) hx hb d_MO_scan_33 rfl hl (by decide) rfl (fun ls hl => ?_)
    have loop : ∀ (j9 i : Nat), i + j9 = 64 → ∀ (H : Heap) (locs : List Loc), va_P D vwCl (mW q k (nI 0) wd se kd bn sh mb pr B R sx pt rd wt ln (dln (fun _ => R 7 % 16) ln i px)) H → va_D A (mW q k (nI 0) wd se kd bn sh mb pr B R sx pt rd wt ln (dln (fun _ => R 7 % 16) ln i px)) → va_S A s.heap H locs → ∀ (ls : Array Slot), lv_has ls 4 [(3, .int (nI i)), (2, .int (nI (dmo B R))), (1, .int (bI (R 1 / 2 ^ 6 % 2 = 1))), (0, .ref (q 0))] → W p l e (headSpec (wsG y_MO_scan b_MO_scan 4 (some .int)) { frames := 5, cells := 0, slots := 0, locals := 117 }).room s m ([.ref (q 0)] : List Value).toArray below meth c H locs 0 0 (MQ below (rw_Qi D (fun (r : Int32) (_ : Unit) => r = nI ln) (fun (_ : Unit) => (mW q k (nI 0) wd se kd bn sh mb pr B R (if ln = 31 then ss_so 128 (sx) else sx) pt rd wt ((ln + 1) % 32) (dln (fun _ => R 7 % 16) ln 64 px))) A) ([.ref (q 0)] : List Value).toArray s 0 0 A) (F0 m 34 ls []) := by
      intro j9
      induction j9 with
      | zero =>
        intro i h9 H locs hP hD hS ls hl
        obtain rfl : i = 64 := by omega
        refine lv_iload_n hx hb d_MO_scan_34 rfl (lv_at hl 0 rfl) ?_
        refine lv_bipush (v := nI 64) hx hb d_MO_scan_35 (by decide +kernel) ?_
        refine lv_icmp_ge (tgt := 83) hx hb d_MO_scan_37 (by decide) (fun c3 => ?_) (fun c3 => ?_)
        · have c3 := (nI_leI (by omega) (by omega)).mp c3
          refine lv_aload_n hx hb d_MO_scan_83 rfl (lv_at hl 3 rfl) ?_
          refine va_get (D := D) (ci := 7) (v := .int (nI ln)) (C := R_MO) (T := T_MO) (N := 16) hx hb hts in_MO hown hK hP 0 rfl rfl 14 (by decide) (hts _ w_544) (fun _ h9 => h9) rfl d_MO_scan_84 ?_
          refine lv_istore_n (lv' := [(3, .int (nI ln)), (2, .int (nI (dmo B R))), (1, .int (bI (R 1 / 2 ^ 6 % 2 = 1))), (0, .ref (q 0))]) hx hb d_MO_scan_87 rfl hl (by decide) rfl (fun ls hl => ?_)
          refine lv_aload_n hx hb d_MO_scan_88 rfl (lv_at hl 3 rfl) ?_
          refine lv_aload_n hx hb d_MO_scan_89 rfl (lv_at hl 3 rfl) ?_
          refine va_get (D := D) (ci := 7) (v := .int (nI ln)) (C := R_MO) (T := T_MO) (N := 16) hx hb hts in_MO hown hK hP 0 rfl rfl 14 (by decide) (hts _ w_544) (fun _ h9 => h9) rfl d_MO_scan_90 ?_
          refine lv_bipush (v := nI 31) hx hb d_MO_scan_93 (by decide +kernel) ?_
          refine lv_icmp_ne (tgt := 102) hx hb d_MO_scan_95 (by decide) (fun c4 => ?_) (fun c4 => ?_)
          · have c4 := mt (nI_eq (by omega) (by omega)).mpr c4
            refine lv_aload_n hx hb d_MO_scan_102 rfl (lv_at hl 3 rfl) ?_
            refine va_get (D := D) (ci := 7) (v := .int (nI ln)) (C := R_MO) (T := T_MO) (N := 16) hx hb hts in_MO hown hK hP 0 rfl rfl 14 (by decide) (hts _ w_544) (fun _ h9 => h9) rfl d_MO_scan_103 ?_
            refine lv_iconst (v := nI 1) hx hb d_MO_scan_106 (by decide +kernel) ?_
            refine lv_iadd hx hb d_MO_scan_107 ?_
            refine ss_rt (y := nI (ln + 1)) (nI_add _ _) ?_
            refine va_put (D := D) (ci := 7) (v := .int (nI (ln + 1))) (ty := .int) (C := R_MO) (T := T_MO) (N := 16) hx hb hts in_MO t_MO o_MO n_MO hown hK hP hD hS 0 rfl rfl 14 (by decide) (hts _ w_544) (fun _ h9 => h9) rfl (by decide +kernel) rfl rfl (Nat.le_of_ble_eq_true rfl) d_MO_scan_108 (fun H locs hP hD hS => ?_)
            have hP : va_P D vwCl (mW q k (nI 0) wd se kd bn sh mb pr B R sx pt rd wt (ln + 1) (dln (fun _ => R 7 % 16) ln 64 px)) H := hP
            have hD : va_D A (mW q k (nI 0) wd se kd bn sh mb pr B R sx pt rd wt (ln + 1) (dln (fun _ => R 7 % 16) ln 64 px)) := hD
            refine lv_aload_n hx hb d_MO_scan_111 rfl (lv_at hl 3 rfl) ?_
            refine va_get (D := D) (ci := 7) (v := .int (nI (ln + 1))) (C := R_MO) (T := T_MO) (N := 16) hx hb hts in_MO hown hK hP 0 rfl rfl 14 (by decide) (hts _ w_544) (fun _ h9 => h9) rfl d_MO_scan_112 ?_
            refine lv_if_ne (tgt := 130) hx hb d_MO_scan_115 (by decide) (fun c5 => ?_) (fun c5 => ?_)
            · have c5 := mt (n_eq0 (by omega)).mpr c5
              refine lv_iload_n hx hb d_MO_scan_130 rfl (lv_at hl 0 rfl) ?_
              exact rw_reti hx hb hr hlocks d_MO_scan_131 hS () (rfl) (by rw [show (if ln = 31 then ss_so 128 (sx) else sx) = sx from by first | rw [if_pos (by omega)] | rw [if_neg (by omega)], show ((ln + 1) % 32) = (ln + 1) from by first | rfl | omega]; exact hP)
            · have c5 := (n_eq0 (by omega)).mp c5
              exfalso; omega
          · have c4 := (nI_eq (by omega) (by omega)).mp c4
            refine lv_iconst (v := nI 0) hx hb d_MO_scan_98 (by decide +kernel) ?_
            refine lv_goto (tgt := 108) hx hb d_MO_scan_99 (by decide) ?_
            refine va_put (D := D) (ci := 7) (v := .int (nI 0)) (ty := .int) (C := R_MO) (T := T_MO) (N := 16) hx hb hts in_MO t_MO o_MO n_MO hown hK hP hD hS 0 rfl rfl 14 (by decide) (hts _ w_544) (fun _ h9 => h9) rfl (by decide +kernel) rfl rfl (Nat.le_of_ble_eq_true rfl) d_MO_scan_108 (fun H locs hP hD hS => ?_)
            have hP : va_P D vwCl (mW q k (nI 0) wd se kd bn sh mb pr B R sx pt rd wt 0 (dln (fun _ => R 7 % 16) ln 64 px)) H := hP
            have hD : va_D A (mW q k (nI 0) wd se kd bn sh mb pr B R sx pt rd wt 0 (dln (fun _ => R 7 % 16) ln 64 px)) := hD
            refine lv_aload_n hx hb d_MO_scan_111 rfl (lv_at hl 3 rfl) ?_
            refine va_get (D := D) (ci := 7) (v := .int (nI 0)) (C := R_MO) (T := T_MO) (N := 16) hx hb hts in_MO hown hK hP 0 rfl rfl 14 (by decide) (hts _ w_544) (fun _ h9 => h9) rfl d_MO_scan_112 ?_
            refine lv_if_ne (tgt := 130) hx hb d_MO_scan_115 (by decide) (fun c6 => ?_) (fun c6 => ?_)
            · have c6 := mt (n_eq0 (by omega)).mpr c6
              exfalso; omega
            · have c6 := (n_eq0 (by omega)).mp c6
              refine lv_aload_n hx hb d_MO_scan_118 rfl (lv_at hl 3 rfl) ?_
              refine lv_aload_n hx hb d_MO_scan_119 rfl (lv_at hl 3 rfl) ?_
              refine va_get (D := D) (ci := 7) (v := .int (nI sx)) (C := R_MO) (T := T_MO) (N := 16) hx hb hts in_MO hown hK hP 0 rfl rfl 10 (by decide) (hts _ w_540) (fun _ h9 => h9) rfl d_MO_scan_120 ?_
              refine lv_sipush (v := nI 128) hx hb d_MO_scan_123 (by decide +kernel) ?_
              refine lv_ior hx hb d_MO_scan_126 ?_
              refine ss_rt (y := nI (ss_so 128 (sx))) (ss_or128 _ (by omega)) ?_
              refine va_put (D := D) (ci := 7) (v := .int (nI (ss_so 128 (sx)))) (ty := .int) (C := R_MO) (T := T_MO) (N := 16) hx hb hts in_MO t_MO o_MO n_MO hown hK hP hD hS 0 rfl rfl 10 (by decide) (hts _ w_540) (fun _ h9 => h9) rfl (by decide +kernel) rfl rfl (Nat.le_of_ble_eq_true rfl) d_MO_scan_127 (fun H locs hP hD hS => ?_)
              have hP : va_P D vwCl (mW q k (nI 0) wd se kd bn sh mb pr B R (ss_so 128 (sx)) pt rd wt 0 (dln (fun _ => R 7 % 16) ln 64 px)) H := hP
              have hD : va_D A (mW q k (nI 0) wd se kd bn sh mb pr B R (ss_so 128 (sx)) pt rd wt 0 (dln (fun _ => R 7 % 16) ln 64 px)) := hD
              refine lv_iload_n hx hb d_MO_scan_130 rfl (lv_at hl 0 rfl) ?_
              exact rw_reti hx hb hr hlocks d_MO_scan_131 hS () (rfl) (by rw [show (if ln = 31 then ss_so 128 (sx) else sx) = (ss_so 128 (sx)) from by first | rw [if_pos (by omega)] | rw [if_neg (by omega)], show ((ln + 1) % 32) = 0 from by first | rfl | omega]; exact hP)
        · have c3 := mt (nI_leI (by omega) (by omega)).mpr c3
          exfalso; omega
      | succ j9 ih =>
        intro i h9 H locs hP hD hS ls hl
        refine lv_iload_n hx hb d_MO_scan_34 rfl (lv_at hl 0 rfl) ?_
        refine lv_bipush (v := nI 64) hx hb d_MO_scan_35 (by decide +kernel) ?_
        refine lv_icmp_ge (tgt := 83) hx hb d_MO_scan_37 (by decide) (fun c7 => ?_) (fun c7 => ?_)
        · have c7 := (nI_leI (by omega) (by omega)).mp c7
          exfalso; omega
        · have c7 := mt (nI_leI (by omega) (by omega)).mpr c7
          refine lv_aload_n hx hb d_MO_scan_40 rfl (lv_at hl 3 rfl) ?_
          refine va_get (D := D) (ci := 7) (v := .ref (q 9)) (C := R_MO) (T := T_MO) (N := 16) hx hb hts in_MO hown hK hP 0 rfl rfl 15 (by decide) (hts _ w_545) (fun _ h9 => h9) rfl d_MO_scan_41 ?_
          refine lv_bipush (v := nI 64) hx hb d_MO_scan_44 (by decide +kernel) ?_
          refine lv_aload_n hx hb d_MO_scan_46 rfl (lv_at hl 3 rfl) ?_
          refine va_get (D := D) (ci := 7) (v := .int (nI ln)) (C := R_MO) (T := T_MO) (N := 16) hx hb hts in_MO hown hK hP 0 rfl rfl 14 (by decide) (hts _ w_544) (fun _ h9 => h9) rfl d_MO_scan_47 ?_
          refine lv_imul hx hb d_MO_scan_50 ?_
          refine ss_rt (y := nI (64 * ln)) (pk_mul _ _) ?_
          refine lv_iload_n hx hb d_MO_scan_51 rfl (lv_at hl 0 rfl) ?_
          refine lv_iadd hx hb d_MO_scan_52 ?_
          refine ss_rt (y := nI (64 * ln + i)) (nI_add _ _) ?_
          refine lv_iload_n hx hb d_MO_scan_53 rfl (lv_at hl 2 rfl) ?_
          refine lv_if_eq (tgt := 66) hx hb d_MO_scan_54 (by decide) (fun c8 => ?_) (fun c8 => ?_)
          · have c8 := (bI_0).mp c8
            refine lv_aload_n hx hb d_MO_scan_66 rfl (lv_at hl 3 rfl) ?_
            refine va_get (D := D) (ci := 7) (v := .ref (q 8)) (C := R_MO) (T := T_MO) (N := 16) hx hb hts in_MO hown hK hP 0 rfl rfl 9 (by decide) (hts _ w_539) (fun _ h9 => h9) rfl d_MO_scan_67 ?_
            refine lv_bipush (v := nI 7) hx hb d_MO_scan_70 (by decide +kernel) ?_
            refine va_iald hx hb hK hP 8 0 rfl rfl (vp_in_nI (by omega) (by omega)) d_MO_scan_72 ?_
            refine ss_rt (y := nI (R 7)) (congrArg (fun z => nI (R z)) (nI_clamp (by omega))) ?_
            have g9 := hR 7
            refine lv_bipush (v := nI 16) hx hb d_MO_scan_73 (by decide +kernel) ?_
            refine lv_irem hx hb d_MO_scan_75 (by first | decide +kernel | exact nI_ne0 (by omega) (by omega)) ?_
            refine ss_rt (y := nI ((R 7) % 16)) (pk_rem (by omega) (by omega) (by omega)) ?_
            refine va_iast hx hb hK hP hD hS 9 0 rfl rfl (vp_in_nI (by omega) (by omega)) d_MO_scan_76 (fun H locs hP hD hS => ?_)
            rw [ss_upI (dln (fun _ => R 7 % 16) ln i px) (k := (64 * ln + i)) (v := ((R 7) % 16)) (by omega)] at hP hD
            have hP : va_P D vwCl (mW q k (nI 0) wd se kd bn sh mb pr B R sx pt rd wt ln (ss_up (dln (fun _ => R 7 % 16) ln i px) (64 * ln + i) ((R 7) % 16))) H := hP
            have hD : va_D A (mW q k (nI 0) wd se kd bn sh mb pr B R sx pt rd wt ln (ss_up (dln (fun _ => R 7 % 16) ln i px) (64 * ln + i) ((R 7) % 16))) := hD
            refine lv_iinc (v := nI (i + 1)) (lv' := [(3, .int (nI (i + 1))), (2, .int (nI (dmo B R))), (1, .int (bI (R 1 / 2 ^ 6 % 2 = 1))), (0, .ref (q 0))]) hx hb d_MO_scan_77 hl (k := 0) rfl (nI_1 _) (by decide) rfl (fun ls hl => ?_)
            refine lv_goto (tgt := 34) hx hb d_MO_scan_80 (by decide) ?_
            rw [show ss_up (dln (fun _ => R 7 % 16) ln i px) (64 * ln + i) (R 7 % 16) = dln (fun _ => R 7 % 16) ln (i + 1) px from dln_s (fun _ => R 7 % 16) ln i px] at hP hD
            exact ih (i + 1) (by omega) _ _ hP hD hS ls (lv_sub hl [0, 1, 2, 3] rfl)
          · have c8 := mt (bI_0).mpr c8
            have c8 := Classical.not_not.mp c8
            exfalso; omega
    rw [← dln_0 (fun _ => R 7 % 16) ln px] at hP hD
    exact loop (64 - 0) 0 (by omega) _ _ hP hD hS ls (lv_sub hl [0, 1, 2, 3] rfl)
  · have c2 := mt (bI_0).mpr c2
    have c2 := Classical.not_not.mp c2
    exfalso; omega
end
