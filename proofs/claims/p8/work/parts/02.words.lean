/-! ===== BEGIN words of one list among another's, by their places ===== -/
theorem goodIn_r {big : List Cond} (ws : List Cond) (ps : List Nat) (hp : ws = ps.filterMap (fun i => big[i]?)) (h : ws.all goodWord = true) : GoodIn big ws := by
  intro w hw
  have h1 := List.all_eq_true.mp h w hw
  rw [hp] at hw
  obtain ⟨i, -, hi⟩ := List.mem_filterMap.mp hw
  have hm : w ∈ big := by first | exact List.mem_of_getElem? hi | exact List.getElem?_mem hi
  exact ⟨hm, good_of_word h1⟩
theorem goodIn_app {big a b : List Cond} (ha : GoodIn big a) (hb : GoodIn big b) : GoodIn big (a ++ b) := fun w h => (List.mem_append.mp h).elim (ha w) (hb w)
theorem goodIn_ca {big a b : List Cond} {c : Cond} (ha : GoodIn big (c :: a)) (hb : GoodIn big b) : GoodIn big (c :: (a ++ b)) := fun w h => (List.mem_cons.mp h).elim (fun e => ha w (List.mem_cons.mpr (Or.inl e))) (fun h => (List.mem_append.mp h).elim (fun h => ha w (List.mem_cons.mpr (Or.inr h))) (hb w))
theorem goodIn_sub {big ws : List Cond} (hm : ∀ w ∈ ws, w ∈ big) (h : ws.all goodWord = true) : GoodIn big ws := fun w hw => ⟨hm w hw, good_of_word (List.all_eq_true.mp h w hw)⟩
/-! ===== END ===== -/

/-! ===== BEGIN printed: names, fields, word lists, decode rows ===== -/
def RX0 : String := "TaleReader$Cast"
def TX0 : u_T := fun k => match k with
  | 0 => ("TaleReader$Cast", "sexes", "[I", true)
  | 1 => ("TaleReader$Cast", "joined", "[I", true)
  | 2 => ("TaleReader$Cast", "members", "[I", true)
  | 3 => ("TaleReader$Cast", "lastMentions", "[I", true)
  | _ => ("TaleReader$Cast", "count", "I", false)
def tyX0 : Nat → FieldType := fun k => match k with
  | 0 => .array .int
  | 1 => .array .int
  | 2 => .array .int
  | 3 => .array .int
  | _ => .int
abbrev wsX00 : List Cond := u_ws RX0 TX0 5
theorem nmX0 : ∀ a, a < 5 → ∀ b, b < 5 → a ≠ b → (TX0 a).2.1 ≠ (TX0 b).2.1 := by decide +kernel
theorem tyX0_ok : ∀ k, k < 5 → parseFieldDescriptor (TX0 k).2.2.1 = some (tyX0 k) := by decide +kernel
abbrev cX0_init : ByteArray := prog_2_method_1_code
def yX0_init : MethodName := ⟨RX0, "<init>", "()V"⟩
abbrev cX0_size : ByteArray := prog_2_method_2_code
def yX0_size : MethodName := ⟨RX0, "size", "()I"⟩
abbrev cX0_clear : ByteArray := prog_2_method_3_code
def yX0_clear : MethodName := ⟨RX0, "clear", "()V"⟩
abbrev cX0_has : ByteArray := prog_2_method_4_code
def yX0_has : MethodName := ⟨RX0, "has", "(I)Z"⟩
abbrev cX0_add : ByteArray := prog_2_method_5_code
def yX0_add : MethodName := ⟨RX0, "add", "(II)I"⟩
abbrev cX0_groupOf : ByteArray := prog_2_method_6_code
def yX0_groupOf : MethodName := ⟨RX0, "groupOf", "(I)I"⟩
abbrev cX0_joinedTo : ByteArray := prog_2_method_7_code
def yX0_joinedTo : MethodName := ⟨RX0, "joinedTo", "(I)I"⟩
abbrev cX0_stands : ByteArray := prog_2_method_8_code
def yX0_stands : MethodName := ⟨RX0, "stands", "(I)Z"⟩
abbrev cX0_nowOf : ByteArray := prog_2_method_9_code
def yX0_nowOf : MethodName := ⟨RX0, "nowOf", "(I)I"⟩
abbrev cX0_sexOf : ByteArray := prog_2_method_10_code
def yX0_sexOf : MethodName := ⟨RX0, "sexOf", "(I)I"⟩
abbrev cX0_learnSex : ByteArray := prog_2_method_11_code
def yX0_learnSex : MethodName := ⟨RX0, "learnSex", "(II)V"⟩
abbrev cX0_isGroup : ByteArray := prog_2_method_12_code
def yX0_isGroup : MethodName := ⟨RX0, "isGroup", "(I)Z"⟩
abbrev cX0_membersOf : ByteArray := prog_2_method_13_code
def yX0_membersOf : MethodName := ⟨RX0, "membersOf", "(I)I"⟩
abbrev cX0_lastMentionOf : ByteArray := prog_2_method_14_code
def yX0_lastMentionOf : MethodName := ⟨RX0, "lastMentionOf", "(I)I"⟩
abbrev cX0_noteMention : ByteArray := prog_2_method_15_code
def yX0_noteMention : MethodName := ⟨RX0, "noteMention", "(II)V"⟩
abbrev cX0_canJoin : ByteArray := prog_2_method_16_code
def yX0_canJoin : MethodName := ⟨RX0, "canJoin", "(II)Z"⟩
abbrev cX0_join : ByteArray := prog_2_method_17_code
def yX0_join : MethodName := ⟨RX0, "join", "(II)V"⟩
def RX1 : String := "TaleReader$Mentions"
def TX1 : u_T := fun k => match k with
  | 0 => ("TaleReader$Mentions", "words", "LTaleReader$Words;", true)
  | 1 => ("TaleReader$Mentions", "wordNumbers", "[I", true)
  | 2 => ("TaleReader$Mentions", "places", "[I", true)
  | 3 => ("TaleReader$Mentions", "lengths", "[I", true)
  | 4 => ("TaleReader$Mentions", "sentences", "[I", true)
  | 5 => ("TaleReader$Mentions", "kinds", "[I", true)
  | 6 => ("TaleReader$Mentions", "links", "[I", true)
  | 7 => ("TaleReader$Mentions", "toldSexes", "[I", true)
  | 8 => ("TaleReader$Mentions", "count", "I", false)
  | _ => ("TaleReader$Mentions", "cut", "Z", false)
def tyX1 : Nat → FieldType := fun k => match k with
  | 0 => .object "TaleReader$Words"
  | 1 => .array .int
  | 2 => .array .int
  | 3 => .array .int
  | 4 => .array .int
  | 5 => .array .int
  | 6 => .array .int
  | 7 => .array .int
  | 8 => .int
  | _ => .boolean
abbrev wsX10 : List Cond := u_ws RX1 TX1 10
theorem nmX1 : ∀ a, a < 10 → ∀ b, b < 10 → a ≠ b → (TX1 a).2.1 ≠ (TX1 b).2.1 := by decide +kernel
theorem tyX1_ok : ∀ k, k < 10 → parseFieldDescriptor (TX1 k).2.2.1 = some (tyX1 k) := by decide +kernel
abbrev cX1_init : ByteArray := prog_3_method_1_code
def yX1_init : MethodName := ⟨RX1, "<init>", "(LTaleReader$Words;)V"⟩
abbrev cX1_gather : ByteArray := prog_3_method_2_code
def yX1_gather : MethodName := ⟨RX1, "gather", "(LTaleReader$ToldNames;)V"⟩
abbrev cX1_add : ByteArray := prog_3_method_3_code
def yX1_add : MethodName := ⟨RX1, "add", "(III)V"⟩
abbrev cX1_linkAhead : ByteArray := prog_3_method_4_code
def yX1_linkAhead : MethodName := ⟨RX1, "linkAhead", "(II)I"⟩
abbrev cX1_size : ByteArray := prog_3_method_5_code
def yX1_size : MethodName := ⟨RX1, "size", "()I"⟩
abbrev cX1_isCut : ByteArray := prog_3_method_6_code
def yX1_isCut : MethodName := ⟨RX1, "isCut", "()Z"⟩
abbrev cX1_has : ByteArray := prog_3_method_7_code
def yX1_has : MethodName := ⟨RX1, "has", "(I)Z"⟩
abbrev cX1_placeOf : ByteArray := prog_3_method_8_code
def yX1_placeOf : MethodName := ⟨RX1, "placeOf", "(I)I"⟩
abbrev cX1_lengthOf : ByteArray := prog_3_method_9_code
def yX1_lengthOf : MethodName := ⟨RX1, "lengthOf", "(I)I"⟩
abbrev cX1_sentenceOf : ByteArray := prog_3_method_10_code
def yX1_sentenceOf : MethodName := ⟨RX1, "sentenceOf", "(I)I"⟩
abbrev cX1_kindOf : ByteArray := prog_3_method_11_code
def yX1_kindOf : MethodName := ⟨RX1, "kindOf", "(I)I"⟩
abbrev cX1_isName : ByteArray := prog_3_method_12_code
def yX1_isName : MethodName := ⟨RX1, "isName", "(I)Z"⟩
abbrev cX1_linkOf : ByteArray := prog_3_method_13_code
def yX1_linkOf : MethodName := ⟨RX1, "linkOf", "(I)I"⟩
abbrev cX1_toldSexOf : ByteArray := prog_3_method_14_code
def yX1_toldSexOf : MethodName := ⟨RX1, "toldSexOf", "(I)I"⟩
abbrev cX1_beginsWith : ByteArray := prog_3_method_15_code
def yX1_beginsWith : MethodName := ⟨RX1, "beginsWith", "(II)Z"⟩
abbrev cX1_sameName : ByteArray := prog_3_method_16_code
def yX1_sameName : MethodName := ⟨RX1, "sameName", "(II)Z"⟩
def RX2 : String := "TaleReader$Names"
def TX2 : u_T := fun k => match k with
  | 0 => ("TaleReader$Names", "mentions", "LTaleReader$Mentions;", true)
  | 1 => ("TaleReader$Names", "firstMentions", "[I", true)
  | 2 => ("TaleReader$Names", "owners", "[I", true)
  | _ => ("TaleReader$Names", "count", "I", false)
def tyX2 : Nat → FieldType := fun k => match k with
  | 0 => .object "TaleReader$Mentions"
  | 1 => .array .int
  | 2 => .array .int
  | _ => .int
abbrev wsX20 : List Cond := u_ws RX2 TX2 4
theorem nmX2 : ∀ a, a < 4 → ∀ b, b < 4 → a ≠ b → (TX2 a).2.1 ≠ (TX2 b).2.1 := by decide +kernel
theorem tyX2_ok : ∀ k, k < 4 → parseFieldDescriptor (TX2 k).2.2.1 = some (tyX2 k) := by decide +kernel
abbrev cX2_init : ByteArray := prog_4_method_1_code
def yX2_init : MethodName := ⟨RX2, "<init>", "(LTaleReader$Mentions;)V"⟩
abbrev cX2_clear : ByteArray := prog_4_method_2_code
def yX2_clear : MethodName := ⟨RX2, "clear", "()V"⟩
abbrev cX2_add : ByteArray := prog_4_method_3_code
def yX2_add : MethodName := ⟨RX2, "add", "(II)V"⟩
abbrev cX2_ownerOf : ByteArray := prog_4_method_4_code
def yX2_ownerOf : MethodName := ⟨RX2, "ownerOf", "(I)I"⟩
abbrev cX2_ownerOfLonger : ByteArray := prog_4_method_5_code
def yX2_ownerOfLonger : MethodName := ⟨RX2, "ownerOfLonger", "(I)I"⟩
abbrev cX2_ownerOfShorter : ByteArray := prog_4_method_6_code
def yX2_ownerOfShorter : MethodName := ⟨RX2, "ownerOfShorter", "(I)I"⟩
abbrev cX2_handOver : ByteArray := prog_4_method_7_code
def yX2_handOver : MethodName := ⟨RX2, "handOver", "(II)V"⟩
abbrev cX2_moveToEnd : ByteArray := prog_4_method_8_code
def yX2_moveToEnd : MethodName := ⟨RX2, "moveToEnd", "(I)V"⟩
abbrev cX2_countOf : ByteArray := prog_4_method_9_code
def yX2_countOf : MethodName := ⟨RX2, "countOf", "(I)I"⟩
abbrev cX2_firstMentionOf : ByteArray := prog_4_method_10_code
def yX2_firstMentionOf : MethodName := ⟨RX2, "firstMentionOf", "(II)I"⟩
def RX3 : String := "TaleReader$Pins"
def TX3 : u_T := fun k => match k with
  | 0 => ("TaleReader$Pins", "targets", "[I", true)
  | _ => ("TaleReader$Pins", "count", "I", false)
def tyX3 : Nat → FieldType := fun k => match k with
  | 0 => .array .int
  | _ => .int
abbrev wsX30 : List Cond := u_ws RX3 TX3 2
theorem nmX3 : ∀ a, a < 2 → ∀ b, b < 2 → a ≠ b → (TX3 a).2.1 ≠ (TX3 b).2.1 := by decide +kernel
theorem tyX3_ok : ∀ k, k < 2 → parseFieldDescriptor (TX3 k).2.2.1 = some (tyX3 k) := by decide +kernel
abbrev cX3_init : ByteArray := prog_5_method_1_code
def yX3_init : MethodName := ⟨RX3, "<init>", "()V"⟩
abbrev cX3_size : ByteArray := prog_5_method_2_code
def yX3_size : MethodName := ⟨RX3, "size", "()I"⟩
abbrev cX3_clear : ByteArray := prog_5_method_3_code
def yX3_clear : MethodName := ⟨RX3, "clear", "()V"⟩
abbrev cX3_targetOf : ByteArray := prog_5_method_4_code
def yX3_targetOf : MethodName := ⟨RX3, "targetOf", "(I)I"⟩
abbrev cX3_put : ByteArray := prog_5_method_5_code
def yX3_put : MethodName := ⟨RX3, "put", "(II)V"⟩
abbrev cX3_drop : ByteArray := prog_5_method_6_code
def yX3_drop : MethodName := ⟨RX3, "drop", "(I)V"⟩
def RX4 : String := "TaleReader$Reading"
def TX4 : u_T := fun k => match k with
  | 0 => ("TaleReader$Reading", "mentions", "LTaleReader$Mentions;", true)
  | 1 => ("TaleReader$Reading", "pins", "LTaleReader$Pins;", true)
  | 2 => ("TaleReader$Reading", "cast", "LTaleReader$Cast;", true)
  | 3 => ("TaleReader$Reading", "names", "LTaleReader$Names;", true)
  | 4 => ("TaleReader$Reading", "persons", "[I", true)
  | 5 => ("TaleReader$Reading", "fits", "[I", true)
  | _ => ("TaleReader$Reading", "doubts", "[Z", true)
def tyX4 : Nat → FieldType := fun k => match k with
  | 0 => .object "TaleReader$Mentions"
  | 1 => .object "TaleReader$Pins"
  | 2 => .object "TaleReader$Cast"
  | 3 => .object "TaleReader$Names"
  | 4 => .array .int
  | 5 => .array .int
  | _ => .array .boolean
abbrev wsX40 : List Cond := u_ws RX4 TX4 7
theorem nmX4 : ∀ a, a < 7 → ∀ b, b < 7 → a ≠ b → (TX4 a).2.1 ≠ (TX4 b).2.1 := by decide +kernel
theorem tyX4_ok : ∀ k, k < 7 → parseFieldDescriptor (TX4 k).2.2.1 = some (tyX4 k) := by decide +kernel
abbrev cX4_init : ByteArray := prog_6_method_1_code
def yX4_init : MethodName := ⟨RX4, "<init>", "(LTaleReader$Mentions;LTaleReader$Pins;LTaleReader$Cast;LTaleReader$Names;)V"⟩
abbrev cX4_readMention : ByteArray := prog_6_method_2_code
def yX4_readMention : MethodName := ⟨RX4, "readMention", "(I)V"⟩
abbrev cX4_readPinned : ByteArray := prog_6_method_3_code
def yX4_readPinned : MethodName := ⟨RX4, "readPinned", "(I)I"⟩
abbrev cX4_readName : ByteArray := prog_6_method_4_code
def yX4_readName : MethodName := ⟨RX4, "readName", "(I)I"⟩
abbrev cX4_readHeWord : ByteArray := prog_6_method_5_code
def yX4_readHeWord : MethodName := ⟨RX4, "readHeWord", "(I)I"⟩
abbrev cX4_fitsHeWord : ByteArray := prog_6_method_6_code
def yX4_fitsHeWord : MethodName := ⟨RX4, "fitsHeWord", "(III)Z"⟩
abbrev cX4_lastSentenceOf : ByteArray := prog_6_method_7_code
def yX4_lastSentenceOf : MethodName := ⟨RX4, "lastSentenceOf", "(I)I"⟩
abbrev cX4_joinIfPossible : ByteArray := prog_6_method_8_code
def yX4_joinIfPossible : MethodName := ⟨RX4, "joinIfPossible", "(II)V"⟩
abbrev cX4_mentionGroup : ByteArray := prog_6_method_9_code
def yX4_mentionGroup : MethodName := ⟨RX4, "mentionGroup", "(I)V"⟩
abbrev cX4_personOf : ByteArray := prog_6_method_10_code
def yX4_personOf : MethodName := ⟨RX4, "personOf", "(I)I"⟩
abbrev cX4_fitOf : ByteArray := prog_6_method_11_code
def yX4_fitOf : MethodName := ⟨RX4, "fitOf", "(I)I"⟩
abbrev cX4_isInDoubt : ByteArray := prog_6_method_12_code
def yX4_isInDoubt : MethodName := ⟨RX4, "isInDoubt", "(I)Z"⟩
abbrev cX4_doubtCount : ByteArray := prog_6_method_13_code
def yX4_doubtCount : MethodName := ⟨RX4, "doubtCount", "()I"⟩
abbrev cX4_countOf : ByteArray := prog_6_method_14_code
def yX4_countOf : MethodName := ⟨RX4, "countOf", "(I)I"⟩
abbrev cX4_mentionOf : ByteArray := prog_6_method_15_code
def yX4_mentionOf : MethodName := ⟨RX4, "mentionOf", "(II)I"⟩
def RX5 : String := "TaleReader$Text"
def TX5 : u_T := fun k => match k with
  | 0 => ("TaleReader$Text", "signs", "[B", true)
  | _ => ("TaleReader$Text", "size", "I", false)
def tyX5 : Nat → FieldType := fun k => match k with
  | 0 => .array .byte
  | _ => .int
abbrev wsX50 : List Cond := u_ws RX5 TX5 2
theorem nmX5 : ∀ a, a < 2 → ∀ b, b < 2 → a ≠ b → (TX5 a).2.1 ≠ (TX5 b).2.1 := by decide +kernel
theorem tyX5_ok : ∀ k, k < 2 → parseFieldDescriptor (TX5 k).2.2.1 = some (tyX5 k) := by decide +kernel
abbrev cX5_init : ByteArray := prog_7_method_1_code
def yX5_init : MethodName := ⟨RX5, "<init>", "(I)V"⟩
abbrev cX5_size : ByteArray := prog_7_method_2_code
def yX5_size : MethodName := ⟨RX5, "size", "()I"⟩
abbrev cX5_clear : ByteArray := prog_7_method_3_code
def yX5_clear : MethodName := ⟨RX5, "clear", "()V"⟩
abbrev cX5_shorten : ByteArray := prog_7_method_4_code
def yX5_shorten : MethodName := ⟨RX5, "shorten", "(I)Z"⟩
abbrev cX5_addNumber : ByteArray := prog_7_method_5_code
def yX5_addNumber : MethodName := ⟨RX5, "addNumber", "(I)V"⟩
abbrev cX5_addAll : ByteArray := prog_7_method_6_code
def yX5_addAll : MethodName := ⟨RX5, "addAll", "(LTaleReader$Text;)V"⟩
abbrev cX5_addSign : ByteArray := prog_7_method_7_code
def yX5_addSign : MethodName := ⟨RX5, "addSign", "(I)V"⟩
abbrev cX5_signAt : ByteArray := prog_7_method_8_code
def yX5_signAt : MethodName := ⟨RX5, "signAt", "(I)I"⟩
abbrev cX5_holds : ByteArray := prog_7_method_9_code
def yX5_holds : MethodName := ⟨RX5, "holds", "(II)Z"⟩
abbrev cX5_lettersFrom : ByteArray := prog_7_method_10_code
def yX5_lettersFrom : MethodName := ⟨RX5, "lettersFrom", "(I)I"⟩
abbrev cX5_looksLikeName : ByteArray := prog_7_method_11_code
def yX5_looksLikeName : MethodName := ⟨RX5, "looksLikeName", "(II)Z"⟩
abbrev cX5_spells : ByteArray := prog_7_method_12_code
def yX5_spells : MethodName := ⟨RX5, "spells", "(IILjava/lang/String;)Z"⟩
abbrev cX5_heWordSex : ByteArray := prog_7_method_13_code
def yX5_heWordSex : MethodName := ⟨RX5, "heWordSex", "(II)I"⟩
abbrev cX5_spellsOne : ByteArray := prog_7_method_14_code
def yX5_spellsOne : MethodName := ⟨RX5, "spellsOne", "(IILjava/lang/String;Ljava/lang/String;Ljava/lang/String;)Z"⟩
abbrev cX5_spellsWithAnyFirst : ByteArray := prog_7_method_15_code
def yX5_spellsWithAnyFirst : MethodName := ⟨RX5, "spellsWithAnyFirst", "(IILjava/lang/String;)Z"⟩
abbrev cX5_sameAs : ByteArray := prog_7_method_16_code
def yX5_sameAs : MethodName := ⟨RX5, "sameAs", "(ILTaleReader$Text;II)Z"⟩
def RX6 : String := "TaleReader$ToldNames"
def TX6 : u_T := fun k => match k with
  | 0 => ("TaleReader$ToldNames", "letters", "LTaleReader$Text;", true)
  | 1 => ("TaleReader$ToldNames", "starts", "[I", true)
  | 2 => ("TaleReader$ToldNames", "lengths", "[I", true)
  | 3 => ("TaleReader$ToldNames", "sexes", "[I", true)
  | _ => ("TaleReader$ToldNames", "count", "I", false)
def tyX6 : Nat → FieldType := fun k => match k with
  | 0 => .object "TaleReader$Text"
  | 1 => .array .int
  | 2 => .array .int
  | 3 => .array .int
  | _ => .int
abbrev wsX60 : List Cond := u_ws RX6 TX6 5
theorem nmX6 : ∀ a, a < 5 → ∀ b, b < 5 → a ≠ b → (TX6 a).2.1 ≠ (TX6 b).2.1 := by decide +kernel
theorem tyX6_ok : ∀ k, k < 5 → parseFieldDescriptor (TX6 k).2.2.1 = some (tyX6 k) := by decide +kernel
abbrev cX6_init : ByteArray := prog_8_method_1_code
def yX6_init : MethodName := ⟨RX6, "<init>", "()V"⟩
abbrev cX6_size : ByteArray := prog_8_method_2_code
def yX6_size : MethodName := ⟨RX6, "size", "()I"⟩
abbrev cX6_clear : ByteArray := prog_8_method_3_code
def yX6_clear : MethodName := ⟨RX6, "clear", "()V"⟩
abbrev cX6_take : ByteArray := prog_8_method_4_code
def yX6_take : MethodName := ⟨RX6, "take", "(LTaleReader$Text;I)Z"⟩
abbrev cX6_append : ByteArray := prog_8_method_5_code
def yX6_append : MethodName := ⟨RX6, "append", "(LTaleReader$Text;)I"⟩
abbrev cX6_find : ByteArray := prog_8_method_6_code
def yX6_find : MethodName := ⟨RX6, "find", "(LTaleReader$Text;II)I"⟩
abbrev cX6_sexOf : ByteArray := prog_8_method_7_code
def yX6_sexOf : MethodName := ⟨RX6, "sexOf", "(I)I"⟩
def RX7 : String := "TaleReader$Words"
def TX7 : u_T := fun k => match k with
  | 0 => ("TaleReader$Words", "tale", "LTaleReader$Text;", true)
  | 1 => ("TaleReader$Words", "places", "[I", true)
  | 2 => ("TaleReader$Words", "lengths", "[I", true)
  | 3 => ("TaleReader$Words", "sentences", "[I", true)
  | 4 => ("TaleReader$Words", "kinds", "[I", true)
  | 5 => ("TaleReader$Words", "count", "I", false)
  | _ => ("TaleReader$Words", "sentenceCount", "I", false)
def tyX7 : Nat → FieldType := fun k => match k with
  | 0 => .object "TaleReader$Text"
  | 1 => .array .int
  | 2 => .array .int
  | 3 => .array .int
  | 4 => .array .int
  | 5 => .int
  | _ => .int
abbrev wsX70 : List Cond := u_ws RX7 TX7 7
theorem nmX7 : ∀ a, a < 7 → ∀ b, b < 7 → a ≠ b → (TX7 a).2.1 ≠ (TX7 b).2.1 := by decide +kernel
theorem tyX7_ok : ∀ k, k < 7 → parseFieldDescriptor (TX7 k).2.2.1 = some (tyX7 k) := by decide +kernel
abbrev cX7_init : ByteArray := prog_9_method_1_code
def yX7_init : MethodName := ⟨RX7, "<init>", "()V"⟩
abbrev cX7_take : ByteArray := prog_9_method_2_code
def yX7_take : MethodName := ⟨RX7, "take", "(LTaleReader$Text;)V"⟩
abbrev cX7_split : ByteArray := prog_9_method_3_code
def yX7_split : MethodName := ⟨RX7, "split", "()V"⟩
abbrev cX7_add : ByteArray := prog_9_method_4_code
def yX7_add : MethodName := ⟨RX7, "add", "(III)V"⟩
abbrev cX7_kindBySpelling : ByteArray := prog_9_method_5_code
def yX7_kindBySpelling : MethodName := ⟨RX7, "kindBySpelling", "(I)I"⟩
abbrev cX7_isFirst : ByteArray := prog_9_method_6_code
def yX7_isFirst : MethodName := ⟨RX7, "isFirst", "(I)Z"⟩
abbrev cX7_isNameInsideSentence : ByteArray := prog_9_method_7_code
def yX7_isNameInsideSentence : MethodName := ⟨RX7, "isNameInsideSentence", "(I)Z"⟩
abbrev cX7_beginsWith : ByteArray := prog_9_method_8_code
def yX7_beginsWith : MethodName := ⟨RX7, "beginsWith", "(II)Z"⟩
abbrev cX7_has : ByteArray := prog_9_method_9_code
def yX7_has : MethodName := ⟨RX7, "has", "(I)Z"⟩
abbrev cX7_size : ByteArray := prog_9_method_10_code
def yX7_size : MethodName := ⟨RX7, "size", "()I"⟩
abbrev cX7_sentenceCount : ByteArray := prog_9_method_11_code
def yX7_sentenceCount : MethodName := ⟨RX7, "sentenceCount", "()I"⟩
abbrev cX7_tale : ByteArray := prog_9_method_12_code
def yX7_tale : MethodName := ⟨RX7, "tale", "()LTaleReader$Text;"⟩
abbrev cX7_placeOf : ByteArray := prog_9_method_13_code
def yX7_placeOf : MethodName := ⟨RX7, "placeOf", "(I)I"⟩
abbrev cX7_lengthOf : ByteArray := prog_9_method_14_code
def yX7_lengthOf : MethodName := ⟨RX7, "lengthOf", "(I)I"⟩
abbrev cX7_sentenceOf : ByteArray := prog_9_method_15_code
def yX7_sentenceOf : MethodName := ⟨RX7, "sentenceOf", "(I)I"⟩
abbrev cX7_kindOf : ByteArray := prog_9_method_16_code
def yX7_kindOf : MethodName := ⟨RX7, "kindOf", "(I)I"⟩
def RX8 : String := "TaleReader"
def TX8 : u_T := fun k => match k with
  | 0 => ("TaleReader", "tape", "LTaleReader$Text;", true)
  | 1 => ("TaleReader", "words", "LTaleReader$Words;", true)
  | 2 => ("TaleReader", "told", "LTaleReader$ToldNames;", true)
  | 3 => ("TaleReader", "pins", "LTaleReader$Pins;", true)
  | 4 => ("TaleReader", "mentions", "LTaleReader$Mentions;", true)
  | 5 => ("TaleReader", "cast", "LTaleReader$Cast;", true)
  | 6 => ("TaleReader", "names", "LTaleReader$Names;", true)
  | _ => ("TaleReader", "reading", "LTaleReader$Reading;", true)
def tyX8 : Nat → FieldType := fun k => match k with
  | 0 => .object "TaleReader$Text"
  | 1 => .object "TaleReader$Words"
  | 2 => .object "TaleReader$ToldNames"
  | 3 => .object "TaleReader$Pins"
  | 4 => .object "TaleReader$Mentions"
  | 5 => .object "TaleReader$Cast"
  | 6 => .object "TaleReader$Names"
  | _ => .object "TaleReader$Reading"
abbrev wsX80 : List Cond := u_ws RX8 TX8 8
theorem nmX8 : ∀ a, a < 8 → ∀ b, b < 8 → a ≠ b → (TX8 a).2.1 ≠ (TX8 b).2.1 := by decide +kernel
theorem tyX8_ok : ∀ k, k < 8 → parseFieldDescriptor (TX8 k).2.2.1 = some (tyX8 k) := by decide +kernel
abbrev cX8_init : ByteArray := prog_1_method_1_code
def yX8_init : MethodName := ⟨RX8, "<init>", "()V"⟩
abbrev cX8_feed : ByteArray := prog_1_method_2_code
def yX8_feed : MethodName := ⟨RX8, "feed", "(IIIII)I"⟩
abbrev cX8_end : ByteArray := prog_1_method_3_code
def yX8_end : MethodName := ⟨RX8, "end", "(I)Z"⟩
abbrev cX8_read : ByteArray := prog_1_method_4_code
def yX8_read : MethodName := ⟨RX8, "read", "()I"⟩
abbrev cX8_tell : ByteArray := prog_1_method_5_code
def yX8_tell : MethodName := ⟨RX8, "tell", "(I)Z"⟩
abbrev cX8_forget : ByteArray := prog_1_method_6_code
def yX8_forget : MethodName := ⟨RX8, "forget", "()V"⟩
abbrev cX8_pin : ByteArray := prog_1_method_7_code
def yX8_pin : MethodName := ⟨RX8, "pin", "(II)Z"⟩
abbrev cX8_loose : ByteArray := prog_1_method_8_code
def yX8_loose : MethodName := ⟨RX8, "loose", "(I)Z"⟩
abbrev cX8_look : ByteArray := prog_1_method_9_code
def yX8_look : MethodName := ⟨RX8, "look", "(I)I"⟩
abbrev cX8_mention : ByteArray := prog_1_method_10_code
def yX8_mention : MethodName := ⟨RX8, "mention", "(II)I"⟩
abbrev cX8_person : ByteArray := prog_1_method_11_code
def yX8_person : MethodName := ⟨RX8, "person", "(II)I"⟩
abbrev cX8_chain : ByteArray := prog_1_method_12_code
def yX8_chain : MethodName := ⟨RX8, "chain", "(II)I"⟩
abbrev cX8_name : ByteArray := prog_1_method_13_code
def yX8_name : MethodName := ⟨RX8, "name", "(II)I"⟩
abbrev cX8_who : ByteArray := prog_1_method_14_code
def yX8_who : MethodName := ⟨RX8, "who", "(I)I"⟩
abbrev cX8_readAnew : ByteArray := prog_1_method_15_code
def yX8_readAnew : MethodName := ⟨RX8, "readAnew", "()V"⟩
abbrev cX8_isSmall : ByteArray := prog_1_method_16_code
def yX8_isSmall : MethodName := ⟨RX8, "isSmall", "(I)Z"⟩
abbrev cX8_isCapital : ByteArray := prog_1_method_17_code
def yX8_isCapital : MethodName := ⟨RX8, "isCapital", "(I)Z"⟩
def RX9 : String := "TaleReaderModel"
def TX9 : u_T := fun k => match k with
  | 0 => ("TaleReaderModel", "tape", "[I", true)
  | 1 => ("TaleReaderModel", "tale", "[I", true)
  | 2 => ("TaleReaderModel", "taped", "I", false)
  | 3 => ("TaleReaderModel", "taleLong", "I", false)
  | 4 => ("TaleReaderModel", "words", "I", false)
  | 5 => ("TaleReaderModel", "stops", "I", false)
  | 6 => ("TaleReaderModel", "wordAt", "[I", true)
  | 7 => ("TaleReaderModel", "wordLong", "[I", true)
  | 8 => ("TaleReaderModel", "wordSentence", "[I", true)
  | 9 => ("TaleReaderModel", "isFirst", "[Z", true)
  | 10 => ("TaleReaderModel", "toldMany", "I", false)
  | 11 => ("TaleReaderModel", "toldLong", "[I", true)
  | 12 => ("TaleReaderModel", "toldLetter", "[I", true)
  | 13 => ("TaleReaderModel", "toldSex", "[I", true)
  | 14 => ("TaleReaderModel", "mentions", "I", false)
  | 15 => ("TaleReaderModel", "persons", "I", false)
  | 16 => ("TaleReaderModel", "doubts", "I", false)
  | 17 => ("TaleReaderModel", "isCut", "Z", false)
  | 18 => ("TaleReaderModel", "wordOf", "[I", true)
  | 19 => ("TaleReaderModel", "kind", "[I", true)
  | 20 => ("TaleReaderModel", "who", "[I", true)
  | 21 => ("TaleReaderModel", "fit", "[I", true)
  | 22 => ("TaleReaderModel", "doubt", "[Z", true)
  | 23 => ("TaleReaderModel", "mentionAt", "[I", true)
  | 24 => ("TaleReaderModel", "sex", "[I", true)
  | 25 => ("TaleReaderModel", "joined", "[I", true)
  | 26 => ("TaleReaderModel", "lastAt", "[I", true)
  | 27 => ("TaleReaderModel", "lastSentence", "[I", true)
  | 28 => ("TaleReaderModel", "members", "[I", true)
  | 29 => ("TaleReaderModel", "names", "[I", true)
  | 30 => ("TaleReaderModel", "name", "[I", true)
  | 31 => ("TaleReaderModel", "pins", "I", false)
  | 32 => ("TaleReaderModel", "pinned", "[I", true)
  | _ => ("TaleReaderModel", "pinnedTo", "[I", true)
def tyX9 : Nat → FieldType := fun k => match k with
  | 0 => .array .int
  | 1 => .array .int
  | 2 => .int
  | 3 => .int
  | 4 => .int
  | 5 => .int
  | 6 => .array .int
  | 7 => .array .int
  | 8 => .array .int
  | 9 => .array .boolean
  | 10 => .int
  | 11 => .array .int
  | 12 => .array .int
  | 13 => .array .int
  | 14 => .int
  | 15 => .int
  | 16 => .int
  | 17 => .boolean
  | 18 => .array .int
  | 19 => .array .int
  | 20 => .array .int
  | 21 => .array .int
  | 22 => .array .boolean
  | 23 => .array .int
  | 24 => .array .int
  | 25 => .array .int
  | 26 => .array .int
  | 27 => .array .int
  | 28 => .array .int
  | 29 => .array .int
  | 30 => .array .int
  | 31 => .int
  | 32 => .array .int
  | _ => .array .int
abbrev wsX90 : List Cond := u_ws RX9 TX9 34
theorem nmX9 : ∀ a, a < 34 → ∀ b, b < 34 → a ≠ b → (TX9 a).2.1 ≠ (TX9 b).2.1 := by decide +kernel
theorem tyX9_ok : ∀ k, k < 34 → parseFieldDescriptor (TX9 k).2.2.1 = some (tyX9 k) := by decide +kernel
abbrev cX9_init : ByteArray := prog_11_method_1_code
def yX9_init : MethodName := ⟨RX9, "<init>", "()V"⟩
abbrev cX9_isIn : ByteArray := prog_11_method_2_code
def yX9_isIn : MethodName := ⟨RX9, "isIn", "(III)Z"⟩
abbrev cX9_feed : ByteArray := prog_11_method_3_code
def yX9_feed : MethodName := ⟨RX9, "feed", "(IIIII)I"⟩
abbrev cX9_end : ByteArray := prog_11_method_4_code
def yX9_end : MethodName := ⟨RX9, "end", "(I)Z"⟩
abbrev cX9_isSmall : ByteArray := prog_11_method_5_code
def yX9_isSmall : MethodName := ⟨RX9, "isSmall", "(I)Z"⟩
abbrev cX9_isCapital : ByteArray := prog_11_method_6_code
def yX9_isCapital : MethodName := ⟨RX9, "isCapital", "(I)Z"⟩
abbrev cX9_isLetter : ByteArray := prog_11_method_7_code
def yX9_isLetter : MethodName := ⟨RX9, "isLetter", "(I)Z"⟩
abbrev cX9_parts : ByteArray := prog_11_method_8_code
def yX9_parts : MethodName := ⟨RX9, "parts", "()V"⟩
abbrev cX9_alike : ByteArray := prog_11_method_9_code
def yX9_alike : MethodName := ⟨RX9, "alike", "(II)Z"⟩
abbrev cX9_begins : ByteArray := prog_11_method_10_code
def yX9_begins : MethodName := ⟨RX9, "begins", "(II)Z"⟩
abbrev cX9_packed : ByteArray := prog_11_method_11_code
def yX9_packed : MethodName := ⟨RX9, "packed", "(IZ)J"⟩
abbrev cX9_sexOf : ByteArray := prog_11_method_12_code
def yX9_sexOf : MethodName := ⟨RX9, "sexOf", "(J)I"⟩
abbrev cX9_hasForm : ByteArray := prog_11_method_13_code
def yX9_hasForm : MethodName := ⟨RX9, "hasForm", "(I)Z"⟩
abbrev cX9_toldOf : ByteArray := prog_11_method_14_code
def yX9_toldOf : MethodName := ⟨RX9, "toldOf", "(I)I"⟩
abbrev cX9_kindOf : ByteArray := prog_11_method_15_code
def yX9_kindOf : MethodName := ⟨RX9, "kindOf", "(I)I"⟩
abbrev cX9_root : ByteArray := prog_11_method_16_code
def yX9_root : MethodName := ⟨RX9, "root", "(I)I"⟩
abbrev cX9_personNow : ByteArray := prog_11_method_17_code
def yX9_personNow : MethodName := ⟨RX9, "personNow", "(I)I"⟩
abbrev cX9_mentions : ByteArray := prog_11_method_18_code
def yX9_mentions : MethodName := ⟨RX9, "mentions", "()V"⟩
abbrev cX9_comes : ByteArray := prog_11_method_19_code
def yX9_comes : MethodName := ⟨RX9, "comes", "(I)I"⟩
abbrev cX9_puts : ByteArray := prog_11_method_20_code
def yX9_puts : MethodName := ⟨RX9, "puts", "(II)V"⟩
abbrev cX9_ofName : ByteArray := prog_11_method_21_code
def yX9_ofName : MethodName := ⟨RX9, "ofName", "(I)I"⟩
abbrev cX9_byBeginning : ByteArray := prog_11_method_22_code
def yX9_byBeginning : MethodName := ⟨RX9, "byBeginning", "(IZ)I"⟩
abbrev cX9_reads : ByteArray := prog_11_method_23_code
def yX9_reads : MethodName := ⟨RX9, "reads", "(I)I"⟩
abbrev cX9_fits : ByteArray := prog_11_method_24_code
def yX9_fits : MethodName := ⟨RX9, "fits", "(III)Z"⟩
abbrev cX9_guesses : ByteArray := prog_11_method_25_code
def yX9_guesses : MethodName := ⟨RX9, "guesses", "(I)I"⟩
abbrev cX9_pinOf : ByteArray := prog_11_method_26_code
def yX9_pinOf : MethodName := ⟨RX9, "pinOf", "(I)I"⟩
abbrev cX9_pinReads : ByteArray := prog_11_method_27_code
def yX9_pinReads : MethodName := ⟨RX9, "pinReads", "(II)I"⟩
abbrev cX9_marks : ByteArray := prog_11_method_28_code
def yX9_marks : MethodName := ⟨RX9, "marks", "(III)V"⟩
abbrev cX9_isWord : ByteArray := prog_11_method_29_code
def yX9_isWord : MethodName := ⟨RX9, "isWord", "(IJJ)Z"⟩
abbrev cX9_isName : ByteArray := prog_11_method_30_code
def yX9_isName : MethodName := ⟨RX9, "isName", "(I)Z"⟩
abbrev cX9_joins : ByteArray := prog_11_method_31_code
def yX9_joins : MethodName := ⟨RX9, "joins", "(I)V"⟩
abbrev cX9_goesOn : ByteArray := prog_11_method_32_code
def yX9_goesOn : MethodName := ⟨RX9, "goesOn", "(I)Z"⟩
abbrev cX9_groupNow : ByteArray := prog_11_method_33_code
def yX9_groupNow : MethodName := ⟨RX9, "groupNow", "(I)I"⟩
abbrev cX9_gathers : ByteArray := prog_11_method_34_code
def yX9_gathers : MethodName := ⟨RX9, "gathers", "(I)V"⟩
abbrev cX9_anew : ByteArray := prog_11_method_35_code
def yX9_anew : MethodName := ⟨RX9, "anew", "()V"⟩
abbrev cX9_read : ByteArray := prog_11_method_36_code
def yX9_read : MethodName := ⟨RX9, "read", "()I"⟩
abbrev cX9_tell : ByteArray := prog_11_method_37_code
def yX9_tell : MethodName := ⟨RX9, "tell", "(I)Z"⟩
abbrev cX9_isTold : ByteArray := prog_11_method_38_code
def yX9_isTold : MethodName := ⟨RX9, "isTold", "(II)Z"⟩
abbrev cX9_forget : ByteArray := prog_11_method_39_code
def yX9_forget : MethodName := ⟨RX9, "forget", "()V"⟩
abbrev cX9_pin : ByteArray := prog_11_method_40_code
def yX9_pin : MethodName := ⟨RX9, "pin", "(II)Z"⟩
abbrev cX9_loose : ByteArray := prog_11_method_41_code
def yX9_loose : MethodName := ⟨RX9, "loose", "(I)Z"⟩
abbrev cX9_look : ByteArray := prog_11_method_42_code
def yX9_look : MethodName := ⟨RX9, "look", "(I)I"⟩
abbrev cX9_isMention : ByteArray := prog_11_method_43_code
def yX9_isMention : MethodName := ⟨RX9, "isMention", "(I)Z"⟩
abbrev cX9_mention : ByteArray := prog_11_method_44_code
def yX9_mention : MethodName := ⟨RX9, "mention", "(II)I"⟩
abbrev cX9_isPerson : ByteArray := prog_11_method_45_code
def yX9_isPerson : MethodName := ⟨RX9, "isPerson", "(I)Z"⟩
abbrev cX9_person : ByteArray := prog_11_method_46_code
def yX9_person : MethodName := ⟨RX9, "person", "(II)I"⟩
abbrev cX9_chain : ByteArray := prog_11_method_47_code
def yX9_chain : MethodName := ⟨RX9, "chain", "(II)I"⟩
abbrev cX9_name : ByteArray := prog_11_method_48_code
def yX9_name : MethodName := ⟨RX9, "name", "(II)I"⟩
abbrev cX9_who : ByteArray := prog_11_method_49_code
def yX9_who : MethodName := ⟨RX9, "who", "(I)I"⟩
def RJx145de : String := "java/io/Serializable"
def TJx145de : u_T := fun k => match k with
  | _ => ("", "", "", false)
def tyJx145de : Nat → FieldType := fun k => match k with
  | _ => .int
abbrev wsJx145de0 : List Cond := u_ws RJx145de TJx145de 0
theorem nmJx145de : ∀ a, a < 0 → ∀ b, b < 0 → a ≠ b → (TJx145de a).2.1 ≠ (TJx145de b).2.1 := by decide +kernel
theorem tyJx145de_ok : ∀ k, k < 0 → parseFieldDescriptor (TJx145de k).2.2.1 = some (tyJx145de k) := by decide +kernel
def RJx9f9b0 : String := "java/lang/CharSequence"
def TJx9f9b0 : u_T := fun k => match k with
  | _ => ("", "", "", false)
def tyJx9f9b0 : Nat → FieldType := fun k => match k with
  | _ => .int
abbrev wsJx9f9b00 : List Cond := u_ws RJx9f9b0 TJx9f9b0 0
theorem nmJx9f9b0 : ∀ a, a < 0 → ∀ b, b < 0 → a ≠ b → (TJx9f9b0 a).2.1 ≠ (TJx9f9b0 b).2.1 := by decide +kernel
theorem tyJx9f9b0_ok : ∀ k, k < 0 → parseFieldDescriptor (TJx9f9b0 k).2.2.1 = some (tyJx9f9b0 k) := by decide +kernel
def RJxb160c : String := "java/lang/Comparable"
def TJxb160c : u_T := fun k => match k with
  | _ => ("", "", "", false)
def tyJxb160c : Nat → FieldType := fun k => match k with
  | _ => .int
abbrev wsJxb160c0 : List Cond := u_ws RJxb160c TJxb160c 0
theorem nmJxb160c : ∀ a, a < 0 → ∀ b, b < 0 → a ≠ b → (TJxb160c a).2.1 ≠ (TJxb160c b).2.1 := by decide +kernel
theorem tyJxb160c_ok : ∀ k, k < 0 → parseFieldDescriptor (TJxb160c k).2.2.1 = some (tyJxb160c k) := by decide +kernel
def RJ6 : String := "java/lang/Integer"
def TJ6 : u_T := fun k => match k with
  | _ => ("", "", "", false)
def tyJ6 : Nat → FieldType := fun k => match k with
  | _ => .int
abbrev wsJ60 : List Cond := u_ws RJ6 TJ6 0
theorem nmJ6 : ∀ a, a < 0 → ∀ b, b < 0 → a ≠ b → (TJ6 a).2.1 ≠ (TJ6 b).2.1 := by decide +kernel
theorem tyJ6_ok : ∀ k, k < 0 → parseFieldDescriptor (TJ6 k).2.2.1 = some (tyJ6 k) := by decide +kernel
abbrev cJ6_bitCount_0f7a4 : ByteArray := prog_12_method_49_code
def yJ6_bitCount_0f7a4 : MethodName := ⟨RJ6, "bitCount", "(I)I"⟩
def RJ9 : String := "java/lang/Math"
def TJ9 : u_T := fun k => match k with
  | _ => ("", "", "", false)
def tyJ9 : Nat → FieldType := fun k => match k with
  | _ => .int
abbrev wsJ90 : List Cond := u_ws RJ9 TJ9 0
theorem nmJ9 : ∀ a, a < 0 → ∀ b, b < 0 → a ≠ b → (TJ9 a).2.1 ≠ (TJ9 b).2.1 := by decide +kernel
theorem tyJ9_ok : ∀ k, k < 0 → parseFieldDescriptor (TJ9 k).2.2.1 = some (tyJ9 k) := by decide +kernel
abbrev cJ9_max_7cf53 : ByteArray := prog_13_method_65_code
def yJ9_max_7cf53 : MethodName := ⟨RJ9, "max", "(II)I"⟩
abbrev cJ9_min_7cf53 : ByteArray := prog_13_method_69_code
def yJ9_min_7cf53 : MethodName := ⟨RJ9, "min", "(II)I"⟩
def RJ0 : String := "java/lang/String"
def TJ0 : u_T := fun k => match k with
  | _ => ("", "", "", false)
def tyJ0 : Nat → FieldType := fun k => match k with
  | _ => .int
abbrev wsJ00 : List Cond := u_ws RJ0 TJ0 0
theorem nmJ0 : ∀ a, a < 0 → ∀ b, b < 0 → a ≠ b → (TJ0 a).2.1 ≠ (TJ0 b).2.1 := by decide +kernel
theorem tyJ0_ok : ∀ k, k < 0 → parseFieldDescriptor (TJ0 k).2.2.1 = some (tyJ0 k) := by decide +kernel
abbrev cJ0_length_8abf5 : ByteArray := prog_14_method_54_code
def yJ0_length_8abf5 : MethodName := ⟨RJ0, "length", "()I"⟩
abbrev cJ0_charAt_5068e : ByteArray := prog_14_method_56_code
def yJ0_charAt_5068e : MethodName := ⟨RJ0, "charAt", "(I)C"⟩
abbrev cJ0_coder_7d493 : ByteArray := prog_14_method_152_code
def yJ0_coder_7d493 : MethodName := ⟨RJ0, "coder", "()B"⟩
abbrev cJ0_isLatin1_aae02 : ByteArray := prog_14_method_154_code
def yJ0_isLatin1_aae02 : MethodName := ⟨RJ0, "isLatin1", "()Z"⟩
abbrev cJ0_checkIndex_df160 : ByteArray := prog_14_method_155_code
def yJ0_checkIndex_df160 : MethodName := ⟨RJ0, "checkIndex", "(II)V"⟩
def RJ1 : String := "java/lang/StringLatin1"
def TJ1 : u_T := fun k => match k with
  | _ => ("", "", "", false)
def tyJ1 : Nat → FieldType := fun k => match k with
  | _ => .int
abbrev wsJ10 : List Cond := u_ws RJ1 TJ1 0
theorem nmJ1 : ∀ a, a < 0 → ∀ b, b < 0 → a ≠ b → (TJ1 a).2.1 ≠ (TJ1 b).2.1 := by decide +kernel
theorem tyJ1_ok : ∀ k, k < 0 → parseFieldDescriptor (TJ1 k).2.2.1 = some (tyJ1 k) := by decide +kernel
abbrev cJ1_charAt_3b067 : ByteArray := prog_15_method_2_code
def yJ1_charAt_3b067 : MethodName := ⟨RJ1, "charAt", "([BI)C"⟩
def RJ2 : String := "java/lang/StringUTF16"
def TJ2 : u_T := fun k => match k with
  | _ => ("", "", "", false)
def tyJ2 : Nat → FieldType := fun k => match k with
  | _ => .int
abbrev wsJ20 : List Cond := u_ws RJ2 TJ2 0
theorem nmJ2 : ∀ a, a < 0 → ∀ b, b < 0 → a ≠ b → (TJ2 a).2.1 ≠ (TJ2 b).2.1 := by decide +kernel
theorem tyJ2_ok : ∀ k, k < 0 → parseFieldDescriptor (TJ2 k).2.2.1 = some (tyJ2 k) := by decide +kernel
abbrev cJ2_getChar_3b067 : ByteArray := prog_16_method_5_code
def yJ2_getChar_3b067 : MethodName := ⟨RJ2, "getChar", "([BI)C"⟩
abbrev cJ2_length_9d52b : ByteArray := prog_16_method_6_code
def yJ2_length_9d52b : MethodName := ⟨RJ2, "length", "([B)I"⟩
abbrev cJ2_charAt_3b067 : ByteArray := prog_16_method_83_code
def yJ2_charAt_3b067 : MethodName := ⟨RJ2, "charAt", "([BI)C"⟩
abbrev cJ2_checkIndex_2214a : ByteArray := prog_16_method_91_code
def yJ2_checkIndex_2214a : MethodName := ⟨RJ2, "checkIndex", "(I[B)V"⟩
def RJ10 : String := "java/lang/System"
def TJ10 : u_T := fun k => match k with
  | _ => ("", "", "", false)
def tyJ10 : Nat → FieldType := fun k => match k with
  | _ => .int
abbrev wsJ100 : List Cond := u_ws RJ10 TJ10 0
theorem nmJ10 : ∀ a, a < 0 → ∀ b, b < 0 → a ≠ b → (TJ10 a).2.1 ≠ (TJ10 b).2.1 := by decide +kernel
theorem tyJ10_ok : ∀ k, k < 0 → parseFieldDescriptor (TJ10 k).2.2.1 = some (tyJ10 k) := by decide +kernel
def RJxfd54e : String := "java/lang/constant/Constable"
def TJxfd54e : u_T := fun k => match k with
  | _ => ("", "", "", false)
def tyJxfd54e : Nat → FieldType := fun k => match k with
  | _ => .int
abbrev wsJxfd54e0 : List Cond := u_ws RJxfd54e TJxfd54e 0
theorem nmJxfd54e : ∀ a, a < 0 → ∀ b, b < 0 → a ≠ b → (TJxfd54e a).2.1 ≠ (TJxfd54e b).2.1 := by decide +kernel
theorem tyJxfd54e_ok : ∀ k, k < 0 → parseFieldDescriptor (TJxfd54e k).2.2.1 = some (tyJxfd54e k) := by decide +kernel
def RJx3cf43 : String := "java/lang/constant/ConstantDesc"
def TJx3cf43 : u_T := fun k => match k with
  | _ => ("", "", "", false)
def tyJx3cf43 : Nat → FieldType := fun k => match k with
  | _ => .int
abbrev wsJx3cf430 : List Cond := u_ws RJx3cf43 TJx3cf43 0
theorem nmJx3cf43 : ∀ a, a < 0 → ∀ b, b < 0 → a ≠ b → (TJx3cf43 a).2.1 ≠ (TJx3cf43 b).2.1 := by decide +kernel
theorem tyJx3cf43_ok : ∀ k, k < 0 → parseFieldDescriptor (TJx3cf43 k).2.2.1 = some (tyJx3cf43 k) := by decide +kernel
def RJ7 : String := "java/util/Arrays"
def TJ7 : u_T := fun k => match k with
  | _ => ("", "", "", false)
def tyJ7 : Nat → FieldType := fun k => match k with
  | _ => .int
abbrev wsJ70 : List Cond := u_ws RJ7 TJ7 0
theorem nmJ7 : ∀ a, a < 0 → ∀ b, b < 0 → a ≠ b → (TJ7 a).2.1 ≠ (TJ7 b).2.1 := by decide +kernel
theorem tyJ7_ok : ∀ k, k < 0 → parseFieldDescriptor (TJ7 k).2.2.1 = some (tyJ7 k) := by decide +kernel
abbrev cJ7_fill_53178 : ByteArray := prog_18_method_103_code
def yJ7_fill_53178 : MethodName := ⟨RJ7, "fill", "([II)V"⟩
def RJ3 : String := "jdk/internal/util/Preconditions"
def TJ3 : u_T := fun k => match k with
  | _ => ("", "", "", false)
def tyJ3 : Nat → FieldType := fun k => match k with
  | _ => .int
abbrev wsJ30 : List Cond := u_ws RJ3 TJ3 0
theorem nmJ3 : ∀ a, a < 0 → ∀ b, b < 0 → a ≠ b → (TJ3 a).2.1 ≠ (TJ3 b).2.1 := by decide +kernel
theorem tyJ3_ok : ∀ k, k < 0 → parseFieldDescriptor (TJ3 k).2.2.1 = some (tyJ3 k) := by decide +kernel
abbrev cJ3_checkIndex_8e157 : ByteArray := prog_19_method_11_code
def yJ3_checkIndex_8e157 : MethodName := ⟨RJ3, "checkIndex", "(IILjava/util/function/BiFunction;)I"⟩
def RL : String := "TaleReaderLaw"
abbrev cL_law : ByteArray := code
def yL_law : MethodName := ⟨RL, "law", "([I)Z"⟩
def wsL_law_r1 : List Cond := [Cond.classLink RL 7 RX8, Cond.instantiable RX8 8, Cond.initialized RX8, Cond.classLink RL 10 RX9, Cond.instantiable RX9 34, Cond.initialized RX9, Cond.methodLink RL 9 yX8_init, Cond.instanceMethod yX8_init, Cond.code yX8_init cX8_init 1 none, Cond.methodLink RX8 1 objectInit, Cond.instanceMethod objectInit, Cond.code objectInit ⟨#[0xb1]⟩ 1 none, Cond.classLink RX8 7 RX5, Cond.instantiable RX5 2, Cond.initialized RX5, Cond.fieldLink RX8 14 "TaleReader" "tape" "LTaleReader$Text;", Cond.classLink RX8 18 RX7, Cond.instantiable RX7 7, Cond.initialized RX7, Cond.fieldLink RX8 21 "TaleReader" "words" "LTaleReader$Words;", Cond.classLink RX8 25 RX6, Cond.instantiable RX6 5, Cond.initialized RX6, Cond.fieldLink RX8 28 "TaleReader" "told" "LTaleReader$ToldNames;"]
def wsL_law_r2 : List Cond := [Cond.classLink RX8 32 RX3, Cond.instantiable RX3 2, Cond.initialized RX3, Cond.fieldLink RX8 35 "TaleReader" "pins" "LTaleReader$Pins;", Cond.classLink RX8 39 RX1, Cond.instantiable RX1 10, Cond.initialized RX1, Cond.fieldLink RX8 44 "TaleReader" "mentions" "LTaleReader$Mentions;", Cond.classLink RX8 48 RX0, Cond.instantiable RX0 5, Cond.initialized RX0, Cond.fieldLink RX8 51 "TaleReader" "cast" "LTaleReader$Cast;", Cond.classLink RX8 55 RX2, Cond.instantiable RX2 4, Cond.initialized RX2, Cond.fieldLink RX8 60 "TaleReader" "names" "LTaleReader$Names;", Cond.classLink RX8 64 RX4, Cond.instantiable RX4 7, Cond.initialized RX4, Cond.fieldLink RX8 69 "TaleReader" "reading" "LTaleReader$Reading;", Cond.methodLink RX8 11 yX5_init, Cond.instanceMethod yX5_init, Cond.code yX5_init cX5_init 2 none, Cond.methodLink RX5 3 objectInit]
def wsL_law_r3 : List Cond := [Cond.methodLink RX5 9 Lib.Math.max.name, Cond.static Lib.Math.max.name, Cond.initialized "java/lang/Math", Cond.code Lib.Math.max.name Lib.Math.max.code 2 (some .int), Cond.arrayClass .byte, Cond.fieldLink RX5 15 "TaleReader$Text" "signs" "[B", Cond.fieldLink RX5 21 "TaleReader$Text" "size" "I", Cond.methodLink RX8 20 yX7_init, Cond.instanceMethod yX7_init, Cond.code yX7_init cX7_init 1 none, Cond.methodLink RX7 3 objectInit, Cond.classLink RX7 9 RX5, Cond.fieldLink RX7 14 "TaleReader$Words" "tale" "LTaleReader$Text;", Cond.arrayClass .int, Cond.fieldLink RX7 20 "TaleReader$Words" "places" "[I", Cond.fieldLink RX7 24 "TaleReader$Words" "lengths" "[I", Cond.fieldLink RX7 27 "TaleReader$Words" "sentences" "[I", Cond.fieldLink RX7 30 "TaleReader$Words" "kinds" "[I", Cond.fieldLink RX7 33 "TaleReader$Words" "count" "I", Cond.fieldLink RX7 37 "TaleReader$Words" "sentenceCount" "I", Cond.methodLink RX7 11 yX5_init, Cond.methodLink RX8 27 yX6_init, Cond.instanceMethod yX6_init, Cond.code yX6_init cX6_init 1 none]
def wsL_law_r4 : List Cond := [Cond.methodLink RX6 3 objectInit, Cond.classLink RX6 9 RX5, Cond.fieldLink RX6 14 "TaleReader$ToldNames" "letters" "LTaleReader$Text;", Cond.fieldLink RX6 20 "TaleReader$ToldNames" "starts" "[I", Cond.fieldLink RX6 24 "TaleReader$ToldNames" "lengths" "[I", Cond.fieldLink RX6 27 "TaleReader$ToldNames" "sexes" "[I", Cond.fieldLink RX6 30 "TaleReader$ToldNames" "count" "I", Cond.methodLink RX6 11 yX5_init, Cond.methodLink RX8 34 yX3_init, Cond.instanceMethod yX3_init, Cond.code yX3_init cX3_init 1 none, Cond.methodLink RX3 3 objectInit, Cond.fieldLink RX3 9 "TaleReader$Pins" "targets" "[I", Cond.fieldLink RX3 21 "TaleReader$Pins" "count" "I", Cond.methodLink RX3 15 yJ7_fill_53178, Cond.static yJ7_fill_53178, Cond.initialized RJ7, Cond.code yJ7_fill_53178 cJ7_fill_53178 4 none, Cond.methodLink RX8 41 yX1_init, Cond.instanceMethod yX1_init, Cond.code yX1_init cX1_init 2 none, Cond.methodLink RX1 3 objectInit, Cond.fieldLink RX1 9 "TaleReader$Mentions" "words" "LTaleReader$Words;", Cond.fieldLink RX1 15 "TaleReader$Mentions" "wordNumbers" "[I"]
def wsL_law_r5 : List Cond := [Cond.fieldLink RX1 19 "TaleReader$Mentions" "places" "[I", Cond.fieldLink RX1 22 "TaleReader$Mentions" "lengths" "[I", Cond.fieldLink RX1 25 "TaleReader$Mentions" "sentences" "[I", Cond.fieldLink RX1 28 "TaleReader$Mentions" "kinds" "[I", Cond.fieldLink RX1 31 "TaleReader$Mentions" "links" "[I", Cond.fieldLink RX1 34 "TaleReader$Mentions" "toldSexes" "[I", Cond.fieldLink RX1 37 "TaleReader$Mentions" "count" "I", Cond.fieldLink RX1 41 "TaleReader$Mentions" "cut" "Z", Cond.methodLink RX8 50 yX0_init, Cond.instanceMethod yX0_init, Cond.code yX0_init cX0_init 1 none, Cond.methodLink RX0 3 objectInit, Cond.fieldLink RX0 9 "TaleReader$Cast" "sexes" "[I", Cond.fieldLink RX0 15 "TaleReader$Cast" "joined" "[I", Cond.fieldLink RX0 18 "TaleReader$Cast" "members" "[I", Cond.fieldLink RX0 21 "TaleReader$Cast" "lastMentions" "[I", Cond.fieldLink RX0 24 "TaleReader$Cast" "count" "I", Cond.methodLink RX8 57 yX2_init, Cond.instanceMethod yX2_init, Cond.code yX2_init cX2_init 2 none, Cond.methodLink RX2 3 objectInit, Cond.fieldLink RX2 9 "TaleReader$Names" "mentions" "LTaleReader$Mentions;", Cond.fieldLink RX2 15 "TaleReader$Names" "firstMentions" "[I", Cond.fieldLink RX2 19 "TaleReader$Names" "owners" "[I"]
def wsL_law_r6 : List Cond := [Cond.fieldLink RX2 22 "TaleReader$Names" "count" "I", Cond.methodLink RX8 66 yX4_init, Cond.instanceMethod yX4_init, Cond.code yX4_init cX4_init 5 none, Cond.methodLink RX4 3 objectInit, Cond.fieldLink RX4 9 "TaleReader$Reading" "mentions" "LTaleReader$Mentions;", Cond.fieldLink RX4 15 "TaleReader$Reading" "pins" "LTaleReader$Pins;", Cond.fieldLink RX4 19 "TaleReader$Reading" "cast" "LTaleReader$Cast;", Cond.fieldLink RX4 23 "TaleReader$Reading" "names" "LTaleReader$Names;", Cond.fieldLink RX4 27 "TaleReader$Reading" "persons" "[I", Cond.fieldLink RX4 31 "TaleReader$Reading" "fits" "[I", Cond.arrayClass .boolean, Cond.fieldLink RX4 34 "TaleReader$Reading" "doubts" "[Z", Cond.methodLink RL 12 yX9_init, Cond.instanceMethod yX9_init, Cond.code yX9_init cX9_init 1 none, Cond.methodLink RX9 1 objectInit, Cond.fieldLink RX9 7 "TaleReaderModel" "tape" "[I", Cond.fieldLink RX9 13 "TaleReaderModel" "tale" "[I", Cond.fieldLink RX9 16 "TaleReaderModel" "wordAt" "[I", Cond.fieldLink RX9 19 "TaleReaderModel" "wordLong" "[I", Cond.fieldLink RX9 22 "TaleReaderModel" "wordSentence" "[I", Cond.fieldLink RX9 25 "TaleReaderModel" "isFirst" "[Z", Cond.fieldLink RX9 29 "TaleReaderModel" "toldLong" "[I"]
def wsL_law_r7 : List Cond := [Cond.fieldLink RX9 32 "TaleReaderModel" "toldLetter" "[I", Cond.fieldLink RX9 35 "TaleReaderModel" "toldSex" "[I", Cond.fieldLink RX9 38 "TaleReaderModel" "wordOf" "[I", Cond.fieldLink RX9 41 "TaleReaderModel" "kind" "[I", Cond.fieldLink RX9 44 "TaleReaderModel" "who" "[I", Cond.fieldLink RX9 47 "TaleReaderModel" "fit" "[I", Cond.fieldLink RX9 50 "TaleReaderModel" "doubt" "[Z", Cond.fieldLink RX9 53 "TaleReaderModel" "mentionAt" "[I", Cond.fieldLink RX9 56 "TaleReaderModel" "sex" "[I", Cond.fieldLink RX9 59 "TaleReaderModel" "joined" "[I", Cond.fieldLink RX9 62 "TaleReaderModel" "lastAt" "[I", Cond.fieldLink RX9 65 "TaleReaderModel" "lastSentence" "[I", Cond.fieldLink RX9 68 "TaleReaderModel" "members" "[I", Cond.fieldLink RX9 71 "TaleReaderModel" "names" "[I", Cond.fieldLink RX9 74 "TaleReaderModel" "name" "[I", Cond.fieldLink RX9 77 "TaleReaderModel" "pinned" "[I", Cond.fieldLink RX9 80 "TaleReaderModel" "pinnedTo" "[I", Cond.methodLink RL 13 yX8_feed, Cond.instanceMethod yX8_feed, Cond.selects RX8 yX8_feed yX8_feed, Cond.code yX8_feed cX8_feed 6 (some .int), Cond.methodLink RX8 73 yX5_size, Cond.instanceMethod yX5_size, Cond.selects RX5 yX5_size yX5_size]
def wsL_law_r8 : List Cond := [Cond.code yX5_size cX5_size 1 (some .int), Cond.methodLink RX8 77 yX5_addNumber, Cond.instanceMethod yX5_addNumber, Cond.selects RX5 yX5_addNumber yX5_addNumber, Cond.code yX5_addNumber cX5_addNumber 3 none, Cond.methodLink RX5 25 yX5_addSign, Cond.instanceMethod yX5_addSign, Cond.selects RX5 yX5_addSign yX5_addSign, Cond.code yX5_addSign cX5_addSign 2 none, Cond.methodLink RL 17 yX9_feed, Cond.instanceMethod yX9_feed, Cond.selects RX9 yX9_feed yX9_feed, Cond.code yX9_feed cX9_feed 8 (some .int), Cond.fieldLink RX9 83 "TaleReaderModel" "taped" "I", Cond.methodLink RL 18 yX8_end, Cond.instanceMethod yX8_end, Cond.selects RX8 yX8_end yX8_end, Cond.code yX8_end cX8_end 2 (some .boolean), Cond.methodLink RX8 80 yX5_shorten, Cond.instanceMethod yX5_shorten, Cond.selects RX5 yX5_shorten yX5_shorten, Cond.code yX5_shorten cX5_shorten 2 (some .boolean), Cond.methodLink RL 22 yX9_end, Cond.instanceMethod yX9_end]
def wsL_law_r9 : List Cond := [Cond.selects RX9 yX9_end yX9_end, Cond.code yX9_end cX9_end 2 (some .boolean), Cond.methodLink RX9 87 yX9_isIn, Cond.static yX9_isIn, Cond.code yX9_isIn cX9_isIn 3 (some .boolean), Cond.methodLink RL 23 yX8_read, Cond.instanceMethod yX8_read, Cond.selects RX8 yX8_read yX8_read, Cond.code yX8_read cX8_read 1 (some .int), Cond.methodLink RX8 84 yX7_take, Cond.instanceMethod yX7_take, Cond.selects RX7 yX7_take yX7_take, Cond.code yX7_take cX7_take 3 none, Cond.methodLink RX7 40 yX5_clear, Cond.instanceMethod yX5_clear, Cond.selects RX5 yX5_clear yX5_clear, Cond.code yX5_clear cX5_clear 1 none, Cond.methodLink RX7 43 yX5_addAll, Cond.instanceMethod yX5_addAll, Cond.selects RX5 yX5_addAll yX5_addAll, Cond.code yX5_addAll cX5_addAll 3 none, Cond.methodLink RX5 29 yX5_signAt, Cond.instanceMethod yX5_signAt, Cond.selects RX5 yX5_signAt yX5_signAt]
def wsL_law_r10 : List Cond := [Cond.code yX5_signAt cX5_signAt 2 (some .int), Cond.methodLink RX5 33 yX5_holds, Cond.instanceMethod yX5_holds, Cond.selects RX5 yX5_holds yX5_holds, Cond.code yX5_holds cX5_holds 3 (some .boolean), Cond.methodLink RX7 47 yX7_split, Cond.instanceMethod yX7_split, Cond.selects RX7 yX7_split yX7_split, Cond.code yX7_split cX7_split 5 none, Cond.methodLink RX7 72 Lib.Math.max.name, Cond.methodLink RX7 58 yX5_size, Cond.methodLink RX7 62 yX5_lettersFrom, Cond.instanceMethod yX5_lettersFrom, Cond.selects RX5 yX5_lettersFrom yX5_lettersFrom, Cond.code yX5_lettersFrom cX5_lettersFrom 5 (some .int), Cond.static yX8_isSmall, Cond.code yX8_isSmall cX8_isSmall 1 (some .boolean), Cond.static yX8_isCapital, Cond.code yX8_isCapital cX8_isCapital 1 (some .boolean), Cond.methodLink RX7 65 yX7_add, Cond.instanceMethod yX7_add, Cond.selects RX7 yX7_add yX7_add, Cond.code yX7_add cX7_add 4 none, Cond.methodLink RX7 69 yX5_signAt]
def wsL_law_r11 : List Cond := [Cond.methodLink RX7 50 yX7_kindBySpelling, Cond.instanceMethod yX7_kindBySpelling, Cond.selects RX7 yX7_kindBySpelling yX7_kindBySpelling, Cond.code yX7_kindBySpelling cX7_kindBySpelling 6 (some .int), Cond.methodLink RX7 78 yX7_placeOf, Cond.instanceMethod yX7_placeOf, Cond.selects RX7 yX7_placeOf yX7_placeOf, Cond.code yX7_placeOf cX7_placeOf 2 (some .int), Cond.methodLink RX7 117 yX7_has, Cond.instanceMethod yX7_has, Cond.selects RX7 yX7_has yX7_has, Cond.code yX7_has cX7_has 2 (some .boolean), Cond.methodLink RX7 81 yX7_lengthOf, Cond.instanceMethod yX7_lengthOf, Cond.selects RX7 yX7_lengthOf yX7_lengthOf, Cond.code yX7_lengthOf cX7_lengthOf 2 (some .int), Cond.methodLink RX7 84 yX5_heWordSex, Cond.instanceMethod yX5_heWordSex, Cond.selects RX5 yX5_heWordSex yX5_heWordSex, Cond.code yX5_heWordSex cX5_heWordSex 3 (some .int), Cond.methodLink RX5 54 yX5_spellsOne, Cond.instanceMethod yX5_spellsOne, Cond.selects RX5 yX5_spellsOne yX5_spellsOne, Cond.code yX5_spellsOne cX5_spellsOne 6 (some .boolean)]
def wsL_law_r12 : List Cond := [Cond.methodLink RX5 44 yX5_spellsWithAnyFirst, Cond.instanceMethod yX5_spellsWithAnyFirst, Cond.selects RX5 yX5_spellsWithAnyFirst yX5_spellsWithAnyFirst, Cond.code yX5_spellsWithAnyFirst cX5_spellsWithAnyFirst 7 (some .boolean), Cond.methodLink RX5 74 yJ0_length_8abf5, Cond.instanceMethod yJ0_length_8abf5, Cond.selects RJ0 yJ0_length_8abf5 yJ0_length_8abf5, Cond.initialized RJ0, Cond.code yJ0_length_8abf5 cJ0_length_8abf5 1 (some .int), Cond.fieldLink RJ0 9 "java/lang/String" "value" "[B", Cond.methodLink RJ0 335 yJ0_coder_7d493, Cond.instanceMethod yJ0_coder_7d493, Cond.selects RJ0 yJ0_coder_7d493 yJ0_coder_7d493, Cond.code yJ0_coder_7d493 cJ0_coder_7d493 1 (some .byte), Cond.fieldLink RJ0 38 "java/lang/String" "COMPACT_STRINGS" "Z", Cond.fieldLink RJ0 15 "java/lang/String" "coder" "B", Cond.methodLink RX5 80 yJ0_charAt_5068e, Cond.instanceMethod yJ0_charAt_5068e, Cond.selects RJ0 yJ0_charAt_5068e yJ0_charAt_5068e, Cond.code yJ0_charAt_5068e cJ0_charAt_5068e 2 (some .char), Cond.methodLink RJ0 492 yJ0_isLatin1_aae02, Cond.instanceMethod yJ0_isLatin1_aae02, Cond.selects RJ0 yJ0_isLatin1_aae02 yJ0_isLatin1_aae02, Cond.code yJ0_isLatin1_aae02 cJ0_isLatin1_aae02 1 (some .boolean)]
def wsL_law_r13 : List Cond := [Cond.methodLink RJ0 495 yJ1_charAt_3b067, Cond.static yJ1_charAt_3b067, Cond.initialized RJ1, Cond.code yJ1_charAt_3b067 cJ1_charAt_3b067 2 (some .char), Cond.methodLink RJ1 9 yJ0_checkIndex_df160, Cond.static yJ0_checkIndex_df160, Cond.code yJ0_checkIndex_df160 cJ0_checkIndex_df160 2 none, Cond.fieldLink RJ0 1053 "jdk/internal/util/Preconditions" "SIOOBE_FORMATTER" "Ljava/util/function/BiFunction;", Cond.methodLink RJ0 1059 yJ3_checkIndex_8e157, Cond.static yJ3_checkIndex_8e157, Cond.initialized RJ3, Cond.code yJ3_checkIndex_8e157 cJ3_checkIndex_8e157 3 (some .int), Cond.methodLink RJ0 498 yJ2_charAt_3b067, Cond.static yJ2_charAt_3b067, Cond.initialized RJ2, Cond.code yJ2_charAt_3b067 cJ2_charAt_3b067 2 (some .char), Cond.methodLink RJ2 67 yJ2_checkIndex_2214a, Cond.static yJ2_checkIndex_2214a, Cond.code yJ2_checkIndex_2214a cJ2_checkIndex_2214a 2 none, Cond.methodLink RJ2 48 yJ2_length_9d52b, Cond.static yJ2_length_9d52b, Cond.code yJ2_length_9d52b cJ2_length_9d52b 1 (some .int), Cond.methodLink RJ2 414 yJ0_checkIndex_df160, Cond.methodLink RJ2 71 yJ2_getChar_3b067]
def wsL_law_r14 : List Cond := [Cond.static yJ2_getChar_3b067, Cond.code yJ2_getChar_3b067 cJ2_getChar_3b067 2 (some .char), Cond.fieldLink RJ2 44 "java/lang/StringUTF16" "$assertionsDisabled" "Z", Cond.fieldLink RJ2 59 "java/lang/StringUTF16" "HI_BYTE_SHIFT" "I", Cond.fieldLink RJ2 63 "java/lang/StringUTF16" "LO_BYTE_SHIFT" "I", Cond.methodLink RX7 90 yX7_isFirst, Cond.instanceMethod yX7_isFirst, Cond.selects RX7 yX7_isFirst yX7_isFirst, Cond.code yX7_isFirst cX7_isFirst 2 (some .boolean), Cond.methodLink RX7 107 yX7_sentenceOf, Cond.instanceMethod yX7_sentenceOf, Cond.selects RX7 yX7_sentenceOf yX7_sentenceOf, Cond.code yX7_sentenceOf cX7_sentenceOf 2 (some .int), Cond.methodLink RX7 93 yX5_looksLikeName, Cond.instanceMethod yX5_looksLikeName, Cond.selects RX5 yX5_looksLikeName yX5_looksLikeName, Cond.code yX5_looksLikeName cX5_looksLikeName 4 (some .boolean), Cond.methodLink RX7 99 yX5_spells, Cond.instanceMethod yX5_spells, Cond.selects RX5 yX5_spells yX5_spells, Cond.code yX5_spells cX5_spells 4 (some .boolean), Cond.methodLink RX7 54 yX7_isNameInsideSentence, Cond.instanceMethod yX7_isNameInsideSentence, Cond.selects RX7 yX7_isNameInsideSentence yX7_isNameInsideSentence]
def wsL_law_r15 : List Cond := [Cond.code yX7_isNameInsideSentence cX7_isNameInsideSentence 3 (some .boolean), Cond.methodLink RX7 110 yX7_beginsWith, Cond.instanceMethod yX7_beginsWith, Cond.selects RX7 yX7_beginsWith yX7_beginsWith, Cond.code yX7_beginsWith cX7_beginsWith 3 (some .boolean), Cond.methodLink RX7 113 yX5_sameAs, Cond.instanceMethod yX5_sameAs, Cond.selects RX5 yX5_sameAs yX5_sameAs, Cond.code yX5_sameAs cX5_sameAs 6 (some .boolean), Cond.methodLink RX8 88 yX5_clear, Cond.methodLink RX8 91 yX3_clear, Cond.instanceMethod yX3_clear, Cond.selects RX3 yX3_clear yX3_clear, Cond.code yX3_clear cX3_clear 1 none, Cond.methodLink RX8 92 yX8_readAnew, Cond.instanceMethod yX8_readAnew, Cond.selects RX8 yX8_readAnew yX8_readAnew, Cond.code yX8_readAnew cX8_readAnew 2 none, Cond.methodLink RX8 177 yX1_gather, Cond.instanceMethod yX1_gather, Cond.selects RX1 yX1_gather yX1_gather, Cond.code yX1_gather cX1_gather 5 none, Cond.methodLink RX1 45 yX7_size, Cond.instanceMethod yX7_size]
def wsL_law_r16 : List Cond := [Cond.selects RX7 yX7_size yX7_size, Cond.code yX7_size cX7_size 1 (some .int), Cond.methodLink RX1 51 yX7_kindOf, Cond.instanceMethod yX7_kindOf, Cond.selects RX7 yX7_kindOf yX7_kindOf, Cond.code yX7_kindOf cX7_kindOf 2 (some .int), Cond.methodLink RX1 55 yX7_tale, Cond.instanceMethod yX7_tale, Cond.selects RX7 yX7_tale yX7_tale, Cond.code yX7_tale cX7_tale 1 (some (.object "TaleReader$Text")), Cond.methodLink RX1 59 yX7_placeOf, Cond.methodLink RX1 62 yX7_lengthOf, Cond.methodLink RX1 65 yX6_find, Cond.instanceMethod yX6_find, Cond.selects RX6 yX6_find yX6_find, Cond.code yX6_find cX6_find 5 (some .int), Cond.methodLink RX6 66 yX5_sameAs, Cond.methodLink RX1 71 yX6_sexOf, Cond.instanceMethod yX6_sexOf, Cond.selects RX6 yX6_sexOf yX6_sexOf, Cond.code yX6_sexOf cX6_sexOf 2 (some .int), Cond.methodLink RX1 74 yX1_add, Cond.instanceMethod yX1_add, Cond.selects RX1 yX1_add yX1_add]
def wsL_law_r17 : List Cond := [Cond.code yX1_add cX1_add 4 none, Cond.methodLink RX1 78 yX7_sentenceOf, Cond.methodLink RX1 81 yX1_linkAhead, Cond.instanceMethod yX1_linkAhead, Cond.selects RX1 yX1_linkAhead yX1_linkAhead, Cond.code yX1_linkAhead cX1_linkAhead 6 (some .int), Cond.methodLink RX1 85 yX1_kindOf, Cond.instanceMethod yX1_kindOf, Cond.selects RX1 yX1_kindOf yX1_kindOf, Cond.code yX1_kindOf cX1_kindOf 2 (some .int), Cond.methodLink RX1 86 yX1_has, Cond.instanceMethod yX1_has, Cond.selects RX1 yX1_has yX1_has, Cond.code yX1_has cX1_has 2 (some .boolean), Cond.methodLink RX8 181 yX0_clear, Cond.instanceMethod yX0_clear, Cond.selects RX0 yX0_clear yX0_clear, Cond.code yX0_clear cX0_clear 1 none, Cond.methodLink RX8 182 yX2_clear, Cond.instanceMethod yX2_clear, Cond.selects RX2 yX2_clear yX2_clear, Cond.code yX2_clear cX2_clear 1 none, Cond.methodLink RX8 95 yX1_size, Cond.instanceMethod yX1_size]
def wsL_law_r18 : List Cond := [Cond.selects RX1 yX1_size yX1_size, Cond.code yX1_size cX1_size 1 (some .int), Cond.methodLink RX8 183 yX4_readMention, Cond.instanceMethod yX4_readMention, Cond.selects RX4 yX4_readMention yX4_readMention, Cond.code yX4_readMention cX4_readMention 3 none, Cond.methodLink RX4 38 yX1_has, Cond.methodLink RX4 44 yX3_targetOf, Cond.instanceMethod yX3_targetOf, Cond.selects RX3 yX3_targetOf yX3_targetOf, Cond.code yX3_targetOf cX3_targetOf 2 (some .int), Cond.methodLink RX4 50 yX4_readPinned, Cond.instanceMethod yX4_readPinned, Cond.selects RX4 yX4_readPinned yX4_readPinned, Cond.code yX4_readPinned cX4_readPinned 3 (some .int), Cond.methodLink RX4 71 yX4_personOf, Cond.instanceMethod yX4_personOf, Cond.selects RX4 yX4_personOf yX4_personOf, Cond.code yX4_personOf cX4_personOf 2 (some .int), Cond.methodLink RX4 159 yX0_nowOf, Cond.instanceMethod yX0_nowOf, Cond.selects RX0 yX0_nowOf yX0_nowOf, Cond.code yX0_nowOf cX0_nowOf 4 (some .int), Cond.methodLink RX0 36 yX0_has]
def wsL_law_r19 : List Cond := [Cond.instanceMethod yX0_has, Cond.selects RX0 yX0_has yX0_has, Cond.code yX0_has cX0_has 2 (some .boolean), Cond.methodLink RX4 53 yX1_isName, Cond.instanceMethod yX1_isName, Cond.selects RX1 yX1_isName yX1_isName, Cond.code yX1_isName cX1_isName 2 (some .boolean), Cond.methodLink RX4 81 yX0_isGroup, Cond.instanceMethod yX0_isGroup, Cond.selects RX0 yX0_isGroup yX0_isGroup, Cond.code yX0_isGroup cX0_isGroup 2 (some .boolean), Cond.methodLink RX4 84 yX2_ownerOf, Cond.instanceMethod yX2_ownerOf, Cond.selects RX2 yX2_ownerOf yX2_ownerOf, Cond.code yX2_ownerOf cX2_ownerOf 3 (some .int), Cond.methodLink RX2 26 yX1_sameName, Cond.instanceMethod yX1_sameName, Cond.selects RX1 yX1_sameName yX1_sameName, Cond.code yX1_sameName cX1_sameName 3 (some .boolean), Cond.methodLink RX1 90 yX5_sameAs, Cond.methodLink RX4 89 yX2_add, Cond.instanceMethod yX2_add, Cond.selects RX2 yX2_add yX2_add, Cond.code yX2_add cX2_add 3 none]
def wsL_law_r20 : List Cond := [Cond.methodLink RX4 56 yX4_readName, Cond.instanceMethod yX4_readName, Cond.selects RX4 yX4_readName yX4_readName, Cond.code yX4_readName cX4_readName 4 (some .int), Cond.methodLink RX4 92 yX1_toldSexOf, Cond.instanceMethod yX1_toldSexOf, Cond.selects RX1 yX1_toldSexOf yX1_toldSexOf, Cond.code yX1_toldSexOf cX1_toldSexOf 2 (some .int), Cond.methodLink RX4 95 yX2_ownerOfLonger, Cond.instanceMethod yX2_ownerOfLonger, Cond.selects RX2 yX2_ownerOfLonger yX2_ownerOfLonger, Cond.code yX2_ownerOfLonger cX2_ownerOfLonger 4 (some .int), Cond.methodLink RX2 32 yX1_lengthOf, Cond.instanceMethod yX1_lengthOf, Cond.selects RX1 yX1_lengthOf yX1_lengthOf, Cond.code yX1_lengthOf cX1_lengthOf 2 (some .int), Cond.methodLink RX2 36 yX1_beginsWith, Cond.instanceMethod yX1_beginsWith, Cond.selects RX1 yX1_beginsWith yX1_beginsWith, Cond.code yX1_beginsWith cX1_beginsWith 3 (some .boolean), Cond.methodLink RX4 98 yX2_ownerOfShorter, Cond.instanceMethod yX2_ownerOfShorter, Cond.selects RX2 yX2_ownerOfShorter yX2_ownerOfShorter, Cond.code yX2_ownerOfShorter cX2_ownerOfShorter 5 (some .int)]
def wsL_law_r21 : List Cond := [Cond.methodLink RX4 101 yX0_add, Cond.instanceMethod yX0_add, Cond.selects RX0 yX0_add yX0_add, Cond.code yX0_add cX0_add 3 (some .int), Cond.methodLink RX4 104 yX0_learnSex, Cond.instanceMethod yX0_learnSex, Cond.selects RX0 yX0_learnSex yX0_learnSex, Cond.code yX0_learnSex cX0_learnSex 3 none, Cond.methodLink RX4 59 yX4_readHeWord, Cond.instanceMethod yX4_readHeWord, Cond.selects RX4 yX4_readHeWord yX4_readHeWord, Cond.code yX4_readHeWord cX4_readHeWord 6 (some .int), Cond.methodLink RX4 107 yX1_kindOf, Cond.methodLink RX4 110 yX0_size, Cond.instanceMethod yX0_size, Cond.selects RX0 yX0_size yX0_size, Cond.code yX0_size cX0_size 1 (some .int), Cond.methodLink RX4 114 yX4_fitsHeWord, Cond.instanceMethod yX4_fitsHeWord, Cond.selects RX4 yX4_fitsHeWord yX4_fitsHeWord, Cond.code yX4_fitsHeWord cX4_fitsHeWord 7 (some .boolean), Cond.methodLink RX4 124 yX0_stands, Cond.instanceMethod yX0_stands, Cond.selects RX0 yX0_stands yX0_stands]
def wsL_law_r22 : List Cond := [Cond.code yX0_stands cX0_stands 2 (some .boolean), Cond.methodLink RX4 118 yX0_lastMentionOf, Cond.instanceMethod yX0_lastMentionOf, Cond.selects RX0 yX0_lastMentionOf yX0_lastMentionOf, Cond.code yX0_lastMentionOf cX0_lastMentionOf 2 (some .int), Cond.methodLink RX4 127 yX0_sexOf, Cond.instanceMethod yX0_sexOf, Cond.selects RX0 yX0_sexOf yX0_sexOf, Cond.code yX0_sexOf cX0_sexOf 2 (some .int), Cond.methodLink RX4 130 yX1_sentenceOf, Cond.instanceMethod yX1_sentenceOf, Cond.selects RX1 yX1_sentenceOf yX1_sentenceOf, Cond.code yX1_sentenceOf cX1_sentenceOf 2 (some .int), Cond.methodLink RX4 121 yX4_lastSentenceOf, Cond.instanceMethod yX4_lastSentenceOf, Cond.selects RX4 yX4_lastSentenceOf yX4_lastSentenceOf, Cond.code yX4_lastSentenceOf cX4_lastSentenceOf 2 (some .int), Cond.methodLink RX4 62 yX0_noteMention, Cond.instanceMethod yX0_noteMention, Cond.selects RX0 yX0_noteMention yX0_noteMention, Cond.code yX0_noteMention cX0_noteMention 3 none, Cond.methodLink RX0 39 Lib.Math.max.name, Cond.methodLink RX4 68 yX1_linkOf, Cond.instanceMethod yX1_linkOf]
def wsL_law_r23 : List Cond := [Cond.selects RX1 yX1_linkOf yX1_linkOf, Cond.code yX1_linkOf cX1_linkOf 2 (some .int), Cond.methodLink RX4 74 yX4_joinIfPossible, Cond.instanceMethod yX4_joinIfPossible, Cond.selects RX4 yX4_joinIfPossible yX4_joinIfPossible, Cond.code yX4_joinIfPossible cX4_joinIfPossible 5 none, Cond.methodLink RX4 137 Lib.Math.max.name, Cond.methodLink RX4 142 Lib.Math.min.name, Cond.static Lib.Math.min.name, Cond.code Lib.Math.min.name Lib.Math.min.code 2 (some .int), Cond.methodLink RX4 133 yX0_canJoin, Cond.instanceMethod yX0_canJoin, Cond.selects RX0 yX0_canJoin yX0_canJoin, Cond.code yX0_canJoin cX0_canJoin 3 (some .boolean), Cond.methodLink RX0 44 yX0_stands, Cond.methodLink RX0 28 yX0_isGroup, Cond.methodLink RX4 145 yX0_join, Cond.instanceMethod yX0_join, Cond.selects RX0 yX0_join yX0_join, Cond.code yX0_join cX0_join 4 none, Cond.methodLink RX0 47 yX0_learnSex, Cond.methodLink RX0 51 yX0_noteMention, Cond.methodLink RX4 148 yX2_handOver, Cond.instanceMethod yX2_handOver]
def wsL_law_r24 : List Cond := [Cond.selects RX2 yX2_handOver yX2_handOver, Cond.code yX2_handOver cX2_handOver 5 none, Cond.methodLink RX2 39 yX2_moveToEnd, Cond.instanceMethod yX2_moveToEnd, Cond.selects RX2 yX2_moveToEnd yX2_moveToEnd, Cond.code yX2_moveToEnd cX2_moveToEnd 3 none, Cond.methodLink RX2 43 arraycopyName, Cond.native arraycopyName, Cond.static arraycopyName, Cond.initialized "java/lang/System", Cond.methodLink RX4 77 yX4_mentionGroup, Cond.instanceMethod yX4_mentionGroup, Cond.selects RX4 yX4_mentionGroup yX4_mentionGroup, Cond.code yX4_mentionGroup cX4_mentionGroup 6 none, Cond.methodLink RX4 151 yJ6_bitCount_0f7a4, Cond.static yJ6_bitCount_0f7a4, Cond.initialized RJ6, Cond.code yJ6_bitCount_0f7a4 cJ6_bitCount_0f7a4 1 (some .int), Cond.constant RJ6 265 (1431655765), Cond.constant RJ6 266 (858993459), Cond.constant RJ6 267 (252645135), Cond.methodLink RX4 156 yX0_groupOf, Cond.instanceMethod yX0_groupOf, Cond.selects RX0 yX0_groupOf yX0_groupOf]
def wsL_law_r25 : List Cond := [Cond.code yX0_groupOf cX0_groupOf 3 (some .int), Cond.methodLink RX0 32 yX0_add, Cond.methodLink RL 27 yX9_read, Cond.instanceMethod yX9_read, Cond.selects RX9 yX9_read yX9_read, Cond.code yX9_read cX9_read 2 (some .int), Cond.fieldLink RX9 104 "TaleReaderModel" "taleLong" "I", Cond.fieldLink RX9 190 "TaleReaderModel" "pins" "I", Cond.fieldLink RX9 157 "TaleReaderModel" "mentions" "I", Cond.methodLink RX9 244 yX9_parts, Cond.instanceMethod yX9_parts, Cond.selects RX9 yX9_parts yX9_parts, Cond.code yX9_parts cX9_parts 3 none, Cond.fieldLink RX9 98 "TaleReaderModel" "words" "I", Cond.fieldLink RX9 101 "TaleReaderModel" "stops" "I", Cond.methodLink RX9 107 yX9_isLetter, Cond.static yX9_isLetter, Cond.code yX9_isLetter cX9_isLetter 1 (some .boolean), Cond.methodLink RX9 91 yX9_isSmall, Cond.static yX9_isSmall, Cond.code yX9_isSmall cX9_isSmall 1 (some .boolean), Cond.methodLink RX9 95 yX9_isCapital, Cond.static yX9_isCapital, Cond.code yX9_isCapital cX9_isCapital 1 (some .boolean)]
def wsL_law_r26 : List Cond := [Cond.methodLink RX9 247 yX9_anew, Cond.instanceMethod yX9_anew, Cond.selects RX9 yX9_anew yX9_anew, Cond.code yX9_anew cX9_anew 3 none, Cond.fieldLink RX9 167 "TaleReaderModel" "persons" "I", Cond.fieldLink RX9 221 "TaleReaderModel" "doubts" "I", Cond.methodLink RX9 219 yX9_mentions, Cond.instanceMethod yX9_mentions, Cond.selects RX9 yX9_mentions yX9_mentions, Cond.code yX9_mentions cX9_mentions 3 none, Cond.fieldLink RX9 160 "TaleReaderModel" "isCut" "Z", Cond.methodLink RX9 164 yX9_kindOf, Cond.instanceMethod yX9_kindOf, Cond.selects RX9 yX9_kindOf yX9_kindOf, Cond.code yX9_kindOf cX9_kindOf 4 (some .int), Cond.methodLink RX9 135 yX9_packed, Cond.instanceMethod yX9_packed, Cond.selects RX9 yX9_packed yX9_packed, Cond.code yX9_packed cX9_packed 7 (some .long), Cond.methodLink RX9 139 yX9_sexOf, Cond.static yX9_sexOf, Cond.code yX9_sexOf cX9_sexOf 2 (some .int), Cond.constantLong RX9 110 (26725), Cond.constantLong RX9 112 (6842733)]
def wsL_law_r27 : List Cond := [Cond.constantLong RX9 114 (6842739), Cond.constantLong RX9 116 (7563365), Cond.constantLong RX9 118 (6841714), Cond.constantLong RX9 120 (1751478899), Cond.constantLong RX9 122 (26996), Cond.constantLong RX9 124 (6911091), Cond.constantLong RX9 126 (1952998777), Cond.constantLong RX9 128 (1952998765), Cond.constantLong RX9 130 (499967682930), Cond.methodLink RX9 143 yX9_hasForm, Cond.instanceMethod yX9_hasForm, Cond.selects RX9 yX9_hasForm yX9_hasForm, Cond.code yX9_hasForm cX9_hasForm 4 (some .boolean), Cond.methodLink RX9 146 yX9_toldOf, Cond.instanceMethod yX9_toldOf, Cond.selects RX9 yX9_toldOf yX9_toldOf, Cond.code yX9_toldOf cX9_toldOf 5 (some .int), Cond.fieldLink RX9 132 "TaleReaderModel" "toldMany" "I", Cond.methodLink RX9 150 yX9_alike, Cond.instanceMethod yX9_alike, Cond.selects RX9 yX9_alike yX9_alike, Cond.code yX9_alike cX9_alike 5 (some .boolean), Cond.methodLink RX9 224 yX9_pinOf, Cond.instanceMethod yX9_pinOf]
def wsL_law_r28 : List Cond := [Cond.selects RX9 yX9_pinOf yX9_pinOf, Cond.code yX9_pinOf cX9_pinOf 3 (some .int), Cond.methodLink RX9 227 yX9_pinReads, Cond.instanceMethod yX9_pinReads, Cond.selects RX9 yX9_pinReads yX9_pinReads, Cond.code yX9_pinReads cX9_pinReads 4 (some .int), Cond.methodLink RX9 193 yX9_personNow, Cond.instanceMethod yX9_personNow, Cond.selects RX9 yX9_personNow yX9_personNow, Cond.code yX9_personNow cX9_personNow 2 (some .int), Cond.methodLink RX9 154 yX9_root, Cond.instanceMethod yX9_root, Cond.selects RX9 yX9_root yX9_root, Cond.code yX9_root cX9_root 3 (some .int), Cond.methodLink RX9 173 yX9_ofName, Cond.instanceMethod yX9_ofName, Cond.selects RX9 yX9_ofName yX9_ofName, Cond.code yX9_ofName cX9_ofName 4 (some .int), Cond.methodLink RX9 183 yX9_puts, Cond.instanceMethod yX9_puts, Cond.selects RX9 yX9_puts yX9_puts, Cond.code yX9_puts cX9_puts 3 none, Cond.methodLink RX9 231 yX9_reads, Cond.instanceMethod yX9_reads]
def wsL_law_r29 : List Cond := [Cond.selects RX9 yX9_reads yX9_reads, Cond.code yX9_reads cX9_reads 5 (some .int), Cond.methodLink RX9 176 yX9_byBeginning, Cond.instanceMethod yX9_byBeginning, Cond.selects RX9 yX9_byBeginning yX9_byBeginning, Cond.code yX9_byBeginning cX9_byBeginning 9 (some .int), Cond.methodLink RX9 170 yX9_begins, Cond.instanceMethod yX9_begins, Cond.selects RX9 yX9_begins yX9_begins, Cond.code yX9_begins cX9_begins 5 (some .boolean), Cond.methodLink RX9 180 yX9_comes, Cond.instanceMethod yX9_comes, Cond.selects RX9 yX9_comes yX9_comes, Cond.code yX9_comes cX9_comes 2 (some .int), Cond.methodLink RX9 234 yX9_guesses, Cond.instanceMethod yX9_guesses, Cond.selects RX9 yX9_guesses yX9_guesses, Cond.code yX9_guesses cX9_guesses 6 (some .int), Cond.methodLink RX9 187 yX9_fits, Cond.instanceMethod yX9_fits, Cond.selects RX9 yX9_fits yX9_fits, Cond.code yX9_fits cX9_fits 4 (some .boolean), Cond.methodLink RX9 207 yX9_marks, Cond.instanceMethod yX9_marks]
def wsL_law_r30 : List Cond := [Cond.selects RX9 yX9_marks yX9_marks, Cond.code yX9_marks cX9_marks 4 none, Cond.methodLink RX9 237 yX9_joins, Cond.instanceMethod yX9_joins, Cond.selects RX9 yX9_joins yX9_joins, Cond.code yX9_joins cX9_joins 8 none, Cond.constantLong RX9 199 (26995), Cond.constantLong RX9 201 (7823731), Cond.methodLink RX9 196 yX9_isName, Cond.instanceMethod yX9_isName, Cond.selects RX9 yX9_isName yX9_isName, Cond.code yX9_isName cX9_isName 2 (some .boolean), Cond.methodLink RX9 203 yX9_isWord, Cond.instanceMethod yX9_isWord, Cond.selects RX9 yX9_isWord yX9_isWord, Cond.code yX9_isWord cX9_isWord 8 (some .boolean), Cond.methodLink RX9 241 yX9_gathers, Cond.instanceMethod yX9_gathers, Cond.selects RX9 yX9_gathers yX9_gathers, Cond.code yX9_gathers cX9_gathers 7 none, Cond.methodLink RX9 213 yX9_goesOn, Cond.instanceMethod yX9_goesOn, Cond.selects RX9 yX9_goesOn yX9_goesOn, Cond.code yX9_goesOn cX9_goesOn 2 (some .boolean)]
def wsL_law_r31 : List Cond := [Cond.constantLong RX9 211 (6385252), Cond.methodLink RX9 216 yX9_groupNow, Cond.instanceMethod yX9_groupNow, Cond.selects RX9 yX9_groupNow yX9_groupNow, Cond.code yX9_groupNow cX9_groupNow 4 (some .int), Cond.methodLink RL 28 yX8_tell, Cond.instanceMethod yX8_tell, Cond.selects RX8 yX8_tell yX8_tell, Cond.code yX8_tell cX8_tell 3 (some .boolean), Cond.methodLink RX8 96 yX6_take, Cond.instanceMethod yX6_take, Cond.selects RX6 yX6_take yX6_take, Cond.code yX6_take cX6_take 6 (some .boolean), Cond.methodLink RX6 37 yX5_size, Cond.methodLink RX6 41 yX5_looksLikeName, Cond.methodLink RX6 45 yX5_heWordSex, Cond.methodLink RX6 49 yX6_find, Cond.methodLink RX6 53 yX6_append, Cond.instanceMethod yX6_append, Cond.selects RX6 yX6_append yX6_append, Cond.code yX6_append cX6_append 3 (some .int), Cond.methodLink RX6 57 Lib.Math.min.name, Cond.methodLink RX6 62 yX5_addAll, Cond.methodLink RL 31 yX9_tell]
def wsL_law_r32 : List Cond := [Cond.instanceMethod yX9_tell, Cond.selects RX9 yX9_tell yX9_tell, Cond.code yX9_tell cX9_tell 7 (some .boolean), Cond.methodLink RX9 250 yX9_isTold, Cond.instanceMethod yX9_isTold, Cond.selects RX9 yX9_isTold yX9_isTold, Cond.code yX9_isTold cX9_isTold 5 (some .boolean), Cond.methodLink RL 32 yX8_forget, Cond.instanceMethod yX8_forget, Cond.selects RX8 yX8_forget yX8_forget, Cond.code yX8_forget cX8_forget 1 none, Cond.methodLink RX8 99 yX6_clear, Cond.instanceMethod yX6_clear, Cond.selects RX6 yX6_clear yX6_clear, Cond.code yX6_clear cX6_clear 1 none, Cond.methodLink RX6 34 yX5_clear, Cond.methodLink RL 35 yX9_forget, Cond.instanceMethod yX9_forget, Cond.selects RX9 yX9_forget yX9_forget, Cond.code yX9_forget cX9_forget 1 none, Cond.methodLink RL 36 yX8_pin, Cond.instanceMethod yX8_pin, Cond.selects RX8 yX8_pin yX8_pin, Cond.code yX8_pin cX8_pin 3 (some .boolean)]
def wsL_law_r33 : List Cond := [Cond.methodLink RX8 100 yX1_has, Cond.methodLink RX8 103 yX3_size, Cond.instanceMethod yX3_size, Cond.selects RX3 yX3_size yX3_size, Cond.code yX3_size cX3_size 1 (some .int), Cond.methodLink RX8 104 yX3_put, Cond.instanceMethod yX3_put, Cond.selects RX3 yX3_put yX3_put, Cond.code yX3_put cX3_put 3 none, Cond.methodLink RL 40 yX9_pin, Cond.instanceMethod yX9_pin, Cond.selects RX9 yX9_pin yX9_pin, Cond.code yX9_pin cX9_pin 4 (some .boolean), Cond.methodLink RL 41 yX8_loose, Cond.instanceMethod yX8_loose, Cond.selects RX8 yX8_loose yX8_loose, Cond.code yX8_loose cX8_loose 2 (some .boolean), Cond.methodLink RX8 108 yX3_targetOf, Cond.methodLink RX8 112 yX3_drop, Cond.instanceMethod yX3_drop, Cond.selects RX3 yX3_drop yX3_drop, Cond.code yX3_drop cX3_drop 2 none, Cond.methodLink RX3 25 yX3_targetOf, Cond.methodLink RL 44 yX9_loose]
def wsL_law_r34 : List Cond := [Cond.instanceMethod yX9_loose, Cond.selects RX9 yX9_loose yX9_loose, Cond.code yX9_loose cX9_loose 4 (some .boolean), Cond.methodLink RL 45 yX8_look, Cond.instanceMethod yX8_look, Cond.selects RX8 yX8_look yX8_look, Cond.code yX8_look cX8_look 2 (some .int), Cond.methodLink RX8 115 yX0_size, Cond.methodLink RX8 116 yX7_sentenceCount, Cond.instanceMethod yX7_sentenceCount, Cond.selects RX7 yX7_sentenceCount yX7_sentenceCount, Cond.code yX7_sentenceCount cX7_sentenceCount 1 (some .int), Cond.methodLink RX8 119 yX4_doubtCount, Cond.instanceMethod yX4_doubtCount, Cond.selects RX4 yX4_doubtCount yX4_doubtCount, Cond.code yX4_doubtCount cX4_doubtCount 3 (some .int), Cond.methodLink RX4 162 yX1_size, Cond.methodLink RX4 163 yX4_isInDoubt, Cond.instanceMethod yX4_isInDoubt, Cond.selects RX4 yX4_isInDoubt yX4_isInDoubt, Cond.code yX4_isInDoubt cX4_isInDoubt 2 (some .boolean), Cond.methodLink RX8 122 yX4_countOf, Cond.instanceMethod yX4_countOf, Cond.selects RX4 yX4_countOf yX4_countOf]
def wsL_law_r35 : List Cond := [Cond.code yX4_countOf cX4_countOf 4 (some .int), Cond.methodLink RX8 125 yX1_isCut, Cond.instanceMethod yX1_isCut, Cond.selects RX1 yX1_isCut yX1_isCut, Cond.code yX1_isCut cX1_isCut 1 (some .boolean), Cond.methodLink RX8 129 yX6_size, Cond.instanceMethod yX6_size, Cond.selects RX6 yX6_size yX6_size, Cond.code yX6_size cX6_size 1 (some .int), Cond.methodLink RL 49 yX9_look, Cond.instanceMethod yX9_look, Cond.selects RX9 yX9_look yX9_look, Cond.code yX9_look cX9_look 4 (some .int), Cond.methodLink RL 50 yX8_mention, Cond.instanceMethod yX8_mention, Cond.selects RX8 yX8_mention yX8_mention, Cond.code yX8_mention cX8_mention 3 (some .int), Cond.methodLink RX8 130 yX1_placeOf, Cond.instanceMethod yX1_placeOf, Cond.selects RX1 yX1_placeOf yX1_placeOf, Cond.code yX1_placeOf cX1_placeOf 2 (some .int), Cond.methodLink RX8 133 yX1_lengthOf, Cond.methodLink RX8 136 yX1_sentenceOf, Cond.methodLink RX8 139 yX1_kindOf]
def wsL_law_r36 : List Cond := [Cond.methodLink RX8 142 yX4_personOf, Cond.methodLink RX8 145 yX4_fitOf, Cond.instanceMethod yX4_fitOf, Cond.selects RX4 yX4_fitOf yX4_fitOf, Cond.code yX4_fitOf cX4_fitOf 2 (some .int), Cond.methodLink RX8 148 yX4_isInDoubt, Cond.methodLink RL 54 yX9_mention, Cond.instanceMethod yX9_mention, Cond.selects RX9 yX9_mention yX9_mention, Cond.code yX9_mention cX9_mention 3 (some .int), Cond.methodLink RX9 253 yX9_isMention, Cond.instanceMethod yX9_isMention, Cond.selects RX9 yX9_isMention yX9_isMention, Cond.code yX9_isMention cX9_isMention 2 (some .boolean), Cond.methodLink RL 55 yX8_person, Cond.instanceMethod yX8_person, Cond.selects RX8 yX8_person yX8_person, Cond.code yX8_person cX8_person 4 (some .int), Cond.methodLink RX8 151 yX0_nowOf, Cond.methodLink RX8 154 yX0_sexOf, Cond.methodLink RX8 157 yX2_countOf, Cond.instanceMethod yX2_countOf, Cond.selects RX2 yX2_countOf yX2_countOf, Cond.code yX2_countOf cX2_countOf 4 (some .int)]
def wsL_law_r37 : List Cond := [Cond.methodLink RX8 158 yX0_membersOf, Cond.instanceMethod yX0_membersOf, Cond.selects RX0 yX0_membersOf yX0_membersOf, Cond.code yX0_membersOf cX0_membersOf 2 (some .int), Cond.methodLink RX8 161 yX0_joinedTo, Cond.instanceMethod yX0_joinedTo, Cond.selects RX0 yX0_joinedTo yX0_joinedTo, Cond.code yX0_joinedTo cX0_joinedTo 2 (some .int), Cond.methodLink RL 58 yX9_person, Cond.instanceMethod yX9_person, Cond.selects RX9 yX9_person yX9_person, Cond.code yX9_person cX9_person 6 (some .int), Cond.methodLink RX9 256 yX9_isPerson, Cond.instanceMethod yX9_isPerson, Cond.selects RX9 yX9_isPerson yX9_isPerson, Cond.code yX9_isPerson cX9_isPerson 2 (some .boolean), Cond.methodLink RL 59 yX8_chain, Cond.instanceMethod yX8_chain, Cond.selects RX8 yX8_chain yX8_chain, Cond.code yX8_chain cX8_chain 4 (some .int), Cond.methodLink RX8 164 yX4_mentionOf, Cond.instanceMethod yX4_mentionOf, Cond.selects RX4 yX4_mentionOf yX4_mentionOf, Cond.code yX4_mentionOf cX4_mentionOf 5 (some .int)]
def wsL_law_r38 : List Cond := [Cond.methodLink RL 62 yX9_chain, Cond.instanceMethod yX9_chain, Cond.selects RX9 yX9_chain yX9_chain, Cond.code yX9_chain cX9_chain 5 (some .int), Cond.methodLink RL 63 yX8_name, Cond.instanceMethod yX8_name, Cond.selects RX8 yX8_name yX8_name, Cond.code yX8_name cX8_name 4 (some .int), Cond.methodLink RX8 168 yX2_firstMentionOf, Cond.instanceMethod yX2_firstMentionOf, Cond.selects RX2 yX2_firstMentionOf yX2_firstMentionOf, Cond.code yX2_firstMentionOf cX2_firstMentionOf 5 (some .int), Cond.methodLink RL 66 yX9_name, Cond.instanceMethod yX9_name, Cond.selects RX9 yX9_name yX9_name, Cond.code yX9_name cX9_name 3 (some .int), Cond.methodLink RL 67 yX8_who, Cond.instanceMethod yX8_who, Cond.selects RX8 yX8_who yX8_who, Cond.code yX8_who cX8_who 2 (some .int), Cond.methodLink RX8 171 yX1_isName, Cond.methodLink RX8 174 yX2_ownerOf, Cond.methodLink RL 70 yX9_who, Cond.instanceMethod yX9_who]
def wsL_law_r39 : List Cond := [Cond.selects RX9 yX9_who yX9_who, Cond.code yX9_who cX9_who 2 (some .int)]
def wsL_law : List Cond := (wsL_law_r1 ++ (wsL_law_r2 ++ (wsL_law_r3 ++ (wsL_law_r4 ++ (wsL_law_r5 ++ (wsL_law_r6 ++ (wsL_law_r7 ++ (wsL_law_r8 ++ (wsL_law_r9 ++ (wsL_law_r10 ++ (wsL_law_r11 ++ (wsL_law_r12 ++ (wsL_law_r13 ++ (wsL_law_r14 ++ (wsL_law_r15 ++ (wsL_law_r16 ++ (wsL_law_r17 ++ (wsL_law_r18 ++ (wsL_law_r19 ++ (wsL_law_r20 ++ (wsL_law_r21 ++ (wsL_law_r22 ++ (wsL_law_r23 ++ (wsL_law_r24 ++ (wsL_law_r25 ++ (wsL_law_r26 ++ (wsL_law_r27 ++ (wsL_law_r28 ++ (wsL_law_r29 ++ (wsL_law_r30 ++ (wsL_law_r31 ++ (wsL_law_r32 ++ (wsL_law_r33 ++ (wsL_law_r34 ++ (wsL_law_r35 ++ (wsL_law_r36 ++ (wsL_law_r37 ++ (wsL_law_r38 ++ wsL_law_r39)))))))))))))))))))))))))))))))))))))) ++ wsX80 ++ wsX90 ++ wsX50 ++ wsX70 ++ wsX60 ++ wsX30 ++ wsX10 ++ wsX00 ++ wsX20 ++ wsX40 ++ ([] : List Cond)
abbrev vwCl : List vw_C := [(RX0, TX0, 5), (RX1, TX1, 10), (RX2, TX2, 4), (RX3, TX3, 2), (RX4, TX4, 7), (RX5, TX5, 2), (RX6, TX6, 5), (RX7, TX7, 7), (RX8, TX8, 8), (RX9, TX9, 34)]
theorem uc1 : ∀ w ∈ wsL_law_r1, w ∈ wsL_law := fun _ h => List.mem_append_left _ (List.mem_append_left _ (List.mem_append_left _ (List.mem_append_left _ (List.mem_append_left _ (List.mem_append_left _ (List.mem_append_left _ (List.mem_append_left _ (List.mem_append_left _ (List.mem_append_left _ (List.mem_append_left _ (List.mem_append_left _ h)))))))))))
theorem uc2 : ∀ w ∈ wsL_law_r2, w ∈ wsL_law := fun _ h => List.mem_append_left _ (List.mem_append_left _ (List.mem_append_left _ (List.mem_append_left _ (List.mem_append_left _ (List.mem_append_left _ (List.mem_append_left _ (List.mem_append_left _ (List.mem_append_left _ (List.mem_append_left _ (List.mem_append_left _ (List.mem_append_right _ (List.mem_append_left _ h))))))))))))
theorem uc3 : ∀ w ∈ wsL_law_r3, w ∈ wsL_law := fun _ h => List.mem_append_left _ (List.mem_append_left _ (List.mem_append_left _ (List.mem_append_left _ (List.mem_append_left _ (List.mem_append_left _ (List.mem_append_left _ (List.mem_append_left _ (List.mem_append_left _ (List.mem_append_left _ (List.mem_append_left _ (List.mem_append_right _ (List.mem_append_right _ (List.mem_append_left _ h)))))))))))))
theorem uc4 : ∀ w ∈ wsL_law_r4, w ∈ wsL_law := fun _ h => List.mem_append_left _ (List.mem_append_left _ (List.mem_append_left _ (List.mem_append_left _ (List.mem_append_left _ (List.mem_append_left _ (List.mem_append_left _ (List.mem_append_left _ (List.mem_append_left _ (List.mem_append_left _ (List.mem_append_left _ (List.mem_append_right _ (List.mem_append_right _ (List.mem_append_right _ (List.mem_append_left _ h))))))))))))))
theorem uc5 : ∀ w ∈ wsL_law_r5, w ∈ wsL_law := fun _ h => List.mem_append_left _ (List.mem_append_left _ (List.mem_append_left _ (List.mem_append_left _ (List.mem_append_left _ (List.mem_append_left _ (List.mem_append_left _ (List.mem_append_left _ (List.mem_append_left _ (List.mem_append_left _ (List.mem_append_left _ (List.mem_append_right _ (List.mem_append_right _ (List.mem_append_right _ (List.mem_append_right _ (List.mem_append_left _ h)))))))))))))))
theorem uc6 : ∀ w ∈ wsL_law_r6, w ∈ wsL_law := fun _ h => List.mem_append_left _ (List.mem_append_left _ (List.mem_append_left _ (List.mem_append_left _ (List.mem_append_left _ (List.mem_append_left _ (List.mem_append_left _ (List.mem_append_left _ (List.mem_append_left _ (List.mem_append_left _ (List.mem_append_left _ (List.mem_append_right _ (List.mem_append_right _ (List.mem_append_right _ (List.mem_append_right _ (List.mem_append_right _ (List.mem_append_left _ h))))))))))))))))
theorem uc7 : ∀ w ∈ wsL_law_r7, w ∈ wsL_law := fun _ h => List.mem_append_left _ (List.mem_append_left _ (List.mem_append_left _ (List.mem_append_left _ (List.mem_append_left _ (List.mem_append_left _ (List.mem_append_left _ (List.mem_append_left _ (List.mem_append_left _ (List.mem_append_left _ (List.mem_append_left _ (List.mem_append_right _ (List.mem_append_right _ (List.mem_append_right _ (List.mem_append_right _ (List.mem_append_right _ (List.mem_append_right _ (List.mem_append_left _ h)))))))))))))))))
theorem uc8 : ∀ w ∈ wsL_law_r8, w ∈ wsL_law := fun _ h => List.mem_append_left _ (List.mem_append_left _ (List.mem_append_left _ (List.mem_append_left _ (List.mem_append_left _ (List.mem_append_left _ (List.mem_append_left _ (List.mem_append_left _ (List.mem_append_left _ (List.mem_append_left _ (List.mem_append_left _ (List.mem_append_right _ (List.mem_append_right _ (List.mem_append_right _ (List.mem_append_right _ (List.mem_append_right _ (List.mem_append_right _ (List.mem_append_right _ (List.mem_append_left _ h))))))))))))))))))
theorem uc9 : ∀ w ∈ wsL_law_r9, w ∈ wsL_law := fun _ h => List.mem_append_left _ (List.mem_append_left _ (List.mem_append_left _ (List.mem_append_left _ (List.mem_append_left _ (List.mem_append_left _ (List.mem_append_left _ (List.mem_append_left _ (List.mem_append_left _ (List.mem_append_left _ (List.mem_append_left _ (List.mem_append_right _ (List.mem_append_right _ (List.mem_append_right _ (List.mem_append_right _ (List.mem_append_right _ (List.mem_append_right _ (List.mem_append_right _ (List.mem_append_right _ (List.mem_append_left _ h)))))))))))))))))))
theorem uc10 : ∀ w ∈ wsL_law_r10, w ∈ wsL_law := fun _ h => List.mem_append_left _ (List.mem_append_left _ (List.mem_append_left _ (List.mem_append_left _ (List.mem_append_left _ (List.mem_append_left _ (List.mem_append_left _ (List.mem_append_left _ (List.mem_append_left _ (List.mem_append_left _ (List.mem_append_left _ (List.mem_append_right _ (List.mem_append_right _ (List.mem_append_right _ (List.mem_append_right _ (List.mem_append_right _ (List.mem_append_right _ (List.mem_append_right _ (List.mem_append_right _ (List.mem_append_right _ (List.mem_append_left _ h))))))))))))))))))))
theorem uc11 : ∀ w ∈ wsL_law_r11, w ∈ wsL_law := fun _ h => List.mem_append_left _ (List.mem_append_left _ (List.mem_append_left _ (List.mem_append_left _ (List.mem_append_left _ (List.mem_append_left _ (List.mem_append_left _ (List.mem_append_left _ (List.mem_append_left _ (List.mem_append_left _ (List.mem_append_left _ (List.mem_append_right _ (List.mem_append_right _ (List.mem_append_right _ (List.mem_append_right _ (List.mem_append_right _ (List.mem_append_right _ (List.mem_append_right _ (List.mem_append_right _ (List.mem_append_right _ (List.mem_append_right _ (List.mem_append_left _ h)))))))))))))))))))))
theorem uc12 : ∀ w ∈ wsL_law_r12, w ∈ wsL_law := fun _ h => List.mem_append_left _ (List.mem_append_left _ (List.mem_append_left _ (List.mem_append_left _ (List.mem_append_left _ (List.mem_append_left _ (List.mem_append_left _ (List.mem_append_left _ (List.mem_append_left _ (List.mem_append_left _ (List.mem_append_left _ (List.mem_append_right _ (List.mem_append_right _ (List.mem_append_right _ (List.mem_append_right _ (List.mem_append_right _ (List.mem_append_right _ (List.mem_append_right _ (List.mem_append_right _ (List.mem_append_right _ (List.mem_append_right _ (List.mem_append_right _ (List.mem_append_left _ h))))))))))))))))))))))
theorem uc13 : ∀ w ∈ wsL_law_r13, w ∈ wsL_law := fun _ h => List.mem_append_left _ (List.mem_append_left _ (List.mem_append_left _ (List.mem_append_left _ (List.mem_append_left _ (List.mem_append_left _ (List.mem_append_left _ (List.mem_append_left _ (List.mem_append_left _ (List.mem_append_left _ (List.mem_append_left _ (List.mem_append_right _ (List.mem_append_right _ (List.mem_append_right _ (List.mem_append_right _ (List.mem_append_right _ (List.mem_append_right _ (List.mem_append_right _ (List.mem_append_right _ (List.mem_append_right _ (List.mem_append_right _ (List.mem_append_right _ (List.mem_append_right _ (List.mem_append_left _ h)))))))))))))))))))))))
theorem uc14 : ∀ w ∈ wsL_law_r14, w ∈ wsL_law := fun _ h => List.mem_append_left _ (List.mem_append_left _ (List.mem_append_left _ (List.mem_append_left _ (List.mem_append_left _ (List.mem_append_left _ (List.mem_append_left _ (List.mem_append_left _ (List.mem_append_left _ (List.mem_append_left _ (List.mem_append_left _ (List.mem_append_right _ (List.mem_append_right _ (List.mem_append_right _ (List.mem_append_right _ (List.mem_append_right _ (List.mem_append_right _ (List.mem_append_right _ (List.mem_append_right _ (List.mem_append_right _ (List.mem_append_right _ (List.mem_append_right _ (List.mem_append_right _ (List.mem_append_right _ (List.mem_append_left _ h))))))))))))))))))))))))
theorem uc15 : ∀ w ∈ wsL_law_r15, w ∈ wsL_law := fun _ h => List.mem_append_left _ (List.mem_append_left _ (List.mem_append_left _ (List.mem_append_left _ (List.mem_append_left _ (List.mem_append_left _ (List.mem_append_left _ (List.mem_append_left _ (List.mem_append_left _ (List.mem_append_left _ (List.mem_append_left _ (List.mem_append_right _ (List.mem_append_right _ (List.mem_append_right _ (List.mem_append_right _ (List.mem_append_right _ (List.mem_append_right _ (List.mem_append_right _ (List.mem_append_right _ (List.mem_append_right _ (List.mem_append_right _ (List.mem_append_right _ (List.mem_append_right _ (List.mem_append_right _ (List.mem_append_right _ (List.mem_append_left _ h)))))))))))))))))))))))))
theorem uc16 : ∀ w ∈ wsL_law_r16, w ∈ wsL_law := fun _ h => List.mem_append_left _ (List.mem_append_left _ (List.mem_append_left _ (List.mem_append_left _ (List.mem_append_left _ (List.mem_append_left _ (List.mem_append_left _ (List.mem_append_left _ (List.mem_append_left _ (List.mem_append_left _ (List.mem_append_left _ (List.mem_append_right _ (List.mem_append_right _ (List.mem_append_right _ (List.mem_append_right _ (List.mem_append_right _ (List.mem_append_right _ (List.mem_append_right _ (List.mem_append_right _ (List.mem_append_right _ (List.mem_append_right _ (List.mem_append_right _ (List.mem_append_right _ (List.mem_append_right _ (List.mem_append_right _ (List.mem_append_right _ (List.mem_append_left _ h))))))))))))))))))))))))))
theorem uc17 : ∀ w ∈ wsL_law_r17, w ∈ wsL_law := fun _ h => List.mem_append_left _ (List.mem_append_left _ (List.mem_append_left _ (List.mem_append_left _ (List.mem_append_left _ (List.mem_append_left _ (List.mem_append_left _ (List.mem_append_left _ (List.mem_append_left _ (List.mem_append_left _ (List.mem_append_left _ (List.mem_append_right _ (List.mem_append_right _ (List.mem_append_right _ (List.mem_append_right _ (List.mem_append_right _ (List.mem_append_right _ (List.mem_append_right _ (List.mem_append_right _ (List.mem_append_right _ (List.mem_append_right _ (List.mem_append_right _ (List.mem_append_right _ (List.mem_append_right _ (List.mem_append_right _ (List.mem_append_right _ (List.mem_append_right _ (List.mem_append_left _ h)))))))))))))))))))))))))))
theorem uc18 : ∀ w ∈ wsL_law_r18, w ∈ wsL_law := fun _ h => List.mem_append_left _ (List.mem_append_left _ (List.mem_append_left _ (List.mem_append_left _ (List.mem_append_left _ (List.mem_append_left _ (List.mem_append_left _ (List.mem_append_left _ (List.mem_append_left _ (List.mem_append_left _ (List.mem_append_left _ (List.mem_append_right _ (List.mem_append_right _ (List.mem_append_right _ (List.mem_append_right _ (List.mem_append_right _ (List.mem_append_right _ (List.mem_append_right _ (List.mem_append_right _ (List.mem_append_right _ (List.mem_append_right _ (List.mem_append_right _ (List.mem_append_right _ (List.mem_append_right _ (List.mem_append_right _ (List.mem_append_right _ (List.mem_append_right _ (List.mem_append_right _ (List.mem_append_left _ h))))))))))))))))))))))))))))
theorem uc19 : ∀ w ∈ wsL_law_r19, w ∈ wsL_law := fun _ h => List.mem_append_left _ (List.mem_append_left _ (List.mem_append_left _ (List.mem_append_left _ (List.mem_append_left _ (List.mem_append_left _ (List.mem_append_left _ (List.mem_append_left _ (List.mem_append_left _ (List.mem_append_left _ (List.mem_append_left _ (List.mem_append_right _ (List.mem_append_right _ (List.mem_append_right _ (List.mem_append_right _ (List.mem_append_right _ (List.mem_append_right _ (List.mem_append_right _ (List.mem_append_right _ (List.mem_append_right _ (List.mem_append_right _ (List.mem_append_right _ (List.mem_append_right _ (List.mem_append_right _ (List.mem_append_right _ (List.mem_append_right _ (List.mem_append_right _ (List.mem_append_right _ (List.mem_append_right _ (List.mem_append_left _ h)))))))))))))))))))))))))))))
theorem uc20 : ∀ w ∈ wsL_law_r20, w ∈ wsL_law := fun _ h => List.mem_append_left _ (List.mem_append_left _ (List.mem_append_left _ (List.mem_append_left _ (List.mem_append_left _ (List.mem_append_left _ (List.mem_append_left _ (List.mem_append_left _ (List.mem_append_left _ (List.mem_append_left _ (List.mem_append_left _ (List.mem_append_right _ (List.mem_append_right _ (List.mem_append_right _ (List.mem_append_right _ (List.mem_append_right _ (List.mem_append_right _ (List.mem_append_right _ (List.mem_append_right _ (List.mem_append_right _ (List.mem_append_right _ (List.mem_append_right _ (List.mem_append_right _ (List.mem_append_right _ (List.mem_append_right _ (List.mem_append_right _ (List.mem_append_right _ (List.mem_append_right _ (List.mem_append_right _ (List.mem_append_right _ (List.mem_append_left _ h))))))))))))))))))))))))))))))
theorem uc21 : ∀ w ∈ wsL_law_r21, w ∈ wsL_law := fun _ h => List.mem_append_left _ (List.mem_append_left _ (List.mem_append_left _ (List.mem_append_left _ (List.mem_append_left _ (List.mem_append_left _ (List.mem_append_left _ (List.mem_append_left _ (List.mem_append_left _ (List.mem_append_left _ (List.mem_append_left _ (List.mem_append_right _ (List.mem_append_right _ (List.mem_append_right _ (List.mem_append_right _ (List.mem_append_right _ (List.mem_append_right _ (List.mem_append_right _ (List.mem_append_right _ (List.mem_append_right _ (List.mem_append_right _ (List.mem_append_right _ (List.mem_append_right _ (List.mem_append_right _ (List.mem_append_right _ (List.mem_append_right _ (List.mem_append_right _ (List.mem_append_right _ (List.mem_append_right _ (List.mem_append_right _ (List.mem_append_right _ (List.mem_append_left _ h)))))))))))))))))))))))))))))))
theorem uc22 : ∀ w ∈ wsL_law_r22, w ∈ wsL_law := fun _ h => List.mem_append_left _ (List.mem_append_left _ (List.mem_append_left _ (List.mem_append_left _ (List.mem_append_left _ (List.mem_append_left _ (List.mem_append_left _ (List.mem_append_left _ (List.mem_append_left _ (List.mem_append_left _ (List.mem_append_left _ (List.mem_append_right _ (List.mem_append_right _ (List.mem_append_right _ (List.mem_append_right _ (List.mem_append_right _ (List.mem_append_right _ (List.mem_append_right _ (List.mem_append_right _ (List.mem_append_right _ (List.mem_append_right _ (List.mem_append_right _ (List.mem_append_right _ (List.mem_append_right _ (List.mem_append_right _ (List.mem_append_right _ (List.mem_append_right _ (List.mem_append_right _ (List.mem_append_right _ (List.mem_append_right _ (List.mem_append_right _ (List.mem_append_right _ (List.mem_append_left _ h))))))))))))))))))))))))))))))))
theorem uc23 : ∀ w ∈ wsL_law_r23, w ∈ wsL_law := fun _ h => List.mem_append_left _ (List.mem_append_left _ (List.mem_append_left _ (List.mem_append_left _ (List.mem_append_left _ (List.mem_append_left _ (List.mem_append_left _ (List.mem_append_left _ (List.mem_append_left _ (List.mem_append_left _ (List.mem_append_left _ (List.mem_append_right _ (List.mem_append_right _ (List.mem_append_right _ (List.mem_append_right _ (List.mem_append_right _ (List.mem_append_right _ (List.mem_append_right _ (List.mem_append_right _ (List.mem_append_right _ (List.mem_append_right _ (List.mem_append_right _ (List.mem_append_right _ (List.mem_append_right _ (List.mem_append_right _ (List.mem_append_right _ (List.mem_append_right _ (List.mem_append_right _ (List.mem_append_right _ (List.mem_append_right _ (List.mem_append_right _ (List.mem_append_right _ (List.mem_append_right _ (List.mem_append_left _ h)))))))))))))))))))))))))))))))))
theorem uc24 : ∀ w ∈ wsL_law_r24, w ∈ wsL_law := fun _ h => List.mem_append_left _ (List.mem_append_left _ (List.mem_append_left _ (List.mem_append_left _ (List.mem_append_left _ (List.mem_append_left _ (List.mem_append_left _ (List.mem_append_left _ (List.mem_append_left _ (List.mem_append_left _ (List.mem_append_left _ (List.mem_append_right _ (List.mem_append_right _ (List.mem_append_right _ (List.mem_append_right _ (List.mem_append_right _ (List.mem_append_right _ (List.mem_append_right _ (List.mem_append_right _ (List.mem_append_right _ (List.mem_append_right _ (List.mem_append_right _ (List.mem_append_right _ (List.mem_append_right _ (List.mem_append_right _ (List.mem_append_right _ (List.mem_append_right _ (List.mem_append_right _ (List.mem_append_right _ (List.mem_append_right _ (List.mem_append_right _ (List.mem_append_right _ (List.mem_append_right _ (List.mem_append_right _ (List.mem_append_left _ h))))))))))))))))))))))))))))))))))
theorem uc25 : ∀ w ∈ wsL_law_r25, w ∈ wsL_law := fun _ h => List.mem_append_left _ (List.mem_append_left _ (List.mem_append_left _ (List.mem_append_left _ (List.mem_append_left _ (List.mem_append_left _ (List.mem_append_left _ (List.mem_append_left _ (List.mem_append_left _ (List.mem_append_left _ (List.mem_append_left _ (List.mem_append_right _ (List.mem_append_right _ (List.mem_append_right _ (List.mem_append_right _ (List.mem_append_right _ (List.mem_append_right _ (List.mem_append_right _ (List.mem_append_right _ (List.mem_append_right _ (List.mem_append_right _ (List.mem_append_right _ (List.mem_append_right _ (List.mem_append_right _ (List.mem_append_right _ (List.mem_append_right _ (List.mem_append_right _ (List.mem_append_right _ (List.mem_append_right _ (List.mem_append_right _ (List.mem_append_right _ (List.mem_append_right _ (List.mem_append_right _ (List.mem_append_right _ (List.mem_append_right _ (List.mem_append_left _ h)))))))))))))))))))))))))))))))))))
theorem uc26 : ∀ w ∈ wsL_law_r26, w ∈ wsL_law := fun _ h => List.mem_append_left _ (List.mem_append_left _ (List.mem_append_left _ (List.mem_append_left _ (List.mem_append_left _ (List.mem_append_left _ (List.mem_append_left _ (List.mem_append_left _ (List.mem_append_left _ (List.mem_append_left _ (List.mem_append_left _ (List.mem_append_right _ (List.mem_append_right _ (List.mem_append_right _ (List.mem_append_right _ (List.mem_append_right _ (List.mem_append_right _ (List.mem_append_right _ (List.mem_append_right _ (List.mem_append_right _ (List.mem_append_right _ (List.mem_append_right _ (List.mem_append_right _ (List.mem_append_right _ (List.mem_append_right _ (List.mem_append_right _ (List.mem_append_right _ (List.mem_append_right _ (List.mem_append_right _ (List.mem_append_right _ (List.mem_append_right _ (List.mem_append_right _ (List.mem_append_right _ (List.mem_append_right _ (List.mem_append_right _ (List.mem_append_right _ (List.mem_append_left _ h))))))))))))))))))))))))))))))))))))
theorem uc27 : ∀ w ∈ wsL_law_r27, w ∈ wsL_law := fun _ h => List.mem_append_left _ (List.mem_append_left _ (List.mem_append_left _ (List.mem_append_left _ (List.mem_append_left _ (List.mem_append_left _ (List.mem_append_left _ (List.mem_append_left _ (List.mem_append_left _ (List.mem_append_left _ (List.mem_append_left _ (List.mem_append_right _ (List.mem_append_right _ (List.mem_append_right _ (List.mem_append_right _ (List.mem_append_right _ (List.mem_append_right _ (List.mem_append_right _ (List.mem_append_right _ (List.mem_append_right _ (List.mem_append_right _ (List.mem_append_right _ (List.mem_append_right _ (List.mem_append_right _ (List.mem_append_right _ (List.mem_append_right _ (List.mem_append_right _ (List.mem_append_right _ (List.mem_append_right _ (List.mem_append_right _ (List.mem_append_right _ (List.mem_append_right _ (List.mem_append_right _ (List.mem_append_right _ (List.mem_append_right _ (List.mem_append_right _ (List.mem_append_right _ (List.mem_append_left _ h)))))))))))))))))))))))))))))))))))))
theorem uc28 : ∀ w ∈ wsL_law_r28, w ∈ wsL_law := fun _ h => List.mem_append_left _ (List.mem_append_left _ (List.mem_append_left _ (List.mem_append_left _ (List.mem_append_left _ (List.mem_append_left _ (List.mem_append_left _ (List.mem_append_left _ (List.mem_append_left _ (List.mem_append_left _ (List.mem_append_left _ (List.mem_append_right _ (List.mem_append_right _ (List.mem_append_right _ (List.mem_append_right _ (List.mem_append_right _ (List.mem_append_right _ (List.mem_append_right _ (List.mem_append_right _ (List.mem_append_right _ (List.mem_append_right _ (List.mem_append_right _ (List.mem_append_right _ (List.mem_append_right _ (List.mem_append_right _ (List.mem_append_right _ (List.mem_append_right _ (List.mem_append_right _ (List.mem_append_right _ (List.mem_append_right _ (List.mem_append_right _ (List.mem_append_right _ (List.mem_append_right _ (List.mem_append_right _ (List.mem_append_right _ (List.mem_append_right _ (List.mem_append_right _ (List.mem_append_right _ (List.mem_append_left _ h))))))))))))))))))))))))))))))))))))))
theorem uc29 : ∀ w ∈ wsL_law_r29, w ∈ wsL_law := fun _ h => List.mem_append_left _ (List.mem_append_left _ (List.mem_append_left _ (List.mem_append_left _ (List.mem_append_left _ (List.mem_append_left _ (List.mem_append_left _ (List.mem_append_left _ (List.mem_append_left _ (List.mem_append_left _ (List.mem_append_left _ (List.mem_append_right _ (List.mem_append_right _ (List.mem_append_right _ (List.mem_append_right _ (List.mem_append_right _ (List.mem_append_right _ (List.mem_append_right _ (List.mem_append_right _ (List.mem_append_right _ (List.mem_append_right _ (List.mem_append_right _ (List.mem_append_right _ (List.mem_append_right _ (List.mem_append_right _ (List.mem_append_right _ (List.mem_append_right _ (List.mem_append_right _ (List.mem_append_right _ (List.mem_append_right _ (List.mem_append_right _ (List.mem_append_right _ (List.mem_append_right _ (List.mem_append_right _ (List.mem_append_right _ (List.mem_append_right _ (List.mem_append_right _ (List.mem_append_right _ (List.mem_append_right _ (List.mem_append_left _ h)))))))))))))))))))))))))))))))))))))))
theorem uc30 : ∀ w ∈ wsL_law_r30, w ∈ wsL_law := fun _ h => List.mem_append_left _ (List.mem_append_left _ (List.mem_append_left _ (List.mem_append_left _ (List.mem_append_left _ (List.mem_append_left _ (List.mem_append_left _ (List.mem_append_left _ (List.mem_append_left _ (List.mem_append_left _ (List.mem_append_left _ (List.mem_append_right _ (List.mem_append_right _ (List.mem_append_right _ (List.mem_append_right _ (List.mem_append_right _ (List.mem_append_right _ (List.mem_append_right _ (List.mem_append_right _ (List.mem_append_right _ (List.mem_append_right _ (List.mem_append_right _ (List.mem_append_right _ (List.mem_append_right _ (List.mem_append_right _ (List.mem_append_right _ (List.mem_append_right _ (List.mem_append_right _ (List.mem_append_right _ (List.mem_append_right _ (List.mem_append_right _ (List.mem_append_right _ (List.mem_append_right _ (List.mem_append_right _ (List.mem_append_right _ (List.mem_append_right _ (List.mem_append_right _ (List.mem_append_right _ (List.mem_append_right _ (List.mem_append_right _ (List.mem_append_left _ h))))))))))))))))))))))))))))))))))))))))
theorem uc31 : ∀ w ∈ wsL_law_r31, w ∈ wsL_law := fun _ h => List.mem_append_left _ (List.mem_append_left _ (List.mem_append_left _ (List.mem_append_left _ (List.mem_append_left _ (List.mem_append_left _ (List.mem_append_left _ (List.mem_append_left _ (List.mem_append_left _ (List.mem_append_left _ (List.mem_append_left _ (List.mem_append_right _ (List.mem_append_right _ (List.mem_append_right _ (List.mem_append_right _ (List.mem_append_right _ (List.mem_append_right _ (List.mem_append_right _ (List.mem_append_right _ (List.mem_append_right _ (List.mem_append_right _ (List.mem_append_right _ (List.mem_append_right _ (List.mem_append_right _ (List.mem_append_right _ (List.mem_append_right _ (List.mem_append_right _ (List.mem_append_right _ (List.mem_append_right _ (List.mem_append_right _ (List.mem_append_right _ (List.mem_append_right _ (List.mem_append_right _ (List.mem_append_right _ (List.mem_append_right _ (List.mem_append_right _ (List.mem_append_right _ (List.mem_append_right _ (List.mem_append_right _ (List.mem_append_right _ (List.mem_append_right _ (List.mem_append_left _ h)))))))))))))))))))))))))))))))))))))))))
theorem uc32 : ∀ w ∈ wsL_law_r32, w ∈ wsL_law := fun _ h => List.mem_append_left _ (List.mem_append_left _ (List.mem_append_left _ (List.mem_append_left _ (List.mem_append_left _ (List.mem_append_left _ (List.mem_append_left _ (List.mem_append_left _ (List.mem_append_left _ (List.mem_append_left _ (List.mem_append_left _ (List.mem_append_right _ (List.mem_append_right _ (List.mem_append_right _ (List.mem_append_right _ (List.mem_append_right _ (List.mem_append_right _ (List.mem_append_right _ (List.mem_append_right _ (List.mem_append_right _ (List.mem_append_right _ (List.mem_append_right _ (List.mem_append_right _ (List.mem_append_right _ (List.mem_append_right _ (List.mem_append_right _ (List.mem_append_right _ (List.mem_append_right _ (List.mem_append_right _ (List.mem_append_right _ (List.mem_append_right _ (List.mem_append_right _ (List.mem_append_right _ (List.mem_append_right _ (List.mem_append_right _ (List.mem_append_right _ (List.mem_append_right _ (List.mem_append_right _ (List.mem_append_right _ (List.mem_append_right _ (List.mem_append_right _ (List.mem_append_right _ (List.mem_append_left _ h))))))))))))))))))))))))))))))))))))))))))
theorem uc33 : ∀ w ∈ wsL_law_r33, w ∈ wsL_law := fun _ h => List.mem_append_left _ (List.mem_append_left _ (List.mem_append_left _ (List.mem_append_left _ (List.mem_append_left _ (List.mem_append_left _ (List.mem_append_left _ (List.mem_append_left _ (List.mem_append_left _ (List.mem_append_left _ (List.mem_append_left _ (List.mem_append_right _ (List.mem_append_right _ (List.mem_append_right _ (List.mem_append_right _ (List.mem_append_right _ (List.mem_append_right _ (List.mem_append_right _ (List.mem_append_right _ (List.mem_append_right _ (List.mem_append_right _ (List.mem_append_right _ (List.mem_append_right _ (List.mem_append_right _ (List.mem_append_right _ (List.mem_append_right _ (List.mem_append_right _ (List.mem_append_right _ (List.mem_append_right _ (List.mem_append_right _ (List.mem_append_right _ (List.mem_append_right _ (List.mem_append_right _ (List.mem_append_right _ (List.mem_append_right _ (List.mem_append_right _ (List.mem_append_right _ (List.mem_append_right _ (List.mem_append_right _ (List.mem_append_right _ (List.mem_append_right _ (List.mem_append_right _ (List.mem_append_right _ (List.mem_append_left _ h)))))))))))))))))))))))))))))))))))))))))))
theorem uc34 : ∀ w ∈ wsL_law_r34, w ∈ wsL_law := fun _ h => List.mem_append_left _ (List.mem_append_left _ (List.mem_append_left _ (List.mem_append_left _ (List.mem_append_left _ (List.mem_append_left _ (List.mem_append_left _ (List.mem_append_left _ (List.mem_append_left _ (List.mem_append_left _ (List.mem_append_left _ (List.mem_append_right _ (List.mem_append_right _ (List.mem_append_right _ (List.mem_append_right _ (List.mem_append_right _ (List.mem_append_right _ (List.mem_append_right _ (List.mem_append_right _ (List.mem_append_right _ (List.mem_append_right _ (List.mem_append_right _ (List.mem_append_right _ (List.mem_append_right _ (List.mem_append_right _ (List.mem_append_right _ (List.mem_append_right _ (List.mem_append_right _ (List.mem_append_right _ (List.mem_append_right _ (List.mem_append_right _ (List.mem_append_right _ (List.mem_append_right _ (List.mem_append_right _ (List.mem_append_right _ (List.mem_append_right _ (List.mem_append_right _ (List.mem_append_right _ (List.mem_append_right _ (List.mem_append_right _ (List.mem_append_right _ (List.mem_append_right _ (List.mem_append_right _ (List.mem_append_right _ (List.mem_append_left _ h))))))))))))))))))))))))))))))))))))))))))))
theorem uc35 : ∀ w ∈ wsL_law_r35, w ∈ wsL_law := fun _ h => List.mem_append_left _ (List.mem_append_left _ (List.mem_append_left _ (List.mem_append_left _ (List.mem_append_left _ (List.mem_append_left _ (List.mem_append_left _ (List.mem_append_left _ (List.mem_append_left _ (List.mem_append_left _ (List.mem_append_left _ (List.mem_append_right _ (List.mem_append_right _ (List.mem_append_right _ (List.mem_append_right _ (List.mem_append_right _ (List.mem_append_right _ (List.mem_append_right _ (List.mem_append_right _ (List.mem_append_right _ (List.mem_append_right _ (List.mem_append_right _ (List.mem_append_right _ (List.mem_append_right _ (List.mem_append_right _ (List.mem_append_right _ (List.mem_append_right _ (List.mem_append_right _ (List.mem_append_right _ (List.mem_append_right _ (List.mem_append_right _ (List.mem_append_right _ (List.mem_append_right _ (List.mem_append_right _ (List.mem_append_right _ (List.mem_append_right _ (List.mem_append_right _ (List.mem_append_right _ (List.mem_append_right _ (List.mem_append_right _ (List.mem_append_right _ (List.mem_append_right _ (List.mem_append_right _ (List.mem_append_right _ (List.mem_append_right _ (List.mem_append_left _ h)))))))))))))))))))))))))))))))))))))))))))))
theorem uc36 : ∀ w ∈ wsL_law_r36, w ∈ wsL_law := fun _ h => List.mem_append_left _ (List.mem_append_left _ (List.mem_append_left _ (List.mem_append_left _ (List.mem_append_left _ (List.mem_append_left _ (List.mem_append_left _ (List.mem_append_left _ (List.mem_append_left _ (List.mem_append_left _ (List.mem_append_left _ (List.mem_append_right _ (List.mem_append_right _ (List.mem_append_right _ (List.mem_append_right _ (List.mem_append_right _ (List.mem_append_right _ (List.mem_append_right _ (List.mem_append_right _ (List.mem_append_right _ (List.mem_append_right _ (List.mem_append_right _ (List.mem_append_right _ (List.mem_append_right _ (List.mem_append_right _ (List.mem_append_right _ (List.mem_append_right _ (List.mem_append_right _ (List.mem_append_right _ (List.mem_append_right _ (List.mem_append_right _ (List.mem_append_right _ (List.mem_append_right _ (List.mem_append_right _ (List.mem_append_right _ (List.mem_append_right _ (List.mem_append_right _ (List.mem_append_right _ (List.mem_append_right _ (List.mem_append_right _ (List.mem_append_right _ (List.mem_append_right _ (List.mem_append_right _ (List.mem_append_right _ (List.mem_append_right _ (List.mem_append_right _ (List.mem_append_left _ h))))))))))))))))))))))))))))))))))))))))))))))
theorem uc37 : ∀ w ∈ wsL_law_r37, w ∈ wsL_law := fun _ h => List.mem_append_left _ (List.mem_append_left _ (List.mem_append_left _ (List.mem_append_left _ (List.mem_append_left _ (List.mem_append_left _ (List.mem_append_left _ (List.mem_append_left _ (List.mem_append_left _ (List.mem_append_left _ (List.mem_append_left _ (List.mem_append_right _ (List.mem_append_right _ (List.mem_append_right _ (List.mem_append_right _ (List.mem_append_right _ (List.mem_append_right _ (List.mem_append_right _ (List.mem_append_right _ (List.mem_append_right _ (List.mem_append_right _ (List.mem_append_right _ (List.mem_append_right _ (List.mem_append_right _ (List.mem_append_right _ (List.mem_append_right _ (List.mem_append_right _ (List.mem_append_right _ (List.mem_append_right _ (List.mem_append_right _ (List.mem_append_right _ (List.mem_append_right _ (List.mem_append_right _ (List.mem_append_right _ (List.mem_append_right _ (List.mem_append_right _ (List.mem_append_right _ (List.mem_append_right _ (List.mem_append_right _ (List.mem_append_right _ (List.mem_append_right _ (List.mem_append_right _ (List.mem_append_right _ (List.mem_append_right _ (List.mem_append_right _ (List.mem_append_right _ (List.mem_append_right _ (List.mem_append_left _ h)))))))))))))))))))))))))))))))))))))))))))))))
theorem uc38 : ∀ w ∈ wsL_law_r38, w ∈ wsL_law := fun _ h => List.mem_append_left _ (List.mem_append_left _ (List.mem_append_left _ (List.mem_append_left _ (List.mem_append_left _ (List.mem_append_left _ (List.mem_append_left _ (List.mem_append_left _ (List.mem_append_left _ (List.mem_append_left _ (List.mem_append_left _ (List.mem_append_right _ (List.mem_append_right _ (List.mem_append_right _ (List.mem_append_right _ (List.mem_append_right _ (List.mem_append_right _ (List.mem_append_right _ (List.mem_append_right _ (List.mem_append_right _ (List.mem_append_right _ (List.mem_append_right _ (List.mem_append_right _ (List.mem_append_right _ (List.mem_append_right _ (List.mem_append_right _ (List.mem_append_right _ (List.mem_append_right _ (List.mem_append_right _ (List.mem_append_right _ (List.mem_append_right _ (List.mem_append_right _ (List.mem_append_right _ (List.mem_append_right _ (List.mem_append_right _ (List.mem_append_right _ (List.mem_append_right _ (List.mem_append_right _ (List.mem_append_right _ (List.mem_append_right _ (List.mem_append_right _ (List.mem_append_right _ (List.mem_append_right _ (List.mem_append_right _ (List.mem_append_right _ (List.mem_append_right _ (List.mem_append_right _ (List.mem_append_right _ (List.mem_append_left _ h))))))))))))))))))))))))))))))))))))))))))))))))
theorem uc39 : ∀ w ∈ wsL_law_r39, w ∈ wsL_law := fun _ h => List.mem_append_left _ (List.mem_append_left _ (List.mem_append_left _ (List.mem_append_left _ (List.mem_append_left _ (List.mem_append_left _ (List.mem_append_left _ (List.mem_append_left _ (List.mem_append_left _ (List.mem_append_left _ (List.mem_append_left _ (List.mem_append_right _ (List.mem_append_right _ (List.mem_append_right _ (List.mem_append_right _ (List.mem_append_right _ (List.mem_append_right _ (List.mem_append_right _ (List.mem_append_right _ (List.mem_append_right _ (List.mem_append_right _ (List.mem_append_right _ (List.mem_append_right _ (List.mem_append_right _ (List.mem_append_right _ (List.mem_append_right _ (List.mem_append_right _ (List.mem_append_right _ (List.mem_append_right _ (List.mem_append_right _ (List.mem_append_right _ (List.mem_append_right _ (List.mem_append_right _ (List.mem_append_right _ (List.mem_append_right _ (List.mem_append_right _ (List.mem_append_right _ (List.mem_append_right _ (List.mem_append_right _ (List.mem_append_right _ (List.mem_append_right _ (List.mem_append_right _ (List.mem_append_right _ (List.mem_append_right _ (List.mem_append_right _ (List.mem_append_right _ (List.mem_append_right _ (List.mem_append_right _ (List.mem_append_right _ (h)))))))))))))))))))))))))))))))))))))))))))))))))
theorem inlX0 : ∀ w ∈ wsX00, w ∈ wsL_law := fun _ h => List.mem_append_left _ (List.mem_append_left _ (List.mem_append_left _ (List.mem_append_right _ h)))
theorem inlX1 : ∀ w ∈ wsX10, w ∈ wsL_law := fun _ h => List.mem_append_left _ (List.mem_append_left _ (List.mem_append_left _ (List.mem_append_left _ (List.mem_append_right _ h))))
theorem inlX2 : ∀ w ∈ wsX20, w ∈ wsL_law := fun _ h => List.mem_append_left _ (List.mem_append_left _ (List.mem_append_right _ h))
theorem inlX3 : ∀ w ∈ wsX30, w ∈ wsL_law := fun _ h => List.mem_append_left _ (List.mem_append_left _ (List.mem_append_left _ (List.mem_append_left _ (List.mem_append_left _ (List.mem_append_right _ h)))))
theorem inlX4 : ∀ w ∈ wsX40, w ∈ wsL_law := fun _ h => List.mem_append_left _ (List.mem_append_right _ h)
theorem inlX5 : ∀ w ∈ wsX50, w ∈ wsL_law := fun _ h => List.mem_append_left _ (List.mem_append_left _ (List.mem_append_left _ (List.mem_append_left _ (List.mem_append_left _ (List.mem_append_left _ (List.mem_append_left _ (List.mem_append_left _ (List.mem_append_right _ h))))))))
theorem inlX6 : ∀ w ∈ wsX60, w ∈ wsL_law := fun _ h => List.mem_append_left _ (List.mem_append_left _ (List.mem_append_left _ (List.mem_append_left _ (List.mem_append_left _ (List.mem_append_left _ (List.mem_append_right _ h))))))
theorem inlX7 : ∀ w ∈ wsX70, w ∈ wsL_law := fun _ h => List.mem_append_left _ (List.mem_append_left _ (List.mem_append_left _ (List.mem_append_left _ (List.mem_append_left _ (List.mem_append_left _ (List.mem_append_left _ (List.mem_append_right _ h)))))))
theorem inlX8 : ∀ w ∈ wsX80, w ∈ wsL_law := fun _ h => List.mem_append_left _ (List.mem_append_left _ (List.mem_append_left _ (List.mem_append_left _ (List.mem_append_left _ (List.mem_append_left _ (List.mem_append_left _ (List.mem_append_left _ (List.mem_append_left _ (List.mem_append_left _ (List.mem_append_right _ h))))))))))
theorem inlX9 : ∀ w ∈ wsX90, w ∈ wsL_law := fun _ h => List.mem_append_left _ (List.mem_append_left _ (List.mem_append_left _ (List.mem_append_left _ (List.mem_append_left _ (List.mem_append_left _ (List.mem_append_left _ (List.mem_append_left _ (List.mem_append_left _ (List.mem_append_right _ h)))))))))
