/-- class names -/
def ab_cn : Nat → String := fun c => match c with
  | 0 => "SaidLeast"
  | 1 => "SaidLeast$Text"
  | 2 => "SaidLeast$Reader"
  | 3 => "SaidLeast$Told"
  | 4 => "SaidLeast$State"
  | 5 => "SaidLeast$Acts"
  | 6 => "SaidLeast$Orders"
  | 7 => "SaidLeast$Ahead"
  | 8 => "SaidLeast$Contest"
  | 9 => "SaidLeast$Guesses"
  | 10 => "SaidLeastModel"
  | 11 => "java/lang/Integer"
  | 12 => "java/lang/Math"
  | 13 => "java/util/Arrays"
  | _ => "java/lang/Object"
def ab_T0 : u_T := fun k => match k with
  | 0 => ("SaidLeast", "text", "LSaidLeast$Text;", true)
  | 1 => ("SaidLeast", "reader", "LSaidLeast$Reader;", true)
  | 2 => ("SaidLeast", "told", "LSaidLeast$Told;", true)
  | 3 => ("SaidLeast", "now", "LSaidLeast$State;", true)
  | 4 => ("SaidLeast", "trial", "LSaidLeast$State;", true)
  | 5 => ("SaidLeast", "acts", "LSaidLeast$Acts;", true)
  | 6 => ("SaidLeast", "slots", "[LSaidLeast$State;", true)
  | 7 => ("SaidLeast", "orders", "LSaidLeast$Orders;", true)
  | 8 => ("SaidLeast", "contest", "LSaidLeast$Contest;", true)
  | 9 => ("SaidLeast", "guesses", "LSaidLeast$Guesses;", true)
  | _ => ("SaidLeast", "keptSlots", "I", false)
def ab_T1 : u_T := fun k => match k with
  | 0 => ("SaidLeast$Text", "bytes", "[B", true)
  | _ => ("SaidLeast$Text", "length", "I", false)
def ab_T2 : u_T := fun k => match k with
  | 0 => ("SaidLeast$Reader", "told", "LSaidLeast$Told;", true)
  | 1 => ("SaidLeast$Reader", "state", "LSaidLeast$State;", true)
  | 2 => ("SaidLeast$Reader", "due", "I", false)
  | _ => ("SaidLeast$Reader", "answered", "I", false)
def ab_T3 : u_T := fun k => match k with
  | 0 => ("SaidLeast$Told", "speaker", "[I", true)
  | 1 => ("SaidLeast$Told", "words", "[I", true)
  | 2 => ("SaidLeast$Told", "worth", "[I", true)
  | 3 => ("SaidLeast$Told", "answers", "[I", true)
  | 4 => ("SaidLeast$Told", "people", "I", false)
  | _ => ("SaidLeast$Told", "sayings", "I", false)
def ab_T4 : u_T := fun k => match k with
  | 0 => ("SaidLeast$State", "words", "[I", true)
  | 1 => ("SaidLeast$State", "there", "I", false)
  | 2 => ("SaidLeast$State", "said", "I", false)
  | 3 => ("SaidLeast$State", "last", "I", false)
  | _ => ("SaidLeast$State", "law", "I", false)
def ab_T5 : u_T := fun k => match k with
  | 0 => ("SaidLeast$Acts", "person", "[I", true)
  | 1 => ("SaidLeast$Acts", "words", "[I", true)
  | 2 => ("SaidLeast$Acts", "there", "[I", true)
  | 3 => ("SaidLeast$Acts", "said", "[I", true)
  | 4 => ("SaidLeast$Acts", "last", "[I", true)
  | 5 => ("SaidLeast$Acts", "first", "I", false)
  | _ => ("SaidLeast$Acts", "count", "I", false)
def ab_T6 : u_T := fun k => match k with
  | 0 => ("SaidLeast$Orders", "ahead", "LSaidLeast$Ahead;", true)
  | 1 => ("SaidLeast$Orders", "lasts", "[I", true)
  | 2 => ("SaidLeast$Orders", "open", "[I", true)
  | 3 => ("SaidLeast$Orders", "spent", "[I", true)
  | 4 => ("SaidLeast$Orders", "gained", "[I", true)
  | _ => ("SaidLeast$Orders", "good", "[I", true)
def ab_T7 : u_T := fun k => match k with
  | _ => ("SaidLeast$Ahead", "then", "LSaidLeast$State;", true)
def ab_T8 : u_T := fun k => match k with
  | 0 => ("SaidLeast$Contest", "ahead", "LSaidLeast$Ahead;", true)
  | 1 => ("SaidLeast$Contest", "leasts", "[I", true)
  | _ => ("SaidLeast$Contest", "ends", "[I", true)
def ab_T9 : u_T := fun k => match k with
  | 0 => ("SaidLeast$Guesses", "ways", "[J", true)
  | 1 => ("SaidLeast$Guesses", "then", "LSaidLeast$State;", true)
  | 2 => ("SaidLeast$Guesses", "upper", "J", false)
  | _ => ("SaidLeast$Guesses", "lower", "J", false)
def ab_T10 : u_T := fun k => match k with
  | 0 => ("SaidLeastModel", "thrown", "I", false)
  | 1 => ("SaidLeastModel", "text", "[I", true)
  | 2 => ("SaidLeastModel", "textSize", "I", false)
  | 3 => ("SaidLeastModel", "place", "I", false)
  | 4 => ("SaidLeastModel", "law", "I", false)
  | 5 => ("SaidLeastModel", "people", "I", false)
  | 6 => ("SaidLeastModel", "words", "[I", true)
  | 7 => ("SaidLeastModel", "there", "I", false)
  | 8 => ("SaidLeastModel", "sayings", "I", false)
  | 9 => ("SaidLeastModel", "who", "[I", true)
  | 10 => ("SaidLeastModel", "size", "[I", true)
  | 11 => ("SaidLeastModel", "worth", "[I", true)
  | 12 => ("SaidLeastModel", "answers", "[I", true)
  | 13 => ("SaidLeastModel", "said", "I", false)
  | 14 => ("SaidLeastModel", "last", "I", false)
  | 15 => ("SaidLeastModel", "readLaw", "I", false)
  | 16 => ("SaidLeastModel", "readPeople", "I", false)
  | 17 => ("SaidLeastModel", "readWords", "[I", true)
  | 18 => ("SaidLeastModel", "readThere", "I", false)
  | 19 => ("SaidLeastModel", "readSayings", "I", false)
  | 20 => ("SaidLeastModel", "readWho", "[I", true)
  | 21 => ("SaidLeastModel", "readSize", "[I", true)
  | 22 => ("SaidLeastModel", "readWorth", "[I", true)
  | 23 => ("SaidLeastModel", "readAnswers", "[I", true)
  | 24 => ("SaidLeastModel", "book", "[I", true)
  | 25 => ("SaidLeastModel", "acts", "I", false)
  | 26 => ("SaidLeastModel", "kept", "[I", true)
  | 27 => ("SaidLeastModel", "isKept", "[Z", true)
  | 28 => ("SaidLeastModel", "w", "[I", true)
  | 29 => ("SaidLeastModel", "done", "I", false)
  | 30 => ("SaidLeastModel", "latest", "I", false)
  | 31 => ("SaidLeastModel", "row", "[I", true)
  | 32 => ("SaidLeastModel", "before", "[I", true)
  | 33 => ("SaidLeastModel", "best", "[I", true)
  | 34 => ("SaidLeastModel", "bestMany", "I", false)
  | 35 => ("SaidLeastModel", "end", "[I", true)
  | 36 => ("SaidLeastModel", "sums", "[J", true)
  | _ => ("SaidLeastModel", "then", "[J", true)
abbrev ab_classes : List vw_C := [("SaidLeast", ab_T0, 11), ("SaidLeast$Text", ab_T1, 2), ("SaidLeast$Reader", ab_T2, 4), ("SaidLeast$Told", ab_T3, 6), ("SaidLeast$State", ab_T4, 5), ("SaidLeast$Acts", ab_T5, 7), ("SaidLeast$Orders", ab_T6, 6), ("SaidLeast$Ahead", ab_T7, 1), ("SaidLeast$Contest", ab_T8, 3), ("SaidLeast$Guesses", ab_T9, 4), ("SaidLeastModel", ab_T10, 38)]
/-- kinds of fields: 0 int, 1 long, 2 a reference -/
def ab_fkT : List (List Nat) := [[2, 2, 2, 2, 2, 2, 2, 2, 2, 2, 0], [2, 0], [2, 2, 0, 0], [2, 2, 2, 2, 0, 0], [2, 0, 0, 0, 0], [2, 2, 2, 2, 2, 0, 0], [2, 2, 2, 2, 2, 2], [2], [2, 2, 2], [2, 2, 1, 1], [0, 2, 0, 0, 0, 0, 2, 0, 0, 2, 2, 2, 2, 0, 0, 0, 0, 2, 0, 0, 2, 2, 2, 2, 2, 0, 2, 2, 2, 0, 0, 2, 2, 2, 0, 2, 2, 2]]
def ab_fk (ci k : Nat) : Nat := (ab_fkT.getD ci []).getD k 9
/-- the methods: name, code, locals, what is returned, own class -/
def ab_mt : List (MethodName × ByteArray × Nat × Option FieldType × Nat) := [
  (⟨"SaidLeast", "<init>", "()V"⟩, prog_1_method_1_code, 2, none, 0),
  (⟨"java/lang/Object", "<init>", "()V"⟩, object_method_1_code, 1, none, 14),
  (⟨"SaidLeast$Text", "<init>", "()V"⟩, prog_9_method_1_code, 1, none, 1),
  (⟨"SaidLeast$Reader", "<init>", "()V"⟩, prog_7_method_1_code, 1, none, 2),
  (⟨"SaidLeast$Told", "<init>", "()V"⟩, prog_10_method_1_code, 1, none, 3),
  (⟨"SaidLeast$State", "<init>", "()V"⟩, prog_8_method_1_code, 1, none, 4),
  (⟨"SaidLeast$Acts", "<init>", "()V"⟩, prog_2_method_1_code, 1, none, 5),
  (⟨"SaidLeast$Orders", "<init>", "()V"⟩, prog_6_method_1_code, 1, none, 6),
  (⟨"SaidLeast$Ahead", "<init>", "()V"⟩, prog_3_method_1_code, 1, none, 7),
  (⟨"SaidLeast$Contest", "<init>", "()V"⟩, prog_4_method_1_code, 1, none, 8),
  (⟨"SaidLeast$Guesses", "<init>", "()V"⟩, prog_5_method_1_code, 1, none, 9),
  (⟨"SaidLeast", "write", "(IJ)I"⟩, prog_1_method_2_code, 4, some .int, 0),
  (⟨"SaidLeast$Text", "append", "(IJ)V"⟩, prog_9_method_2_code, 5, none, 1),
  (⟨"SaidLeast", "wipe", "()I"⟩, prog_1_method_3_code, 2, some .int, 0),
  (⟨"SaidLeast", "fault", "()I"⟩, prog_1_method_4_code, 1, some .int, 0),
  (⟨"SaidLeast$Reader", "firstFault", "(LSaidLeast$Text;)I"⟩, prog_7_method_2_code, 3, some .int, 2),
  (⟨"SaidLeast$Reader", "begin", "()V"⟩, prog_7_method_3_code, 1, none, 2),
  (⟨"java/util/Arrays", "fill", "([II)V"⟩, prog_16_method_103_code, 4, none, 13),
  (⟨"SaidLeast$Reader", "takes", "(I)Z"⟩, prog_7_method_4_code, 2, some .boolean, 2),
  (⟨"SaidLeast$Reader", "takesStart", "(I)Z"⟩, prog_7_method_5_code, 2, some .boolean, 2),
  (⟨"SaidLeast$Reader", "takesLaw", "(I)Z"⟩, prog_7_method_6_code, 2, some .boolean, 2),
  (⟨"SaidLeast$Reader", "opensSaying", "()Z"⟩, prog_7_method_10_code, 1, some .boolean, 2),
  (⟨"SaidLeast$Reader", "opensPerson", "(I)Z"⟩, prog_7_method_7_code, 2, some .boolean, 2),
  (⟨"SaidLeast$Reader", "takesTens", "(I)Z"⟩, prog_7_method_8_code, 2, some .boolean, 2),
  (⟨"SaidLeast$Reader", "takesOnes", "(I)Z"⟩, prog_7_method_9_code, 2, some .boolean, 2),
  (⟨"SaidLeast$Reader", "takesSpeaker", "(I)Z"⟩, prog_7_method_11_code, 2, some .boolean, 2),
  (⟨"SaidLeast$Told", "hasPerson", "(I)Z"⟩, prog_10_method_3_code, 2, some .boolean, 3),
  (⟨"SaidLeast$Reader", "takesWords", "(I)Z"⟩, prog_7_method_12_code, 2, some .boolean, 2),
  (⟨"SaidLeast$Reader", "takesWorth", "(I)Z"⟩, prog_7_method_13_code, 2, some .boolean, 2),
  (⟨"SaidLeast$Reader", "closesSaying", "(I)Z"⟩, prog_7_method_15_code, 2, some .boolean, 2),
  (⟨"SaidLeast$Reader", "takesAnswered", "(I)Z"⟩, prog_7_method_14_code, 2, some .boolean, 2),
  (⟨"SaidLeast$Told", "hasSaying", "(I)Z"⟩, prog_10_method_4_code, 2, some .boolean, 3),
  (⟨"SaidLeast", "has", "(II)Z"⟩, prog_1_method_26_code, 2, some .boolean, 0),
  (⟨"SaidLeast", "parlour", "()I"⟩, prog_1_method_5_code, 1, some .int, 0),
  (⟨"SaidLeast$Told", "copyFrom", "(LSaidLeast$Told;)V"⟩, prog_10_method_2_code, 2, none, 3),
  (⟨"SaidLeast$State", "copyFrom", "(LSaidLeast$State;)V"⟩, prog_8_method_2_code, 2, none, 4),
  (⟨"SaidLeast$Acts", "clear", "()V"⟩, prog_2_method_2_code, 1, none, 5),
  (⟨"SaidLeast", "about", "(I)I"⟩, prog_1_method_6_code, 2, some .int, 0),
  (⟨"SaidLeast$State", "least", "()I"⟩, prog_8_method_4_code, 4, some .int, 4),
  (⟨"SaidLeast$Told", "worthOf", "(I)I"⟩, prog_10_method_6_code, 4, some .int, 3),
  (⟨"SaidLeast$State", "wordsThere", "()I"⟩, prog_8_method_5_code, 3, some .int, 4),
  (⟨"SaidLeast", "person", "(II)I"⟩, prog_1_method_7_code, 3, some .int, 0),
  (⟨"SaidLeast$Told", "sayingsOf", "(I)I"⟩, prog_10_method_5_code, 4, some .int, 3),
  (⟨"SaidLeast", "saying", "(II)I"⟩, prog_1_method_8_code, 3, some .int, 0),
  (⟨"SaidLeast", "law", "(I)I"⟩, prog_1_method_9_code, 3, some .int, 0),
  (⟨"SaidLeast", "may", "(I)I"⟩, prog_1_method_10_code, 2, some .int, 0),
  (⟨"SaidLeast$State", "allows", "(LSaidLeast$Told;I)Z"⟩, prog_8_method_9_code, 5, some .boolean, 4),
  (⟨"SaidLeast", "say", "(I)I"⟩, prog_1_method_11_code, 3, some .int, 0),
  (⟨"SaidLeast$Acts", "remember", "(LSaidLeast$State;I)V"⟩, prog_2_method_3_code, 4, none, 5),
  (⟨"SaidLeast$State", "utter", "(LSaidLeast$Told;I)V"⟩, prog_8_method_10_code, 3, none, 4),
  (⟨"SaidLeast", "talk", "(II)I"⟩, prog_1_method_12_code, 3, some .int, 0),
  (⟨"SaidLeast", "come", "(I)I"⟩, prog_1_method_13_code, 2, some .int, 0),
  (⟨"SaidLeast$State", "wordsOfNewcomer", "()I"⟩, prog_8_method_7_code, 2, some .int, 4),
  (⟨"SaidLeast$State", "countThere", "()I"⟩, prog_8_method_3_code, 1, some .int, 4),
  (⟨"java/lang/Integer", "bitCount", "(I)I"⟩, prog_13_method_49_code, 1, some .int, 11),
  (⟨"SaidLeast$State", "mostWords", "()I"⟩, prog_8_method_8_code, 3, some .int, 4),
  (⟨"java/lang/Math", "max", "(II)I"⟩, prog_14_method_65_code, 2, some .int, 12),
  (⟨"SaidLeast", "go", "(I)I"⟩, prog_1_method_14_code, 2, some .int, 0),
  (⟨"SaidLeast", "undo", "()I"⟩, prog_1_method_15_code, 1, some .int, 0),
  (⟨"SaidLeast$Acts", "takeBack", "(LSaidLeast$State;)V"⟩, prog_2_method_4_code, 3, none, 5),
  (⟨"SaidLeast", "judge", "(II)I"⟩, prog_1_method_16_code, 5, some .int, 0),
  (⟨"SaidLeast", "most", "(I)I"⟩, prog_1_method_17_code, 2, some .int, 0),
  (⟨"SaidLeast$Orders", "mostWorth", "(LSaidLeast$Told;LSaidLeast$State;I)I"⟩, prog_6_method_2_code, 4, some .int, 6),
  (⟨"SaidLeast$Orders", "spread", "(LSaidLeast$Told;LSaidLeast$State;)V"⟩, prog_6_method_5_code, 4, none, 6),
  (⟨"SaidLeast$Orders", "lastBit", "(I)I"⟩, prog_6_method_6_code, 1, some .int, 6),
  (⟨"SaidLeast$Orders", "openAt", "(LSaidLeast$Told;LSaidLeast$State;I)I"⟩, prog_6_method_7_code, 9, some .int, 6),
  (⟨"SaidLeast$Ahead", "leastAt", "(LSaidLeast$Told;LSaidLeast$State;I)I"⟩, prog_3_method_2_code, 5, some .int, 7),
  (⟨"SaidLeast$Orders", "canFollow", "(LSaidLeast$Told;II)Z"⟩, prog_6_method_8_code, 4, some .boolean, 6),
  (⟨"SaidLeast$Orders", "goOnFrom", "(LSaidLeast$Told;I)V"⟩, prog_6_method_9_code, 5, none, 6),
  (⟨"SaidLeast$Orders", "topWorth", "(LSaidLeast$Told;LSaidLeast$State;I)I"⟩, prog_6_method_10_code, 6, some .int, 6),
  (⟨"SaidLeast", "mostAt", "(II)I"⟩, prog_1_method_18_code, 3, some .int, 0),
  (⟨"SaidLeast$Orders", "sayingOfFirst", "(LSaidLeast$Told;LSaidLeast$State;II)I"⟩, prog_6_method_3_code, 10, some .int, 6),
  (⟨"SaidLeast$Orders", "markGood", "(LSaidLeast$Told;LSaidLeast$State;II)V"⟩, prog_6_method_11_code, 6, none, 6),
  (⟨"SaidLeast$Orders", "goodByNext", "(LSaidLeast$Told;I)I"⟩, prog_6_method_12_code, 6, some .int, 6),
  (⟨"SaidLeast$Orders", "firstGood", "(LSaidLeast$Told;II)I"⟩, prog_6_method_13_code, 5, some .int, 6),
  (⟨"SaidLeast", "soon", "(I)I"⟩, prog_1_method_19_code, 2, some .int, 0),
  (⟨"SaidLeast$Orders", "fewestWordsAhead", "(LSaidLeast$Told;LSaidLeast$State;I)I"⟩, prog_6_method_4_code, 6, some .int, 6),
  (⟨"SaidLeast", "need", "(I)I"⟩, prog_1_method_20_code, 2, some .int, 0),
  (⟨"SaidLeast$State", "wordsMissingBelow", "(I)I"⟩, prog_8_method_6_code, 4, some .int, 4),
  (⟨"SaidLeast", "each", "()I"⟩, prog_1_method_21_code, 1, some .int, 0),
  (⟨"SaidLeast$Contest", "endOf", "(LSaidLeast$Told;LSaidLeast$State;)I"⟩, prog_4_method_2_code, 4, some .int, 8),
  (⟨"SaidLeast$Contest", "spread", "(LSaidLeast$Told;LSaidLeast$State;)V"⟩, prog_4_method_3_code, 4, none, 8),
  (⟨"SaidLeast$Contest", "goOnFrom", "(LSaidLeast$Told;I)V"⟩, prog_4_method_4_code, 4, none, 8),
  (⟨"SaidLeast$Contest", "endFrom", "(LSaidLeast$Told;I)I"⟩, prog_4_method_5_code, 5, some .int, 8),
  (⟨"SaidLeast$Contest", "choiceOf", "(LSaidLeast$Told;III)I"⟩, prog_4_method_6_code, 11, some .int, 8),
  (⟨"SaidLeast", "out", "(II)J"⟩, prog_1_method_22_code, 3, some .long, 0),
  (⟨"SaidLeast$Guesses", "waysWhileOut", "(LSaidLeast$State;II)J"⟩, prog_5_method_2_code, 8, some .long, 9),
  (⟨"SaidLeast", "firstOf", "(I)I"⟩, prog_1_method_27_code, 2, some .int, 0),
  (⟨"SaidLeast$Guesses", "waysAtLevel", "(LSaidLeast$State;III)J"⟩, prog_5_method_3_code, 10, some .long, 9),
  (⟨"java/util/Arrays", "fill", "([JJ)V"⟩, prog_16_method_101_code, 5, none, 13),
  (⟨"java/lang/Math", "min", "(II)I"⟩, prog_14_method_69_code, 2, some .int, 12),
  (⟨"SaidLeast$Guesses", "addWords", "(III)V"⟩, prog_5_method_4_code, 8, none, 9),
  (⟨"SaidLeast", "chance", "(IIIZ)J"⟩, prog_1_method_23_code, 5, some .long, 0),
  (⟨"SaidLeast$Guesses", "weighTurns", "(LSaidLeast$State;III)V"⟩, prog_5_method_5_code, 6, none, 9),
  (⟨"SaidLeast$Guesses", "isLeastBehind", "(LSaidLeast$State;III)Z"⟩, prog_5_method_6_code, 7, some .boolean, 9),
  (⟨"SaidLeast$Guesses", "weight", "(III)J"⟩, prog_5_method_7_code, 6, some .long, 9),
  (⟨"SaidLeast$Guesses", "cancel", "(I)V"⟩, prog_5_method_8_code, 3, none, 9),
  (⟨"SaidLeast", "keep", "(I)I"⟩, prog_1_method_24_code, 2, some .int, 0),
  (⟨"SaidLeast", "again", "(I)I"⟩, prog_1_method_25_code, 2, some .int, 0),
  (⟨"SaidLeastModel", "<init>", "()V"⟩, prog_12_method_1_code, 1, none, 10),
  (⟨"SaidLeastModel", "write", "(IJ)I"⟩, prog_12_method_7_code, 5, some .int, 10),
  (⟨"SaidLeastModel", "in", "(JJJ)Z"⟩, prog_12_method_3_code, 6, some .boolean, 10),
  (⟨"SaidLeastModel", "wipe", "()I"⟩, prog_12_method_8_code, 2, some .int, 10),
  (⟨"SaidLeastModel", "fault", "()I"⟩, prog_12_method_15_code, 1, some .int, 10),
  (⟨"SaidLeastModel", "readParlour", "()I"⟩, prog_12_method_14_code, 1, some .int, 10),
  (⟨"SaidLeastModel", "figure", "(II)I"⟩, prog_12_method_9_code, 3, some .int, 10),
  (⟨"SaidLeastModel", "readPart", "()Z"⟩, prog_12_method_13_code, 2, some .boolean, 10),
  (⟨"SaidLeastModel", "readPerson", "(Z)Z"⟩, prog_12_method_10_code, 4, some .boolean, 10),
  (⟨"SaidLeastModel", "readSaying", "()Z"⟩, prog_12_method_12_code, 5, some .boolean, 10),
  (⟨"SaidLeastModel", "isAnswered", "(I)Z"⟩, prog_12_method_11_code, 4, some .boolean, 10),
  (⟨"SaidLeastModel", "parlour", "()I"⟩, prog_12_method_16_code, 2, some .int, 10),
  (⟨"SaidLeastModel", "about", "(I)I"⟩, prog_12_method_21_code, 4, some .int, 10),
  (⟨"SaidLeastModel", "begin", "()V"⟩, prog_12_method_17_code, 2, none, 10),
  (⟨"SaidLeastModel", "has", "(II)Z"⟩, prog_12_method_4_code, 2, some .boolean, 10),
  (⟨"SaidLeastModel", "leastSet", "()I"⟩, prog_12_method_18_code, 4, some .int, 10),
  (⟨"SaidLeastModel", "worthOf", "(II)I"⟩, prog_12_method_19_code, 5, some .int, 10),
  (⟨"SaidLeastModel", "person", "(II)I"⟩, prog_12_method_22_code, 3, some .int, 10),
  (⟨"SaidLeastModel", "noOne", "(I)Z"⟩, prog_12_method_5_code, 2, some .boolean, 10),
  (⟨"SaidLeastModel", "saying", "(II)I"⟩, prog_12_method_23_code, 3, some .int, 10),
  (⟨"SaidLeastModel", "noSaying", "(I)Z"⟩, prog_12_method_6_code, 2, some .boolean, 10),
  (⟨"SaidLeastModel", "law", "(I)I"⟩, prog_12_method_24_code, 3, some .int, 10),
  (⟨"SaidLeastModel", "may", "(I)I"⟩, prog_12_method_27_code, 2, some .int, 10),
  (⟨"SaidLeastModel", "canSay", "(I)Z"⟩, prog_12_method_25_code, 2, some .boolean, 10),
  (⟨"SaidLeastModel", "say", "(I)I"⟩, prog_12_method_31_code, 2, some .int, 10),
  (⟨"SaidLeastModel", "note", "()V"⟩, prog_12_method_30_code, 2, none, 10),
  (⟨"SaidLeastModel", "layPage", "([II)V"⟩, prog_12_method_28_code, 4, none, 10),
  (⟨"SaidLeastModel", "talk", "(II)I"⟩, prog_12_method_32_code, 3, some .int, 10),
  (⟨"SaidLeastModel", "come", "(I)I"⟩, prog_12_method_33_code, 6, some .int, 10),
  (⟨"SaidLeastModel", "go", "(I)I"⟩, prog_12_method_34_code, 2, some .int, 10),
  (⟨"SaidLeastModel", "many", "(I)I"⟩, prog_12_method_20_code, 3, some .int, 10),
  (⟨"SaidLeastModel", "undo", "()I"⟩, prog_12_method_35_code, 1, some .int, 10),
  (⟨"SaidLeastModel", "takePage", "([II)V"⟩, prog_12_method_29_code, 4, none, 10),
  (⟨"SaidLeastModel", "judge", "(II)I"⟩, prog_12_method_36_code, 6, some .int, 10),
  (⟨"SaidLeastModel", "sayIt", "(I)V"⟩, prog_12_method_26_code, 2, none, 10),
  (⟨"SaidLeastModel", "most", "(I)I"⟩, prog_12_method_39_code, 2, some .int, 10),
  (⟨"SaidLeastModel", "goOrders", "(II)I"⟩, prog_12_method_38_code, 9, some .int, 10),
  (⟨"SaidLeastModel", "takeBack", "(I)V"⟩, prog_12_method_37_code, 3, none, 10),
  (⟨"SaidLeastModel", "mostAt", "(II)I"⟩, prog_12_method_40_code, 3, some .int, 10),
  (⟨"SaidLeastModel", "soon", "(I)I"⟩, prog_12_method_41_code, 2, some .int, 10),
  (⟨"SaidLeastModel", "need", "(I)I"⟩, prog_12_method_42_code, 4, some .int, 10),
  (⟨"SaidLeastModel", "each", "()I"⟩, prog_12_method_44_code, 2, some .int, 10),
  (⟨"SaidLeastModel", "endOf", "(I)I"⟩, prog_12_method_43_code, 7, some .int, 10),
  (⟨"SaidLeastModel", "out", "(II)J"⟩, prog_12_method_45_code, 7, some .long, 10),
  (⟨"SaidLeastModel", "outBy", "(III)J"⟩, prog_12_method_46_code, 8, some .long, 10),
  (⟨"SaidLeastModel", "chance", "(IIIZ)J"⟩, prog_12_method_48_code, 13, some .long, 10),
  (⟨"SaidLeastModel", "turn", "(I)V"⟩, prog_12_method_49_code, 4, none, 10),
  (⟨"SaidLeastModel", "divisor", "(JJ)J"⟩, prog_12_method_47_code, 10, some .long, 10),
  (⟨"SaidLeastModel", "keep", "(I)I"⟩, prog_12_method_50_code, 2, some .int, 10),
  (⟨"SaidLeastModel", "again", "(I)I"⟩, prog_12_method_51_code, 2, some .int, 10)]
def ab_m (M : Nat) : MethodName × ByteArray × Nat × Option FieldType × Nat := ab_mt.getD M (⟨"", "", ""⟩, prog_1_method_1_code, 0, none, 0)
def ab_N (M : Nat) : MethodName := (ab_m M).1
def ab_C (M : Nat) : ByteArray := (ab_m M).2.1
def ab_L (M : Nat) : Nat := (ab_m M).2.2.1
def ab_R (M : Nat) : Option FieldType := (ab_m M).2.2.2.1
def ab_O (M : Nat) : Nat := (ab_m M).2.2.2.2
/-- field links: own class, index, class, field -/
def ab_flT : List (Nat × Nat × Nat × Nat) := [(0, 12, 0, 0), (0, 19, 0, 1), (0, 26, 0, 2), (0, 33, 0, 3), (0, 37, 0, 4), (0, 43, 0, 5), (0, 47, 0, 6), (0, 54, 0, 7), (0, 61, 0, 8), (0, 68, 0, 9), (0, 72, 1, 1), (0, 84, 2, 0), (0, 89, 2, 1), (0, 98, 0, 10), (0, 101, 3, 4), (0, 104, 3, 5), (0, 107, 4, 4), (0, 110, 4, 1), (0, 117, 4, 2), (0, 124, 5, 6), (0, 130, 4, 3), (0, 137, 4, 0), (0, 151, 3, 0), (0, 154, 3, 1), (0, 155, 3, 2), (0, 158, 3, 3), (0, 215, 9, 2), (0, 219, 9, 3), (5, 9, 5, 0), (5, 15, 5, 1), (5, 18, 5, 2), (5, 21, 5, 3), (5, 24, 5, 4), (5, 27, 5, 6), (5, 31, 5, 5), (5, 34, 4, 0), (5, 37, 4, 1), (5, 39, 4, 2), (5, 41, 4, 3), (7, 10, 7, 0), (7, 20, 3, 5), (7, 26, 4, 2), (7, 35, 4, 0), (7, 39, 3, 0), (7, 42, 3, 1), (8, 12, 8, 0), (8, 18, 8, 1), (8, 22, 8, 2), (8, 29, 3, 5), (8, 35, 4, 2), (8, 62, 3, 0), (9, 9, 9, 0), (9, 18, 9, 1), (9, 22, 9, 3), (9, 26, 4, 1), (9, 34, 4, 0), (9, 65, 9, 2), (6, 12, 6, 0), (6, 18, 6, 1), (6, 22, 6, 2), (6, 25, 6, 3), (6, 28, 6, 4), (6, 31, 6, 5), (6, 46, 4, 2), (6, 52, 4, 3), (6, 59, 3, 5), (6, 88, 3, 0), (6, 91, 3, 3), (6, 94, 4, 1), (6, 101, 3, 1), (6, 104, 3, 2), (2, 12, 2, 0), (2, 21, 2, 1), (2, 28, 1, 1), (2, 34, 1, 0), (2, 42, 2, 2), (2, 45, 3, 4), (2, 48, 3, 5), (2, 51, 4, 0), (2, 61, 4, 1), (2, 64, 4, 4), (2, 67, 2, 3), (2, 107, 3, 0), (2, 110, 3, 1), (2, 111, 3, 2), (2, 121, 3, 3), (4, 9, 4, 0), (4, 15, 4, 3), (4, 25, 4, 1), (4, 28, 4, 2), (4, 31, 4, 4), (4, 60, 3, 0), (4, 65, 3, 3), (4, 71, 3, 1), (1, 9, 1, 0), (1, 15, 1, 1), (3, 9, 3, 0), (3, 15, 3, 1), (3, 18, 3, 2), (3, 21, 3, 3), (3, 30, 3, 4), (3, 34, 3, 5), (10, 7, 10, 1), (10, 13, 10, 6), (10, 16, 10, 9), (10, 19, 10, 10), (10, 22, 10, 11), (10, 25, 10, 12), (10, 28, 10, 14), (10, 32, 10, 17), (10, 35, 10, 20), (10, 38, 10, 21), (10, 41, 10, 22), (10, 44, 10, 23), (10, 47, 10, 24), (10, 50, 10, 26), (10, 53, 10, 27), (10, 57, 10, 28), (10, 60, 10, 31), (10, 63, 10, 32), (10, 66, 10, 33), (10, 69, 10, 35), (10, 72, 10, 36), (10, 76, 10, 37), (10, 79, 10, 0), (10, 82, 10, 5), (10, 89, 10, 8), (10, 94, 10, 2), (10, 97, 10, 3), (10, 104, 10, 16), (10, 107, 10, 18), (10, 110, 10, 19), (10, 125, 10, 15), (10, 135, 10, 4), (10, 138, 10, 7), (10, 141, 10, 13), (10, 144, 10, 25), (10, 147, 10, 29), (10, 150, 10, 30), (10, 198, 10, 34)]
/-- calls: own class, index, callee, arguments (without the receiver), kind: 0 static, 1 virtual, 2 static of a nest mate -/
def ab_mlT : List (Nat × Nat × Nat × Nat × Nat) := [(0, 76, 12, 2, 1), (0, 80, 15, 1, 1), (0, 85, 34, 1, 1), (0, 92, 35, 1, 1), (0, 95, 36, 0, 1), (0, 113, 38, 0, 1), (0, 120, 39, 1, 1), (0, 127, 40, 0, 1), (0, 133, 26, 1, 1), (0, 141, 32, 2, 0), (0, 145, 42, 1, 1), (0, 148, 31, 1, 1), (0, 161, 46, 2, 1), (0, 165, 48, 2, 1), (0, 169, 49, 2, 1), (0, 173, 52, 0, 1), (0, 176, 53, 0, 1), (0, 179, 59, 1, 1), (0, 185, 62, 3, 1), (0, 189, 71, 4, 1), (0, 193, 76, 3, 1), (0, 196, 78, 1, 1), (0, 199, 80, 2, 1), (0, 205, 86, 3, 1), (0, 211, 93, 4, 1), (7, 16, 35, 1, 1), (7, 29, 32, 2, 2), (7, 43, 38, 0, 1), (8, 25, 81, 2, 1), (8, 40, 83, 2, 1), (8, 44, 17, 2, 0), (8, 50, 66, 3, 1), (8, 54, 82, 2, 1), (8, 58, 32, 2, 2), (8, 65, 84, 4, 1), (8, 69, 42, 1, 1), (8, 73, 39, 1, 1), (9, 30, 87, 1, 2), (9, 38, 88, 4, 1), (9, 42, 89, 2, 0), (9, 48, 32, 2, 2), (9, 61, 91, 3, 1), (9, 68, 94, 4, 1), (9, 72, 95, 3, 0), (9, 79, 96, 1, 1), (9, 83, 35, 1, 1), (9, 87, 38, 0, 1), (6, 34, 63, 2, 1), (6, 38, 69, 3, 1), (6, 42, 72, 4, 1), (6, 55, 74, 3, 1), (6, 64, 32, 2, 2), (6, 68, 17, 2, 0), (6, 74, 64, 1, 0), (6, 78, 65, 3, 1), (6, 81, 68, 2, 1), (6, 85, 66, 3, 1), (6, 97, 67, 3, 0), (6, 113, 73, 2, 1), (2, 25, 16, 0, 1), (2, 38, 18, 1, 1), (2, 55, 17, 2, 0), (2, 70, 19, 1, 1), (2, 73, 20, 1, 1), (2, 76, 21, 0, 1), (2, 80, 22, 1, 1), (2, 83, 23, 1, 1), (2, 86, 24, 1, 1), (2, 89, 25, 1, 1), (2, 92, 27, 1, 1), (2, 95, 28, 1, 1), (2, 98, 29, 1, 1), (2, 101, 30, 1, 1), (2, 104, 26, 1, 1), (2, 114, 31, 1, 1), (2, 117, 32, 2, 2), (4, 34, 54, 1, 0), (4, 40, 32, 2, 2), (4, 50, 53, 0, 1), (4, 54, 40, 0, 1), (4, 57, 55, 0, 1), (4, 68, 38, 0, 1), (3, 37, 32, 2, 2), (10, 85, 101, 3, 0), (10, 100, 105, 2, 1), (10, 113, 109, 1, 1), (10, 117, 107, 1, 1), (10, 121, 108, 0, 1), (10, 128, 106, 0, 1), (10, 131, 104, 0, 1), (10, 154, 113, 2, 0), (10, 158, 112, 0, 1), (10, 161, 114, 0, 1), (10, 164, 115, 2, 1), (10, 167, 117, 1, 1), (10, 170, 119, 1, 1), (10, 175, 122, 1, 1), (10, 178, 125, 2, 1), (10, 182, 124, 0, 1), (10, 187, 129, 1, 0), (10, 191, 131, 2, 1), (10, 194, 133, 1, 1), (10, 201, 136, 1, 1), (10, 206, 135, 2, 1), (10, 209, 141, 1, 1), (10, 216, 143, 3, 1), (10, 226, 145, 1, 1), (10, 229, 146, 2, 0)]
def ab_ciT : List (Nat × Nat × Int32) := [(10, 153, 99999), (11, 265, 1431655765), (11, 266, 858993459), (11, 267, 252645135)]
def ab_clT : List (Nat × Nat × Int64) := [(0, 203, -2), (0, 209, -1), (9, 91, 2), (9, 93, 5), (10, 92, 8), (10, 173, 2), (10, 185, 9), (10, 204, 72), (10, 212, 54), (10, 214, -2), (10, 220, -1), (10, 222, 6), (10, 224, 10)]
/-- arraycopy, by own class and index -/
def ab_acT : List (Nat × Nat) := [(3, 24), (4, 19)]
/-- Math.max (0), Math.min (1), by own class and index -/
def ab_mmT : List (Nat × Nat × Nat) := [(4, 44, 0), (6, 107, 0), (9, 52, 0), (9, 58, 1)]
/-- the one static array, by own class and index; 1: by a nest mate -/
def ab_gsT : List (Nat × Nat × Nat) := [(0, 182, 0), (9, 76, 1)]
def ab_nest : List Cond := [(Jvm.Cond.methodLinkNest "SaidLeast$Reader" (117 : Nat) ({ cls := "SaidLeast", name := "has", desc := "(II)Z" } : Jvm.MethodName) "SaidLeast"),
  (Jvm.Cond.methodLinkNest "SaidLeast$State" (40 : Nat) ({ cls := "SaidLeast", name := "has", desc := "(II)Z" } : Jvm.MethodName) "SaidLeast"),
  (Jvm.Cond.methodLinkNest "SaidLeast$Told" (37 : Nat) ({ cls := "SaidLeast", name := "has", desc := "(II)Z" } : Jvm.MethodName) "SaidLeast"),
  (Jvm.Cond.methodLinkNest "SaidLeast$Ahead" (29 : Nat) ({ cls := "SaidLeast", name := "has", desc := "(II)Z" } : Jvm.MethodName) "SaidLeast"),
  (Jvm.Cond.methodLinkNest "SaidLeast$Orders" (64 : Nat) ({ cls := "SaidLeast", name := "has", desc := "(II)Z" } : Jvm.MethodName) "SaidLeast"),
  (Jvm.Cond.methodLinkNest "SaidLeast$Contest" (58 : Nat) ({ cls := "SaidLeast", name := "has", desc := "(II)Z" } : Jvm.MethodName) "SaidLeast"),
  (Jvm.Cond.methodLinkNest "SaidLeast$Guesses" (30 : Nat) ({ cls := "SaidLeast", name := "firstOf", desc := "(I)I" } : Jvm.MethodName) "SaidLeast"),
  (Jvm.Cond.methodLinkNest "SaidLeast$Guesses" (48 : Nat) ({ cls := "SaidLeast", name := "has", desc := "(II)Z" } : Jvm.MethodName) "SaidLeast"),
  (Jvm.Cond.fieldLinkNest "SaidLeast$Guesses" (76 : Nat) "SaidLeast" "POWERS_OF_TEN" "[I" "SaidLeast")]
/-- the cells: kind (below 100 a class; 100 int, 101 byte, 102 boolean, 103 long, 104 rows of State), length, references -/
def ab_sh : List (Nat × Nat × List Nat) := [(0, 0, [1, 3, 11, 16, 18, 20, 26, 31, 40, 46, 0]), (1, 0, [2, 0]), (101, 64, []), (2, 0, [4, 9, 0, 0]), (3, 0, [5, 6, 7, 8, 0, 0]), (100, 8, []), (100, 8, []), (100, 8, []), (100, 8, []), (4, 0, [10, 0, 0, 0, 0]), (100, 6, []), (3, 0, [12, 13, 14, 15, 0, 0]), (100, 8, []), (100, 8, []), (100, 8, []), (100, 8, []), (4, 0, [17, 0, 0, 0, 0]), (100, 6, []), (4, 0, [19, 0, 0, 0, 0]), (100, 6, []), (5, 0, [21, 22, 23, 24, 25, 0, 0]), (100, 12, []), (100, 12, []), (100, 12, []), (100, 12, []), (100, 12, []), (104, 2, [27, 29]), (4, 0, [28, 0, 0, 0, 0]), (100, 6, []), (4, 0, [30, 0, 0, 0, 0]), (100, 6, []), (6, 0, [32, 35, 36, 37, 38, 39]), (7, 0, [33]), (4, 0, [34, 0, 0, 0, 0]), (100, 6, []), (100, 256, []), (100, 256, []), (100, 256, []), (100, 256, []), (100, 256, []), (8, 0, [41, 44, 45]), (7, 0, [42]), (4, 0, [43, 0, 0, 0, 0]), (100, 6, []), (100, 256, []), (100, 256, []), (9, 0, [47, 48, 0, 0]), (103, 55, []), (4, 0, [49, 0, 0, 0, 0]), (100, 6, []), (10, 0, [0, 51, 0, 0, 0, 0, 52, 0, 0, 53, 54, 55, 56, 0, 0, 0, 0, 57, 0, 0, 58, 59, 60, 61, 62, 0, 63, 64, 65, 0, 0, 66, 67, 68, 0, 69, 70, 71]), (100, 64, []), (100, 6, []), (100, 8, []), (100, 8, []), (100, 8, []), (100, 8, []), (100, 6, []), (100, 8, []), (100, 8, []), (100, 8, []), (100, 8, []), (100, 192, []), (100, 32, []), (102, 2, []), (100, 6, []), (100, 9, []), (100, 9, []), (100, 8, []), (100, 256, []), (103, 56, []), (103, 56, [])]
def ab_s (c : Nat) : Nat × Nat × List Nat := ab_sh.getD c (999, 0, [])
def ab_k (c : Nat) : Nat := (ab_s c).1
def ab_n (c : Nat) : Nat := (ab_s c).2.1
def ab_r (c j : Nat) : Nat := (ab_s c).2.2.getD j 0
