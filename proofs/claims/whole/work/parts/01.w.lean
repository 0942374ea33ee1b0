def qOV (C : String) (y : MethodName) (b : ByteArray) (n : Nat) (rt : Option FieldType) (k : Nat) : Prop := (Cond.code y b n rt ∈ qTB ∧ Cond.initialized y.cls ∈ qTB ∧ (y.cls ≠ "java/lang/invoke/MethodHandle" ∧ y.cls ≠ "java/lang/invoke/VarHandle" ∧ (parseMethodDescriptor y.desc).map (fun d => d.parameters.length) = some k)) ∧ Cond.instanceMethod y ∈ qTB ∧ Cond.selects C y y ∈ qTB
def qOS (y : MethodName) (b : ByteArray) (n : Nat) (rt : Option FieldType) (k : Nat) : Prop := (Cond.code y b n rt ∈ qTB ∧ Cond.initialized y.cls ∈ qTB ∧ (y.cls ≠ "java/lang/invoke/MethodHandle" ∧ y.cls ≠ "java/lang/invoke/VarHandle" ∧ (parseMethodDescriptor y.desc).map (fun d => d.parameters.length) = some k)) ∧ Cond.static y ∈ qTB
def y_Cm_init : MethodName := ⟨"CarelessMist$Common", "<init>", "()V"⟩
def y_Cm_become : MethodName := ⟨"CarelessMist$Common", "become", "(LCarelessMist$Common;)V"⟩
def y_Cm_hasThing : MethodName := ⟨"CarelessMist$Common", "hasThing", "(I)Z"⟩
def y_Cm_hasWalker : MethodName := ⟨"CarelessMist$Common", "hasWalker", "(I)Z"⟩
def y_Cm_addThing : MethodName := ⟨"CarelessMist$Common", "addThing", "(II)I"⟩
def y_Cm_addWalker : MethodName := ⟨"CarelessMist$Common", "addWalker", "(II)I"⟩
def y_Cm_draw : MethodName := ⟨"CarelessMist$Common", "draw", "()I"⟩
def y_Cm_canSee : MethodName := ⟨"CarelessMist$Common", "canSee", "(II)Z"⟩
def y_Cm_findsWay : MethodName := ⟨"CarelessMist$Common", "findsWay", "(II)Z"⟩
def y_Cm_passDay : MethodName := ⟨"CarelessMist$Common", "passDay", "()V"⟩
def y_Cm_takeTurn : MethodName := ⟨"CarelessMist$Common", "takeTurn", "(I)V"⟩
def y_Cm_walk : MethodName := ⟨"CarelessMist$Common", "walk", "([IIZ)V"⟩
def y_Cm_arriveAt : MethodName := ⟨"CarelessMist$Common", "arriveAt", "([I[II)V"⟩
def y_Cm_sumOf : MethodName := ⟨"CarelessMist$Common", "sumOf", "(I)I"⟩
def y_Cm_seersOf : MethodName := ⟨"CarelessMist$Common", "seersOf", "(I)I"⟩
def y_Cm_guidedWalkers : MethodName := ⟨"CarelessMist$Common", "guidedWalkers", "()I"⟩
def y_Cm_thingsCaredFor : MethodName := ⟨"CarelessMist$Common", "thingsCaredFor", "()I"⟩
def y_Cm_cellsWithWalkers : MethodName := ⟨"CarelessMist$Common", "cellsWithWalkers", "()I"⟩
def y_Cm_cellsWithThings : MethodName := ⟨"CarelessMist$Common", "cellsWithThings", "()I"⟩
def y_Cm_unseenThings : MethodName := ⟨"CarelessMist$Common", "unseenThings", "()I"⟩
def y_Cm_heldSpots : MethodName := ⟨"CarelessMist$Common", "heldSpots", "()I"⟩
def y_Kd_isUnder : MethodName := ⟨"CarelessMist$Kinds", "isUnder", "(II)Z"⟩
def y_Kd_clear : MethodName := ⟨"CarelessMist$Kinds", "clear", "(I)I"⟩
def y_Kd_dim : MethodName := ⟨"CarelessMist$Kinds", "dim", "(III)I"⟩
def y_Kd_moves : MethodName := ⟨"CarelessMist$Kinds", "moves", "(II)I"⟩
def y_Kd_touches : MethodName := ⟨"CarelessMist$Kinds", "touches", "(IZ)Z"⟩
def y_Sh_init : MethodName := ⟨"CarelessMist$Sheet", "<init>", "()V"⟩
def y_Sh_begin : MethodName := ⟨"CarelessMist$Sheet", "begin", "(II)V"⟩
def y_Sh_put : MethodName := ⟨"CarelessMist$Sheet", "put", "(II)V"⟩
def y_Sh_has : MethodName := ⟨"CarelessMist$Sheet", "has", "(II)Z"⟩
def y_Tp_init : MethodName := ⟨"CarelessMist$Tape", "<init>", "()V"⟩
def y_Tp_append : MethodName := ⟨"CarelessMist$Tape", "append", "(II)V"⟩
def y_Tp_readInto : MethodName := ⟨"CarelessMist$Tape", "readInto", "(LCarelessMist$Common;)I"⟩
def y_Tp_readItem : MethodName := ⟨"CarelessMist$Tape", "readItem", "(LCarelessMist$Common;)Z"⟩
def y_Tp_readThing : MethodName := ⟨"CarelessMist$Tape", "readThing", "(LCarelessMist$Common;I)Z"⟩
def y_Tp_readWalker : MethodName := ⟨"CarelessMist$Tape", "readWalker", "(LCarelessMist$Common;)Z"⟩
def y_Tp_readPerhaps : MethodName := ⟨"CarelessMist$Tape", "readPerhaps", "(Ljava/lang/String;[II)Z"⟩
def y_Tp_readTurn : MethodName := ⟨"CarelessMist$Tape", "readTurn", "(LCarelessMist$Common;)Z"⟩
def y_Tp_kindOfWord : MethodName := ⟨"CarelessMist$Tape", "kindOfWord", "()I"⟩
def y_Tp_isWord : MethodName := ⟨"CarelessMist$Tape", "isWord", "(Ljava/lang/String;)Z"⟩
def y_Tp_isNumber : MethodName := ⟨"CarelessMist$Tape", "isNumber", "(II)Z"⟩
def y_Tp_step : MethodName := ⟨"CarelessMist$Tape", "step", "()V"⟩
def y_Tp_isLetter : MethodName := ⟨"CarelessMist$Tape", "isLetter", "(I)Z"⟩
def y_Tp_isDigit : MethodName := ⟨"CarelessMist$Tape", "isDigit", "(I)Z"⟩
def y_X_init : MethodName := ⟨"CarelessMist", "<init>", "()V"⟩
def y_X_turn : MethodName := ⟨"CarelessMist", "turn", "(III)I"⟩
def y_X_listed : MethodName := ⟨"CarelessMist", "listed", "(I)I"⟩
def y_X_thing : MethodName := ⟨"CarelessMist", "thing", "(II)I"⟩
def y_X_walker : MethodName := ⟨"CarelessMist", "walker", "(II)I"⟩
def y_X_of : MethodName := ⟨"CarelessMist", "of", "(II)I"⟩
def y_X_change : MethodName := ⟨"CarelessMist", "change", "(III)I"⟩
def y_X_ofWalker : MethodName := ⟨"CarelessMist", "ofWalker", "(II)I"⟩
def y_X_lead : MethodName := ⟨"CarelessMist", "lead", "(III)I"⟩
def y_X_sees : MethodName := ⟨"CarelessMist", "sees", "(I)I"⟩
def y_X_seenBy : MethodName := ⟨"CarelessMist", "seenBy", "(I)I"⟩
def y_X_go : MethodName := ⟨"CarelessMist", "go", "(I)I"⟩
def y_X_now : MethodName := ⟨"CarelessMist", "now", "(I)I"⟩
def y_X_ahead : MethodName := ⟨"CarelessMist", "ahead", "(III)I"⟩
def y_X_later : MethodName := ⟨"CarelessMist", "later", "(III)I"⟩
def y_X_arrives : MethodName := ⟨"CarelessMist", "arrives", "(II)I"⟩
def y_X_spies : MethodName := ⟨"CarelessMist", "spies", "(II)I"⟩
def y_X_meet : MethodName := ⟨"CarelessMist", "meet", "(II)I"⟩
def y_X_startFor : MethodName := ⟨"CarelessMist", "startFor", "(II)I"⟩
def y_X_aimFor : MethodName := ⟨"CarelessMist", "aimFor", "(II)I"⟩
def y_X_kindFor : MethodName := ⟨"CarelessMist", "kindFor", "(II)I"⟩
def y_X_paceFor : MethodName := ⟨"CarelessMist", "paceFor", "(II)I"⟩
def y_X_giveUp : MethodName := ⟨"CarelessMist", "giveUp", "(II)I"⟩
def y_X_fits : MethodName := ⟨"CarelessMist", "fits", "(II)I"⟩
def y_X_kinds : MethodName := ⟨"CarelessMist", "kinds", "(II)I"⟩
def y_X_morning : MethodName := ⟨"CarelessMist", "morning", "(I)I"⟩
def y_X_odds : MethodName := ⟨"CarelessMist", "odds", "(IIII)J"⟩
def y_X_seed : MethodName := ⟨"CarelessMist", "seed", "(I)I"⟩
def y_X_feed : MethodName := ⟨"CarelessMist", "feed", "(II)I"⟩
def y_X_wipe : MethodName := ⟨"CarelessMist", "wipe", "()I"⟩
def y_X_text : MethodName := ⟨"CarelessMist", "text", "()I"⟩
def y_X_hold : MethodName := ⟨"CarelessMist", "hold", "(II)I"⟩
def y_X_as : MethodName := ⟨"CarelessMist", "as", "(II)I"⟩
def y_X_sheet : MethodName := ⟨"CarelessMist", "sheet", "(III)I"⟩
def y_X_write : MethodName := ⟨"CarelessMist", "write", "(III)I"⟩
def y_X_copy : MethodName := ⟨"CarelessMist", "copy", "(IIIII)I"⟩
def y_X_load : MethodName := ⟨"CarelessMist", "load", "(I)I"⟩
def y_X_judge : MethodName := ⟨"CarelessMist", "judge", "(I)I"⟩
def y_X_image : MethodName := ⟨"CarelessMist", "image", "()I"⟩
def y_X_undo : MethodName := ⟨"CarelessMist", "undo", "()I"⟩
def y_X_tear : MethodName := ⟨"CarelessMist", "tear", "()I"⟩
def y_X_count : MethodName := ⟨"CarelessMist", "count", "(I)I"⟩
def y_X_status : MethodName := ⟨"CarelessMist", "status", "(I)I"⟩
def y_X_within : MethodName := ⟨"CarelessMist", "within", "(III)Z"⟩
def y_X_power : MethodName := ⟨"CarelessMist", "power", "(JI)J"⟩
def y_X_told : MethodName := ⟨"CarelessMist", "told", "(I)I"⟩
def y_X_lackOf : MethodName := ⟨"CarelessMist", "lackOf", "(I)I"⟩
def y_X_tryDays : MethodName := ⟨"CarelessMist", "tryDays", "(I)V"⟩
def y_X_gotWith : MethodName := ⟨"CarelessMist", "gotWith", "(IIII)I"⟩
def y_X_bestForGot : MethodName := ⟨"CarelessMist", "bestForGot", "(III)I"⟩
def y_X_goesAsTold : MethodName := ⟨"CarelessMist", "goesAsTold", "(LCarelessMist$Sheet;[II)Z"⟩
def y_R_init : MethodName := ⟨"CarelessMistModel", "<init>", "()V"⟩
def y_R_finding : MethodName := ⟨"CarelessMistModel", "finding", "(I)I"⟩
def y_R_within : MethodName := ⟨"CarelessMistModel", "within", "(III)Z"⟩
def y_R_become : MethodName := ⟨"CarelessMistModel", "become", "(II)I"⟩
def y_R_copyRow : MethodName := ⟨"CarelessMistModel", "copyRow", "([I[I)V"⟩
def y_R_putBack : MethodName := ⟨"CarelessMistModel", "putBack", "(I)I"⟩
def y_R_orNone : MethodName := ⟨"CarelessMistModel", "orNone", "(I)I"⟩
def y_R_bits : MethodName := ⟨"CarelessMistModel", "bits", "(I)I"⟩
def y_R_isCell : MethodName := ⟨"CarelessMistModel", "isCell", "(I)Z"⟩
def y_R_isAim : MethodName := ⟨"CarelessMistModel", "isAim", "(I)Z"⟩
def y_R_isSet : MethodName := ⟨"CarelessMistModel", "isSet", "(I)Z"⟩
def y_R_isPace : MethodName := ⟨"CarelessMistModel", "isPace", "(I)Z"⟩
def y_R_isPlace : MethodName := ⟨"CarelessMistModel", "isPlace", "(I)Z"⟩
def y_R_turn : MethodName := ⟨"CarelessMistModel", "turn", "(III)I"⟩
def y_R_listed : MethodName := ⟨"CarelessMistModel", "listed", "(I)I"⟩
def y_R_placeNow : MethodName := ⟨"CarelessMistModel", "placeNow", "()I"⟩
def y_R_thingAt : MethodName := ⟨"CarelessMistModel", "thingAt", "(II)I"⟩
def y_R_thingIs : MethodName := ⟨"CarelessMistModel", "thingIs", "(II)I"⟩
def y_R_isThing : MethodName := ⟨"CarelessMistModel", "isThing", "(I)Z"⟩
def y_R_walkerAt : MethodName := ⟨"CarelessMistModel", "walkerAt", "(II)I"⟩
def y_R_walkerIs : MethodName := ⟨"CarelessMistModel", "walkerIs", "(II)I"⟩
def y_R_isWalker : MethodName := ⟨"CarelessMistModel", "isWalker", "(I)Z"⟩
def y_R_isKind : MethodName := ⟨"CarelessMistModel", "isKind", "(I)Z"⟩
def y_R_comes : MethodName := ⟨"CarelessMistModel", "comes", "(II)I"⟩
def y_R_thing : MethodName := ⟨"CarelessMistModel", "thing", "(II)I"⟩
def y_R_setsOut : MethodName := ⟨"CarelessMistModel", "setsOut", "(II)I"⟩
def y_R_walker : MethodName := ⟨"CarelessMistModel", "walker", "(II)I"⟩
def y_R_clear : MethodName := ⟨"CarelessMistModel", "clear", "(I)I"⟩
def y_R_dim : MethodName := ⟨"CarelessMistModel", "dim", "(I)I"⟩
def y_R_moves : MethodName := ⟨"CarelessMistModel", "moves", "(I)I"⟩
def y_R_touches : MethodName := ⟨"CarelessMistModel", "touches", "(IZ)Z"⟩
def y_R_told : MethodName := ⟨"CarelessMistModel", "told", "(II)I"⟩
def y_R_of : MethodName := ⟨"CarelessMistModel", "of", "(II)I"⟩
def y_R_change : MethodName := ⟨"CarelessMistModel", "change", "(III)I"⟩
def y_R_ofWalker : MethodName := ⟨"CarelessMistModel", "ofWalker", "(II)I"⟩
def y_R_isField : MethodName := ⟨"CarelessMistModel", "isField", "(II)Z"⟩
def y_R_lead : MethodName := ⟨"CarelessMistModel", "lead", "(III)I"⟩
def y_R_doesCare : MethodName := ⟨"CarelessMistModel", "doesCare", "(II)Z"⟩
def y_R_doesSee : MethodName := ⟨"CarelessMistModel", "doesSee", "(II)Z"⟩
def y_R_sees : MethodName := ⟨"CarelessMistModel", "sees", "(I)I"⟩
def y_R_seers : MethodName := ⟨"CarelessMistModel", "seers", "(I)I"⟩
def y_R_seenBy : MethodName := ⟨"CarelessMistModel", "seenBy", "(I)I"⟩
def y_R_isGuided : MethodName := ⟨"CarelessMistModel", "isGuided", "(II)Z"⟩
def y_R_more : MethodName := ⟨"CarelessMistModel", "more", "(III)V"⟩
def y_R_cares : MethodName := ⟨"CarelessMistModel", "cares", "(IIZ)V"⟩
def y_R_walks : MethodName := ⟨"CarelessMistModel", "walks", "(II)V"⟩
def y_R_day : MethodName := ⟨"CarelessMistModel", "day", "()V"⟩
def y_R_daysGo : MethodName := ⟨"CarelessMistModel", "daysGo", "(I)V"⟩
def y_R_sumOf : MethodName := ⟨"CarelessMistModel", "sumOf", "(I)I"⟩
def y_R_go : MethodName := ⟨"CarelessMistModel", "go", "(I)I"⟩
def y_R_goingOnes : MethodName := ⟨"CarelessMistModel", "goingOnes", "()I"⟩
def y_R_caredFor : MethodName := ⟨"CarelessMistModel", "caredFor", "()I"⟩
def y_R_walkersCells : MethodName := ⟨"CarelessMistModel", "walkersCells", "()I"⟩
def y_R_thingsCells : MethodName := ⟨"CarelessMistModel", "thingsCells", "()I"⟩
def y_R_unseen : MethodName := ⟨"CarelessMistModel", "unseen", "()I"⟩
def y_R_now : MethodName := ⟨"CarelessMistModel", "now", "(I)I"⟩
def y_R_behind : MethodName := ⟨"CarelessMistModel", "behind", "(II)I"⟩
def y_R_ahead : MethodName := ⟨"CarelessMistModel", "ahead", "(III)I"⟩
def y_R_later : MethodName := ⟨"CarelessMistModel", "later", "(III)I"⟩
def y_R_arrives : MethodName := ⟨"CarelessMistModel", "arrives", "(II)I"⟩
def y_R_spies : MethodName := ⟨"CarelessMistModel", "spies", "(II)I"⟩
def y_R_areTogether : MethodName := ⟨"CarelessMistModel", "areTogether", "(II)Z"⟩
def y_R_meet : MethodName := ⟨"CarelessMistModel", "meet", "(II)I"⟩
def y_R_isThought : MethodName := ⟨"CarelessMistModel", "isThought", "(I)Z"⟩
def y_R_mostFor : MethodName := ⟨"CarelessMistModel", "mostFor", "(IIII)I"⟩
def y_R_startFor : MethodName := ⟨"CarelessMistModel", "startFor", "(II)I"⟩
def y_R_aimFor : MethodName := ⟨"CarelessMistModel", "aimFor", "(II)I"⟩
def y_R_kindFor : MethodName := ⟨"CarelessMistModel", "kindFor", "(II)I"⟩
def y_R_getsThere : MethodName := ⟨"CarelessMistModel", "getsThere", "(II)Z"⟩
def y_R_paceFor : MethodName := ⟨"CarelessMistModel", "paceFor", "(II)I"⟩
def y_R_giveUp : MethodName := ⟨"CarelessMistModel", "giveUp", "(II)I"⟩
def y_R_lacks : MethodName := ⟨"CarelessMistModel", "lacks", "(IZ)I"⟩
def y_R_isSo : MethodName := ⟨"CarelessMistModel", "isSo", "(II)Z"⟩
def y_R_fitting : MethodName := ⟨"CarelessMistModel", "fitting", "(IIII)I"⟩
def y_R_fits : MethodName := ⟨"CarelessMistModel", "fits", "(II)I"⟩
def y_R_kinds : MethodName := ⟨"CarelessMistModel", "kinds", "(II)I"⟩
def y_R_drawn : MethodName := ⟨"CarelessMistModel", "drawn", "()I"⟩
def y_R_morning : MethodName := ⟨"CarelessMistModel", "morning", "(I)I"⟩
def y_R_odds : MethodName := ⟨"CarelessMistModel", "odds", "(IIII)J"⟩
def y_R_seed : MethodName := ⟨"CarelessMistModel", "seed", "(I)I"⟩
def y_R_feed : MethodName := ⟨"CarelessMistModel", "feed", "(II)I"⟩
def y_R_wipe : MethodName := ⟨"CarelessMistModel", "wipe", "()I"⟩
def y_R_byteAt : MethodName := ⟨"CarelessMistModel", "byteAt", "(I)I"⟩
def y_R_token : MethodName := ⟨"CarelessMistModel", "token", "()V"⟩
def y_R_isWord : MethodName := ⟨"CarelessMistModel", "isWord", "(Ljava/lang/String;)Z"⟩
def y_R_must : MethodName := ⟨"CarelessMistModel", "must", "(Z)V"⟩
def y_R_number : MethodName := ⟨"CarelessMistModel", "number", "(II)I"⟩
def y_R_addItem : MethodName := ⟨"CarelessMistModel", "addItem", "(IIIII)V"⟩
def y_R_takesWord : MethodName := ⟨"CarelessMistModel", "takesWord", "(Ljava/lang/String;)Z"⟩
def y_R_readThing : MethodName := ⟨"CarelessMistModel", "readThing", "(I)V"⟩
def y_R_readWalker : MethodName := ⟨"CarelessMistModel", "readWalker", "()V"⟩
def y_R_readItem : MethodName := ⟨"CarelessMistModel", "readItem", "()V"⟩
def y_R_isToldSo : MethodName := ⟨"CarelessMistModel", "isToldSo", "(I)V"⟩
def y_R_text : MethodName := ⟨"CarelessMistModel", "text", "()I"⟩
def y_R_isSpot : MethodName := ⟨"CarelessMistModel", "isSpot", "(I)Z"⟩
def y_R_hold : MethodName := ⟨"CarelessMistModel", "hold", "(II)I"⟩
def y_R_as : MethodName := ⟨"CarelessMistModel", "as", "(II)I"⟩
def y_R_isSheet : MethodName := ⟨"CarelessMistModel", "isSheet", "(I)Z"⟩
def y_R_cutTo : MethodName := ⟨"CarelessMistModel", "cutTo", "(II)I"⟩
def y_R_sheet : MethodName := ⟨"CarelessMistModel", "sheet", "(III)I"⟩
def y_R_write : MethodName := ⟨"CarelessMistModel", "write", "(III)I"⟩
def y_R_copy : MethodName := ⟨"CarelessMistModel", "copy", "(IIIII)I"⟩
def y_R_above : MethodName := ⟨"CarelessMistModel", "above", "(I)I"⟩
def y_R_isUnder : MethodName := ⟨"CarelessMistModel", "isUnder", "(II)Z"⟩
def y_R_load : MethodName := ⟨"CarelessMistModel", "load", "(I)I"⟩
def y_R_judge : MethodName := ⟨"CarelessMistModel", "judge", "(I)I"⟩
def y_R_image : MethodName := ⟨"CarelessMistModel", "image", "()I"⟩
def y_R_undo : MethodName := ⟨"CarelessMistModel", "undo", "()I"⟩
def y_R_tear : MethodName := ⟨"CarelessMistModel", "tear", "()I"⟩
def y_R_count : MethodName := ⟨"CarelessMistModel", "count", "(I)I"⟩
def y_R_status : MethodName := ⟨"CarelessMistModel", "status", "(I)I"⟩
def y_Ji_bitCount : MethodName := ⟨"java/lang/Integer", "bitCount", "(I)I"⟩
def y_Jm_abs : MethodName := ⟨"java/lang/Math", "abs", "(I)I"⟩
def y_Jm_max : MethodName := ⟨"java/lang/Math", "max", "(II)I"⟩
def y_Jm_min : MethodName := ⟨"java/lang/Math", "min", "(II)I"⟩
def y_Js_length : MethodName := ⟨"java/lang/String", "length", "()I"⟩
def y_Js_charAt : MethodName := ⟨"java/lang/String", "charAt", "(I)C"⟩
def y_Js_coder : MethodName := ⟨"java/lang/String", "coder", "()B"⟩
def y_Js_isLatin1 : MethodName := ⟨"java/lang/String", "isLatin1", "()Z"⟩
def y_Js_checkIndex : MethodName := ⟨"java/lang/String", "checkIndex", "(II)V"⟩
def y_Jl_charAt : MethodName := ⟨"java/lang/StringLatin1", "charAt", "([BI)C"⟩
def y_Ju_getChar : MethodName := ⟨"java/lang/StringUTF16", "getChar", "([BI)C"⟩
def y_Ju_length : MethodName := ⟨"java/lang/StringUTF16", "length", "([B)I"⟩
def y_Ju_charAt : MethodName := ⟨"java/lang/StringUTF16", "charAt", "([BI)C"⟩
def y_Ju_checkIndex : MethodName := ⟨"java/lang/StringUTF16", "checkIndex", "(I[B)V"⟩
def y_Ja_fill : MethodName := ⟨"java/util/Arrays", "fill", "([II)V"⟩
def y_Jp_checkIndex : MethodName := ⟨"jdk/internal/util/Preconditions", "checkIndex", "(IILjava/util/function/BiFunction;)I"⟩
theorem mw_74 : (.initialized "java/lang/System" : Cond) ∈ qTB := qTB_in (i := 74) (by decide +kernel) rfl
theorem mw_82 : (.methodLink "CarelessMistLaw" 9 y_X_init : Cond) ∈ qTB := qTB_in (i := 82) (by decide +kernel) rfl
theorem mw_85 : (.methodLink "CarelessMist" 3 ⟨"java/lang/Object", "<init>", "()V"⟩ : Cond) ∈ qTB := qTB_in (i := 85) (by decide +kernel) rfl
theorem mw_90 : (.methodLink "CarelessMist" 11 y_Cm_init : Cond) ∈ qTB := qTB_in (i := 90) (by decide +kernel) rfl
theorem mw_93 : (.methodLink "CarelessMist$Common" 3 ⟨"java/lang/Object", "<init>", "()V"⟩ : Cond) ∈ qTB := qTB_in (i := 93) (by decide +kernel) rfl
theorem mw_96 : (.methodLink "CarelessMist$Common" 39 y_Ja_fill : Cond) ∈ qTB := qTB_in (i := 96) (by decide +kernel) rfl
theorem mw_99 : (.fieldLink "CarelessMist$Common" 9 "CarelessMist$Common" "list" "[I" : Cond) ∈ qTB := qTB_in (i := 99) (by decide +kernel) rfl
theorem mw_100 : (.fieldLink "CarelessMist" 53 "CarelessMist$Common" "list" "[I" : Cond) ∈ qTB := qTB_in (i := 100) (by decide +kernel) rfl
theorem mw_101 : (.fieldLink "CarelessMist$Tape" 97 "CarelessMist$Common" "list" "[I" : Cond) ∈ qTB := qTB_in (i := 101) (by decide +kernel) rfl
theorem mw_102 : (.fieldLink "CarelessMist$Common" 17 "CarelessMist$Common" "things" "[[I" : Cond) ∈ qTB := qTB_in (i := 102) (by decide +kernel) rfl
theorem mw_103 : (.fieldLink "CarelessMist" 78 "CarelessMist$Common" "things" "[[I" : Cond) ∈ qTB := qTB_in (i := 103) (by decide +kernel) rfl
theorem mw_104 : (.fieldLink "CarelessMist$Common" 20 "CarelessMist$Common" "walkers" "[[I" : Cond) ∈ qTB := qTB_in (i := 104) (by decide +kernel) rfl
theorem mw_105 : (.fieldLink "CarelessMist$Tape" 76 "CarelessMist$Common" "walkers" "[[I" : Cond) ∈ qTB := qTB_in (i := 105) (by decide +kernel) rfl
theorem mw_106 : (.fieldLink "CarelessMist" 100 "CarelessMist$Common" "walkers" "[[I" : Cond) ∈ qTB := qTB_in (i := 106) (by decide +kernel) rfl
theorem mw_107 : (.fieldLink "CarelessMist$Common" 23 "CarelessMist$Common" "spots" "[I" : Cond) ∈ qTB := qTB_in (i := 107) (by decide +kernel) rfl
theorem mw_108 : (.fieldLink "CarelessMist" 189 "CarelessMist$Common" "spots" "[I" : Cond) ∈ qTB := qTB_in (i := 108) (by decide +kernel) rfl
theorem mw_109 : (.fieldLink "CarelessMist$Common" 26 "CarelessMist$Common" "thingCount" "I" : Cond) ∈ qTB := qTB_in (i := 109) (by decide +kernel) rfl
theorem mw_110 : (.fieldLink "CarelessMist" 59 "CarelessMist$Common" "thingCount" "I" : Cond) ∈ qTB := qTB_in (i := 110) (by decide +kernel) rfl
theorem mw_111 : (.fieldLink "CarelessMist$Tape" 60 "CarelessMist$Common" "thingCount" "I" : Cond) ∈ qTB := qTB_in (i := 111) (by decide +kernel) rfl
theorem mw_112 : (.fieldLink "CarelessMist$Common" 30 "CarelessMist$Common" "walkerCount" "I" : Cond) ∈ qTB := qTB_in (i := 112) (by decide +kernel) rfl
theorem mw_113 : (.fieldLink "CarelessMist" 68 "CarelessMist$Common" "walkerCount" "I" : Cond) ∈ qTB := qTB_in (i := 113) (by decide +kernel) rfl
theorem mw_114 : (.fieldLink "CarelessMist$Tape" 73 "CarelessMist$Common" "walkerCount" "I" : Cond) ∈ qTB := qTB_in (i := 114) (by decide +kernel) rfl
theorem mw_115 : (.fieldLink "CarelessMist$Common" 33 "CarelessMist$Common" "day" "I" : Cond) ∈ qTB := qTB_in (i := 115) (by decide +kernel) rfl
theorem mw_116 : (.fieldLink "CarelessMist" 87 "CarelessMist$Common" "day" "I" : Cond) ∈ qTB := qTB_in (i := 116) (by decide +kernel) rfl
theorem mw_117 : (.fieldLink "CarelessMist$Common" 36 "CarelessMist$Common" "z" "I" : Cond) ∈ qTB := qTB_in (i := 117) (by decide +kernel) rfl
theorem mw_118 : (.fieldLink "CarelessMist" 175 "CarelessMist$Common" "z" "I" : Cond) ∈ qTB := qTB_in (i := 118) (by decide +kernel) rfl
theorem mw_142 : (.methodLink "CarelessMist$Tape" 3 ⟨"java/lang/Object", "<init>", "()V"⟩ : Cond) ∈ qTB := qTB_in (i := 142) (by decide +kernel) rfl
theorem mw_143 : (.fieldLink "CarelessMist$Tape" 9 "CarelessMist$Tape" "bytes" "[I" : Cond) ∈ qTB := qTB_in (i := 143) (by decide +kernel) rfl
theorem mw_144 : (.fieldLink "CarelessMist$Tape" 15 "CarelessMist$Tape" "length" "I" : Cond) ∈ qTB := qTB_in (i := 144) (by decide +kernel) rfl
theorem mw_145 : (.fieldLink "CarelessMist" 178 "CarelessMist$Tape" "length" "I" : Cond) ∈ qTB := qTB_in (i := 145) (by decide +kernel) rfl
theorem mw_146 : (.fieldLink "CarelessMist$Tape" 19 "CarelessMist$Tape" "next" "I" : Cond) ∈ qTB := qTB_in (i := 146) (by decide +kernel) rfl
theorem mw_147 : (.fieldLink "CarelessMist$Tape" 22 "CarelessMist$Tape" "token" "I" : Cond) ∈ qTB := qTB_in (i := 147) (by decide +kernel) rfl
theorem mw_148 : (.fieldLink "CarelessMist$Tape" 25 "CarelessMist$Tape" "start" "I" : Cond) ∈ qTB := qTB_in (i := 148) (by decide +kernel) rfl
theorem mw_149 : (.fieldLink "CarelessMist$Tape" 28 "CarelessMist$Tape" "number" "I" : Cond) ∈ qTB := qTB_in (i := 149) (by decide +kernel) rfl
theorem mw_169 : (.methodLink "CarelessMist$Sheet" 3 ⟨"java/lang/Object", "<init>", "()V"⟩ : Cond) ∈ qTB := qTB_in (i := 169) (by decide +kernel) rfl
theorem mw_170 : (.fieldLink "CarelessMist$Sheet" 9 "CarelessMist$Sheet" "numbers" "[I" : Cond) ∈ qTB := qTB_in (i := 170) (by decide +kernel) rfl
theorem mw_171 : (.fieldLink "CarelessMist" 213 "CarelessMist$Sheet" "numbers" "[I" : Cond) ∈ qTB := qTB_in (i := 171) (by decide +kernel) rfl
theorem mw_172 : (.fieldLink "CarelessMist$Sheet" 15 "CarelessMist$Sheet" "bits" "I" : Cond) ∈ qTB := qTB_in (i := 172) (by decide +kernel) rfl
theorem mw_173 : (.fieldLink "CarelessMist" 207 "CarelessMist$Sheet" "bits" "I" : Cond) ∈ qTB := qTB_in (i := 173) (by decide +kernel) rfl
theorem mw_174 : (.fieldLink "CarelessMist$Sheet" 19 "CarelessMist$Sheet" "size" "I" : Cond) ∈ qTB := qTB_in (i := 174) (by decide +kernel) rfl
theorem mw_175 : (.fieldLink "CarelessMist" 201 "CarelessMist$Sheet" "size" "I" : Cond) ∈ qTB := qTB_in (i := 175) (by decide +kernel) rfl
theorem mw_183 : (.fieldLink "CarelessMist" 12 "CarelessMist" "common" "LCarelessMist$Common;" : Cond) ∈ qTB := qTB_in (i := 183) (by decide +kernel) rfl
theorem mw_184 : (.fieldLink "CarelessMist" 16 "CarelessMist" "kept" "LCarelessMist$Common;" : Cond) ∈ qTB := qTB_in (i := 184) (by decide +kernel) rfl
theorem mw_185 : (.fieldLink "CarelessMist" 19 "CarelessMist" "trial" "LCarelessMist$Common;" : Cond) ∈ qTB := qTB_in (i := 185) (by decide +kernel) rfl
theorem mw_186 : (.fieldLink "CarelessMist" 22 "CarelessMist" "isKept" "Z" : Cond) ∈ qTB := qTB_in (i := 186) (by decide +kernel) rfl
theorem mw_187 : (.fieldLink "CarelessMist" 29 "CarelessMist" "tape" "LCarelessMist$Tape;" : Cond) ∈ qTB := qTB_in (i := 187) (by decide +kernel) rfl
theorem mw_188 : (.fieldLink "CarelessMist" 35 "CarelessMist" "sheets" "[LCarelessMist$Sheet;" : Cond) ∈ qTB := qTB_in (i := 188) (by decide +kernel) rfl
theorem mw_189 : (.fieldLink "CarelessMist" 40 "CarelessMist" "findings" "[I" : Cond) ∈ qTB := qTB_in (i := 189) (by decide +kernel) rfl
theorem mw_205 : (.methodLink "CarelessMistLaw" 13 y_X_turn : Cond) ∈ qTB := qTB_in (i := 205) (by decide +kernel) rfl
theorem mw_209 : (.methodLink "CarelessMist" 44 y_X_within : Cond) ∈ qTB := qTB_in (i := 209) (by decide +kernel) rfl
theorem mw_212 : (.constant "CarelessMist" 48 (-1000001) : Cond) ∈ qTB := qTB_in (i := 212) (by decide +kernel) rfl
theorem mw_213 : (.methodLink "CarelessMist" 49 y_X_told : Cond) ∈ qTB := qTB_in (i := 213) (by decide +kernel) rfl
theorem mw_217 : (.methodLink "CarelessMistLaw" 18 y_X_listed : Cond) ∈ qTB := qTB_in (i := 217) (by decide +kernel) rfl
theorem mw_221 : (.methodLink "CarelessMistLaw" 23 y_X_thing : Cond) ∈ qTB := qTB_in (i := 221) (by decide +kernel) rfl
theorem mw_225 : (.fieldLink "CarelessMist" 56 "CarelessMist" "MOST_OF_THING" "[I" : Cond) ∈ qTB := qTB_in (i := 225) (by decide +kernel) rfl
theorem mw_227 : (.constant "CarelessMist" 63 (-1000002) : Cond) ∈ qTB := qTB_in (i := 227) (by decide +kernel) rfl
theorem mw_228 : (.methodLink "CarelessMist" 64 y_Cm_addThing : Cond) ∈ qTB := qTB_in (i := 228) (by decide +kernel) rfl
theorem mw_232 : (.methodLink "CarelessMistLaw" 28 y_X_walker : Cond) ∈ qTB := qTB_in (i := 232) (by decide +kernel) rfl
theorem mw_236 : (.methodLink "CarelessMist" 71 y_Cm_addWalker : Cond) ∈ qTB := qTB_in (i := 236) (by decide +kernel) rfl
theorem mw_240 : (.methodLink "CarelessMistLaw" 32 y_X_of : Cond) ∈ qTB := qTB_in (i := 240) (by decide +kernel) rfl
theorem mw_244 : (.methodLink "CarelessMist" 74 y_Cm_hasThing : Cond) ∈ qTB := qTB_in (i := 244) (by decide +kernel) rfl
theorem mw_248 : (.methodLink "CarelessMist" 82 y_Kd_clear : Cond) ∈ qTB := qTB_in (i := 248) (by decide +kernel) rfl
theorem mw_251 : (.methodLink "CarelessMist" 90 y_Kd_dim : Cond) ∈ qTB := qTB_in (i := 251) (by decide +kernel) rfl
theorem mw_254 : (.methodLink "CarelessMist" 94 y_Kd_moves : Cond) ∈ qTB := qTB_in (i := 254) (by decide +kernel) rfl
theorem mw_257 : (.methodLink "CarelessMistLaw" 36 y_X_change : Cond) ∈ qTB := qTB_in (i := 257) (by decide +kernel) rfl
theorem mw_261 : (.methodLink "CarelessMistLaw" 40 y_X_ofWalker : Cond) ∈ qTB := qTB_in (i := 261) (by decide +kernel) rfl
theorem mw_265 : (.methodLink "CarelessMist" 97 y_Cm_hasWalker : Cond) ∈ qTB := qTB_in (i := 265) (by decide +kernel) rfl
theorem mw_269 : (.methodLink "CarelessMistLaw" 44 y_X_lead : Cond) ∈ qTB := qTB_in (i := 269) (by decide +kernel) rfl
theorem mw_273 : (.fieldLink "CarelessMist" 103 "CarelessMist" "LEAST_OF_WALKER" "[I" : Cond) ∈ qTB := qTB_in (i := 273) (by decide +kernel) rfl
theorem mw_275 : (.fieldLink "CarelessMist" 106 "CarelessMist" "MOST_OF_WALKER" "[I" : Cond) ∈ qTB := qTB_in (i := 275) (by decide +kernel) rfl
theorem mw_277 : (.methodLink "CarelessMistLaw" 48 y_X_sees : Cond) ∈ qTB := qTB_in (i := 277) (by decide +kernel) rfl
theorem mw_281 : (.methodLink "CarelessMist" 109 y_Cm_canSee : Cond) ∈ qTB := qTB_in (i := 281) (by decide +kernel) rfl
theorem mw_285 : (.methodLink "CarelessMist$Common" 52 y_Kd_dim : Cond) ∈ qTB := qTB_in (i := 285) (by decide +kernel) rfl
theorem mw_286 : (.methodLink "CarelessMist$Common" 58 y_Kd_clear : Cond) ∈ qTB := qTB_in (i := 286) (by decide +kernel) rfl
theorem mw_287 : (.methodLink "CarelessMist$Common" 62 y_Jm_abs : Cond) ∈ qTB := qTB_in (i := 287) (by decide +kernel) rfl
theorem mw_290 : (.methodLink "CarelessMistLaw" 52 y_X_seenBy : Cond) ∈ qTB := qTB_in (i := 290) (by decide +kernel) rfl
theorem mw_294 : (.methodLink "CarelessMist" 113 y_Cm_seersOf : Cond) ∈ qTB := qTB_in (i := 294) (by decide +kernel) rfl
theorem mw_298 : (.methodLink "CarelessMist$Common" 67 y_Cm_canSee : Cond) ∈ qTB := qTB_in (i := 298) (by decide +kernel) rfl
theorem mw_299 : (.methodLink "CarelessMistLaw" 56 y_X_go : Cond) ∈ qTB := qTB_in (i := 299) (by decide +kernel) rfl
theorem mw_303 : (.constant "CarelessMist" 116 99999 : Cond) ∈ qTB := qTB_in (i := 303) (by decide +kernel) rfl
theorem mw_304 : (.constant "CarelessMist" 117 (-1000005) : Cond) ∈ qTB := qTB_in (i := 304) (by decide +kernel) rfl
theorem mw_305 : (.methodLink "CarelessMist" 118 y_Cm_passDay : Cond) ∈ qTB := qTB_in (i := 305) (by decide +kernel) rfl
theorem mw_309 : (.methodLink "CarelessMist$Common" 71 y_Cm_takeTurn : Cond) ∈ qTB := qTB_in (i := 309) (by decide +kernel) rfl
theorem mw_313 : (.methodLink "CarelessMist$Common" 94 y_Cm_hasWalker : Cond) ∈ qTB := qTB_in (i := 313) (by decide +kernel) rfl
theorem mw_314 : (.methodLink "CarelessMist$Common" 75 y_Cm_hasThing : Cond) ∈ qTB := qTB_in (i := 314) (by decide +kernel) rfl
theorem mw_315 : (.methodLink "CarelessMist$Common" 79 y_Cm_findsWay : Cond) ∈ qTB := qTB_in (i := 315) (by decide +kernel) rfl
theorem mw_319 : (.methodLink "CarelessMist$Common" 82 y_Cm_walk : Cond) ∈ qTB := qTB_in (i := 319) (by decide +kernel) rfl
theorem mw_323 : (.methodLink "CarelessMist$Common" 91 y_Jm_min : Cond) ∈ qTB := qTB_in (i := 323) (by decide +kernel) rfl
theorem mw_326 : (.methodLink "CarelessMist$Common" 97 y_Jm_max : Cond) ∈ qTB := qTB_in (i := 326) (by decide +kernel) rfl
theorem mw_329 : (.methodLink "CarelessMist$Common" 100 y_Cm_arriveAt : Cond) ∈ qTB := qTB_in (i := 329) (by decide +kernel) rfl
theorem mw_333 : (.methodLink "CarelessMist$Common" 104 y_Kd_touches : Cond) ∈ qTB := qTB_in (i := 333) (by decide +kernel) rfl
theorem mw_336 : (.methodLink "CarelessMist$Common" 86 y_Kd_moves : Cond) ∈ qTB := qTB_in (i := 336) (by decide +kernel) rfl
theorem mw_337 : (.constant "CarelessMist$Common" 90 99999 : Cond) ∈ qTB := qTB_in (i := 337) (by decide +kernel) rfl
theorem mw_338 : (.methodLink "CarelessMist" 121 y_Cm_sumOf : Cond) ∈ qTB := qTB_in (i := 338) (by decide +kernel) rfl
theorem mw_342 : (.methodLink "CarelessMistLaw" 60 y_X_now : Cond) ∈ qTB := qTB_in (i := 342) (by decide +kernel) rfl
theorem mw_346 : (.methodLink "CarelessMist" 124 y_Cm_guidedWalkers : Cond) ∈ qTB := qTB_in (i := 346) (by decide +kernel) rfl
theorem mw_350 : (.methodLink "CarelessMist" 128 y_Cm_thingsCaredFor : Cond) ∈ qTB := qTB_in (i := 350) (by decide +kernel) rfl
theorem mw_354 : (.methodLink "CarelessMist" 131 y_Cm_cellsWithWalkers : Cond) ∈ qTB := qTB_in (i := 354) (by decide +kernel) rfl
theorem mw_358 : (.methodLink "CarelessMist" 134 y_Cm_cellsWithThings : Cond) ∈ qTB := qTB_in (i := 358) (by decide +kernel) rfl
theorem mw_362 : (.methodLink "CarelessMist" 137 y_Cm_unseenThings : Cond) ∈ qTB := qTB_in (i := 362) (by decide +kernel) rfl
theorem mw_366 : (.methodLink "CarelessMist$Common" 108 y_Cm_seersOf : Cond) ∈ qTB := qTB_in (i := 366) (by decide +kernel) rfl
theorem mw_367 : (.methodLink "CarelessMistLaw" 64 y_X_ahead : Cond) ∈ qTB := qTB_in (i := 367) (by decide +kernel) rfl
theorem mw_371 : (.methodLink "CarelessMist" 140 y_Cm_become : Cond) ∈ qTB := qTB_in (i := 371) (by decide +kernel) rfl
theorem mw_375 : (.methodLink "CarelessMist$Common" 45 ⟨"java/lang/System", "arraycopy", "(Ljava/lang/Object;ILjava/lang/Object;II)V"⟩ : Cond) ∈ qTB := qTB_in (i := 375) (by decide +kernel) rfl
theorem mw_376 : (.static ⟨"java/lang/System", "arraycopy", "(Ljava/lang/Object;ILjava/lang/Object;II)V"⟩ : Cond) ∈ qTB := qTB_in (i := 376) (by decide +kernel) rfl
theorem mw_377 : (.native ⟨"java/lang/System", "arraycopy", "(Ljava/lang/Object;ILjava/lang/Object;II)V"⟩ : Cond) ∈ qTB := qTB_in (i := 377) (by decide +kernel) rfl
theorem mw_378 : (.methodLink "CarelessMist" 144 y_X_tryDays : Cond) ∈ qTB := qTB_in (i := 378) (by decide +kernel) rfl
theorem mw_382 : (.methodLink "CarelessMistLaw" 68 y_X_later : Cond) ∈ qTB := qTB_in (i := 382) (by decide +kernel) rfl
theorem mw_386 : (.methodLink "CarelessMistLaw" 72 y_X_arrives : Cond) ∈ qTB := qTB_in (i := 386) (by decide +kernel) rfl
theorem mw_390 : (.constant "CarelessMist" 148 (-1000004) : Cond) ∈ qTB := qTB_in (i := 390) (by decide +kernel) rfl
theorem mw_391 : (.methodLink "CarelessMistLaw" 76 y_X_spies : Cond) ∈ qTB := qTB_in (i := 391) (by decide +kernel) rfl
theorem mw_395 : (.methodLink "CarelessMistLaw" 80 y_X_meet : Cond) ∈ qTB := qTB_in (i := 395) (by decide +kernel) rfl
theorem mw_399 : (.methodLink "CarelessMistLaw" 84 y_X_startFor : Cond) ∈ qTB := qTB_in (i := 399) (by decide +kernel) rfl
theorem mw_403 : (.methodLink "CarelessMist" 149 y_X_bestForGot : Cond) ∈ qTB := qTB_in (i := 403) (by decide +kernel) rfl
theorem mw_407 : (.methodLink "CarelessMist" 152 y_X_gotWith : Cond) ∈ qTB := qTB_in (i := 407) (by decide +kernel) rfl
theorem mw_411 : (.methodLink "CarelessMistLaw" 88 y_X_aimFor : Cond) ∈ qTB := qTB_in (i := 411) (by decide +kernel) rfl
theorem mw_415 : (.methodLink "CarelessMistLaw" 92 y_X_kindFor : Cond) ∈ qTB := qTB_in (i := 415) (by decide +kernel) rfl
theorem mw_419 : (.methodLink "CarelessMistLaw" 96 y_X_paceFor : Cond) ∈ qTB := qTB_in (i := 419) (by decide +kernel) rfl
theorem mw_423 : (.methodLink "CarelessMistLaw" 100 y_X_giveUp : Cond) ∈ qTB := qTB_in (i := 423) (by decide +kernel) rfl
theorem mw_427 : (.methodLink "CarelessMist" 156 y_Ji_bitCount : Cond) ∈ qTB := qTB_in (i := 427) (by decide +kernel) rfl
theorem mw_430 : (.constant "java/lang/Integer" 265 1431655765 : Cond) ∈ qTB := qTB_in (i := 430) (by decide +kernel) rfl
theorem mw_431 : (.constant "java/lang/Integer" 266 858993459 : Cond) ∈ qTB := qTB_in (i := 431) (by decide +kernel) rfl
theorem mw_432 : (.constant "java/lang/Integer" 267 252645135 : Cond) ∈ qTB := qTB_in (i := 432) (by decide +kernel) rfl
theorem mw_433 : (.methodLink "CarelessMistLaw" 104 y_X_fits : Cond) ∈ qTB := qTB_in (i := 433) (by decide +kernel) rfl
theorem mw_437 : (.methodLink "CarelessMist" 161 y_X_lackOf : Cond) ∈ qTB := qTB_in (i := 437) (by decide +kernel) rfl
theorem mw_441 : (.constant "CarelessMist" 192 (-1000006) : Cond) ∈ qTB := qTB_in (i := 441) (by decide +kernel) rfl
theorem mw_442 : (.methodLink "CarelessMist" 164 y_X_goesAsTold : Cond) ∈ qTB := qTB_in (i := 442) (by decide +kernel) rfl
theorem mw_446 : (.methodLink "CarelessMistLaw" 108 y_X_kinds : Cond) ∈ qTB := qTB_in (i := 446) (by decide +kernel) rfl
theorem mw_450 : (.methodLink "CarelessMistLaw" 112 y_X_morning : Cond) ∈ qTB := qTB_in (i := 450) (by decide +kernel) rfl
theorem mw_454 : (.methodLink "CarelessMist" 168 y_Cm_draw : Cond) ∈ qTB := qTB_in (i := 454) (by decide +kernel) rfl
theorem mw_458 : (.constant "CarelessMist$Common" 51 1103515245 : Cond) ∈ qTB := qTB_in (i := 458) (by decide +kernel) rfl
theorem mw_459 : (.methodLink "CarelessMistLaw" 116 y_X_odds : Cond) ∈ qTB := qTB_in (i := 459) (by decide +kernel) rfl
theorem mw_463 : (.methodLink "CarelessMist" 171 y_X_power : Cond) ∈ qTB := qTB_in (i := 463) (by decide +kernel) rfl
theorem mw_466 : (.methodLink "CarelessMistLaw" 121 y_X_seed : Cond) ∈ qTB := qTB_in (i := 466) (by decide +kernel) rfl
theorem mw_470 : (.methodLink "CarelessMistLaw" 125 y_X_feed : Cond) ∈ qTB := qTB_in (i := 470) (by decide +kernel) rfl
theorem mw_474 : (.methodLink "CarelessMist" 181 y_Tp_append : Cond) ∈ qTB := qTB_in (i := 474) (by decide +kernel) rfl
theorem mw_478 : (.methodLink "CarelessMistLaw" 129 y_X_wipe : Cond) ∈ qTB := qTB_in (i := 478) (by decide +kernel) rfl
theorem mw_482 : (.methodLink "CarelessMistLaw" 134 y_X_text : Cond) ∈ qTB := qTB_in (i := 482) (by decide +kernel) rfl
theorem mw_486 : (.methodLink "CarelessMist" 185 y_Tp_readInto : Cond) ∈ qTB := qTB_in (i := 486) (by decide +kernel) rfl
theorem mw_490 : (.methodLink "CarelessMist$Tape" 31 y_Tp_step : Cond) ∈ qTB := qTB_in (i := 490) (by decide +kernel) rfl
theorem mw_494 : (.methodLink "CarelessMist$Tape" 128 y_Tp_isLetter : Cond) ∈ qTB := qTB_in (i := 494) (by decide +kernel) rfl
theorem mw_497 : (.methodLink "CarelessMist$Tape" 132 y_Tp_isDigit : Cond) ∈ qTB := qTB_in (i := 497) (by decide +kernel) rfl
theorem mw_500 : (.methodLink "CarelessMist$Tape" 135 y_Jm_min : Cond) ∈ qTB := qTB_in (i := 500) (by decide +kernel) rfl
theorem mw_501 : (.methodLink "CarelessMist$Tape" 34 y_Tp_readItem : Cond) ∈ qTB := qTB_in (i := 501) (by decide +kernel) rfl
theorem mw_506 : (.methodLink "CarelessMist$Tape" 40 y_Tp_isWord : Cond) ∈ qTB := qTB_in (i := 506) (by decide +kernel) rfl
theorem mw_510 : (.methodLink "CarelessMist$Tape" 116 y_Js_length : Cond) ∈ qTB := qTB_in (i := 510) (by decide +kernel) rfl
theorem mw_514 : (.methodLink "java/lang/String" 335 y_Js_coder : Cond) ∈ qTB := qTB_in (i := 514) (by decide +kernel) rfl
theorem mw_518 : (.fieldLink "java/lang/String" 38 "java/lang/String" "COMPACT_STRINGS" "Z" : Cond) ∈ qTB := qTB_in (i := 518) (by decide +kernel) rfl
theorem mw_520 : (.methodLink "CarelessMist$Tape" 120 y_Js_charAt : Cond) ∈ qTB := qTB_in (i := 520) (by decide +kernel) rfl
theorem mw_524 : (.methodLink "java/lang/String" 492 y_Js_isLatin1 : Cond) ∈ qTB := qTB_in (i := 524) (by decide +kernel) rfl
theorem mw_528 : (.methodLink "java/lang/String" 495 y_Jl_charAt : Cond) ∈ qTB := qTB_in (i := 528) (by decide +kernel) rfl
theorem mw_531 : (.methodLink "java/lang/StringLatin1" 9 y_Js_checkIndex : Cond) ∈ qTB := qTB_in (i := 531) (by decide +kernel) rfl
theorem mw_534 : (.fieldLink "java/lang/String" 1053 "jdk/internal/util/Preconditions" "SIOOBE_FORMATTER" "Ljava/util/function/BiFunction;" : Cond) ∈ qTB := qTB_in (i := 534) (by decide +kernel) rfl
theorem mw_536 : (.methodLink "java/lang/String" 1059 y_Jp_checkIndex : Cond) ∈ qTB := qTB_in (i := 536) (by decide +kernel) rfl
theorem mw_539 : (.methodLink "java/lang/String" 498 y_Ju_charAt : Cond) ∈ qTB := qTB_in (i := 539) (by decide +kernel) rfl
theorem mw_542 : (.methodLink "java/lang/StringUTF16" 67 y_Ju_checkIndex : Cond) ∈ qTB := qTB_in (i := 542) (by decide +kernel) rfl
theorem mw_545 : (.methodLink "java/lang/StringUTF16" 48 y_Ju_length : Cond) ∈ qTB := qTB_in (i := 545) (by decide +kernel) rfl
theorem mw_548 : (.methodLink "java/lang/StringUTF16" 414 y_Js_checkIndex : Cond) ∈ qTB := qTB_in (i := 548) (by decide +kernel) rfl
theorem mw_549 : (.methodLink "java/lang/StringUTF16" 71 y_Ju_getChar : Cond) ∈ qTB := qTB_in (i := 549) (by decide +kernel) rfl
theorem mw_552 : (.fieldLink "java/lang/StringUTF16" 44 "java/lang/StringUTF16" "$assertionsDisabled" "Z" : Cond) ∈ qTB := qTB_in (i := 552) (by decide +kernel) rfl
theorem mw_554 : (.fieldLink "java/lang/StringUTF16" 59 "java/lang/StringUTF16" "HI_BYTE_SHIFT" "I" : Cond) ∈ qTB := qTB_in (i := 554) (by decide +kernel) rfl
theorem mw_556 : (.fieldLink "java/lang/StringUTF16" 63 "java/lang/StringUTF16" "LO_BYTE_SHIFT" "I" : Cond) ∈ qTB := qTB_in (i := 556) (by decide +kernel) rfl
theorem mw_558 : (.methodLink "CarelessMist$Tape" 44 y_Tp_readWalker : Cond) ∈ qTB := qTB_in (i := 558) (by decide +kernel) rfl
theorem mw_562 : (.methodLink "CarelessMist$Tape" 65 y_Tp_isNumber : Cond) ∈ qTB := qTB_in (i := 562) (by decide +kernel) rfl
theorem mw_567 : (.methodLink "CarelessMist$Tape" 80 y_Cm_addWalker : Cond) ∈ qTB := qTB_in (i := 567) (by decide +kernel) rfl
theorem mw_569 : (.methodLink "CarelessMist$Tape" 85 y_Tp_readPerhaps : Cond) ∈ qTB := qTB_in (i := 569) (by decide +kernel) rfl
theorem mw_577 : (.methodLink "CarelessMist$Tape" 49 y_Tp_readTurn : Cond) ∈ qTB := qTB_in (i := 577) (by decide +kernel) rfl
theorem mw_581 : (.methodLink "CarelessMist$Tape" 52 y_Tp_kindOfWord : Cond) ∈ qTB := qTB_in (i := 581) (by decide +kernel) rfl
theorem mw_592 : (.methodLink "CarelessMist$Tape" 56 y_Tp_readThing : Cond) ∈ qTB := qTB_in (i := 592) (by decide +kernel) rfl
theorem mw_596 : (.methodLink "CarelessMist$Tape" 69 y_Cm_addThing : Cond) ∈ qTB := qTB_in (i := 596) (by decide +kernel) rfl
theorem mw_598 : (.methodLink "CarelessMistLaw" 138 y_X_hold : Cond) ∈ qTB := qTB_in (i := 598) (by decide +kernel) rfl
theorem mw_602 : (.methodLink "CarelessMistLaw" 142 y_X_as : Cond) ∈ qTB := qTB_in (i := 602) (by decide +kernel) rfl
theorem mw_606 : (.methodLink "CarelessMist" 193 y_Kd_isUnder : Cond) ∈ qTB := qTB_in (i := 606) (by decide +kernel) rfl
theorem mw_609 : (.fieldLink "CarelessMist$Kinds" 9 "CarelessMist$Kinds" "UNDER" "[I" : Cond) ∈ qTB := qTB_in (i := 609) (by decide +kernel) rfl
theorem mw_611 : (.constant "CarelessMist" 196 (-1000003) : Cond) ∈ qTB := qTB_in (i := 611) (by decide +kernel) rfl
theorem mw_612 : (.methodLink "CarelessMistLaw" 146 y_X_sheet : Cond) ∈ qTB := qTB_in (i := 612) (by decide +kernel) rfl
theorem mw_616 : (.constant "CarelessMist" 197 (-1000007) : Cond) ∈ qTB := qTB_in (i := 616) (by decide +kernel) rfl
theorem mw_617 : (.methodLink "CarelessMist" 198 y_Sh_begin : Cond) ∈ qTB := qTB_in (i := 617) (by decide +kernel) rfl
theorem mw_621 : (.methodLink "CarelessMist$Sheet" 22 y_Ja_fill : Cond) ∈ qTB := qTB_in (i := 621) (by decide +kernel) rfl
theorem mw_622 : (.methodLink "CarelessMistLaw" 150 y_X_write : Cond) ∈ qTB := qTB_in (i := 622) (by decide +kernel) rfl
theorem mw_626 : (.methodLink "CarelessMist" 204 y_Sh_put : Cond) ∈ qTB := qTB_in (i := 626) (by decide +kernel) rfl
theorem mw_630 : (.methodLink "CarelessMistLaw" 154 y_X_copy : Cond) ∈ qTB := qTB_in (i := 630) (by decide +kernel) rfl
theorem mw_634 : (.methodLink "CarelessMist" 210 y_Sh_has : Cond) ∈ qTB := qTB_in (i := 634) (by decide +kernel) rfl
theorem mw_638 : (.methodLink "CarelessMist" 216 ⟨"java/lang/System", "arraycopy", "(Ljava/lang/Object;ILjava/lang/Object;II)V"⟩ : Cond) ∈ qTB := qTB_in (i := 638) (by decide +kernel) rfl
theorem mw_639 : (.methodLink "CarelessMistLaw" 159 y_X_load : Cond) ∈ qTB := qTB_in (i := 639) (by decide +kernel) rfl
theorem mw_643 : (.methodLink "CarelessMistLaw" 163 y_X_judge : Cond) ∈ qTB := qTB_in (i := 643) (by decide +kernel) rfl
theorem mw_647 : (.methodLink "CarelessMistLaw" 167 y_X_image : Cond) ∈ qTB := qTB_in (i := 647) (by decide +kernel) rfl
theorem mw_651 : (.methodLink "CarelessMistLaw" 171 y_X_undo : Cond) ∈ qTB := qTB_in (i := 651) (by decide +kernel) rfl
theorem mw_655 : (.methodLink "CarelessMistLaw" 175 y_X_tear : Cond) ∈ qTB := qTB_in (i := 655) (by decide +kernel) rfl
theorem mw_659 : (.methodLink "CarelessMistLaw" 179 y_X_count : Cond) ∈ qTB := qTB_in (i := 659) (by decide +kernel) rfl
theorem mw_663 : (.methodLink "CarelessMist" 222 y_Cm_heldSpots : Cond) ∈ qTB := qTB_in (i := 663) (by decide +kernel) rfl
theorem mw_667 : (.methodLink "CarelessMistLaw" 183 y_X_status : Cond) ∈ qTB := qTB_in (i := 667) (by decide +kernel) rfl
theorem mw_673 : (.methodLink "CarelessMistLaw" 12 y_R_init : Cond) ∈ qTB := qTB_in (i := 673) (by decide +kernel) rfl
theorem mw_676 : (.methodLink "CarelessMistModel" 1 ⟨"java/lang/Object", "<init>", "()V"⟩ : Cond) ∈ qTB := qTB_in (i := 676) (by decide +kernel) rfl
theorem mw_686 : (.fieldLink "CarelessMistModel" 9 "CarelessMistModel" "now" "[I" : Cond) ∈ qTB := qTB_in (i := 686) (by decide +kernel) rfl
theorem mw_687 : (.fieldLink "CarelessMistModel" 13 "CarelessMistModel" "kept" "[I" : Cond) ∈ qTB := qTB_in (i := 687) (by decide +kernel) rfl
theorem mw_688 : (.fieldLink "CarelessMistModel" 16 "CarelessMistModel" "aside" "[I" : Cond) ∈ qTB := qTB_in (i := 688) (by decide +kernel) rfl
theorem mw_689 : (.fieldLink "CarelessMistModel" 344 "CarelessMistModel" "isKept" "Z" : Cond) ∈ qTB := qTB_in (i := 689) (by decide +kernel) rfl
theorem mw_690 : (.fieldLink "CarelessMistModel" 19 "CarelessMistModel" "found" "[I" : Cond) ∈ qTB := qTB_in (i := 690) (by decide +kernel) rfl
theorem mw_691 : (.fieldLink "CarelessMistModel" 22 "CarelessMistModel" "tape" "[I" : Cond) ∈ qTB := qTB_in (i := 691) (by decide +kernel) rfl
theorem mw_692 : (.fieldLink "CarelessMistModel" 251 "CarelessMistModel" "taped" "I" : Cond) ∈ qTB := qTB_in (i := 692) (by decide +kernel) rfl
theorem mw_693 : (.fieldLink "CarelessMistModel" 258 "CarelessMistModel" "begins" "I" : Cond) ∈ qTB := qTB_in (i := 693) (by decide +kernel) rfl
theorem mw_694 : (.fieldLink "CarelessMistModel" 255 "CarelessMistModel" "ends" "I" : Cond) ∈ qTB := qTB_in (i := 694) (by decide +kernel) rfl
theorem mw_695 : (.fieldLink "CarelessMistModel" 267 "CarelessMistModel" "sort" "I" : Cond) ∈ qTB := qTB_in (i := 695) (by decide +kernel) rfl
theorem mw_696 : (.fieldLink "CarelessMistModel" 264 "CarelessMistModel" "value" "I" : Cond) ∈ qTB := qTB_in (i := 696) (by decide +kernel) rfl
theorem mw_697 : (.fieldLink "CarelessMistModel" 277 "CarelessMistModel" "isWrong" "Z" : Cond) ∈ qTB := qTB_in (i := 697) (by decide +kernel) rfl
theorem mw_698 : (.fieldLink "CarelessMistModel" 41 "CarelessMistModel" "kindNames" "[Ljava/lang/String;" : Cond) ∈ qTB := qTB_in (i := 698) (by decide +kernel) rfl
theorem mw_699 : (.fieldLink "CarelessMistModel" 45 "CarelessMistModel" "items" "[I" : Cond) ∈ qTB := qTB_in (i := 699) (by decide +kernel) rfl
theorem mw_700 : (.fieldLink "CarelessMistModel" 288 "CarelessMistModel" "itemMany" "I" : Cond) ∈ qTB := qTB_in (i := 700) (by decide +kernel) rfl
theorem mw_701 : (.fieldLink "CarelessMistModel" 295 "CarelessMistModel" "thingsThen" "I" : Cond) ∈ qTB := qTB_in (i := 701) (by decide +kernel) rfl
theorem mw_702 : (.fieldLink "CarelessMistModel" 305 "CarelessMistModel" "walkersThen" "I" : Cond) ∈ qTB := qTB_in (i := 702) (by decide +kernel) rfl
theorem mw_703 : (.fieldLink "CarelessMistModel" 48 "CarelessMistModel" "widths" "[I" : Cond) ∈ qTB := qTB_in (i := 703) (by decide +kernel) rfl
theorem mw_704 : (.fieldLink "CarelessMistModel" 51 "CarelessMistModel" "sizes" "[I" : Cond) ∈ qTB := qTB_in (i := 704) (by decide +kernel) rfl
theorem mw_705 : (.fieldLink "CarelessMistModel" 54 "CarelessMistModel" "numbers" "[I" : Cond) ∈ qTB := qTB_in (i := 705) (by decide +kernel) rfl
theorem mw_706 : (.fieldLink "CarelessMistModel" 57 "CarelessMistModel" "moved" "[I" : Cond) ∈ qTB := qTB_in (i := 706) (by decide +kernel) rfl
theorem mw_750 : (.methodLink "CarelessMistLaw" 17 y_R_turn : Cond) ∈ qTB := qTB_in (i := 750) (by decide +kernel) rfl
theorem mw_754 : (.methodLink "CarelessMistModel" 74 y_R_isPlace : Cond) ∈ qTB := qTB_in (i := 754) (by decide +kernel) rfl
theorem mw_757 : (.methodLink "CarelessMistModel" 70 y_R_within : Cond) ∈ qTB := qTB_in (i := 757) (by decide +kernel) rfl
theorem mw_760 : (.methodLink "CarelessMistModel" 78 y_R_isAim : Cond) ∈ qTB := qTB_in (i := 760) (by decide +kernel) rfl
theorem mw_763 : (.methodLink "CarelessMistModel" 81 y_R_become : Cond) ∈ qTB := qTB_in (i := 763) (by decide +kernel) rfl
theorem mw_767 : (.constant "CarelessMistModel" 60 (-1000001) : Cond) ∈ qTB := qTB_in (i := 767) (by decide +kernel) rfl
theorem mw_768 : (.methodLink "CarelessMistModel" 66 y_R_finding : Cond) ∈ qTB := qTB_in (i := 768) (by decide +kernel) rfl
theorem mw_772 : (.methodLink "CarelessMistLaw" 22 y_R_listed : Cond) ∈ qTB := qTB_in (i := 772) (by decide +kernel) rfl
theorem mw_776 : (.methodLink "CarelessMistLaw" 27 y_R_thing : Cond) ∈ qTB := qTB_in (i := 776) (by decide +kernel) rfl
theorem mw_780 : (.methodLink "CarelessMistModel" 91 y_R_isKind : Cond) ∈ qTB := qTB_in (i := 780) (by decide +kernel) rfl
theorem mw_783 : (.methodLink "CarelessMistModel" 94 y_R_isCell : Cond) ∈ qTB := qTB_in (i := 783) (by decide +kernel) rfl
theorem mw_786 : (.constant "CarelessMistModel" 97 (-1000002) : Cond) ∈ qTB := qTB_in (i := 786) (by decide +kernel) rfl
theorem mw_787 : (.methodLink "CarelessMistModel" 98 y_R_comes : Cond) ∈ qTB := qTB_in (i := 787) (by decide +kernel) rfl
theorem mw_791 : (.methodLink "CarelessMistModel" 85 y_R_thingAt : Cond) ∈ qTB := qTB_in (i := 791) (by decide +kernel) rfl
theorem mw_794 : (.methodLink "CarelessMistLaw" 31 y_R_walker : Cond) ∈ qTB := qTB_in (i := 794) (by decide +kernel) rfl
theorem mw_798 : (.methodLink "CarelessMistModel" 101 y_R_setsOut : Cond) ∈ qTB := qTB_in (i := 798) (by decide +kernel) rfl
theorem mw_802 : (.methodLink "CarelessMistModel" 88 y_R_walkerAt : Cond) ∈ qTB := qTB_in (i := 802) (by decide +kernel) rfl
theorem mw_805 : (.methodLink "CarelessMistLaw" 35 y_R_of : Cond) ∈ qTB := qTB_in (i := 805) (by decide +kernel) rfl
theorem mw_809 : (.methodLink "CarelessMistModel" 116 y_R_isThing : Cond) ∈ qTB := qTB_in (i := 809) (by decide +kernel) rfl
theorem mw_813 : (.methodLink "CarelessMistModel" 119 y_R_told : Cond) ∈ qTB := qTB_in (i := 813) (by decide +kernel) rfl
theorem mw_817 : (.methodLink "CarelessMistModel" 107 y_R_clear : Cond) ∈ qTB := qTB_in (i := 817) (by decide +kernel) rfl
theorem mw_821 : (.methodLink "CarelessMistModel" 104 y_R_thingIs : Cond) ∈ qTB := qTB_in (i := 821) (by decide +kernel) rfl
theorem mw_825 : (.methodLink "CarelessMistModel" 110 y_R_dim : Cond) ∈ qTB := qTB_in (i := 825) (by decide +kernel) rfl
theorem mw_829 : (.methodLink "CarelessMistModel" 113 y_R_moves : Cond) ∈ qTB := qTB_in (i := 829) (by decide +kernel) rfl
theorem mw_833 : (.methodLink "CarelessMistLaw" 39 y_R_change : Cond) ∈ qTB := qTB_in (i := 833) (by decide +kernel) rfl
theorem mw_837 : (.methodLink "CarelessMistLaw" 43 y_R_ofWalker : Cond) ∈ qTB := qTB_in (i := 837) (by decide +kernel) rfl
theorem mw_841 : (.methodLink "CarelessMistModel" 122 y_R_isWalker : Cond) ∈ qTB := qTB_in (i := 841) (by decide +kernel) rfl
theorem mw_845 : (.methodLink "CarelessMistModel" 125 y_R_walkerIs : Cond) ∈ qTB := qTB_in (i := 845) (by decide +kernel) rfl
theorem mw_849 : (.methodLink "CarelessMistLaw" 47 y_R_lead : Cond) ∈ qTB := qTB_in (i := 849) (by decide +kernel) rfl
theorem mw_853 : (.methodLink "CarelessMistModel" 134 y_R_isField : Cond) ∈ qTB := qTB_in (i := 853) (by decide +kernel) rfl
theorem mw_856 : (.methodLink "CarelessMistModel" 128 y_R_isPace : Cond) ∈ qTB := qTB_in (i := 856) (by decide +kernel) rfl
theorem mw_859 : (.methodLink "CarelessMistModel" 131 y_R_isSet : Cond) ∈ qTB := qTB_in (i := 859) (by decide +kernel) rfl
theorem mw_862 : (.methodLink "CarelessMistLaw" 51 y_R_sees : Cond) ∈ qTB := qTB_in (i := 862) (by decide +kernel) rfl
theorem mw_866 : (.methodLink "CarelessMistModel" 146 y_R_doesSee : Cond) ∈ qTB := qTB_in (i := 866) (by decide +kernel) rfl
theorem mw_870 : (.methodLink "CarelessMistModel" 138 y_Jm_abs : Cond) ∈ qTB := qTB_in (i := 870) (by decide +kernel) rfl
theorem mw_871 : (.methodLink "CarelessMistModel" 143 y_R_doesCare : Cond) ∈ qTB := qTB_in (i := 871) (by decide +kernel) rfl
theorem mw_875 : (.methodLink "CarelessMistLaw" 55 y_R_seenBy : Cond) ∈ qTB := qTB_in (i := 875) (by decide +kernel) rfl
theorem mw_879 : (.methodLink "CarelessMistModel" 149 y_R_seers : Cond) ∈ qTB := qTB_in (i := 879) (by decide +kernel) rfl
theorem mw_883 : (.methodLink "CarelessMistLaw" 59 y_R_go : Cond) ∈ qTB := qTB_in (i := 883) (by decide +kernel) rfl
theorem mw_887 : (.constant "CarelessMistModel" 181 99999 : Cond) ∈ qTB := qTB_in (i := 887) (by decide +kernel) rfl
theorem mw_888 : (.constant "CarelessMistModel" 185 (-1000005) : Cond) ∈ qTB := qTB_in (i := 888) (by decide +kernel) rfl
theorem mw_889 : (.methodLink "CarelessMistModel" 186 y_R_daysGo : Cond) ∈ qTB := qTB_in (i := 889) (by decide +kernel) rfl
theorem mw_893 : (.methodLink "CarelessMistModel" 182 y_R_day : Cond) ∈ qTB := qTB_in (i := 893) (by decide +kernel) rfl
theorem mw_897 : (.methodLink "CarelessMistModel" 173 y_R_placeNow : Cond) ∈ qTB := qTB_in (i := 897) (by decide +kernel) rfl
theorem mw_901 : (.methodLink "CarelessMistModel" 169 y_R_cares : Cond) ∈ qTB := qTB_in (i := 901) (by decide +kernel) rfl
theorem mw_905 : (.methodLink "CarelessMistModel" 177 y_R_walks : Cond) ∈ qTB := qTB_in (i := 905) (by decide +kernel) rfl
theorem mw_909 : (.methodLink "CarelessMistModel" 155 y_R_isGuided : Cond) ∈ qTB := qTB_in (i := 909) (by decide +kernel) rfl
theorem mw_913 : (.methodLink "CarelessMistModel" 152 y_Jm_min : Cond) ∈ qTB := qTB_in (i := 913) (by decide +kernel) rfl
theorem mw_914 : (.methodLink "CarelessMistModel" 158 y_Jm_max : Cond) ∈ qTB := qTB_in (i := 914) (by decide +kernel) rfl
theorem mw_915 : (.methodLink "CarelessMistModel" 161 y_R_more : Cond) ∈ qTB := qTB_in (i := 915) (by decide +kernel) rfl
theorem mw_919 : (.methodLink "CarelessMistModel" 165 y_R_touches : Cond) ∈ qTB := qTB_in (i := 919) (by decide +kernel) rfl
theorem mw_923 : (.methodLink "CarelessMistModel" 190 y_R_sumOf : Cond) ∈ qTB := qTB_in (i := 923) (by decide +kernel) rfl
theorem mw_927 : (.methodLink "CarelessMistLaw" 63 y_R_now : Cond) ∈ qTB := qTB_in (i := 927) (by decide +kernel) rfl
theorem mw_931 : (.methodLink "CarelessMistModel" 193 y_R_goingOnes : Cond) ∈ qTB := qTB_in (i := 931) (by decide +kernel) rfl
theorem mw_935 : (.methodLink "CarelessMistModel" 196 y_R_caredFor : Cond) ∈ qTB := qTB_in (i := 935) (by decide +kernel) rfl
theorem mw_939 : (.methodLink "CarelessMistModel" 199 y_R_walkersCells : Cond) ∈ qTB := qTB_in (i := 939) (by decide +kernel) rfl
theorem mw_943 : (.methodLink "CarelessMistModel" 202 y_R_thingsCells : Cond) ∈ qTB := qTB_in (i := 943) (by decide +kernel) rfl
theorem mw_947 : (.methodLink "CarelessMistModel" 205 y_R_unseen : Cond) ∈ qTB := qTB_in (i := 947) (by decide +kernel) rfl
theorem mw_951 : (.methodLink "CarelessMistLaw" 67 y_R_ahead : Cond) ∈ qTB := qTB_in (i := 951) (by decide +kernel) rfl
theorem mw_955 : (.methodLink "CarelessMistModel" 211 y_R_behind : Cond) ∈ qTB := qTB_in (i := 955) (by decide +kernel) rfl
theorem mw_959 : (.methodLink "CarelessMistModel" 61 y_R_copyRow : Cond) ∈ qTB := qTB_in (i := 959) (by decide +kernel) rfl
theorem mw_962 : (.methodLink "CarelessMistModel" 208 y_R_putBack : Cond) ∈ qTB := qTB_in (i := 962) (by decide +kernel) rfl
theorem mw_966 : (.methodLink "CarelessMistLaw" 71 y_R_later : Cond) ∈ qTB := qTB_in (i := 966) (by decide +kernel) rfl
theorem mw_970 : (.methodLink "CarelessMistLaw" 75 y_R_arrives : Cond) ∈ qTB := qTB_in (i := 970) (by decide +kernel) rfl
theorem mw_974 : (.methodLink "CarelessMistModel" 214 y_R_orNone : Cond) ∈ qTB := qTB_in (i := 974) (by decide +kernel) rfl
theorem mw_978 : (.constant "CarelessMistModel" 65 (-1000004) : Cond) ∈ qTB := qTB_in (i := 978) (by decide +kernel) rfl
theorem mw_979 : (.methodLink "CarelessMistLaw" 79 y_R_spies : Cond) ∈ qTB := qTB_in (i := 979) (by decide +kernel) rfl
theorem mw_983 : (.methodLink "CarelessMistLaw" 83 y_R_meet : Cond) ∈ qTB := qTB_in (i := 983) (by decide +kernel) rfl
theorem mw_987 : (.methodLink "CarelessMistModel" 217 y_R_areTogether : Cond) ∈ qTB := qTB_in (i := 987) (by decide +kernel) rfl
theorem mw_991 : (.methodLink "CarelessMistLaw" 87 y_R_startFor : Cond) ∈ qTB := qTB_in (i := 991) (by decide +kernel) rfl
theorem mw_995 : (.methodLink "CarelessMistModel" 220 y_R_isThought : Cond) ∈ qTB := qTB_in (i := 995) (by decide +kernel) rfl
theorem mw_998 : (.methodLink "CarelessMistModel" 223 y_R_mostFor : Cond) ∈ qTB := qTB_in (i := 998) (by decide +kernel) rfl
theorem mw_1002 : (.methodLink "CarelessMistLaw" 91 y_R_aimFor : Cond) ∈ qTB := qTB_in (i := 1002) (by decide +kernel) rfl
theorem mw_1006 : (.methodLink "CarelessMistLaw" 95 y_R_kindFor : Cond) ∈ qTB := qTB_in (i := 1006) (by decide +kernel) rfl
theorem mw_1010 : (.methodLink "CarelessMistLaw" 99 y_R_paceFor : Cond) ∈ qTB := qTB_in (i := 1010) (by decide +kernel) rfl
theorem mw_1014 : (.methodLink "CarelessMistModel" 227 y_R_getsThere : Cond) ∈ qTB := qTB_in (i := 1014) (by decide +kernel) rfl
theorem mw_1018 : (.methodLink "CarelessMistLaw" 103 y_R_giveUp : Cond) ∈ qTB := qTB_in (i := 1018) (by decide +kernel) rfl
theorem mw_1022 : (.methodLink "CarelessMistModel" 230 y_R_bits : Cond) ∈ qTB := qTB_in (i := 1022) (by decide +kernel) rfl
theorem mw_1025 : (.methodLink "CarelessMistLaw" 107 y_R_fits : Cond) ∈ qTB := qTB_in (i := 1025) (by decide +kernel) rfl
theorem mw_1029 : (.methodLink "CarelessMistModel" 240 y_R_lacks : Cond) ∈ qTB := qTB_in (i := 1029) (by decide +kernel) rfl
theorem mw_1033 : (.methodLink "CarelessMistModel" 233 y_R_isSheet : Cond) ∈ qTB := qTB_in (i := 1033) (by decide +kernel) rfl
theorem mw_1036 : (.constant "CarelessMistModel" 236 (-1000006) : Cond) ∈ qTB := qTB_in (i := 1036) (by decide +kernel) rfl
theorem mw_1037 : (.methodLink "CarelessMistModel" 244 y_R_fitting : Cond) ∈ qTB := qTB_in (i := 1037) (by decide +kernel) rfl
theorem mw_1041 : (.methodLink "CarelessMistModel" 237 y_R_isSo : Cond) ∈ qTB := qTB_in (i := 1041) (by decide +kernel) rfl
theorem mw_1045 : (.methodLink "CarelessMistLaw" 111 y_R_kinds : Cond) ∈ qTB := qTB_in (i := 1045) (by decide +kernel) rfl
theorem mw_1049 : (.methodLink "CarelessMistLaw" 115 y_R_morning : Cond) ∈ qTB := qTB_in (i := 1049) (by decide +kernel) rfl
theorem mw_1053 : (.methodLink "CarelessMistModel" 248 y_R_drawn : Cond) ∈ qTB := qTB_in (i := 1053) (by decide +kernel) rfl
theorem mw_1057 : (.constant "CarelessMistModel" 247 1103515245 : Cond) ∈ qTB := qTB_in (i := 1057) (by decide +kernel) rfl
theorem mw_1058 : (.methodLink "CarelessMistLaw" 120 y_R_odds : Cond) ∈ qTB := qTB_in (i := 1058) (by decide +kernel) rfl
theorem mw_1062 : (.methodLink "CarelessMistLaw" 124 y_R_seed : Cond) ∈ qTB := qTB_in (i := 1062) (by decide +kernel) rfl
theorem mw_1066 : (.methodLink "CarelessMistLaw" 128 y_R_feed : Cond) ∈ qTB := qTB_in (i := 1066) (by decide +kernel) rfl
theorem mw_1070 : (.methodLink "CarelessMistLaw" 133 y_R_wipe : Cond) ∈ qTB := qTB_in (i := 1070) (by decide +kernel) rfl
theorem mw_1074 : (.methodLink "CarelessMistLaw" 137 y_R_text : Cond) ∈ qTB := qTB_in (i := 1074) (by decide +kernel) rfl
theorem mw_1078 : (.methodLink "CarelessMistModel" 281 y_R_token : Cond) ∈ qTB := qTB_in (i := 1078) (by decide +kernel) rfl
theorem mw_1082 : (.methodLink "CarelessMistModel" 261 y_R_byteAt : Cond) ∈ qTB := qTB_in (i := 1082) (by decide +kernel) rfl
theorem mw_1086 : (.methodLink "CarelessMistModel" 324 y_R_readItem : Cond) ∈ qTB := qTB_in (i := 1086) (by decide +kernel) rfl
theorem mw_1090 : (.methodLink "CarelessMistModel" 291 y_R_isWord : Cond) ∈ qTB := qTB_in (i := 1090) (by decide +kernel) rfl
theorem mw_1094 : (.methodLink "CarelessMistModel" 270 y_Js_length : Cond) ∈ qTB := qTB_in (i := 1094) (by decide +kernel) rfl
theorem mw_1095 : (.methodLink "CarelessMistModel" 273 y_Js_charAt : Cond) ∈ qTB := qTB_in (i := 1095) (by decide +kernel) rfl
theorem mw_1096 : (.methodLink "CarelessMistModel" 314 y_R_readThing : Cond) ∈ qTB := qTB_in (i := 1096) (by decide +kernel) rfl
theorem mw_1100 : (.methodLink "CarelessMistModel" 284 y_R_must : Cond) ∈ qTB := qTB_in (i := 1100) (by decide +kernel) rfl
theorem mw_1104 : (.methodLink "CarelessMistModel" 298 y_R_number : Cond) ∈ qTB := qTB_in (i := 1104) (by decide +kernel) rfl
theorem mw_1108 : (.methodLink "CarelessMistModel" 301 y_R_addItem : Cond) ∈ qTB := qTB_in (i := 1108) (by decide +kernel) rfl
theorem mw_1113 : (.methodLink "CarelessMistModel" 319 y_R_readWalker : Cond) ∈ qTB := qTB_in (i := 1113) (by decide +kernel) rfl
theorem mw_1118 : (.methodLink "CarelessMistModel" 310 y_R_takesWord : Cond) ∈ qTB := qTB_in (i := 1118) (by decide +kernel) rfl
theorem mw_1124 : (.methodLink "CarelessMistModel" 327 y_R_isToldSo : Cond) ∈ qTB := qTB_in (i := 1124) (by decide +kernel) rfl
theorem mw_1128 : (.methodLink "CarelessMistLaw" 141 y_R_hold : Cond) ∈ qTB := qTB_in (i := 1128) (by decide +kernel) rfl
theorem mw_1132 : (.methodLink "CarelessMistModel" 330 y_R_isSpot : Cond) ∈ qTB := qTB_in (i := 1132) (by decide +kernel) rfl
theorem mw_1135 : (.methodLink "CarelessMistLaw" 145 y_R_as : Cond) ∈ qTB := qTB_in (i := 1135) (by decide +kernel) rfl
theorem mw_1139 : (.methodLink "CarelessMistModel" 333 y_R_isUnder : Cond) ∈ qTB := qTB_in (i := 1139) (by decide +kernel) rfl
theorem mw_1142 : (.methodLink "CarelessMistModel" 341 y_R_above : Cond) ∈ qTB := qTB_in (i := 1142) (by decide +kernel) rfl
theorem mw_1145 : (.constant "CarelessMistModel" 336 (-1000003) : Cond) ∈ qTB := qTB_in (i := 1145) (by decide +kernel) rfl
theorem mw_1146 : (.methodLink "CarelessMistLaw" 149 y_R_sheet : Cond) ∈ qTB := qTB_in (i := 1146) (by decide +kernel) rfl
theorem mw_1150 : (.constant "CarelessMistModel" 337 (-1000007) : Cond) ∈ qTB := qTB_in (i := 1150) (by decide +kernel) rfl
theorem mw_1151 : (.methodLink "CarelessMistLaw" 153 y_R_write : Cond) ∈ qTB := qTB_in (i := 1151) (by decide +kernel) rfl
theorem mw_1155 : (.methodLink "CarelessMistModel" 338 y_R_cutTo : Cond) ∈ qTB := qTB_in (i := 1155) (by decide +kernel) rfl
theorem mw_1158 : (.methodLink "CarelessMistLaw" 158 y_R_copy : Cond) ∈ qTB := qTB_in (i := 1158) (by decide +kernel) rfl
theorem mw_1162 : (.methodLink "CarelessMistLaw" 162 y_R_load : Cond) ∈ qTB := qTB_in (i := 1162) (by decide +kernel) rfl
theorem mw_1166 : (.methodLink "CarelessMistLaw" 166 y_R_judge : Cond) ∈ qTB := qTB_in (i := 1166) (by decide +kernel) rfl
theorem mw_1170 : (.methodLink "CarelessMistLaw" 170 y_R_image : Cond) ∈ qTB := qTB_in (i := 1170) (by decide +kernel) rfl
theorem mw_1174 : (.methodLink "CarelessMistLaw" 174 y_R_undo : Cond) ∈ qTB := qTB_in (i := 1174) (by decide +kernel) rfl
theorem mw_1178 : (.methodLink "CarelessMistLaw" 178 y_R_tear : Cond) ∈ qTB := qTB_in (i := 1178) (by decide +kernel) rfl
theorem mw_1182 : (.methodLink "CarelessMistLaw" 182 y_R_count : Cond) ∈ qTB := qTB_in (i := 1182) (by decide +kernel) rfl
theorem mw_1186 : (.methodLink "CarelessMistLaw" 186 y_R_status : Cond) ∈ qTB := qTB_in (i := 1186) (by decide +kernel) rfl
theorem mw_1190 : (.fieldLink "java/lang/String" 9 "java/lang/String" "value" "[B" : Cond) ∈ qTB := qTB_in (i := 1190) (by decide +kernel) rfl
theorem mw_1191 : (.fieldLink "java/lang/String" 15 "java/lang/String" "coder" "B" : Cond) ∈ qTB := qTB_in (i := 1191) (by decide +kernel) rfl
theorem ok_Cm_become : qOV "CarelessMist$Common" y_Cm_become prog_2_method_2_code 3 none 1 := ⟨⟨qTB_in (i := 374) (by decide +kernel) rfl, qTB_in (i := 67) (by decide +kernel) rfl, by decide, by decide, by decide +kernel⟩, qTB_in (i := 372) (by decide +kernel) rfl, qTB_in (i := 373) (by decide +kernel) rfl⟩
theorem ok_Cm_hasThing : qOV "CarelessMist$Common" y_Cm_hasThing prog_2_method_3_code 2 (some .boolean) 1 := ⟨⟨qTB_in (i := 247) (by decide +kernel) rfl, qTB_in (i := 67) (by decide +kernel) rfl, by decide, by decide, by decide +kernel⟩, qTB_in (i := 245) (by decide +kernel) rfl, qTB_in (i := 246) (by decide +kernel) rfl⟩
theorem ok_Cm_hasWalker : qOV "CarelessMist$Common" y_Cm_hasWalker prog_2_method_4_code 2 (some .boolean) 1 := ⟨⟨qTB_in (i := 268) (by decide +kernel) rfl, qTB_in (i := 67) (by decide +kernel) rfl, by decide, by decide, by decide +kernel⟩, qTB_in (i := 266) (by decide +kernel) rfl, qTB_in (i := 267) (by decide +kernel) rfl⟩
theorem ok_Cm_addThing : qOV "CarelessMist$Common" y_Cm_addThing prog_2_method_5_code 4 (some .int) 2 := ⟨⟨qTB_in (i := 231) (by decide +kernel) rfl, qTB_in (i := 67) (by decide +kernel) rfl, by decide, by decide, by decide +kernel⟩, qTB_in (i := 229) (by decide +kernel) rfl, qTB_in (i := 230) (by decide +kernel) rfl⟩
theorem ok_Cm_addWalker : qOV "CarelessMist$Common" y_Cm_addWalker prog_2_method_6_code 4 (some .int) 2 := ⟨⟨qTB_in (i := 239) (by decide +kernel) rfl, qTB_in (i := 67) (by decide +kernel) rfl, by decide, by decide, by decide +kernel⟩, qTB_in (i := 237) (by decide +kernel) rfl, qTB_in (i := 238) (by decide +kernel) rfl⟩
theorem ok_Cm_draw : qOV "CarelessMist$Common" y_Cm_draw prog_2_method_7_code 1 (some .int) 0 := ⟨⟨qTB_in (i := 457) (by decide +kernel) rfl, qTB_in (i := 67) (by decide +kernel) rfl, by decide, by decide, by decide +kernel⟩, qTB_in (i := 455) (by decide +kernel) rfl, qTB_in (i := 456) (by decide +kernel) rfl⟩
theorem ok_Cm_canSee : qOV "CarelessMist$Common" y_Cm_canSee prog_2_method_8_code 6 (some .boolean) 2 := ⟨⟨qTB_in (i := 284) (by decide +kernel) rfl, qTB_in (i := 67) (by decide +kernel) rfl, by decide, by decide, by decide +kernel⟩, qTB_in (i := 282) (by decide +kernel) rfl, qTB_in (i := 283) (by decide +kernel) rfl⟩
theorem ok_Cm_findsWay : qOV "CarelessMist$Common" y_Cm_findsWay prog_2_method_9_code 4 (some .boolean) 2 := ⟨⟨qTB_in (i := 318) (by decide +kernel) rfl, qTB_in (i := 67) (by decide +kernel) rfl, by decide, by decide, by decide +kernel⟩, qTB_in (i := 316) (by decide +kernel) rfl, qTB_in (i := 317) (by decide +kernel) rfl⟩
theorem ok_Cm_passDay : qOV "CarelessMist$Common" y_Cm_passDay prog_2_method_10_code 3 none 0 := ⟨⟨qTB_in (i := 308) (by decide +kernel) rfl, qTB_in (i := 67) (by decide +kernel) rfl, by decide, by decide, by decide +kernel⟩, qTB_in (i := 306) (by decide +kernel) rfl, qTB_in (i := 307) (by decide +kernel) rfl⟩
theorem ok_Cm_takeTurn : qOV "CarelessMist$Common" y_Cm_takeTurn prog_2_method_11_code 4 none 1 := ⟨⟨qTB_in (i := 312) (by decide +kernel) rfl, qTB_in (i := 67) (by decide +kernel) rfl, by decide, by decide, by decide +kernel⟩, qTB_in (i := 310) (by decide +kernel) rfl, qTB_in (i := 311) (by decide +kernel) rfl⟩
theorem ok_Cm_walk : qOV "CarelessMist$Common" y_Cm_walk prog_2_method_12_code 5 none 3 := ⟨⟨qTB_in (i := 322) (by decide +kernel) rfl, qTB_in (i := 67) (by decide +kernel) rfl, by decide, by decide, by decide +kernel⟩, qTB_in (i := 320) (by decide +kernel) rfl, qTB_in (i := 321) (by decide +kernel) rfl⟩
theorem ok_Cm_arriveAt : qOV "CarelessMist$Common" y_Cm_arriveAt prog_2_method_13_code 5 none 3 := ⟨⟨qTB_in (i := 332) (by decide +kernel) rfl, qTB_in (i := 67) (by decide +kernel) rfl, by decide, by decide, by decide +kernel⟩, qTB_in (i := 330) (by decide +kernel) rfl, qTB_in (i := 331) (by decide +kernel) rfl⟩
theorem ok_Cm_sumOf : qOV "CarelessMist$Common" y_Cm_sumOf prog_2_method_14_code 4 (some .int) 1 := ⟨⟨qTB_in (i := 341) (by decide +kernel) rfl, qTB_in (i := 67) (by decide +kernel) rfl, by decide, by decide, by decide +kernel⟩, qTB_in (i := 339) (by decide +kernel) rfl, qTB_in (i := 340) (by decide +kernel) rfl⟩
theorem ok_Cm_seersOf : qOV "CarelessMist$Common" y_Cm_seersOf prog_2_method_15_code 4 (some .int) 1 := ⟨⟨qTB_in (i := 297) (by decide +kernel) rfl, qTB_in (i := 67) (by decide +kernel) rfl, by decide, by decide, by decide +kernel⟩, qTB_in (i := 295) (by decide +kernel) rfl, qTB_in (i := 296) (by decide +kernel) rfl⟩
theorem ok_Cm_guidedWalkers : qOV "CarelessMist$Common" y_Cm_guidedWalkers prog_2_method_16_code 4 (some .int) 0 := ⟨⟨qTB_in (i := 349) (by decide +kernel) rfl, qTB_in (i := 67) (by decide +kernel) rfl, by decide, by decide, by decide +kernel⟩, qTB_in (i := 347) (by decide +kernel) rfl, qTB_in (i := 348) (by decide +kernel) rfl⟩
theorem ok_Cm_thingsCaredFor : qOV "CarelessMist$Common" y_Cm_thingsCaredFor prog_2_method_17_code 3 (some .int) 0 := ⟨⟨qTB_in (i := 353) (by decide +kernel) rfl, qTB_in (i := 67) (by decide +kernel) rfl, by decide, by decide, by decide +kernel⟩, qTB_in (i := 351) (by decide +kernel) rfl, qTB_in (i := 352) (by decide +kernel) rfl⟩
theorem ok_Cm_cellsWithWalkers : qOV "CarelessMist$Common" y_Cm_cellsWithWalkers prog_2_method_18_code 3 (some .int) 0 := ⟨⟨qTB_in (i := 357) (by decide +kernel) rfl, qTB_in (i := 67) (by decide +kernel) rfl, by decide, by decide, by decide +kernel⟩, qTB_in (i := 355) (by decide +kernel) rfl, qTB_in (i := 356) (by decide +kernel) rfl⟩
theorem ok_Cm_cellsWithThings : qOV "CarelessMist$Common" y_Cm_cellsWithThings prog_2_method_19_code 3 (some .int) 0 := ⟨⟨qTB_in (i := 361) (by decide +kernel) rfl, qTB_in (i := 67) (by decide +kernel) rfl, by decide, by decide, by decide +kernel⟩, qTB_in (i := 359) (by decide +kernel) rfl, qTB_in (i := 360) (by decide +kernel) rfl⟩
theorem ok_Cm_unseenThings : qOV "CarelessMist$Common" y_Cm_unseenThings prog_2_method_20_code 3 (some .int) 0 := ⟨⟨qTB_in (i := 365) (by decide +kernel) rfl, qTB_in (i := 67) (by decide +kernel) rfl, by decide, by decide, by decide +kernel⟩, qTB_in (i := 363) (by decide +kernel) rfl, qTB_in (i := 364) (by decide +kernel) rfl⟩
theorem ok_Cm_heldSpots : qOV "CarelessMist$Common" y_Cm_heldSpots prog_2_method_21_code 3 (some .int) 0 := ⟨⟨qTB_in (i := 666) (by decide +kernel) rfl, qTB_in (i := 67) (by decide +kernel) rfl, by decide, by decide, by decide +kernel⟩, qTB_in (i := 664) (by decide +kernel) rfl, qTB_in (i := 665) (by decide +kernel) rfl⟩
theorem ok_Kd_isUnder : qOS y_Kd_isUnder prog_3_method_2_code 4 (some .boolean) 2 := ⟨⟨qTB_in (i := 608) (by decide +kernel) rfl, qTB_in (i := 72) (by decide +kernel) rfl, by decide, by decide, by decide +kernel⟩, qTB_in (i := 607) (by decide +kernel) rfl⟩
theorem ok_Kd_clear : qOS y_Kd_clear prog_3_method_3_code 1 (some .int) 1 := ⟨⟨qTB_in (i := 250) (by decide +kernel) rfl, qTB_in (i := 72) (by decide +kernel) rfl, by decide, by decide, by decide +kernel⟩, qTB_in (i := 249) (by decide +kernel) rfl⟩
theorem ok_Kd_dim : qOS y_Kd_dim prog_3_method_4_code 3 (some .int) 3 := ⟨⟨qTB_in (i := 253) (by decide +kernel) rfl, qTB_in (i := 72) (by decide +kernel) rfl, by decide, by decide, by decide +kernel⟩, qTB_in (i := 252) (by decide +kernel) rfl⟩
theorem ok_Kd_moves : qOS y_Kd_moves prog_3_method_5_code 4 (some .int) 2 := ⟨⟨qTB_in (i := 256) (by decide +kernel) rfl, qTB_in (i := 72) (by decide +kernel) rfl, by decide, by decide, by decide +kernel⟩, qTB_in (i := 255) (by decide +kernel) rfl⟩
theorem ok_Kd_touches : qOS y_Kd_touches prog_3_method_6_code 2 (some .boolean) 2 := ⟨⟨qTB_in (i := 335) (by decide +kernel) rfl, qTB_in (i := 72) (by decide +kernel) rfl, by decide, by decide, by decide +kernel⟩, qTB_in (i := 334) (by decide +kernel) rfl⟩
theorem ok_Sh_begin : qOV "CarelessMist$Sheet" y_Sh_begin prog_4_method_2_code 3 none 2 := ⟨⟨qTB_in (i := 620) (by decide +kernel) rfl, qTB_in (i := 70) (by decide +kernel) rfl, by decide, by decide, by decide +kernel⟩, qTB_in (i := 618) (by decide +kernel) rfl, qTB_in (i := 619) (by decide +kernel) rfl⟩
theorem ok_Sh_put : qOV "CarelessMist$Sheet" y_Sh_put prog_4_method_3_code 3 none 2 := ⟨⟨qTB_in (i := 629) (by decide +kernel) rfl, qTB_in (i := 70) (by decide +kernel) rfl, by decide, by decide, by decide +kernel⟩, qTB_in (i := 627) (by decide +kernel) rfl, qTB_in (i := 628) (by decide +kernel) rfl⟩
theorem ok_Sh_has : qOV "CarelessMist$Sheet" y_Sh_has prog_4_method_4_code 3 (some .boolean) 2 := ⟨⟨qTB_in (i := 637) (by decide +kernel) rfl, qTB_in (i := 70) (by decide +kernel) rfl, by decide, by decide, by decide +kernel⟩, qTB_in (i := 635) (by decide +kernel) rfl, qTB_in (i := 636) (by decide +kernel) rfl⟩
theorem ok_Tp_append : qOV "CarelessMist$Tape" y_Tp_append prog_5_method_2_code 4 none 2 := ⟨⟨qTB_in (i := 477) (by decide +kernel) rfl, qTB_in (i := 69) (by decide +kernel) rfl, by decide, by decide, by decide +kernel⟩, qTB_in (i := 475) (by decide +kernel) rfl, qTB_in (i := 476) (by decide +kernel) rfl⟩
theorem ok_Tp_readInto : qOV "CarelessMist$Tape" y_Tp_readInto prog_5_method_3_code 3 (some .int) 1 := ⟨⟨qTB_in (i := 489) (by decide +kernel) rfl, qTB_in (i := 69) (by decide +kernel) rfl, by decide, by decide, by decide +kernel⟩, qTB_in (i := 487) (by decide +kernel) rfl, qTB_in (i := 488) (by decide +kernel) rfl⟩
theorem ok_Tp_readItem : qOV "CarelessMist$Tape" y_Tp_readItem prog_5_method_4_code 3 (some .boolean) 1 := ⟨⟨qTB_in (i := 504) (by decide +kernel) rfl, qTB_in (i := 69) (by decide +kernel) rfl, by decide, by decide, by decide +kernel⟩, qTB_in (i := 503) (by decide +kernel) rfl, qTB_in (i := 7) (by decide +kernel) rfl⟩
theorem ok_Tp_readThing : qOV "CarelessMist$Tape" y_Tp_readThing prog_5_method_5_code 3 (some .boolean) 2 := ⟨⟨qTB_in (i := 595) (by decide +kernel) rfl, qTB_in (i := 69) (by decide +kernel) rfl, by decide, by decide, by decide +kernel⟩, qTB_in (i := 594) (by decide +kernel) rfl, qTB_in (i := 14) (by decide +kernel) rfl⟩
theorem ok_Tp_readWalker : qOV "CarelessMist$Tape" y_Tp_readWalker prog_5_method_6_code 4 (some .boolean) 1 := ⟨⟨qTB_in (i := 561) (by decide +kernel) rfl, qTB_in (i := 69) (by decide +kernel) rfl, by decide, by decide, by decide +kernel⟩, qTB_in (i := 560) (by decide +kernel) rfl, qTB_in (i := 9) (by decide +kernel) rfl⟩
theorem ok_Tp_readPerhaps : qOV "CarelessMist$Tape" y_Tp_readPerhaps prog_5_method_7_code 4 (some .boolean) 3 := ⟨⟨qTB_in (i := 572) (by decide +kernel) rfl, qTB_in (i := 69) (by decide +kernel) rfl, by decide, by decide, by decide +kernel⟩, qTB_in (i := 571) (by decide +kernel) rfl, qTB_in (i := 11) (by decide +kernel) rfl⟩
theorem ok_Tp_readTurn : qOV "CarelessMist$Tape" y_Tp_readTurn prog_5_method_8_code 4 (some .boolean) 1 := ⟨⟨qTB_in (i := 580) (by decide +kernel) rfl, qTB_in (i := 69) (by decide +kernel) rfl, by decide, by decide, by decide +kernel⟩, qTB_in (i := 579) (by decide +kernel) rfl, qTB_in (i := 12) (by decide +kernel) rfl⟩
theorem ok_Tp_kindOfWord : qOV "CarelessMist$Tape" y_Tp_kindOfWord prog_5_method_9_code 1 (some .int) 0 := ⟨⟨qTB_in (i := 584) (by decide +kernel) rfl, qTB_in (i := 69) (by decide +kernel) rfl, by decide, by decide, by decide +kernel⟩, qTB_in (i := 583) (by decide +kernel) rfl, qTB_in (i := 13) (by decide +kernel) rfl⟩
theorem ok_Tp_isWord : qOV "CarelessMist$Tape" y_Tp_isWord prog_5_method_10_code 3 (some .boolean) 1 := ⟨⟨qTB_in (i := 509) (by decide +kernel) rfl, qTB_in (i := 69) (by decide +kernel) rfl, by decide, by decide, by decide +kernel⟩, qTB_in (i := 508) (by decide +kernel) rfl, qTB_in (i := 8) (by decide +kernel) rfl⟩
theorem ok_Tp_isNumber : qOV "CarelessMist$Tape" y_Tp_isNumber prog_5_method_11_code 3 (some .boolean) 2 := ⟨⟨qTB_in (i := 565) (by decide +kernel) rfl, qTB_in (i := 69) (by decide +kernel) rfl, by decide, by decide, by decide +kernel⟩, qTB_in (i := 564) (by decide +kernel) rfl, qTB_in (i := 10) (by decide +kernel) rfl⟩
theorem ok_Tp_step : qOV "CarelessMist$Tape" y_Tp_step prog_5_method_12_code 1 none 0 := ⟨⟨qTB_in (i := 493) (by decide +kernel) rfl, qTB_in (i := 69) (by decide +kernel) rfl, by decide, by decide, by decide +kernel⟩, qTB_in (i := 492) (by decide +kernel) rfl, qTB_in (i := 6) (by decide +kernel) rfl⟩
theorem ok_Tp_isLetter : qOS y_Tp_isLetter prog_5_method_13_code 1 (some .boolean) 1 := ⟨⟨qTB_in (i := 496) (by decide +kernel) rfl, qTB_in (i := 69) (by decide +kernel) rfl, by decide, by decide, by decide +kernel⟩, qTB_in (i := 495) (by decide +kernel) rfl⟩
theorem ok_Tp_isDigit : qOS y_Tp_isDigit prog_5_method_14_code 1 (some .boolean) 1 := ⟨⟨qTB_in (i := 499) (by decide +kernel) rfl, qTB_in (i := 69) (by decide +kernel) rfl, by decide, by decide, by decide +kernel⟩, qTB_in (i := 498) (by decide +kernel) rfl⟩
theorem ok_X_turn : qOV "CarelessMist" y_X_turn prog_1_method_2_code 5 (some .int) 3 := ⟨⟨qTB_in (i := 208) (by decide +kernel) rfl, qTB_in (i := 66) (by decide +kernel) rfl, by decide, by decide, by decide +kernel⟩, qTB_in (i := 206) (by decide +kernel) rfl, qTB_in (i := 207) (by decide +kernel) rfl⟩
theorem ok_X_listed : qOV "CarelessMist" y_X_listed prog_1_method_3_code 2 (some .int) 1 := ⟨⟨qTB_in (i := 220) (by decide +kernel) rfl, qTB_in (i := 66) (by decide +kernel) rfl, by decide, by decide, by decide +kernel⟩, qTB_in (i := 218) (by decide +kernel) rfl, qTB_in (i := 219) (by decide +kernel) rfl⟩
theorem ok_X_thing : qOV "CarelessMist" y_X_thing prog_1_method_4_code 3 (some .int) 2 := ⟨⟨qTB_in (i := 224) (by decide +kernel) rfl, qTB_in (i := 66) (by decide +kernel) rfl, by decide, by decide, by decide +kernel⟩, qTB_in (i := 222) (by decide +kernel) rfl, qTB_in (i := 223) (by decide +kernel) rfl⟩
theorem ok_X_walker : qOV "CarelessMist" y_X_walker prog_1_method_5_code 3 (some .int) 2 := ⟨⟨qTB_in (i := 235) (by decide +kernel) rfl, qTB_in (i := 66) (by decide +kernel) rfl, by decide, by decide, by decide +kernel⟩, qTB_in (i := 233) (by decide +kernel) rfl, qTB_in (i := 234) (by decide +kernel) rfl⟩
theorem ok_X_of : qOV "CarelessMist" y_X_of prog_1_method_6_code 4 (some .int) 2 := ⟨⟨qTB_in (i := 243) (by decide +kernel) rfl, qTB_in (i := 66) (by decide +kernel) rfl, by decide, by decide, by decide +kernel⟩, qTB_in (i := 241) (by decide +kernel) rfl, qTB_in (i := 242) (by decide +kernel) rfl⟩
theorem ok_X_change : qOV "CarelessMist" y_X_change prog_1_method_7_code 5 (some .int) 3 := ⟨⟨qTB_in (i := 260) (by decide +kernel) rfl, qTB_in (i := 66) (by decide +kernel) rfl, by decide, by decide, by decide +kernel⟩, qTB_in (i := 258) (by decide +kernel) rfl, qTB_in (i := 259) (by decide +kernel) rfl⟩
theorem ok_X_ofWalker : qOV "CarelessMist" y_X_ofWalker prog_1_method_8_code 3 (some .int) 2 := ⟨⟨qTB_in (i := 264) (by decide +kernel) rfl, qTB_in (i := 66) (by decide +kernel) rfl, by decide, by decide, by decide +kernel⟩, qTB_in (i := 262) (by decide +kernel) rfl, qTB_in (i := 263) (by decide +kernel) rfl⟩
theorem ok_X_lead : qOV "CarelessMist" y_X_lead prog_1_method_9_code 5 (some .int) 3 := ⟨⟨qTB_in (i := 272) (by decide +kernel) rfl, qTB_in (i := 66) (by decide +kernel) rfl, by decide, by decide, by decide +kernel⟩, qTB_in (i := 270) (by decide +kernel) rfl, qTB_in (i := 271) (by decide +kernel) rfl⟩
theorem ok_X_sees : qOV "CarelessMist" y_X_sees prog_1_method_10_code 4 (some .int) 1 := ⟨⟨qTB_in (i := 280) (by decide +kernel) rfl, qTB_in (i := 66) (by decide +kernel) rfl, by decide, by decide, by decide +kernel⟩, qTB_in (i := 278) (by decide +kernel) rfl, qTB_in (i := 279) (by decide +kernel) rfl⟩
theorem ok_X_seenBy : qOV "CarelessMist" y_X_seenBy prog_1_method_11_code 2 (some .int) 1 := ⟨⟨qTB_in (i := 293) (by decide +kernel) rfl, qTB_in (i := 66) (by decide +kernel) rfl, by decide, by decide, by decide +kernel⟩, qTB_in (i := 291) (by decide +kernel) rfl, qTB_in (i := 292) (by decide +kernel) rfl⟩
theorem ok_X_go : qOV "CarelessMist" y_X_go prog_1_method_12_code 3 (some .int) 1 := ⟨⟨qTB_in (i := 302) (by decide +kernel) rfl, qTB_in (i := 66) (by decide +kernel) rfl, by decide, by decide, by decide +kernel⟩, qTB_in (i := 300) (by decide +kernel) rfl, qTB_in (i := 301) (by decide +kernel) rfl⟩
theorem ok_X_now : qOV "CarelessMist" y_X_now prog_1_method_13_code 2 (some .int) 1 := ⟨⟨qTB_in (i := 345) (by decide +kernel) rfl, qTB_in (i := 66) (by decide +kernel) rfl, by decide, by decide, by decide +kernel⟩, qTB_in (i := 343) (by decide +kernel) rfl, qTB_in (i := 344) (by decide +kernel) rfl⟩
theorem ok_X_ahead : qOV "CarelessMist" y_X_ahead prog_1_method_14_code 4 (some .int) 3 := ⟨⟨qTB_in (i := 370) (by decide +kernel) rfl, qTB_in (i := 66) (by decide +kernel) rfl, by decide, by decide, by decide +kernel⟩, qTB_in (i := 368) (by decide +kernel) rfl, qTB_in (i := 369) (by decide +kernel) rfl⟩
theorem ok_X_later : qOV "CarelessMist" y_X_later prog_1_method_15_code 5 (some .int) 3 := ⟨⟨qTB_in (i := 385) (by decide +kernel) rfl, qTB_in (i := 66) (by decide +kernel) rfl, by decide, by decide, by decide +kernel⟩, qTB_in (i := 383) (by decide +kernel) rfl, qTB_in (i := 384) (by decide +kernel) rfl⟩
theorem ok_X_arrives : qOV "CarelessMist" y_X_arrives prog_1_method_16_code 4 (some .int) 2 := ⟨⟨qTB_in (i := 389) (by decide +kernel) rfl, qTB_in (i := 66) (by decide +kernel) rfl, by decide, by decide, by decide +kernel⟩, qTB_in (i := 387) (by decide +kernel) rfl, qTB_in (i := 388) (by decide +kernel) rfl⟩
theorem ok_X_spies : qOV "CarelessMist" y_X_spies prog_1_method_17_code 4 (some .int) 2 := ⟨⟨qTB_in (i := 394) (by decide +kernel) rfl, qTB_in (i := 66) (by decide +kernel) rfl, by decide, by decide, by decide +kernel⟩, qTB_in (i := 392) (by decide +kernel) rfl, qTB_in (i := 393) (by decide +kernel) rfl⟩
theorem ok_X_meet : qOV "CarelessMist" y_X_meet prog_1_method_18_code 4 (some .int) 2 := ⟨⟨qTB_in (i := 398) (by decide +kernel) rfl, qTB_in (i := 66) (by decide +kernel) rfl, by decide, by decide, by decide +kernel⟩, qTB_in (i := 396) (by decide +kernel) rfl, qTB_in (i := 397) (by decide +kernel) rfl⟩
theorem ok_X_startFor : qOV "CarelessMist" y_X_startFor prog_1_method_19_code 3 (some .int) 2 := ⟨⟨qTB_in (i := 402) (by decide +kernel) rfl, qTB_in (i := 66) (by decide +kernel) rfl, by decide, by decide, by decide +kernel⟩, qTB_in (i := 400) (by decide +kernel) rfl, qTB_in (i := 401) (by decide +kernel) rfl⟩
theorem ok_X_aimFor : qOV "CarelessMist" y_X_aimFor prog_1_method_20_code 3 (some .int) 2 := ⟨⟨qTB_in (i := 414) (by decide +kernel) rfl, qTB_in (i := 66) (by decide +kernel) rfl, by decide, by decide, by decide +kernel⟩, qTB_in (i := 412) (by decide +kernel) rfl, qTB_in (i := 413) (by decide +kernel) rfl⟩
theorem ok_X_kindFor : qOV "CarelessMist" y_X_kindFor prog_1_method_21_code 7 (some .int) 2 := ⟨⟨qTB_in (i := 418) (by decide +kernel) rfl, qTB_in (i := 66) (by decide +kernel) rfl, by decide, by decide, by decide +kernel⟩, qTB_in (i := 416) (by decide +kernel) rfl, qTB_in (i := 417) (by decide +kernel) rfl⟩
theorem ok_X_paceFor : qOV "CarelessMist" y_X_paceFor prog_1_method_22_code 5 (some .int) 2 := ⟨⟨qTB_in (i := 422) (by decide +kernel) rfl, qTB_in (i := 66) (by decide +kernel) rfl, by decide, by decide, by decide +kernel⟩, qTB_in (i := 420) (by decide +kernel) rfl, qTB_in (i := 421) (by decide +kernel) rfl⟩
theorem ok_X_giveUp : qOV "CarelessMist" y_X_giveUp prog_1_method_23_code 9 (some .int) 2 := ⟨⟨qTB_in (i := 426) (by decide +kernel) rfl, qTB_in (i := 66) (by decide +kernel) rfl, by decide, by decide, by decide +kernel⟩, qTB_in (i := 424) (by decide +kernel) rfl, qTB_in (i := 425) (by decide +kernel) rfl⟩
theorem ok_X_fits : qOV "CarelessMist" y_X_fits prog_1_method_24_code 6 (some .int) 2 := ⟨⟨qTB_in (i := 436) (by decide +kernel) rfl, qTB_in (i := 66) (by decide +kernel) rfl, by decide, by decide, by decide +kernel⟩, qTB_in (i := 434) (by decide +kernel) rfl, qTB_in (i := 435) (by decide +kernel) rfl⟩
theorem ok_X_kinds : qOV "CarelessMist" y_X_kinds prog_1_method_25_code 6 (some .int) 2 := ⟨⟨qTB_in (i := 449) (by decide +kernel) rfl, qTB_in (i := 66) (by decide +kernel) rfl, by decide, by decide, by decide +kernel⟩, qTB_in (i := 447) (by decide +kernel) rfl, qTB_in (i := 448) (by decide +kernel) rfl⟩
theorem ok_X_morning : qOV "CarelessMist" y_X_morning prog_1_method_26_code 5 (some .int) 1 := ⟨⟨qTB_in (i := 453) (by decide +kernel) rfl, qTB_in (i := 66) (by decide +kernel) rfl, by decide, by decide, by decide +kernel⟩, qTB_in (i := 451) (by decide +kernel) rfl, qTB_in (i := 452) (by decide +kernel) rfl⟩
theorem ok_X_odds : qOV "CarelessMist" y_X_odds prog_1_method_27_code 7 (some .long) 4 := ⟨⟨qTB_in (i := 462) (by decide +kernel) rfl, qTB_in (i := 66) (by decide +kernel) rfl, by decide, by decide, by decide +kernel⟩, qTB_in (i := 460) (by decide +kernel) rfl, qTB_in (i := 461) (by decide +kernel) rfl⟩
theorem ok_X_seed : qOV "CarelessMist" y_X_seed prog_1_method_28_code 3 (some .int) 1 := ⟨⟨qTB_in (i := 469) (by decide +kernel) rfl, qTB_in (i := 66) (by decide +kernel) rfl, by decide, by decide, by decide +kernel⟩, qTB_in (i := 467) (by decide +kernel) rfl, qTB_in (i := 468) (by decide +kernel) rfl⟩
theorem ok_X_feed : qOV "CarelessMist" y_X_feed prog_1_method_29_code 3 (some .int) 2 := ⟨⟨qTB_in (i := 473) (by decide +kernel) rfl, qTB_in (i := 66) (by decide +kernel) rfl, by decide, by decide, by decide +kernel⟩, qTB_in (i := 471) (by decide +kernel) rfl, qTB_in (i := 472) (by decide +kernel) rfl⟩
theorem ok_X_wipe : qOV "CarelessMist" y_X_wipe prog_1_method_30_code 2 (some .int) 0 := ⟨⟨qTB_in (i := 481) (by decide +kernel) rfl, qTB_in (i := 66) (by decide +kernel) rfl, by decide, by decide, by decide +kernel⟩, qTB_in (i := 479) (by decide +kernel) rfl, qTB_in (i := 480) (by decide +kernel) rfl⟩
theorem ok_X_text : qOV "CarelessMist" y_X_text prog_1_method_31_code 2 (some .int) 0 := ⟨⟨qTB_in (i := 485) (by decide +kernel) rfl, qTB_in (i := 66) (by decide +kernel) rfl, by decide, by decide, by decide +kernel⟩, qTB_in (i := 483) (by decide +kernel) rfl, qTB_in (i := 484) (by decide +kernel) rfl⟩
theorem ok_X_hold : qOV "CarelessMist" y_X_hold prog_1_method_32_code 3 (some .int) 2 := ⟨⟨qTB_in (i := 601) (by decide +kernel) rfl, qTB_in (i := 66) (by decide +kernel) rfl, by decide, by decide, by decide +kernel⟩, qTB_in (i := 599) (by decide +kernel) rfl, qTB_in (i := 600) (by decide +kernel) rfl⟩
theorem ok_X_as : qOV "CarelessMist" y_X_as prog_1_method_33_code 4 (some .int) 2 := ⟨⟨qTB_in (i := 605) (by decide +kernel) rfl, qTB_in (i := 66) (by decide +kernel) rfl, by decide, by decide, by decide +kernel⟩, qTB_in (i := 603) (by decide +kernel) rfl, qTB_in (i := 604) (by decide +kernel) rfl⟩
theorem ok_X_sheet : qOV "CarelessMist" y_X_sheet prog_1_method_34_code 5 (some .int) 3 := ⟨⟨qTB_in (i := 615) (by decide +kernel) rfl, qTB_in (i := 66) (by decide +kernel) rfl, by decide, by decide, by decide +kernel⟩, qTB_in (i := 613) (by decide +kernel) rfl, qTB_in (i := 614) (by decide +kernel) rfl⟩
theorem ok_X_write : qOV "CarelessMist" y_X_write prog_1_method_35_code 5 (some .int) 3 := ⟨⟨qTB_in (i := 625) (by decide +kernel) rfl, qTB_in (i := 66) (by decide +kernel) rfl, by decide, by decide, by decide +kernel⟩, qTB_in (i := 623) (by decide +kernel) rfl, qTB_in (i := 624) (by decide +kernel) rfl⟩
theorem ok_X_copy : qOV "CarelessMist" y_X_copy prog_1_method_36_code 6 (some .int) 5 := ⟨⟨qTB_in (i := 633) (by decide +kernel) rfl, qTB_in (i := 66) (by decide +kernel) rfl, by decide, by decide, by decide +kernel⟩, qTB_in (i := 631) (by decide +kernel) rfl, qTB_in (i := 632) (by decide +kernel) rfl⟩
theorem ok_X_load : qOV "CarelessMist" y_X_load prog_1_method_37_code 5 (some .int) 1 := ⟨⟨qTB_in (i := 642) (by decide +kernel) rfl, qTB_in (i := 66) (by decide +kernel) rfl, by decide, by decide, by decide +kernel⟩, qTB_in (i := 640) (by decide +kernel) rfl, qTB_in (i := 641) (by decide +kernel) rfl⟩
theorem ok_X_judge : qOV "CarelessMist" y_X_judge prog_1_method_38_code 5 (some .int) 1 := ⟨⟨qTB_in (i := 646) (by decide +kernel) rfl, qTB_in (i := 66) (by decide +kernel) rfl, by decide, by decide, by decide +kernel⟩, qTB_in (i := 644) (by decide +kernel) rfl, qTB_in (i := 645) (by decide +kernel) rfl⟩
theorem ok_X_image : qOV "CarelessMist" y_X_image prog_1_method_39_code 1 (some .int) 0 := ⟨⟨qTB_in (i := 650) (by decide +kernel) rfl, qTB_in (i := 66) (by decide +kernel) rfl, by decide, by decide, by decide +kernel⟩, qTB_in (i := 648) (by decide +kernel) rfl, qTB_in (i := 649) (by decide +kernel) rfl⟩
theorem ok_X_undo : qOV "CarelessMist" y_X_undo prog_1_method_40_code 1 (some .int) 0 := ⟨⟨qTB_in (i := 654) (by decide +kernel) rfl, qTB_in (i := 66) (by decide +kernel) rfl, by decide, by decide, by decide +kernel⟩, qTB_in (i := 652) (by decide +kernel) rfl, qTB_in (i := 653) (by decide +kernel) rfl⟩
theorem ok_X_tear : qOV "CarelessMist" y_X_tear prog_1_method_41_code 2 (some .int) 0 := ⟨⟨qTB_in (i := 658) (by decide +kernel) rfl, qTB_in (i := 66) (by decide +kernel) rfl, by decide, by decide, by decide +kernel⟩, qTB_in (i := 656) (by decide +kernel) rfl, qTB_in (i := 657) (by decide +kernel) rfl⟩
theorem ok_X_count : qOV "CarelessMist" y_X_count prog_1_method_42_code 2 (some .int) 1 := ⟨⟨qTB_in (i := 662) (by decide +kernel) rfl, qTB_in (i := 66) (by decide +kernel) rfl, by decide, by decide, by decide +kernel⟩, qTB_in (i := 660) (by decide +kernel) rfl, qTB_in (i := 661) (by decide +kernel) rfl⟩
theorem ok_X_status : qOV "CarelessMist" y_X_status prog_1_method_43_code 4 (some .int) 1 := ⟨⟨qTB_in (i := 670) (by decide +kernel) rfl, qTB_in (i := 66) (by decide +kernel) rfl, by decide, by decide, by decide +kernel⟩, qTB_in (i := 668) (by decide +kernel) rfl, qTB_in (i := 669) (by decide +kernel) rfl⟩
theorem ok_X_within : qOS y_X_within prog_1_method_44_code 3 (some .boolean) 3 := ⟨⟨qTB_in (i := 211) (by decide +kernel) rfl, qTB_in (i := 66) (by decide +kernel) rfl, by decide, by decide, by decide +kernel⟩, qTB_in (i := 210) (by decide +kernel) rfl⟩
theorem ok_X_power : qOS y_X_power prog_1_method_45_code 6 (some .long) 2 := ⟨⟨qTB_in (i := 465) (by decide +kernel) rfl, qTB_in (i := 66) (by decide +kernel) rfl, by decide, by decide, by decide +kernel⟩, qTB_in (i := 464) (by decide +kernel) rfl⟩
theorem ok_X_told : qOV "CarelessMist" y_X_told prog_1_method_46_code 3 (some .int) 1 := ⟨⟨qTB_in (i := 216) (by decide +kernel) rfl, qTB_in (i := 66) (by decide +kernel) rfl, by decide, by decide, by decide +kernel⟩, qTB_in (i := 215) (by decide +kernel) rfl, qTB_in (i := 0) (by decide +kernel) rfl⟩
theorem ok_X_lackOf : qOV "CarelessMist" y_X_lackOf prog_1_method_47_code 2 (some .int) 1 := ⟨⟨qTB_in (i := 440) (by decide +kernel) rfl, qTB_in (i := 66) (by decide +kernel) rfl, by decide, by decide, by decide +kernel⟩, qTB_in (i := 439) (by decide +kernel) rfl, qTB_in (i := 4) (by decide +kernel) rfl⟩
theorem ok_X_tryDays : qOV "CarelessMist" y_X_tryDays prog_1_method_48_code 3 none 1 := ⟨⟨qTB_in (i := 381) (by decide +kernel) rfl, qTB_in (i := 66) (by decide +kernel) rfl, by decide, by decide, by decide +kernel⟩, qTB_in (i := 380) (by decide +kernel) rfl, qTB_in (i := 1) (by decide +kernel) rfl⟩
theorem ok_X_gotWith : qOV "CarelessMist" y_X_gotWith prog_1_method_49_code 6 (some .int) 4 := ⟨⟨qTB_in (i := 410) (by decide +kernel) rfl, qTB_in (i := 66) (by decide +kernel) rfl, by decide, by decide, by decide +kernel⟩, qTB_in (i := 409) (by decide +kernel) rfl, qTB_in (i := 3) (by decide +kernel) rfl⟩
theorem ok_X_bestForGot : qOV "CarelessMist" y_X_bestForGot prog_1_method_50_code 8 (some .int) 3 := ⟨⟨qTB_in (i := 406) (by decide +kernel) rfl, qTB_in (i := 66) (by decide +kernel) rfl, by decide, by decide, by decide +kernel⟩, qTB_in (i := 405) (by decide +kernel) rfl, qTB_in (i := 2) (by decide +kernel) rfl⟩
theorem ok_X_goesAsTold : qOV "CarelessMist" y_X_goesAsTold prog_1_method_51_code 5 (some .boolean) 3 := ⟨⟨qTB_in (i := 445) (by decide +kernel) rfl, qTB_in (i := 66) (by decide +kernel) rfl, by decide, by decide, by decide +kernel⟩, qTB_in (i := 444) (by decide +kernel) rfl, qTB_in (i := 5) (by decide +kernel) rfl⟩
theorem ok_R_finding : qOV "CarelessMistModel" y_R_finding prog_7_method_2_code 2 (some .int) 1 := ⟨⟨qTB_in (i := 771) (by decide +kernel) rfl, qTB_in (i := 71) (by decide +kernel) rfl, by decide, by decide, by decide +kernel⟩, qTB_in (i := 770) (by decide +kernel) rfl, qTB_in (i := 16) (by decide +kernel) rfl⟩
theorem ok_R_within : qOS y_R_within prog_7_method_3_code 3 (some .boolean) 3 := ⟨⟨qTB_in (i := 759) (by decide +kernel) rfl, qTB_in (i := 71) (by decide +kernel) rfl, by decide, by decide, by decide +kernel⟩, qTB_in (i := 758) (by decide +kernel) rfl⟩
theorem ok_R_become : qOV "CarelessMistModel" y_R_become prog_7_method_4_code 4 (some .int) 2 := ⟨⟨qTB_in (i := 766) (by decide +kernel) rfl, qTB_in (i := 71) (by decide +kernel) rfl, by decide, by decide, by decide +kernel⟩, qTB_in (i := 765) (by decide +kernel) rfl, qTB_in (i := 15) (by decide +kernel) rfl⟩
theorem ok_R_copyRow : qOS y_R_copyRow prog_7_method_5_code 3 none 2 := ⟨⟨qTB_in (i := 961) (by decide +kernel) rfl, qTB_in (i := 71) (by decide +kernel) rfl, by decide, by decide, by decide +kernel⟩, qTB_in (i := 960) (by decide +kernel) rfl⟩
theorem ok_R_putBack : qOV "CarelessMistModel" y_R_putBack prog_7_method_6_code 2 (some .int) 1 := ⟨⟨qTB_in (i := 965) (by decide +kernel) rfl, qTB_in (i := 71) (by decide +kernel) rfl, by decide, by decide, by decide +kernel⟩, qTB_in (i := 964) (by decide +kernel) rfl, qTB_in (i := 45) (by decide +kernel) rfl⟩
theorem ok_R_orNone : qOV "CarelessMistModel" y_R_orNone prog_7_method_7_code 2 (some .int) 1 := ⟨⟨qTB_in (i := 977) (by decide +kernel) rfl, qTB_in (i := 71) (by decide +kernel) rfl, by decide, by decide, by decide +kernel⟩, qTB_in (i := 976) (by decide +kernel) rfl, qTB_in (i := 46) (by decide +kernel) rfl⟩
theorem ok_R_bits : qOS y_R_bits prog_7_method_8_code 3 (some .int) 1 := ⟨⟨qTB_in (i := 1024) (by decide +kernel) rfl, qTB_in (i := 71) (by decide +kernel) rfl, by decide, by decide, by decide +kernel⟩, qTB_in (i := 1023) (by decide +kernel) rfl⟩
theorem ok_R_isCell : qOS y_R_isCell prog_7_method_9_code 1 (some .boolean) 1 := ⟨⟨qTB_in (i := 785) (by decide +kernel) rfl, qTB_in (i := 71) (by decide +kernel) rfl, by decide, by decide, by decide +kernel⟩, qTB_in (i := 784) (by decide +kernel) rfl⟩
theorem ok_R_isAim : qOS y_R_isAim prog_7_method_10_code 1 (some .boolean) 1 := ⟨⟨qTB_in (i := 762) (by decide +kernel) rfl, qTB_in (i := 71) (by decide +kernel) rfl, by decide, by decide, by decide +kernel⟩, qTB_in (i := 761) (by decide +kernel) rfl⟩
theorem ok_R_isSet : qOS y_R_isSet prog_7_method_11_code 1 (some .boolean) 1 := ⟨⟨qTB_in (i := 861) (by decide +kernel) rfl, qTB_in (i := 71) (by decide +kernel) rfl, by decide, by decide, by decide +kernel⟩, qTB_in (i := 860) (by decide +kernel) rfl⟩
theorem ok_R_isPace : qOS y_R_isPace prog_7_method_12_code 1 (some .boolean) 1 := ⟨⟨qTB_in (i := 858) (by decide +kernel) rfl, qTB_in (i := 71) (by decide +kernel) rfl, by decide, by decide, by decide +kernel⟩, qTB_in (i := 857) (by decide +kernel) rfl⟩
theorem ok_R_isPlace : qOS y_R_isPlace prog_7_method_13_code 1 (some .boolean) 1 := ⟨⟨qTB_in (i := 756) (by decide +kernel) rfl, qTB_in (i := 71) (by decide +kernel) rfl, by decide, by decide, by decide +kernel⟩, qTB_in (i := 755) (by decide +kernel) rfl⟩
theorem ok_R_turn : qOV "CarelessMistModel" y_R_turn prog_7_method_14_code 4 (some .int) 3 := ⟨⟨qTB_in (i := 753) (by decide +kernel) rfl, qTB_in (i := 71) (by decide +kernel) rfl, by decide, by decide, by decide +kernel⟩, qTB_in (i := 751) (by decide +kernel) rfl, qTB_in (i := 752) (by decide +kernel) rfl⟩
theorem ok_R_listed : qOV "CarelessMistModel" y_R_listed prog_7_method_15_code 2 (some .int) 1 := ⟨⟨qTB_in (i := 775) (by decide +kernel) rfl, qTB_in (i := 71) (by decide +kernel) rfl, by decide, by decide, by decide +kernel⟩, qTB_in (i := 773) (by decide +kernel) rfl, qTB_in (i := 774) (by decide +kernel) rfl⟩
theorem ok_R_placeNow : qOV "CarelessMistModel" y_R_placeNow prog_7_method_16_code 1 (some .int) 0 := ⟨⟨qTB_in (i := 900) (by decide +kernel) rfl, qTB_in (i := 71) (by decide +kernel) rfl, by decide, by decide, by decide +kernel⟩, qTB_in (i := 899) (by decide +kernel) rfl, qTB_in (i := 32) (by decide +kernel) rfl⟩
theorem ok_R_thingAt : qOS y_R_thingAt prog_7_method_17_code 2 (some .int) 2 := ⟨⟨qTB_in (i := 793) (by decide +kernel) rfl, qTB_in (i := 71) (by decide +kernel) rfl, by decide, by decide, by decide +kernel⟩, qTB_in (i := 792) (by decide +kernel) rfl⟩
theorem ok_R_thingIs : qOV "CarelessMistModel" y_R_thingIs prog_7_method_18_code 3 (some .int) 2 := ⟨⟨qTB_in (i := 824) (by decide +kernel) rfl, qTB_in (i := 71) (by decide +kernel) rfl, by decide, by decide, by decide +kernel⟩, qTB_in (i := 823) (by decide +kernel) rfl, qTB_in (i := 22) (by decide +kernel) rfl⟩
theorem ok_R_isThing : qOV "CarelessMistModel" y_R_isThing prog_7_method_19_code 2 (some .boolean) 1 := ⟨⟨qTB_in (i := 812) (by decide +kernel) rfl, qTB_in (i := 71) (by decide +kernel) rfl, by decide, by decide, by decide +kernel⟩, qTB_in (i := 811) (by decide +kernel) rfl, qTB_in (i := 19) (by decide +kernel) rfl⟩
theorem ok_R_walkerAt : qOS y_R_walkerAt prog_7_method_20_code 2 (some .int) 2 := ⟨⟨qTB_in (i := 804) (by decide +kernel) rfl, qTB_in (i := 71) (by decide +kernel) rfl, by decide, by decide, by decide +kernel⟩, qTB_in (i := 803) (by decide +kernel) rfl⟩
theorem ok_R_walkerIs : qOV "CarelessMistModel" y_R_walkerIs prog_7_method_21_code 3 (some .int) 2 := ⟨⟨qTB_in (i := 848) (by decide +kernel) rfl, qTB_in (i := 71) (by decide +kernel) rfl, by decide, by decide, by decide +kernel⟩, qTB_in (i := 847) (by decide +kernel) rfl, qTB_in (i := 26) (by decide +kernel) rfl⟩
theorem ok_R_isWalker : qOV "CarelessMistModel" y_R_isWalker prog_7_method_22_code 2 (some .boolean) 1 := ⟨⟨qTB_in (i := 844) (by decide +kernel) rfl, qTB_in (i := 71) (by decide +kernel) rfl, by decide, by decide, by decide +kernel⟩, qTB_in (i := 843) (by decide +kernel) rfl, qTB_in (i := 25) (by decide +kernel) rfl⟩
theorem ok_R_isKind : qOS y_R_isKind prog_7_method_23_code 1 (some .boolean) 1 := ⟨⟨qTB_in (i := 782) (by decide +kernel) rfl, qTB_in (i := 71) (by decide +kernel) rfl, by decide, by decide, by decide +kernel⟩, qTB_in (i := 781) (by decide +kernel) rfl⟩
theorem ok_R_comes : qOV "CarelessMistModel" y_R_comes prog_7_method_24_code 4 (some .int) 2 := ⟨⟨qTB_in (i := 790) (by decide +kernel) rfl, qTB_in (i := 71) (by decide +kernel) rfl, by decide, by decide, by decide +kernel⟩, qTB_in (i := 789) (by decide +kernel) rfl, qTB_in (i := 17) (by decide +kernel) rfl⟩
theorem ok_R_thing : qOV "CarelessMistModel" y_R_thing prog_7_method_25_code 3 (some .int) 2 := ⟨⟨qTB_in (i := 779) (by decide +kernel) rfl, qTB_in (i := 71) (by decide +kernel) rfl, by decide, by decide, by decide +kernel⟩, qTB_in (i := 777) (by decide +kernel) rfl, qTB_in (i := 778) (by decide +kernel) rfl⟩
theorem ok_R_setsOut : qOV "CarelessMistModel" y_R_setsOut prog_7_method_26_code 5 (some .int) 2 := ⟨⟨qTB_in (i := 801) (by decide +kernel) rfl, qTB_in (i := 71) (by decide +kernel) rfl, by decide, by decide, by decide +kernel⟩, qTB_in (i := 800) (by decide +kernel) rfl, qTB_in (i := 18) (by decide +kernel) rfl⟩
theorem ok_R_walker : qOV "CarelessMistModel" y_R_walker prog_7_method_27_code 3 (some .int) 2 := ⟨⟨qTB_in (i := 797) (by decide +kernel) rfl, qTB_in (i := 71) (by decide +kernel) rfl, by decide, by decide, by decide +kernel⟩, qTB_in (i := 795) (by decide +kernel) rfl, qTB_in (i := 796) (by decide +kernel) rfl⟩
theorem ok_R_clear : qOV "CarelessMistModel" y_R_clear prog_7_method_28_code 2 (some .int) 1 := ⟨⟨qTB_in (i := 820) (by decide +kernel) rfl, qTB_in (i := 71) (by decide +kernel) rfl, by decide, by decide, by decide +kernel⟩, qTB_in (i := 819) (by decide +kernel) rfl, qTB_in (i := 21) (by decide +kernel) rfl⟩
theorem ok_R_dim : qOV "CarelessMistModel" y_R_dim prog_7_method_29_code 2 (some .int) 1 := ⟨⟨qTB_in (i := 828) (by decide +kernel) rfl, qTB_in (i := 71) (by decide +kernel) rfl, by decide, by decide, by decide +kernel⟩, qTB_in (i := 827) (by decide +kernel) rfl, qTB_in (i := 23) (by decide +kernel) rfl⟩
theorem ok_R_moves : qOV "CarelessMistModel" y_R_moves prog_7_method_30_code 3 (some .int) 1 := ⟨⟨qTB_in (i := 832) (by decide +kernel) rfl, qTB_in (i := 71) (by decide +kernel) rfl, by decide, by decide, by decide +kernel⟩, qTB_in (i := 831) (by decide +kernel) rfl, qTB_in (i := 24) (by decide +kernel) rfl⟩
theorem ok_R_touches : qOV "CarelessMistModel" y_R_touches prog_7_method_31_code 3 (some .boolean) 2 := ⟨⟨qTB_in (i := 922) (by decide +kernel) rfl, qTB_in (i := 71) (by decide +kernel) rfl, by decide, by decide, by decide +kernel⟩, qTB_in (i := 921) (by decide +kernel) rfl, qTB_in (i := 37) (by decide +kernel) rfl⟩
theorem ok_R_told : qOV "CarelessMistModel" y_R_told prog_7_method_32_code 3 (some .int) 2 := ⟨⟨qTB_in (i := 816) (by decide +kernel) rfl, qTB_in (i := 71) (by decide +kernel) rfl, by decide, by decide, by decide +kernel⟩, qTB_in (i := 815) (by decide +kernel) rfl, qTB_in (i := 20) (by decide +kernel) rfl⟩
theorem ok_R_of : qOV "CarelessMistModel" y_R_of prog_7_method_33_code 3 (some .int) 2 := ⟨⟨qTB_in (i := 808) (by decide +kernel) rfl, qTB_in (i := 71) (by decide +kernel) rfl, by decide, by decide, by decide +kernel⟩, qTB_in (i := 806) (by decide +kernel) rfl, qTB_in (i := 807) (by decide +kernel) rfl⟩
theorem ok_R_change : qOV "CarelessMistModel" y_R_change prog_7_method_34_code 5 (some .int) 3 := ⟨⟨qTB_in (i := 836) (by decide +kernel) rfl, qTB_in (i := 71) (by decide +kernel) rfl, by decide, by decide, by decide +kernel⟩, qTB_in (i := 834) (by decide +kernel) rfl, qTB_in (i := 835) (by decide +kernel) rfl⟩
theorem ok_R_ofWalker : qOV "CarelessMistModel" y_R_ofWalker prog_7_method_35_code 3 (some .int) 2 := ⟨⟨qTB_in (i := 840) (by decide +kernel) rfl, qTB_in (i := 71) (by decide +kernel) rfl, by decide, by decide, by decide +kernel⟩, qTB_in (i := 838) (by decide +kernel) rfl, qTB_in (i := 839) (by decide +kernel) rfl⟩
theorem ok_R_isField : qOS y_R_isField prog_7_method_36_code 2 (some .boolean) 2 := ⟨⟨qTB_in (i := 855) (by decide +kernel) rfl, qTB_in (i := 71) (by decide +kernel) rfl, by decide, by decide, by decide +kernel⟩, qTB_in (i := 854) (by decide +kernel) rfl⟩
theorem ok_R_lead : qOV "CarelessMistModel" y_R_lead prog_7_method_37_code 4 (some .int) 3 := ⟨⟨qTB_in (i := 852) (by decide +kernel) rfl, qTB_in (i := 71) (by decide +kernel) rfl, by decide, by decide, by decide +kernel⟩, qTB_in (i := 850) (by decide +kernel) rfl, qTB_in (i := 851) (by decide +kernel) rfl⟩
theorem ok_R_doesCare : qOV "CarelessMistModel" y_R_doesCare prog_7_method_38_code 3 (some .boolean) 2 := ⟨⟨qTB_in (i := 874) (by decide +kernel) rfl, qTB_in (i := 71) (by decide +kernel) rfl, by decide, by decide, by decide +kernel⟩, qTB_in (i := 873) (by decide +kernel) rfl, qTB_in (i := 28) (by decide +kernel) rfl⟩
theorem ok_R_doesSee : qOV "CarelessMistModel" y_R_doesSee prog_7_method_39_code 4 (some .boolean) 2 := ⟨⟨qTB_in (i := 869) (by decide +kernel) rfl, qTB_in (i := 71) (by decide +kernel) rfl, by decide, by decide, by decide +kernel⟩, qTB_in (i := 868) (by decide +kernel) rfl, qTB_in (i := 27) (by decide +kernel) rfl⟩
theorem ok_R_sees : qOV "CarelessMistModel" y_R_sees prog_7_method_40_code 4 (some .int) 1 := ⟨⟨qTB_in (i := 865) (by decide +kernel) rfl, qTB_in (i := 71) (by decide +kernel) rfl, by decide, by decide, by decide +kernel⟩, qTB_in (i := 863) (by decide +kernel) rfl, qTB_in (i := 864) (by decide +kernel) rfl⟩
theorem ok_R_seers : qOV "CarelessMistModel" y_R_seers prog_7_method_41_code 4 (some .int) 1 := ⟨⟨qTB_in (i := 882) (by decide +kernel) rfl, qTB_in (i := 71) (by decide +kernel) rfl, by decide, by decide, by decide +kernel⟩, qTB_in (i := 881) (by decide +kernel) rfl, qTB_in (i := 29) (by decide +kernel) rfl⟩
theorem ok_R_seenBy : qOV "CarelessMistModel" y_R_seenBy prog_7_method_42_code 2 (some .int) 1 := ⟨⟨qTB_in (i := 878) (by decide +kernel) rfl, qTB_in (i := 71) (by decide +kernel) rfl, by decide, by decide, by decide +kernel⟩, qTB_in (i := 876) (by decide +kernel) rfl, qTB_in (i := 877) (by decide +kernel) rfl⟩
theorem ok_R_isGuided : qOV "CarelessMistModel" y_R_isGuided prog_7_method_43_code 5 (some .boolean) 2 := ⟨⟨qTB_in (i := 912) (by decide +kernel) rfl, qTB_in (i := 71) (by decide +kernel) rfl, by decide, by decide, by decide +kernel⟩, qTB_in (i := 911) (by decide +kernel) rfl, qTB_in (i := 35) (by decide +kernel) rfl⟩
theorem ok_R_more : qOV "CarelessMistModel" y_R_more prog_7_method_44_code 4 none 3 := ⟨⟨qTB_in (i := 918) (by decide +kernel) rfl, qTB_in (i := 71) (by decide +kernel) rfl, by decide, by decide, by decide +kernel⟩, qTB_in (i := 917) (by decide +kernel) rfl, qTB_in (i := 36) (by decide +kernel) rfl⟩
theorem ok_R_cares : qOV "CarelessMistModel" y_R_cares prog_7_method_45_code 4 none 3 := ⟨⟨qTB_in (i := 904) (by decide +kernel) rfl, qTB_in (i := 71) (by decide +kernel) rfl, by decide, by decide, by decide +kernel⟩, qTB_in (i := 903) (by decide +kernel) rfl, qTB_in (i := 33) (by decide +kernel) rfl⟩
theorem ok_R_walks : qOV "CarelessMistModel" y_R_walks prog_7_method_46_code 6 none 2 := ⟨⟨qTB_in (i := 908) (by decide +kernel) rfl, qTB_in (i := 71) (by decide +kernel) rfl, by decide, by decide, by decide +kernel⟩, qTB_in (i := 907) (by decide +kernel) rfl, qTB_in (i := 34) (by decide +kernel) rfl⟩
theorem ok_R_day : qOV "CarelessMistModel" y_R_day prog_7_method_47_code 4 none 0 := ⟨⟨qTB_in (i := 896) (by decide +kernel) rfl, qTB_in (i := 71) (by decide +kernel) rfl, by decide, by decide, by decide +kernel⟩, qTB_in (i := 895) (by decide +kernel) rfl, qTB_in (i := 31) (by decide +kernel) rfl⟩
theorem ok_R_daysGo : qOV "CarelessMistModel" y_R_daysGo prog_7_method_48_code 3 none 1 := ⟨⟨qTB_in (i := 892) (by decide +kernel) rfl, qTB_in (i := 71) (by decide +kernel) rfl, by decide, by decide, by decide +kernel⟩, qTB_in (i := 891) (by decide +kernel) rfl, qTB_in (i := 30) (by decide +kernel) rfl⟩
theorem ok_R_sumOf : qOV "CarelessMistModel" y_R_sumOf prog_7_method_49_code 4 (some .int) 1 := ⟨⟨qTB_in (i := 926) (by decide +kernel) rfl, qTB_in (i := 71) (by decide +kernel) rfl, by decide, by decide, by decide +kernel⟩, qTB_in (i := 925) (by decide +kernel) rfl, qTB_in (i := 38) (by decide +kernel) rfl⟩
theorem ok_R_go : qOV "CarelessMistModel" y_R_go prog_7_method_50_code 2 (some .int) 1 := ⟨⟨qTB_in (i := 886) (by decide +kernel) rfl, qTB_in (i := 71) (by decide +kernel) rfl, by decide, by decide, by decide +kernel⟩, qTB_in (i := 884) (by decide +kernel) rfl, qTB_in (i := 885) (by decide +kernel) rfl⟩
theorem ok_R_goingOnes : qOV "CarelessMistModel" y_R_goingOnes prog_7_method_51_code 4 (some .int) 0 := ⟨⟨qTB_in (i := 934) (by decide +kernel) rfl, qTB_in (i := 71) (by decide +kernel) rfl, by decide, by decide, by decide +kernel⟩, qTB_in (i := 933) (by decide +kernel) rfl, qTB_in (i := 39) (by decide +kernel) rfl⟩
theorem ok_R_caredFor : qOV "CarelessMistModel" y_R_caredFor prog_7_method_52_code 3 (some .int) 0 := ⟨⟨qTB_in (i := 938) (by decide +kernel) rfl, qTB_in (i := 71) (by decide +kernel) rfl, by decide, by decide, by decide +kernel⟩, qTB_in (i := 937) (by decide +kernel) rfl, qTB_in (i := 40) (by decide +kernel) rfl⟩
theorem ok_R_walkersCells : qOV "CarelessMistModel" y_R_walkersCells prog_7_method_53_code 3 (some .int) 0 := ⟨⟨qTB_in (i := 942) (by decide +kernel) rfl, qTB_in (i := 71) (by decide +kernel) rfl, by decide, by decide, by decide +kernel⟩, qTB_in (i := 941) (by decide +kernel) rfl, qTB_in (i := 41) (by decide +kernel) rfl⟩
theorem ok_R_thingsCells : qOV "CarelessMistModel" y_R_thingsCells prog_7_method_54_code 3 (some .int) 0 := ⟨⟨qTB_in (i := 946) (by decide +kernel) rfl, qTB_in (i := 71) (by decide +kernel) rfl, by decide, by decide, by decide +kernel⟩, qTB_in (i := 945) (by decide +kernel) rfl, qTB_in (i := 42) (by decide +kernel) rfl⟩
theorem ok_R_unseen : qOV "CarelessMistModel" y_R_unseen prog_7_method_55_code 3 (some .int) 0 := ⟨⟨qTB_in (i := 950) (by decide +kernel) rfl, qTB_in (i := 71) (by decide +kernel) rfl, by decide, by decide, by decide +kernel⟩, qTB_in (i := 949) (by decide +kernel) rfl, qTB_in (i := 43) (by decide +kernel) rfl⟩
theorem ok_R_now : qOV "CarelessMistModel" y_R_now prog_7_method_56_code 2 (some .int) 1 := ⟨⟨qTB_in (i := 930) (by decide +kernel) rfl, qTB_in (i := 71) (by decide +kernel) rfl, by decide, by decide, by decide +kernel⟩, qTB_in (i := 928) (by decide +kernel) rfl, qTB_in (i := 929) (by decide +kernel) rfl⟩
theorem ok_R_behind : qOV "CarelessMistModel" y_R_behind prog_7_method_57_code 3 (some .int) 2 := ⟨⟨qTB_in (i := 958) (by decide +kernel) rfl, qTB_in (i := 71) (by decide +kernel) rfl, by decide, by decide, by decide +kernel⟩, qTB_in (i := 957) (by decide +kernel) rfl, qTB_in (i := 44) (by decide +kernel) rfl⟩
theorem ok_R_ahead : qOV "CarelessMistModel" y_R_ahead prog_7_method_58_code 4 (some .int) 3 := ⟨⟨qTB_in (i := 954) (by decide +kernel) rfl, qTB_in (i := 71) (by decide +kernel) rfl, by decide, by decide, by decide +kernel⟩, qTB_in (i := 952) (by decide +kernel) rfl, qTB_in (i := 953) (by decide +kernel) rfl⟩
theorem ok_R_later : qOV "CarelessMistModel" y_R_later prog_7_method_59_code 5 (some .int) 3 := ⟨⟨qTB_in (i := 969) (by decide +kernel) rfl, qTB_in (i := 71) (by decide +kernel) rfl, by decide, by decide, by decide +kernel⟩, qTB_in (i := 967) (by decide +kernel) rfl, qTB_in (i := 968) (by decide +kernel) rfl⟩
theorem ok_R_arrives : qOV "CarelessMistModel" y_R_arrives prog_7_method_60_code 4 (some .int) 2 := ⟨⟨qTB_in (i := 973) (by decide +kernel) rfl, qTB_in (i := 71) (by decide +kernel) rfl, by decide, by decide, by decide +kernel⟩, qTB_in (i := 971) (by decide +kernel) rfl, qTB_in (i := 972) (by decide +kernel) rfl⟩
theorem ok_R_spies : qOV "CarelessMistModel" y_R_spies prog_7_method_61_code 4 (some .int) 2 := ⟨⟨qTB_in (i := 982) (by decide +kernel) rfl, qTB_in (i := 71) (by decide +kernel) rfl, by decide, by decide, by decide +kernel⟩, qTB_in (i := 980) (by decide +kernel) rfl, qTB_in (i := 981) (by decide +kernel) rfl⟩
theorem ok_R_areTogether : qOV "CarelessMistModel" y_R_areTogether prog_7_method_62_code 3 (some .boolean) 2 := ⟨⟨qTB_in (i := 990) (by decide +kernel) rfl, qTB_in (i := 71) (by decide +kernel) rfl, by decide, by decide, by decide +kernel⟩, qTB_in (i := 989) (by decide +kernel) rfl, qTB_in (i := 47) (by decide +kernel) rfl⟩
theorem ok_R_meet : qOV "CarelessMistModel" y_R_meet prog_7_method_63_code 4 (some .int) 2 := ⟨⟨qTB_in (i := 986) (by decide +kernel) rfl, qTB_in (i := 71) (by decide +kernel) rfl, by decide, by decide, by decide +kernel⟩, qTB_in (i := 984) (by decide +kernel) rfl, qTB_in (i := 985) (by decide +kernel) rfl⟩
theorem ok_R_isThought : qOS y_R_isThought prog_7_method_64_code 1 (some .boolean) 1 := ⟨⟨qTB_in (i := 997) (by decide +kernel) rfl, qTB_in (i := 71) (by decide +kernel) rfl, by decide, by decide, by decide +kernel⟩, qTB_in (i := 996) (by decide +kernel) rfl⟩
theorem ok_R_mostFor : qOV "CarelessMistModel" y_R_mostFor prog_7_method_65_code 10 (some .int) 4 := ⟨⟨qTB_in (i := 1001) (by decide +kernel) rfl, qTB_in (i := 71) (by decide +kernel) rfl, by decide, by decide, by decide +kernel⟩, qTB_in (i := 1000) (by decide +kernel) rfl, qTB_in (i := 48) (by decide +kernel) rfl⟩
theorem ok_R_startFor : qOV "CarelessMistModel" y_R_startFor prog_7_method_66_code 3 (some .int) 2 := ⟨⟨qTB_in (i := 994) (by decide +kernel) rfl, qTB_in (i := 71) (by decide +kernel) rfl, by decide, by decide, by decide +kernel⟩, qTB_in (i := 992) (by decide +kernel) rfl, qTB_in (i := 993) (by decide +kernel) rfl⟩
theorem ok_R_aimFor : qOV "CarelessMistModel" y_R_aimFor prog_7_method_67_code 3 (some .int) 2 := ⟨⟨qTB_in (i := 1005) (by decide +kernel) rfl, qTB_in (i := 71) (by decide +kernel) rfl, by decide, by decide, by decide +kernel⟩, qTB_in (i := 1003) (by decide +kernel) rfl, qTB_in (i := 1004) (by decide +kernel) rfl⟩
theorem ok_R_kindFor : qOV "CarelessMistModel" y_R_kindFor prog_7_method_68_code 3 (some .int) 2 := ⟨⟨qTB_in (i := 1009) (by decide +kernel) rfl, qTB_in (i := 71) (by decide +kernel) rfl, by decide, by decide, by decide +kernel⟩, qTB_in (i := 1007) (by decide +kernel) rfl, qTB_in (i := 1008) (by decide +kernel) rfl⟩
theorem ok_R_getsThere : qOV "CarelessMistModel" y_R_getsThere prog_7_method_69_code 3 (some .boolean) 2 := ⟨⟨qTB_in (i := 1017) (by decide +kernel) rfl, qTB_in (i := 71) (by decide +kernel) rfl, by decide, by decide, by decide +kernel⟩, qTB_in (i := 1016) (by decide +kernel) rfl, qTB_in (i := 49) (by decide +kernel) rfl⟩
theorem ok_R_paceFor : qOV "CarelessMistModel" y_R_paceFor prog_7_method_70_code 7 (some .int) 2 := ⟨⟨qTB_in (i := 1013) (by decide +kernel) rfl, qTB_in (i := 71) (by decide +kernel) rfl, by decide, by decide, by decide +kernel⟩, qTB_in (i := 1011) (by decide +kernel) rfl, qTB_in (i := 1012) (by decide +kernel) rfl⟩
theorem ok_R_giveUp : qOV "CarelessMistModel" y_R_giveUp prog_7_method_71_code 7 (some .int) 2 := ⟨⟨qTB_in (i := 1021) (by decide +kernel) rfl, qTB_in (i := 71) (by decide +kernel) rfl, by decide, by decide, by decide +kernel⟩, qTB_in (i := 1019) (by decide +kernel) rfl, qTB_in (i := 1020) (by decide +kernel) rfl⟩
theorem ok_R_lacks : qOV "CarelessMistModel" y_R_lacks prog_7_method_72_code 3 (some .int) 2 := ⟨⟨qTB_in (i := 1032) (by decide +kernel) rfl, qTB_in (i := 71) (by decide +kernel) rfl, by decide, by decide, by decide +kernel⟩, qTB_in (i := 1031) (by decide +kernel) rfl, qTB_in (i := 50) (by decide +kernel) rfl⟩
theorem ok_R_isSo : qOV "CarelessMistModel" y_R_isSo prog_7_method_73_code 6 (some .boolean) 2 := ⟨⟨qTB_in (i := 1044) (by decide +kernel) rfl, qTB_in (i := 71) (by decide +kernel) rfl, by decide, by decide, by decide +kernel⟩, qTB_in (i := 1043) (by decide +kernel) rfl, qTB_in (i := 52) (by decide +kernel) rfl⟩
theorem ok_R_fitting : qOV "CarelessMistModel" y_R_fitting prog_7_method_74_code 8 (some .int) 4 := ⟨⟨qTB_in (i := 1040) (by decide +kernel) rfl, qTB_in (i := 71) (by decide +kernel) rfl, by decide, by decide, by decide +kernel⟩, qTB_in (i := 1039) (by decide +kernel) rfl, qTB_in (i := 51) (by decide +kernel) rfl⟩
theorem ok_R_fits : qOV "CarelessMistModel" y_R_fits prog_7_method_75_code 4 (some .int) 2 := ⟨⟨qTB_in (i := 1028) (by decide +kernel) rfl, qTB_in (i := 71) (by decide +kernel) rfl, by decide, by decide, by decide +kernel⟩, qTB_in (i := 1026) (by decide +kernel) rfl, qTB_in (i := 1027) (by decide +kernel) rfl⟩
theorem ok_R_kinds : qOV "CarelessMistModel" y_R_kinds prog_7_method_76_code 4 (some .int) 2 := ⟨⟨qTB_in (i := 1048) (by decide +kernel) rfl, qTB_in (i := 71) (by decide +kernel) rfl, by decide, by decide, by decide +kernel⟩, qTB_in (i := 1046) (by decide +kernel) rfl, qTB_in (i := 1047) (by decide +kernel) rfl⟩
theorem ok_R_drawn : qOV "CarelessMistModel" y_R_drawn prog_7_method_77_code 1 (some .int) 0 := ⟨⟨qTB_in (i := 1056) (by decide +kernel) rfl, qTB_in (i := 71) (by decide +kernel) rfl, by decide, by decide, by decide +kernel⟩, qTB_in (i := 1055) (by decide +kernel) rfl, qTB_in (i := 53) (by decide +kernel) rfl⟩
theorem ok_R_morning : qOV "CarelessMistModel" y_R_morning prog_7_method_78_code 5 (some .int) 1 := ⟨⟨qTB_in (i := 1052) (by decide +kernel) rfl, qTB_in (i := 71) (by decide +kernel) rfl, by decide, by decide, by decide +kernel⟩, qTB_in (i := 1050) (by decide +kernel) rfl, qTB_in (i := 1051) (by decide +kernel) rfl⟩
theorem ok_R_odds : qOV "CarelessMistModel" y_R_odds prog_7_method_79_code 13 (some .long) 4 := ⟨⟨qTB_in (i := 1061) (by decide +kernel) rfl, qTB_in (i := 71) (by decide +kernel) rfl, by decide, by decide, by decide +kernel⟩, qTB_in (i := 1059) (by decide +kernel) rfl, qTB_in (i := 1060) (by decide +kernel) rfl⟩
theorem ok_R_seed : qOV "CarelessMistModel" y_R_seed prog_7_method_80_code 2 (some .int) 1 := ⟨⟨qTB_in (i := 1065) (by decide +kernel) rfl, qTB_in (i := 71) (by decide +kernel) rfl, by decide, by decide, by decide +kernel⟩, qTB_in (i := 1063) (by decide +kernel) rfl, qTB_in (i := 1064) (by decide +kernel) rfl⟩
theorem ok_R_feed : qOV "CarelessMistModel" y_R_feed prog_7_method_81_code 4 (some .int) 2 := ⟨⟨qTB_in (i := 1069) (by decide +kernel) rfl, qTB_in (i := 71) (by decide +kernel) rfl, by decide, by decide, by decide +kernel⟩, qTB_in (i := 1067) (by decide +kernel) rfl, qTB_in (i := 1068) (by decide +kernel) rfl⟩
theorem ok_R_wipe : qOV "CarelessMistModel" y_R_wipe prog_7_method_82_code 2 (some .int) 0 := ⟨⟨qTB_in (i := 1073) (by decide +kernel) rfl, qTB_in (i := 71) (by decide +kernel) rfl, by decide, by decide, by decide +kernel⟩, qTB_in (i := 1071) (by decide +kernel) rfl, qTB_in (i := 1072) (by decide +kernel) rfl⟩
theorem ok_R_byteAt : qOV "CarelessMistModel" y_R_byteAt prog_7_method_83_code 2 (some .int) 1 := ⟨⟨qTB_in (i := 1085) (by decide +kernel) rfl, qTB_in (i := 71) (by decide +kernel) rfl, by decide, by decide, by decide +kernel⟩, qTB_in (i := 1084) (by decide +kernel) rfl, qTB_in (i := 55) (by decide +kernel) rfl⟩
theorem ok_R_token : qOV "CarelessMistModel" y_R_token prog_7_method_84_code 2 none 0 := ⟨⟨qTB_in (i := 1081) (by decide +kernel) rfl, qTB_in (i := 71) (by decide +kernel) rfl, by decide, by decide, by decide +kernel⟩, qTB_in (i := 1080) (by decide +kernel) rfl, qTB_in (i := 54) (by decide +kernel) rfl⟩
theorem ok_R_isWord : qOV "CarelessMistModel" y_R_isWord prog_7_method_85_code 4 (some .boolean) 1 := ⟨⟨qTB_in (i := 1093) (by decide +kernel) rfl, qTB_in (i := 71) (by decide +kernel) rfl, by decide, by decide, by decide +kernel⟩, qTB_in (i := 1092) (by decide +kernel) rfl, qTB_in (i := 57) (by decide +kernel) rfl⟩
theorem ok_R_must : qOV "CarelessMistModel" y_R_must prog_7_method_86_code 2 none 1 := ⟨⟨qTB_in (i := 1103) (by decide +kernel) rfl, qTB_in (i := 71) (by decide +kernel) rfl, by decide, by decide, by decide +kernel⟩, qTB_in (i := 1102) (by decide +kernel) rfl, qTB_in (i := 59) (by decide +kernel) rfl⟩
theorem ok_R_number : qOV "CarelessMistModel" y_R_number prog_7_method_87_code 4 (some .int) 2 := ⟨⟨qTB_in (i := 1107) (by decide +kernel) rfl, qTB_in (i := 71) (by decide +kernel) rfl, by decide, by decide, by decide +kernel⟩, qTB_in (i := 1106) (by decide +kernel) rfl, qTB_in (i := 60) (by decide +kernel) rfl⟩
theorem ok_R_addItem : qOV "CarelessMistModel" y_R_addItem prog_7_method_88_code 7 none 5 := ⟨⟨qTB_in (i := 1111) (by decide +kernel) rfl, qTB_in (i := 71) (by decide +kernel) rfl, by decide, by decide, by decide +kernel⟩, qTB_in (i := 1110) (by decide +kernel) rfl, qTB_in (i := 61) (by decide +kernel) rfl⟩
theorem ok_R_takesWord : qOV "CarelessMistModel" y_R_takesWord prog_7_method_89_code 3 (some .boolean) 1 := ⟨⟨qTB_in (i := 1121) (by decide +kernel) rfl, qTB_in (i := 71) (by decide +kernel) rfl, by decide, by decide, by decide +kernel⟩, qTB_in (i := 1120) (by decide +kernel) rfl, qTB_in (i := 63) (by decide +kernel) rfl⟩
theorem ok_R_readThing : qOV "CarelessMistModel" y_R_readThing prog_7_method_90_code 2 none 1 := ⟨⟨qTB_in (i := 1099) (by decide +kernel) rfl, qTB_in (i := 71) (by decide +kernel) rfl, by decide, by decide, by decide +kernel⟩, qTB_in (i := 1098) (by decide +kernel) rfl, qTB_in (i := 58) (by decide +kernel) rfl⟩
theorem ok_R_readWalker : qOV "CarelessMistModel" y_R_readWalker prog_7_method_91_code 4 none 0 := ⟨⟨qTB_in (i := 1116) (by decide +kernel) rfl, qTB_in (i := 71) (by decide +kernel) rfl, by decide, by decide, by decide +kernel⟩, qTB_in (i := 1115) (by decide +kernel) rfl, qTB_in (i := 62) (by decide +kernel) rfl⟩
theorem ok_R_readItem : qOV "CarelessMistModel" y_R_readItem prog_7_method_92_code 4 none 0 := ⟨⟨qTB_in (i := 1089) (by decide +kernel) rfl, qTB_in (i := 71) (by decide +kernel) rfl, by decide, by decide, by decide +kernel⟩, qTB_in (i := 1088) (by decide +kernel) rfl, qTB_in (i := 56) (by decide +kernel) rfl⟩
theorem ok_R_isToldSo : qOV "CarelessMistModel" y_R_isToldSo prog_7_method_93_code 6 none 1 := ⟨⟨qTB_in (i := 1127) (by decide +kernel) rfl, qTB_in (i := 71) (by decide +kernel) rfl, by decide, by decide, by decide +kernel⟩, qTB_in (i := 1126) (by decide +kernel) rfl, qTB_in (i := 64) (by decide +kernel) rfl⟩
theorem ok_R_text : qOV "CarelessMistModel" y_R_text prog_7_method_94_code 2 (some .int) 0 := ⟨⟨qTB_in (i := 1077) (by decide +kernel) rfl, qTB_in (i := 71) (by decide +kernel) rfl, by decide, by decide, by decide +kernel⟩, qTB_in (i := 1075) (by decide +kernel) rfl, qTB_in (i := 1076) (by decide +kernel) rfl⟩
theorem ok_R_isSpot : qOS y_R_isSpot prog_7_method_95_code 1 (some .boolean) 1 := ⟨⟨qTB_in (i := 1134) (by decide +kernel) rfl, qTB_in (i := 71) (by decide +kernel) rfl, by decide, by decide, by decide +kernel⟩, qTB_in (i := 1133) (by decide +kernel) rfl⟩
theorem ok_R_hold : qOV "CarelessMistModel" y_R_hold prog_7_method_96_code 3 (some .int) 2 := ⟨⟨qTB_in (i := 1131) (by decide +kernel) rfl, qTB_in (i := 71) (by decide +kernel) rfl, by decide, by decide, by decide +kernel⟩, qTB_in (i := 1129) (by decide +kernel) rfl, qTB_in (i := 1130) (by decide +kernel) rfl⟩
theorem ok_R_as : qOV "CarelessMistModel" y_R_as prog_7_method_97_code 4 (some .int) 2 := ⟨⟨qTB_in (i := 1138) (by decide +kernel) rfl, qTB_in (i := 71) (by decide +kernel) rfl, by decide, by decide, by decide +kernel⟩, qTB_in (i := 1136) (by decide +kernel) rfl, qTB_in (i := 1137) (by decide +kernel) rfl⟩
theorem ok_R_isSheet : qOS y_R_isSheet prog_7_method_98_code 1 (some .boolean) 1 := ⟨⟨qTB_in (i := 1035) (by decide +kernel) rfl, qTB_in (i := 71) (by decide +kernel) rfl, by decide, by decide, by decide +kernel⟩, qTB_in (i := 1034) (by decide +kernel) rfl⟩
theorem ok_R_cutTo : qOS y_R_cutTo prog_7_method_99_code 2 (some .int) 2 := ⟨⟨qTB_in (i := 1157) (by decide +kernel) rfl, qTB_in (i := 71) (by decide +kernel) rfl, by decide, by decide, by decide +kernel⟩, qTB_in (i := 1156) (by decide +kernel) rfl⟩
theorem ok_R_sheet : qOV "CarelessMistModel" y_R_sheet prog_7_method_100_code 5 (some .int) 3 := ⟨⟨qTB_in (i := 1149) (by decide +kernel) rfl, qTB_in (i := 71) (by decide +kernel) rfl, by decide, by decide, by decide +kernel⟩, qTB_in (i := 1147) (by decide +kernel) rfl, qTB_in (i := 1148) (by decide +kernel) rfl⟩
theorem ok_R_write : qOV "CarelessMistModel" y_R_write prog_7_method_101_code 4 (some .int) 3 := ⟨⟨qTB_in (i := 1154) (by decide +kernel) rfl, qTB_in (i := 71) (by decide +kernel) rfl, by decide, by decide, by decide +kernel⟩, qTB_in (i := 1152) (by decide +kernel) rfl, qTB_in (i := 1153) (by decide +kernel) rfl⟩
theorem ok_R_copy : qOV "CarelessMistModel" y_R_copy prog_7_method_102_code 7 (some .int) 5 := ⟨⟨qTB_in (i := 1161) (by decide +kernel) rfl, qTB_in (i := 71) (by decide +kernel) rfl, by decide, by decide, by decide +kernel⟩, qTB_in (i := 1159) (by decide +kernel) rfl, qTB_in (i := 1160) (by decide +kernel) rfl⟩
theorem ok_R_above : qOS y_R_above prog_7_method_103_code 1 (some .int) 1 := ⟨⟨qTB_in (i := 1144) (by decide +kernel) rfl, qTB_in (i := 71) (by decide +kernel) rfl, by decide, by decide, by decide +kernel⟩, qTB_in (i := 1143) (by decide +kernel) rfl⟩
theorem ok_R_isUnder : qOS y_R_isUnder prog_7_method_104_code 3 (some .boolean) 2 := ⟨⟨qTB_in (i := 1141) (by decide +kernel) rfl, qTB_in (i := 71) (by decide +kernel) rfl, by decide, by decide, by decide +kernel⟩, qTB_in (i := 1140) (by decide +kernel) rfl⟩
theorem ok_R_load : qOV "CarelessMistModel" y_R_load prog_7_method_105_code 3 (some .int) 1 := ⟨⟨qTB_in (i := 1165) (by decide +kernel) rfl, qTB_in (i := 71) (by decide +kernel) rfl, by decide, by decide, by decide +kernel⟩, qTB_in (i := 1163) (by decide +kernel) rfl, qTB_in (i := 1164) (by decide +kernel) rfl⟩
theorem ok_R_judge : qOV "CarelessMistModel" y_R_judge prog_7_method_106_code 3 (some .int) 1 := ⟨⟨qTB_in (i := 1169) (by decide +kernel) rfl, qTB_in (i := 71) (by decide +kernel) rfl, by decide, by decide, by decide +kernel⟩, qTB_in (i := 1167) (by decide +kernel) rfl, qTB_in (i := 1168) (by decide +kernel) rfl⟩
theorem ok_R_image : qOV "CarelessMistModel" y_R_image prog_7_method_107_code 1 (some .int) 0 := ⟨⟨qTB_in (i := 1173) (by decide +kernel) rfl, qTB_in (i := 71) (by decide +kernel) rfl, by decide, by decide, by decide +kernel⟩, qTB_in (i := 1171) (by decide +kernel) rfl, qTB_in (i := 1172) (by decide +kernel) rfl⟩
theorem ok_R_undo : qOV "CarelessMistModel" y_R_undo prog_7_method_108_code 1 (some .int) 0 := ⟨⟨qTB_in (i := 1177) (by decide +kernel) rfl, qTB_in (i := 71) (by decide +kernel) rfl, by decide, by decide, by decide +kernel⟩, qTB_in (i := 1175) (by decide +kernel) rfl, qTB_in (i := 1176) (by decide +kernel) rfl⟩
theorem ok_R_tear : qOV "CarelessMistModel" y_R_tear prog_7_method_109_code 2 (some .int) 0 := ⟨⟨qTB_in (i := 1181) (by decide +kernel) rfl, qTB_in (i := 71) (by decide +kernel) rfl, by decide, by decide, by decide +kernel⟩, qTB_in (i := 1179) (by decide +kernel) rfl, qTB_in (i := 1180) (by decide +kernel) rfl⟩
theorem ok_R_count : qOV "CarelessMistModel" y_R_count prog_7_method_110_code 4 (some .int) 1 := ⟨⟨qTB_in (i := 1185) (by decide +kernel) rfl, qTB_in (i := 71) (by decide +kernel) rfl, by decide, by decide, by decide +kernel⟩, qTB_in (i := 1183) (by decide +kernel) rfl, qTB_in (i := 1184) (by decide +kernel) rfl⟩
theorem ok_R_status : qOV "CarelessMistModel" y_R_status prog_7_method_111_code 2 (some .int) 1 := ⟨⟨qTB_in (i := 1189) (by decide +kernel) rfl, qTB_in (i := 71) (by decide +kernel) rfl, by decide, by decide, by decide +kernel⟩, qTB_in (i := 1187) (by decide +kernel) rfl, qTB_in (i := 1188) (by decide +kernel) rfl⟩
theorem ok_Ji_bitCount : qOS y_Ji_bitCount prog_8_method_49_code 1 (some .int) 1 := ⟨⟨qTB_in (i := 429) (by decide +kernel) rfl, qTB_in (i := 75) (by decide +kernel) rfl, by decide, by decide, by decide +kernel⟩, qTB_in (i := 428) (by decide +kernel) rfl⟩
theorem ok_Jm_abs : qOS y_Jm_abs prog_9_method_59_code 1 (some .int) 1 := ⟨⟨qTB_in (i := 289) (by decide +kernel) rfl, qTB_in (i := 73) (by decide +kernel) rfl, by decide, by decide, by decide +kernel⟩, qTB_in (i := 288) (by decide +kernel) rfl⟩
theorem ok_Jm_max : qOS y_Jm_max prog_9_method_65_code 2 (some .int) 2 := ⟨⟨qTB_in (i := 328) (by decide +kernel) rfl, qTB_in (i := 73) (by decide +kernel) rfl, by decide, by decide, by decide +kernel⟩, qTB_in (i := 327) (by decide +kernel) rfl⟩
theorem ok_Jm_min : qOS y_Jm_min prog_9_method_69_code 2 (some .int) 2 := ⟨⟨qTB_in (i := 325) (by decide +kernel) rfl, qTB_in (i := 73) (by decide +kernel) rfl, by decide, by decide, by decide +kernel⟩, qTB_in (i := 324) (by decide +kernel) rfl⟩
theorem ok_Js_length : qOV "java/lang/String" y_Js_length prog_10_method_54_code 1 (some .int) 0 := ⟨⟨qTB_in (i := 513) (by decide +kernel) rfl, qTB_in (i := 76) (by decide +kernel) rfl, by decide, by decide, by decide +kernel⟩, qTB_in (i := 511) (by decide +kernel) rfl, qTB_in (i := 512) (by decide +kernel) rfl⟩
theorem ok_Js_charAt : qOV "java/lang/String" y_Js_charAt prog_10_method_56_code 2 (some .char) 1 := ⟨⟨qTB_in (i := 523) (by decide +kernel) rfl, qTB_in (i := 76) (by decide +kernel) rfl, by decide, by decide, by decide +kernel⟩, qTB_in (i := 521) (by decide +kernel) rfl, qTB_in (i := 522) (by decide +kernel) rfl⟩
theorem ok_Js_coder : qOV "java/lang/String" y_Js_coder prog_10_method_152_code 1 (some .byte) 0 := ⟨⟨qTB_in (i := 517) (by decide +kernel) rfl, qTB_in (i := 76) (by decide +kernel) rfl, by decide, by decide, by decide +kernel⟩, qTB_in (i := 515) (by decide +kernel) rfl, qTB_in (i := 516) (by decide +kernel) rfl⟩
theorem ok_Js_isLatin1 : qOV "java/lang/String" y_Js_isLatin1 prog_10_method_154_code 1 (some .boolean) 0 := ⟨⟨qTB_in (i := 527) (by decide +kernel) rfl, qTB_in (i := 76) (by decide +kernel) rfl, by decide, by decide, by decide +kernel⟩, qTB_in (i := 525) (by decide +kernel) rfl, qTB_in (i := 526) (by decide +kernel) rfl⟩
theorem ok_Js_checkIndex : qOS y_Js_checkIndex prog_10_method_155_code 2 none 2 := ⟨⟨qTB_in (i := 533) (by decide +kernel) rfl, qTB_in (i := 76) (by decide +kernel) rfl, by decide, by decide, by decide +kernel⟩, qTB_in (i := 532) (by decide +kernel) rfl⟩
theorem ok_Jl_charAt : qOS y_Jl_charAt prog_11_method_2_code 2 (some .char) 2 := ⟨⟨qTB_in (i := 530) (by decide +kernel) rfl, qTB_in (i := 77) (by decide +kernel) rfl, by decide, by decide, by decide +kernel⟩, qTB_in (i := 529) (by decide +kernel) rfl⟩
theorem ok_Ju_getChar : qOS y_Ju_getChar prog_12_method_5_code 2 (some .char) 2 := ⟨⟨qTB_in (i := 551) (by decide +kernel) rfl, qTB_in (i := 79) (by decide +kernel) rfl, by decide, by decide, by decide +kernel⟩, qTB_in (i := 550) (by decide +kernel) rfl⟩
theorem ok_Ju_length : qOS y_Ju_length prog_12_method_6_code 1 (some .int) 1 := ⟨⟨qTB_in (i := 547) (by decide +kernel) rfl, qTB_in (i := 79) (by decide +kernel) rfl, by decide, by decide, by decide +kernel⟩, qTB_in (i := 546) (by decide +kernel) rfl⟩
theorem ok_Ju_charAt : qOS y_Ju_charAt prog_12_method_83_code 2 (some .char) 2 := ⟨⟨qTB_in (i := 541) (by decide +kernel) rfl, qTB_in (i := 79) (by decide +kernel) rfl, by decide, by decide, by decide +kernel⟩, qTB_in (i := 540) (by decide +kernel) rfl⟩
theorem ok_Ju_checkIndex : qOS y_Ju_checkIndex prog_12_method_91_code 2 none 2 := ⟨⟨qTB_in (i := 544) (by decide +kernel) rfl, qTB_in (i := 79) (by decide +kernel) rfl, by decide, by decide, by decide +kernel⟩, qTB_in (i := 543) (by decide +kernel) rfl⟩
theorem ok_Ja_fill : qOS y_Ja_fill prog_14_method_103_code 4 none 2 := ⟨⟨qTB_in (i := 98) (by decide +kernel) rfl, qTB_in (i := 68) (by decide +kernel) rfl, by decide, by decide, by decide +kernel⟩, qTB_in (i := 97) (by decide +kernel) rfl⟩
theorem ok_Jp_checkIndex : qOS y_Jp_checkIndex prog_15_method_11_code 3 (some .int) 3 := ⟨⟨qTB_in (i := 538) (by decide +kernel) rfl, qTB_in (i := 78) (by decide +kernel) rfl, by decide, by decide, by decide +kernel⟩, qTB_in (i := 537) (by decide +kernel) rfl⟩
