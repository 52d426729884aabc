/-! names: printed by names.py out of the Statement -/
def R_Ck : String := "MulticastTrees$Clock"
def R_Fi : String := "MulticastTrees$Files"
def R_La : String := "MulticastTrees$Lans"
def R_Ne : String := "MulticastTrees$Net"
def R_Pa : String := "MulticastTrees$Packets"
def R_Sm : String := "MulticastTrees$Streams"
def R_Ta : String := "MulticastTrees$Tally"
def R_Tr : String := "MulticastTrees$Trees"
def R_MT : String := "MulticastTrees"
def R_Mo : String := "MulticastTreesModel"
def R_JI : String := "java/lang/Integer"
def R_JM : String := "java/lang/Math"
def R_JA : String := "java/util/Arrays"
def T_Ck : u_T := fun k => match k with
  | _ => ("MulticastTrees$Clock", "now", "I", false)
def ty_Ck : Nat → FieldType := fun k => match k with
  | _ => .int
def T_Fi : u_T := fun k => match k with
  | 0 => ("MulticastTrees$Files", "net", "LMulticastTrees$Net;", true)
  | 1 => ("MulticastTrees$Files", "lans", "LMulticastTrees$Lans;", true)
  | 2 => ("MulticastTrees$Files", "tally", "LMulticastTrees$Tally;", true)
  | 3 => ("MulticastTrees$Files", "source", "[I", true)
  | 4 => ("MulticastTrees$Files", "group", "[I", true)
  | 5 => ("MulticastTrees$Files", "blocks", "[I", true)
  | 6 => ("MulticastTrees$Files", "next", "[I", true)
  | 7 => ("MulticastTrees$Files", "repairs", "[I", true)
  | 8 => ("MulticastTrees$Files", "got", "[[I", true)
  | 9 => ("MulticastTrees$Files", "horizon", "[[I", true)
  | 10 => ("MulticastTrees$Files", "wait", "[I", true)
  | 11 => ("MulticastTrees$Files", "count", "I", false)
  | _ => ("MulticastTrees$Files", "drawn", "I", false)
def ty_Fi : Nat → FieldType := fun k => match k with
  | 0 => .object "MulticastTrees$Net"
  | 1 => .object "MulticastTrees$Lans"
  | 2 => .object "MulticastTrees$Tally"
  | 3 => .array .int
  | 4 => .array .int
  | 5 => .array .int
  | 6 => .array .int
  | 7 => .array .int
  | 8 => .array (.array .int)
  | 9 => .array (.array .int)
  | 10 => .array .int
  | 11 => .int
  | _ => .int
def T_La : u_T := fun k => match k with
  | 0 => ("MulticastTrees$Lans", "clock", "LMulticastTrees$Clock;", true)
  | 1 => ("MulticastTrees$Lans", "members", "[[I", true)
  | 2 => ("MulticastTrees$Lans", "until", "[[I", true)
  | 3 => ("MulticastTrees$Lans", "reporter", "[[I", true)
  | _ => ("MulticastTrees$Lans", "losses", "[I", true)
def ty_La : Nat → FieldType := fun k => match k with
  | 0 => .object "MulticastTrees$Clock"
  | 1 => .array (.array .int)
  | 2 => .array (.array .int)
  | 3 => .array (.array .int)
  | _ => .array .int
def T_Ne : u_T := fun k => match k with
  | 0 => ("MulticastTrees$Net", "cost", "[[I", true)
  | 1 => ("MulticastTrees$Net", "length", "[[I", true)
  | 2 => ("MulticastTrees$Net", "next", "[[I", true)
  | _ => ("MulticastTrees$Net", "farFirst", "[[I", true)
def ty_Ne : Nat → FieldType := fun k => match k with
  | 0 => .array (.array .int)
  | 1 => .array (.array .int)
  | 2 => .array (.array .int)
  | _ => .array (.array .int)
def T_Pa : u_T := fun k => match k with
  | 0 => ("MulticastTrees$Packets", "net", "LMulticastTrees$Net;", true)
  | 1 => ("MulticastTrees$Packets", "lans", "LMulticastTrees$Lans;", true)
  | 2 => ("MulticastTrees$Packets", "streams", "LMulticastTrees$Streams;", true)
  | 3 => ("MulticastTrees$Packets", "trees", "LMulticastTrees$Trees;", true)
  | 4 => ("MulticastTrees$Packets", "tally", "LMulticastTrees$Tally;", true)
  | 5 => ("MulticastTrees$Packets", "carrier", "[I", true)
  | 6 => ("MulticastTrees$Packets", "takenFrom", "[I", true)
  | 7 => ("MulticastTrees$Packets", "carriers", "I", false)
  | 8 => ("MulticastTrees$Packets", "crossed", "I", false)
  | 9 => ("MulticastTrees$Packets", "dropped", "I", false)
  | 10 => ("MulticastTrees$Packets", "reachedSet", "I", false)
  | _ => ("MulticastTrees$Packets", "heardSet", "I", false)
def ty_Pa : Nat → FieldType := fun k => match k with
  | 0 => .object "MulticastTrees$Net"
  | 1 => .object "MulticastTrees$Lans"
  | 2 => .object "MulticastTrees$Streams"
  | 3 => .object "MulticastTrees$Trees"
  | 4 => .object "MulticastTrees$Tally"
  | 5 => .array .int
  | 6 => .array .int
  | 7 => .int
  | 8 => .int
  | 9 => .int
  | 10 => .int
  | _ => .int
def T_Sm : u_T := fun k => match k with
  | 0 => ("MulticastTrees$Streams", "clock", "LMulticastTrees$Clock;", true)
  | 1 => ("MulticastTrees$Streams", "keepalive", "[[I", true)
  | 2 => ("MulticastTrees$Streams", "switched", "[I", true)
  | _ => ("MulticastTrees$Streams", "quiet", "[I", true)
def ty_Sm : Nat → FieldType := fun k => match k with
  | 0 => .object "MulticastTrees$Clock"
  | 1 => .array (.array .int)
  | 2 => .array .int
  | _ => .array .int
def T_Ta : u_T := fun k => match k with
  | _ => ("MulticastTrees$Tally", "counts", "[I", true)
def ty_Ta : Nat → FieldType := fun k => match k with
  | _ => .array .int
def T_Tr : u_T := fun k => match k with
  | 0 => ("MulticastTrees$Trees", "meet", "I", true)
  | 1 => ("MulticastTrees$Trees", "net", "LMulticastTrees$Net;", true)
  | 2 => ("MulticastTrees$Trees", "lans", "LMulticastTrees$Lans;", true)
  | 3 => ("MulticastTrees$Trees", "streams", "LMulticastTrees$Streams;", true)
  | 4 => ("MulticastTrees$Trees", "tally", "LMulticastTrees$Tally;", true)
  | 5 => ("MulticastTrees$Trees", "sharedAt", "[[I", true)
  | 6 => ("MulticastTrees$Trees", "sharedFrom", "[[I", true)
  | 7 => ("MulticastTrees$Trees", "cutAt", "[[I", true)
  | 8 => ("MulticastTrees$Trees", "sourceAt", "[[I", true)
  | 9 => ("MulticastTrees$Trees", "inner", "[[I", true)
  | 10 => ("MulticastTrees$Trees", "outer", "[[I", true)
  | _ => ("MulticastTrees$Trees", "sourceFrom", "[I", true)
def ty_Tr : Nat → FieldType := fun k => match k with
  | 0 => .int
  | 1 => .object "MulticastTrees$Net"
  | 2 => .object "MulticastTrees$Lans"
  | 3 => .object "MulticastTrees$Streams"
  | 4 => .object "MulticastTrees$Tally"
  | 5 => .array (.array .int)
  | 6 => .array (.array .int)
  | 7 => .array (.array .int)
  | 8 => .array (.array .int)
  | 9 => .array (.array .int)
  | 10 => .array (.array .int)
  | _ => .array .int
def T_MT : u_T := fun k => match k with
  | 0 => ("MulticastTrees", "clock", "LMulticastTrees$Clock;", true)
  | 1 => ("MulticastTrees", "tally", "LMulticastTrees$Tally;", true)
  | 2 => ("MulticastTrees", "net", "LMulticastTrees$Net;", true)
  | 3 => ("MulticastTrees", "lans", "LMulticastTrees$Lans;", true)
  | 4 => ("MulticastTrees", "streams", "LMulticastTrees$Streams;", true)
  | 5 => ("MulticastTrees", "trees", "LMulticastTrees$Trees;", true)
  | 6 => ("MulticastTrees", "packets", "LMulticastTrees$Packets;", true)
  | _ => ("MulticastTrees", "files", "LMulticastTrees$Files;", true)
def ty_MT : Nat → FieldType := fun k => match k with
  | 0 => .object "MulticastTrees$Clock"
  | 1 => .object "MulticastTrees$Tally"
  | 2 => .object "MulticastTrees$Net"
  | 3 => .object "MulticastTrees$Lans"
  | 4 => .object "MulticastTrees$Streams"
  | 5 => .object "MulticastTrees$Trees"
  | 6 => .object "MulticastTrees$Packets"
  | _ => .object "MulticastTrees$Files"
def T_Mo : u_T := fun k => match k with
  | 0 => ("MulticastTreesModel", "meeting", "I", false)
  | 1 => ("MulticastTreesModel", "clock", "I", false)
  | 2 => ("MulticastTreesModel", "cost", "[I", false)
  | 3 => ("MulticastTreesModel", "far", "[I", false)
  | 4 => ("MulticastTreesModel", "via", "[I", false)
  | 5 => ("MulticastTreesModel", "member", "[Z", false)
  | 6 => ("MulticastTreesModel", "until", "[I", false)
  | 7 => ("MulticastTreesModel", "reporter", "[I", false)
  | 8 => ("MulticastTreesModel", "common", "[I", false)
  | 9 => ("MulticastTreesModel", "commonWas", "[I", false)
  | 10 => ("MulticastTreesModel", "cut", "[I", false)
  | 11 => ("MulticastTreesModel", "cutWas", "[I", false)
  | 12 => ("MulticastTreesModel", "pull", "[I", false)
  | 13 => ("MulticastTreesModel", "pullWas", "[I", false)
  | 14 => ("MulticastTreesModel", "keep", "[I", false)
  | 15 => ("MulticastTreesModel", "fast", "[Z", false)
  | 16 => ("MulticastTreesModel", "quiet", "[I", false)
  | 17 => ("MulticastTreesModel", "sent", "[I", false)
  | 18 => ("MulticastTreesModel", "loss", "[I", false)
  | 19 => ("MulticastTreesModel", "crossed", "I", false)
  | 20 => ("MulticastTreesModel", "dropped", "I", false)
  | 21 => ("MulticastTreesModel", "reach", "I", false)
  | 22 => ("MulticastTreesModel", "hear", "I", false)
  | 23 => ("MulticastTreesModel", "carried", "[Z", false)
  | 24 => ("MulticastTreesModel", "over", "[Z", false)
  | 25 => ("MulticastTreesModel", "cameFrom", "[I", false)
  | 26 => ("MulticastTreesModel", "files", "I", false)
  | 27 => ("MulticastTreesModel", "source", "[I", false)
  | 28 => ("MulticastTreesModel", "group", "[I", false)
  | 29 => ("MulticastTreesModel", "length", "[I", false)
  | 30 => ("MulticastTreesModel", "following", "[I", false)
  | 31 => ("MulticastTreesModel", "repair", "[I", false)
  | 32 => ("MulticastTreesModel", "got", "[I", false)
  | 33 => ("MulticastTreesModel", "horizon", "[I", false)
  | 34 => ("MulticastTreesModel", "drawn", "I", false)
  | _ => ("MulticastTreesModel", "draw", "[I", false)
def ty_Mo : Nat → FieldType := fun k => match k with
  | 0 => .int
  | 1 => .int
  | 2 => .array .int
  | 3 => .array .int
  | 4 => .array .int
  | 5 => .array .boolean
  | 6 => .array .int
  | 7 => .array .int
  | 8 => .array .int
  | 9 => .array .int
  | 10 => .array .int
  | 11 => .array .int
  | 12 => .array .int
  | 13 => .array .int
  | 14 => .array .int
  | 15 => .array .boolean
  | 16 => .array .int
  | 17 => .array .int
  | 18 => .array .int
  | 19 => .int
  | 20 => .int
  | 21 => .int
  | 22 => .int
  | 23 => .array .boolean
  | 24 => .array .boolean
  | 25 => .array .int
  | 26 => .int
  | 27 => .array .int
  | 28 => .array .int
  | 29 => .array .int
  | 30 => .array .int
  | 31 => .array .int
  | 32 => .array .int
  | 33 => .array .int
  | 34 => .int
  | _ => .array .int
abbrev vwCl : List vw_C := [("MulticastTrees$Clock", T_Ck, 1), ("MulticastTrees$Files", T_Fi, 13), ("MulticastTrees$Lans", T_La, 5), ("MulticastTrees$Net", T_Ne, 4), ("MulticastTrees$Packets", T_Pa, 12), ("MulticastTrees$Streams", T_Sm, 4), ("MulticastTrees$Tally", T_Ta, 1), ("MulticastTrees$Trees", T_Tr, 12), ("MulticastTrees", T_MT, 8), ("MulticastTreesModel", T_Mo, 36)]
def n_MT_init : MethodName := ⟨"MulticastTrees", "<init>", "(I)V"⟩
def n_MT_isRouter : MethodName := ⟨"MulticastTrees", "isRouter", "(I)Z"⟩
def n_Ck_init : MethodName := ⟨"MulticastTrees$Clock", "<init>", "()V"⟩
def n_Ta_init : MethodName := ⟨"MulticastTrees$Tally", "<init>", "()V"⟩
def n_Ne_init : MethodName := ⟨"MulticastTrees$Net", "<init>", "()V"⟩
def n_Ne_measure : MethodName := ⟨"MulticastTrees$Net", "measure", "()V"⟩
def n_Ne_startLengths : MethodName := ⟨"MulticastTrees$Net", "startLengths", "()V"⟩
def n_Ne_areLinked : MethodName := ⟨"MulticastTrees$Net", "areLinked", "(II)Z"⟩
def n_Ne_shortenBy : MethodName := ⟨"MulticastTrees$Net", "shortenBy", "(I)V"⟩
def n_JM_min : MethodName := ⟨"java/lang/Math", "min", "(II)I"⟩
def n_Ne_findNext : MethodName := ⟨"MulticastTrees$Net", "findNext", "(II)I"⟩
def n_Ne_areConnected : MethodName := ⟨"MulticastTrees$Net", "areConnected", "(II)Z"⟩
def n_Ne_orderTowards : MethodName := ⟨"MulticastTrees$Net", "orderTowards", "(I)V"⟩
def n_La_init : MethodName := ⟨"MulticastTrees$Lans", "<init>", "(LMulticastTrees$Clock;)V"⟩
def n_JA_fill : MethodName := ⟨"java/util/Arrays", "fill", "([II)V"⟩
def n_Sm_init : MethodName := ⟨"MulticastTrees$Streams", "<init>", "(LMulticastTrees$Clock;)V"⟩
def n_Tr_init : MethodName := ⟨"MulticastTrees$Trees", "<init>", "(ILMulticastTrees$Net;LMulticastTrees$Lans;LMulticastTrees$Streams;LMulticastTrees$Tally;)V"⟩
def n_Pa_init : MethodName := ⟨"MulticastTrees$Packets", "<init>", "(LMulticastTrees$Net;LMulticastTrees$Lans;LMulticastTrees$Streams;LMulticastTrees$Trees;LMulticastTrees$Tally;)V"⟩
def n_Fi_init : MethodName := ⟨"MulticastTrees$Files", "<init>", "(LMulticastTrees$Net;LMulticastTrees$Lans;LMulticastTrees$Tally;)V"⟩
def n_MT_link : MethodName := ⟨"MulticastTrees", "link", "(III)Z"⟩
def n_Ne_costOf : MethodName := ⟨"MulticastTrees$Net", "costOf", "(II)I"⟩
def n_Ne_setCost : MethodName := ⟨"MulticastTrees$Net", "setCost", "(III)V"⟩
def n_Tr_settle : MethodName := ⟨"MulticastTrees$Trees", "settle", "()V"⟩
def n_Tr_settleShared : MethodName := ⟨"MulticastTrees$Trees", "settleShared", "(I)V"⟩
def n_Ne_fromFarthest : MethodName := ⟨"MulticastTrees$Net", "fromFarthest", "(II)I"⟩
def n_La_isMarked : MethodName := ⟨"MulticastTrees$Lans", "isMarked", "(II)Z"⟩
def n_Ck_time : MethodName := ⟨"MulticastTrees$Clock", "time", "()I"⟩
def n_Ne_nextTowards : MethodName := ⟨"MulticastTrees$Net", "nextTowards", "(II)I"⟩
def n_Tr_announce : MethodName := ⟨"MulticastTrees$Trees", "announce", "(IIII)V"⟩
def n_Ta_count : MethodName := ⟨"MulticastTrees$Tally", "count", "(I)V"⟩
def n_Tr_settleCuts : MethodName := ⟨"MulticastTrees$Trees", "settleCuts", "(II)V"⟩
def n_MT_streamOf : MethodName := ⟨"MulticastTrees", "streamOf", "(II)I"⟩
def n_Tr_takesElsewhere : MethodName := ⟨"MulticastTrees$Trees", "takesElsewhere", "(III)Z"⟩
def n_Sm_isSwitched : MethodName := ⟨"MulticastTrees$Streams", "isSwitched", "(II)Z"⟩
def n_MT_holds : MethodName := ⟨"MulticastTrees", "holds", "(II)Z"⟩
def n_Tr_settleSources : MethodName := ⟨"MulticastTrees$Trees", "settleSources", "(II)V"⟩
def n_Sm_isAlive : MethodName := ⟨"MulticastTrees$Streams", "isAlive", "(II)Z"⟩
def n_MT_distance : MethodName := ⟨"MulticastTrees", "distance", "(II)I"⟩
def n_Ne_lengthOf : MethodName := ⟨"MulticastTrees$Net", "lengthOf", "(II)I"⟩
def n_MT_hop : MethodName := ⟨"MulticastTrees", "hop", "(II)I"⟩
def n_MT_join : MethodName := ⟨"MulticastTrees", "join", "(III)Z"⟩
def n_MT_isHost : MethodName := ⟨"MulticastTrees", "isHost", "(I)Z"⟩
def n_MT_isGroup : MethodName := ⟨"MulticastTrees", "isGroup", "(I)Z"⟩
def n_La_isMember : MethodName := ⟨"MulticastTrees$Lans", "isMember", "(III)Z"⟩
def n_La_admit : MethodName := ⟨"MulticastTrees$Lans", "adm\x69t", "(III)V"⟩
def n_La_report : MethodName := ⟨"MulticastTrees$Lans", "report", "(III)V"⟩
def n_MT_leave : MethodName := ⟨"MulticastTrees", "leave", "(IIIZ)Z"⟩
def n_La_dismiss : MethodName := ⟨"MulticastTrees$Lans", "dismiss", "(IIIZ)V"⟩
def n_La_hasMembers : MethodName := ⟨"MulticastTrees$Lans", "hasMembers", "(II)Z"⟩
def n_La_reportLowest : MethodName := ⟨"MulticastTrees$Lans", "reportLowest", "(II)V"⟩
def n_MT_marked : MethodName := ⟨"MulticastTrees", "marked", "(II)I"⟩
def n_La_ticksLeft : MethodName := ⟨"MulticastTrees$Lans", "ticksLeft", "(II)I"⟩
def n_MT_pass : MethodName := ⟨"MulticastTrees", "pass", "(I)Z"⟩
def n_Ck_tick : MethodName := ⟨"MulticastTrees$Clock", "tick", "()V"⟩
def n_Sm_endStale : MethodName := ⟨"MulticastTrees$Streams", "endStale", "()V"⟩
def n_Ck_isReportTime : MethodName := ⟨"MulticastTrees$Clock", "isReportTime", "()Z"⟩
def n_La_reportAll : MethodName := ⟨"MulticastTrees$Lans", "reportAll", "()V"⟩
def n_MT_send : MethodName := ⟨"MulticastTrees", "send", "(II)I"⟩
def n_Sm_hasRoomFor : MethodName := ⟨"MulticastTrees$Streams", "hasRoomFor", "(I)Z"⟩
def n_Sm_isAliveSomewhere : MethodName := ⟨"MulticastTrees$Streams", "isAliveSomewhere", "(I)Z"⟩
def n_Pa_dispatch : MethodName := ⟨"MulticastTrees$Packets", "dispatch", "(II)V"⟩
def n_Pa_switchJoined : MethodName := ⟨"MulticastTrees$Packets", "switchJoined", "(II)V"⟩
def n_Sm_renew : MethodName := ⟨"MulticastTrees$Streams", "renew", "(II)V"⟩
def n_Tr_outerList : MethodName := ⟨"MulticastTrees$Trees", "outerList", "(II)I"⟩
def n_Sm_switchOver : MethodName := ⟨"MulticastTrees$Streams", "switchOver", "(II)V"⟩
def n_Tr_sourceJoinOf : MethodName := ⟨"MulticastTrees$Trees", "sourceJoinOf", "(II)I"⟩
def n_Pa_register : MethodName := ⟨"MulticastTrees$Packets", "register", "(II)Z"⟩
def n_Tr_meetingPoint : MethodName := ⟨"MulticastTrees$Trees", "meetingPoint", "()I"⟩
def n_Sm_isQuiet : MethodName := ⟨"MulticastTrees$Streams", "isQuiet", "(I)Z"⟩
def n_Sm_silence : MethodName := ⟨"MulticastTrees$Streams", "silence", "(I)V"⟩
def n_Pa_carry : MethodName := ⟨"MulticastTrees$Packets", "carry", "(II)V"⟩
def n_Pa_putOut : MethodName := ⟨"MulticastTrees$Packets", "putOut", "(III)V"⟩
def n_Tr_innerList : MethodName := ⟨"MulticastTrees$Trees", "innerList", "(II)I"⟩
def n_Pa_cross : MethodName := ⟨"MulticastTrees$Packets", "cross", "(IIII)V"⟩
def n_Pa_renewCarriers : MethodName := ⟨"MulticastTrees$Packets", "renewCarriers", "(II)V"⟩
def n_Pa_listen : MethodName := ⟨"MulticastTrees$Packets", "listen", "()V"⟩
def n_La_hearsOrLoses : MethodName := ⟨"MulticastTrees$Lans", "hearsOrLoses", "(I)Z"⟩
def n_Pa_heardBy : MethodName := ⟨"MulticastTrees$Packets", "heardBy", "()I"⟩
def n_JI_bitCount : MethodName := ⟨"java/lang/Integer", "bitCount", "(I)I"⟩
def n_MT_crossings : MethodName := ⟨"MulticastTrees", "crossings", "()I"⟩
def n_Pa_crossingCount : MethodName := ⟨"MulticastTrees$Packets", "crossingCount", "()I"⟩
def n_MT_drops : MethodName := ⟨"MulticastTrees", "drops", "()I"⟩
def n_Pa_dropCount : MethodName := ⟨"MulticastTrees$Packets", "dropCount", "()I"⟩
def n_MT_reached : MethodName := ⟨"MulticastTrees", "reached", "()I"⟩
def n_Pa_reachedLans : MethodName := ⟨"MulticastTrees$Packets", "reachedLans", "()I"⟩
def n_MT_heard : MethodName := ⟨"MulticastTrees", "heard", "()I"⟩
def n_MT_shared : MethodName := ⟨"MulticastTrees", "shared", "(II)I"⟩
def n_Tr_sharedJoinOf : MethodName := ⟨"MulticastTrees$Trees", "sharedJoinOf", "(II)I"⟩
def n_MT_entry : MethodName := ⟨"MulticastTrees", "entry", "(III)I"⟩
def n_Tr_cutOf : MethodName := ⟨"MulticastTrees$Trees", "cutOf", "(II)I"⟩
def n_MT_messages : MethodName := ⟨"MulticastTrees", "messages", "(I)I"⟩
def n_Ta_countOf : MethodName := ⟨"MulticastTrees$Tally", "countOf", "(I)I"⟩
def n_MT_lose : MethodName := ⟨"MulticastTrees", "lose", "(II)Z"⟩
def n_La_setLosses : MethodName := ⟨"MulticastTrees$Lans", "setLosses", "(II)V"⟩
def n_MT_publish : MethodName := ⟨"MulticastTrees", "publish", "(III)I"⟩
def n_Fi_isFull : MethodName := ⟨"MulticastTrees$Files", "isFull", "()Z"⟩
def n_Fi_create : MethodName := ⟨"MulticastTrees$Files", "create", "(III)I"⟩
def n_MT_emit : MethodName := ⟨"MulticastTrees", "emit", "(I)I"⟩
def n_Fi_exists : MethodName := ⟨"MulticastTrees$Files", "exists", "(I)Z"⟩
def n_Fi_sourceOf : MethodName := ⟨"MulticastTrees$Files", "sourceOf", "(I)I"⟩
def n_Fi_groupOf : MethodName := ⟨"MulticastTrees$Files", "groupOf", "(I)I"⟩
def n_Fi_takeTurn : MethodName := ⟨"MulticastTrees$Files", "takeTurn", "(I)I"⟩
def n_Fi_deliver : MethodName := ⟨"MulticastTrees$Files", "deliver", "(III)V"⟩
def n_Fi_store : MethodName := ⟨"MulticastTrees$Files", "store", "(III)V"⟩
def n_JM_max : MethodName := ⟨"java/lang/Math", "max", "(II)I"⟩
def n_MT_requests : MethodName := ⟨"MulticastTrees", "requests", "(I)I"⟩
def n_Fi_askAgain : MethodName := ⟨"MulticastTrees$Files", "askAgain", "(I)I"⟩
def n_Fi_drawWaits : MethodName := ⟨"MulticastTrees$Files", "drawWaits", "(I)V"⟩
def n_Fi_takesPart : MethodName := ⟨"MulticastTrees$Files", "takesPart", "(II)Z"⟩
def n_Fi_missingAt : MethodName := ⟨"MulticastTrees$Files", "missingAt", "(II)I"⟩
def n_Fi_draw : MethodName := ⟨"MulticastTrees$Files", "draw", "()I"⟩
def n_MT_have : MethodName := ⟨"MulticastTrees", "have", "(II)I"⟩
def n_Fi_blocksAt : MethodName := ⟨"MulticastTrees$Files", "blocksAt", "(II)I"⟩
def n_Lw_cell : MethodName := ⟨"MulticastTreesLaw", "cell", "([II)I"⟩
def n_Mo_init : MethodName := ⟨"MulticastTreesModel", "<init>", "(I)V"⟩
def n_Mo_router : MethodName := ⟨"MulticastTreesModel", "router", "(I)Z"⟩
def n_Mo_ways : MethodName := ⟨"MulticastTreesModel", "ways", "()V"⟩
def n_Mo_link : MethodName := ⟨"MulticastTreesModel", "link", "(III)Z"⟩
def n_Mo_settle : MethodName := ⟨"MulticastTreesModel", "settle", "()V"⟩
def n_Mo_round : MethodName := ⟨"MulticastTreesModel", "round", "()Z"⟩
def n_Mo_sharedDue : MethodName := ⟨"MulticastTreesModel", "sharedDue", "(II)I"⟩
def n_Mo_onLan : MethodName := ⟨"MulticastTreesModel", "onLan", "(II)Z"⟩
def n_Mo_cutDue : MethodName := ⟨"MulticastTreesModel", "cutDue", "(II)I"⟩
def n_Mo_many : MethodName := ⟨"MulticastTreesModel", "many", "(IIZ)I"⟩
def n_Mo_outer : MethodName := ⟨"MulticastTreesModel", "outer", "(III)Z"⟩
def n_Mo_inner : MethodName := ⟨"MulticastTreesModel", "inner", "(III)Z"⟩
def n_Mo_pullDue : MethodName := ⟨"MulticastTreesModel", "pullDue", "(II)I"⟩
def n_Mo_tell : MethodName := ⟨"MulticastTreesModel", "tell", "(IIII)V"⟩
def n_Mo_distance : MethodName := ⟨"MulticastTreesModel", "distance", "(II)I"⟩
def n_Mo_hop : MethodName := ⟨"MulticastTreesModel", "hop", "(II)I"⟩
def n_Mo_join : MethodName := ⟨"MulticastTreesModel", "join", "(III)Z"⟩
def n_Mo_isHost : MethodName := ⟨"MulticastTreesModel", "isHost", "(III)Z"⟩
def n_Mo_isGroup : MethodName := ⟨"MulticastTreesModel", "isGroup", "(I)Z"⟩
def n_Mo_report : MethodName := ⟨"MulticastTreesModel", "report", "(III)V"⟩
def n_Mo_leave : MethodName := ⟨"MulticastTreesModel", "leave", "(IIIZ)Z"⟩
def n_Mo_lowest : MethodName := ⟨"MulticastTreesModel", "lowest", "(II)I"⟩
def n_Mo_marked : MethodName := ⟨"MulticastTreesModel", "marked", "(II)I"⟩
def n_Mo_pass : MethodName := ⟨"MulticastTreesModel", "pass", "(I)Z"⟩
def n_Mo_shared : MethodName := ⟨"MulticastTreesModel", "shared", "(II)I"⟩
def n_Mo_entry : MethodName := ⟨"MulticastTreesModel", "entry", "(III)I"⟩
def n_Mo_messages : MethodName := ⟨"MulticastTreesModel", "messages", "(I)I"⟩
def n_Mo_send : MethodName := ⟨"MulticastTreesModel", "send", "(II)I"⟩
def n_Mo_refused : MethodName := ⟨"MulticastTreesModel", "refused", "(II)Z"⟩
def n_Mo_runs : MethodName := ⟨"MulticastTreesModel", "runs", "(I)Z"⟩
def n_Mo_packet : MethodName := ⟨"MulticastTreesModel", "packet", "(II)I"⟩
def n_Mo_register : MethodName := ⟨"MulticastTreesModel", "register", "(II)Z"⟩
def n_Mo_putOut : MethodName := ⟨"MulticastTreesModel", "putOut", "(III)V"⟩
def n_Mo_arrive : MethodName := ⟨"MulticastTreesModel", "arrive", "(II)I"⟩
def n_Mo_crossings : MethodName := ⟨"MulticastTreesModel", "crossings", "()I"⟩
def n_Mo_drops : MethodName := ⟨"MulticastTreesModel", "drops", "()I"⟩
def n_Mo_reached : MethodName := ⟨"MulticastTreesModel", "reached", "()I"⟩
def n_Mo_heard : MethodName := ⟨"MulticastTreesModel", "heard", "()I"⟩
def n_Mo_lose : MethodName := ⟨"MulticastTreesModel", "lose", "(II)Z"⟩
def n_Mo_publish : MethodName := ⟨"MulticastTreesModel", "publish", "(III)I"⟩
def n_Mo_emit : MethodName := ⟨"MulticastTreesModel", "emit", "(I)I"⟩
def n_Mo_isFile : MethodName := ⟨"MulticastTreesModel", "isFile", "(I)Z"⟩
def n_Mo_take : MethodName := ⟨"MulticastTreesModel", "take", "(I)I"⟩
def n_Mo_requests : MethodName := ⟨"MulticastTreesModel", "requests", "(I)I"⟩
def n_Mo_missing : MethodName := ⟨"MulticastTreesModel", "missing", "(II)I"⟩
def n_Mo_have : MethodName := ⟨"MulticastTreesModel", "have", "(II)I"⟩
def mx_nth {α : Type} : List α → Nat → α → α
  | [], _, d => d
  | a :: _, 0, _ => a
  | _ :: l, n + 1, d => mx_nth l n d
def mx_SHL : List (Nat × Nat) := [(3, 0), (12, 8), (4, 1), (10, 1), (0, 10), (7, 4), (2, 6), (0, 6), (0, 6), (0, 6), (0, 6), (0, 6), (0, 6), (2, 6), (0, 6), (0, 6), (0, 6), (0, 6), (0, 6), (0, 6), (2, 6), (0, 6), (0, 6), (0, 6), (0, 6), (0, 6), (0, 6), (2, 6), (0, 6), (0, 6), (0, 6), (0, 6), (0, 6), (0, 6), (6, 5), (2, 6), (0, 3), (0, 3), (0, 3), (0, 3), (0, 3), (0, 3), (2, 6), (0, 3), (0, 3), (0, 3), (0, 3), (0, 3), (0, 3), (2, 6), (0, 3), (0, 3), (0, 3), (0, 3), (0, 3), (0, 3), (0, 6), (9, 4), (2, 18), (0, 6), (0, 6), (0, 6), (0, 6), (0, 6), (0, 6), (0, 6), (0, 6), (0, 6), (0, 6), (0, 6), (0, 6), (0, 6), (0, 6), (0, 6), (0, 6), (0, 6), (0, 6), (0, 18), (0, 18), (11, 12), (2, 3), (0, 6), (0, 6), (0, 6), (2, 3), (0, 6), (0, 6), (0, 6), (2, 18), (0, 6), (0, 6), (0, 6), (0, 6), (0, 6), (0, 6), (0, 6), (0, 6), (0, 6), (0, 6), (0, 6), (0, 6), (0, 6), (0, 6), (0, 6), (0, 6), (0, 6), (0, 6), (2, 18), (0, 6), (0, 6), (0, 6), (0, 6), (0, 6), (0, 6), (0, 6), (0, 6), (0, 6), (0, 6), (0, 6), (0, 6), (0, 6), (0, 6), (0, 6), (0, 6), (0, 6), (0, 6), (2, 18), (0, 6), (0, 6), (0, 6), (0, 6), (0, 6), (0, 6), (0, 6), (0, 6), (0, 6), (0, 6), (0, 6), (0, 6), (0, 6), (0, 6), (0, 6), (0, 6), (0, 6), (0, 6), (2, 18), (0, 6), (0, 6), (0, 6), (0, 6), (0, 6), (0, 6), (0, 6), (0, 6), (0, 6), (0, 6), (0, 6), (0, 6), (0, 6), (0, 6), (0, 6), (0, 6), (0, 6), (0, 6), (0, 6), (8, 12), (0, 6), (0, 6), (5, 13), (0, 4), (0, 4), (0, 4), (0, 4), (0, 4), (2, 4), (0, 6), (0, 6), (0, 6), (0, 6), (2, 4), (0, 6), (0, 6), (0, 6), (0, 6), (0, 6), (13, 36), (0, 36), (0, 36), (0, 36), (1, 72), (0, 18), (0, 18), (0, 18), (0, 18), (0, 108), (0, 108), (0, 108), (0, 108), (0, 108), (1, 108), (0, 18), (0, 10), (0, 6), (1, 6), (1, 6), (0, 6), (0, 4), (0, 4), (0, 4), (0, 4), (0, 4), (0, 24), (0, 24), (0, 6)]
def mx_SH (p : Nat) : Nat × Nat := mx_nth mx_SHL p (0, 0)
def mx_MRL : List (List Nat) := [[], [2, 3, 5, 34, 57, 79, 165, 168], [0], [4], [], [6, 13, 20, 27], [7, 8, 9, 10, 11, 12], [], [], [], [], [], [], [14, 15, 16, 17, 18, 19], [], [], [], [], [], [], [21, 22, 23, 24, 25, 26], [], [], [], [], [], [], [28, 29, 30, 31, 32, 33], [], [], [], [], [], [], [2, 35, 42, 49, 56], [36, 37, 38, 39, 40, 41], [], [], [], [], [], [], [43, 44, 45, 46, 47, 48], [], [], [], [], [], [], [50, 51, 52, 53, 54, 55], [], [], [], [], [], [], [], [2, 58, 77, 78], [59, 60, 61, 62, 63, 64, 65, 66, 67, 68, 69, 70, 71, 72, 73, 74, 75, 76], [], [], [], [], [], [], [], [], [], [], [], [], [], [], [], [], [], [], [], [], [0, 5, 34, 57, 3, 80, 84, 88, 107, 126, 145, 164], [81, 82, 83], [], [], [], [85, 86, 87], [], [], [], [89, 90, 91, 92, 93, 94, 95, 96, 97, 98, 99, 100, 101, 102, 103, 104, 105, 106], [], [], [], [], [], [], [], [], [], [], [], [], [], [], [], [], [], [], [108, 109, 110, 111, 112, 113, 114, 115, 116, 117, 118, 119, 120, 121, 122, 123, 124, 125], [], [], [], [], [], [], [], [], [], [], [], [], [], [], [], [], [], [], [127, 128, 129, 130, 131, 132, 133, 134, 135, 136, 137, 138, 139, 140, 141, 142, 143, 144], [], [], [], [], [], [], [], [], [], [], [], [], [], [], [], [], [], [], [146, 147, 148, 149, 150, 151, 152, 153, 154, 155, 156, 157, 158, 159, 160, 161, 162, 163], [], [], [], [], [], [], [], [], [], [], [], [], [], [], [], [], [], [], [], [5, 34, 57, 79, 3, 166, 167, 0, 0, 0, 0, 0], [], [], [5, 34, 3, 169, 170, 171, 172, 173, 174, 179, 184, 0, 0], [], [], [], [], [], [175, 176, 177, 178], [], [], [], [], [180, 181, 182, 183], [], [], [], [], [], [0, 0, 186, 187, 188, 189, 190, 191, 192, 193, 194, 195, 196, 197, 198, 199, 200, 201, 202, 0, 0, 0, 0, 203, 204, 205, 0, 206, 207, 208, 209, 210, 211, 212, 0, 213], [], [], [], [], [], [], [], [], [], [], [], [], [], [], [], [], [], [], [], [], [], [], [], [], [], [], [], []]
def mx_MR (p k : Nat) : Nat := mx_nth (mx_nth mx_MRL p []) k 0
def mx_IL : List (List Bool) := [[true], [false, false, false, false, false, false, false, false, false, false, false, true, true], [false, false, false, false, false], [false, false, false, false], [false, false, false, false, false, false, false, true, true, true, true, true], [false, false, false, false], [false], [true, false, false, false, false, false, false, false, false, false, false, false], [false, false, false, false, false, false, false, false], [true, true, false, false, false, false, false, false, false, false, false, false, false, false, false, false, false, false, false, true, true, true, true, false, false, false, true, false, false, false, false, false, false, false, true, false]]
def mx_isI (c k : Nat) : Bool := mx_nth (mx_nth mx_IL c []) k true
theorem sh_7 : ∀ a, a < 6 → mx_SH (7 + a) = (0, 6) := by decide
theorem mr_6 : ∀ a, a < 6 → mx_MR 6 a = 7 + a := by decide
theorem sh_14 : ∀ a, a < 6 → mx_SH (14 + a) = (0, 6) := by decide
theorem mr_13 : ∀ a, a < 6 → mx_MR 13 a = 14 + a := by decide
theorem sh_21 : ∀ a, a < 6 → mx_SH (21 + a) = (0, 6) := by decide
theorem mr_20 : ∀ a, a < 6 → mx_MR 20 a = 21 + a := by decide
theorem sh_28 : ∀ a, a < 6 → mx_SH (28 + a) = (0, 6) := by decide
theorem mr_27 : ∀ a, a < 6 → mx_MR 27 a = 28 + a := by decide
theorem sh_36 : ∀ a, a < 6 → mx_SH (36 + a) = (0, 3) := by decide
theorem mr_35 : ∀ a, a < 6 → mx_MR 35 a = 36 + a := by decide
theorem sh_43 : ∀ a, a < 6 → mx_SH (43 + a) = (0, 3) := by decide
theorem mr_42 : ∀ a, a < 6 → mx_MR 42 a = 43 + a := by decide
theorem sh_50 : ∀ a, a < 6 → mx_SH (50 + a) = (0, 3) := by decide
theorem mr_49 : ∀ a, a < 6 → mx_MR 49 a = 50 + a := by decide
theorem sh_59 : ∀ a, a < 18 → mx_SH (59 + a) = (0, 6) := by decide
theorem mr_58 : ∀ a, a < 18 → mx_MR 58 a = 59 + a := by decide
theorem sh_81 : ∀ a, a < 3 → mx_SH (81 + a) = (0, 6) := by decide
theorem mr_80 : ∀ a, a < 3 → mx_MR 80 a = 81 + a := by decide
theorem sh_85 : ∀ a, a < 3 → mx_SH (85 + a) = (0, 6) := by decide
theorem mr_84 : ∀ a, a < 3 → mx_MR 84 a = 85 + a := by decide
theorem sh_89 : ∀ a, a < 18 → mx_SH (89 + a) = (0, 6) := by decide
theorem mr_88 : ∀ a, a < 18 → mx_MR 88 a = 89 + a := by decide
theorem sh_108 : ∀ a, a < 18 → mx_SH (108 + a) = (0, 6) := by decide
theorem mr_107 : ∀ a, a < 18 → mx_MR 107 a = 108 + a := by decide
theorem sh_127 : ∀ a, a < 18 → mx_SH (127 + a) = (0, 6) := by decide
theorem mr_126 : ∀ a, a < 18 → mx_MR 126 a = 127 + a := by decide
theorem sh_146 : ∀ a, a < 18 → mx_SH (146 + a) = (0, 6) := by decide
theorem mr_145 : ∀ a, a < 18 → mx_MR 145 a = 146 + a := by decide
theorem sh_175 : ∀ a, a < 4 → mx_SH (175 + a) = (0, 6) := by decide
theorem mr_174 : ∀ a, a < 4 → mx_MR 174 a = 175 + a := by decide
theorem sh_180 : ∀ a, a < 4 → mx_SH (180 + a) = (0, 6) := by decide
theorem mr_179 : ∀ a, a < 4 → mx_MR 179 a = 180 + a := by decide
