/-! rows of the tables' words: fields, calls, constants of our classes -/
theorem ks_0 : Cond.selects "NoonFields$World" ⟨"NoonFields$World", "setOut", "(I)V"⟩ ⟨"NoonFields$World", "setOut", "(I)V"⟩ ∈ WS := ws_in 0 (by decide +kernel) (by decide +kernel)
theorem ks_1 : Cond.selects "NoonFields$World" ⟨"NoonFields$World", "arrive", "(II)V"⟩ ⟨"NoonFields$World", "arrive", "(II)V"⟩ ∈ WS := ws_in 1 (by decide +kernel) (by decide +kernel)
theorem ks_2 : Cond.selects "NoonFields$World" ⟨"NoonFields$World", "catchNearHome", "()V"⟩ ⟨"NoonFields$World", "catchNearHome", "()V"⟩ ∈ WS := ws_in 2 (by decide +kernel) (by decide +kernel)
theorem ks_3 : Cond.selects "NoonFields" ⟨"NoonFields", "measureWalks", "()V"⟩ ⟨"NoonFields", "measureWalks", "()V"⟩ ∈ WS := ws_in 3 (by decide +kernel) (by decide +kernel)
theorem ks_4 : Cond.selects "NoonFields" ⟨"NoonFields", "place", "(III)V"⟩ ⟨"NoonFields", "place", "(III)V"⟩ ∈ WS := ws_in 4 (by decide +kernel) (by decide +kernel)
theorem ks_5 : Cond.selects "NoonFields" ⟨"NoonFields", "placeOnEach", "(III)V"⟩ ⟨"NoonFields", "placeOnEach", "(III)V"⟩ ∈ WS := ws_in 5 (by decide +kernel) (by decide +kernel)
theorem ks_6 : Cond.selects "NoonFields" ⟨"NoonFields", "think", "(I)V"⟩ ⟨"NoonFields", "think", "(I)V"⟩ ∈ WS := ws_in 6 (by decide +kernel) (by decide +kernel)
theorem ks_7 : Cond.selects "NoonFields" ⟨"NoonFields", "thinkOwned", "(III)V"⟩ ⟨"NoonFields", "thinkOwned", "(III)V"⟩ ∈ WS := ws_in 7 (by decide +kernel) (by decide +kernel)
theorem ks_8 : Cond.selects "NoonFields" ⟨"NoonFields", "countPairs", "(I)V"⟩ ⟨"NoonFields", "countPairs", "(I)V"⟩ ∈ WS := ws_in 8 (by decide +kernel) (by decide +kernel)
theorem ks_9 : Cond.selects "NoonFields$Tape" ⟨"NoonFields$Tape", "advance", "()V"⟩ ⟨"NoonFields$Tape", "advance", "()V"⟩ ∈ WS := ws_in 9 (by decide +kernel) (by decide +kernel)
theorem ks_10 : Cond.selects "NoonFields$Tape" ⟨"NoonFields$Tape", "keyAhead", "()I"⟩ ⟨"NoonFields$Tape", "keyAhead", "()I"⟩ ∈ WS := ws_in 10 (by decide +kernel) (by decide +kernel)
theorem ks_11 : Cond.selects "NoonFields$Tape" ⟨"NoonFields$Tape", "isAhead", "(Ljava/lang/String;)Z"⟩ ⟨"NoonFields$Tape", "isAhead", "(Ljava/lang/String;)Z"⟩ ∈ WS := ws_in 11 (by decide +kernel) (by decide +kernel)
theorem ks_12 : Cond.selects "NoonFields$Tape" ⟨"NoonFields$Tape", "expression", "(III)Z"⟩ ⟨"NoonFields$Tape", "expression", "(III)Z"⟩ ∈ WS := ws_in 12 (by decide +kernel) (by decide +kernel)
theorem ks_13 : Cond.selects "NoonFields$Tape" ⟨"NoonFields$Tape", "piece", "(II)Z"⟩ ⟨"NoonFields$Tape", "piece", "(II)Z"⟩ ∈ WS := ws_in 13 (by decide +kernel) (by decide +kernel)
theorem ks_14 : Cond.selects "NoonFields$Tape" ⟨"NoonFields$Tape", "number", "()I"⟩ ⟨"NoonFields$Tape", "number", "()I"⟩ ∈ WS := ws_in 14 (by decide +kernel) (by decide +kernel)
theorem ks_15 : Cond.selects "NoonFields$Tape" ⟨"NoonFields$Tape", "operand", "(I)Z"⟩ ⟨"NoonFields$Tape", "operand", "(I)Z"⟩ ∈ WS := ws_in 15 (by decide +kernel) (by decide +kernel)
theorem ks_16 : Cond.selects "NoonFields$Tape" ⟨"NoonFields$Tape", "emit", "(I)V"⟩ ⟨"NoonFields$Tape", "emit", "(I)V"⟩ ∈ WS := ws_in 16 (by decide +kernel) (by decide +kernel)
theorem ks_17 : Cond.selects "NoonFields$Tape" ⟨"NoonFields$Tape", "name", "()I"⟩ ⟨"NoonFields$Tape", "name", "()I"⟩ ∈ WS := ws_in 17 (by decide +kernel) (by decide +kernel)
theorem ks_18 : Cond.selects "NoonFields$Tape" ⟨"NoonFields$Tape", "negation", "(II)Z"⟩ ⟨"NoonFields$Tape", "negation", "(II)Z"⟩ ∈ WS := ws_in 18 (by decide +kernel) (by decide +kernel)
theorem ks_19 : Cond.selects "NoonFields$Tape" ⟨"NoonFields$Tape", "bracket", "(II)Z"⟩ ⟨"NoonFields$Tape", "bracket", "(II)Z"⟩ ∈ WS := ws_in 19 (by decide +kernel) (by decide +kernel)
theorem ks_20 : Cond.selects "NoonFields" ⟨"NoonFields", "isTold", "(III)Z"⟩ ⟨"NoonFields", "isTold", "(III)Z"⟩ ∈ WS := ws_in 20 (by decide +kernel) (by decide +kernel)
theorem ks_21 : Cond.selects "NoonFieldsModel" ⟨"NoonFieldsModel", "puts", "(III)V"⟩ ⟨"NoonFieldsModel", "puts", "(III)V"⟩ ∈ WS := ws_in 21 (by decide +kernel) (by decide +kernel)
theorem ks_22 : Cond.selects "NoonFieldsModel" ⟨"NoonFieldsModel", "comes", "(III)V"⟩ ⟨"NoonFieldsModel", "comes", "(III)V"⟩ ∈ WS := ws_in 22 (by decide +kernel) (by decide +kernel)
theorem ks_23 : Cond.selects "NoonFieldsModel" ⟨"NoonFieldsModel", "sets", "(III)V"⟩ ⟨"NoonFieldsModel", "sets", "(III)V"⟩ ∈ WS := ws_in 23 (by decide +kernel) (by decide +kernel)
theorem ks_24 : Cond.selects "NoonFieldsModel" ⟨"NoonFieldsModel", "isOne", "(I)Z"⟩ ⟨"NoonFieldsModel", "isOne", "(I)Z"⟩ ∈ WS := ws_in 24 (by decide +kernel) (by decide +kernel)
theorem ks_25 : Cond.selects "NoonFieldsModel" ⟨"NoonFieldsModel", "of", "(II)I"⟩ ⟨"NoonFieldsModel", "of", "(II)I"⟩ ∈ WS := ws_in 25 (by decide +kernel) (by decide +kernel)
theorem ks_26 : Cond.selects "NoonFieldsModel" ⟨"NoonFieldsModel", "worth", "(I)I"⟩ ⟨"NoonFieldsModel", "worth", "(I)I"⟩ ∈ WS := ws_in 26 (by decide +kernel) (by decide +kernel)
theorem ks_27 : Cond.selects "NoonFieldsModel" ⟨"NoonFieldsModel", "walkOf", "(II)I"⟩ ⟨"NoonFieldsModel", "walkOf", "(II)I"⟩ ∈ WS := ws_in 27 (by decide +kernel) (by decide +kernel)
theorem ks_28 : Cond.selects "NoonFieldsModel" ⟨"NoonFieldsModel", "in", "(II)I"⟩ ⟨"NoonFieldsModel", "in", "(II)I"⟩ ∈ WS := ws_in 28 (by decide +kernel) (by decide +kernel)
theorem ks_29 : Cond.selects "NoonFieldsModel" ⟨"NoonFieldsModel", "counts", "(I)I"⟩ ⟨"NoonFieldsModel", "counts", "(I)I"⟩ ∈ WS := ws_in 29 (by decide +kernel) (by decide +kernel)
theorem ks_30 : Cond.selects "NoonFieldsModel" ⟨"NoonFieldsModel", "textAt", "(I)I"⟩ ⟨"NoonFieldsModel", "textAt", "(I)I"⟩ ∈ WS := ws_in 30 (by decide +kernel) (by decide +kernel)
theorem ks_31 : Cond.selects "NoonFieldsModel" ⟨"NoonFieldsModel", "worked", "(I)I"⟩ ⟨"NoonFieldsModel", "worked", "(I)I"⟩ ∈ WS := ws_in 31 (by decide +kernel) (by decide +kernel)
theorem ks_32 : Cond.selects "NoonFieldsModel" ⟨"NoonFieldsModel", "mayStand", "(II)Z"⟩ ⟨"NoonFieldsModel", "mayStand", "(II)Z"⟩ ∈ WS := ws_in 32 (by decide +kernel) (by decide +kernel)
theorem ks_33 : Cond.selects "NoonFieldsModel" ⟨"NoonFieldsModel", "becomes", "(II)I"⟩ ⟨"NoonFieldsModel", "becomes", "(II)I"⟩ ∈ WS := ws_in 33 (by decide +kernel) (by decide +kernel)
theorem ks_34 : Cond.selects "NoonFieldsModel" ⟨"NoonFieldsModel", "areTalked", "(II)Z"⟩ ⟨"NoonFieldsModel", "areTalked", "(II)Z"⟩ ∈ WS := ws_in 34 (by decide +kernel) (by decide +kernel)
theorem ks_35 : Cond.selects "NoonFieldsModel" ⟨"NoonFieldsModel", "drawn", "()I"⟩ ⟨"NoonFieldsModel", "drawn", "()I"⟩ ∈ WS := ws_in 35 (by decide +kernel) (by decide +kernel)
theorem ks_36 : Cond.selects "NoonFieldsModel" ⟨"NoonFieldsModel", "goesOn", "()V"⟩ ⟨"NoonFieldsModel", "goesOn", "()V"⟩ ∈ WS := ws_in 36 (by decide +kernel) (by decide +kernel)
theorem ks_37 : Cond.selects "NoonFieldsModel" ⟨"NoonFieldsModel", "goes", "(I)V"⟩ ⟨"NoonFieldsModel", "goes", "(I)V"⟩ ∈ WS := ws_in 37 (by decide +kernel) (by decide +kernel)
theorem ks_38 : Cond.selects "NoonFieldsModel" ⟨"NoonFieldsModel", "goesTo", "(I)I"⟩ ⟨"NoonFieldsModel", "goesTo", "(I)I"⟩ ∈ WS := ws_in 38 (by decide +kernel) (by decide +kernel)
theorem ks_39 : Cond.selects "NoonFieldsModel" ⟨"NoonFieldsModel", "isFree", "(II)Z"⟩ ⟨"NoonFieldsModel", "isFree", "(II)Z"⟩ ∈ WS := ws_in 39 (by decide +kernel) (by decide +kernel)
theorem ks_40 : Cond.selects "NoonFieldsModel" ⟨"NoonFieldsModel", "allCorn", "()I"⟩ ⟨"NoonFieldsModel", "allCorn", "()I"⟩ ∈ WS := ws_in 40 (by decide +kernel) (by decide +kernel)
theorem ks_41 : Cond.selects "NoonFieldsModel" ⟨"NoonFieldsModel", "allOf", "(I)I"⟩ ⟨"NoonFieldsModel", "allOf", "(I)I"⟩ ∈ WS := ws_in 41 (by decide +kernel) (by decide +kernel)
theorem ks_42 : Cond.selects "NoonFieldsModel" ⟨"NoonFieldsModel", "isPlacing", "()Z"⟩ ⟨"NoonFieldsModel", "isPlacing", "()Z"⟩ ∈ WS := ws_in 42 (by decide +kernel) (by decide +kernel)
theorem ks_43 : Cond.selects "NoonFieldsModel" ⟨"NoonFieldsModel", "laysBy", "()V"⟩ ⟨"NoonFieldsModel", "laysBy", "()V"⟩ ∈ WS := ws_in 43 (by decide +kernel) (by decide +kernel)
theorem ks_44 : Cond.selects "NoonFieldsModel" ⟨"NoonFieldsModel", "goesOnMany", "(I)V"⟩ ⟨"NoonFieldsModel", "goesOnMany", "(I)V"⟩ ∈ WS := ws_in 44 (by decide +kernel) (by decide +kernel)
theorem ks_45 : Cond.selects "NoonFieldsModel" ⟨"NoonFieldsModel", "laysBack", "()V"⟩ ⟨"NoonFieldsModel", "laysBack", "()V"⟩ ∈ WS := ws_in 45 (by decide +kernel) (by decide +kernel)
theorem ks_46 : Cond.selects "NoonFieldsModel" ⟨"NoonFieldsModel", "allHad", "(I)Z"⟩ ⟨"NoonFieldsModel", "allHad", "(I)Z"⟩ ∈ WS := ws_in 46 (by decide +kernel) (by decide +kernel)
theorem ks_47 : Cond.selects "NoonFieldsModel" ⟨"NoonFieldsModel", "findOften", "(I)V"⟩ ⟨"NoonFieldsModel", "findOften", "(I)V"⟩ ∈ WS := ws_in 47 (by decide +kernel) (by decide +kernel)
theorem ks_48 : Cond.selects "NoonFieldsModel" ⟨"NoonFieldsModel", "parse", "()I"⟩ ⟨"NoonFieldsModel", "parse", "()I"⟩ ∈ WS := ws_in 48 (by decide +kernel) (by decide +kernel)
theorem ks_49 : Cond.selects "NoonFieldsModel" ⟨"NoonFieldsModel", "nextToken", "()V"⟩ ⟨"NoonFieldsModel", "nextToken", "()V"⟩ ∈ WS := ws_in 49 (by decide +kernel) (by decide +kernel)
theorem ks_50 : Cond.selects "NoonFieldsModel" ⟨"NoonFieldsModel", "isLetter", "(I)Z"⟩ ⟨"NoonFieldsModel", "isLetter", "(I)Z"⟩ ∈ WS := ws_in 50 (by decide +kernel) (by decide +kernel)
theorem ks_51 : Cond.selects "NoonFieldsModel" ⟨"NoonFieldsModel", "isDigit", "(I)Z"⟩ ⟨"NoonFieldsModel", "isDigit", "(I)Z"⟩ ∈ WS := ws_in 51 (by decide +kernel) (by decide +kernel)
theorem ks_52 : Cond.selects "NoonFieldsModel" ⟨"NoonFieldsModel", "key", "()I"⟩ ⟨"NoonFieldsModel", "key", "()I"⟩ ∈ WS := ws_in 52 (by decide +kernel) (by decide +kernel)
theorem ks_53 : Cond.selects "NoonFieldsModel" ⟨"NoonFieldsModel", "isWordAt", "(IIII)Z"⟩ ⟨"NoonFieldsModel", "isWordAt", "(IIII)Z"⟩ ∈ WS := ws_in 53 (by decide +kernel) (by decide +kernel)
theorem ks_54 : Cond.selects "NoonFieldsModel" ⟨"NoonFieldsModel", "either", "(I)Z"⟩ ⟨"NoonFieldsModel", "either", "(I)Z"⟩ ∈ WS := ws_in 54 (by decide +kernel) (by decide +kernel)
theorem ks_55 : Cond.selects "NoonFieldsModel" ⟨"NoonFieldsModel", "both", "(I)Z"⟩ ⟨"NoonFieldsModel", "both", "(I)Z"⟩ ∈ WS := ws_in 55 (by decide +kernel) (by decide +kernel)
theorem ks_56 : Cond.selects "NoonFieldsModel" ⟨"NoonFieldsModel", "test", "(I)Z"⟩ ⟨"NoonFieldsModel", "test", "(I)Z"⟩ ∈ WS := ws_in 56 (by decide +kernel) (by decide +kernel)
theorem ks_57 : Cond.selects "NoonFieldsModel" ⟨"NoonFieldsModel", "sum", "(I)Z"⟩ ⟨"NoonFieldsModel", "sum", "(I)Z"⟩ ∈ WS := ws_in 57 (by decide +kernel) (by decide +kernel)
theorem ks_58 : Cond.selects "NoonFieldsModel" ⟨"NoonFieldsModel", "term", "(I)Z"⟩ ⟨"NoonFieldsModel", "term", "(I)Z"⟩ ∈ WS := ws_in 58 (by decide +kernel) (by decide +kernel)
theorem ks_59 : Cond.selects "NoonFieldsModel" ⟨"NoonFieldsModel", "part0", "(I)Z"⟩ ⟨"NoonFieldsModel", "part0", "(I)Z"⟩ ∈ WS := ws_in 59 (by decide +kernel) (by decide +kernel)
theorem ks_60 : Cond.selects "NoonFieldsModel" ⟨"NoonFieldsModel", "step", "(II)V"⟩ ⟨"NoonFieldsModel", "step", "(II)V"⟩ ∈ WS := ws_in 60 (by decide +kernel) (by decide +kernel)
theorem ks_61 : Cond.selects "NoonFieldsModel" ⟨"NoonFieldsModel", "isSign", "(I)Z"⟩ ⟨"NoonFieldsModel", "isSign", "(I)Z"⟩ ∈ WS := ws_in 61 (by decide +kernel) (by decide +kernel)
theorem ks_62 : Cond.selects "NoonFieldsModel" ⟨"NoonFieldsModel", "isText", "(I)Z"⟩ ⟨"NoonFieldsModel", "isText", "(I)Z"⟩ ∈ WS := ws_in 62 (by decide +kernel) (by decide +kernel)
theorem ks_63 : Cond.selects "NoonFieldsModel" ⟨"NoonFieldsModel", "setAside", "([I[I)V"⟩ ⟨"NoonFieldsModel", "setAside", "([I[I)V"⟩ ∈ WS := ws_in 63 (by decide +kernel) (by decide +kernel)
theorem ks_64 : Cond.selects "NoonFieldsModel" ⟨"NoonFieldsModel", "talks", "()I"⟩ ⟨"NoonFieldsModel", "talks", "()I"⟩ ∈ WS := ws_in 64 (by decide +kernel) (by decide +kernel)
theorem k_1 : (Cond.initialized "NoonFields") ∈ WS := ws_in 66 (by decide +kernel) (by decide +kernel)
theorem k_2 : (Cond.initialized "NoonFields$Neighbour") ∈ WS := ws_in 67 (by decide +kernel) (by decide +kernel)
theorem k_3 : (Cond.initialized "NoonFields$Lame") ∈ WS := ws_in 68 (by decide +kernel) (by decide +kernel)
theorem k_4 : (Cond.initialized "NoonFields$Runner") ∈ WS := ws_in 69 (by decide +kernel) (by decide +kernel)
theorem k_5 : (Cond.initialized "NoonFields$Old") ∈ WS := ws_in 70 (by decide +kernel) (by decide +kernel)
theorem k_6 : (Cond.initialized "NoonFields$Child") ∈ WS := ws_in 71 (by decide +kernel) (by decide +kernel)
theorem k_7 : (Cond.initialized "NoonFields$Hermit") ∈ WS := ws_in 72 (by decide +kernel) (by decide +kernel)
theorem k_8 : (Cond.initialized "NoonFields$Laws") ∈ WS := ws_in 73 (by decide +kernel) (by decide +kernel)
theorem k_9 : (Cond.initialized "NoonFields$World") ∈ WS := ws_in 74 (by decide +kernel) (by decide +kernel)
theorem k_10 : (Cond.initialized "NoonFields$Tape") ∈ WS := ws_in 75 (by decide +kernel) (by decide +kernel)
theorem k_11 : (Cond.initialized "NoonFields$Sheet") ∈ WS := ws_in 76 (by decide +kernel) (by decide +kernel)
theorem k_12 : (Cond.initialized "NoonFields$Slot") ∈ WS := ws_in 77 (by decide +kernel) (by decide +kernel)
theorem k_13 : (Cond.initialized "NoonFieldsModel") ∈ WS := ws_in 78 (by decide +kernel) (by decide +kernel)
theorem k_24 : (Cond.methodLink "NoonFieldsLaw" (9 : Nat) ({ cls := "NoonFields", name := "<init>", desc := "()V" } : MethodName)) ∈ WS := ws_in 89 (by decide +kernel) (by decide +kernel)
theorem k_25 : (Cond.instanceMethod ({ cls := "NoonFields", name := "<init>", desc := "()V" } : MethodName)) ∈ WS := ws_in 90 (by decide +kernel) (by decide +kernel)
theorem k_26 : (Cond.code ({ cls := "NoonFields", name := "<init>", desc := "()V" } : MethodName) prog_1_method_1_code (2 : Nat) (none : Option FieldType)) ∈ WS := ws_in 91 (by decide +kernel) (by decide +kernel)
theorem k_33 : (Cond.methodLink "NoonFields" (9 : Nat) ({ cls := "NoonFields$Neighbour", name := "<init>", desc := "()V" } : MethodName)) ∈ WS := ws_in 98 (by decide +kernel) (by decide +kernel)
theorem k_34 : (Cond.instanceMethod ({ cls := "NoonFields$Neighbour", name := "<init>", desc := "()V" } : MethodName)) ∈ WS := ws_in 99 (by decide +kernel) (by decide +kernel)
theorem k_35 : (Cond.code ({ cls := "NoonFields$Neighbour", name := "<init>", desc := "()V" } : MethodName) prog_6_method_1_code (1 : Nat) (none : Option FieldType)) ∈ WS := ws_in 100 (by decide +kernel) (by decide +kernel)
theorem k_40 : (Cond.methodLink "NoonFields" (12 : Nat) ({ cls := "NoonFields$Lame", name := "<init>", desc := "()V" } : MethodName)) ∈ WS := ws_in 105 (by decide +kernel) (by decide +kernel)
theorem k_41 : (Cond.instanceMethod ({ cls := "NoonFields$Lame", name := "<init>", desc := "()V" } : MethodName)) ∈ WS := ws_in 106 (by decide +kernel) (by decide +kernel)
theorem k_42 : (Cond.code ({ cls := "NoonFields$Lame", name := "<init>", desc := "()V" } : MethodName) prog_4_method_1_code (1 : Nat) (none : Option FieldType)) ∈ WS := ws_in 107 (by decide +kernel) (by decide +kernel)
theorem k_43 : (Cond.methodLink "NoonFields$Lame" (3 : Nat) ({ cls := "NoonFields$Neighbour", name := "<init>", desc := "()V" } : MethodName)) ∈ WS := ws_in 108 (by decide +kernel) (by decide +kernel)
theorem k_47 : (Cond.methodLink "NoonFields" (15 : Nat) ({ cls := "NoonFields$Runner", name := "<init>", desc := "()V" } : MethodName)) ∈ WS := ws_in 112 (by decide +kernel) (by decide +kernel)
theorem k_48 : (Cond.instanceMethod ({ cls := "NoonFields$Runner", name := "<init>", desc := "()V" } : MethodName)) ∈ WS := ws_in 113 (by decide +kernel) (by decide +kernel)
theorem k_49 : (Cond.code ({ cls := "NoonFields$Runner", name := "<init>", desc := "()V" } : MethodName) prog_8_method_1_code (1 : Nat) (none : Option FieldType)) ∈ WS := ws_in 114 (by decide +kernel) (by decide +kernel)
theorem k_50 : (Cond.methodLink "NoonFields$Runner" (3 : Nat) ({ cls := "NoonFields$Neighbour", name := "<init>", desc := "()V" } : MethodName)) ∈ WS := ws_in 115 (by decide +kernel) (by decide +kernel)
theorem k_54 : (Cond.methodLink "NoonFields" (18 : Nat) ({ cls := "NoonFields$Old", name := "<init>", desc := "()V" } : MethodName)) ∈ WS := ws_in 119 (by decide +kernel) (by decide +kernel)
theorem k_55 : (Cond.instanceMethod ({ cls := "NoonFields$Old", name := "<init>", desc := "()V" } : MethodName)) ∈ WS := ws_in 120 (by decide +kernel) (by decide +kernel)
theorem k_56 : (Cond.code ({ cls := "NoonFields$Old", name := "<init>", desc := "()V" } : MethodName) prog_7_method_1_code (1 : Nat) (none : Option FieldType)) ∈ WS := ws_in 121 (by decide +kernel) (by decide +kernel)
theorem k_57 : (Cond.methodLink "NoonFields$Old" (3 : Nat) ({ cls := "NoonFields$Lame", name := "<init>", desc := "()V" } : MethodName)) ∈ WS := ws_in 122 (by decide +kernel) (by decide +kernel)
theorem k_61 : (Cond.methodLink "NoonFields" (21 : Nat) ({ cls := "NoonFields$Child", name := "<init>", desc := "()V" } : MethodName)) ∈ WS := ws_in 126 (by decide +kernel) (by decide +kernel)
theorem k_62 : (Cond.instanceMethod ({ cls := "NoonFields$Child", name := "<init>", desc := "()V" } : MethodName)) ∈ WS := ws_in 127 (by decide +kernel) (by decide +kernel)
theorem k_63 : (Cond.code ({ cls := "NoonFields$Child", name := "<init>", desc := "()V" } : MethodName) prog_2_method_1_code (1 : Nat) (none : Option FieldType)) ∈ WS := ws_in 128 (by decide +kernel) (by decide +kernel)
theorem k_64 : (Cond.methodLink "NoonFields$Child" (3 : Nat) ({ cls := "NoonFields$Runner", name := "<init>", desc := "()V" } : MethodName)) ∈ WS := ws_in 129 (by decide +kernel) (by decide +kernel)
theorem k_68 : (Cond.methodLink "NoonFields" (24 : Nat) ({ cls := "NoonFields$Hermit", name := "<init>", desc := "()V" } : MethodName)) ∈ WS := ws_in 133 (by decide +kernel) (by decide +kernel)
theorem k_69 : (Cond.instanceMethod ({ cls := "NoonFields$Hermit", name := "<init>", desc := "()V" } : MethodName)) ∈ WS := ws_in 134 (by decide +kernel) (by decide +kernel)
theorem k_70 : (Cond.code ({ cls := "NoonFields$Hermit", name := "<init>", desc := "()V" } : MethodName) prog_3_method_1_code (1 : Nat) (none : Option FieldType)) ∈ WS := ws_in 135 (by decide +kernel) (by decide +kernel)
theorem k_71 : (Cond.methodLink "NoonFields$Hermit" (3 : Nat) ({ cls := "NoonFields$Neighbour", name := "<init>", desc := "()V" } : MethodName)) ∈ WS := ws_in 136 (by decide +kernel) (by decide +kernel)
theorem k_75 : (Cond.methodLink "NoonFields" (33 : Nat) ({ cls := "NoonFields$Laws", name := "<init>", desc := "()V" } : MethodName)) ∈ WS := ws_in 140 (by decide +kernel) (by decide +kernel)
theorem k_76 : (Cond.instanceMethod ({ cls := "NoonFields$Laws", name := "<init>", desc := "()V" } : MethodName)) ∈ WS := ws_in 141 (by decide +kernel) (by decide +kernel)
theorem k_77 : (Cond.code ({ cls := "NoonFields$Laws", name := "<init>", desc := "()V" } : MethodName) prog_5_method_1_code (1 : Nat) (none : Option FieldType)) ∈ WS := ws_in 142 (by decide +kernel) (by decide +kernel)
theorem k_81 : (Cond.fieldLink "NoonFields$Laws" (11 : Nat) "NoonFields$Laws" "codes" "[[I") ∈ WS := ws_in 146 (by decide +kernel) (by decide +kernel)
theorem k_82 : (Cond.fieldLink "NoonFields$Laws" (16 : Nat) "NoonFields$Laws" "lengths" "[I") ∈ WS := ws_in 147 (by decide +kernel) (by decide +kernel)
theorem k_83 : (Cond.fieldLink "NoonFields$Laws" (20 : Nat) "NoonFields$Laws" "keys" "[I") ∈ WS := ws_in 148 (by decide +kernel) (by decide +kernel)
theorem k_84 : (Cond.fieldLink "NoonFields" (263 : Nat) "NoonFields$Laws" "keys" "[I") ∈ WS := ws_in 149 (by decide +kernel) (by decide +kernel)
theorem k_85 : (Cond.fieldLink "NoonFields$Laws" (23 : Nat) "NoonFields$Laws" "operands" "[I") ∈ WS := ws_in 150 (by decide +kernel) (by decide +kernel)
theorem k_86 : (Cond.fieldLink "NoonFields" (266 : Nat) "NoonFields$Laws" "operands" "[I") ∈ WS := ws_in 151 (by decide +kernel) (by decide +kernel)
theorem k_87 : (Cond.fieldLink "NoonFields$Laws" (26 : Nat) "NoonFields$Laws" "stack" "[I") ∈ WS := ws_in 152 (by decide +kernel) (by decide +kernel)
theorem k_102 : (Cond.methodLink "NoonFields" (40 : Nat) ({ cls := "NoonFields$World", name := "<init>", desc := "([LNoonFields$Neighbour;LNoonFields$Laws;)V" } : MethodName)) ∈ WS := ws_in 167 (by decide +kernel) (by decide +kernel)
theorem k_103 : (Cond.instanceMethod ({ cls := "NoonFields$World", name := "<init>", desc := "([LNoonFields$Neighbour;LNoonFields$Laws;)V" } : MethodName)) ∈ WS := ws_in 168 (by decide +kernel) (by decide +kernel)
theorem k_104 : (Cond.code ({ cls := "NoonFields$World", name := "<init>", desc := "([LNoonFields$Neighbour;LNoonFields$Laws;)V" } : MethodName) prog_12_method_1_code (4 : Nat) (none : Option FieldType)) ∈ WS := ws_in 169 (by decide +kernel) (by decide +kernel)
theorem k_107 : (Cond.fieldLink "NoonFields$World" (51 : Nat) "NoonFields$World" "kinds" "[LNoonFields$Neighbour;") ∈ WS := ws_in 172 (by decide +kernel) (by decide +kernel)
theorem k_108 : (Cond.fieldLink "NoonFields$World" (55 : Nat) "NoonFields$World" "laws" "LNoonFields$Laws;") ∈ WS := ws_in 173 (by decide +kernel) (by decide +kernel)
theorem k_109 : (Cond.fieldLink "NoonFields$World" (11 : Nat) "NoonFields$World" "people" "[[I") ∈ WS := ws_in 174 (by decide +kernel) (by decide +kernel)
theorem k_110 : (Cond.fieldLink "NoonFields" (115 : Nat) "NoonFields$World" "people" "[[I") ∈ WS := ws_in 175 (by decide +kernel) (by decide +kernel)
theorem k_111 : (Cond.fieldLink "NoonFields$World" (16 : Nat) "NoonFields$World" "fields" "[[I") ∈ WS := ws_in 176 (by decide +kernel) (by decide +kernel)
theorem k_112 : (Cond.fieldLink "NoonFields" (144 : Nat) "NoonFields$World" "fields" "[[I") ∈ WS := ws_in 177 (by decide +kernel) (by decide +kernel)
theorem k_113 : (Cond.fieldLink "NoonFields$World" (19 : Nat) "NoonFields$World" "talk" "[I") ∈ WS := ws_in 178 (by decide +kernel) (by decide +kernel)
theorem k_114 : (Cond.fieldLink "NoonFields" (141 : Nat) "NoonFields$World" "talk" "[I") ∈ WS := ws_in 179 (by decide +kernel) (by decide +kernel)
theorem k_115 : (Cond.fieldLink "NoonFields$World" (23 : Nat) "NoonFields$World" "stands" "[I") ∈ WS := ws_in 180 (by decide +kernel) (by decide +kernel)
theorem k_116 : (Cond.fieldLink "NoonFields" (206 : Nat) "NoonFields$World" "stands" "[I") ∈ WS := ws_in 181 (by decide +kernel) (by decide +kernel)
theorem k_117 : (Cond.fieldLink "NoonFields$World" (26 : Nat) "NoonFields$World" "counting" "[I") ∈ WS := ws_in 182 (by decide +kernel) (by decide +kernel)
theorem k_118 : (Cond.fieldLink "NoonFields" (233 : Nat) "NoonFields$World" "counting" "[I") ∈ WS := ws_in 183 (by decide +kernel) (by decide +kernel)
theorem k_119 : (Cond.fieldLink "NoonFields$World" (29 : Nat) "NoonFields$World" "count" "I") ∈ WS := ws_in 184 (by decide +kernel) (by decide +kernel)
theorem k_120 : (Cond.fieldLink "NoonFields" (153 : Nat) "NoonFields$World" "count" "I") ∈ WS := ws_in 185 (by decide +kernel) (by decide +kernel)
theorem k_121 : (Cond.fieldLink "NoonFields$World" (33 : Nat) "NoonFields$World" "noon" "I") ∈ WS := ws_in 186 (by decide +kernel) (by decide +kernel)
theorem k_122 : (Cond.fieldLink "NoonFields" (171 : Nat) "NoonFields$World" "noon" "I") ∈ WS := ws_in 187 (by decide +kernel) (by decide +kernel)
theorem k_123 : (Cond.fieldLink "NoonFields$World" (36 : Nat) "NoonFields$World" "late" "I") ∈ WS := ws_in 188 (by decide +kernel) (by decide +kernel)
theorem k_124 : (Cond.fieldLink "NoonFields" (150 : Nat) "NoonFields$World" "late" "I") ∈ WS := ws_in 189 (by decide +kernel) (by decide +kernel)
theorem k_125 : (Cond.fieldLink "NoonFields$World" (39 : Nat) "NoonFields$World" "steps" "I") ∈ WS := ws_in 190 (by decide +kernel) (by decide +kernel)
theorem k_126 : (Cond.fieldLink "NoonFields" (178 : Nat) "NoonFields$World" "steps" "I") ∈ WS := ws_in 191 (by decide +kernel) (by decide +kernel)
theorem k_127 : (Cond.fieldLink "NoonFields$World" (42 : Nat) "NoonFields$World" "left" "I") ∈ WS := ws_in 192 (by decide +kernel) (by decide +kernel)
theorem k_128 : (Cond.fieldLink "NoonFields" (168 : Nat) "NoonFields$World" "left" "I") ∈ WS := ws_in 193 (by decide +kernel) (by decide +kernel)
theorem k_129 : (Cond.fieldLink "NoonFields$World" (45 : Nat) "NoonFields$World" "z" "I") ∈ WS := ws_in 194 (by decide +kernel) (by decide +kernel)
theorem k_130 : (Cond.fieldLink "NoonFields" (165 : Nat) "NoonFields$World" "z" "I") ∈ WS := ws_in 195 (by decide +kernel) (by decide +kernel)
theorem k_131 : (Cond.fieldLink "NoonFields$World" (48 : Nat) "NoonFields$World" "texts" "I") ∈ WS := ws_in 196 (by decide +kernel) (by decide +kernel)
theorem k_132 : (Cond.fieldLink "NoonFields" (253 : Nat) "NoonFields$World" "texts" "I") ∈ WS := ws_in 197 (by decide +kernel) (by decide +kernel)
theorem k_164 : (Cond.methodLink "NoonFields" (55 : Nat) ({ cls := "NoonFields$Tape", name := "<init>", desc := "()V" } : MethodName)) ∈ WS := ws_in 229 (by decide +kernel) (by decide +kernel)
theorem k_165 : (Cond.instanceMethod ({ cls := "NoonFields$Tape", name := "<init>", desc := "()V" } : MethodName)) ∈ WS := ws_in 230 (by decide +kernel) (by decide +kernel)
theorem k_166 : (Cond.code ({ cls := "NoonFields$Tape", name := "<init>", desc := "()V" } : MethodName) prog_11_method_1_code (1 : Nat) (none : Option FieldType)) ∈ WS := ws_in 231 (by decide +kernel) (by decide +kernel)
theorem k_168 : (Cond.fieldLink "NoonFields$Tape" (9 : Nat) "NoonFields$Tape" "bytes" "[I") ∈ WS := ws_in 233 (by decide +kernel) (by decide +kernel)
theorem k_169 : (Cond.fieldLink "NoonFields$Tape" (15 : Nat) "NoonFields$Tape" "code" "[I") ∈ WS := ws_in 234 (by decide +kernel) (by decide +kernel)
theorem k_170 : (Cond.fieldLink "NoonFields$Laws" (29 : Nat) "NoonFields$Tape" "code" "[I") ∈ WS := ws_in 235 (by decide +kernel) (by decide +kernel)
theorem k_171 : (Cond.fieldLink "NoonFields$Tape" (18 : Nat) "NoonFields$Tape" "length" "I") ∈ WS := ws_in 236 (by decide +kernel) (by decide +kernel)
theorem k_172 : (Cond.fieldLink "NoonFields" (240 : Nat) "NoonFields$Tape" "length" "I") ∈ WS := ws_in 237 (by decide +kernel) (by decide +kernel)
theorem k_173 : (Cond.fieldLink "NoonFields$Tape" (22 : Nat) "NoonFields$Tape" "codeLength" "I") ∈ WS := ws_in 238 (by decide +kernel) (by decide +kernel)
theorem k_174 : (Cond.fieldLink "NoonFields$Laws" (40 : Nat) "NoonFields$Tape" "codeLength" "I") ∈ WS := ws_in 239 (by decide +kernel) (by decide +kernel)
theorem k_175 : (Cond.fieldLink "NoonFields$Tape" (25 : Nat) "NoonFields$Tape" "key" "I") ∈ WS := ws_in 240 (by decide +kernel) (by decide +kernel)
theorem k_176 : (Cond.fieldLink "NoonFields$Laws" (44 : Nat) "NoonFields$Tape" "key" "I") ∈ WS := ws_in 241 (by decide +kernel) (by decide +kernel)
theorem k_177 : (Cond.fieldLink "NoonFields" (260 : Nat) "NoonFields$Tape" "key" "I") ∈ WS := ws_in 242 (by decide +kernel) (by decide +kernel)
theorem k_178 : (Cond.fieldLink "NoonFields$Tape" (28 : Nat) "NoonFields$Tape" "operands" "I") ∈ WS := ws_in 243 (by decide +kernel) (by decide +kernel)
theorem k_179 : (Cond.fieldLink "NoonFields$Laws" (47 : Nat) "NoonFields$Tape" "operands" "I") ∈ WS := ws_in 244 (by decide +kernel) (by decide +kernel)
theorem k_180 : (Cond.fieldLink "NoonFields$Tape" (31 : Nat) "NoonFields$Tape" "start" "I") ∈ WS := ws_in 245 (by decide +kernel) (by decide +kernel)
theorem k_181 : (Cond.fieldLink "NoonFields" (250 : Nat) "NoonFields$Tape" "start" "I") ∈ WS := ws_in 246 (by decide +kernel) (by decide +kernel)
theorem k_182 : (Cond.fieldLink "NoonFields$Tape" (34 : Nat) "NoonFields$Tape" "end" "I") ∈ WS := ws_in 247 (by decide +kernel) (by decide +kernel)
theorem k_183 : (Cond.fieldLink "NoonFields$Tape" (37 : Nat) "NoonFields$Tape" "sign" "I") ∈ WS := ws_in 248 (by decide +kernel) (by decide +kernel)
theorem k_184 : (Cond.fieldLink "NoonFields$Tape" (40 : Nat) "NoonFields$Tape" "isGlued" "Z") ∈ WS := ws_in 249 (by decide +kernel) (by decide +kernel)
theorem k_211 : (Cond.methodLink "NoonFields" (96 : Nat) ({ cls := "NoonFields$Sheet", name := "<init>", desc := "()V" } : MethodName)) ∈ WS := ws_in 276 (by decide +kernel) (by decide +kernel)
theorem k_212 : (Cond.instanceMethod ({ cls := "NoonFields$Sheet", name := "<init>", desc := "()V" } : MethodName)) ∈ WS := ws_in 277 (by decide +kernel) (by decide +kernel)
theorem k_213 : (Cond.code ({ cls := "NoonFields$Sheet", name := "<init>", desc := "()V" } : MethodName) prog_9_method_1_code (1 : Nat) (none : Option FieldType)) ∈ WS := ws_in 278 (by decide +kernel) (by decide +kernel)
theorem k_215 : (Cond.fieldLink "NoonFields$Sheet" (9 : Nat) "NoonFields$Sheet" "values" "[I") ∈ WS := ws_in 280 (by decide +kernel) (by decide +kernel)
theorem k_216 : (Cond.fieldLink "NoonFields" (288 : Nat) "NoonFields$Sheet" "values" "[I") ∈ WS := ws_in 281 (by decide +kernel) (by decide +kernel)
theorem k_217 : (Cond.fieldLink "NoonFields$Sheet" (15 : Nat) "NoonFields$Sheet" "noNumber" "[Z") ∈ WS := ws_in 282 (by decide +kernel) (by decide +kernel)
theorem k_218 : (Cond.fieldLink "NoonFields$Sheet" (19 : Nat) "NoonFields$Sheet" "sort" "I") ∈ WS := ws_in 283 (by decide +kernel) (by decide +kernel)
theorem k_219 : (Cond.fieldLink "NoonFields" (277 : Nat) "NoonFields$Sheet" "sort" "I") ∈ WS := ws_in 284 (by decide +kernel) (by decide +kernel)
theorem k_220 : (Cond.fieldLink "NoonFields$Sheet" (23 : Nat) "NoonFields$Sheet" "places" "I") ∈ WS := ws_in 285 (by decide +kernel) (by decide +kernel)
theorem k_221 : (Cond.fieldLink "NoonFields" (294 : Nat) "NoonFields$Sheet" "places" "I") ∈ WS := ws_in 286 (by decide +kernel) (by decide +kernel)
theorem k_233 : (Cond.methodLink "NoonFields" (97 : Nat) ({ cls := "NoonFields$Slot", name := "<init>", desc := "()V" } : MethodName)) ∈ WS := ws_in 298 (by decide +kernel) (by decide +kernel)
theorem k_234 : (Cond.instanceMethod ({ cls := "NoonFields$Slot", name := "<init>", desc := "()V" } : MethodName)) ∈ WS := ws_in 299 (by decide +kernel) (by decide +kernel)
theorem k_235 : (Cond.code ({ cls := "NoonFields$Slot", name := "<init>", desc := "()V" } : MethodName) prog_10_method_1_code (1 : Nat) (none : Option FieldType)) ∈ WS := ws_in 300 (by decide +kernel) (by decide +kernel)
theorem k_238 : (Cond.methodLink "NoonFields$Slot" (9 : Nat) ({ cls := "NoonFields$Sheet", name := "<init>", desc := "()V" } : MethodName)) ∈ WS := ws_in 303 (by decide +kernel) (by decide +kernel)
theorem k_239 : (Cond.fieldLink "NoonFields$Slot" (10 : Nat) "NoonFields$Slot" "row" "LNoonFields$Sheet;") ∈ WS := ws_in 304 (by decide +kernel) (by decide +kernel)
theorem k_240 : (Cond.fieldLink "NoonFields" (311 : Nat) "NoonFields$Slot" "row" "LNoonFields$Sheet;") ∈ WS := ws_in 305 (by decide +kernel) (by decide +kernel)
theorem k_241 : (Cond.fieldLink "NoonFields$Slot" (16 : Nat) "NoonFields$Slot" "holds" "I") ∈ WS := ws_in 306 (by decide +kernel) (by decide +kernel)
theorem k_242 : (Cond.fieldLink "NoonFields" (304 : Nat) "NoonFields$Slot" "holds" "I") ∈ WS := ws_in 307 (by decide +kernel) (by decide +kernel)
theorem k_243 : (Cond.fieldLink "NoonFields$Slot" (20 : Nat) "NoonFields$Slot" "kind" "LNoonFields$Neighbour;") ∈ WS := ws_in 308 (by decide +kernel) (by decide +kernel)
theorem k_244 : (Cond.fieldLink "NoonFields" (321 : Nat) "NoonFields$Slot" "kind" "LNoonFields$Neighbour;") ∈ WS := ws_in 309 (by decide +kernel) (by decide +kernel)
theorem k_245 : (Cond.fieldLink "NoonFields$Slot" (24 : Nat) "NoonFields$Slot" "hire" "I") ∈ WS := ws_in 310 (by decide +kernel) (by decide +kernel)
theorem k_246 : (Cond.fieldLink "NoonFields" (325 : Nat) "NoonFields$Slot" "hire" "I") ∈ WS := ws_in 311 (by decide +kernel) (by decide +kernel)
theorem k_247 : (Cond.fieldLink "NoonFields$Slot" (27 : Nat) "NoonFields$Slot" "number" "I") ∈ WS := ws_in 312 (by decide +kernel) (by decide +kernel)
theorem k_248 : (Cond.fieldLink "NoonFields" (318 : Nat) "NoonFields$Slot" "number" "I") ∈ WS := ws_in 313 (by decide +kernel) (by decide +kernel)
theorem k_260 : (Cond.fieldLink "NoonFields" (25 : Nat) "NoonFields" "kinds" "[LNoonFields$Neighbour;") ∈ WS := ws_in 325 (by decide +kernel) (by decide +kernel)
theorem k_261 : (Cond.fieldLink "NoonFields" (34 : Nat) "NoonFields" "laws" "LNoonFields$Laws;") ∈ WS := ws_in 326 (by decide +kernel) (by decide +kernel)
theorem k_262 : (Cond.fieldLink "NoonFields" (43 : Nat) "NoonFields" "now" "LNoonFields$World;") ∈ WS := ws_in 327 (by decide +kernel) (by decide +kernel)
theorem k_263 : (Cond.fieldLink "NoonFields" (47 : Nat) "NoonFields" "image" "LNoonFields$World;") ∈ WS := ws_in 328 (by decide +kernel) (by decide +kernel)
theorem k_264 : (Cond.fieldLink "NoonFields" (50 : Nat) "NoonFields" "thought" "LNoonFields$World;") ∈ WS := ws_in 329 (by decide +kernel) (by decide +kernel)
theorem k_265 : (Cond.fieldLink "NoonFields" (56 : Nat) "NoonFields" "tape" "LNoonFields$Tape;") ∈ WS := ws_in 330 (by decide +kernel) (by decide +kernel)
theorem k_266 : (Cond.fieldLink "NoonFields" (62 : Nat) "NoonFields" "sheets" "[LNoonFields$Sheet;") ∈ WS := ws_in 331 (by decide +kernel) (by decide +kernel)
theorem k_267 : (Cond.fieldLink "NoonFields" (68 : Nat) "NoonFields" "slots" "[LNoonFields$Slot;") ∈ WS := ws_in 332 (by decide +kernel) (by decide +kernel)
theorem k_268 : (Cond.fieldLink "NoonFields" (72 : Nat) "NoonFields" "waiting" "[I") ∈ WS := ws_in 333 (by decide +kernel) (by decide +kernel)
theorem k_269 : (Cond.fieldLink "NoonFields" (76 : Nat) "NoonFields" "pairs" "[I") ∈ WS := ws_in 334 (by decide +kernel) (by decide +kernel)
theorem k_270 : (Cond.fieldLink "NoonFields" (79 : Nat) "NoonFields" "walks" "[I") ∈ WS := ws_in 335 (by decide +kernel) (by decide +kernel)
theorem k_271 : (Cond.fieldLink "NoonFields" (82 : Nat) "NoonFields" "waits" "I") ∈ WS := ws_in 336 (by decide +kernel) (by decide +kernel)
theorem k_272 : (Cond.fieldLink "NoonFields" (86 : Nat) "NoonFields" "kept" "Z") ∈ WS := ws_in 337 (by decide +kernel) (by decide +kernel)
theorem k_273 : (Cond.fieldLink "NoonFields" (90 : Nat) "NoonFields" "leastWalk" "I") ∈ WS := ws_in 338 (by decide +kernel) (by decide +kernel)
theorem k_274 : (Cond.fieldLink "NoonFields" (93 : Nat) "NoonFields" "leastFields" "I") ∈ WS := ws_in 339 (by decide +kernel) (by decide +kernel)
theorem k_306 : (Cond.methodLink "NoonFieldsLaw" (13 : Nat) ({ cls := "NoonFields", name := "person", desc := "(III)I" } : MethodName)) ∈ WS := ws_in 371 (by decide +kernel) (by decide +kernel)
theorem k_307 : (Cond.instanceMethod ({ cls := "NoonFields", name := "person", desc := "(III)I" } : MethodName)) ∈ WS := ws_in 372 (by decide +kernel) (by decide +kernel)
theorem k_308 : (Cond.selects "NoonFields" ({ cls := "NoonFields", name := "person", desc := "(III)I" } : MethodName) ({ cls := "NoonFields", name := "person", desc := "(III)I" } : MethodName)) ∈ WS := ws_in 373 (by decide +kernel) (by decide +kernel)
theorem k_309 : (Cond.code ({ cls := "NoonFields", name := "person", desc := "(III)I" } : MethodName) prog_1_method_2_code (4 : Nat) (some FieldType.int)) ∈ WS := ws_in 374 (by decide +kernel) (by decide +kernel)
theorem k_310 : (Cond.methodLink "NoonFields" (98 : Nat) ({ cls := "NoonFields", name := "isUpTo", desc := "(II)Z" } : MethodName)) ∈ WS := ws_in 375 (by decide +kernel) (by decide +kernel)
theorem k_311 : (Cond.static ({ cls := "NoonFields", name := "isUpTo", desc := "(II)Z" } : MethodName)) ∈ WS := ws_in 376 (by decide +kernel) (by decide +kernel)
theorem k_312 : (Cond.code ({ cls := "NoonFields", name := "isUpTo", desc := "(II)Z" } : MethodName) prog_1_method_53_code (2 : Nat) (some FieldType.boolean)) ∈ WS := ws_in 377 (by decide +kernel) (by decide +kernel)
theorem k_313 : (Cond.constant "NoonFields" (102 : Nat) (-1000000001 : Int32)) ∈ WS := ws_in 378 (by decide +kernel) (by decide +kernel)
theorem k_314 : (Cond.methodLink "NoonFields" (103 : Nat) ({ cls := "NoonFields$World", name := "come", desc := "(III)I" } : MethodName)) ∈ WS := ws_in 379 (by decide +kernel) (by decide +kernel)
theorem k_315 : (Cond.instanceMethod ({ cls := "NoonFields$World", name := "come", desc := "(III)I" } : MethodName)) ∈ WS := ws_in 380 (by decide +kernel) (by decide +kernel)
theorem k_316 : (Cond.selects "NoonFields$World" ({ cls := "NoonFields$World", name := "come", desc := "(III)I" } : MethodName) ({ cls := "NoonFields$World", name := "come", desc := "(III)I" } : MethodName)) ∈ WS := ws_in 381 (by decide +kernel) (by decide +kernel)
theorem k_317 : (Cond.code ({ cls := "NoonFields$World", name := "come", desc := "(III)I" } : MethodName) prog_12_method_3_code (5 : Nat) (some FieldType.int)) ∈ WS := ws_in 382 (by decide +kernel) (by decide +kernel)
theorem k_318 : (Cond.constant "NoonFields$World" (65 : Nat) (-1000000003 : Int32)) ∈ WS := ws_in 383 (by decide +kernel) (by decide +kernel)
theorem k_319 : (Cond.methodLink "NoonFieldsLaw" (18 : Nat) ({ cls := "NoonFields", name := "told", desc := "(II)I" } : MethodName)) ∈ WS := ws_in 384 (by decide +kernel) (by decide +kernel)
theorem k_320 : (Cond.instanceMethod ({ cls := "NoonFields", name := "told", desc := "(II)I" } : MethodName)) ∈ WS := ws_in 385 (by decide +kernel) (by decide +kernel)
theorem k_321 : (Cond.selects "NoonFields" ({ cls := "NoonFields", name := "told", desc := "(II)I" } : MethodName) ({ cls := "NoonFields", name := "told", desc := "(II)I" } : MethodName)) ∈ WS := ws_in 386 (by decide +kernel) (by decide +kernel)
theorem k_322 : (Cond.code ({ cls := "NoonFields", name := "told", desc := "(II)I" } : MethodName) prog_1_method_3_code (3 : Nat) (some FieldType.int)) ∈ WS := ws_in 387 (by decide +kernel) (by decide +kernel)
theorem k_323 : (Cond.methodLink "NoonFields" (107 : Nat) ({ cls := "NoonFields$World", name := "isOne", desc := "(I)Z" } : MethodName)) ∈ WS := ws_in 388 (by decide +kernel) (by decide +kernel)
theorem k_324 : (Cond.instanceMethod ({ cls := "NoonFields$World", name := "isOne", desc := "(I)Z" } : MethodName)) ∈ WS := ws_in 389 (by decide +kernel) (by decide +kernel)
theorem k_325 : (Cond.selects "NoonFields$World" ({ cls := "NoonFields$World", name := "isOne", desc := "(I)Z" } : MethodName) ({ cls := "NoonFields$World", name := "isOne", desc := "(I)Z" } : MethodName)) ∈ WS := ws_in 390 (by decide +kernel) (by decide +kernel)
theorem k_326 : (Cond.code ({ cls := "NoonFields$World", name := "isOne", desc := "(I)Z" } : MethodName) prog_12_method_4_code (2 : Nat) (some FieldType.boolean)) ∈ WS := ws_in 391 (by decide +kernel) (by decide +kernel)
theorem k_327 : (Cond.methodLink "NoonFields" (111 : Nat) ({ cls := "NoonFields$World", name := "worthOf", desc := "(I)I" } : MethodName)) ∈ WS := ws_in 392 (by decide +kernel) (by decide +kernel)
theorem k_328 : (Cond.instanceMethod ({ cls := "NoonFields$World", name := "worthOf", desc := "(I)I" } : MethodName)) ∈ WS := ws_in 393 (by decide +kernel) (by decide +kernel)
theorem k_329 : (Cond.selects "NoonFields$World" ({ cls := "NoonFields$World", name := "worthOf", desc := "(I)I" } : MethodName) ({ cls := "NoonFields$World", name := "worthOf", desc := "(I)I" } : MethodName)) ∈ WS := ws_in 394 (by decide +kernel) (by decide +kernel)
theorem k_330 : (Cond.code ({ cls := "NoonFields$World", name := "worthOf", desc := "(I)I" } : MethodName) prog_12_method_6_code (2 : Nat) (some FieldType.int)) ∈ WS := ws_in 395 (by decide +kernel) (by decide +kernel)
theorem k_331 : (Cond.methodLink "NoonFields$World" (66 : Nat) ({ cls := "NoonFields$World", name := "kindOf", desc := "(I)LNoonFields$Neighbour;" } : MethodName)) ∈ WS := ws_in 396 (by decide +kernel) (by decide +kernel)
theorem k_332 : (Cond.instanceMethod ({ cls := "NoonFields$World", name := "kindOf", desc := "(I)LNoonFields$Neighbour;" } : MethodName)) ∈ WS := ws_in 397 (by decide +kernel) (by decide +kernel)
theorem k_333 : (Cond.selects "NoonFields$World" ({ cls := "NoonFields$World", name := "kindOf", desc := "(I)LNoonFields$Neighbour;" } : MethodName) ({ cls := "NoonFields$World", name := "kindOf", desc := "(I)LNoonFields$Neighbour;" } : MethodName)) ∈ WS := ws_in 398 (by decide +kernel) (by decide +kernel)
theorem k_334 : (Cond.code ({ cls := "NoonFields$World", name := "kindOf", desc := "(I)LNoonFields$Neighbour;" } : MethodName) prog_12_method_5_code (2 : Nat) (some (FieldType.object "NoonFields$Neighbour"))) ∈ WS := ws_in 399 (by decide +kernel) (by decide +kernel)
theorem k_335 : (Cond.methodLink "NoonFields$World" (70 : Nat) ({ cls := "NoonFields$Neighbour", name := "worthFor", desc := "(I)I" } : MethodName)) ∈ WS := ws_in 400 (by decide +kernel) (by decide +kernel)
theorem k_336 : (Cond.instanceMethod ({ cls := "NoonFields$Neighbour", name := "worthFor", desc := "(I)I" } : MethodName)) ∈ WS := ws_in 401 (by decide +kernel) (by decide +kernel)
theorem k_337 : (Cond.selects "NoonFields$Neighbour" ({ cls := "NoonFields$Neighbour", name := "worthFor", desc := "(I)I" } : MethodName) ({ cls := "NoonFields$Neighbour", name := "worthFor", desc := "(I)I" } : MethodName)) ∈ WS := ws_in 402 (by decide +kernel) (by decide +kernel)
theorem k_342 : (Cond.methodLink "NoonFields$Child" (27 : Nat) ({ cls := "NoonFields$Runner", name := "worthFor", desc := "(I)I" } : MethodName)) ∈ WS := ws_in 407 (by decide +kernel) (by decide +kernel)
theorem k_344 : (Cond.code ({ cls := "NoonFields$Runner", name := "worthFor", desc := "(I)I" } : MethodName) prog_8_method_4_code (2 : Nat) (some FieldType.int)) ∈ WS := ws_in 409 (by decide +kernel) (by decide +kernel)
theorem k_350 : (Cond.code ({ cls := "NoonFields$Lame", name := "worthFor", desc := "(I)I" } : MethodName) prog_4_method_4_code (2 : Nat) (some FieldType.int)) ∈ WS := ws_in 415 (by decide +kernel) (by decide +kernel)
theorem k_354 : (Cond.methodLink "NoonFields$Old" (21 : Nat) ({ cls := "NoonFields$Lame", name := "worthFor", desc := "(I)I" } : MethodName)) ∈ WS := ws_in 419 (by decide +kernel) (by decide +kernel)
theorem k_356 : (Cond.code ({ cls := "NoonFields$Neighbour", name := "worthFor", desc := "(I)I" } : MethodName) prog_6_method_5_code (2 : Nat) (some FieldType.int)) ∈ WS := ws_in 421 (by decide +kernel) (by decide +kernel)
theorem k_357 : (Cond.methodLink "NoonFieldsLaw" (23 : Nat) ({ cls := "NoonFields", name := "walk", desc := "(III)I" } : MethodName)) ∈ WS := ws_in 422 (by decide +kernel) (by decide +kernel)
theorem k_358 : (Cond.instanceMethod ({ cls := "NoonFields", name := "walk", desc := "(III)I" } : MethodName)) ∈ WS := ws_in 423 (by decide +kernel) (by decide +kernel)
theorem k_359 : (Cond.selects "NoonFields" ({ cls := "NoonFields", name := "walk", desc := "(III)I" } : MethodName) ({ cls := "NoonFields", name := "walk", desc := "(III)I" } : MethodName)) ∈ WS := ws_in 424 (by decide +kernel) (by decide +kernel)
theorem k_360 : (Cond.code ({ cls := "NoonFields", name := "walk", desc := "(III)I" } : MethodName) prog_1_method_4_code (4 : Nat) (some FieldType.int)) ∈ WS := ws_in 425 (by decide +kernel) (by decide +kernel)
theorem k_361 : (Cond.methodLink "NoonFields" (119 : Nat) ({ cls := "NoonFields$World", name := "walkOf", desc := "(II)I" } : MethodName)) ∈ WS := ws_in 426 (by decide +kernel) (by decide +kernel)
theorem k_362 : (Cond.instanceMethod ({ cls := "NoonFields$World", name := "walkOf", desc := "(II)I" } : MethodName)) ∈ WS := ws_in 427 (by decide +kernel) (by decide +kernel)
theorem k_363 : (Cond.selects "NoonFields$World" ({ cls := "NoonFields$World", name := "walkOf", desc := "(II)I" } : MethodName) ({ cls := "NoonFields$World", name := "walkOf", desc := "(II)I" } : MethodName)) ∈ WS := ws_in 428 (by decide +kernel) (by decide +kernel)
theorem k_364 : (Cond.code ({ cls := "NoonFields$World", name := "walkOf", desc := "(II)I" } : MethodName) prog_12_method_13_code (8 : Nat) (some FieldType.int)) ∈ WS := ws_in 429 (by decide +kernel) (by decide +kernel)
theorem k_365 : (Cond.methodLink "NoonFields$World" (86 : Nat) ({ cls := "NoonFields$World", name := "apart", desc := "(II)I" } : MethodName)) ∈ WS := ws_in 430 (by decide +kernel) (by decide +kernel)
theorem k_366 : (Cond.static ({ cls := "NoonFields$World", name := "apart", desc := "(II)I" } : MethodName)) ∈ WS := ws_in 431 (by decide +kernel) (by decide +kernel)
theorem k_367 : (Cond.code ({ cls := "NoonFields$World", name := "apart", desc := "(II)I" } : MethodName) prog_12_method_12_code (2 : Nat) (some FieldType.int)) ∈ WS := ws_in 432 (by decide +kernel) (by decide +kernel)
theorem k_371 : (Cond.methodLink "NoonFields$World" (90 : Nat) ({ cls := "NoonFields$Laws", name := "gives", desc := "(IIII)I" } : MethodName)) ∈ WS := ws_in 436 (by decide +kernel) (by decide +kernel)
theorem k_372 : (Cond.instanceMethod ({ cls := "NoonFields$Laws", name := "gives", desc := "(IIII)I" } : MethodName)) ∈ WS := ws_in 437 (by decide +kernel) (by decide +kernel)
theorem k_373 : (Cond.selects "NoonFields$Laws" ({ cls := "NoonFields$Laws", name := "gives", desc := "(IIII)I" } : MethodName) ({ cls := "NoonFields$Laws", name := "gives", desc := "(IIII)I" } : MethodName)) ∈ WS := ws_in 438 (by decide +kernel) (by decide +kernel)
theorem k_374 : (Cond.code ({ cls := "NoonFields$Laws", name := "gives", desc := "(IIII)I" } : MethodName) prog_5_method_3_code (8 : Nat) (some FieldType.int)) ∈ WS := ws_in 439 (by decide +kernel) (by decide +kernel)
theorem k_375 : (Cond.methodLink "NoonFields$Laws" (49 : Nat) ({ cls := "NoonFields$Laws", name := "join", desc := "(III)I" } : MethodName)) ∈ WS := ws_in 440 (by decide +kernel) (by decide +kernel)
theorem k_376 : (Cond.static ({ cls := "NoonFields$Laws", name := "join", desc := "(III)I" } : MethodName)) ∈ WS := ws_in 441 (by decide +kernel) (by decide +kernel)
theorem k_377 : (Cond.code ({ cls := "NoonFields$Laws", name := "join", desc := "(III)I" } : MethodName) prog_5_method_4_code (3 : Nat) (some FieldType.int)) ∈ WS := ws_in 442 (by decide +kernel) (by decide +kernel)
theorem k_384 : (Cond.methodLink "NoonFields$World" (102 : Nat) ({ cls := "NoonFields$Neighbour", name := "paces", desc := "(I)I" } : MethodName)) ∈ WS := ws_in 449 (by decide +kernel) (by decide +kernel)
theorem k_385 : (Cond.instanceMethod ({ cls := "NoonFields$Neighbour", name := "paces", desc := "(I)I" } : MethodName)) ∈ WS := ws_in 450 (by decide +kernel) (by decide +kernel)
theorem k_386 : (Cond.selects "NoonFields$Neighbour" ({ cls := "NoonFields$Neighbour", name := "paces", desc := "(I)I" } : MethodName) ({ cls := "NoonFields$Neighbour", name := "paces", desc := "(I)I" } : MethodName)) ∈ WS := ws_in 451 (by decide +kernel) (by decide +kernel)
theorem k_391 : (Cond.methodLink "NoonFields$Child" (13 : Nat) ({ cls := "NoonFields$Runner", name := "paces", desc := "(I)I" } : MethodName)) ∈ WS := ws_in 456 (by decide +kernel) (by decide +kernel)
theorem k_393 : (Cond.code ({ cls := "NoonFields$Runner", name := "paces", desc := "(I)I" } : MethodName) prog_8_method_3_code (2 : Nat) (some FieldType.int)) ∈ WS := ws_in 458 (by decide +kernel) (by decide +kernel)
theorem k_400 : (Cond.code ({ cls := "NoonFields$Lame", name := "paces", desc := "(I)I" } : MethodName) prog_4_method_3_code (2 : Nat) (some FieldType.int)) ∈ WS := ws_in 465 (by decide +kernel) (by decide +kernel)
theorem k_404 : (Cond.methodLink "NoonFields$Old" (13 : Nat) ({ cls := "NoonFields$Lame", name := "paces", desc := "(I)I" } : MethodName)) ∈ WS := ws_in 469 (by decide +kernel) (by decide +kernel)
theorem k_406 : (Cond.code ({ cls := "NoonFields$Neighbour", name := "paces", desc := "(I)I" } : MethodName) prog_6_method_3_code (2 : Nat) (some FieldType.int)) ∈ WS := ws_in 471 (by decide +kernel) (by decide +kernel)
theorem k_407 : (Cond.methodLink "NoonFields" (123 : Nat) ({ cls := "NoonFields$World", name := "mayStand", desc := "(II)Z" } : MethodName)) ∈ WS := ws_in 472 (by decide +kernel) (by decide +kernel)
theorem k_408 : (Cond.instanceMethod ({ cls := "NoonFields$World", name := "mayStand", desc := "(II)Z" } : MethodName)) ∈ WS := ws_in 473 (by decide +kernel) (by decide +kernel)
theorem k_409 : (Cond.selects "NoonFields$World" ({ cls := "NoonFields$World", name := "mayStand", desc := "(II)Z" } : MethodName) ({ cls := "NoonFields$World", name := "mayStand", desc := "(II)Z" } : MethodName)) ∈ WS := ws_in 474 (by decide +kernel) (by decide +kernel)
theorem k_410 : (Cond.code ({ cls := "NoonFields$World", name := "mayStand", desc := "(II)Z" } : MethodName) prog_12_method_14_code (4 : Nat) (some FieldType.boolean)) ∈ WS := ws_in 475 (by decide +kernel) (by decide +kernel)
theorem k_411 : (Cond.methodLink "NoonFields$World" (105 : Nat) ({ cls := "NoonFields$Neighbour", name := "mayBeOn", desc := "(ZII)Z" } : MethodName)) ∈ WS := ws_in 476 (by decide +kernel) (by decide +kernel)
theorem k_412 : (Cond.instanceMethod ({ cls := "NoonFields$Neighbour", name := "mayBeOn", desc := "(ZII)Z" } : MethodName)) ∈ WS := ws_in 477 (by decide +kernel) (by decide +kernel)
theorem k_413 : (Cond.selects "NoonFields$Neighbour" ({ cls := "NoonFields$Neighbour", name := "mayBeOn", desc := "(ZII)Z" } : MethodName) ({ cls := "NoonFields$Neighbour", name := "mayBeOn", desc := "(ZII)Z" } : MethodName)) ∈ WS := ws_in 478 (by decide +kernel) (by decide +kernel)
theorem k_431 : (Cond.code ({ cls := "NoonFields$Neighbour", name := "mayBeOn", desc := "(ZII)Z" } : MethodName) prog_6_method_4_code (4 : Nat) (some FieldType.boolean)) ∈ WS := ws_in 496 (by decide +kernel) (by decide +kernel)
theorem k_432 : (Cond.methodLink "NoonFieldsLaw" (27 : Nat) ({ cls := "NoonFields", name := "as", desc := "(II)I" } : MethodName)) ∈ WS := ws_in 497 (by decide +kernel) (by decide +kernel)
theorem k_433 : (Cond.instanceMethod ({ cls := "NoonFields", name := "as", desc := "(II)I" } : MethodName)) ∈ WS := ws_in 498 (by decide +kernel) (by decide +kernel)
theorem k_434 : (Cond.selects "NoonFields" ({ cls := "NoonFields", name := "as", desc := "(II)I" } : MethodName) ({ cls := "NoonFields", name := "as", desc := "(II)I" } : MethodName)) ∈ WS := ws_in 499 (by decide +kernel) (by decide +kernel)
theorem k_435 : (Cond.code ({ cls := "NoonFields", name := "as", desc := "(II)I" } : MethodName) prog_1_method_5_code (3 : Nat) (some FieldType.int)) ∈ WS := ws_in 500 (by decide +kernel) (by decide +kernel)
theorem k_436 : (Cond.methodLink "NoonFields" (126 : Nat) ({ cls := "NoonFields$World", name := "kindOf", desc := "(I)LNoonFields$Neighbour;" } : MethodName)) ∈ WS := ws_in 501 (by decide +kernel) (by decide +kernel)
theorem k_437 : (Cond.methodLink "NoonFields" (130 : Nat) ({ cls := "NoonFields$Neighbour", name := "isOf", desc := "(I)Z" } : MethodName)) ∈ WS := ws_in 502 (by decide +kernel) (by decide +kernel)
theorem k_438 : (Cond.instanceMethod ({ cls := "NoonFields$Neighbour", name := "isOf", desc := "(I)Z" } : MethodName)) ∈ WS := ws_in 503 (by decide +kernel) (by decide +kernel)
theorem k_439 : (Cond.selects "NoonFields$Neighbour" ({ cls := "NoonFields$Neighbour", name := "isOf", desc := "(I)Z" } : MethodName) ({ cls := "NoonFields$Neighbour", name := "isOf", desc := "(I)Z" } : MethodName)) ∈ WS := ws_in 504 (by decide +kernel) (by decide +kernel)
theorem k_444 : (Cond.methodLink "NoonFields$Child" (9 : Nat) ({ cls := "NoonFields$Runner", name := "isOf", desc := "(I)Z" } : MethodName)) ∈ WS := ws_in 509 (by decide +kernel) (by decide +kernel)
theorem k_446 : (Cond.code ({ cls := "NoonFields$Runner", name := "isOf", desc := "(I)Z" } : MethodName) prog_8_method_2_code (2 : Nat) (some FieldType.boolean)) ∈ WS := ws_in 511 (by decide +kernel) (by decide +kernel)
theorem k_447 : (Cond.methodLink "NoonFields$Runner" (9 : Nat) ({ cls := "NoonFields$Neighbour", name := "isOf", desc := "(I)Z" } : MethodName)) ∈ WS := ws_in 512 (by decide +kernel) (by decide +kernel)
theorem k_451 : (Cond.methodLink "NoonFields$Hermit" (9 : Nat) ({ cls := "NoonFields$Neighbour", name := "isOf", desc := "(I)Z" } : MethodName)) ∈ WS := ws_in 516 (by decide +kernel) (by decide +kernel)
theorem k_454 : (Cond.code ({ cls := "NoonFields$Lame", name := "isOf", desc := "(I)Z" } : MethodName) prog_4_method_2_code (2 : Nat) (some FieldType.boolean)) ∈ WS := ws_in 519 (by decide +kernel) (by decide +kernel)
theorem k_455 : (Cond.methodLink "NoonFields$Lame" (9 : Nat) ({ cls := "NoonFields$Neighbour", name := "isOf", desc := "(I)Z" } : MethodName)) ∈ WS := ws_in 520 (by decide +kernel) (by decide +kernel)
theorem k_459 : (Cond.methodLink "NoonFields$Old" (9 : Nat) ({ cls := "NoonFields$Lame", name := "isOf", desc := "(I)Z" } : MethodName)) ∈ WS := ws_in 524 (by decide +kernel) (by decide +kernel)
theorem k_461 : (Cond.code ({ cls := "NoonFields$Neighbour", name := "isOf", desc := "(I)Z" } : MethodName) prog_6_method_2_code (2 : Nat) (some FieldType.boolean)) ∈ WS := ws_in 526 (by decide +kernel) (by decide +kernel)
theorem k_462 : (Cond.constant "NoonFields" (133 : Nat) (-1000000012 : Int32)) ∈ WS := ws_in 527 (by decide +kernel) (by decide +kernel)
theorem k_463 : (Cond.methodLink "NoonFieldsLaw" (31 : Nat) ({ cls := "NoonFields", name := "turns", desc := "(II)I" } : MethodName)) ∈ WS := ws_in 528 (by decide +kernel) (by decide +kernel)
theorem k_464 : (Cond.instanceMethod ({ cls := "NoonFields", name := "turns", desc := "(II)I" } : MethodName)) ∈ WS := ws_in 529 (by decide +kernel) (by decide +kernel)
theorem k_465 : (Cond.selects "NoonFields" ({ cls := "NoonFields", name := "turns", desc := "(II)I" } : MethodName) ({ cls := "NoonFields", name := "turns", desc := "(II)I" } : MethodName)) ∈ WS := ws_in 530 (by decide +kernel) (by decide +kernel)
theorem k_466 : (Cond.code ({ cls := "NoonFields", name := "turns", desc := "(II)I" } : MethodName) prog_1_method_6_code (3 : Nat) (some FieldType.int)) ∈ WS := ws_in 531 (by decide +kernel) (by decide +kernel)
theorem k_467 : (Cond.methodLink "NoonFields" (134 : Nat) ({ cls := "NoonFields", name := "exchange", desc := "([III)I" } : MethodName)) ∈ WS := ws_in 532 (by decide +kernel) (by decide +kernel)
theorem k_468 : (Cond.static ({ cls := "NoonFields", name := "exchange", desc := "([III)I" } : MethodName)) ∈ WS := ws_in 533 (by decide +kernel) (by decide +kernel)
theorem k_469 : (Cond.code ({ cls := "NoonFields", name := "exchange", desc := "([III)I" } : MethodName) prog_1_method_54_code (4 : Nat) (some FieldType.int)) ∈ WS := ws_in 534 (by decide +kernel) (by decide +kernel)
theorem k_470 : (Cond.methodLink "NoonFieldsLaw" (35 : Nat) ({ cls := "NoonFields", name := "set", desc := "(III)I" } : MethodName)) ∈ WS := ws_in 535 (by decide +kernel) (by decide +kernel)
theorem k_471 : (Cond.instanceMethod ({ cls := "NoonFields", name := "set", desc := "(III)I" } : MethodName)) ∈ WS := ws_in 536 (by decide +kernel) (by decide +kernel)
theorem k_472 : (Cond.selects "NoonFields" ({ cls := "NoonFields", name := "set", desc := "(III)I" } : MethodName) ({ cls := "NoonFields", name := "set", desc := "(III)I" } : MethodName)) ∈ WS := ws_in 537 (by decide +kernel) (by decide +kernel)
theorem k_473 : (Cond.code ({ cls := "NoonFields", name := "set", desc := "(III)I" } : MethodName) prog_1_method_7_code (4 : Nat) (some FieldType.int)) ∈ WS := ws_in 538 (by decide +kernel) (by decide +kernel)
theorem k_474 : (Cond.methodLink "NoonFieldsLaw" (39 : Nat) ({ cls := "NoonFields", name := "talk", desc := "(III)I" } : MethodName)) ∈ WS := ws_in 539 (by decide +kernel) (by decide +kernel)
theorem k_475 : (Cond.instanceMethod ({ cls := "NoonFields", name := "talk", desc := "(III)I" } : MethodName)) ∈ WS := ws_in 540 (by decide +kernel) (by decide +kernel)
theorem k_476 : (Cond.selects "NoonFields" ({ cls := "NoonFields", name := "talk", desc := "(III)I" } : MethodName) ({ cls := "NoonFields", name := "talk", desc := "(III)I" } : MethodName)) ∈ WS := ws_in 541 (by decide +kernel) (by decide +kernel)
theorem k_477 : (Cond.code ({ cls := "NoonFields", name := "talk", desc := "(III)I" } : MethodName) prog_1_method_8_code (5 : Nat) (some FieldType.int)) ∈ WS := ws_in 542 (by decide +kernel) (by decide +kernel)
theorem k_478 : (Cond.methodLink "NoonFields" (138 : Nat) ({ cls := "NoonFields$World", name := "isTalk", desc := "(II)Z" } : MethodName)) ∈ WS := ws_in 543 (by decide +kernel) (by decide +kernel)
theorem k_479 : (Cond.instanceMethod ({ cls := "NoonFields$World", name := "isTalk", desc := "(II)Z" } : MethodName)) ∈ WS := ws_in 544 (by decide +kernel) (by decide +kernel)
theorem k_480 : (Cond.selects "NoonFields$World" ({ cls := "NoonFields$World", name := "isTalk", desc := "(II)Z" } : MethodName) ({ cls := "NoonFields$World", name := "isTalk", desc := "(II)Z" } : MethodName)) ∈ WS := ws_in 545 (by decide +kernel) (by decide +kernel)
theorem k_481 : (Cond.code ({ cls := "NoonFields$World", name := "isTalk", desc := "(II)Z" } : MethodName) prog_12_method_7_code (3 : Nat) (some FieldType.boolean)) ∈ WS := ws_in 546 (by decide +kernel) (by decide +kernel)
theorem k_482 : (Cond.methodLink "NoonFieldsLaw" (43 : Nat) ({ cls := "NoonFields", name := "field", desc := "(II)I" } : MethodName)) ∈ WS := ws_in 547 (by decide +kernel) (by decide +kernel)
theorem k_483 : (Cond.instanceMethod ({ cls := "NoonFields", name := "field", desc := "(II)I" } : MethodName)) ∈ WS := ws_in 548 (by decide +kernel) (by decide +kernel)
theorem k_484 : (Cond.selects "NoonFields" ({ cls := "NoonFields", name := "field", desc := "(II)I" } : MethodName) ({ cls := "NoonFields", name := "field", desc := "(II)I" } : MethodName)) ∈ WS := ws_in 549 (by decide +kernel) (by decide +kernel)
theorem k_485 : (Cond.code ({ cls := "NoonFields", name := "field", desc := "(II)I" } : MethodName) prog_1_method_9_code (3 : Nat) (some FieldType.int)) ∈ WS := ws_in 550 (by decide +kernel) (by decide +kernel)
theorem k_486 : (Cond.methodLink "NoonFieldsLaw" (47 : Nat) ({ cls := "NoonFields", name := "lays", desc := "(III)I" } : MethodName)) ∈ WS := ws_in 551 (by decide +kernel) (by decide +kernel)
theorem k_487 : (Cond.instanceMethod ({ cls := "NoonFields", name := "lays", desc := "(III)I" } : MethodName)) ∈ WS := ws_in 552 (by decide +kernel) (by decide +kernel)
theorem k_488 : (Cond.selects "NoonFields" ({ cls := "NoonFields", name := "lays", desc := "(III)I" } : MethodName) ({ cls := "NoonFields", name := "lays", desc := "(III)I" } : MethodName)) ∈ WS := ws_in 553 (by decide +kernel) (by decide +kernel)
theorem k_489 : (Cond.code ({ cls := "NoonFields", name := "lays", desc := "(III)I" } : MethodName) prog_1_method_10_code (4 : Nat) (some FieldType.int)) ∈ WS := ws_in 554 (by decide +kernel) (by decide +kernel)
theorem k_490 : (Cond.methodLink "NoonFieldsLaw" (51 : Nat) ({ cls := "NoonFields", name := "far", desc := "(II)I" } : MethodName)) ∈ WS := ws_in 555 (by decide +kernel) (by decide +kernel)
theorem k_491 : (Cond.instanceMethod ({ cls := "NoonFields", name := "far", desc := "(II)I" } : MethodName)) ∈ WS := ws_in 556 (by decide +kernel) (by decide +kernel)
theorem k_492 : (Cond.selects "NoonFields" ({ cls := "NoonFields", name := "far", desc := "(II)I" } : MethodName) ({ cls := "NoonFields", name := "far", desc := "(II)I" } : MethodName)) ∈ WS := ws_in 557 (by decide +kernel) (by decide +kernel)
theorem k_493 : (Cond.code ({ cls := "NoonFields", name := "far", desc := "(II)I" } : MethodName) prog_1_method_11_code (3 : Nat) (some FieldType.int)) ∈ WS := ws_in 558 (by decide +kernel) (by decide +kernel)
theorem k_494 : (Cond.methodLink "NoonFields" (147 : Nat) ({ cls := "NoonFields$World", name := "apart", desc := "(II)I" } : MethodName)) ∈ WS := ws_in 559 (by decide +kernel) (by decide +kernel)
theorem k_495 : (Cond.methodLink "NoonFieldsLaw" (55 : Nat) ({ cls := "NoonFields", name := "late", desc := "(I)I" } : MethodName)) ∈ WS := ws_in 560 (by decide +kernel) (by decide +kernel)
theorem k_496 : (Cond.instanceMethod ({ cls := "NoonFields", name := "late", desc := "(I)I" } : MethodName)) ∈ WS := ws_in 561 (by decide +kernel) (by decide +kernel)
theorem k_497 : (Cond.selects "NoonFields" ({ cls := "NoonFields", name := "late", desc := "(I)I" } : MethodName) ({ cls := "NoonFields", name := "late", desc := "(I)I" } : MethodName)) ∈ WS := ws_in 562 (by decide +kernel) (by decide +kernel)
theorem k_498 : (Cond.code ({ cls := "NoonFields", name := "late", desc := "(I)I" } : MethodName) prog_1_method_12_code (3 : Nat) (some FieldType.int)) ∈ WS := ws_in 563 (by decide +kernel) (by decide +kernel)
theorem k_499 : (Cond.methodLink "NoonFieldsLaw" (60 : Nat) ({ cls := "NoonFields", name := "deal", desc := "(I)I" } : MethodName)) ∈ WS := ws_in 564 (by decide +kernel) (by decide +kernel)
theorem k_500 : (Cond.instanceMethod ({ cls := "NoonFields", name := "deal", desc := "(I)I" } : MethodName)) ∈ WS := ws_in 565 (by decide +kernel) (by decide +kernel)
theorem k_501 : (Cond.selects "NoonFields" ({ cls := "NoonFields", name := "deal", desc := "(I)I" } : MethodName) ({ cls := "NoonFields", name := "deal", desc := "(I)I" } : MethodName)) ∈ WS := ws_in 566 (by decide +kernel) (by decide +kernel)
theorem k_502 : (Cond.code ({ cls := "NoonFields", name := "deal", desc := "(I)I" } : MethodName) prog_1_method_13_code (7 : Nat) (some FieldType.int)) ∈ WS := ws_in 567 (by decide +kernel) (by decide +kernel)
theorem k_504 : (Cond.methodLink "NoonFields" (161 : Nat) ({ cls := "NoonFields$World", name := "draw", desc := "()I" } : MethodName)) ∈ WS := ws_in 569 (by decide +kernel) (by decide +kernel)
theorem k_505 : (Cond.instanceMethod ({ cls := "NoonFields$World", name := "draw", desc := "()I" } : MethodName)) ∈ WS := ws_in 570 (by decide +kernel) (by decide +kernel)
theorem k_506 : (Cond.selects "NoonFields$World" ({ cls := "NoonFields$World", name := "draw", desc := "()I" } : MethodName) ({ cls := "NoonFields$World", name := "draw", desc := "()I" } : MethodName)) ∈ WS := ws_in 571 (by decide +kernel) (by decide +kernel)
theorem k_507 : (Cond.code ({ cls := "NoonFields$World", name := "draw", desc := "()I" } : MethodName) prog_12_method_17_code (1 : Nat) (some FieldType.int)) ∈ WS := ws_in 572 (by decide +kernel) (by decide +kernel)
theorem k_508 : (Cond.constant "NoonFields$World" (113 : Nat) (1103515245 : Int32)) ∈ WS := ws_in 573 (by decide +kernel) (by decide +kernel)
theorem k_509 : (Cond.methodLink "NoonFieldsLaw" (64 : Nat) ({ cls := "NoonFields", name := "seed", desc := "(I)I" } : MethodName)) ∈ WS := ws_in 574 (by decide +kernel) (by decide +kernel)
theorem k_510 : (Cond.instanceMethod ({ cls := "NoonFields", name := "seed", desc := "(I)I" } : MethodName)) ∈ WS := ws_in 575 (by decide +kernel) (by decide +kernel)
theorem k_511 : (Cond.selects "NoonFields" ({ cls := "NoonFields", name := "seed", desc := "(I)I" } : MethodName) ({ cls := "NoonFields", name := "seed", desc := "(I)I" } : MethodName)) ∈ WS := ws_in 576 (by decide +kernel) (by decide +kernel)
theorem k_512 : (Cond.code ({ cls := "NoonFields", name := "seed", desc := "(I)I" } : MethodName) prog_1_method_14_code (3 : Nat) (some FieldType.int)) ∈ WS := ws_in 577 (by decide +kernel) (by decide +kernel)
theorem k_513 : (Cond.methodLink "NoonFieldsLaw" (68 : Nat) ({ cls := "NoonFields", name := "noons", desc := "(I)I" } : MethodName)) ∈ WS := ws_in 578 (by decide +kernel) (by decide +kernel)
theorem k_514 : (Cond.instanceMethod ({ cls := "NoonFields", name := "noons", desc := "(I)I" } : MethodName)) ∈ WS := ws_in 579 (by decide +kernel) (by decide +kernel)
theorem k_515 : (Cond.selects "NoonFields" ({ cls := "NoonFields", name := "noons", desc := "(I)I" } : MethodName) ({ cls := "NoonFields", name := "noons", desc := "(I)I" } : MethodName)) ∈ WS := ws_in 580 (by decide +kernel) (by decide +kernel)
theorem k_516 : (Cond.code ({ cls := "NoonFields", name := "noons", desc := "(I)I" } : MethodName) prog_1_method_15_code (3 : Nat) (some FieldType.int)) ∈ WS := ws_in 581 (by decide +kernel) (by decide +kernel)
theorem k_517 : (Cond.methodLink "NoonFields" (174 : Nat) ({ cls := "NoonFields$World", name := "pass", desc := "(II)V" } : MethodName)) ∈ WS := ws_in 582 (by decide +kernel) (by decide +kernel)
theorem k_518 : (Cond.instanceMethod ({ cls := "NoonFields$World", name := "pass", desc := "(II)V" } : MethodName)) ∈ WS := ws_in 583 (by decide +kernel) (by decide +kernel)
theorem k_519 : (Cond.selects "NoonFields$World" ({ cls := "NoonFields$World", name := "pass", desc := "(II)V" } : MethodName) ({ cls := "NoonFields$World", name := "pass", desc := "(II)V" } : MethodName)) ∈ WS := ws_in 584 (by decide +kernel) (by decide +kernel)
theorem k_520 : (Cond.code ({ cls := "NoonFields$World", name := "pass", desc := "(II)V" } : MethodName) prog_12_method_18_code (6 : Nat) (none : Option FieldType)) ∈ WS := ws_in 585 (by decide +kernel) (by decide +kernel)
theorem k_521 : (Cond.methodLink "NoonFields$World" (114 : Nat) ({ cls := "NoonFields$World", name := "standNowhere", desc := "()V" } : MethodName)) ∈ WS := ws_in 586 (by decide +kernel) (by decide +kernel)
theorem k_522 : (Cond.instanceMethod ({ cls := "NoonFields$World", name := "standNowhere", desc := "()V" } : MethodName)) ∈ WS := ws_in 587 (by decide +kernel) (by decide +kernel)
theorem k_523 : (Cond.selects "NoonFields$World" ({ cls := "NoonFields$World", name := "standNowhere", desc := "()V" } : MethodName) ({ cls := "NoonFields$World", name := "standNowhere", desc := "()V" } : MethodName)) ∈ WS := ws_in 588 (by decide +kernel) (by decide +kernel)
theorem k_524 : (Cond.code ({ cls := "NoonFields$World", name := "standNowhere", desc := "()V" } : MethodName) prog_12_method_16_code (2 : Nat) (none : Option FieldType)) ∈ WS := ws_in 589 (by decide +kernel) (by decide +kernel)
theorem k_525 : (Cond.methodLink "NoonFields$World" (117 : Nat) ({ cls := "NoonFields$World", name := "setOut", desc := "(I)V" } : MethodName)) ∈ WS := ws_in 590 (by decide +kernel) (by decide +kernel)
theorem k_527 : (Cond.instanceMethod ({ cls := "NoonFields$World", name := "setOut", desc := "(I)V" } : MethodName)) ∈ WS := ws_in 592 (by decide +kernel) (by decide +kernel)
theorem k_528 : (Cond.code ({ cls := "NoonFields$World", name := "setOut", desc := "(I)V" } : MethodName) prog_12_method_19_code (6 : Nat) (none : Option FieldType)) ∈ WS := ws_in 593 (by decide +kernel) (by decide +kernel)
theorem k_529 : (Cond.methodLink "NoonFields$World" (128 : Nat) ({ cls := "NoonFields$World", name := "mayStand", desc := "(II)Z" } : MethodName)) ∈ WS := ws_in 594 (by decide +kernel) (by decide +kernel)
theorem k_530 : (Cond.methodLink "NoonFields$World" (131 : Nat) ({ cls := "NoonFields$World", name := "hasRoom", desc := "(II)Z" } : MethodName)) ∈ WS := ws_in 595 (by decide +kernel) (by decide +kernel)
theorem k_531 : (Cond.instanceMethod ({ cls := "NoonFields$World", name := "hasRoom", desc := "(II)Z" } : MethodName)) ∈ WS := ws_in 596 (by decide +kernel) (by decide +kernel)
theorem k_532 : (Cond.selects "NoonFields$World" ({ cls := "NoonFields$World", name := "hasRoom", desc := "(II)Z" } : MethodName) ({ cls := "NoonFields$World", name := "hasRoom", desc := "(II)Z" } : MethodName)) ∈ WS := ws_in 597 (by decide +kernel) (by decide +kernel)
theorem k_533 : (Cond.code ({ cls := "NoonFields$World", name := "hasRoom", desc := "(II)Z" } : MethodName) prog_12_method_15_code (5 : Nat) (some FieldType.boolean)) ∈ WS := ws_in 598 (by decide +kernel) (by decide +kernel)
theorem k_534 : (Cond.methodLink "NoonFields$World" (109 : Nat) ({ cls := "NoonFields$World", name := "isTalk", desc := "(II)Z" } : MethodName)) ∈ WS := ws_in 599 (by decide +kernel) (by decide +kernel)
theorem k_535 : (Cond.methodLink "NoonFields$World" (134 : Nat) ({ cls := "NoonFields$World", name := "walkOf", desc := "(II)I" } : MethodName)) ∈ WS := ws_in 600 (by decide +kernel) (by decide +kernel)
theorem k_536 : (Cond.methodLink "NoonFields$World" (137 : Nat) ({ cls := "NoonFields$World", name := "arrive", desc := "(II)V" } : MethodName)) ∈ WS := ws_in 601 (by decide +kernel) (by decide +kernel)
theorem k_538 : (Cond.instanceMethod ({ cls := "NoonFields$World", name := "arrive", desc := "(II)V" } : MethodName)) ∈ WS := ws_in 603 (by decide +kernel) (by decide +kernel)
theorem k_539 : (Cond.code ({ cls := "NoonFields$World", name := "arrive", desc := "(II)V" } : MethodName) prog_12_method_20_code (4 : Nat) (none : Option FieldType)) ∈ WS := ws_in 604 (by decide +kernel) (by decide +kernel)
theorem k_540 : (Cond.methodLink "NoonFields$World" (141 : Nat) ({ cls := "NoonFields$World", name := "isOne", desc := "(I)Z" } : MethodName)) ∈ WS := ws_in 605 (by decide +kernel) (by decide +kernel)
theorem k_541 : (Cond.methodLink "NoonFields$World" (121 : Nat) ({ cls := "NoonFields$World", name := "draw", desc := "()I" } : MethodName)) ∈ WS := ws_in 606 (by decide +kernel) (by decide +kernel)
theorem k_542 : (Cond.methodLink "NoonFields$World" (125 : Nat) ({ cls := "NoonFields$World", name := "catchNearHome", desc := "()V" } : MethodName)) ∈ WS := ws_in 607 (by decide +kernel) (by decide +kernel)
theorem k_544 : (Cond.instanceMethod ({ cls := "NoonFields$World", name := "catchNearHome", desc := "()V" } : MethodName)) ∈ WS := ws_in 609 (by decide +kernel) (by decide +kernel)
theorem k_545 : (Cond.code ({ cls := "NoonFields$World", name := "catchNearHome", desc := "()V" } : MethodName) prog_12_method_21_code (2 : Nat) (none : Option FieldType)) ∈ WS := ws_in 610 (by decide +kernel) (by decide +kernel)
theorem k_546 : (Cond.methodLink "NoonFieldsLaw" (72 : Nat) ({ cls := "NoonFields", name := "year", desc := "(I)I" } : MethodName)) ∈ WS := ws_in 611 (by decide +kernel) (by decide +kernel)
theorem k_547 : (Cond.instanceMethod ({ cls := "NoonFields", name := "year", desc := "(I)I" } : MethodName)) ∈ WS := ws_in 612 (by decide +kernel) (by decide +kernel)
theorem k_548 : (Cond.selects "NoonFields" ({ cls := "NoonFields", name := "year", desc := "(I)I" } : MethodName) ({ cls := "NoonFields", name := "year", desc := "(I)I" } : MethodName)) ∈ WS := ws_in 613 (by decide +kernel) (by decide +kernel)
theorem k_549 : (Cond.code ({ cls := "NoonFields", name := "year", desc := "(I)I" } : MethodName) prog_1_method_16_code (2 : Nat) (some FieldType.int)) ∈ WS := ws_in 614 (by decide +kernel) (by decide +kernel)
theorem k_550 : (Cond.methodLink "NoonFields" (181 : Nat) ({ cls := "NoonFields$World", name := "sum", desc := "([I)I" } : MethodName)) ∈ WS := ws_in 615 (by decide +kernel) (by decide +kernel)
theorem k_551 : (Cond.static ({ cls := "NoonFields$World", name := "sum", desc := "([I)I" } : MethodName)) ∈ WS := ws_in 616 (by decide +kernel) (by decide +kernel)
theorem k_552 : (Cond.code ({ cls := "NoonFields$World", name := "sum", desc := "([I)I" } : MethodName) prog_12_method_11_code (3 : Nat) (some FieldType.int)) ∈ WS := ws_in 617 (by decide +kernel) (by decide +kernel)
theorem k_553 : (Cond.methodLink "NoonFieldsLaw" (76 : Nat) ({ cls := "NoonFields", name := "best", desc := "(I)I" } : MethodName)) ∈ WS := ws_in 618 (by decide +kernel) (by decide +kernel)
theorem k_554 : (Cond.instanceMethod ({ cls := "NoonFields", name := "best", desc := "(I)I" } : MethodName)) ∈ WS := ws_in 619 (by decide +kernel) (by decide +kernel)
theorem k_555 : (Cond.selects "NoonFields" ({ cls := "NoonFields", name := "best", desc := "(I)I" } : MethodName) ({ cls := "NoonFields", name := "best", desc := "(I)I" } : MethodName)) ∈ WS := ws_in 620 (by decide +kernel) (by decide +kernel)
theorem k_556 : (Cond.code ({ cls := "NoonFields", name := "best", desc := "(I)I" } : MethodName) prog_1_method_17_code (2 : Nat) (some FieldType.int)) ∈ WS := ws_in 621 (by decide +kernel) (by decide +kernel)
theorem k_557 : (Cond.constant "NoonFields" (185 : Nat) (-1000000005 : Int32)) ∈ WS := ws_in 622 (by decide +kernel) (by decide +kernel)
theorem k_558 : (Cond.methodLink "NoonFields" (186 : Nat) ({ cls := "NoonFields$World", name := "become", desc := "(LNoonFields$World;)V" } : MethodName)) ∈ WS := ws_in 623 (by decide +kernel) (by decide +kernel)
theorem k_559 : (Cond.instanceMethod ({ cls := "NoonFields$World", name := "become", desc := "(LNoonFields$World;)V" } : MethodName)) ∈ WS := ws_in 624 (by decide +kernel) (by decide +kernel)
theorem k_560 : (Cond.selects "NoonFields$World" ({ cls := "NoonFields$World", name := "become", desc := "(LNoonFields$World;)V" } : MethodName) ({ cls := "NoonFields$World", name := "become", desc := "(LNoonFields$World;)V" } : MethodName)) ∈ WS := ws_in 625 (by decide +kernel) (by decide +kernel)
theorem k_561 : (Cond.code ({ cls := "NoonFields$World", name := "become", desc := "(LNoonFields$World;)V" } : MethodName) prog_12_method_2_code (3 : Nat) (none : Option FieldType)) ∈ WS := ws_in 626 (by decide +kernel) (by decide +kernel)
theorem k_565 : (Cond.methodLink "NoonFields" (190 : Nat) ({ cls := "NoonFields$World", name := "standNowhere", desc := "()V" } : MethodName)) ∈ WS := ws_in 630 (by decide +kernel) (by decide +kernel)
theorem k_566 : (Cond.methodLink "NoonFields" (193 : Nat) ({ cls := "NoonFields", name := "measureWalks", desc := "()V" } : MethodName)) ∈ WS := ws_in 631 (by decide +kernel) (by decide +kernel)
theorem k_568 : (Cond.instanceMethod ({ cls := "NoonFields", name := "measureWalks", desc := "()V" } : MethodName)) ∈ WS := ws_in 633 (by decide +kernel) (by decide +kernel)
theorem k_569 : (Cond.code ({ cls := "NoonFields", name := "measureWalks", desc := "()V" } : MethodName) prog_1_method_18_code (3 : Nat) (none : Option FieldType)) ∈ WS := ws_in 634 (by decide +kernel) (by decide +kernel)
theorem k_570 : (Cond.methodLink "NoonFields" (196 : Nat) ({ cls := "NoonFields", name := "place", desc := "(III)V" } : MethodName)) ∈ WS := ws_in 635 (by decide +kernel) (by decide +kernel)
theorem k_572 : (Cond.instanceMethod ({ cls := "NoonFields", name := "place", desc := "(III)V" } : MethodName)) ∈ WS := ws_in 637 (by decide +kernel) (by decide +kernel)
theorem k_573 : (Cond.code ({ cls := "NoonFields", name := "place", desc := "(III)V" } : MethodName) prog_1_method_19_code (4 : Nat) (none : Option FieldType)) ∈ WS := ws_in 638 (by decide +kernel) (by decide +kernel)
theorem k_574 : (Cond.methodLink "NoonFields" (200 : Nat) ({ cls := "NoonFields", name := "placeOnEach", desc := "(III)V" } : MethodName)) ∈ WS := ws_in 639 (by decide +kernel) (by decide +kernel)
theorem k_576 : (Cond.instanceMethod ({ cls := "NoonFields", name := "placeOnEach", desc := "(III)V" } : MethodName)) ∈ WS := ws_in 641 (by decide +kernel) (by decide +kernel)
theorem k_577 : (Cond.code ({ cls := "NoonFields", name := "placeOnEach", desc := "(III)V" } : MethodName) prog_1_method_20_code (6 : Nat) (none : Option FieldType)) ∈ WS := ws_in 642 (by decide +kernel) (by decide +kernel)
theorem k_578 : (Cond.methodLink "NoonFields" (203 : Nat) ({ cls := "NoonFields$World", name := "hasRoom", desc := "(II)Z" } : MethodName)) ∈ WS := ws_in 643 (by decide +kernel) (by decide +kernel)
theorem k_579 : (Cond.methodLink "NoonFieldsLaw" (80 : Nat) ({ cls := "NoonFields", name := "behind", desc := "(II)I" } : MethodName)) ∈ WS := ws_in 644 (by decide +kernel) (by decide +kernel)
theorem k_580 : (Cond.instanceMethod ({ cls := "NoonFields", name := "behind", desc := "(II)I" } : MethodName)) ∈ WS := ws_in 645 (by decide +kernel) (by decide +kernel)
theorem k_581 : (Cond.selects "NoonFields" ({ cls := "NoonFields", name := "behind", desc := "(II)I" } : MethodName) ({ cls := "NoonFields", name := "behind", desc := "(II)I" } : MethodName)) ∈ WS := ws_in 646 (by decide +kernel) (by decide +kernel)
theorem k_582 : (Cond.code ({ cls := "NoonFields", name := "behind", desc := "(II)I" } : MethodName) prog_1_method_21_code (3 : Nat) (some FieldType.int)) ∈ WS := ws_in 647 (by decide +kernel) (by decide +kernel)
theorem k_583 : (Cond.methodLink "NoonFields" (209 : Nat) ({ cls := "NoonFields", name := "think", desc := "(I)V" } : MethodName)) ∈ WS := ws_in 648 (by decide +kernel) (by decide +kernel)
theorem k_585 : (Cond.instanceMethod ({ cls := "NoonFields", name := "think", desc := "(I)V" } : MethodName)) ∈ WS := ws_in 650 (by decide +kernel) (by decide +kernel)
theorem k_586 : (Cond.code ({ cls := "NoonFields", name := "think", desc := "(I)V" } : MethodName) prog_1_method_29_code (2 : Nat) (none : Option FieldType)) ∈ WS := ws_in 651 (by decide +kernel) (by decide +kernel)
theorem k_587 : (Cond.methodLink "NoonFieldsLaw" (84 : Nat) ({ cls := "NoonFields", name := "has", desc := "(III)I" } : MethodName)) ∈ WS := ws_in 652 (by decide +kernel) (by decide +kernel)
theorem k_588 : (Cond.instanceMethod ({ cls := "NoonFields", name := "has", desc := "(III)I" } : MethodName)) ∈ WS := ws_in 653 (by decide +kernel) (by decide +kernel)
theorem k_589 : (Cond.selects "NoonFields" ({ cls := "NoonFields", name := "has", desc := "(III)I" } : MethodName) ({ cls := "NoonFields", name := "has", desc := "(III)I" } : MethodName)) ∈ WS := ws_in 654 (by decide +kernel) (by decide +kernel)
theorem k_590 : (Cond.code ({ cls := "NoonFields", name := "has", desc := "(III)I" } : MethodName) prog_1_method_22_code (4 : Nat) (some FieldType.int)) ∈ WS := ws_in 655 (by decide +kernel) (by decide +kernel)
theorem k_591 : (Cond.methodLink "NoonFieldsLaw" (88 : Nat) ({ cls := "NoonFields", name := "rota", desc := "(I)I" } : MethodName)) ∈ WS := ws_in 656 (by decide +kernel) (by decide +kernel)
theorem k_592 : (Cond.instanceMethod ({ cls := "NoonFields", name := "rota", desc := "(I)I" } : MethodName)) ∈ WS := ws_in 657 (by decide +kernel) (by decide +kernel)
theorem k_593 : (Cond.selects "NoonFields" ({ cls := "NoonFields", name := "rota", desc := "(I)I" } : MethodName) ({ cls := "NoonFields", name := "rota", desc := "(I)I" } : MethodName)) ∈ WS := ws_in 658 (by decide +kernel) (by decide +kernel)
theorem k_594 : (Cond.code ({ cls := "NoonFields", name := "rota", desc := "(I)I" } : MethodName) prog_1_method_23_code (3 : Nat) (some FieldType.int)) ∈ WS := ws_in 659 (by decide +kernel) (by decide +kernel)
theorem k_595 : (Cond.methodLink "NoonFields" (213 : Nat) ({ cls := "NoonFields$World", name := "allHad", desc := "(I)Z" } : MethodName)) ∈ WS := ws_in 660 (by decide +kernel) (by decide +kernel)
theorem k_596 : (Cond.instanceMethod ({ cls := "NoonFields$World", name := "allHad", desc := "(I)Z" } : MethodName)) ∈ WS := ws_in 661 (by decide +kernel) (by decide +kernel)
theorem k_597 : (Cond.selects "NoonFields$World" ({ cls := "NoonFields$World", name := "allHad", desc := "(I)Z" } : MethodName) ({ cls := "NoonFields$World", name := "allHad", desc := "(I)Z" } : MethodName)) ∈ WS := ws_in 662 (by decide +kernel) (by decide +kernel)
theorem k_598 : (Cond.code ({ cls := "NoonFields$World", name := "allHad", desc := "(I)Z" } : MethodName) prog_12_method_9_code (3 : Nat) (some FieldType.boolean)) ∈ WS := ws_in 663 (by decide +kernel) (by decide +kernel)
theorem k_605 : (Cond.methodLink "NoonFieldsLaw" (92 : Nat) ({ cls := "NoonFields", name := "sold", desc := "(III)I" } : MethodName)) ∈ WS := ws_in 670 (by decide +kernel) (by decide +kernel)
theorem k_606 : (Cond.instanceMethod ({ cls := "NoonFields", name := "sold", desc := "(III)I" } : MethodName)) ∈ WS := ws_in 671 (by decide +kernel) (by decide +kernel)
theorem k_607 : (Cond.selects "NoonFields" ({ cls := "NoonFields", name := "sold", desc := "(III)I" } : MethodName) ({ cls := "NoonFields", name := "sold", desc := "(III)I" } : MethodName)) ∈ WS := ws_in 672 (by decide +kernel) (by decide +kernel)
theorem k_608 : (Cond.code ({ cls := "NoonFields", name := "sold", desc := "(III)I" } : MethodName) prog_1_method_24_code (5 : Nat) (some FieldType.int)) ∈ WS := ws_in 673 (by decide +kernel) (by decide +kernel)
theorem k_609 : (Cond.methodLink "NoonFields" (216 : Nat) ({ cls := "NoonFields", name := "thinkOwned", desc := "(III)V" } : MethodName)) ∈ WS := ws_in 674 (by decide +kernel) (by decide +kernel)
theorem k_611 : (Cond.instanceMethod ({ cls := "NoonFields", name := "thinkOwned", desc := "(III)V" } : MethodName)) ∈ WS := ws_in 676 (by decide +kernel) (by decide +kernel)
theorem k_612 : (Cond.code ({ cls := "NoonFields", name := "thinkOwned", desc := "(III)V" } : MethodName) prog_1_method_30_code (4 : Nat) (none : Option FieldType)) ∈ WS := ws_in 677 (by decide +kernel) (by decide +kernel)
theorem k_613 : (Cond.methodLink "NoonFieldsLaw" (96 : Nat) ({ cls := "NoonFields", name := "nobodys", desc := "(II)I" } : MethodName)) ∈ WS := ws_in 678 (by decide +kernel) (by decide +kernel)
theorem k_614 : (Cond.instanceMethod ({ cls := "NoonFields", name := "nobodys", desc := "(II)I" } : MethodName)) ∈ WS := ws_in 679 (by decide +kernel) (by decide +kernel)
theorem k_615 : (Cond.selects "NoonFields" ({ cls := "NoonFields", name := "nobodys", desc := "(II)I" } : MethodName) ({ cls := "NoonFields", name := "nobodys", desc := "(II)I" } : MethodName)) ∈ WS := ws_in 680 (by decide +kernel) (by decide +kernel)
theorem k_616 : (Cond.code ({ cls := "NoonFields", name := "nobodys", desc := "(II)I" } : MethodName) prog_1_method_25_code (7 : Nat) (some FieldType.int)) ∈ WS := ws_in 681 (by decide +kernel) (by decide +kernel)
theorem k_617 : (Cond.methodLink "NoonFieldsLaw" (100 : Nat) ({ cls := "NoonFields", name := "beside", desc := "(II)I" } : MethodName)) ∈ WS := ws_in 682 (by decide +kernel) (by decide +kernel)
theorem k_618 : (Cond.instanceMethod ({ cls := "NoonFields", name := "beside", desc := "(II)I" } : MethodName)) ∈ WS := ws_in 683 (by decide +kernel) (by decide +kernel)
theorem k_619 : (Cond.selects "NoonFields" ({ cls := "NoonFields", name := "beside", desc := "(II)I" } : MethodName) ({ cls := "NoonFields", name := "beside", desc := "(II)I" } : MethodName)) ∈ WS := ws_in 684 (by decide +kernel) (by decide +kernel)
theorem k_620 : (Cond.code ({ cls := "NoonFields", name := "beside", desc := "(II)I" } : MethodName) prog_1_method_26_code (6 : Nat) (some FieldType.int)) ∈ WS := ws_in 685 (by decide +kernel) (by decide +kernel)
theorem k_621 : (Cond.methodLink "NoonFields" (219 : Nat) ({ cls := "NoonFields", name := "countPairs", desc := "(I)V" } : MethodName)) ∈ WS := ws_in 686 (by decide +kernel) (by decide +kernel)
theorem k_623 : (Cond.instanceMethod ({ cls := "NoonFields", name := "countPairs", desc := "(I)V" } : MethodName)) ∈ WS := ws_in 688 (by decide +kernel) (by decide +kernel)
theorem k_624 : (Cond.code ({ cls := "NoonFields", name := "countPairs", desc := "(I)V" } : MethodName) prog_1_method_27_code (5 : Nat) (none : Option FieldType)) ∈ WS := ws_in 689 (by decide +kernel) (by decide +kernel)
theorem k_625 : (Cond.methodLink "NoonFields" (222 : Nat) ({ cls := "NoonFields$World", name := "standTogether", desc := "(II)Z" } : MethodName)) ∈ WS := ws_in 690 (by decide +kernel) (by decide +kernel)
theorem k_626 : (Cond.instanceMethod ({ cls := "NoonFields$World", name := "standTogether", desc := "(II)Z" } : MethodName)) ∈ WS := ws_in 691 (by decide +kernel) (by decide +kernel)
theorem k_627 : (Cond.selects "NoonFields$World" ({ cls := "NoonFields$World", name := "standTogether", desc := "(II)Z" } : MethodName) ({ cls := "NoonFields$World", name := "standTogether", desc := "(II)Z" } : MethodName)) ∈ WS := ws_in 692 (by decide +kernel) (by decide +kernel)
theorem k_628 : (Cond.code ({ cls := "NoonFields$World", name := "standTogether", desc := "(II)Z" } : MethodName) prog_12_method_10_code (3 : Nat) (some FieldType.boolean)) ∈ WS := ws_in 693 (by decide +kernel) (by decide +kernel)
theorem k_629 : (Cond.methodLink "NoonFieldsLaw" (104 : Nat) ({ cls := "NoonFields", name := "atHome", desc := "(III)I" } : MethodName)) ∈ WS := ws_in 694 (by decide +kernel) (by decide +kernel)
theorem k_630 : (Cond.instanceMethod ({ cls := "NoonFields", name := "atHome", desc := "(III)I" } : MethodName)) ∈ WS := ws_in 695 (by decide +kernel) (by decide +kernel)
theorem k_631 : (Cond.selects "NoonFields" ({ cls := "NoonFields", name := "atHome", desc := "(III)I" } : MethodName) ({ cls := "NoonFields", name := "atHome", desc := "(III)I" } : MethodName)) ∈ WS := ws_in 696 (by decide +kernel) (by decide +kernel)
theorem k_632 : (Cond.code ({ cls := "NoonFields", name := "atHome", desc := "(III)I" } : MethodName) prog_1_method_28_code (8 : Nat) (some FieldType.int)) ∈ WS := ws_in 697 (by decide +kernel) (by decide +kernel)
theorem k_633 : (Cond.methodLink "NoonFields" (225 : Nat) ({ cls := "NoonFields$Sheet", name := "isMissing", desc := "()Z" } : MethodName)) ∈ WS := ws_in 698 (by decide +kernel) (by decide +kernel)
theorem k_634 : (Cond.instanceMethod ({ cls := "NoonFields$Sheet", name := "isMissing", desc := "()Z" } : MethodName)) ∈ WS := ws_in 699 (by decide +kernel) (by decide +kernel)
theorem k_635 : (Cond.selects "NoonFields$Sheet" ({ cls := "NoonFields$Sheet", name := "isMissing", desc := "()Z" } : MethodName) ({ cls := "NoonFields$Sheet", name := "isMissing", desc := "()Z" } : MethodName)) ∈ WS := ws_in 700 (by decide +kernel) (by decide +kernel)
theorem k_636 : (Cond.code ({ cls := "NoonFields$Sheet", name := "isMissing", desc := "()Z" } : MethodName) prog_9_method_2_code (1 : Nat) (some FieldType.boolean)) ∈ WS := ws_in 701 (by decide +kernel) (by decide +kernel)
theorem k_637 : (Cond.constant "NoonFields" (229 : Nat) (-1000000011 : Int32)) ∈ WS := ws_in 702 (by decide +kernel) (by decide +kernel)
theorem k_638 : (Cond.methodLink "NoonFields" (230 : Nat) ({ cls := "NoonFields$Sheet", name := "differences", desc := "([I)I" } : MethodName)) ∈ WS := ws_in 703 (by decide +kernel) (by decide +kernel)
theorem k_639 : (Cond.instanceMethod ({ cls := "NoonFields$Sheet", name := "differences", desc := "([I)I" } : MethodName)) ∈ WS := ws_in 704 (by decide +kernel) (by decide +kernel)
theorem k_640 : (Cond.selects "NoonFields$Sheet" ({ cls := "NoonFields$Sheet", name := "differences", desc := "([I)I" } : MethodName) ({ cls := "NoonFields$Sheet", name := "differences", desc := "([I)I" } : MethodName)) ∈ WS := ws_in 705 (by decide +kernel) (by decide +kernel)
theorem k_641 : (Cond.code ({ cls := "NoonFields$Sheet", name := "differences", desc := "([I)I" } : MethodName) prog_9_method_10_code (4 : Nat) (some FieldType.int)) ∈ WS := ws_in 706 (by decide +kernel) (by decide +kernel)
theorem k_642 : (Cond.methodLink "NoonFields$Sheet" (41 : Nat) ({ cls := "NoonFields$Sheet", name := "isNumber", desc := "(I)Z" } : MethodName)) ∈ WS := ws_in 707 (by decide +kernel) (by decide +kernel)
theorem k_643 : (Cond.instanceMethod ({ cls := "NoonFields$Sheet", name := "isNumber", desc := "(I)Z" } : MethodName)) ∈ WS := ws_in 708 (by decide +kernel) (by decide +kernel)
theorem k_644 : (Cond.selects "NoonFields$Sheet" ({ cls := "NoonFields$Sheet", name := "isNumber", desc := "(I)Z" } : MethodName) ({ cls := "NoonFields$Sheet", name := "isNumber", desc := "(I)Z" } : MethodName)) ∈ WS := ws_in 709 (by decide +kernel) (by decide +kernel)
theorem k_645 : (Cond.code ({ cls := "NoonFields$Sheet", name := "isNumber", desc := "(I)Z" } : MethodName) prog_9_method_5_code (2 : Nat) (some FieldType.boolean)) ∈ WS := ws_in 710 (by decide +kernel) (by decide +kernel)
theorem k_646 : (Cond.methodLink "NoonFields$Sheet" (26 : Nat) ({ cls := "NoonFields$Sheet", name := "hasPlace", desc := "(I)Z" } : MethodName)) ∈ WS := ws_in 711 (by decide +kernel) (by decide +kernel)
theorem k_647 : (Cond.instanceMethod ({ cls := "NoonFields$Sheet", name := "hasPlace", desc := "(I)Z" } : MethodName)) ∈ WS := ws_in 712 (by decide +kernel) (by decide +kernel)
theorem k_648 : (Cond.selects "NoonFields$Sheet" ({ cls := "NoonFields$Sheet", name := "hasPlace", desc := "(I)Z" } : MethodName) ({ cls := "NoonFields$Sheet", name := "hasPlace", desc := "(I)Z" } : MethodName)) ∈ WS := ws_in 713 (by decide +kernel) (by decide +kernel)
theorem k_649 : (Cond.code ({ cls := "NoonFields$Sheet", name := "hasPlace", desc := "(I)Z" } : MethodName) prog_9_method_3_code (2 : Nat) (some FieldType.boolean)) ∈ WS := ws_in 714 (by decide +kernel) (by decide +kernel)
theorem k_651 : (Cond.methodLink "NoonFieldsLaw" (108 : Nat) ({ cls := "NoonFields", name := "toll", desc := "()I" } : MethodName)) ∈ WS := ws_in 716 (by decide +kernel) (by decide +kernel)
theorem k_652 : (Cond.instanceMethod ({ cls := "NoonFields", name := "toll", desc := "()I" } : MethodName)) ∈ WS := ws_in 717 (by decide +kernel) (by decide +kernel)
theorem k_653 : (Cond.selects "NoonFields" ({ cls := "NoonFields", name := "toll", desc := "()I" } : MethodName) ({ cls := "NoonFields", name := "toll", desc := "()I" } : MethodName)) ∈ WS := ws_in 718 (by decide +kernel) (by decide +kernel)
theorem k_654 : (Cond.code ({ cls := "NoonFields", name := "toll", desc := "()I" } : MethodName) prog_1_method_31_code (2 : Nat) (some FieldType.int)) ∈ WS := ws_in 719 (by decide +kernel) (by decide +kernel)
theorem k_655 : (Cond.methodLink "NoonFields" (236 : Nat) ({ cls := "NoonFields$Laws", name := "gives", desc := "(IIII)I" } : MethodName)) ∈ WS := ws_in 720 (by decide +kernel) (by decide +kernel)
theorem k_656 : (Cond.methodLink "NoonFieldsLaw" (113 : Nat) ({ cls := "NoonFields", name := "fine", desc := "(I)I" } : MethodName)) ∈ WS := ws_in 721 (by decide +kernel) (by decide +kernel)
theorem k_657 : (Cond.instanceMethod ({ cls := "NoonFields", name := "fine", desc := "(I)I" } : MethodName)) ∈ WS := ws_in 722 (by decide +kernel) (by decide +kernel)
theorem k_658 : (Cond.selects "NoonFields" ({ cls := "NoonFields", name := "fine", desc := "(I)I" } : MethodName) ({ cls := "NoonFields", name := "fine", desc := "(I)I" } : MethodName)) ∈ WS := ws_in 723 (by decide +kernel) (by decide +kernel)
theorem k_659 : (Cond.code ({ cls := "NoonFields", name := "fine", desc := "(I)I" } : MethodName) prog_1_method_32_code (4 : Nat) (some FieldType.int)) ∈ WS := ws_in 724 (by decide +kernel) (by decide +kernel)
theorem k_660 : (Cond.methodLink "NoonFieldsLaw" (117 : Nat) ({ cls := "NoonFields", name := "feed", desc := "(III)I" } : MethodName)) ∈ WS := ws_in 725 (by decide +kernel) (by decide +kernel)
theorem k_661 : (Cond.instanceMethod ({ cls := "NoonFields", name := "feed", desc := "(III)I" } : MethodName)) ∈ WS := ws_in 726 (by decide +kernel) (by decide +kernel)
theorem k_662 : (Cond.selects "NoonFields" ({ cls := "NoonFields", name := "feed", desc := "(III)I" } : MethodName) ({ cls := "NoonFields", name := "feed", desc := "(III)I" } : MethodName)) ∈ WS := ws_in 727 (by decide +kernel) (by decide +kernel)
theorem k_663 : (Cond.code ({ cls := "NoonFields", name := "feed", desc := "(III)I" } : MethodName) prog_1_method_33_code (4 : Nat) (some FieldType.int)) ∈ WS := ws_in 728 (by decide +kernel) (by decide +kernel)
theorem k_664 : (Cond.constant "NoonFields" (243 : Nat) (-1000000003 : Int32)) ∈ WS := ws_in 729 (by decide +kernel) (by decide +kernel)
theorem k_665 : (Cond.methodLink "NoonFields" (244 : Nat) ({ cls := "NoonFields$Tape", name := "append", desc := "(I)V" } : MethodName)) ∈ WS := ws_in 730 (by decide +kernel) (by decide +kernel)
theorem k_666 : (Cond.instanceMethod ({ cls := "NoonFields$Tape", name := "append", desc := "(I)V" } : MethodName)) ∈ WS := ws_in 731 (by decide +kernel) (by decide +kernel)
theorem k_667 : (Cond.selects "NoonFields$Tape" ({ cls := "NoonFields$Tape", name := "append", desc := "(I)V" } : MethodName) ({ cls := "NoonFields$Tape", name := "append", desc := "(I)V" } : MethodName)) ∈ WS := ws_in 732 (by decide +kernel) (by decide +kernel)
theorem k_668 : (Cond.code ({ cls := "NoonFields$Tape", name := "append", desc := "(I)V" } : MethodName) prog_11_method_2_code (3 : Nat) (none : Option FieldType)) ∈ WS := ws_in 733 (by decide +kernel) (by decide +kernel)
theorem k_669 : (Cond.methodLink "NoonFieldsLaw" (121 : Nat) ({ cls := "NoonFields", name := "trim", desc := "(I)I" } : MethodName)) ∈ WS := ws_in 734 (by decide +kernel) (by decide +kernel)
theorem k_670 : (Cond.instanceMethod ({ cls := "NoonFields", name := "trim", desc := "(I)I" } : MethodName)) ∈ WS := ws_in 735 (by decide +kernel) (by decide +kernel)
theorem k_671 : (Cond.selects "NoonFields" ({ cls := "NoonFields", name := "trim", desc := "(I)I" } : MethodName) ({ cls := "NoonFields", name := "trim", desc := "(I)I" } : MethodName)) ∈ WS := ws_in 736 (by decide +kernel) (by decide +kernel)
theorem k_672 : (Cond.code ({ cls := "NoonFields", name := "trim", desc := "(I)I" } : MethodName) prog_1_method_34_code (2 : Nat) (some FieldType.int)) ∈ WS := ws_in 737 (by decide +kernel) (by decide +kernel)
theorem k_673 : (Cond.methodLink "NoonFieldsLaw" (125 : Nat) ({ cls := "NoonFields", name := "text", desc := "()I" } : MethodName)) ∈ WS := ws_in 738 (by decide +kernel) (by decide +kernel)
theorem k_674 : (Cond.instanceMethod ({ cls := "NoonFields", name := "text", desc := "()I" } : MethodName)) ∈ WS := ws_in 739 (by decide +kernel) (by decide +kernel)
theorem k_675 : (Cond.selects "NoonFields" ({ cls := "NoonFields", name := "text", desc := "()I" } : MethodName) ({ cls := "NoonFields", name := "text", desc := "()I" } : MethodName)) ∈ WS := ws_in 740 (by decide +kernel) (by decide +kernel)
theorem k_676 : (Cond.code ({ cls := "NoonFields", name := "text", desc := "()I" } : MethodName) prog_1_method_35_code (3 : Nat) (some FieldType.int)) ∈ WS := ws_in 741 (by decide +kernel) (by decide +kernel)
theorem k_677 : (Cond.methodLink "NoonFields" (247 : Nat) ({ cls := "NoonFields$Tape", name := "parse", desc := "()Z" } : MethodName)) ∈ WS := ws_in 742 (by decide +kernel) (by decide +kernel)
theorem k_678 : (Cond.instanceMethod ({ cls := "NoonFields$Tape", name := "parse", desc := "()Z" } : MethodName)) ∈ WS := ws_in 743 (by decide +kernel) (by decide +kernel)
theorem k_679 : (Cond.selects "NoonFields$Tape" ({ cls := "NoonFields$Tape", name := "parse", desc := "()Z" } : MethodName) ({ cls := "NoonFields$Tape", name := "parse", desc := "()Z" } : MethodName)) ∈ WS := ws_in 744 (by decide +kernel) (by decide +kernel)
theorem k_680 : (Cond.code ({ cls := "NoonFields$Tape", name := "parse", desc := "()Z" } : MethodName) prog_11_method_3_code (1 : Nat) (some FieldType.boolean)) ∈ WS := ws_in 745 (by decide +kernel) (by decide +kernel)
theorem k_681 : (Cond.methodLink "NoonFields$Tape" (44 : Nat) ({ cls := "NoonFields$Tape", name := "advance", desc := "()V" } : MethodName)) ∈ WS := ws_in 746 (by decide +kernel) (by decide +kernel)
theorem k_683 : (Cond.instanceMethod ({ cls := "NoonFields$Tape", name := "advance", desc := "()V" } : MethodName)) ∈ WS := ws_in 748 (by decide +kernel) (by decide +kernel)
theorem k_684 : (Cond.code ({ cls := "NoonFields$Tape", name := "advance", desc := "()V" } : MethodName) prog_11_method_6_code (4 : Nat) (none : Option FieldType)) ∈ WS := ws_in 749 (by decide +kernel) (by decide +kernel)
theorem k_685 : (Cond.methodLink "NoonFields$Tape" (73 : Nat) ({ cls := "NoonFields$Tape", name := "signOf", desc := "(I)I" } : MethodName)) ∈ WS := ws_in 750 (by decide +kernel) (by decide +kernel)
theorem k_686 : (Cond.static ({ cls := "NoonFields$Tape", name := "signOf", desc := "(I)I" } : MethodName)) ∈ WS := ws_in 751 (by decide +kernel) (by decide +kernel)
theorem k_687 : (Cond.code ({ cls := "NoonFields$Tape", name := "signOf", desc := "(I)I" } : MethodName) prog_11_method_7_code (1 : Nat) (some FieldType.int)) ∈ WS := ws_in 752 (by decide +kernel) (by decide +kernel)
theorem k_688 : (Cond.methodLink "NoonFields$Tape" (47 : Nat) ({ cls := "NoonFields$Tape", name := "keyAhead", desc := "()I" } : MethodName)) ∈ WS := ws_in 753 (by decide +kernel) (by decide +kernel)
theorem k_690 : (Cond.instanceMethod ({ cls := "NoonFields$Tape", name := "keyAhead", desc := "()I" } : MethodName)) ∈ WS := ws_in 755 (by decide +kernel) (by decide +kernel)
theorem k_691 : (Cond.code ({ cls := "NoonFields$Tape", name := "keyAhead", desc := "()I" } : MethodName) prog_11_method_4_code (1 : Nat) (some FieldType.int)) ∈ WS := ws_in 756 (by decide +kernel) (by decide +kernel)
theorem k_693 : (Cond.methodLink "NoonFields$Tape" (57 : Nat) ({ cls := "NoonFields$Tape", name := "isAhead", desc := "(Ljava/lang/String;)Z" } : MethodName)) ∈ WS := ws_in 758 (by decide +kernel) (by decide +kernel)
theorem k_695 : (Cond.instanceMethod ({ cls := "NoonFields$Tape", name := "isAhead", desc := "(Ljava/lang/String;)Z" } : MethodName)) ∈ WS := ws_in 760 (by decide +kernel) (by decide +kernel)
theorem k_696 : (Cond.code ({ cls := "NoonFields$Tape", name := "isAhead", desc := "(Ljava/lang/String;)Z" } : MethodName) prog_11_method_5_code (3 : Nat) (some FieldType.boolean)) ∈ WS := ws_in 761 (by decide +kernel) (by decide +kernel)
theorem k_747 : (Cond.methodLink "NoonFields$Tape" (51 : Nat) ({ cls := "NoonFields$Tape", name := "expression", desc := "(III)Z" } : MethodName)) ∈ WS := ws_in 812 (by decide +kernel) (by decide +kernel)
theorem k_749 : (Cond.instanceMethod ({ cls := "NoonFields$Tape", name := "expression", desc := "(III)Z" } : MethodName)) ∈ WS := ws_in 814 (by decide +kernel) (by decide +kernel)
theorem k_750 : (Cond.code ({ cls := "NoonFields$Tape", name := "expression", desc := "(III)Z" } : MethodName) prog_11_method_8_code (7 : Nat) (some FieldType.boolean)) ∈ WS := ws_in 815 (by decide +kernel) (by decide +kernel)
theorem k_751 : (Cond.methodLink "NoonFields$Tape" (77 : Nat) ({ cls := "NoonFields$Tape", name := "piece", desc := "(II)Z" } : MethodName)) ∈ WS := ws_in 816 (by decide +kernel) (by decide +kernel)
theorem k_753 : (Cond.instanceMethod ({ cls := "NoonFields$Tape", name := "piece", desc := "(II)Z" } : MethodName)) ∈ WS := ws_in 818 (by decide +kernel) (by decide +kernel)
theorem k_754 : (Cond.code ({ cls := "NoonFields$Tape", name := "piece", desc := "(II)Z" } : MethodName) prog_11_method_10_code (3 : Nat) (some FieldType.boolean)) ∈ WS := ws_in 819 (by decide +kernel) (by decide +kernel)
theorem k_755 : (Cond.methodLink "NoonFields$Tape" (88 : Nat) ({ cls := "NoonFields$Tape", name := "number", desc := "()I" } : MethodName)) ∈ WS := ws_in 820 (by decide +kernel) (by decide +kernel)
theorem k_757 : (Cond.instanceMethod ({ cls := "NoonFields$Tape", name := "number", desc := "()I" } : MethodName)) ∈ WS := ws_in 822 (by decide +kernel) (by decide +kernel)
theorem k_758 : (Cond.code ({ cls := "NoonFields$Tape", name := "number", desc := "()I" } : MethodName) prog_11_method_14_code (3 : Nat) (some FieldType.int)) ∈ WS := ws_in 823 (by decide +kernel) (by decide +kernel)
theorem k_759 : (Cond.methodLink "NoonFields$Tape" (91 : Nat) ({ cls := "NoonFields$Tape", name := "operand", desc := "(I)Z" } : MethodName)) ∈ WS := ws_in 824 (by decide +kernel) (by decide +kernel)
theorem k_761 : (Cond.instanceMethod ({ cls := "NoonFields$Tape", name := "operand", desc := "(I)Z" } : MethodName)) ∈ WS := ws_in 826 (by decide +kernel) (by decide +kernel)
theorem k_762 : (Cond.code ({ cls := "NoonFields$Tape", name := "operand", desc := "(I)Z" } : MethodName) prog_11_method_13_code (2 : Nat) (some FieldType.boolean)) ∈ WS := ws_in 827 (by decide +kernel) (by decide +kernel)
theorem k_763 : (Cond.methodLink "NoonFields$Tape" (84 : Nat) ({ cls := "NoonFields$Tape", name := "emit", desc := "(I)V" } : MethodName)) ∈ WS := ws_in 828 (by decide +kernel) (by decide +kernel)
theorem k_765 : (Cond.instanceMethod ({ cls := "NoonFields$Tape", name := "emit", desc := "(I)V" } : MethodName)) ∈ WS := ws_in 830 (by decide +kernel) (by decide +kernel)
theorem k_766 : (Cond.code ({ cls := "NoonFields$Tape", name := "emit", desc := "(I)V" } : MethodName) prog_11_method_16_code (2 : Nat) (none : Option FieldType)) ∈ WS := ws_in 831 (by decide +kernel) (by decide +kernel)
theorem k_767 : (Cond.methodLink "NoonFields$Tape" (95 : Nat) ({ cls := "NoonFields$Tape", name := "name", desc := "()I" } : MethodName)) ∈ WS := ws_in 832 (by decide +kernel) (by decide +kernel)
theorem k_769 : (Cond.instanceMethod ({ cls := "NoonFields$Tape", name := "name", desc := "()I" } : MethodName)) ∈ WS := ws_in 834 (by decide +kernel) (by decide +kernel)
theorem k_770 : (Cond.code ({ cls := "NoonFields$Tape", name := "name", desc := "()I" } : MethodName) prog_11_method_15_code (2 : Nat) (some FieldType.int)) ∈ WS := ws_in 835 (by decide +kernel) (by decide +kernel)
theorem k_829 : (Cond.methodLink "NoonFields$Tape" (100 : Nat) ({ cls := "NoonFields$Tape", name := "negation", desc := "(II)Z" } : MethodName)) ∈ WS := ws_in 894 (by decide +kernel) (by decide +kernel)
theorem k_831 : (Cond.instanceMethod ({ cls := "NoonFields$Tape", name := "negation", desc := "(II)Z" } : MethodName)) ∈ WS := ws_in 896 (by decide +kernel) (by decide +kernel)
theorem k_832 : (Cond.code ({ cls := "NoonFields$Tape", name := "negation", desc := "(II)Z" } : MethodName) prog_11_method_11_code (3 : Nat) (some FieldType.boolean)) ∈ WS := ws_in 897 (by decide +kernel) (by decide +kernel)
theorem k_833 : (Cond.methodLink "NoonFields$Tape" (103 : Nat) ({ cls := "NoonFields$Tape", name := "bracket", desc := "(II)Z" } : MethodName)) ∈ WS := ws_in 898 (by decide +kernel) (by decide +kernel)
theorem k_835 : (Cond.instanceMethod ({ cls := "NoonFields$Tape", name := "bracket", desc := "(II)Z" } : MethodName)) ∈ WS := ws_in 900 (by decide +kernel) (by decide +kernel)
theorem k_836 : (Cond.code ({ cls := "NoonFields$Tape", name := "bracket", desc := "(II)Z" } : MethodName) prog_11_method_12_code (3 : Nat) (some FieldType.boolean)) ∈ WS := ws_in 901 (by decide +kernel) (by decide +kernel)
theorem k_837 : (Cond.methodLink "NoonFields$Tape" (81 : Nat) ({ cls := "NoonFields$Tape", name := "levelOf", desc := "(I)I" } : MethodName)) ∈ WS := ws_in 902 (by decide +kernel) (by decide +kernel)
theorem k_838 : (Cond.static ({ cls := "NoonFields$Tape", name := "levelOf", desc := "(I)I" } : MethodName)) ∈ WS := ws_in 903 (by decide +kernel) (by decide +kernel)
theorem k_839 : (Cond.code ({ cls := "NoonFields$Tape", name := "levelOf", desc := "(I)I" } : MethodName) prog_11_method_9_code (1 : Nat) (some FieldType.int)) ∈ WS := ws_in 904 (by decide +kernel) (by decide +kernel)
theorem k_840 : (Cond.methodLink "NoonFields" (256 : Nat) ({ cls := "NoonFields$Laws", name := "enact", desc := "(ILNoonFields$Tape;)V" } : MethodName)) ∈ WS := ws_in 905 (by decide +kernel) (by decide +kernel)
theorem k_841 : (Cond.instanceMethod ({ cls := "NoonFields$Laws", name := "enact", desc := "(ILNoonFields$Tape;)V" } : MethodName)) ∈ WS := ws_in 906 (by decide +kernel) (by decide +kernel)
theorem k_842 : (Cond.selects "NoonFields$Laws" ({ cls := "NoonFields$Laws", name := "enact", desc := "(ILNoonFields$Tape;)V" } : MethodName) ({ cls := "NoonFields$Laws", name := "enact", desc := "(ILNoonFields$Tape;)V" } : MethodName)) ∈ WS := ws_in 907 (by decide +kernel) (by decide +kernel)
theorem k_843 : (Cond.code ({ cls := "NoonFields$Laws", name := "enact", desc := "(ILNoonFields$Tape;)V" } : MethodName) prog_5_method_2_code (3 : Nat) (none : Option FieldType)) ∈ WS := ws_in 908 (by decide +kernel) (by decide +kernel)
theorem k_846 : (Cond.methodLink "NoonFieldsLaw" (129 : Nat) ({ cls := "NoonFields", name := "textTold", desc := "(II)I" } : MethodName)) ∈ WS := ws_in 911 (by decide +kernel) (by decide +kernel)
theorem k_847 : (Cond.instanceMethod ({ cls := "NoonFields", name := "textTold", desc := "(II)I" } : MethodName)) ∈ WS := ws_in 912 (by decide +kernel) (by decide +kernel)
theorem k_848 : (Cond.selects "NoonFields" ({ cls := "NoonFields", name := "textTold", desc := "(II)I" } : MethodName) ({ cls := "NoonFields", name := "textTold", desc := "(II)I" } : MethodName)) ∈ WS := ws_in 913 (by decide +kernel) (by decide +kernel)
theorem k_849 : (Cond.code ({ cls := "NoonFields", name := "textTold", desc := "(II)I" } : MethodName) prog_1_method_36_code (3 : Nat) (some FieldType.int)) ∈ WS := ws_in 914 (by decide +kernel) (by decide +kernel)
theorem k_850 : (Cond.methodLink "NoonFieldsLaw" (133 : Nat) ({ cls := "NoonFields", name := "why", desc := "(I)I" } : MethodName)) ∈ WS := ws_in 915 (by decide +kernel) (by decide +kernel)
theorem k_851 : (Cond.instanceMethod ({ cls := "NoonFields", name := "why", desc := "(I)I" } : MethodName)) ∈ WS := ws_in 916 (by decide +kernel) (by decide +kernel)
theorem k_852 : (Cond.selects "NoonFields" ({ cls := "NoonFields", name := "why", desc := "(I)I" } : MethodName) ({ cls := "NoonFields", name := "why", desc := "(I)I" } : MethodName)) ∈ WS := ws_in 917 (by decide +kernel) (by decide +kernel)
theorem k_853 : (Cond.code ({ cls := "NoonFields", name := "why", desc := "(I)I" } : MethodName) prog_1_method_37_code (2 : Nat) (some FieldType.int)) ∈ WS := ws_in 918 (by decide +kernel) (by decide +kernel)
theorem k_854 : (Cond.methodLink "NoonFieldsLaw" (137 : Nat) ({ cls := "NoonFields", name := "sheet", desc := "(III)I" } : MethodName)) ∈ WS := ws_in 919 (by decide +kernel) (by decide +kernel)
theorem k_855 : (Cond.instanceMethod ({ cls := "NoonFields", name := "sheet", desc := "(III)I" } : MethodName)) ∈ WS := ws_in 920 (by decide +kernel) (by decide +kernel)
theorem k_856 : (Cond.selects "NoonFields" ({ cls := "NoonFields", name := "sheet", desc := "(III)I" } : MethodName) ({ cls := "NoonFields", name := "sheet", desc := "(III)I" } : MethodName)) ∈ WS := ws_in 921 (by decide +kernel) (by decide +kernel)
theorem k_857 : (Cond.code ({ cls := "NoonFields", name := "sheet", desc := "(III)I" } : MethodName) prog_1_method_38_code (4 : Nat) (some FieldType.int)) ∈ WS := ws_in 922 (by decide +kernel) (by decide +kernel)
theorem k_858 : (Cond.methodLink "NoonFields" (269 : Nat) ({ cls := "NoonFields$Sheet", name := "clear", desc := "(II)V" } : MethodName)) ∈ WS := ws_in 923 (by decide +kernel) (by decide +kernel)
theorem k_859 : (Cond.instanceMethod ({ cls := "NoonFields$Sheet", name := "clear", desc := "(II)V" } : MethodName)) ∈ WS := ws_in 924 (by decide +kernel) (by decide +kernel)
theorem k_860 : (Cond.selects "NoonFields$Sheet" ({ cls := "NoonFields$Sheet", name := "clear", desc := "(II)V" } : MethodName) ({ cls := "NoonFields$Sheet", name := "clear", desc := "(II)V" } : MethodName)) ∈ WS := ws_in 925 (by decide +kernel) (by decide +kernel)
theorem k_861 : (Cond.code ({ cls := "NoonFields$Sheet", name := "clear", desc := "(II)V" } : MethodName) prog_9_method_6_code (4 : Nat) (none : Option FieldType)) ∈ WS := ws_in 926 (by decide +kernel) (by decide +kernel)
theorem k_862 : (Cond.constant "NoonFields" (272 : Nat) (-1000000014 : Int32)) ∈ WS := ws_in 927 (by decide +kernel) (by decide +kernel)
theorem k_863 : (Cond.methodLink "NoonFieldsLaw" (141 : Nat) ({ cls := "NoonFields", name := "mark", desc := "(III)I" } : MethodName)) ∈ WS := ws_in 928 (by decide +kernel) (by decide +kernel)
theorem k_864 : (Cond.instanceMethod ({ cls := "NoonFields", name := "mark", desc := "(III)I" } : MethodName)) ∈ WS := ws_in 929 (by decide +kernel) (by decide +kernel)
theorem k_865 : (Cond.selects "NoonFields" ({ cls := "NoonFields", name := "mark", desc := "(III)I" } : MethodName) ({ cls := "NoonFields", name := "mark", desc := "(III)I" } : MethodName)) ∈ WS := ws_in 930 (by decide +kernel) (by decide +kernel)
theorem k_866 : (Cond.code ({ cls := "NoonFields", name := "mark", desc := "(III)I" } : MethodName) prog_1_method_39_code (5 : Nat) (some FieldType.int)) ∈ WS := ws_in 931 (by decide +kernel) (by decide +kernel)
theorem k_867 : (Cond.methodLink "NoonFields" (273 : Nat) ({ cls := "NoonFields$Sheet", name := "hasPlace", desc := "(I)Z" } : MethodName)) ∈ WS := ws_in 932 (by decide +kernel) (by decide +kernel)
theorem k_868 : (Cond.constant "NoonFields" (276 : Nat) (-1000000013 : Int32)) ∈ WS := ws_in 933 (by decide +kernel) (by decide +kernel)
theorem k_869 : (Cond.constant "NoonFields" (280 : Nat) (-99999 : Int32)) ∈ WS := ws_in 934 (by decide +kernel) (by decide +kernel)
theorem k_870 : (Cond.constant "NoonFields" (281 : Nat) (99999 : Int32)) ∈ WS := ws_in 935 (by decide +kernel) (by decide +kernel)
theorem k_871 : (Cond.methodLink "NoonFields" (282 : Nat) ({ cls := "NoonFields$Sheet", name := "put", desc := "(II)V" } : MethodName)) ∈ WS := ws_in 936 (by decide +kernel) (by decide +kernel)
theorem k_872 : (Cond.instanceMethod ({ cls := "NoonFields$Sheet", name := "put", desc := "(II)V" } : MethodName)) ∈ WS := ws_in 937 (by decide +kernel) (by decide +kernel)
theorem k_873 : (Cond.selects "NoonFields$Sheet" ({ cls := "NoonFields$Sheet", name := "put", desc := "(II)V" } : MethodName) ({ cls := "NoonFields$Sheet", name := "put", desc := "(II)V" } : MethodName)) ∈ WS := ws_in 938 (by decide +kernel) (by decide +kernel)
theorem k_874 : (Cond.code ({ cls := "NoonFields$Sheet", name := "put", desc := "(II)V" } : MethodName) prog_9_method_7_code (3 : Nat) (none : Option FieldType)) ∈ WS := ws_in 939 (by decide +kernel) (by decide +kernel)
theorem k_875 : (Cond.constant "NoonFields$Sheet" (30 : Nat) (-1000000005 : Int32)) ∈ WS := ws_in 940 (by decide +kernel) (by decide +kernel)
theorem k_876 : (Cond.methodLink "NoonFieldsLaw" (145 : Nat) ({ cls := "NoonFields", name := "pour", desc := "(I)I" } : MethodName)) ∈ WS := ws_in 941 (by decide +kernel) (by decide +kernel)
theorem k_877 : (Cond.instanceMethod ({ cls := "NoonFields", name := "pour", desc := "(I)I" } : MethodName)) ∈ WS := ws_in 942 (by decide +kernel) (by decide +kernel)
theorem k_878 : (Cond.selects "NoonFields" ({ cls := "NoonFields", name := "pour", desc := "(I)I" } : MethodName) ({ cls := "NoonFields", name := "pour", desc := "(I)I" } : MethodName)) ∈ WS := ws_in 943 (by decide +kernel) (by decide +kernel)
theorem k_879 : (Cond.code ({ cls := "NoonFields", name := "pour", desc := "(I)I" } : MethodName) prog_1_method_40_code (6 : Nat) (some FieldType.int)) ∈ WS := ws_in 944 (by decide +kernel) (by decide +kernel)
theorem k_880 : (Cond.methodLink "NoonFields" (285 : Nat) ({ cls := "NoonFields$Sheet", name := "isNumber", desc := "(I)Z" } : MethodName)) ∈ WS := ws_in 945 (by decide +kernel) (by decide +kernel)
theorem k_882 : (Cond.methodLink "NoonFieldsLaw" (149 : Nat) ({ cls := "NoonFields", name := "reads", desc := "(I)I" } : MethodName)) ∈ WS := ws_in 947 (by decide +kernel) (by decide +kernel)
theorem k_883 : (Cond.instanceMethod ({ cls := "NoonFields", name := "reads", desc := "(I)I" } : MethodName)) ∈ WS := ws_in 948 (by decide +kernel) (by decide +kernel)
theorem k_884 : (Cond.selects "NoonFields" ({ cls := "NoonFields", name := "reads", desc := "(I)I" } : MethodName) ({ cls := "NoonFields", name := "reads", desc := "(I)I" } : MethodName)) ∈ WS := ws_in 949 (by decide +kernel) (by decide +kernel)
theorem k_885 : (Cond.code ({ cls := "NoonFields", name := "reads", desc := "(I)I" } : MethodName) prog_1_method_41_code (4 : Nat) (some FieldType.int)) ∈ WS := ws_in 950 (by decide +kernel) (by decide +kernel)
theorem k_886 : (Cond.methodLink "NoonFieldsLaw" (153 : Nat) ({ cls := "NoonFields", name := "copy", desc := "(IIIII)I" } : MethodName)) ∈ WS := ws_in 951 (by decide +kernel) (by decide +kernel)
theorem k_887 : (Cond.instanceMethod ({ cls := "NoonFields", name := "copy", desc := "(IIIII)I" } : MethodName)) ∈ WS := ws_in 952 (by decide +kernel) (by decide +kernel)
theorem k_888 : (Cond.selects "NoonFields" ({ cls := "NoonFields", name := "copy", desc := "(IIIII)I" } : MethodName) ({ cls := "NoonFields", name := "copy", desc := "(IIIII)I" } : MethodName)) ∈ WS := ws_in 953 (by decide +kernel) (by decide +kernel)
theorem k_889 : (Cond.code ({ cls := "NoonFields", name := "copy", desc := "(IIIII)I" } : MethodName) prog_1_method_42_code (8 : Nat) (some FieldType.int)) ∈ WS := ws_in 954 (by decide +kernel) (by decide +kernel)
theorem k_890 : (Cond.methodLink "NoonFields" (297 : Nat) ({ cls := "NoonFields$Sheet", name := "hasPlaces", desc := "(II)Z" } : MethodName)) ∈ WS := ws_in 955 (by decide +kernel) (by decide +kernel)
theorem k_891 : (Cond.instanceMethod ({ cls := "NoonFields$Sheet", name := "hasPlaces", desc := "(II)Z" } : MethodName)) ∈ WS := ws_in 956 (by decide +kernel) (by decide +kernel)
theorem k_892 : (Cond.selects "NoonFields$Sheet" ({ cls := "NoonFields$Sheet", name := "hasPlaces", desc := "(II)Z" } : MethodName) ({ cls := "NoonFields$Sheet", name := "hasPlaces", desc := "(II)Z" } : MethodName)) ∈ WS := ws_in 957 (by decide +kernel) (by decide +kernel)
theorem k_893 : (Cond.code ({ cls := "NoonFields$Sheet", name := "hasPlaces", desc := "(II)Z" } : MethodName) prog_9_method_4_code (3 : Nat) (some FieldType.boolean)) ∈ WS := ws_in 958 (by decide +kernel) (by decide +kernel)
theorem k_894 : (Cond.methodLink "NoonFields" (300 : Nat) ({ cls := "NoonFields$Sheet", name := "take", desc := "(LNoonFields$Sheet;III)V" } : MethodName)) ∈ WS := ws_in 959 (by decide +kernel) (by decide +kernel)
theorem k_895 : (Cond.instanceMethod ({ cls := "NoonFields$Sheet", name := "take", desc := "(LNoonFields$Sheet;III)V" } : MethodName)) ∈ WS := ws_in 960 (by decide +kernel) (by decide +kernel)
theorem k_896 : (Cond.selects "NoonFields$Sheet" ({ cls := "NoonFields$Sheet", name := "take", desc := "(LNoonFields$Sheet;III)V" } : MethodName) ({ cls := "NoonFields$Sheet", name := "take", desc := "(LNoonFields$Sheet;III)V" } : MethodName)) ∈ WS := ws_in 961 (by decide +kernel) (by decide +kernel)
theorem k_897 : (Cond.code ({ cls := "NoonFields$Sheet", name := "take", desc := "(LNoonFields$Sheet;III)V" } : MethodName) prog_9_method_8_code (5 : Nat) (none : Option FieldType)) ∈ WS := ws_in 962 (by decide +kernel) (by decide +kernel)
theorem k_899 : (Cond.methodLink "NoonFieldsLaw" (158 : Nat) ({ cls := "NoonFields", name := "lay", desc := "(III)I" } : MethodName)) ∈ WS := ws_in 964 (by decide +kernel) (by decide +kernel)
theorem k_900 : (Cond.instanceMethod ({ cls := "NoonFields", name := "lay", desc := "(III)I" } : MethodName)) ∈ WS := ws_in 965 (by decide +kernel) (by decide +kernel)
theorem k_901 : (Cond.selects "NoonFields" ({ cls := "NoonFields", name := "lay", desc := "(III)I" } : MethodName) ({ cls := "NoonFields", name := "lay", desc := "(III)I" } : MethodName)) ∈ WS := ws_in 966 (by decide +kernel) (by decide +kernel)
theorem k_902 : (Cond.code ({ cls := "NoonFields", name := "lay", desc := "(III)I" } : MethodName) prog_1_method_43_code (5 : Nat) (some FieldType.int)) ∈ WS := ws_in 967 (by decide +kernel) (by decide +kernel)
theorem k_903 : (Cond.methodLink "NoonFields" (307 : Nat) ({ cls := "NoonFields$Slot", name := "holdOne", desc := "(LNoonFields$Neighbour;I)V" } : MethodName)) ∈ WS := ws_in 968 (by decide +kernel) (by decide +kernel)
theorem k_904 : (Cond.instanceMethod ({ cls := "NoonFields$Slot", name := "holdOne", desc := "(LNoonFields$Neighbour;I)V" } : MethodName)) ∈ WS := ws_in 969 (by decide +kernel) (by decide +kernel)
theorem k_905 : (Cond.selects "NoonFields$Slot" ({ cls := "NoonFields$Slot", name := "holdOne", desc := "(LNoonFields$Neighbour;I)V" } : MethodName) ({ cls := "NoonFields$Slot", name := "holdOne", desc := "(LNoonFields$Neighbour;I)V" } : MethodName)) ∈ WS := ws_in 970 (by decide +kernel) (by decide +kernel)
theorem k_906 : (Cond.code ({ cls := "NoonFields$Slot", name := "holdOne", desc := "(LNoonFields$Neighbour;I)V" } : MethodName) prog_10_method_2_code (3 : Nat) (none : Option FieldType)) ∈ WS := ws_in 971 (by decide +kernel) (by decide +kernel)
theorem k_907 : (Cond.methodLink "NoonFields" (315 : Nat) ({ cls := "NoonFields$Sheet", name := "become", desc := "(LNoonFields$Sheet;)V" } : MethodName)) ∈ WS := ws_in 972 (by decide +kernel) (by decide +kernel)
theorem k_908 : (Cond.instanceMethod ({ cls := "NoonFields$Sheet", name := "become", desc := "(LNoonFields$Sheet;)V" } : MethodName)) ∈ WS := ws_in 973 (by decide +kernel) (by decide +kernel)
theorem k_909 : (Cond.selects "NoonFields$Sheet" ({ cls := "NoonFields$Sheet", name := "become", desc := "(LNoonFields$Sheet;)V" } : MethodName) ({ cls := "NoonFields$Sheet", name := "become", desc := "(LNoonFields$Sheet;)V" } : MethodName)) ∈ WS := ws_in 974 (by decide +kernel) (by decide +kernel)
theorem k_910 : (Cond.code ({ cls := "NoonFields$Sheet", name := "become", desc := "(LNoonFields$Sheet;)V" } : MethodName) prog_9_method_9_code (2 : Nat) (none : Option FieldType)) ∈ WS := ws_in 975 (by decide +kernel) (by decide +kernel)
theorem k_911 : (Cond.methodLink "NoonFields$Sheet" (37 : Nat) ({ cls := "NoonFields$Sheet", name := "take", desc := "(LNoonFields$Sheet;III)V" } : MethodName)) ∈ WS := ws_in 976 (by decide +kernel) (by decide +kernel)
theorem k_912 : (Cond.methodLink "NoonFieldsLaw" (162 : Nat) ({ cls := "NoonFields", name := "ask", desc := "(II)I" } : MethodName)) ∈ WS := ws_in 977 (by decide +kernel) (by decide +kernel)
theorem k_913 : (Cond.instanceMethod ({ cls := "NoonFields", name := "ask", desc := "(II)I" } : MethodName)) ∈ WS := ws_in 978 (by decide +kernel) (by decide +kernel)
theorem k_914 : (Cond.selects "NoonFields" ({ cls := "NoonFields", name := "ask", desc := "(II)I" } : MethodName) ({ cls := "NoonFields", name := "ask", desc := "(II)I" } : MethodName)) ∈ WS := ws_in 979 (by decide +kernel) (by decide +kernel)
theorem k_915 : (Cond.code ({ cls := "NoonFields", name := "ask", desc := "(II)I" } : MethodName) prog_1_method_44_code (4 : Nat) (some FieldType.int)) ∈ WS := ws_in 980 (by decide +kernel) (by decide +kernel)
theorem k_916 : (Cond.methodLink "NoonFields" (328 : Nat) ({ cls := "NoonFields$Neighbour", name := "worthFor", desc := "(I)I" } : MethodName)) ∈ WS := ws_in 981 (by decide +kernel) (by decide +kernel)
theorem k_917 : (Cond.methodLink "NoonFieldsLaw" (166 : Nat) ({ cls := "NoonFields", name := "item", desc := "(II)I" } : MethodName)) ∈ WS := ws_in 982 (by decide +kernel) (by decide +kernel)
theorem k_918 : (Cond.instanceMethod ({ cls := "NoonFields", name := "item", desc := "(II)I" } : MethodName)) ∈ WS := ws_in 983 (by decide +kernel) (by decide +kernel)
theorem k_919 : (Cond.selects "NoonFields" ({ cls := "NoonFields", name := "item", desc := "(II)I" } : MethodName) ({ cls := "NoonFields", name := "item", desc := "(II)I" } : MethodName)) ∈ WS := ws_in 984 (by decide +kernel) (by decide +kernel)
theorem k_920 : (Cond.code ({ cls := "NoonFields", name := "item", desc := "(II)I" } : MethodName) prog_1_method_45_code (4 : Nat) (some FieldType.int)) ∈ WS := ws_in 985 (by decide +kernel) (by decide +kernel)
theorem k_921 : (Cond.methodLink "NoonFieldsLaw" (170 : Nat) ({ cls := "NoonFields", name := "rest", desc := "(II)I" } : MethodName)) ∈ WS := ws_in 986 (by decide +kernel) (by decide +kernel)
theorem k_922 : (Cond.instanceMethod ({ cls := "NoonFields", name := "rest", desc := "(II)I" } : MethodName)) ∈ WS := ws_in 987 (by decide +kernel) (by decide +kernel)
theorem k_923 : (Cond.selects "NoonFields" ({ cls := "NoonFields", name := "rest", desc := "(II)I" } : MethodName) ({ cls := "NoonFields", name := "rest", desc := "(II)I" } : MethodName)) ∈ WS := ws_in 988 (by decide +kernel) (by decide +kernel)
theorem k_924 : (Cond.code ({ cls := "NoonFields", name := "rest", desc := "(II)I" } : MethodName) prog_1_method_46_code (4 : Nat) (some FieldType.int)) ∈ WS := ws_in 989 (by decide +kernel) (by decide +kernel)
theorem k_925 : (Cond.constant "NoonFields" (331 : Nat) (-1000000002 : Int32)) ∈ WS := ws_in 990 (by decide +kernel) (by decide +kernel)
theorem k_926 : (Cond.methodLink "NoonFieldsLaw" (174 : Nat) ({ cls := "NoonFields", name := "tell", desc := "(I)I" } : MethodName)) ∈ WS := ws_in 991 (by decide +kernel) (by decide +kernel)
theorem k_927 : (Cond.instanceMethod ({ cls := "NoonFields", name := "tell", desc := "(I)I" } : MethodName)) ∈ WS := ws_in 992 (by decide +kernel) (by decide +kernel)
theorem k_928 : (Cond.selects "NoonFields" ({ cls := "NoonFields", name := "tell", desc := "(I)I" } : MethodName) ({ cls := "NoonFields", name := "tell", desc := "(I)I" } : MethodName)) ∈ WS := ws_in 993 (by decide +kernel) (by decide +kernel)
theorem k_929 : (Cond.code ({ cls := "NoonFields", name := "tell", desc := "(I)I" } : MethodName) prog_1_method_47_code (2 : Nat) (some FieldType.int)) ∈ WS := ws_in 994 (by decide +kernel) (by decide +kernel)
theorem k_930 : (Cond.methodLink "NoonFieldsLaw" (178 : Nat) ({ cls := "NoonFields", name := "check", desc := "(I)I" } : MethodName)) ∈ WS := ws_in 995 (by decide +kernel) (by decide +kernel)
theorem k_931 : (Cond.instanceMethod ({ cls := "NoonFields", name := "check", desc := "(I)I" } : MethodName)) ∈ WS := ws_in 996 (by decide +kernel) (by decide +kernel)
theorem k_932 : (Cond.selects "NoonFields" ({ cls := "NoonFields", name := "check", desc := "(I)I" } : MethodName) ({ cls := "NoonFields", name := "check", desc := "(I)I" } : MethodName)) ∈ WS := ws_in 997 (by decide +kernel) (by decide +kernel)
theorem k_933 : (Cond.code ({ cls := "NoonFields", name := "check", desc := "(I)I" } : MethodName) prog_1_method_48_code (5 : Nat) (some FieldType.int)) ∈ WS := ws_in 998 (by decide +kernel) (by decide +kernel)
theorem k_934 : (Cond.methodLink "NoonFields" (332 : Nat) ({ cls := "NoonFields", name := "isTold", desc := "(III)Z" } : MethodName)) ∈ WS := ws_in 999 (by decide +kernel) (by decide +kernel)
theorem k_936 : (Cond.instanceMethod ({ cls := "NoonFields", name := "isTold", desc := "(III)Z" } : MethodName)) ∈ WS := ws_in 1001 (by decide +kernel) (by decide +kernel)
theorem k_937 : (Cond.code ({ cls := "NoonFields", name := "isTold", desc := "(III)Z" } : MethodName) prog_1_method_49_code (4 : Nat) (some FieldType.boolean)) ∈ WS := ws_in 1002 (by decide +kernel) (by decide +kernel)
theorem k_938 : (Cond.methodLink "NoonFieldsLaw" (182 : Nat) ({ cls := "NoonFields", name := "keep", desc := "()I" } : MethodName)) ∈ WS := ws_in 1003 (by decide +kernel) (by decide +kernel)
theorem k_939 : (Cond.instanceMethod ({ cls := "NoonFields", name := "keep", desc := "()I" } : MethodName)) ∈ WS := ws_in 1004 (by decide +kernel) (by decide +kernel)
theorem k_940 : (Cond.selects "NoonFields" ({ cls := "NoonFields", name := "keep", desc := "()I" } : MethodName) ({ cls := "NoonFields", name := "keep", desc := "()I" } : MethodName)) ∈ WS := ws_in 1005 (by decide +kernel) (by decide +kernel)
theorem k_941 : (Cond.code ({ cls := "NoonFields", name := "keep", desc := "()I" } : MethodName) prog_1_method_50_code (1 : Nat) (some FieldType.int)) ∈ WS := ws_in 1006 (by decide +kernel) (by decide +kernel)
theorem k_942 : (Cond.methodLink "NoonFieldsLaw" (186 : Nat) ({ cls := "NoonFields", name := "back", desc := "()I" } : MethodName)) ∈ WS := ws_in 1007 (by decide +kernel) (by decide +kernel)
theorem k_943 : (Cond.instanceMethod ({ cls := "NoonFields", name := "back", desc := "()I" } : MethodName)) ∈ WS := ws_in 1008 (by decide +kernel) (by decide +kernel)
theorem k_944 : (Cond.selects "NoonFields" ({ cls := "NoonFields", name := "back", desc := "()I" } : MethodName) ({ cls := "NoonFields", name := "back", desc := "()I" } : MethodName)) ∈ WS := ws_in 1009 (by decide +kernel) (by decide +kernel)
theorem k_945 : (Cond.code ({ cls := "NoonFields", name := "back", desc := "()I" } : MethodName) prog_1_method_51_code (1 : Nat) (some FieldType.int)) ∈ WS := ws_in 1010 (by decide +kernel) (by decide +kernel)
theorem k_946 : (Cond.methodLink "NoonFieldsLaw" (190 : Nat) ({ cls := "NoonFields", name := "count", desc := "(I)I" } : MethodName)) ∈ WS := ws_in 1011 (by decide +kernel) (by decide +kernel)
theorem k_947 : (Cond.instanceMethod ({ cls := "NoonFields", name := "count", desc := "(I)I" } : MethodName)) ∈ WS := ws_in 1012 (by decide +kernel) (by decide +kernel)
theorem k_948 : (Cond.selects "NoonFields" ({ cls := "NoonFields", name := "count", desc := "(I)I" } : MethodName) ({ cls := "NoonFields", name := "count", desc := "(I)I" } : MethodName)) ∈ WS := ws_in 1013 (by decide +kernel) (by decide +kernel)
theorem k_949 : (Cond.code ({ cls := "NoonFields", name := "count", desc := "(I)I" } : MethodName) prog_1_method_52_code (2 : Nat) (some FieldType.int)) ∈ WS := ws_in 1014 (by decide +kernel) (by decide +kernel)
theorem k_950 : (Cond.methodLink "NoonFields" (336 : Nat) ({ cls := "NoonFields$World", name := "talks", desc := "()I" } : MethodName)) ∈ WS := ws_in 1015 (by decide +kernel) (by decide +kernel)
theorem k_951 : (Cond.instanceMethod ({ cls := "NoonFields$World", name := "talks", desc := "()I" } : MethodName)) ∈ WS := ws_in 1016 (by decide +kernel) (by decide +kernel)
theorem k_952 : (Cond.selects "NoonFields$World" ({ cls := "NoonFields$World", name := "talks", desc := "()I" } : MethodName) ({ cls := "NoonFields$World", name := "talks", desc := "()I" } : MethodName)) ∈ WS := ws_in 1017 (by decide +kernel) (by decide +kernel)
theorem k_953 : (Cond.code ({ cls := "NoonFields$World", name := "talks", desc := "()I" } : MethodName) prog_12_method_8_code (3 : Nat) (some FieldType.int)) ∈ WS := ws_in 1018 (by decide +kernel) (by decide +kernel)
theorem k_956 : (Cond.methodLink "NoonFieldsLaw" (12 : Nat) ({ cls := "NoonFieldsModel", name := "<init>", desc := "()V" } : MethodName)) ∈ WS := ws_in 1021 (by decide +kernel) (by decide +kernel)
theorem k_957 : (Cond.instanceMethod ({ cls := "NoonFieldsModel", name := "<init>", desc := "()V" } : MethodName)) ∈ WS := ws_in 1022 (by decide +kernel) (by decide +kernel)
theorem k_958 : (Cond.code ({ cls := "NoonFieldsModel", name := "<init>", desc := "()V" } : MethodName) prog_14_method_1_code (2 : Nat) (none : Option FieldType)) ∈ WS := ws_in 1023 (by decide +kernel) (by decide +kernel)
theorem k_960 : (Cond.methodLink "NoonFieldsModel" (77 : Nat) ({ cls := "NoonFieldsModel", name := "puts", desc := "(III)V" } : MethodName)) ∈ WS := ws_in 1025 (by decide +kernel) (by decide +kernel)
theorem k_962 : (Cond.instanceMethod ({ cls := "NoonFieldsModel", name := "puts", desc := "(III)V" } : MethodName)) ∈ WS := ws_in 1027 (by decide +kernel) (by decide +kernel)
theorem k_963 : (Cond.code ({ cls := "NoonFieldsModel", name := "puts", desc := "(III)V" } : MethodName) prog_14_method_10_code (4 : Nat) (none : Option FieldType)) ∈ WS := ws_in 1028 (by decide +kernel) (by decide +kernel)
theorem k_964 : (Cond.fieldLink "NoonFieldsModel" (7 : Nat) "NoonFieldsModel" "s" "[I") ∈ WS := ws_in 1029 (by decide +kernel) (by decide +kernel)
theorem k_965 : (Cond.fieldLink "NoonFieldsModel" (13 : Nat) "NoonFieldsModel" "image" "[I") ∈ WS := ws_in 1030 (by decide +kernel) (by decide +kernel)
theorem k_966 : (Cond.fieldLink "NoonFieldsModel" (16 : Nat) "NoonFieldsModel" "aside" "[I") ∈ WS := ws_in 1031 (by decide +kernel) (by decide +kernel)
theorem k_967 : (Cond.fieldLink "NoonFieldsModel" (332 : Nat) "NoonFieldsModel" "hasImage" "Z") ∈ WS := ws_in 1032 (by decide +kernel) (by decide +kernel)
theorem k_968 : (Cond.fieldLink "NoonFieldsModel" (19 : Nat) "NoonFieldsModel" "tSort" "[I") ∈ WS := ws_in 1033 (by decide +kernel) (by decide +kernel)
theorem k_969 : (Cond.fieldLink "NoonFieldsModel" (22 : Nat) "NoonFieldsModel" "tSize" "[I") ∈ WS := ws_in 1034 (by decide +kernel) (by decide +kernel)
theorem k_970 : (Cond.fieldLink "NoonFieldsModel" (25 : Nat) "NoonFieldsModel" "tNumber" "[I") ∈ WS := ws_in 1035 (by decide +kernel) (by decide +kernel)
theorem k_971 : (Cond.fieldLink "NoonFieldsModel" (28 : Nat) "NoonFieldsModel" "held" "[I") ∈ WS := ws_in 1036 (by decide +kernel) (by decide +kernel)
theorem k_972 : (Cond.fieldLink "NoonFieldsModel" (31 : Nat) "NoonFieldsModel" "heldNumber" "[I") ∈ WS := ws_in 1037 (by decide +kernel) (by decide +kernel)
theorem k_973 : (Cond.fieldLink "NoonFieldsModel" (34 : Nat) "NoonFieldsModel" "heldWorth" "[I") ∈ WS := ws_in 1038 (by decide +kernel) (by decide +kernel)
theorem k_974 : (Cond.fieldLink "NoonFieldsModel" (37 : Nat) "NoonFieldsModel" "heldSize" "[I") ∈ WS := ws_in 1039 (by decide +kernel) (by decide +kernel)
theorem k_975 : (Cond.fieldLink "NoonFieldsModel" (40 : Nat) "NoonFieldsModel" "heldRow" "[I") ∈ WS := ws_in 1040 (by decide +kernel) (by decide +kernel)
theorem k_976 : (Cond.fieldLink "NoonFieldsModel" (43 : Nat) "NoonFieldsModel" "stands" "[I") ∈ WS := ws_in 1041 (by decide +kernel) (by decide +kernel)
theorem k_977 : (Cond.fieldLink "NoonFieldsModel" (46 : Nat) "NoonFieldsModel" "absent" "I") ∈ WS := ws_in 1042 (by decide +kernel) (by decide +kernel)
theorem k_978 : (Cond.fieldLink "NoonFieldsModel" (50 : Nat) "NoonFieldsModel" "walks" "[I") ∈ WS := ws_in 1043 (by decide +kernel) (by decide +kernel)
theorem k_979 : (Cond.fieldLink "NoonFieldsModel" (53 : Nat) "NoonFieldsModel" "close" "[I") ∈ WS := ws_in 1044 (by decide +kernel) (by decide +kernel)
theorem k_980 : (Cond.fieldLink "NoonFieldsModel" (56 : Nat) "NoonFieldsModel" "often" "[I") ∈ WS := ws_in 1045 (by decide +kernel) (by decide +kernel)
theorem k_981 : (Cond.fieldLink "NoonFieldsModel" (59 : Nat) "NoonFieldsModel" "tape" "[I") ∈ WS := ws_in 1046 (by decide +kernel) (by decide +kernel)
theorem k_982 : (Cond.fieldLink "NoonFieldsModel" (213 : Nat) "NoonFieldsModel" "taped" "I") ∈ WS := ws_in 1047 (by decide +kernel) (by decide +kernel)
theorem k_983 : (Cond.fieldLink "NoonFieldsModel" (230 : Nat) "NoonFieldsModel" "begin" "I") ∈ WS := ws_in 1048 (by decide +kernel) (by decide +kernel)
theorem k_984 : (Cond.fieldLink "NoonFieldsModel" (224 : Nat) "NoonFieldsModel" "behind" "I") ∈ WS := ws_in 1049 (by decide +kernel) (by decide +kernel)
theorem k_985 : (Cond.fieldLink "NoonFieldsModel" (227 : Nat) "NoonFieldsModel" "token" "I") ∈ WS := ws_in 1050 (by decide +kernel) (by decide +kernel)
theorem k_986 : (Cond.fieldLink "NoonFieldsModel" (242 : Nat) "NoonFieldsModel" "number" "I") ∈ WS := ws_in 1051 (by decide +kernel) (by decide +kernel)
theorem k_987 : (Cond.fieldLink "NoonFieldsModel" (236 : Nat) "NoonFieldsModel" "letter" "I") ∈ WS := ws_in 1052 (by decide +kernel) (by decide +kernel)
theorem k_988 : (Cond.fieldLink "NoonFieldsModel" (289 : Nat) "NoonFieldsModel" "deep" "I") ∈ WS := ws_in 1053 (by decide +kernel) (by decide +kernel)
theorem k_989 : (Cond.fieldLink "NoonFieldsModel" (286 : Nat) "NoonFieldsModel" "turned" "I") ∈ WS := ws_in 1054 (by decide +kernel) (by decide +kernel)
theorem k_990 : (Cond.fieldLink "NoonFieldsModel" (252 : Nat) "NoonFieldsModel" "laid" "I") ∈ WS := ws_in 1055 (by decide +kernel) (by decide +kernel)
theorem k_991 : (Cond.fieldLink "NoonFieldsModel" (249 : Nat) "NoonFieldsModel" "laidAt" "I") ∈ WS := ws_in 1056 (by decide +kernel) (by decide +kernel)
theorem k_992 : (Cond.fieldLink "NoonFieldsModel" (280 : Nat) "NoonFieldsModel" "said" "I") ∈ WS := ws_in 1057 (by decide +kernel) (by decide +kernel)
theorem k_993 : (Cond.fieldLink "NoonFieldsModel" (62 : Nat) "NoonFieldsModel" "named" "[I") ∈ WS := ws_in 1058 (by decide +kernel) (by decide +kernel)
theorem k_994 : (Cond.fieldLink "NoonFieldsModel" (65 : Nat) "NoonFieldsModel" "pile" "[I") ∈ WS := ws_in 1059 (by decide +kernel) (by decide +kernel)
theorem k_995 : (Cond.fieldLink "NoonFieldsModel" (68 : Nat) "NoonFieldsModel" "carried" "[I") ∈ WS := ws_in 1060 (by decide +kernel) (by decide +kernel)
theorem k_996 : (Cond.fieldLink "NoonFieldsModel" (71 : Nat) "NoonFieldsModel" "waits" "[I") ∈ WS := ws_in 1061 (by decide +kernel) (by decide +kernel)
theorem k_997 : (Cond.fieldLink "NoonFieldsModel" (327 : Nat) "NoonFieldsModel" "waiting" "I") ∈ WS := ws_in 1062 (by decide +kernel) (by decide +kernel)
theorem k_998 : (Cond.fieldLink "NoonFieldsModel" (74 : Nat) "NoonFieldsModel" "rowDue" "[I") ∈ WS := ws_in 1063 (by decide +kernel) (by decide +kernel)
theorem k_1070 : (Cond.methodLink "NoonFieldsLaw" (17 : Nat) ({ cls := "NoonFieldsModel", name := "person", desc := "(III)I" } : MethodName)) ∈ WS := ws_in 1135 (by decide +kernel) (by decide +kernel)
theorem k_1071 : (Cond.instanceMethod ({ cls := "NoonFieldsModel", name := "person", desc := "(III)I" } : MethodName)) ∈ WS := ws_in 1136 (by decide +kernel) (by decide +kernel)
theorem k_1072 : (Cond.selects "NoonFieldsModel" ({ cls := "NoonFieldsModel", name := "person", desc := "(III)I" } : MethodName) ({ cls := "NoonFieldsModel", name := "person", desc := "(III)I" } : MethodName)) ∈ WS := ws_in 1137 (by decide +kernel) (by decide +kernel)
theorem k_1073 : (Cond.code ({ cls := "NoonFieldsModel", name := "person", desc := "(III)I" } : MethodName) prog_14_method_18_code (4 : Nat) (some FieldType.int)) ∈ WS := ws_in 1138 (by decide +kernel) (by decide +kernel)
theorem k_1074 : (Cond.constantLong "NoonFieldsModel" (90 : Nat) (5 : Int64)) ∈ WS := ws_in 1139 (by decide +kernel) (by decide +kernel)
theorem k_1075 : (Cond.methodLink "NoonFieldsModel" (82 : Nat) ({ cls := "NoonFieldsModel", name := "isIn", desc := "(JJJ)Z" } : MethodName)) ∈ WS := ws_in 1140 (by decide +kernel) (by decide +kernel)
theorem k_1076 : (Cond.static ({ cls := "NoonFieldsModel", name := "isIn", desc := "(JJJ)Z" } : MethodName)) ∈ WS := ws_in 1141 (by decide +kernel) (by decide +kernel)
theorem k_1077 : (Cond.code ({ cls := "NoonFieldsModel", name := "isIn", desc := "(JJJ)Z" } : MethodName) prog_14_method_2_code (6 : Nat) (some FieldType.boolean)) ∈ WS := ws_in 1142 (by decide +kernel) (by decide +kernel)
theorem k_1078 : (Cond.methodLink "NoonFieldsModel" (92 : Nat) ({ cls := "NoonFieldsModel", name := "isField", desc := "(I)Z" } : MethodName)) ∈ WS := ws_in 1143 (by decide +kernel) (by decide +kernel)
theorem k_1079 : (Cond.static ({ cls := "NoonFieldsModel", name := "isField", desc := "(I)Z" } : MethodName)) ∈ WS := ws_in 1144 (by decide +kernel) (by decide +kernel)
theorem k_1080 : (Cond.code ({ cls := "NoonFieldsModel", name := "isField", desc := "(I)Z" } : MethodName) prog_14_method_14_code (1 : Nat) (some FieldType.boolean)) ∈ WS := ws_in 1145 (by decide +kernel) (by decide +kernel)
theorem k_1081 : (Cond.constantLong "NoonFieldsModel" (96 : Nat) (99 : Int64)) ∈ WS := ws_in 1146 (by decide +kernel) (by decide +kernel)
theorem k_1082 : (Cond.constant "NoonFieldsModel" (98 : Nat) (-1000000001 : Int32)) ∈ WS := ws_in 1147 (by decide +kernel) (by decide +kernel)
theorem k_1083 : (Cond.constant "NoonFieldsModel" (99 : Nat) (-1000000003 : Int32)) ∈ WS := ws_in 1148 (by decide +kernel) (by decide +kernel)
theorem k_1084 : (Cond.methodLink "NoonFieldsModel" (100 : Nat) ({ cls := "NoonFieldsModel", name := "comes", desc := "(III)V" } : MethodName)) ∈ WS := ws_in 1149 (by decide +kernel) (by decide +kernel)
theorem k_1086 : (Cond.instanceMethod ({ cls := "NoonFieldsModel", name := "comes", desc := "(III)V" } : MethodName)) ∈ WS := ws_in 1151 (by decide +kernel) (by decide +kernel)
theorem k_1087 : (Cond.code ({ cls := "NoonFieldsModel", name := "comes", desc := "(III)V" } : MethodName) prog_14_method_17_code (6 : Nat) (none : Option FieldType)) ∈ WS := ws_in 1152 (by decide +kernel) (by decide +kernel)
theorem k_1088 : (Cond.methodLink "NoonFieldsModel" (87 : Nat) ({ cls := "NoonFieldsModel", name := "sets", desc := "(III)V" } : MethodName)) ∈ WS := ws_in 1153 (by decide +kernel) (by decide +kernel)
theorem k_1090 : (Cond.instanceMethod ({ cls := "NoonFieldsModel", name := "sets", desc := "(III)V" } : MethodName)) ∈ WS := ws_in 1155 (by decide +kernel) (by decide +kernel)
theorem k_1091 : (Cond.code ({ cls := "NoonFieldsModel", name := "sets", desc := "(III)V" } : MethodName) prog_14_method_12_code (4 : Nat) (none : Option FieldType)) ∈ WS := ws_in 1156 (by decide +kernel) (by decide +kernel)
theorem k_1092 : (Cond.methodLink "NoonFieldsLaw" (22 : Nat) ({ cls := "NoonFieldsModel", name := "told", desc := "(II)I" } : MethodName)) ∈ WS := ws_in 1157 (by decide +kernel) (by decide +kernel)
theorem k_1093 : (Cond.instanceMethod ({ cls := "NoonFieldsModel", name := "told", desc := "(II)I" } : MethodName)) ∈ WS := ws_in 1158 (by decide +kernel) (by decide +kernel)
theorem k_1094 : (Cond.selects "NoonFieldsModel" ({ cls := "NoonFieldsModel", name := "told", desc := "(II)I" } : MethodName) ({ cls := "NoonFieldsModel", name := "told", desc := "(II)I" } : MethodName)) ∈ WS := ws_in 1159 (by decide +kernel) (by decide +kernel)
theorem k_1095 : (Cond.code ({ cls := "NoonFieldsModel", name := "told", desc := "(II)I" } : MethodName) prog_14_method_23_code (3 : Nat) (some FieldType.int)) ∈ WS := ws_in 1160 (by decide +kernel) (by decide +kernel)
theorem k_1096 : (Cond.methodLink "NoonFieldsModel" (126 : Nat) ({ cls := "NoonFieldsModel", name := "isOne", desc := "(I)Z" } : MethodName)) ∈ WS := ws_in 1161 (by decide +kernel) (by decide +kernel)
theorem k_1098 : (Cond.instanceMethod ({ cls := "NoonFieldsModel", name := "isOne", desc := "(I)Z" } : MethodName)) ∈ WS := ws_in 1163 (by decide +kernel) (by decide +kernel)
theorem k_1099 : (Cond.code ({ cls := "NoonFieldsModel", name := "isOne", desc := "(I)Z" } : MethodName) prog_14_method_13_code (2 : Nat) (some FieldType.boolean)) ∈ WS := ws_in 1164 (by decide +kernel) (by decide +kernel)
theorem k_1100 : (Cond.constantLong "NoonFieldsModel" (129 : Nat) (6 : Int64)) ∈ WS := ws_in 1165 (by decide +kernel) (by decide +kernel)
theorem k_1101 : (Cond.methodLink "NoonFieldsModel" (107 : Nat) ({ cls := "NoonFieldsModel", name := "of", desc := "(II)I" } : MethodName)) ∈ WS := ws_in 1166 (by decide +kernel) (by decide +kernel)
theorem k_1103 : (Cond.instanceMethod ({ cls := "NoonFieldsModel", name := "of", desc := "(II)I" } : MethodName)) ∈ WS := ws_in 1168 (by decide +kernel) (by decide +kernel)
theorem k_1104 : (Cond.code ({ cls := "NoonFieldsModel", name := "of", desc := "(II)I" } : MethodName) prog_14_method_11_code (3 : Nat) (some FieldType.int)) ∈ WS := ws_in 1169 (by decide +kernel) (by decide +kernel)
theorem k_1105 : (Cond.methodLink "NoonFieldsModel" (131 : Nat) ({ cls := "NoonFieldsModel", name := "worth", desc := "(I)I" } : MethodName)) ∈ WS := ws_in 1170 (by decide +kernel) (by decide +kernel)
theorem k_1107 : (Cond.instanceMethod ({ cls := "NoonFieldsModel", name := "worth", desc := "(I)I" } : MethodName)) ∈ WS := ws_in 1172 (by decide +kernel) (by decide +kernel)
theorem k_1108 : (Cond.code ({ cls := "NoonFieldsModel", name := "worth", desc := "(I)I" } : MethodName) prog_14_method_22_code (3 : Nat) (some FieldType.int)) ∈ WS := ws_in 1173 (by decide +kernel) (by decide +kernel)
theorem k_1109 : (Cond.methodLink "NoonFieldsLaw" (26 : Nat) ({ cls := "NoonFieldsModel", name := "walk", desc := "(III)I" } : MethodName)) ∈ WS := ws_in 1174 (by decide +kernel) (by decide +kernel)
theorem k_1110 : (Cond.instanceMethod ({ cls := "NoonFieldsModel", name := "walk", desc := "(III)I" } : MethodName)) ∈ WS := ws_in 1175 (by decide +kernel) (by decide +kernel)
theorem k_1111 : (Cond.selects "NoonFieldsModel" ({ cls := "NoonFieldsModel", name := "walk", desc := "(III)I" } : MethodName) ({ cls := "NoonFieldsModel", name := "walk", desc := "(III)I" } : MethodName)) ∈ WS := ws_in 1176 (by decide +kernel) (by decide +kernel)
theorem k_1112 : (Cond.code ({ cls := "NoonFieldsModel", name := "walk", desc := "(III)I" } : MethodName) prog_14_method_24_code (4 : Nat) (some FieldType.int)) ∈ WS := ws_in 1177 (by decide +kernel) (by decide +kernel)
theorem k_1113 : (Cond.methodLink "NoonFieldsModel" (134 : Nat) ({ cls := "NoonFieldsModel", name := "walkOf", desc := "(II)I" } : MethodName)) ∈ WS := ws_in 1178 (by decide +kernel) (by decide +kernel)
theorem k_1115 : (Cond.instanceMethod ({ cls := "NoonFieldsModel", name := "walkOf", desc := "(II)I" } : MethodName)) ∈ WS := ws_in 1180 (by decide +kernel) (by decide +kernel)
theorem k_1116 : (Cond.code ({ cls := "NoonFieldsModel", name := "walkOf", desc := "(II)I" } : MethodName) prog_14_method_20_code (6 : Nat) (some FieldType.int)) ∈ WS := ws_in 1181 (by decide +kernel) (by decide +kernel)
theorem k_1117 : (Cond.methodLink "NoonFieldsModel" (110 : Nat) ({ cls := "NoonFieldsModel", name := "farOf", desc := "(II)I" } : MethodName)) ∈ WS := ws_in 1182 (by decide +kernel) (by decide +kernel)
theorem k_1118 : (Cond.static ({ cls := "NoonFieldsModel", name := "farOf", desc := "(II)I" } : MethodName)) ∈ WS := ws_in 1183 (by decide +kernel) (by decide +kernel)
theorem k_1119 : (Cond.code ({ cls := "NoonFieldsModel", name := "farOf", desc := "(II)I" } : MethodName) prog_14_method_19_code (2 : Nat) (some FieldType.int)) ∈ WS := ws_in 1184 (by decide +kernel) (by decide +kernel)
theorem k_1120 : (Cond.methodLink "NoonFieldsModel" (103 : Nat) ({ cls := "NoonFieldsModel", name := "off", desc := "(II)I" } : MethodName)) ∈ WS := ws_in 1185 (by decide +kernel) (by decide +kernel)
theorem k_1121 : (Cond.static ({ cls := "NoonFieldsModel", name := "off", desc := "(II)I" } : MethodName)) ∈ WS := ws_in 1186 (by decide +kernel) (by decide +kernel)
theorem k_1122 : (Cond.code ({ cls := "NoonFieldsModel", name := "off", desc := "(II)I" } : MethodName) prog_14_method_5_code (2 : Nat) (some FieldType.int)) ∈ WS := ws_in 1187 (by decide +kernel) (by decide +kernel)
theorem k_1123 : (Cond.methodLink "NoonFieldsModel" (113 : Nat) ({ cls := "NoonFieldsModel", name := "in", desc := "(II)I" } : MethodName)) ∈ WS := ws_in 1188 (by decide +kernel) (by decide +kernel)
theorem k_1125 : (Cond.instanceMethod ({ cls := "NoonFieldsModel", name := "in", desc := "(II)I" } : MethodName)) ∈ WS := ws_in 1190 (by decide +kernel) (by decide +kernel)
theorem k_1126 : (Cond.code ({ cls := "NoonFieldsModel", name := "in", desc := "(II)I" } : MethodName) prog_14_method_9_code (3 : Nat) (some FieldType.int)) ∈ WS := ws_in 1191 (by decide +kernel) (by decide +kernel)
theorem k_1127 : (Cond.methodLink "NoonFieldsModel" (116 : Nat) ({ cls := "NoonFieldsModel", name := "counts", desc := "(I)I" } : MethodName)) ∈ WS := ws_in 1192 (by decide +kernel) (by decide +kernel)
theorem k_1129 : (Cond.instanceMethod ({ cls := "NoonFieldsModel", name := "counts", desc := "(I)I" } : MethodName)) ∈ WS := ws_in 1194 (by decide +kernel) (by decide +kernel)
theorem k_1130 : (Cond.code ({ cls := "NoonFieldsModel", name := "counts", desc := "(I)I" } : MethodName) prog_14_method_79_code (4 : Nat) (some FieldType.int)) ∈ WS := ws_in 1195 (by decide +kernel) (by decide +kernel)
theorem k_1131 : (Cond.methodLink "NoonFieldsModel" (295 : Nat) ({ cls := "NoonFieldsModel", name := "textAt", desc := "(I)I" } : MethodName)) ∈ WS := ws_in 1196 (by decide +kernel) (by decide +kernel)
theorem k_1133 : (Cond.instanceMethod ({ cls := "NoonFieldsModel", name := "textAt", desc := "(I)I" } : MethodName)) ∈ WS := ws_in 1198 (by decide +kernel) (by decide +kernel)
theorem k_1134 : (Cond.code ({ cls := "NoonFieldsModel", name := "textAt", desc := "(I)I" } : MethodName) prog_14_method_8_code (2 : Nat) (some FieldType.int)) ∈ WS := ws_in 1199 (by decide +kernel) (by decide +kernel)
theorem k_1135 : (Cond.methodLink "NoonFieldsModel" (120 : Nat) ({ cls := "NoonFieldsModel", name := "worked", desc := "(I)I" } : MethodName)) ∈ WS := ws_in 1200 (by decide +kernel) (by decide +kernel)
theorem k_1137 : (Cond.instanceMethod ({ cls := "NoonFieldsModel", name := "worked", desc := "(I)I" } : MethodName)) ∈ WS := ws_in 1202 (by decide +kernel) (by decide +kernel)
theorem k_1138 : (Cond.code ({ cls := "NoonFieldsModel", name := "worked", desc := "(I)I" } : MethodName) prog_14_method_82_code (6 : Nat) (some FieldType.int)) ∈ WS := ws_in 1203 (by decide +kernel) (by decide +kernel)
theorem k_1139 : (Cond.methodLink "NoonFieldsModel" (307 : Nat) ({ cls := "NoonFieldsModel", name := "joined", desc := "(III)I" } : MethodName)) ∈ WS := ws_in 1204 (by decide +kernel) (by decide +kernel)
theorem k_1140 : (Cond.static ({ cls := "NoonFieldsModel", name := "joined", desc := "(III)I" } : MethodName)) ∈ WS := ws_in 1205 (by decide +kernel) (by decide +kernel)
theorem k_1141 : (Cond.code ({ cls := "NoonFieldsModel", name := "joined", desc := "(III)I" } : MethodName) prog_14_method_81_code (3 : Nat) (some FieldType.int)) ∈ WS := ws_in 1206 (by decide +kernel) (by decide +kernel)
theorem k_1142 : (Cond.methodLink "NoonFieldsModel" (123 : Nat) ({ cls := "NoonFieldsModel", name := "within", desc := "(II)I" } : MethodName)) ∈ WS := ws_in 1207 (by decide +kernel) (by decide +kernel)
theorem k_1143 : (Cond.static ({ cls := "NoonFieldsModel", name := "within", desc := "(II)I" } : MethodName)) ∈ WS := ws_in 1208 (by decide +kernel) (by decide +kernel)
theorem k_1144 : (Cond.code ({ cls := "NoonFieldsModel", name := "within", desc := "(II)I" } : MethodName) prog_14_method_4_code (2 : Nat) (some FieldType.int)) ∈ WS := ws_in 1209 (by decide +kernel) (by decide +kernel)
theorem k_1145 : (Cond.methodLink "NoonFieldsModel" (137 : Nat) ({ cls := "NoonFieldsModel", name := "mayStand", desc := "(II)Z" } : MethodName)) ∈ WS := ws_in 1210 (by decide +kernel) (by decide +kernel)
theorem k_1147 : (Cond.instanceMethod ({ cls := "NoonFieldsModel", name := "mayStand", desc := "(II)Z" } : MethodName)) ∈ WS := ws_in 1212 (by decide +kernel) (by decide +kernel)
theorem k_1148 : (Cond.code ({ cls := "NoonFieldsModel", name := "mayStand", desc := "(II)Z" } : MethodName) prog_14_method_21_code (4 : Nat) (some FieldType.boolean)) ∈ WS := ws_in 1213 (by decide +kernel) (by decide +kernel)
theorem k_1149 : (Cond.methodLink "NoonFieldsLaw" (30 : Nat) ({ cls := "NoonFieldsModel", name := "as", desc := "(II)I" } : MethodName)) ∈ WS := ws_in 1214 (by decide +kernel) (by decide +kernel)
theorem k_1150 : (Cond.instanceMethod ({ cls := "NoonFieldsModel", name := "as", desc := "(II)I" } : MethodName)) ∈ WS := ws_in 1215 (by decide +kernel) (by decide +kernel)
theorem k_1151 : (Cond.selects "NoonFieldsModel" ({ cls := "NoonFieldsModel", name := "as", desc := "(II)I" } : MethodName) ({ cls := "NoonFieldsModel", name := "as", desc := "(II)I" } : MethodName)) ∈ WS := ws_in 1216 (by decide +kernel) (by decide +kernel)
theorem k_1152 : (Cond.code ({ cls := "NoonFieldsModel", name := "as", desc := "(II)I" } : MethodName) prog_14_method_26_code (3 : Nat) (some FieldType.int)) ∈ WS := ws_in 1217 (by decide +kernel) (by decide +kernel)
theorem k_1153 : (Cond.methodLink "NoonFieldsModel" (141 : Nat) ({ cls := "NoonFieldsModel", name := "isOf", desc := "(II)Z" } : MethodName)) ∈ WS := ws_in 1218 (by decide +kernel) (by decide +kernel)
theorem k_1154 : (Cond.static ({ cls := "NoonFieldsModel", name := "isOf", desc := "(II)Z" } : MethodName)) ∈ WS := ws_in 1219 (by decide +kernel) (by decide +kernel)
theorem k_1155 : (Cond.code ({ cls := "NoonFieldsModel", name := "isOf", desc := "(II)Z" } : MethodName) prog_14_method_25_code (2 : Nat) (some FieldType.boolean)) ∈ WS := ws_in 1220 (by decide +kernel) (by decide +kernel)
theorem k_1156 : (Cond.constant "NoonFieldsModel" (144 : Nat) (-1000000012 : Int32)) ∈ WS := ws_in 1221 (by decide +kernel) (by decide +kernel)
theorem k_1157 : (Cond.methodLink "NoonFieldsLaw" (34 : Nat) ({ cls := "NoonFieldsModel", name := "turns", desc := "(II)I" } : MethodName)) ∈ WS := ws_in 1222 (by decide +kernel) (by decide +kernel)
theorem k_1158 : (Cond.instanceMethod ({ cls := "NoonFieldsModel", name := "turns", desc := "(II)I" } : MethodName)) ∈ WS := ws_in 1223 (by decide +kernel) (by decide +kernel)
theorem k_1159 : (Cond.selects "NoonFieldsModel" ({ cls := "NoonFieldsModel", name := "turns", desc := "(II)I" } : MethodName) ({ cls := "NoonFieldsModel", name := "turns", desc := "(II)I" } : MethodName)) ∈ WS := ws_in 1224 (by decide +kernel) (by decide +kernel)
theorem k_1160 : (Cond.code ({ cls := "NoonFieldsModel", name := "turns", desc := "(II)I" } : MethodName) prog_14_method_27_code (3 : Nat) (some FieldType.int)) ∈ WS := ws_in 1225 (by decide +kernel) (by decide +kernel)
theorem k_1161 : (Cond.methodLink "NoonFieldsModel" (145 : Nat) ({ cls := "NoonFieldsModel", name := "becomes", desc := "(II)I" } : MethodName)) ∈ WS := ws_in 1226 (by decide +kernel) (by decide +kernel)
theorem k_1163 : (Cond.instanceMethod ({ cls := "NoonFieldsModel", name := "becomes", desc := "(II)I" } : MethodName)) ∈ WS := ws_in 1228 (by decide +kernel) (by decide +kernel)
theorem k_1164 : (Cond.code ({ cls := "NoonFieldsModel", name := "becomes", desc := "(II)I" } : MethodName) prog_14_method_7_code (4 : Nat) (some FieldType.int)) ∈ WS := ws_in 1229 (by decide +kernel) (by decide +kernel)
theorem k_1165 : (Cond.methodLink "NoonFieldsLaw" (38 : Nat) ({ cls := "NoonFieldsModel", name := "set", desc := "(III)I" } : MethodName)) ∈ WS := ws_in 1230 (by decide +kernel) (by decide +kernel)
theorem k_1166 : (Cond.instanceMethod ({ cls := "NoonFieldsModel", name := "set", desc := "(III)I" } : MethodName)) ∈ WS := ws_in 1231 (by decide +kernel) (by decide +kernel)
theorem k_1167 : (Cond.selects "NoonFieldsModel" ({ cls := "NoonFieldsModel", name := "set", desc := "(III)I" } : MethodName) ({ cls := "NoonFieldsModel", name := "set", desc := "(III)I" } : MethodName)) ∈ WS := ws_in 1232 (by decide +kernel) (by decide +kernel)
theorem k_1168 : (Cond.code ({ cls := "NoonFieldsModel", name := "set", desc := "(III)I" } : MethodName) prog_14_method_28_code (4 : Nat) (some FieldType.int)) ∈ WS := ws_in 1233 (by decide +kernel) (by decide +kernel)
theorem k_1169 : (Cond.constantLong "NoonFieldsModel" (148 : Nat) (2 : Int64)) ∈ WS := ws_in 1234 (by decide +kernel) (by decide +kernel)
theorem k_1170 : (Cond.constantLong "NoonFieldsModel" (150 : Nat) (8 : Int64)) ∈ WS := ws_in 1235 (by decide +kernel) (by decide +kernel)
theorem k_1171 : (Cond.methodLink "NoonFieldsLaw" (42 : Nat) ({ cls := "NoonFieldsModel", name := "talk", desc := "(III)I" } : MethodName)) ∈ WS := ws_in 1236 (by decide +kernel) (by decide +kernel)
theorem k_1172 : (Cond.instanceMethod ({ cls := "NoonFieldsModel", name := "talk", desc := "(III)I" } : MethodName)) ∈ WS := ws_in 1237 (by decide +kernel) (by decide +kernel)
theorem k_1173 : (Cond.selects "NoonFieldsModel" ({ cls := "NoonFieldsModel", name := "talk", desc := "(III)I" } : MethodName) ({ cls := "NoonFieldsModel", name := "talk", desc := "(III)I" } : MethodName)) ∈ WS := ws_in 1238 (by decide +kernel) (by decide +kernel)
theorem k_1174 : (Cond.code ({ cls := "NoonFieldsModel", name := "talk", desc := "(III)I" } : MethodName) prog_14_method_30_code (5 : Nat) (some FieldType.int)) ∈ WS := ws_in 1239 (by decide +kernel) (by decide +kernel)
theorem k_1175 : (Cond.methodLink "NoonFieldsModel" (152 : Nat) ({ cls := "NoonFieldsModel", name := "areTalked", desc := "(II)Z" } : MethodName)) ∈ WS := ws_in 1240 (by decide +kernel) (by decide +kernel)
theorem k_1177 : (Cond.instanceMethod ({ cls := "NoonFieldsModel", name := "areTalked", desc := "(II)Z" } : MethodName)) ∈ WS := ws_in 1242 (by decide +kernel) (by decide +kernel)
theorem k_1178 : (Cond.code ({ cls := "NoonFieldsModel", name := "areTalked", desc := "(II)Z" } : MethodName) prog_14_method_29_code (3 : Nat) (some FieldType.boolean)) ∈ WS := ws_in 1243 (by decide +kernel) (by decide +kernel)
theorem k_1179 : (Cond.methodLink "NoonFieldsLaw" (46 : Nat) ({ cls := "NoonFieldsModel", name := "field", desc := "(II)I" } : MethodName)) ∈ WS := ws_in 1244 (by decide +kernel) (by decide +kernel)
theorem k_1180 : (Cond.instanceMethod ({ cls := "NoonFieldsModel", name := "field", desc := "(II)I" } : MethodName)) ∈ WS := ws_in 1245 (by decide +kernel) (by decide +kernel)
theorem k_1181 : (Cond.selects "NoonFieldsModel" ({ cls := "NoonFieldsModel", name := "field", desc := "(II)I" } : MethodName) ({ cls := "NoonFieldsModel", name := "field", desc := "(II)I" } : MethodName)) ∈ WS := ws_in 1246 (by decide +kernel) (by decide +kernel)
theorem k_1182 : (Cond.code ({ cls := "NoonFieldsModel", name := "field", desc := "(II)I" } : MethodName) prog_14_method_31_code (3 : Nat) (some FieldType.int)) ∈ WS := ws_in 1247 (by decide +kernel) (by decide +kernel)
theorem k_1183 : (Cond.methodLink "NoonFieldsLaw" (50 : Nat) ({ cls := "NoonFieldsModel", name := "lays", desc := "(III)I" } : MethodName)) ∈ WS := ws_in 1248 (by decide +kernel) (by decide +kernel)
theorem k_1184 : (Cond.instanceMethod ({ cls := "NoonFieldsModel", name := "lays", desc := "(III)I" } : MethodName)) ∈ WS := ws_in 1249 (by decide +kernel) (by decide +kernel)
theorem k_1185 : (Cond.selects "NoonFieldsModel" ({ cls := "NoonFieldsModel", name := "lays", desc := "(III)I" } : MethodName) ({ cls := "NoonFieldsModel", name := "lays", desc := "(III)I" } : MethodName)) ∈ WS := ws_in 1250 (by decide +kernel) (by decide +kernel)
theorem k_1186 : (Cond.code ({ cls := "NoonFieldsModel", name := "lays", desc := "(III)I" } : MethodName) prog_14_method_32_code (4 : Nat) (some FieldType.int)) ∈ WS := ws_in 1251 (by decide +kernel) (by decide +kernel)
theorem k_1187 : (Cond.constantLong "NoonFieldsModel" (155 : Nat) (4 : Int64)) ∈ WS := ws_in 1252 (by decide +kernel) (by decide +kernel)
theorem k_1188 : (Cond.methodLink "NoonFieldsLaw" (54 : Nat) ({ cls := "NoonFieldsModel", name := "far", desc := "(II)I" } : MethodName)) ∈ WS := ws_in 1253 (by decide +kernel) (by decide +kernel)
theorem k_1189 : (Cond.instanceMethod ({ cls := "NoonFieldsModel", name := "far", desc := "(II)I" } : MethodName)) ∈ WS := ws_in 1254 (by decide +kernel) (by decide +kernel)
theorem k_1190 : (Cond.selects "NoonFieldsModel" ({ cls := "NoonFieldsModel", name := "far", desc := "(II)I" } : MethodName) ({ cls := "NoonFieldsModel", name := "far", desc := "(II)I" } : MethodName)) ∈ WS := ws_in 1255 (by decide +kernel) (by decide +kernel)
theorem k_1191 : (Cond.code ({ cls := "NoonFieldsModel", name := "far", desc := "(II)I" } : MethodName) prog_14_method_33_code (3 : Nat) (some FieldType.int)) ∈ WS := ws_in 1256 (by decide +kernel) (by decide +kernel)
theorem k_1192 : (Cond.methodLink "NoonFieldsLaw" (59 : Nat) ({ cls := "NoonFieldsModel", name := "late", desc := "(I)I" } : MethodName)) ∈ WS := ws_in 1257 (by decide +kernel) (by decide +kernel)
theorem k_1193 : (Cond.instanceMethod ({ cls := "NoonFieldsModel", name := "late", desc := "(I)I" } : MethodName)) ∈ WS := ws_in 1258 (by decide +kernel) (by decide +kernel)
theorem k_1194 : (Cond.selects "NoonFieldsModel" ({ cls := "NoonFieldsModel", name := "late", desc := "(I)I" } : MethodName) ({ cls := "NoonFieldsModel", name := "late", desc := "(I)I" } : MethodName)) ∈ WS := ws_in 1259 (by decide +kernel) (by decide +kernel)
theorem k_1195 : (Cond.code ({ cls := "NoonFieldsModel", name := "late", desc := "(I)I" } : MethodName) prog_14_method_34_code (2 : Nat) (some FieldType.int)) ∈ WS := ws_in 1260 (by decide +kernel) (by decide +kernel)
theorem k_1196 : (Cond.constantLong "NoonFieldsModel" (157 : Nat) (100 : Int64)) ∈ WS := ws_in 1261 (by decide +kernel) (by decide +kernel)
theorem k_1197 : (Cond.methodLink "NoonFieldsLaw" (63 : Nat) ({ cls := "NoonFieldsModel", name := "deal", desc := "(I)I" } : MethodName)) ∈ WS := ws_in 1262 (by decide +kernel) (by decide +kernel)
theorem k_1198 : (Cond.instanceMethod ({ cls := "NoonFieldsModel", name := "deal", desc := "(I)I" } : MethodName)) ∈ WS := ws_in 1263 (by decide +kernel) (by decide +kernel)
theorem k_1199 : (Cond.selects "NoonFieldsModel" ({ cls := "NoonFieldsModel", name := "deal", desc := "(I)I" } : MethodName) ({ cls := "NoonFieldsModel", name := "deal", desc := "(I)I" } : MethodName)) ∈ WS := ws_in 1264 (by decide +kernel) (by decide +kernel)
theorem k_1200 : (Cond.code ({ cls := "NoonFieldsModel", name := "deal", desc := "(I)I" } : MethodName) prog_14_method_35_code (5 : Nat) (some FieldType.int)) ∈ WS := ws_in 1265 (by decide +kernel) (by decide +kernel)
theorem k_1201 : (Cond.methodLink "NoonFieldsModel" (159 : Nat) ({ cls := "NoonFieldsModel", name := "drawn", desc := "()I" } : MethodName)) ∈ WS := ws_in 1266 (by decide +kernel) (by decide +kernel)
theorem k_1203 : (Cond.instanceMethod ({ cls := "NoonFieldsModel", name := "drawn", desc := "()I" } : MethodName)) ∈ WS := ws_in 1268 (by decide +kernel) (by decide +kernel)
theorem k_1204 : (Cond.code ({ cls := "NoonFieldsModel", name := "drawn", desc := "()I" } : MethodName) prog_14_method_16_code (1 : Nat) (some FieldType.int)) ∈ WS := ws_in 1269 (by decide +kernel) (by decide +kernel)
theorem k_1205 : (Cond.constant "NoonFieldsModel" (86 : Nat) (1103515245 : Int32)) ∈ WS := ws_in 1270 (by decide +kernel) (by decide +kernel)
theorem k_1206 : (Cond.methodLink "NoonFieldsLaw" (67 : Nat) ({ cls := "NoonFieldsModel", name := "seed", desc := "(I)I" } : MethodName)) ∈ WS := ws_in 1271 (by decide +kernel) (by decide +kernel)
theorem k_1207 : (Cond.instanceMethod ({ cls := "NoonFieldsModel", name := "seed", desc := "(I)I" } : MethodName)) ∈ WS := ws_in 1272 (by decide +kernel) (by decide +kernel)
theorem k_1208 : (Cond.selects "NoonFieldsModel" ({ cls := "NoonFieldsModel", name := "seed", desc := "(I)I" } : MethodName) ({ cls := "NoonFieldsModel", name := "seed", desc := "(I)I" } : MethodName)) ∈ WS := ws_in 1273 (by decide +kernel) (by decide +kernel)
theorem k_1209 : (Cond.code ({ cls := "NoonFieldsModel", name := "seed", desc := "(I)I" } : MethodName) prog_14_method_36_code (2 : Nat) (some FieldType.int)) ∈ WS := ws_in 1274 (by decide +kernel) (by decide +kernel)
theorem k_1210 : (Cond.methodLink "NoonFieldsLaw" (71 : Nat) ({ cls := "NoonFieldsModel", name := "noons", desc := "(I)I" } : MethodName)) ∈ WS := ws_in 1275 (by decide +kernel) (by decide +kernel)
theorem k_1211 : (Cond.instanceMethod ({ cls := "NoonFieldsModel", name := "noons", desc := "(I)I" } : MethodName)) ∈ WS := ws_in 1276 (by decide +kernel) (by decide +kernel)
theorem k_1212 : (Cond.selects "NoonFieldsModel" ({ cls := "NoonFieldsModel", name := "noons", desc := "(I)I" } : MethodName) ({ cls := "NoonFieldsModel", name := "noons", desc := "(I)I" } : MethodName)) ∈ WS := ws_in 1277 (by decide +kernel) (by decide +kernel)
theorem k_1213 : (Cond.code ({ cls := "NoonFieldsModel", name := "noons", desc := "(I)I" } : MethodName) prog_14_method_41_code (4 : Nat) (some FieldType.int)) ∈ WS := ws_in 1278 (by decide +kernel) (by decide +kernel)
theorem k_1214 : (Cond.methodLink "NoonFieldsModel" (173 : Nat) ({ cls := "NoonFieldsModel", name := "goesOn", desc := "()V" } : MethodName)) ∈ WS := ws_in 1279 (by decide +kernel) (by decide +kernel)
theorem k_1216 : (Cond.instanceMethod ({ cls := "NoonFieldsModel", name := "goesOn", desc := "()V" } : MethodName)) ∈ WS := ws_in 1281 (by decide +kernel) (by decide +kernel)
theorem k_1217 : (Cond.code ({ cls := "NoonFieldsModel", name := "goesOn", desc := "()V" } : MethodName) prog_14_method_40_code (3 : Nat) (none : Option FieldType)) ∈ WS := ws_in 1282 (by decide +kernel) (by decide +kernel)
theorem k_1218 : (Cond.methodLink "NoonFieldsModel" (169 : Nat) ({ cls := "NoonFieldsModel", name := "goes", desc := "(I)V" } : MethodName)) ∈ WS := ws_in 1283 (by decide +kernel) (by decide +kernel)
theorem k_1220 : (Cond.instanceMethod ({ cls := "NoonFieldsModel", name := "goes", desc := "(I)V" } : MethodName)) ∈ WS := ws_in 1285 (by decide +kernel) (by decide +kernel)
theorem k_1221 : (Cond.code ({ cls := "NoonFieldsModel", name := "goes", desc := "(I)V" } : MethodName) prog_14_method_39_code (4 : Nat) (none : Option FieldType)) ∈ WS := ws_in 1286 (by decide +kernel) (by decide +kernel)
theorem k_1222 : (Cond.methodLink "NoonFieldsModel" (166 : Nat) ({ cls := "NoonFieldsModel", name := "goesTo", desc := "(I)I" } : MethodName)) ∈ WS := ws_in 1287 (by decide +kernel) (by decide +kernel)
theorem k_1224 : (Cond.instanceMethod ({ cls := "NoonFieldsModel", name := "goesTo", desc := "(I)I" } : MethodName)) ∈ WS := ws_in 1289 (by decide +kernel) (by decide +kernel)
theorem k_1225 : (Cond.code ({ cls := "NoonFieldsModel", name := "goesTo", desc := "(I)I" } : MethodName) prog_14_method_38_code (6 : Nat) (some FieldType.int)) ∈ WS := ws_in 1290 (by decide +kernel) (by decide +kernel)
theorem k_1226 : (Cond.methodLink "NoonFieldsModel" (163 : Nat) ({ cls := "NoonFieldsModel", name := "isFree", desc := "(II)Z" } : MethodName)) ∈ WS := ws_in 1291 (by decide +kernel) (by decide +kernel)
theorem k_1228 : (Cond.instanceMethod ({ cls := "NoonFieldsModel", name := "isFree", desc := "(II)Z" } : MethodName)) ∈ WS := ws_in 1293 (by decide +kernel) (by decide +kernel)
theorem k_1229 : (Cond.code ({ cls := "NoonFieldsModel", name := "isFree", desc := "(II)Z" } : MethodName) prog_14_method_37_code (5 : Nat) (some FieldType.boolean)) ∈ WS := ws_in 1294 (by decide +kernel) (by decide +kernel)
theorem k_1230 : (Cond.methodLink "NoonFieldsLaw" (75 : Nat) ({ cls := "NoonFieldsModel", name := "year", desc := "(I)I" } : MethodName)) ∈ WS := ws_in 1295 (by decide +kernel) (by decide +kernel)
theorem k_1231 : (Cond.instanceMethod ({ cls := "NoonFieldsModel", name := "year", desc := "(I)I" } : MethodName)) ∈ WS := ws_in 1296 (by decide +kernel) (by decide +kernel)
theorem k_1232 : (Cond.selects "NoonFieldsModel" ({ cls := "NoonFieldsModel", name := "year", desc := "(I)I" } : MethodName) ({ cls := "NoonFieldsModel", name := "year", desc := "(I)I" } : MethodName)) ∈ WS := ws_in 1297 (by decide +kernel) (by decide +kernel)
theorem k_1233 : (Cond.code ({ cls := "NoonFieldsModel", name := "year", desc := "(I)I" } : MethodName) prog_14_method_44_code (2 : Nat) (some FieldType.int)) ∈ WS := ws_in 1298 (by decide +kernel) (by decide +kernel)
theorem k_1234 : (Cond.methodLink "NoonFieldsModel" (176 : Nat) ({ cls := "NoonFieldsModel", name := "allCorn", desc := "()I" } : MethodName)) ∈ WS := ws_in 1299 (by decide +kernel) (by decide +kernel)
theorem k_1236 : (Cond.instanceMethod ({ cls := "NoonFieldsModel", name := "allCorn", desc := "()I" } : MethodName)) ∈ WS := ws_in 1301 (by decide +kernel) (by decide +kernel)
theorem k_1237 : (Cond.code ({ cls := "NoonFieldsModel", name := "allCorn", desc := "()I" } : MethodName) prog_14_method_42_code (3 : Nat) (some FieldType.int)) ∈ WS := ws_in 1302 (by decide +kernel) (by decide +kernel)
theorem k_1238 : (Cond.methodLink "NoonFieldsModel" (179 : Nat) ({ cls := "NoonFieldsModel", name := "allOf", desc := "(I)I" } : MethodName)) ∈ WS := ws_in 1303 (by decide +kernel) (by decide +kernel)
theorem k_1240 : (Cond.instanceMethod ({ cls := "NoonFieldsModel", name := "allOf", desc := "(I)I" } : MethodName)) ∈ WS := ws_in 1305 (by decide +kernel) (by decide +kernel)
theorem k_1241 : (Cond.code ({ cls := "NoonFieldsModel", name := "allOf", desc := "(I)I" } : MethodName) prog_14_method_43_code (4 : Nat) (some FieldType.int)) ∈ WS := ws_in 1306 (by decide +kernel) (by decide +kernel)
theorem k_1242 : (Cond.methodLink "NoonFieldsLaw" (79 : Nat) ({ cls := "NoonFieldsModel", name := "best", desc := "(I)I" } : MethodName)) ∈ WS := ws_in 1307 (by decide +kernel) (by decide +kernel)
theorem k_1243 : (Cond.instanceMethod ({ cls := "NoonFieldsModel", name := "best", desc := "(I)I" } : MethodName)) ∈ WS := ws_in 1308 (by decide +kernel) (by decide +kernel)
theorem k_1244 : (Cond.selects "NoonFieldsModel" ({ cls := "NoonFieldsModel", name := "best", desc := "(I)I" } : MethodName) ({ cls := "NoonFieldsModel", name := "best", desc := "(I)I" } : MethodName)) ∈ WS := ws_in 1309 (by decide +kernel) (by decide +kernel)
theorem k_1245 : (Cond.code ({ cls := "NoonFieldsModel", name := "best", desc := "(I)I" } : MethodName) prog_14_method_46_code (10 : Nat) (some FieldType.int)) ∈ WS := ws_in 1310 (by decide +kernel) (by decide +kernel)
theorem k_1246 : (Cond.methodLink "NoonFieldsModel" (182 : Nat) ({ cls := "NoonFieldsModel", name := "isPlacing", desc := "()Z" } : MethodName)) ∈ WS := ws_in 1311 (by decide +kernel) (by decide +kernel)
theorem k_1248 : (Cond.instanceMethod ({ cls := "NoonFieldsModel", name := "isPlacing", desc := "()Z" } : MethodName)) ∈ WS := ws_in 1313 (by decide +kernel) (by decide +kernel)
theorem k_1249 : (Cond.code ({ cls := "NoonFieldsModel", name := "isPlacing", desc := "()Z" } : MethodName) prog_14_method_45_code (4 : Nat) (some FieldType.boolean)) ∈ WS := ws_in 1314 (by decide +kernel) (by decide +kernel)
theorem k_1250 : (Cond.constant "NoonFieldsModel" (81 : Nat) (-1000000005 : Int32)) ∈ WS := ws_in 1315 (by decide +kernel) (by decide +kernel)
theorem k_1251 : (Cond.methodLink "NoonFieldsLaw" (83 : Nat) ({ cls := "NoonFieldsModel", name := "behind", desc := "(II)I" } : MethodName)) ∈ WS := ws_in 1316 (by decide +kernel) (by decide +kernel)
theorem k_1252 : (Cond.instanceMethod ({ cls := "NoonFieldsModel", name := "behind", desc := "(II)I" } : MethodName)) ∈ WS := ws_in 1317 (by decide +kernel) (by decide +kernel)
theorem k_1253 : (Cond.selects "NoonFieldsModel" ({ cls := "NoonFieldsModel", name := "behind", desc := "(II)I" } : MethodName) ({ cls := "NoonFieldsModel", name := "behind", desc := "(II)I" } : MethodName)) ∈ WS := ws_in 1318 (by decide +kernel) (by decide +kernel)
theorem k_1254 : (Cond.code ({ cls := "NoonFieldsModel", name := "behind", desc := "(II)I" } : MethodName) prog_14_method_50_code (4 : Nat) (some FieldType.int)) ∈ WS := ws_in 1319 (by decide +kernel) (by decide +kernel)
theorem k_1255 : (Cond.constantLong "NoonFieldsModel" (186 : Nat) (3 : Int64)) ∈ WS := ws_in 1320 (by decide +kernel) (by decide +kernel)
theorem k_1256 : (Cond.methodLink "NoonFieldsModel" (188 : Nat) ({ cls := "NoonFieldsModel", name := "laysBy", desc := "()V" } : MethodName)) ∈ WS := ws_in 1321 (by decide +kernel) (by decide +kernel)
theorem k_1258 : (Cond.instanceMethod ({ cls := "NoonFieldsModel", name := "laysBy", desc := "()V" } : MethodName)) ∈ WS := ws_in 1323 (by decide +kernel) (by decide +kernel)
theorem k_1259 : (Cond.code ({ cls := "NoonFieldsModel", name := "laysBy", desc := "()V" } : MethodName) prog_14_method_47_code (2 : Nat) (none : Option FieldType)) ∈ WS := ws_in 1324 (by decide +kernel) (by decide +kernel)
theorem k_1260 : (Cond.methodLink "NoonFieldsModel" (191 : Nat) ({ cls := "NoonFieldsModel", name := "goesOnMany", desc := "(I)V" } : MethodName)) ∈ WS := ws_in 1325 (by decide +kernel) (by decide +kernel)
theorem k_1262 : (Cond.instanceMethod ({ cls := "NoonFieldsModel", name := "goesOnMany", desc := "(I)V" } : MethodName)) ∈ WS := ws_in 1327 (by decide +kernel) (by decide +kernel)
theorem k_1263 : (Cond.code ({ cls := "NoonFieldsModel", name := "goesOnMany", desc := "(I)V" } : MethodName) prog_14_method_49_code (3 : Nat) (none : Option FieldType)) ∈ WS := ws_in 1328 (by decide +kernel) (by decide +kernel)
theorem k_1264 : (Cond.methodLink "NoonFieldsModel" (194 : Nat) ({ cls := "NoonFieldsModel", name := "laysBack", desc := "()V" } : MethodName)) ∈ WS := ws_in 1329 (by decide +kernel) (by decide +kernel)
theorem k_1266 : (Cond.instanceMethod ({ cls := "NoonFieldsModel", name := "laysBack", desc := "()V" } : MethodName)) ∈ WS := ws_in 1331 (by decide +kernel) (by decide +kernel)
theorem k_1267 : (Cond.code ({ cls := "NoonFieldsModel", name := "laysBack", desc := "()V" } : MethodName) prog_14_method_48_code (2 : Nat) (none : Option FieldType)) ∈ WS := ws_in 1332 (by decide +kernel) (by decide +kernel)
theorem k_1268 : (Cond.methodLink "NoonFieldsLaw" (87 : Nat) ({ cls := "NoonFieldsModel", name := "has", desc := "(III)I" } : MethodName)) ∈ WS := ws_in 1333 (by decide +kernel) (by decide +kernel)
theorem k_1269 : (Cond.instanceMethod ({ cls := "NoonFieldsModel", name := "has", desc := "(III)I" } : MethodName)) ∈ WS := ws_in 1334 (by decide +kernel) (by decide +kernel)
theorem k_1270 : (Cond.selects "NoonFieldsModel" ({ cls := "NoonFieldsModel", name := "has", desc := "(III)I" } : MethodName) ({ cls := "NoonFieldsModel", name := "has", desc := "(III)I" } : MethodName)) ∈ WS := ws_in 1335 (by decide +kernel) (by decide +kernel)
theorem k_1271 : (Cond.code ({ cls := "NoonFieldsModel", name := "has", desc := "(III)I" } : MethodName) prog_14_method_51_code (5 : Nat) (some FieldType.int)) ∈ WS := ws_in 1336 (by decide +kernel) (by decide +kernel)
theorem k_1272 : (Cond.methodLink "NoonFieldsLaw" (91 : Nat) ({ cls := "NoonFieldsModel", name := "rota", desc := "(I)I" } : MethodName)) ∈ WS := ws_in 1337 (by decide +kernel) (by decide +kernel)
theorem k_1273 : (Cond.instanceMethod ({ cls := "NoonFieldsModel", name := "rota", desc := "(I)I" } : MethodName)) ∈ WS := ws_in 1338 (by decide +kernel) (by decide +kernel)
theorem k_1274 : (Cond.selects "NoonFieldsModel" ({ cls := "NoonFieldsModel", name := "rota", desc := "(I)I" } : MethodName) ({ cls := "NoonFieldsModel", name := "rota", desc := "(I)I" } : MethodName)) ∈ WS := ws_in 1339 (by decide +kernel) (by decide +kernel)
theorem k_1275 : (Cond.code ({ cls := "NoonFieldsModel", name := "rota", desc := "(I)I" } : MethodName) prog_14_method_53_code (4 : Nat) (some FieldType.int)) ∈ WS := ws_in 1340 (by decide +kernel) (by decide +kernel)
theorem k_1276 : (Cond.constantLong "NoonFieldsModel" (200 : Nat) (9 : Int64)) ∈ WS := ws_in 1341 (by decide +kernel) (by decide +kernel)
theorem k_1277 : (Cond.methodLink "NoonFieldsModel" (202 : Nat) ({ cls := "NoonFieldsModel", name := "allHad", desc := "(I)Z" } : MethodName)) ∈ WS := ws_in 1342 (by decide +kernel) (by decide +kernel)
theorem k_1279 : (Cond.instanceMethod ({ cls := "NoonFieldsModel", name := "allHad", desc := "(I)Z" } : MethodName)) ∈ WS := ws_in 1344 (by decide +kernel) (by decide +kernel)
theorem k_1280 : (Cond.code ({ cls := "NoonFieldsModel", name := "allHad", desc := "(I)Z" } : MethodName) prog_14_method_52_code (3 : Nat) (some FieldType.boolean)) ∈ WS := ws_in 1345 (by decide +kernel) (by decide +kernel)
theorem k_1281 : (Cond.methodLink "NoonFieldsModel" (197 : Nat) ({ cls := "NoonFieldsModel", name := "manyIn", desc := "(I)I" } : MethodName)) ∈ WS := ws_in 1346 (by decide +kernel) (by decide +kernel)
theorem k_1282 : (Cond.static ({ cls := "NoonFieldsModel", name := "manyIn", desc := "(I)I" } : MethodName)) ∈ WS := ws_in 1347 (by decide +kernel) (by decide +kernel)
theorem k_1283 : (Cond.code ({ cls := "NoonFieldsModel", name := "manyIn", desc := "(I)I" } : MethodName) prog_14_method_6_code (3 : Nat) (some FieldType.int)) ∈ WS := ws_in 1348 (by decide +kernel) (by decide +kernel)
theorem k_1284 : (Cond.methodLink "NoonFieldsModel" (205 : Nat) ({ cls := "NoonFieldsModel", name := "orNone", desc := "(I)I" } : MethodName)) ∈ WS := ws_in 1349 (by decide +kernel) (by decide +kernel)
theorem k_1285 : (Cond.static ({ cls := "NoonFieldsModel", name := "orNone", desc := "(I)I" } : MethodName)) ∈ WS := ws_in 1350 (by decide +kernel) (by decide +kernel)
theorem k_1286 : (Cond.code ({ cls := "NoonFieldsModel", name := "orNone", desc := "(I)I" } : MethodName) prog_14_method_3_code (1 : Nat) (some FieldType.int)) ∈ WS := ws_in 1351 (by decide +kernel) (by decide +kernel)
theorem k_1287 : (Cond.methodLink "NoonFieldsLaw" (95 : Nat) ({ cls := "NoonFieldsModel", name := "sold", desc := "(III)I" } : MethodName)) ∈ WS := ws_in 1352 (by decide +kernel) (by decide +kernel)
theorem k_1288 : (Cond.instanceMethod ({ cls := "NoonFieldsModel", name := "sold", desc := "(III)I" } : MethodName)) ∈ WS := ws_in 1353 (by decide +kernel) (by decide +kernel)
theorem k_1289 : (Cond.selects "NoonFieldsModel" ({ cls := "NoonFieldsModel", name := "sold", desc := "(III)I" } : MethodName) ({ cls := "NoonFieldsModel", name := "sold", desc := "(III)I" } : MethodName)) ∈ WS := ws_in 1354 (by decide +kernel) (by decide +kernel)
theorem k_1290 : (Cond.code ({ cls := "NoonFieldsModel", name := "sold", desc := "(III)I" } : MethodName) prog_14_method_54_code (6 : Nat) (some FieldType.int)) ∈ WS := ws_in 1355 (by decide +kernel) (by decide +kernel)
theorem k_1291 : (Cond.constantLong "NoonFieldsModel" (208 : Nat) (60 : Int64)) ∈ WS := ws_in 1356 (by decide +kernel) (by decide +kernel)
theorem k_1292 : (Cond.methodLink "NoonFieldsLaw" (99 : Nat) ({ cls := "NoonFieldsModel", name := "nobodys", desc := "(II)I" } : MethodName)) ∈ WS := ws_in 1357 (by decide +kernel) (by decide +kernel)
theorem k_1293 : (Cond.instanceMethod ({ cls := "NoonFieldsModel", name := "nobodys", desc := "(II)I" } : MethodName)) ∈ WS := ws_in 1358 (by decide +kernel) (by decide +kernel)
theorem k_1294 : (Cond.selects "NoonFieldsModel" ({ cls := "NoonFieldsModel", name := "nobodys", desc := "(II)I" } : MethodName) ({ cls := "NoonFieldsModel", name := "nobodys", desc := "(II)I" } : MethodName)) ∈ WS := ws_in 1359 (by decide +kernel) (by decide +kernel)
theorem k_1295 : (Cond.code ({ cls := "NoonFieldsModel", name := "nobodys", desc := "(II)I" } : MethodName) prog_14_method_55_code (7 : Nat) (some FieldType.int)) ∈ WS := ws_in 1360 (by decide +kernel) (by decide +kernel)
theorem k_1296 : (Cond.methodLink "NoonFieldsLaw" (103 : Nat) ({ cls := "NoonFieldsModel", name := "beside", desc := "(II)I" } : MethodName)) ∈ WS := ws_in 1361 (by decide +kernel) (by decide +kernel)
theorem k_1297 : (Cond.instanceMethod ({ cls := "NoonFieldsModel", name := "beside", desc := "(II)I" } : MethodName)) ∈ WS := ws_in 1362 (by decide +kernel) (by decide +kernel)
theorem k_1298 : (Cond.selects "NoonFieldsModel" ({ cls := "NoonFieldsModel", name := "beside", desc := "(II)I" } : MethodName) ({ cls := "NoonFieldsModel", name := "beside", desc := "(II)I" } : MethodName)) ∈ WS := ws_in 1363 (by decide +kernel) (by decide +kernel)
theorem k_1299 : (Cond.code ({ cls := "NoonFieldsModel", name := "beside", desc := "(II)I" } : MethodName) prog_14_method_57_code (5 : Nat) (some FieldType.int)) ∈ WS := ws_in 1364 (by decide +kernel) (by decide +kernel)
theorem k_1300 : (Cond.methodLink "NoonFieldsModel" (210 : Nat) ({ cls := "NoonFieldsModel", name := "findOften", desc := "(I)V" } : MethodName)) ∈ WS := ws_in 1365 (by decide +kernel) (by decide +kernel)
theorem k_1302 : (Cond.instanceMethod ({ cls := "NoonFieldsModel", name := "findOften", desc := "(I)V" } : MethodName)) ∈ WS := ws_in 1367 (by decide +kernel) (by decide +kernel)
theorem k_1303 : (Cond.code ({ cls := "NoonFieldsModel", name := "findOften", desc := "(I)V" } : MethodName) prog_14_method_56_code (6 : Nat) (none : Option FieldType)) ∈ WS := ws_in 1368 (by decide +kernel) (by decide +kernel)
theorem k_1304 : (Cond.methodLink "NoonFieldsLaw" (112 : Nat) ({ cls := "NoonFieldsModel", name := "toll", desc := "()I" } : MethodName)) ∈ WS := ws_in 1369 (by decide +kernel) (by decide +kernel)
theorem k_1305 : (Cond.instanceMethod ({ cls := "NoonFieldsModel", name := "toll", desc := "()I" } : MethodName)) ∈ WS := ws_in 1370 (by decide +kernel) (by decide +kernel)
theorem k_1306 : (Cond.selects "NoonFieldsModel" ({ cls := "NoonFieldsModel", name := "toll", desc := "()I" } : MethodName) ({ cls := "NoonFieldsModel", name := "toll", desc := "()I" } : MethodName)) ∈ WS := ws_in 1371 (by decide +kernel) (by decide +kernel)
theorem k_1307 : (Cond.code ({ cls := "NoonFieldsModel", name := "toll", desc := "()I" } : MethodName) prog_14_method_58_code (2 : Nat) (some FieldType.int)) ∈ WS := ws_in 1372 (by decide +kernel) (by decide +kernel)
theorem k_1308 : (Cond.methodLink "NoonFieldsLaw" (116 : Nat) ({ cls := "NoonFieldsModel", name := "fine", desc := "(I)I" } : MethodName)) ∈ WS := ws_in 1373 (by decide +kernel) (by decide +kernel)
theorem k_1309 : (Cond.instanceMethod ({ cls := "NoonFieldsModel", name := "fine", desc := "(I)I" } : MethodName)) ∈ WS := ws_in 1374 (by decide +kernel) (by decide +kernel)
theorem k_1310 : (Cond.selects "NoonFieldsModel" ({ cls := "NoonFieldsModel", name := "fine", desc := "(I)I" } : MethodName) ({ cls := "NoonFieldsModel", name := "fine", desc := "(I)I" } : MethodName)) ∈ WS := ws_in 1375 (by decide +kernel) (by decide +kernel)
theorem k_1311 : (Cond.code ({ cls := "NoonFieldsModel", name := "fine", desc := "(I)I" } : MethodName) prog_14_method_59_code (3 : Nat) (some FieldType.int)) ∈ WS := ws_in 1376 (by decide +kernel) (by decide +kernel)
theorem k_1312 : (Cond.methodLink "NoonFieldsLaw" (120 : Nat) ({ cls := "NoonFieldsModel", name := "feed", desc := "(III)I" } : MethodName)) ∈ WS := ws_in 1377 (by decide +kernel) (by decide +kernel)
theorem k_1313 : (Cond.instanceMethod ({ cls := "NoonFieldsModel", name := "feed", desc := "(III)I" } : MethodName)) ∈ WS := ws_in 1378 (by decide +kernel) (by decide +kernel)
theorem k_1314 : (Cond.selects "NoonFieldsModel" ({ cls := "NoonFieldsModel", name := "feed", desc := "(III)I" } : MethodName) ({ cls := "NoonFieldsModel", name := "feed", desc := "(III)I" } : MethodName)) ∈ WS := ws_in 1379 (by decide +kernel) (by decide +kernel)
theorem k_1315 : (Cond.code ({ cls := "NoonFieldsModel", name := "feed", desc := "(III)I" } : MethodName) prog_14_method_60_code (6 : Nat) (some FieldType.int)) ∈ WS := ws_in 1380 (by decide +kernel) (by decide +kernel)
theorem k_1316 : (Cond.methodLink "NoonFieldsLaw" (124 : Nat) ({ cls := "NoonFieldsModel", name := "trim", desc := "(I)I" } : MethodName)) ∈ WS := ws_in 1381 (by decide +kernel) (by decide +kernel)
theorem k_1317 : (Cond.instanceMethod ({ cls := "NoonFieldsModel", name := "trim", desc := "(I)I" } : MethodName)) ∈ WS := ws_in 1382 (by decide +kernel) (by decide +kernel)
theorem k_1318 : (Cond.selects "NoonFieldsModel" ({ cls := "NoonFieldsModel", name := "trim", desc := "(I)I" } : MethodName) ({ cls := "NoonFieldsModel", name := "trim", desc := "(I)I" } : MethodName)) ∈ WS := ws_in 1383 (by decide +kernel) (by decide +kernel)
theorem k_1319 : (Cond.code ({ cls := "NoonFieldsModel", name := "trim", desc := "(I)I" } : MethodName) prog_14_method_61_code (2 : Nat) (some FieldType.int)) ∈ WS := ws_in 1384 (by decide +kernel) (by decide +kernel)
theorem k_1320 : (Cond.methodLink "NoonFieldsLaw" (128 : Nat) ({ cls := "NoonFieldsModel", name := "text", desc := "()I" } : MethodName)) ∈ WS := ws_in 1385 (by decide +kernel) (by decide +kernel)
theorem k_1321 : (Cond.instanceMethod ({ cls := "NoonFieldsModel", name := "text", desc := "()I" } : MethodName)) ∈ WS := ws_in 1386 (by decide +kernel) (by decide +kernel)
theorem k_1322 : (Cond.selects "NoonFieldsModel" ({ cls := "NoonFieldsModel", name := "text", desc := "()I" } : MethodName) ({ cls := "NoonFieldsModel", name := "text", desc := "()I" } : MethodName)) ∈ WS := ws_in 1387 (by decide +kernel) (by decide +kernel)
theorem k_1323 : (Cond.code ({ cls := "NoonFieldsModel", name := "text", desc := "()I" } : MethodName) prog_14_method_77_code (3 : Nat) (some FieldType.int)) ∈ WS := ws_in 1388 (by decide +kernel) (by decide +kernel)
theorem k_1324 : (Cond.methodLink "NoonFieldsModel" (301 : Nat) ({ cls := "NoonFieldsModel", name := "parse", desc := "()I" } : MethodName)) ∈ WS := ws_in 1389 (by decide +kernel) (by decide +kernel)
theorem k_1326 : (Cond.instanceMethod ({ cls := "NoonFieldsModel", name := "parse", desc := "()I" } : MethodName)) ∈ WS := ws_in 1391 (by decide +kernel) (by decide +kernel)
theorem k_1327 : (Cond.code ({ cls := "NoonFieldsModel", name := "parse", desc := "()I" } : MethodName) prog_14_method_76_code (3 : Nat) (some FieldType.int)) ∈ WS := ws_in 1392 (by decide +kernel) (by decide +kernel)
theorem k_1328 : (Cond.methodLink "NoonFieldsModel" (261 : Nat) ({ cls := "NoonFieldsModel", name := "nextToken", desc := "()V" } : MethodName)) ∈ WS := ws_in 1393 (by decide +kernel) (by decide +kernel)
theorem k_1330 : (Cond.instanceMethod ({ cls := "NoonFieldsModel", name := "nextToken", desc := "()V" } : MethodName)) ∈ WS := ws_in 1395 (by decide +kernel) (by decide +kernel)
theorem k_1331 : (Cond.code ({ cls := "NoonFieldsModel", name := "nextToken", desc := "()V" } : MethodName) prog_14_method_64_code (3 : Nat) (none : Option FieldType)) ∈ WS := ws_in 1396 (by decide +kernel) (by decide +kernel)
theorem k_1332 : (Cond.methodLink "NoonFieldsModel" (233 : Nat) ({ cls := "NoonFieldsModel", name := "isLetter", desc := "(I)Z" } : MethodName)) ∈ WS := ws_in 1397 (by decide +kernel) (by decide +kernel)
theorem k_1334 : (Cond.instanceMethod ({ cls := "NoonFieldsModel", name := "isLetter", desc := "(I)Z" } : MethodName)) ∈ WS := ws_in 1399 (by decide +kernel) (by decide +kernel)
theorem k_1335 : (Cond.code ({ cls := "NoonFieldsModel", name := "isLetter", desc := "(I)Z" } : MethodName) prog_14_method_62_code (2 : Nat) (some FieldType.boolean)) ∈ WS := ws_in 1400 (by decide +kernel) (by decide +kernel)
theorem k_1336 : (Cond.constantLong "NoonFieldsModel" (216 : Nat) (97 : Int64)) ∈ WS := ws_in 1401 (by decide +kernel) (by decide +kernel)
theorem k_1337 : (Cond.constantLong "NoonFieldsModel" (218 : Nat) (122 : Int64)) ∈ WS := ws_in 1402 (by decide +kernel) (by decide +kernel)
theorem k_1338 : (Cond.methodLink "NoonFieldsModel" (239 : Nat) ({ cls := "NoonFieldsModel", name := "isDigit", desc := "(I)Z" } : MethodName)) ∈ WS := ws_in 1403 (by decide +kernel) (by decide +kernel)
theorem k_1340 : (Cond.instanceMethod ({ cls := "NoonFieldsModel", name := "isDigit", desc := "(I)Z" } : MethodName)) ∈ WS := ws_in 1405 (by decide +kernel) (by decide +kernel)
theorem k_1341 : (Cond.code ({ cls := "NoonFieldsModel", name := "isDigit", desc := "(I)Z" } : MethodName) prog_14_method_63_code (2 : Nat) (some FieldType.boolean)) ∈ WS := ws_in 1406 (by decide +kernel) (by decide +kernel)
theorem k_1342 : (Cond.constantLong "NoonFieldsModel" (220 : Nat) (48 : Int64)) ∈ WS := ws_in 1407 (by decide +kernel) (by decide +kernel)
theorem k_1343 : (Cond.constantLong "NoonFieldsModel" (222 : Nat) (57 : Int64)) ∈ WS := ws_in 1408 (by decide +kernel) (by decide +kernel)
theorem k_1344 : (Cond.methodLink "NoonFieldsModel" (298 : Nat) ({ cls := "NoonFieldsModel", name := "key", desc := "()I" } : MethodName)) ∈ WS := ws_in 1409 (by decide +kernel) (by decide +kernel)
theorem k_1346 : (Cond.instanceMethod ({ cls := "NoonFieldsModel", name := "key", desc := "()I" } : MethodName)) ∈ WS := ws_in 1411 (by decide +kernel) (by decide +kernel)
theorem k_1347 : (Cond.code ({ cls := "NoonFieldsModel", name := "key", desc := "()I" } : MethodName) prog_14_method_67_code (1 : Nat) (some FieldType.int)) ∈ WS := ws_in 1412 (by decide +kernel) (by decide +kernel)
theorem k_1348 : (Cond.methodLink "NoonFieldsModel" (245 : Nat) ({ cls := "NoonFieldsModel", name := "isWordAt", desc := "(IIII)Z" } : MethodName)) ∈ WS := ws_in 1413 (by decide +kernel) (by decide +kernel)
theorem k_1350 : (Cond.instanceMethod ({ cls := "NoonFieldsModel", name := "isWordAt", desc := "(IIII)Z" } : MethodName)) ∈ WS := ws_in 1415 (by decide +kernel) (by decide +kernel)
theorem k_1351 : (Cond.code ({ cls := "NoonFieldsModel", name := "isWordAt", desc := "(IIII)Z" } : MethodName) prog_14_method_66_code (6 : Nat) (some FieldType.boolean)) ∈ WS := ws_in 1416 (by decide +kernel) (by decide +kernel)
theorem k_1352 : (Cond.methodLink "NoonFieldsModel" (292 : Nat) ({ cls := "NoonFieldsModel", name := "either", desc := "(I)Z" } : MethodName)) ∈ WS := ws_in 1417 (by decide +kernel) (by decide +kernel)
theorem k_1354 : (Cond.instanceMethod ({ cls := "NoonFieldsModel", name := "either", desc := "(I)Z" } : MethodName)) ∈ WS := ws_in 1419 (by decide +kernel) (by decide +kernel)
theorem k_1355 : (Cond.code ({ cls := "NoonFieldsModel", name := "either", desc := "(I)Z" } : MethodName) prog_14_method_70_code (2 : Nat) (some FieldType.boolean)) ∈ WS := ws_in 1420 (by decide +kernel) (by decide +kernel)
theorem k_1356 : (Cond.methodLink "NoonFieldsModel" (255 : Nat) ({ cls := "NoonFieldsModel", name := "both", desc := "(I)Z" } : MethodName)) ∈ WS := ws_in 1421 (by decide +kernel) (by decide +kernel)
theorem k_1358 : (Cond.instanceMethod ({ cls := "NoonFieldsModel", name := "both", desc := "(I)Z" } : MethodName)) ∈ WS := ws_in 1423 (by decide +kernel) (by decide +kernel)
theorem k_1359 : (Cond.code ({ cls := "NoonFieldsModel", name := "both", desc := "(I)Z" } : MethodName) prog_14_method_71_code (2 : Nat) (some FieldType.boolean)) ∈ WS := ws_in 1424 (by decide +kernel) (by decide +kernel)
theorem k_1360 : (Cond.methodLink "NoonFieldsModel" (268 : Nat) ({ cls := "NoonFieldsModel", name := "test", desc := "(I)Z" } : MethodName)) ∈ WS := ws_in 1425 (by decide +kernel) (by decide +kernel)
theorem k_1362 : (Cond.instanceMethod ({ cls := "NoonFieldsModel", name := "test", desc := "(I)Z" } : MethodName)) ∈ WS := ws_in 1427 (by decide +kernel) (by decide +kernel)
theorem k_1363 : (Cond.code ({ cls := "NoonFieldsModel", name := "test", desc := "(I)Z" } : MethodName) prog_14_method_72_code (3 : Nat) (some FieldType.boolean)) ∈ WS := ws_in 1428 (by decide +kernel) (by decide +kernel)
theorem k_1364 : (Cond.methodLink "NoonFieldsModel" (271 : Nat) ({ cls := "NoonFieldsModel", name := "sum", desc := "(I)Z" } : MethodName)) ∈ WS := ws_in 1429 (by decide +kernel) (by decide +kernel)
theorem k_1366 : (Cond.instanceMethod ({ cls := "NoonFieldsModel", name := "sum", desc := "(I)Z" } : MethodName)) ∈ WS := ws_in 1431 (by decide +kernel) (by decide +kernel)
theorem k_1367 : (Cond.code ({ cls := "NoonFieldsModel", name := "sum", desc := "(I)Z" } : MethodName) prog_14_method_73_code (3 : Nat) (some FieldType.boolean)) ∈ WS := ws_in 1432 (by decide +kernel) (by decide +kernel)
theorem k_1368 : (Cond.methodLink "NoonFieldsModel" (274 : Nat) ({ cls := "NoonFieldsModel", name := "term", desc := "(I)Z" } : MethodName)) ∈ WS := ws_in 1433 (by decide +kernel) (by decide +kernel)
theorem k_1370 : (Cond.instanceMethod ({ cls := "NoonFieldsModel", name := "term", desc := "(I)Z" } : MethodName)) ∈ WS := ws_in 1435 (by decide +kernel) (by decide +kernel)
theorem k_1371 : (Cond.code ({ cls := "NoonFieldsModel", name := "term", desc := "(I)Z" } : MethodName) prog_14_method_74_code (3 : Nat) (some FieldType.boolean)) ∈ WS := ws_in 1436 (by decide +kernel) (by decide +kernel)
theorem k_1372 : (Cond.methodLink "NoonFieldsModel" (277 : Nat) ({ cls := "NoonFieldsModel", name := "part0", desc := "(I)Z" } : MethodName)) ∈ WS := ws_in 1437 (by decide +kernel) (by decide +kernel)
theorem k_1374 : (Cond.instanceMethod ({ cls := "NoonFieldsModel", name := "part0", desc := "(I)Z" } : MethodName)) ∈ WS := ws_in 1439 (by decide +kernel) (by decide +kernel)
theorem k_1375 : (Cond.code ({ cls := "NoonFieldsModel", name := "part0", desc := "(I)Z" } : MethodName) prog_14_method_75_code (2 : Nat) (some FieldType.boolean)) ∈ WS := ws_in 1440 (by decide +kernel) (by decide +kernel)
theorem k_1376 : (Cond.methodLink "NoonFieldsModel" (264 : Nat) ({ cls := "NoonFieldsModel", name := "step", desc := "(II)V" } : MethodName)) ∈ WS := ws_in 1441 (by decide +kernel) (by decide +kernel)
theorem k_1378 : (Cond.instanceMethod ({ cls := "NoonFieldsModel", name := "step", desc := "(II)V" } : MethodName)) ∈ WS := ws_in 1443 (by decide +kernel) (by decide +kernel)
theorem k_1379 : (Cond.code ({ cls := "NoonFieldsModel", name := "step", desc := "(II)V" } : MethodName) prog_14_method_69_code (3 : Nat) (none : Option FieldType)) ∈ WS := ws_in 1444 (by decide +kernel) (by decide +kernel)
theorem k_1380 : (Cond.methodLink "NoonFieldsModel" (283 : Nat) ({ cls := "NoonFieldsModel", name := "isName", desc := "(II)Z" } : MethodName)) ∈ WS := ws_in 1445 (by decide +kernel) (by decide +kernel)
theorem k_1381 : (Cond.static ({ cls := "NoonFieldsModel", name := "isName", desc := "(II)Z" } : MethodName)) ∈ WS := ws_in 1446 (by decide +kernel) (by decide +kernel)
theorem k_1382 : (Cond.code ({ cls := "NoonFieldsModel", name := "isName", desc := "(II)Z" } : MethodName) prog_14_method_68_code (2 : Nat) (some FieldType.boolean)) ∈ WS := ws_in 1447 (by decide +kernel) (by decide +kernel)
theorem k_1383 : (Cond.methodLink "NoonFieldsModel" (258 : Nat) ({ cls := "NoonFieldsModel", name := "isSign", desc := "(I)Z" } : MethodName)) ∈ WS := ws_in 1448 (by decide +kernel) (by decide +kernel)
theorem k_1385 : (Cond.instanceMethod ({ cls := "NoonFieldsModel", name := "isSign", desc := "(I)Z" } : MethodName)) ∈ WS := ws_in 1450 (by decide +kernel) (by decide +kernel)
theorem k_1386 : (Cond.code ({ cls := "NoonFieldsModel", name := "isSign", desc := "(I)Z" } : MethodName) prog_14_method_65_code (2 : Nat) (some FieldType.boolean)) ∈ WS := ws_in 1451 (by decide +kernel) (by decide +kernel)
theorem k_1387 : (Cond.methodLink "NoonFieldsLaw" (132 : Nat) ({ cls := "NoonFieldsModel", name := "textTold", desc := "(II)I" } : MethodName)) ∈ WS := ws_in 1452 (by decide +kernel) (by decide +kernel)
theorem k_1388 : (Cond.instanceMethod ({ cls := "NoonFieldsModel", name := "textTold", desc := "(II)I" } : MethodName)) ∈ WS := ws_in 1453 (by decide +kernel) (by decide +kernel)
theorem k_1389 : (Cond.selects "NoonFieldsModel" ({ cls := "NoonFieldsModel", name := "textTold", desc := "(II)I" } : MethodName) ({ cls := "NoonFieldsModel", name := "textTold", desc := "(II)I" } : MethodName)) ∈ WS := ws_in 1454 (by decide +kernel) (by decide +kernel)
theorem k_1390 : (Cond.code ({ cls := "NoonFieldsModel", name := "textTold", desc := "(II)I" } : MethodName) prog_14_method_78_code (3 : Nat) (some FieldType.int)) ∈ WS := ws_in 1455 (by decide +kernel) (by decide +kernel)
theorem k_1391 : (Cond.methodLink "NoonFieldsModel" (304 : Nat) ({ cls := "NoonFieldsModel", name := "isText", desc := "(I)Z" } : MethodName)) ∈ WS := ws_in 1456 (by decide +kernel) (by decide +kernel)
theorem k_1393 : (Cond.instanceMethod ({ cls := "NoonFieldsModel", name := "isText", desc := "(I)Z" } : MethodName)) ∈ WS := ws_in 1458 (by decide +kernel) (by decide +kernel)
theorem k_1394 : (Cond.code ({ cls := "NoonFieldsModel", name := "isText", desc := "(I)Z" } : MethodName) prog_14_method_15_code (2 : Nat) (some FieldType.boolean)) ∈ WS := ws_in 1459 (by decide +kernel) (by decide +kernel)
theorem k_1395 : (Cond.methodLink "NoonFieldsLaw" (136 : Nat) ({ cls := "NoonFieldsModel", name := "why", desc := "(I)I" } : MethodName)) ∈ WS := ws_in 1460 (by decide +kernel) (by decide +kernel)
theorem k_1396 : (Cond.instanceMethod ({ cls := "NoonFieldsModel", name := "why", desc := "(I)I" } : MethodName)) ∈ WS := ws_in 1461 (by decide +kernel) (by decide +kernel)
theorem k_1397 : (Cond.selects "NoonFieldsModel" ({ cls := "NoonFieldsModel", name := "why", desc := "(I)I" } : MethodName) ({ cls := "NoonFieldsModel", name := "why", desc := "(I)I" } : MethodName)) ∈ WS := ws_in 1462 (by decide +kernel) (by decide +kernel)
theorem k_1398 : (Cond.code ({ cls := "NoonFieldsModel", name := "why", desc := "(I)I" } : MethodName) prog_14_method_80_code (2 : Nat) (some FieldType.int)) ∈ WS := ws_in 1463 (by decide +kernel) (by decide +kernel)
theorem k_1399 : (Cond.methodLink "NoonFieldsLaw" (140 : Nat) ({ cls := "NoonFieldsModel", name := "sheet", desc := "(III)I" } : MethodName)) ∈ WS := ws_in 1464 (by decide +kernel) (by decide +kernel)
theorem k_1400 : (Cond.instanceMethod ({ cls := "NoonFieldsModel", name := "sheet", desc := "(III)I" } : MethodName)) ∈ WS := ws_in 1465 (by decide +kernel) (by decide +kernel)
theorem k_1401 : (Cond.selects "NoonFieldsModel" ({ cls := "NoonFieldsModel", name := "sheet", desc := "(III)I" } : MethodName) ({ cls := "NoonFieldsModel", name := "sheet", desc := "(III)I" } : MethodName)) ∈ WS := ws_in 1466 (by decide +kernel) (by decide +kernel)
theorem k_1402 : (Cond.code ({ cls := "NoonFieldsModel", name := "sheet", desc := "(III)I" } : MethodName) prog_14_method_84_code (5 : Nat) (some FieldType.int)) ∈ WS := ws_in 1467 (by decide +kernel) (by decide +kernel)
theorem k_1403 : (Cond.methodLink "NoonFieldsModel" (311 : Nat) ({ cls := "NoonFieldsModel", name := "isSheet", desc := "(I)Z" } : MethodName)) ∈ WS := ws_in 1468 (by decide +kernel) (by decide +kernel)
theorem k_1404 : (Cond.static ({ cls := "NoonFieldsModel", name := "isSheet", desc := "(I)Z" } : MethodName)) ∈ WS := ws_in 1469 (by decide +kernel) (by decide +kernel)
theorem k_1405 : (Cond.code ({ cls := "NoonFieldsModel", name := "isSheet", desc := "(I)Z" } : MethodName) prog_14_method_83_code (1 : Nat) (some FieldType.boolean)) ∈ WS := ws_in 1470 (by decide +kernel) (by decide +kernel)
theorem k_1406 : (Cond.constantLong "NoonFieldsModel" (314 : Nat) (-1 : Int64)) ∈ WS := ws_in 1471 (by decide +kernel) (by decide +kernel)
theorem k_1407 : (Cond.constant "NoonFieldsModel" (316 : Nat) (-1000000014 : Int32)) ∈ WS := ws_in 1472 (by decide +kernel) (by decide +kernel)
theorem k_1408 : (Cond.methodLink "NoonFieldsLaw" (144 : Nat) ({ cls := "NoonFieldsModel", name := "mark", desc := "(III)I" } : MethodName)) ∈ WS := ws_in 1473 (by decide +kernel) (by decide +kernel)
theorem k_1409 : (Cond.instanceMethod ({ cls := "NoonFieldsModel", name := "mark", desc := "(III)I" } : MethodName)) ∈ WS := ws_in 1474 (by decide +kernel) (by decide +kernel)
theorem k_1410 : (Cond.selects "NoonFieldsModel" ({ cls := "NoonFieldsModel", name := "mark", desc := "(III)I" } : MethodName) ({ cls := "NoonFieldsModel", name := "mark", desc := "(III)I" } : MethodName)) ∈ WS := ws_in 1475 (by decide +kernel) (by decide +kernel)
theorem k_1411 : (Cond.code ({ cls := "NoonFieldsModel", name := "mark", desc := "(III)I" } : MethodName) prog_14_method_85_code (4 : Nat) (some FieldType.int)) ∈ WS := ws_in 1476 (by decide +kernel) (by decide +kernel)
theorem k_1412 : (Cond.constant "NoonFieldsModel" (317 : Nat) (-1000000011 : Int32)) ∈ WS := ws_in 1477 (by decide +kernel) (by decide +kernel)
theorem k_1413 : (Cond.constant "NoonFieldsModel" (318 : Nat) (-1000000013 : Int32)) ∈ WS := ws_in 1478 (by decide +kernel) (by decide +kernel)
theorem k_1414 : (Cond.constantLong "NoonFieldsModel" (319 : Nat) (-99999 : Int64)) ∈ WS := ws_in 1479 (by decide +kernel) (by decide +kernel)
theorem k_1415 : (Cond.constantLong "NoonFieldsModel" (321 : Nat) (99999 : Int64)) ∈ WS := ws_in 1480 (by decide +kernel) (by decide +kernel)
theorem k_1416 : (Cond.methodLink "NoonFieldsLaw" (148 : Nat) ({ cls := "NoonFieldsModel", name := "pour", desc := "(I)I" } : MethodName)) ∈ WS := ws_in 1481 (by decide +kernel) (by decide +kernel)
theorem k_1417 : (Cond.instanceMethod ({ cls := "NoonFieldsModel", name := "pour", desc := "(I)I" } : MethodName)) ∈ WS := ws_in 1482 (by decide +kernel) (by decide +kernel)
theorem k_1418 : (Cond.selects "NoonFieldsModel" ({ cls := "NoonFieldsModel", name := "pour", desc := "(I)I" } : MethodName) ({ cls := "NoonFieldsModel", name := "pour", desc := "(I)I" } : MethodName)) ∈ WS := ws_in 1483 (by decide +kernel) (by decide +kernel)
theorem k_1419 : (Cond.code ({ cls := "NoonFieldsModel", name := "pour", desc := "(I)I" } : MethodName) prog_14_method_86_code (6 : Nat) (some FieldType.int)) ∈ WS := ws_in 1484 (by decide +kernel) (by decide +kernel)
theorem k_1420 : (Cond.methodLink "NoonFieldsLaw" (152 : Nat) ({ cls := "NoonFieldsModel", name := "reads", desc := "(I)I" } : MethodName)) ∈ WS := ws_in 1485 (by decide +kernel) (by decide +kernel)
theorem k_1421 : (Cond.instanceMethod ({ cls := "NoonFieldsModel", name := "reads", desc := "(I)I" } : MethodName)) ∈ WS := ws_in 1486 (by decide +kernel) (by decide +kernel)
theorem k_1422 : (Cond.selects "NoonFieldsModel" ({ cls := "NoonFieldsModel", name := "reads", desc := "(I)I" } : MethodName) ({ cls := "NoonFieldsModel", name := "reads", desc := "(I)I" } : MethodName)) ∈ WS := ws_in 1487 (by decide +kernel) (by decide +kernel)
theorem k_1423 : (Cond.code ({ cls := "NoonFieldsModel", name := "reads", desc := "(I)I" } : MethodName) prog_14_method_87_code (4 : Nat) (some FieldType.int)) ∈ WS := ws_in 1488 (by decide +kernel) (by decide +kernel)
theorem k_1424 : (Cond.methodLink "NoonFieldsLaw" (107 : Nat) ({ cls := "NoonFieldsModel", name := "atHome", desc := "(III)I" } : MethodName)) ∈ WS := ws_in 1489 (by decide +kernel) (by decide +kernel)
theorem k_1425 : (Cond.instanceMethod ({ cls := "NoonFieldsModel", name := "atHome", desc := "(III)I" } : MethodName)) ∈ WS := ws_in 1490 (by decide +kernel) (by decide +kernel)
theorem k_1426 : (Cond.selects "NoonFieldsModel" ({ cls := "NoonFieldsModel", name := "atHome", desc := "(III)I" } : MethodName) ({ cls := "NoonFieldsModel", name := "atHome", desc := "(III)I" } : MethodName)) ∈ WS := ws_in 1491 (by decide +kernel) (by decide +kernel)
theorem k_1427 : (Cond.code ({ cls := "NoonFieldsModel", name := "atHome", desc := "(III)I" } : MethodName) prog_14_method_88_code (10 : Nat) (some FieldType.int)) ∈ WS := ws_in 1492 (by decide +kernel) (by decide +kernel)
theorem k_1428 : (Cond.methodLink "NoonFieldsLaw" (157 : Nat) ({ cls := "NoonFieldsModel", name := "copy", desc := "(IIIII)I" } : MethodName)) ∈ WS := ws_in 1493 (by decide +kernel) (by decide +kernel)
theorem k_1429 : (Cond.instanceMethod ({ cls := "NoonFieldsModel", name := "copy", desc := "(IIIII)I" } : MethodName)) ∈ WS := ws_in 1494 (by decide +kernel) (by decide +kernel)
theorem k_1430 : (Cond.selects "NoonFieldsModel" ({ cls := "NoonFieldsModel", name := "copy", desc := "(IIIII)I" } : MethodName) ({ cls := "NoonFieldsModel", name := "copy", desc := "(IIIII)I" } : MethodName)) ∈ WS := ws_in 1495 (by decide +kernel) (by decide +kernel)
theorem k_1431 : (Cond.code ({ cls := "NoonFieldsModel", name := "copy", desc := "(IIIII)I" } : MethodName) prog_14_method_89_code (7 : Nat) (some FieldType.int)) ∈ WS := ws_in 1496 (by decide +kernel) (by decide +kernel)
theorem k_1432 : (Cond.methodLink "NoonFieldsLaw" (161 : Nat) ({ cls := "NoonFieldsModel", name := "lay", desc := "(III)I" } : MethodName)) ∈ WS := ws_in 1497 (by decide +kernel) (by decide +kernel)
theorem k_1433 : (Cond.instanceMethod ({ cls := "NoonFieldsModel", name := "lay", desc := "(III)I" } : MethodName)) ∈ WS := ws_in 1498 (by decide +kernel) (by decide +kernel)
theorem k_1434 : (Cond.selects "NoonFieldsModel" ({ cls := "NoonFieldsModel", name := "lay", desc := "(III)I" } : MethodName) ({ cls := "NoonFieldsModel", name := "lay", desc := "(III)I" } : MethodName)) ∈ WS := ws_in 1499 (by decide +kernel) (by decide +kernel)
theorem k_1435 : (Cond.code ({ cls := "NoonFieldsModel", name := "lay", desc := "(III)I" } : MethodName) prog_14_method_91_code (7 : Nat) (some FieldType.int)) ∈ WS := ws_in 1500 (by decide +kernel) (by decide +kernel)
theorem k_1436 : (Cond.methodLink "NoonFieldsModel" (323 : Nat) ({ cls := "NoonFieldsModel", name := "isSlot", desc := "(I)Z" } : MethodName)) ∈ WS := ws_in 1501 (by decide +kernel) (by decide +kernel)
theorem k_1437 : (Cond.static ({ cls := "NoonFieldsModel", name := "isSlot", desc := "(I)Z" } : MethodName)) ∈ WS := ws_in 1502 (by decide +kernel) (by decide +kernel)
theorem k_1438 : (Cond.code ({ cls := "NoonFieldsModel", name := "isSlot", desc := "(I)Z" } : MethodName) prog_14_method_90_code (1 : Nat) (some FieldType.boolean)) ∈ WS := ws_in 1503 (by decide +kernel) (by decide +kernel)
theorem k_1439 : (Cond.methodLink "NoonFieldsLaw" (165 : Nat) ({ cls := "NoonFieldsModel", name := "ask", desc := "(II)I" } : MethodName)) ∈ WS := ws_in 1504 (by decide +kernel) (by decide +kernel)
theorem k_1440 : (Cond.instanceMethod ({ cls := "NoonFieldsModel", name := "ask", desc := "(II)I" } : MethodName)) ∈ WS := ws_in 1505 (by decide +kernel) (by decide +kernel)
theorem k_1441 : (Cond.selects "NoonFieldsModel" ({ cls := "NoonFieldsModel", name := "ask", desc := "(II)I" } : MethodName) ({ cls := "NoonFieldsModel", name := "ask", desc := "(II)I" } : MethodName)) ∈ WS := ws_in 1506 (by decide +kernel) (by decide +kernel)
theorem k_1442 : (Cond.code ({ cls := "NoonFieldsModel", name := "ask", desc := "(II)I" } : MethodName) prog_14_method_92_code (3 : Nat) (some FieldType.int)) ∈ WS := ws_in 1507 (by decide +kernel) (by decide +kernel)
theorem k_1443 : (Cond.methodLink "NoonFieldsLaw" (169 : Nat) ({ cls := "NoonFieldsModel", name := "item", desc := "(II)I" } : MethodName)) ∈ WS := ws_in 1508 (by decide +kernel) (by decide +kernel)
theorem k_1444 : (Cond.instanceMethod ({ cls := "NoonFieldsModel", name := "item", desc := "(II)I" } : MethodName)) ∈ WS := ws_in 1509 (by decide +kernel) (by decide +kernel)
theorem k_1445 : (Cond.selects "NoonFieldsModel" ({ cls := "NoonFieldsModel", name := "item", desc := "(II)I" } : MethodName) ({ cls := "NoonFieldsModel", name := "item", desc := "(II)I" } : MethodName)) ∈ WS := ws_in 1510 (by decide +kernel) (by decide +kernel)
theorem k_1446 : (Cond.code ({ cls := "NoonFieldsModel", name := "item", desc := "(II)I" } : MethodName) prog_14_method_93_code (4 : Nat) (some FieldType.int)) ∈ WS := ws_in 1511 (by decide +kernel) (by decide +kernel)
theorem k_1447 : (Cond.methodLink "NoonFieldsLaw" (173 : Nat) ({ cls := "NoonFieldsModel", name := "rest", desc := "(II)I" } : MethodName)) ∈ WS := ws_in 1512 (by decide +kernel) (by decide +kernel)
theorem k_1448 : (Cond.instanceMethod ({ cls := "NoonFieldsModel", name := "rest", desc := "(II)I" } : MethodName)) ∈ WS := ws_in 1513 (by decide +kernel) (by decide +kernel)
theorem k_1449 : (Cond.selects "NoonFieldsModel" ({ cls := "NoonFieldsModel", name := "rest", desc := "(II)I" } : MethodName) ({ cls := "NoonFieldsModel", name := "rest", desc := "(II)I" } : MethodName)) ∈ WS := ws_in 1514 (by decide +kernel) (by decide +kernel)
theorem k_1450 : (Cond.code ({ cls := "NoonFieldsModel", name := "rest", desc := "(II)I" } : MethodName) prog_14_method_94_code (3 : Nat) (some FieldType.int)) ∈ WS := ws_in 1515 (by decide +kernel) (by decide +kernel)
theorem k_1451 : (Cond.constant "NoonFieldsModel" (326 : Nat) (-1000000002 : Int32)) ∈ WS := ws_in 1516 (by decide +kernel) (by decide +kernel)
theorem k_1452 : (Cond.methodLink "NoonFieldsLaw" (177 : Nat) ({ cls := "NoonFieldsModel", name := "tell", desc := "(I)I" } : MethodName)) ∈ WS := ws_in 1517 (by decide +kernel) (by decide +kernel)
theorem k_1453 : (Cond.instanceMethod ({ cls := "NoonFieldsModel", name := "tell", desc := "(I)I" } : MethodName)) ∈ WS := ws_in 1518 (by decide +kernel) (by decide +kernel)
theorem k_1454 : (Cond.selects "NoonFieldsModel" ({ cls := "NoonFieldsModel", name := "tell", desc := "(I)I" } : MethodName) ({ cls := "NoonFieldsModel", name := "tell", desc := "(I)I" } : MethodName)) ∈ WS := ws_in 1519 (by decide +kernel) (by decide +kernel)
theorem k_1455 : (Cond.code ({ cls := "NoonFieldsModel", name := "tell", desc := "(I)I" } : MethodName) prog_14_method_95_code (2 : Nat) (some FieldType.int)) ∈ WS := ws_in 1520 (by decide +kernel) (by decide +kernel)
theorem k_1456 : (Cond.methodLink "NoonFieldsLaw" (181 : Nat) ({ cls := "NoonFieldsModel", name := "check", desc := "(I)I" } : MethodName)) ∈ WS := ws_in 1521 (by decide +kernel) (by decide +kernel)
theorem k_1457 : (Cond.instanceMethod ({ cls := "NoonFieldsModel", name := "check", desc := "(I)I" } : MethodName)) ∈ WS := ws_in 1522 (by decide +kernel) (by decide +kernel)
theorem k_1458 : (Cond.selects "NoonFieldsModel" ({ cls := "NoonFieldsModel", name := "check", desc := "(I)I" } : MethodName) ({ cls := "NoonFieldsModel", name := "check", desc := "(I)I" } : MethodName)) ∈ WS := ws_in 1523 (by decide +kernel) (by decide +kernel)
theorem k_1459 : (Cond.code ({ cls := "NoonFieldsModel", name := "check", desc := "(I)I" } : MethodName) prog_14_method_97_code (5 : Nat) (some FieldType.int)) ∈ WS := ws_in 1524 (by decide +kernel) (by decide +kernel)
theorem k_1460 : (Cond.constantLong "NoonFieldsModel" (330 : Nat) (30 : Int64)) ∈ WS := ws_in 1525 (by decide +kernel) (by decide +kernel)
theorem k_1461 : (Cond.methodLink "NoonFieldsModel" (336 : Nat) ({ cls := "NoonFieldsModel", name := "setAside", desc := "([I[I)V" } : MethodName)) ∈ WS := ws_in 1526 (by decide +kernel) (by decide +kernel)
theorem k_1463 : (Cond.instanceMethod ({ cls := "NoonFieldsModel", name := "setAside", desc := "([I[I)V" } : MethodName)) ∈ WS := ws_in 1528 (by decide +kernel) (by decide +kernel)
theorem k_1464 : (Cond.code ({ cls := "NoonFieldsModel", name := "setAside", desc := "([I[I)V" } : MethodName) prog_14_method_96_code (4 : Nat) (none : Option FieldType)) ∈ WS := ws_in 1529 (by decide +kernel) (by decide +kernel)
theorem k_1465 : (Cond.methodLink "NoonFieldsLaw" (185 : Nat) ({ cls := "NoonFieldsModel", name := "keep", desc := "()I" } : MethodName)) ∈ WS := ws_in 1530 (by decide +kernel) (by decide +kernel)
theorem k_1466 : (Cond.instanceMethod ({ cls := "NoonFieldsModel", name := "keep", desc := "()I" } : MethodName)) ∈ WS := ws_in 1531 (by decide +kernel) (by decide +kernel)
theorem k_1467 : (Cond.selects "NoonFieldsModel" ({ cls := "NoonFieldsModel", name := "keep", desc := "()I" } : MethodName) ({ cls := "NoonFieldsModel", name := "keep", desc := "()I" } : MethodName)) ∈ WS := ws_in 1532 (by decide +kernel) (by decide +kernel)
theorem k_1468 : (Cond.code ({ cls := "NoonFieldsModel", name := "keep", desc := "()I" } : MethodName) prog_14_method_98_code (1 : Nat) (some FieldType.int)) ∈ WS := ws_in 1533 (by decide +kernel) (by decide +kernel)
theorem k_1469 : (Cond.methodLink "NoonFieldsLaw" (189 : Nat) ({ cls := "NoonFieldsModel", name := "back", desc := "()I" } : MethodName)) ∈ WS := ws_in 1534 (by decide +kernel) (by decide +kernel)
theorem k_1470 : (Cond.instanceMethod ({ cls := "NoonFieldsModel", name := "back", desc := "()I" } : MethodName)) ∈ WS := ws_in 1535 (by decide +kernel) (by decide +kernel)
theorem k_1471 : (Cond.selects "NoonFieldsModel" ({ cls := "NoonFieldsModel", name := "back", desc := "()I" } : MethodName) ({ cls := "NoonFieldsModel", name := "back", desc := "()I" } : MethodName)) ∈ WS := ws_in 1536 (by decide +kernel) (by decide +kernel)
theorem k_1472 : (Cond.code ({ cls := "NoonFieldsModel", name := "back", desc := "()I" } : MethodName) prog_14_method_99_code (1 : Nat) (some FieldType.int)) ∈ WS := ws_in 1537 (by decide +kernel) (by decide +kernel)
theorem k_1473 : (Cond.methodLink "NoonFieldsLaw" (193 : Nat) ({ cls := "NoonFieldsModel", name := "count", desc := "(I)I" } : MethodName)) ∈ WS := ws_in 1538 (by decide +kernel) (by decide +kernel)
theorem k_1474 : (Cond.instanceMethod ({ cls := "NoonFieldsModel", name := "count", desc := "(I)I" } : MethodName)) ∈ WS := ws_in 1539 (by decide +kernel) (by decide +kernel)
theorem k_1475 : (Cond.selects "NoonFieldsModel" ({ cls := "NoonFieldsModel", name := "count", desc := "(I)I" } : MethodName) ({ cls := "NoonFieldsModel", name := "count", desc := "(I)I" } : MethodName)) ∈ WS := ws_in 1540 (by decide +kernel) (by decide +kernel)
theorem k_1476 : (Cond.code ({ cls := "NoonFieldsModel", name := "count", desc := "(I)I" } : MethodName) prog_14_method_101_code (2 : Nat) (some FieldType.int)) ∈ WS := ws_in 1541 (by decide +kernel) (by decide +kernel)
theorem k_1477 : (Cond.methodLink "NoonFieldsModel" (340 : Nat) ({ cls := "NoonFieldsModel", name := "talks", desc := "()I" } : MethodName)) ∈ WS := ws_in 1542 (by decide +kernel) (by decide +kernel)
theorem k_1479 : (Cond.instanceMethod ({ cls := "NoonFieldsModel", name := "talks", desc := "()I" } : MethodName)) ∈ WS := ws_in 1544 (by decide +kernel) (by decide +kernel)
theorem k_1480 : (Cond.code ({ cls := "NoonFieldsModel", name := "talks", desc := "()I" } : MethodName) prog_14_method_100_code (3 : Nat) (some FieldType.int)) ∈ WS := ws_in 1545 (by decide +kernel) (by decide +kernel)
theorem fl_N_25 : FL "NoonFields" 25 0 0 := ⟨by decide, by decide, k_260⟩
theorem fl_N_34 : FL "NoonFields" 34 0 1 := ⟨by decide, by decide, k_261⟩
theorem fl_N_43 : FL "NoonFields" 43 0 2 := ⟨by decide, by decide, k_262⟩
theorem fl_N_47 : FL "NoonFields" 47 0 3 := ⟨by decide, by decide, k_263⟩
theorem fl_N_50 : FL "NoonFields" 50 0 4 := ⟨by decide, by decide, k_264⟩
theorem fl_N_56 : FL "NoonFields" 56 0 5 := ⟨by decide, by decide, k_265⟩
theorem fl_N_62 : FL "NoonFields" 62 0 6 := ⟨by decide, by decide, k_266⟩
theorem fl_N_68 : FL "NoonFields" 68 0 7 := ⟨by decide, by decide, k_267⟩
theorem fl_N_72 : FL "NoonFields" 72 0 8 := ⟨by decide, by decide, k_268⟩
theorem fl_N_76 : FL "NoonFields" 76 0 9 := ⟨by decide, by decide, k_269⟩
theorem fl_N_79 : FL "NoonFields" 79 0 10 := ⟨by decide, by decide, k_270⟩
theorem fl_N_82 : FL "NoonFields" 82 0 11 := ⟨by decide, by decide, k_271⟩
theorem fl_N_86 : FL "NoonFields" 86 0 12 := ⟨by decide, by decide, k_272⟩
theorem fl_N_90 : FL "NoonFields" 90 0 13 := ⟨by decide, by decide, k_273⟩
theorem fl_N_93 : FL "NoonFields" 93 0 14 := ⟨by decide, by decide, k_274⟩
theorem fl_N_115 : FL "NoonFields" 115 8 2 := ⟨by decide, by decide, k_110⟩
theorem fl_N_141 : FL "NoonFields" 141 8 4 := ⟨by decide, by decide, k_114⟩
theorem fl_N_144 : FL "NoonFields" 144 8 3 := ⟨by decide, by decide, k_112⟩
theorem fl_N_150 : FL "NoonFields" 150 8 9 := ⟨by decide, by decide, k_124⟩
theorem fl_N_153 : FL "NoonFields" 153 8 7 := ⟨by decide, by decide, k_120⟩
theorem fl_N_165 : FL "NoonFields" 165 8 12 := ⟨by decide, by decide, k_130⟩
theorem fl_N_168 : FL "NoonFields" 168 8 11 := ⟨by decide, by decide, k_128⟩
theorem fl_N_171 : FL "NoonFields" 171 8 8 := ⟨by decide, by decide, k_122⟩
theorem fl_N_178 : FL "NoonFields" 178 8 10 := ⟨by decide, by decide, k_126⟩
theorem fl_N_206 : FL "NoonFields" 206 8 5 := ⟨by decide, by decide, k_116⟩
theorem fl_N_233 : FL "NoonFields" 233 8 6 := ⟨by decide, by decide, k_118⟩
theorem fl_N_240 : FL "NoonFields" 240 9 2 := ⟨by decide, by decide, k_172⟩
theorem fl_N_250 : FL "NoonFields" 250 9 6 := ⟨by decide, by decide, k_181⟩
theorem fl_N_253 : FL "NoonFields" 253 8 13 := ⟨by decide, by decide, k_132⟩
theorem fl_N_260 : FL "NoonFields" 260 9 4 := ⟨by decide, by decide, k_177⟩
theorem fl_N_263 : FL "NoonFields" 263 7 2 := ⟨by decide, by decide, k_84⟩
theorem fl_N_266 : FL "NoonFields" 266 7 3 := ⟨by decide, by decide, k_86⟩
theorem fl_N_277 : FL "NoonFields" 277 10 2 := ⟨by decide, by decide, k_219⟩
theorem fl_N_288 : FL "NoonFields" 288 10 0 := ⟨by decide, by decide, k_216⟩
theorem fl_N_294 : FL "NoonFields" 294 10 3 := ⟨by decide, by decide, k_221⟩
theorem fl_N_304 : FL "NoonFields" 304 11 1 := ⟨by decide, by decide, k_242⟩
theorem fl_N_311 : FL "NoonFields" 311 11 0 := ⟨by decide, by decide, k_240⟩
theorem fl_N_318 : FL "NoonFields" 318 11 4 := ⟨by decide, by decide, k_248⟩
theorem fl_N_321 : FL "NoonFields" 321 11 2 := ⟨by decide, by decide, k_244⟩
theorem fl_N_325 : FL "NoonFields" 325 11 3 := ⟨by decide, by decide, k_246⟩
theorem fl_Lw_11 : FL "NoonFields$Laws" 11 7 0 := ⟨by decide, by decide, k_81⟩
theorem fl_Lw_16 : FL "NoonFields$Laws" 16 7 1 := ⟨by decide, by decide, k_82⟩
theorem fl_Lw_20 : FL "NoonFields$Laws" 20 7 2 := ⟨by decide, by decide, k_83⟩
theorem fl_Lw_23 : FL "NoonFields$Laws" 23 7 3 := ⟨by decide, by decide, k_85⟩
theorem fl_Lw_26 : FL "NoonFields$Laws" 26 7 4 := ⟨by decide, by decide, k_87⟩
theorem fl_Lw_29 : FL "NoonFields$Laws" 29 9 1 := ⟨by decide, by decide, k_170⟩
theorem fl_Lw_40 : FL "NoonFields$Laws" 40 9 3 := ⟨by decide, by decide, k_174⟩
theorem fl_Lw_44 : FL "NoonFields$Laws" 44 9 4 := ⟨by decide, by decide, k_176⟩
theorem fl_Lw_47 : FL "NoonFields$Laws" 47 9 5 := ⟨by decide, by decide, k_179⟩
theorem fl_Sh_9 : FL "NoonFields$Sheet" 9 10 0 := ⟨by decide, by decide, k_215⟩
theorem fl_Sh_15 : FL "NoonFields$Sheet" 15 10 1 := ⟨by decide, by decide, k_217⟩
theorem fl_Sh_19 : FL "NoonFields$Sheet" 19 10 2 := ⟨by decide, by decide, k_218⟩
theorem fl_Sh_23 : FL "NoonFields$Sheet" 23 10 3 := ⟨by decide, by decide, k_220⟩
theorem fl_Sl_10 : FL "NoonFields$Slot" 10 11 0 := ⟨by decide, by decide, k_239⟩
theorem fl_Sl_16 : FL "NoonFields$Slot" 16 11 1 := ⟨by decide, by decide, k_241⟩
theorem fl_Sl_20 : FL "NoonFields$Slot" 20 11 2 := ⟨by decide, by decide, k_243⟩
theorem fl_Sl_24 : FL "NoonFields$Slot" 24 11 3 := ⟨by decide, by decide, k_245⟩
theorem fl_Sl_27 : FL "NoonFields$Slot" 27 11 4 := ⟨by decide, by decide, k_247⟩
theorem fl_Ta_9 : FL "NoonFields$Tape" 9 9 0 := ⟨by decide, by decide, k_168⟩
theorem fl_Ta_15 : FL "NoonFields$Tape" 15 9 1 := ⟨by decide, by decide, k_169⟩
theorem fl_Ta_18 : FL "NoonFields$Tape" 18 9 2 := ⟨by decide, by decide, k_171⟩
theorem fl_Ta_22 : FL "NoonFields$Tape" 22 9 3 := ⟨by decide, by decide, k_173⟩
theorem fl_Ta_25 : FL "NoonFields$Tape" 25 9 4 := ⟨by decide, by decide, k_175⟩
theorem fl_Ta_28 : FL "NoonFields$Tape" 28 9 5 := ⟨by decide, by decide, k_178⟩
theorem fl_Ta_31 : FL "NoonFields$Tape" 31 9 6 := ⟨by decide, by decide, k_180⟩
theorem fl_Ta_34 : FL "NoonFields$Tape" 34 9 7 := ⟨by decide, by decide, k_182⟩
theorem fl_Ta_37 : FL "NoonFields$Tape" 37 9 8 := ⟨by decide, by decide, k_183⟩
theorem fl_Ta_40 : FL "NoonFields$Tape" 40 9 9 := ⟨by decide, by decide, k_184⟩
theorem fl_Wo_11 : FL "NoonFields$World" 11 8 2 := ⟨by decide, by decide, k_109⟩
theorem fl_Wo_16 : FL "NoonFields$World" 16 8 3 := ⟨by decide, by decide, k_111⟩
theorem fl_Wo_19 : FL "NoonFields$World" 19 8 4 := ⟨by decide, by decide, k_113⟩
theorem fl_Wo_23 : FL "NoonFields$World" 23 8 5 := ⟨by decide, by decide, k_115⟩
theorem fl_Wo_26 : FL "NoonFields$World" 26 8 6 := ⟨by decide, by decide, k_117⟩
theorem fl_Wo_29 : FL "NoonFields$World" 29 8 7 := ⟨by decide, by decide, k_119⟩
theorem fl_Wo_33 : FL "NoonFields$World" 33 8 8 := ⟨by decide, by decide, k_121⟩
theorem fl_Wo_36 : FL "NoonFields$World" 36 8 9 := ⟨by decide, by decide, k_123⟩
theorem fl_Wo_39 : FL "NoonFields$World" 39 8 10 := ⟨by decide, by decide, k_125⟩
theorem fl_Wo_42 : FL "NoonFields$World" 42 8 11 := ⟨by decide, by decide, k_127⟩
theorem fl_Wo_45 : FL "NoonFields$World" 45 8 12 := ⟨by decide, by decide, k_129⟩
theorem fl_Wo_48 : FL "NoonFields$World" 48 8 13 := ⟨by decide, by decide, k_131⟩
theorem fl_Wo_51 : FL "NoonFields$World" 51 8 0 := ⟨by decide, by decide, k_107⟩
theorem fl_Wo_55 : FL "NoonFields$World" 55 8 1 := ⟨by decide, by decide, k_108⟩
theorem fl_M_7 : FL "NoonFieldsModel" 7 12 0 := ⟨by decide, by decide, k_964⟩
theorem fl_M_13 : FL "NoonFieldsModel" 13 12 1 := ⟨by decide, by decide, k_965⟩
theorem fl_M_16 : FL "NoonFieldsModel" 16 12 2 := ⟨by decide, by decide, k_966⟩
theorem fl_M_19 : FL "NoonFieldsModel" 19 12 4 := ⟨by decide, by decide, k_968⟩
theorem fl_M_22 : FL "NoonFieldsModel" 22 12 5 := ⟨by decide, by decide, k_969⟩
theorem fl_M_25 : FL "NoonFieldsModel" 25 12 6 := ⟨by decide, by decide, k_970⟩
theorem fl_M_28 : FL "NoonFieldsModel" 28 12 7 := ⟨by decide, by decide, k_971⟩
theorem fl_M_31 : FL "NoonFieldsModel" 31 12 8 := ⟨by decide, by decide, k_972⟩
theorem fl_M_34 : FL "NoonFieldsModel" 34 12 9 := ⟨by decide, by decide, k_973⟩
theorem fl_M_37 : FL "NoonFieldsModel" 37 12 10 := ⟨by decide, by decide, k_974⟩
theorem fl_M_40 : FL "NoonFieldsModel" 40 12 11 := ⟨by decide, by decide, k_975⟩
theorem fl_M_43 : FL "NoonFieldsModel" 43 12 12 := ⟨by decide, by decide, k_976⟩
theorem fl_M_46 : FL "NoonFieldsModel" 46 12 13 := ⟨by decide, by decide, k_977⟩
theorem fl_M_50 : FL "NoonFieldsModel" 50 12 14 := ⟨by decide, by decide, k_978⟩
theorem fl_M_53 : FL "NoonFieldsModel" 53 12 15 := ⟨by decide, by decide, k_979⟩
theorem fl_M_56 : FL "NoonFieldsModel" 56 12 16 := ⟨by decide, by decide, k_980⟩
theorem fl_M_59 : FL "NoonFieldsModel" 59 12 17 := ⟨by decide, by decide, k_981⟩
theorem fl_M_62 : FL "NoonFieldsModel" 62 12 29 := ⟨by decide, by decide, k_993⟩
theorem fl_M_65 : FL "NoonFieldsModel" 65 12 30 := ⟨by decide, by decide, k_994⟩
theorem fl_M_68 : FL "NoonFieldsModel" 68 12 31 := ⟨by decide, by decide, k_995⟩
theorem fl_M_71 : FL "NoonFieldsModel" 71 12 32 := ⟨by decide, by decide, k_996⟩
theorem fl_M_74 : FL "NoonFieldsModel" 74 12 34 := ⟨by decide, by decide, k_998⟩
theorem fl_M_213 : FL "NoonFieldsModel" 213 12 18 := ⟨by decide, by decide, k_982⟩
theorem fl_M_224 : FL "NoonFieldsModel" 224 12 20 := ⟨by decide, by decide, k_984⟩
theorem fl_M_227 : FL "NoonFieldsModel" 227 12 21 := ⟨by decide, by decide, k_985⟩
theorem fl_M_230 : FL "NoonFieldsModel" 230 12 19 := ⟨by decide, by decide, k_983⟩
theorem fl_M_236 : FL "NoonFieldsModel" 236 12 23 := ⟨by decide, by decide, k_987⟩
theorem fl_M_242 : FL "NoonFieldsModel" 242 12 22 := ⟨by decide, by decide, k_986⟩
theorem fl_M_249 : FL "NoonFieldsModel" 249 12 27 := ⟨by decide, by decide, k_991⟩
theorem fl_M_252 : FL "NoonFieldsModel" 252 12 26 := ⟨by decide, by decide, k_990⟩
theorem fl_M_280 : FL "NoonFieldsModel" 280 12 28 := ⟨by decide, by decide, k_992⟩
theorem fl_M_286 : FL "NoonFieldsModel" 286 12 25 := ⟨by decide, by decide, k_989⟩
theorem fl_M_289 : FL "NoonFieldsModel" 289 12 24 := ⟨by decide, by decide, k_988⟩
theorem fl_M_327 : FL "NoonFieldsModel" 327 12 33 := ⟨by decide, by decide, k_997⟩
theorem fl_M_332 : FL "NoonFieldsModel" 332 12 3 := ⟨by decide, by decide, k_967⟩
theorem lk_N_9 : LkI "NoonFields" 9 Nb_init 0 := ⟨⟨k_35, k_2, ⟨by decide +kernel, by decide +kernel⟩, by decide +kernel, k_33, by decide⟩, rfl, rfl, k_34⟩
theorem lk_N_12 : LkI "NoonFields" 12 La_init 0 := ⟨⟨k_42, k_3, ⟨by decide +kernel, by decide +kernel⟩, by decide +kernel, k_40, by decide⟩, rfl, rfl, k_41⟩
theorem lk_N_15 : LkI "NoonFields" 15 Ru_init 0 := ⟨⟨k_49, k_4, ⟨by decide +kernel, by decide +kernel⟩, by decide +kernel, k_47, by decide⟩, rfl, rfl, k_48⟩
theorem lk_N_18 : LkI "NoonFields" 18 Ol_init 0 := ⟨⟨k_56, k_5, ⟨by decide +kernel, by decide +kernel⟩, by decide +kernel, k_54, by decide⟩, rfl, rfl, k_55⟩
theorem lk_N_21 : LkI "NoonFields" 21 Ch_init 0 := ⟨⟨k_63, k_6, ⟨by decide +kernel, by decide +kernel⟩, by decide +kernel, k_61, by decide⟩, rfl, rfl, k_62⟩
theorem lk_N_24 : LkI "NoonFields" 24 He_init 0 := ⟨⟨k_70, k_7, ⟨by decide +kernel, by decide +kernel⟩, by decide +kernel, k_68, by decide⟩, rfl, rfl, k_69⟩
theorem lk_N_33 : LkI "NoonFields" 33 Lw_init 0 := ⟨⟨k_77, k_8, ⟨by decide +kernel, by decide +kernel⟩, by decide +kernel, k_75, by decide⟩, rfl, rfl, k_76⟩
theorem lk_N_40 : LkI "NoonFields" 40 Wo_init 2 := ⟨⟨k_104, k_9, ⟨by decide +kernel, by decide +kernel⟩, by decide +kernel, k_102, by decide⟩, rfl, rfl, k_103⟩
theorem lk_N_55 : LkI "NoonFields" 55 Ta_init 0 := ⟨⟨k_166, k_10, ⟨by decide +kernel, by decide +kernel⟩, by decide +kernel, k_164, by decide⟩, rfl, rfl, k_165⟩
theorem lk_N_96 : LkI "NoonFields" 96 Sh_init 0 := ⟨⟨k_213, k_11, ⟨by decide +kernel, by decide +kernel⟩, by decide +kernel, k_211, by decide⟩, rfl, rfl, k_212⟩
theorem lk_N_97 : LkI "NoonFields" 97 Sl_init 0 := ⟨⟨k_235, k_12, ⟨by decide +kernel, by decide +kernel⟩, by decide +kernel, k_233, by decide⟩, rfl, rfl, k_234⟩
theorem lk_N_98 : LkS "NoonFields" 98 N_isUpTo 2 := ⟨⟨k_312, k_1, ⟨by decide +kernel, by decide +kernel⟩, by decide +kernel, k_310, by decide⟩, k_311⟩
theorem lk_N_103 : LkV "NoonFields" 103 Wo_come 3 := ⟨⟨k_317, k_9, ⟨by decide +kernel, by decide +kernel⟩, by decide +kernel, k_314, by decide⟩, k_315, k_316⟩
theorem lk_N_107 : LkV "NoonFields" 107 Wo_isOne 1 := ⟨⟨k_326, k_9, ⟨by decide +kernel, by decide +kernel⟩, by decide +kernel, k_323, by decide⟩, k_324, k_325⟩
theorem lk_N_111 : LkV "NoonFields" 111 Wo_worthOf 1 := ⟨⟨k_330, k_9, ⟨by decide +kernel, by decide +kernel⟩, by decide +kernel, k_327, by decide⟩, k_328, k_329⟩
theorem lk_N_119 : LkV "NoonFields" 119 Wo_walkOf 2 := ⟨⟨k_364, k_9, ⟨by decide +kernel, by decide +kernel⟩, by decide +kernel, k_361, by decide⟩, k_362, k_363⟩
theorem lk_N_123 : LkV "NoonFields" 123 Wo_mayStand 2 := ⟨⟨k_410, k_9, ⟨by decide +kernel, by decide +kernel⟩, by decide +kernel, k_407, by decide⟩, k_408, k_409⟩
theorem lk_N_126 : LkV "NoonFields" 126 Wo_kindOf 1 := ⟨⟨k_334, k_9, ⟨by decide +kernel, by decide +kernel⟩, by decide +kernel, k_436, by decide⟩, k_332, k_333⟩
theorem lk_N_130 : LkV "NoonFields" 130 Nb_isOf 1 := ⟨⟨k_461, k_2, ⟨by decide +kernel, by decide +kernel⟩, by decide +kernel, k_437, by decide⟩, k_438, k_439⟩
theorem lk_N_134 : LkS "NoonFields" 134 N_exchange 3 := ⟨⟨k_469, k_1, ⟨by decide +kernel, by decide +kernel⟩, by decide +kernel, k_467, by decide⟩, k_468⟩
theorem lk_N_138 : LkV "NoonFields" 138 Wo_isTalk 2 := ⟨⟨k_481, k_9, ⟨by decide +kernel, by decide +kernel⟩, by decide +kernel, k_478, by decide⟩, k_479, k_480⟩
theorem lk_N_147 : LkS "NoonFields" 147 Wo_apart 2 := ⟨⟨k_367, k_9, ⟨by decide +kernel, by decide +kernel⟩, by decide +kernel, k_494, by decide⟩, k_366⟩
theorem lk_N_161 : LkV "NoonFields" 161 Wo_draw 0 := ⟨⟨k_507, k_9, ⟨by decide +kernel, by decide +kernel⟩, by decide +kernel, k_504, by decide⟩, k_505, k_506⟩
theorem lk_N_174 : LkV "NoonFields" 174 Wo_pass 2 := ⟨⟨k_520, k_9, ⟨by decide +kernel, by decide +kernel⟩, by decide +kernel, k_517, by decide⟩, k_518, k_519⟩
theorem lk_N_181 : LkS "NoonFields" 181 Wo_sum 1 := ⟨⟨k_552, k_9, ⟨by decide +kernel, by decide +kernel⟩, by decide +kernel, k_550, by decide⟩, k_551⟩
theorem lk_N_186 : LkV "NoonFields" 186 Wo_become 1 := ⟨⟨k_561, k_9, ⟨by decide +kernel, by decide +kernel⟩, by decide +kernel, k_558, by decide⟩, k_559, k_560⟩
theorem lk_N_190 : LkV "NoonFields" 190 Wo_standNowhere 0 := ⟨⟨k_524, k_9, ⟨by decide +kernel, by decide +kernel⟩, by decide +kernel, k_565, by decide⟩, k_522, k_523⟩
theorem lk_N_193 : LkV "NoonFields" 193 N_measureWalks 0 := ⟨⟨k_569, k_1, ⟨by decide +kernel, by decide +kernel⟩, by decide +kernel, k_566, by decide⟩, k_568, ks_3⟩
theorem lk_N_196 : LkV "NoonFields" 196 N_place 3 := ⟨⟨k_573, k_1, ⟨by decide +kernel, by decide +kernel⟩, by decide +kernel, k_570, by decide⟩, k_572, ks_4⟩
theorem lk_N_200 : LkV "NoonFields" 200 N_placeOnEach 3 := ⟨⟨k_577, k_1, ⟨by decide +kernel, by decide +kernel⟩, by decide +kernel, k_574, by decide⟩, k_576, ks_5⟩
theorem lk_N_203 : LkV "NoonFields" 203 Wo_hasRoom 2 := ⟨⟨k_533, k_9, ⟨by decide +kernel, by decide +kernel⟩, by decide +kernel, k_578, by decide⟩, k_531, k_532⟩
theorem lk_N_209 : LkV "NoonFields" 209 N_think 1 := ⟨⟨k_586, k_1, ⟨by decide +kernel, by decide +kernel⟩, by decide +kernel, k_583, by decide⟩, k_585, ks_6⟩
theorem lk_N_213 : LkV "NoonFields" 213 Wo_allHad 1 := ⟨⟨k_598, k_9, ⟨by decide +kernel, by decide +kernel⟩, by decide +kernel, k_595, by decide⟩, k_596, k_597⟩
theorem lk_N_216 : LkV "NoonFields" 216 N_thinkOwned 3 := ⟨⟨k_612, k_1, ⟨by decide +kernel, by decide +kernel⟩, by decide +kernel, k_609, by decide⟩, k_611, ks_7⟩
theorem lk_N_219 : LkV "NoonFields" 219 N_countPairs 1 := ⟨⟨k_624, k_1, ⟨by decide +kernel, by decide +kernel⟩, by decide +kernel, k_621, by decide⟩, k_623, ks_8⟩
theorem lk_N_222 : LkV "NoonFields" 222 Wo_standTogether 2 := ⟨⟨k_628, k_9, ⟨by decide +kernel, by decide +kernel⟩, by decide +kernel, k_625, by decide⟩, k_626, k_627⟩
theorem lk_N_225 : LkV "NoonFields" 225 Sh_isMissing 0 := ⟨⟨k_636, k_11, ⟨by decide +kernel, by decide +kernel⟩, by decide +kernel, k_633, by decide⟩, k_634, k_635⟩
theorem lk_N_230 : LkV "NoonFields" 230 Sh_differences 1 := ⟨⟨k_641, k_11, ⟨by decide +kernel, by decide +kernel⟩, by decide +kernel, k_638, by decide⟩, k_639, k_640⟩
theorem lk_N_236 : LkV "NoonFields" 236 Lw_gives 4 := ⟨⟨k_374, k_8, ⟨by decide +kernel, by decide +kernel⟩, by decide +kernel, k_655, by decide⟩, k_372, k_373⟩
theorem lk_N_244 : LkV "NoonFields" 244 Ta_append 1 := ⟨⟨k_668, k_10, ⟨by decide +kernel, by decide +kernel⟩, by decide +kernel, k_665, by decide⟩, k_666, k_667⟩
theorem lk_N_247 : LkV "NoonFields" 247 Ta_parse 0 := ⟨⟨k_680, k_10, ⟨by decide +kernel, by decide +kernel⟩, by decide +kernel, k_677, by decide⟩, k_678, k_679⟩
theorem lk_N_256 : LkV "NoonFields" 256 Lw_enact 2 := ⟨⟨k_843, k_8, ⟨by decide +kernel, by decide +kernel⟩, by decide +kernel, k_840, by decide⟩, k_841, k_842⟩
theorem lk_N_269 : LkV "NoonFields" 269 Sh_clear 2 := ⟨⟨k_861, k_11, ⟨by decide +kernel, by decide +kernel⟩, by decide +kernel, k_858, by decide⟩, k_859, k_860⟩
theorem lk_N_273 : LkV "NoonFields" 273 Sh_hasPlace 1 := ⟨⟨k_649, k_11, ⟨by decide +kernel, by decide +kernel⟩, by decide +kernel, k_867, by decide⟩, k_647, k_648⟩
theorem lk_N_282 : LkV "NoonFields" 282 Sh_put 2 := ⟨⟨k_874, k_11, ⟨by decide +kernel, by decide +kernel⟩, by decide +kernel, k_871, by decide⟩, k_872, k_873⟩
theorem lk_N_285 : LkV "NoonFields" 285 Sh_isNumber 1 := ⟨⟨k_645, k_11, ⟨by decide +kernel, by decide +kernel⟩, by decide +kernel, k_880, by decide⟩, k_643, k_644⟩
theorem lk_N_297 : LkV "NoonFields" 297 Sh_hasPlaces 2 := ⟨⟨k_893, k_11, ⟨by decide +kernel, by decide +kernel⟩, by decide +kernel, k_890, by decide⟩, k_891, k_892⟩
theorem lk_N_300 : LkV "NoonFields" 300 Sh_take 4 := ⟨⟨k_897, k_11, ⟨by decide +kernel, by decide +kernel⟩, by decide +kernel, k_894, by decide⟩, k_895, k_896⟩
theorem lk_N_307 : LkV "NoonFields" 307 Sl_holdOne 2 := ⟨⟨k_906, k_12, ⟨by decide +kernel, by decide +kernel⟩, by decide +kernel, k_903, by decide⟩, k_904, k_905⟩
theorem lk_N_315 : LkV "NoonFields" 315 Sh_become 1 := ⟨⟨k_910, k_11, ⟨by decide +kernel, by decide +kernel⟩, by decide +kernel, k_907, by decide⟩, k_908, k_909⟩
theorem lk_N_328 : LkV "NoonFields" 328 Nb_worthFor 1 := ⟨⟨k_356, k_2, ⟨by decide +kernel, by decide +kernel⟩, by decide +kernel, k_916, by decide⟩, k_336, k_337⟩
theorem lk_N_332 : LkV "NoonFields" 332 N_isTold 3 := ⟨⟨k_937, k_1, ⟨by decide +kernel, by decide +kernel⟩, by decide +kernel, k_934, by decide⟩, k_936, ks_20⟩
theorem lk_N_336 : LkV "NoonFields" 336 Wo_talks 0 := ⟨⟨k_953, k_9, ⟨by decide +kernel, by decide +kernel⟩, by decide +kernel, k_950, by decide⟩, k_951, k_952⟩
theorem lk_Ch_3 : LkI "NoonFields$Child" 3 Ru_init 0 := ⟨⟨k_49, k_4, ⟨by decide +kernel, by decide +kernel⟩, by decide +kernel, k_64, by decide⟩, rfl, rfl, k_48⟩
theorem lk_He_3 : LkI "NoonFields$Hermit" 3 Nb_init 0 := ⟨⟨k_35, k_2, ⟨by decide +kernel, by decide +kernel⟩, by decide +kernel, k_71, by decide⟩, rfl, rfl, k_34⟩
theorem lk_He_9 : LkV "NoonFields$Hermit" 9 Nb_isOf 1 := ⟨⟨k_461, k_2, ⟨by decide +kernel, by decide +kernel⟩, by decide +kernel, k_451, by decide⟩, k_438, k_439⟩
theorem lk_La_3 : LkI "NoonFields$Lame" 3 Nb_init 0 := ⟨⟨k_35, k_2, ⟨by decide +kernel, by decide +kernel⟩, by decide +kernel, k_43, by decide⟩, rfl, rfl, k_34⟩
theorem lk_La_9 : LkV "NoonFields$Lame" 9 Nb_isOf 1 := ⟨⟨k_461, k_2, ⟨by decide +kernel, by decide +kernel⟩, by decide +kernel, k_455, by decide⟩, k_438, k_439⟩
theorem lk_Lw_49 : LkS "NoonFields$Laws" 49 Lw_join 3 := ⟨⟨k_377, k_8, ⟨by decide +kernel, by decide +kernel⟩, by decide +kernel, k_375, by decide⟩, k_376⟩
theorem lk_Ol_3 : LkI "NoonFields$Old" 3 La_init 0 := ⟨⟨k_42, k_3, ⟨by decide +kernel, by decide +kernel⟩, by decide +kernel, k_57, by decide⟩, rfl, rfl, k_41⟩
theorem lk_Ru_3 : LkI "NoonFields$Runner" 3 Nb_init 0 := ⟨⟨k_35, k_2, ⟨by decide +kernel, by decide +kernel⟩, by decide +kernel, k_50, by decide⟩, rfl, rfl, k_34⟩
theorem lk_Ru_9 : LkV "NoonFields$Runner" 9 Nb_isOf 1 := ⟨⟨k_461, k_2, ⟨by decide +kernel, by decide +kernel⟩, by decide +kernel, k_447, by decide⟩, k_438, k_439⟩
theorem lk_Sh_26 : LkV "NoonFields$Sheet" 26 Sh_hasPlace 1 := ⟨⟨k_649, k_11, ⟨by decide +kernel, by decide +kernel⟩, by decide +kernel, k_646, by decide⟩, k_647, k_648⟩
theorem lk_Sh_37 : LkV "NoonFields$Sheet" 37 Sh_take 4 := ⟨⟨k_897, k_11, ⟨by decide +kernel, by decide +kernel⟩, by decide +kernel, k_911, by decide⟩, k_895, k_896⟩
theorem lk_Sh_41 : LkV "NoonFields$Sheet" 41 Sh_isNumber 1 := ⟨⟨k_645, k_11, ⟨by decide +kernel, by decide +kernel⟩, by decide +kernel, k_642, by decide⟩, k_643, k_644⟩
theorem lk_Sl_9 : LkI "NoonFields$Slot" 9 Sh_init 0 := ⟨⟨k_213, k_11, ⟨by decide +kernel, by decide +kernel⟩, by decide +kernel, k_238, by decide⟩, rfl, rfl, k_212⟩
theorem lk_Ta_44 : LkV "NoonFields$Tape" 44 Ta_advance 0 := ⟨⟨k_684, k_10, ⟨by decide +kernel, by decide +kernel⟩, by decide +kernel, k_681, by decide⟩, k_683, ks_9⟩
theorem lk_Ta_47 : LkV "NoonFields$Tape" 47 Ta_keyAhead 0 := ⟨⟨k_691, k_10, ⟨by decide +kernel, by decide +kernel⟩, by decide +kernel, k_688, by decide⟩, k_690, ks_10⟩
theorem lk_Ta_51 : LkV "NoonFields$Tape" 51 Ta_expression 3 := ⟨⟨k_750, k_10, ⟨by decide +kernel, by decide +kernel⟩, by decide +kernel, k_747, by decide⟩, k_749, ks_12⟩
theorem lk_Ta_57 : LkV "NoonFields$Tape" 57 Ta_isAhead 1 := ⟨⟨k_696, k_10, ⟨by decide +kernel, by decide +kernel⟩, by decide +kernel, k_693, by decide⟩, k_695, ks_11⟩
theorem lk_Ta_73 : LkS "NoonFields$Tape" 73 Ta_signOf 1 := ⟨⟨k_687, k_10, ⟨by decide +kernel, by decide +kernel⟩, by decide +kernel, k_685, by decide⟩, k_686⟩
theorem lk_Ta_77 : LkV "NoonFields$Tape" 77 Ta_piece 2 := ⟨⟨k_754, k_10, ⟨by decide +kernel, by decide +kernel⟩, by decide +kernel, k_751, by decide⟩, k_753, ks_13⟩
theorem lk_Ta_81 : LkS "NoonFields$Tape" 81 Ta_levelOf 1 := ⟨⟨k_839, k_10, ⟨by decide +kernel, by decide +kernel⟩, by decide +kernel, k_837, by decide⟩, k_838⟩
theorem lk_Ta_84 : LkV "NoonFields$Tape" 84 Ta_emit 1 := ⟨⟨k_766, k_10, ⟨by decide +kernel, by decide +kernel⟩, by decide +kernel, k_763, by decide⟩, k_765, ks_16⟩
theorem lk_Ta_88 : LkV "NoonFields$Tape" 88 Ta_number 0 := ⟨⟨k_758, k_10, ⟨by decide +kernel, by decide +kernel⟩, by decide +kernel, k_755, by decide⟩, k_757, ks_14⟩
theorem lk_Ta_91 : LkV "NoonFields$Tape" 91 Ta_operand 1 := ⟨⟨k_762, k_10, ⟨by decide +kernel, by decide +kernel⟩, by decide +kernel, k_759, by decide⟩, k_761, ks_15⟩
theorem lk_Ta_95 : LkV "NoonFields$Tape" 95 Ta_name 0 := ⟨⟨k_770, k_10, ⟨by decide +kernel, by decide +kernel⟩, by decide +kernel, k_767, by decide⟩, k_769, ks_17⟩
theorem lk_Ta_100 : LkV "NoonFields$Tape" 100 Ta_negation 2 := ⟨⟨k_832, k_10, ⟨by decide +kernel, by decide +kernel⟩, by decide +kernel, k_829, by decide⟩, k_831, ks_18⟩
theorem lk_Ta_103 : LkV "NoonFields$Tape" 103 Ta_bracket 2 := ⟨⟨k_836, k_10, ⟨by decide +kernel, by decide +kernel⟩, by decide +kernel, k_833, by decide⟩, k_835, ks_19⟩
theorem lk_Wo_66 : LkV "NoonFields$World" 66 Wo_kindOf 1 := ⟨⟨k_334, k_9, ⟨by decide +kernel, by decide +kernel⟩, by decide +kernel, k_331, by decide⟩, k_332, k_333⟩
theorem lk_Wo_70 : LkV "NoonFields$World" 70 Nb_worthFor 1 := ⟨⟨k_356, k_2, ⟨by decide +kernel, by decide +kernel⟩, by decide +kernel, k_335, by decide⟩, k_336, k_337⟩
theorem lk_Wo_86 : LkS "NoonFields$World" 86 Wo_apart 2 := ⟨⟨k_367, k_9, ⟨by decide +kernel, by decide +kernel⟩, by decide +kernel, k_365, by decide⟩, k_366⟩
theorem lk_Wo_90 : LkV "NoonFields$World" 90 Lw_gives 4 := ⟨⟨k_374, k_8, ⟨by decide +kernel, by decide +kernel⟩, by decide +kernel, k_371, by decide⟩, k_372, k_373⟩
theorem lk_Wo_102 : LkV "NoonFields$World" 102 Nb_paces 1 := ⟨⟨k_406, k_2, ⟨by decide +kernel, by decide +kernel⟩, by decide +kernel, k_384, by decide⟩, k_385, k_386⟩
theorem lk_Wo_105 : LkV "NoonFields$World" 105 Nb_mayBeOn 3 := ⟨⟨k_431, k_2, ⟨by decide +kernel, by decide +kernel⟩, by decide +kernel, k_411, by decide⟩, k_412, k_413⟩
theorem lk_Wo_109 : LkV "NoonFields$World" 109 Wo_isTalk 2 := ⟨⟨k_481, k_9, ⟨by decide +kernel, by decide +kernel⟩, by decide +kernel, k_534, by decide⟩, k_479, k_480⟩
theorem lk_Wo_114 : LkV "NoonFields$World" 114 Wo_standNowhere 0 := ⟨⟨k_524, k_9, ⟨by decide +kernel, by decide +kernel⟩, by decide +kernel, k_521, by decide⟩, k_522, k_523⟩
theorem lk_Wo_117 : LkV "NoonFields$World" 117 Wo_setOut 1 := ⟨⟨k_528, k_9, ⟨by decide +kernel, by decide +kernel⟩, by decide +kernel, k_525, by decide⟩, k_527, ks_0⟩
theorem lk_Wo_121 : LkV "NoonFields$World" 121 Wo_draw 0 := ⟨⟨k_507, k_9, ⟨by decide +kernel, by decide +kernel⟩, by decide +kernel, k_541, by decide⟩, k_505, k_506⟩
theorem lk_Wo_125 : LkV "NoonFields$World" 125 Wo_catchNearHome 0 := ⟨⟨k_545, k_9, ⟨by decide +kernel, by decide +kernel⟩, by decide +kernel, k_542, by decide⟩, k_544, ks_2⟩
theorem lk_Wo_128 : LkV "NoonFields$World" 128 Wo_mayStand 2 := ⟨⟨k_410, k_9, ⟨by decide +kernel, by decide +kernel⟩, by decide +kernel, k_529, by decide⟩, k_408, k_409⟩
theorem lk_Wo_131 : LkV "NoonFields$World" 131 Wo_hasRoom 2 := ⟨⟨k_533, k_9, ⟨by decide +kernel, by decide +kernel⟩, by decide +kernel, k_530, by decide⟩, k_531, k_532⟩
theorem lk_Wo_134 : LkV "NoonFields$World" 134 Wo_walkOf 2 := ⟨⟨k_364, k_9, ⟨by decide +kernel, by decide +kernel⟩, by decide +kernel, k_535, by decide⟩, k_362, k_363⟩
theorem lk_Wo_137 : LkV "NoonFields$World" 137 Wo_arrive 2 := ⟨⟨k_539, k_9, ⟨by decide +kernel, by decide +kernel⟩, by decide +kernel, k_536, by decide⟩, k_538, ks_1⟩
theorem lk_Wo_141 : LkV "NoonFields$World" 141 Wo_isOne 1 := ⟨⟨k_326, k_9, ⟨by decide +kernel, by decide +kernel⟩, by decide +kernel, k_540, by decide⟩, k_324, k_325⟩
theorem lk_LAW_9 : LkI "NoonFieldsLaw" 9 N_init 0 := ⟨⟨k_26, k_1, ⟨by decide +kernel, by decide +kernel⟩, by decide +kernel, k_24, by decide⟩, rfl, rfl, k_25⟩
theorem lk_LAW_12 : LkI "NoonFieldsLaw" 12 M_init 0 := ⟨⟨k_958, k_13, ⟨by decide +kernel, by decide +kernel⟩, by decide +kernel, k_956, by decide⟩, rfl, rfl, k_957⟩
theorem lk_LAW_13 : LkV "NoonFieldsLaw" 13 N_person 3 := ⟨⟨k_309, k_1, ⟨by decide +kernel, by decide +kernel⟩, by decide +kernel, k_306, by decide⟩, k_307, k_308⟩
theorem lk_LAW_17 : LkV "NoonFieldsLaw" 17 M_person 3 := ⟨⟨k_1073, k_13, ⟨by decide +kernel, by decide +kernel⟩, by decide +kernel, k_1070, by decide⟩, k_1071, k_1072⟩
theorem lk_LAW_18 : LkV "NoonFieldsLaw" 18 N_told 2 := ⟨⟨k_322, k_1, ⟨by decide +kernel, by decide +kernel⟩, by decide +kernel, k_319, by decide⟩, k_320, k_321⟩
theorem lk_LAW_22 : LkV "NoonFieldsLaw" 22 M_told 2 := ⟨⟨k_1095, k_13, ⟨by decide +kernel, by decide +kernel⟩, by decide +kernel, k_1092, by decide⟩, k_1093, k_1094⟩
theorem lk_LAW_23 : LkV "NoonFieldsLaw" 23 N_walk 3 := ⟨⟨k_360, k_1, ⟨by decide +kernel, by decide +kernel⟩, by decide +kernel, k_357, by decide⟩, k_358, k_359⟩
theorem lk_LAW_26 : LkV "NoonFieldsLaw" 26 M_walk 3 := ⟨⟨k_1112, k_13, ⟨by decide +kernel, by decide +kernel⟩, by decide +kernel, k_1109, by decide⟩, k_1110, k_1111⟩
theorem lk_LAW_27 : LkV "NoonFieldsLaw" 27 N_as 2 := ⟨⟨k_435, k_1, ⟨by decide +kernel, by decide +kernel⟩, by decide +kernel, k_432, by decide⟩, k_433, k_434⟩
theorem lk_LAW_30 : LkV "NoonFieldsLaw" 30 M_as 2 := ⟨⟨k_1152, k_13, ⟨by decide +kernel, by decide +kernel⟩, by decide +kernel, k_1149, by decide⟩, k_1150, k_1151⟩
theorem lk_LAW_31 : LkV "NoonFieldsLaw" 31 N_turns 2 := ⟨⟨k_466, k_1, ⟨by decide +kernel, by decide +kernel⟩, by decide +kernel, k_463, by decide⟩, k_464, k_465⟩
theorem lk_LAW_34 : LkV "NoonFieldsLaw" 34 M_turns 2 := ⟨⟨k_1160, k_13, ⟨by decide +kernel, by decide +kernel⟩, by decide +kernel, k_1157, by decide⟩, k_1158, k_1159⟩
theorem lk_LAW_35 : LkV "NoonFieldsLaw" 35 N_set 3 := ⟨⟨k_473, k_1, ⟨by decide +kernel, by decide +kernel⟩, by decide +kernel, k_470, by decide⟩, k_471, k_472⟩
theorem lk_LAW_38 : LkV "NoonFieldsLaw" 38 M_set 3 := ⟨⟨k_1168, k_13, ⟨by decide +kernel, by decide +kernel⟩, by decide +kernel, k_1165, by decide⟩, k_1166, k_1167⟩
theorem lk_LAW_39 : LkV "NoonFieldsLaw" 39 N_talk 3 := ⟨⟨k_477, k_1, ⟨by decide +kernel, by decide +kernel⟩, by decide +kernel, k_474, by decide⟩, k_475, k_476⟩
theorem lk_LAW_42 : LkV "NoonFieldsLaw" 42 M_talk 3 := ⟨⟨k_1174, k_13, ⟨by decide +kernel, by decide +kernel⟩, by decide +kernel, k_1171, by decide⟩, k_1172, k_1173⟩
theorem lk_LAW_43 : LkV "NoonFieldsLaw" 43 N_field 2 := ⟨⟨k_485, k_1, ⟨by decide +kernel, by decide +kernel⟩, by decide +kernel, k_482, by decide⟩, k_483, k_484⟩
theorem lk_LAW_46 : LkV "NoonFieldsLaw" 46 M_field 2 := ⟨⟨k_1182, k_13, ⟨by decide +kernel, by decide +kernel⟩, by decide +kernel, k_1179, by decide⟩, k_1180, k_1181⟩
theorem lk_LAW_47 : LkV "NoonFieldsLaw" 47 N_lays 3 := ⟨⟨k_489, k_1, ⟨by decide +kernel, by decide +kernel⟩, by decide +kernel, k_486, by decide⟩, k_487, k_488⟩
theorem lk_LAW_50 : LkV "NoonFieldsLaw" 50 M_lays 3 := ⟨⟨k_1186, k_13, ⟨by decide +kernel, by decide +kernel⟩, by decide +kernel, k_1183, by decide⟩, k_1184, k_1185⟩
theorem lk_LAW_51 : LkV "NoonFieldsLaw" 51 N_far 2 := ⟨⟨k_493, k_1, ⟨by decide +kernel, by decide +kernel⟩, by decide +kernel, k_490, by decide⟩, k_491, k_492⟩
theorem lk_LAW_54 : LkV "NoonFieldsLaw" 54 M_far 2 := ⟨⟨k_1191, k_13, ⟨by decide +kernel, by decide +kernel⟩, by decide +kernel, k_1188, by decide⟩, k_1189, k_1190⟩
theorem lk_LAW_55 : LkV "NoonFieldsLaw" 55 N_late 1 := ⟨⟨k_498, k_1, ⟨by decide +kernel, by decide +kernel⟩, by decide +kernel, k_495, by decide⟩, k_496, k_497⟩
theorem lk_LAW_59 : LkV "NoonFieldsLaw" 59 M_late 1 := ⟨⟨k_1195, k_13, ⟨by decide +kernel, by decide +kernel⟩, by decide +kernel, k_1192, by decide⟩, k_1193, k_1194⟩
theorem lk_LAW_60 : LkV "NoonFieldsLaw" 60 N_deal 1 := ⟨⟨k_502, k_1, ⟨by decide +kernel, by decide +kernel⟩, by decide +kernel, k_499, by decide⟩, k_500, k_501⟩
theorem lk_LAW_63 : LkV "NoonFieldsLaw" 63 M_deal 1 := ⟨⟨k_1200, k_13, ⟨by decide +kernel, by decide +kernel⟩, by decide +kernel, k_1197, by decide⟩, k_1198, k_1199⟩
theorem lk_LAW_64 : LkV "NoonFieldsLaw" 64 N_seed 1 := ⟨⟨k_512, k_1, ⟨by decide +kernel, by decide +kernel⟩, by decide +kernel, k_509, by decide⟩, k_510, k_511⟩
theorem lk_LAW_67 : LkV "NoonFieldsLaw" 67 M_seed 1 := ⟨⟨k_1209, k_13, ⟨by decide +kernel, by decide +kernel⟩, by decide +kernel, k_1206, by decide⟩, k_1207, k_1208⟩
theorem lk_LAW_68 : LkV "NoonFieldsLaw" 68 N_noons 1 := ⟨⟨k_516, k_1, ⟨by decide +kernel, by decide +kernel⟩, by decide +kernel, k_513, by decide⟩, k_514, k_515⟩
theorem lk_LAW_71 : LkV "NoonFieldsLaw" 71 M_noons 1 := ⟨⟨k_1213, k_13, ⟨by decide +kernel, by decide +kernel⟩, by decide +kernel, k_1210, by decide⟩, k_1211, k_1212⟩
theorem lk_LAW_72 : LkV "NoonFieldsLaw" 72 N_year 1 := ⟨⟨k_549, k_1, ⟨by decide +kernel, by decide +kernel⟩, by decide +kernel, k_546, by decide⟩, k_547, k_548⟩
theorem lk_LAW_75 : LkV "NoonFieldsLaw" 75 M_year 1 := ⟨⟨k_1233, k_13, ⟨by decide +kernel, by decide +kernel⟩, by decide +kernel, k_1230, by decide⟩, k_1231, k_1232⟩
theorem lk_LAW_76 : LkV "NoonFieldsLaw" 76 N_best 1 := ⟨⟨k_556, k_1, ⟨by decide +kernel, by decide +kernel⟩, by decide +kernel, k_553, by decide⟩, k_554, k_555⟩
theorem lk_LAW_79 : LkV "NoonFieldsLaw" 79 M_best 1 := ⟨⟨k_1245, k_13, ⟨by decide +kernel, by decide +kernel⟩, by decide +kernel, k_1242, by decide⟩, k_1243, k_1244⟩
theorem lk_LAW_80 : LkV "NoonFieldsLaw" 80 N_behind 2 := ⟨⟨k_582, k_1, ⟨by decide +kernel, by decide +kernel⟩, by decide +kernel, k_579, by decide⟩, k_580, k_581⟩
theorem lk_LAW_83 : LkV "NoonFieldsLaw" 83 M_behind 2 := ⟨⟨k_1254, k_13, ⟨by decide +kernel, by decide +kernel⟩, by decide +kernel, k_1251, by decide⟩, k_1252, k_1253⟩
theorem lk_LAW_84 : LkV "NoonFieldsLaw" 84 N_has 3 := ⟨⟨k_590, k_1, ⟨by decide +kernel, by decide +kernel⟩, by decide +kernel, k_587, by decide⟩, k_588, k_589⟩
theorem lk_LAW_87 : LkV "NoonFieldsLaw" 87 M_has 3 := ⟨⟨k_1271, k_13, ⟨by decide +kernel, by decide +kernel⟩, by decide +kernel, k_1268, by decide⟩, k_1269, k_1270⟩
theorem lk_LAW_88 : LkV "NoonFieldsLaw" 88 N_rota 1 := ⟨⟨k_594, k_1, ⟨by decide +kernel, by decide +kernel⟩, by decide +kernel, k_591, by decide⟩, k_592, k_593⟩
theorem lk_LAW_91 : LkV "NoonFieldsLaw" 91 M_rota 1 := ⟨⟨k_1275, k_13, ⟨by decide +kernel, by decide +kernel⟩, by decide +kernel, k_1272, by decide⟩, k_1273, k_1274⟩
theorem lk_LAW_92 : LkV "NoonFieldsLaw" 92 N_sold 3 := ⟨⟨k_608, k_1, ⟨by decide +kernel, by decide +kernel⟩, by decide +kernel, k_605, by decide⟩, k_606, k_607⟩
theorem lk_LAW_95 : LkV "NoonFieldsLaw" 95 M_sold 3 := ⟨⟨k_1290, k_13, ⟨by decide +kernel, by decide +kernel⟩, by decide +kernel, k_1287, by decide⟩, k_1288, k_1289⟩
theorem lk_LAW_96 : LkV "NoonFieldsLaw" 96 N_nobodys 2 := ⟨⟨k_616, k_1, ⟨by decide +kernel, by decide +kernel⟩, by decide +kernel, k_613, by decide⟩, k_614, k_615⟩
theorem lk_LAW_99 : LkV "NoonFieldsLaw" 99 M_nobodys 2 := ⟨⟨k_1295, k_13, ⟨by decide +kernel, by decide +kernel⟩, by decide +kernel, k_1292, by decide⟩, k_1293, k_1294⟩
theorem lk_LAW_100 : LkV "NoonFieldsLaw" 100 N_beside 2 := ⟨⟨k_620, k_1, ⟨by decide +kernel, by decide +kernel⟩, by decide +kernel, k_617, by decide⟩, k_618, k_619⟩
theorem lk_LAW_103 : LkV "NoonFieldsLaw" 103 M_beside 2 := ⟨⟨k_1299, k_13, ⟨by decide +kernel, by decide +kernel⟩, by decide +kernel, k_1296, by decide⟩, k_1297, k_1298⟩
theorem lk_LAW_104 : LkV "NoonFieldsLaw" 104 N_atHome 3 := ⟨⟨k_632, k_1, ⟨by decide +kernel, by decide +kernel⟩, by decide +kernel, k_629, by decide⟩, k_630, k_631⟩
theorem lk_LAW_107 : LkV "NoonFieldsLaw" 107 M_atHome 3 := ⟨⟨k_1427, k_13, ⟨by decide +kernel, by decide +kernel⟩, by decide +kernel, k_1424, by decide⟩, k_1425, k_1426⟩
theorem lk_LAW_108 : LkV "NoonFieldsLaw" 108 N_toll 0 := ⟨⟨k_654, k_1, ⟨by decide +kernel, by decide +kernel⟩, by decide +kernel, k_651, by decide⟩, k_652, k_653⟩
theorem lk_LAW_112 : LkV "NoonFieldsLaw" 112 M_toll 0 := ⟨⟨k_1307, k_13, ⟨by decide +kernel, by decide +kernel⟩, by decide +kernel, k_1304, by decide⟩, k_1305, k_1306⟩
theorem lk_LAW_113 : LkV "NoonFieldsLaw" 113 N_fine 1 := ⟨⟨k_659, k_1, ⟨by decide +kernel, by decide +kernel⟩, by decide +kernel, k_656, by decide⟩, k_657, k_658⟩
theorem lk_LAW_116 : LkV "NoonFieldsLaw" 116 M_fine 1 := ⟨⟨k_1311, k_13, ⟨by decide +kernel, by decide +kernel⟩, by decide +kernel, k_1308, by decide⟩, k_1309, k_1310⟩
theorem lk_LAW_117 : LkV "NoonFieldsLaw" 117 N_feed 3 := ⟨⟨k_663, k_1, ⟨by decide +kernel, by decide +kernel⟩, by decide +kernel, k_660, by decide⟩, k_661, k_662⟩
theorem lk_LAW_120 : LkV "NoonFieldsLaw" 120 M_feed 3 := ⟨⟨k_1315, k_13, ⟨by decide +kernel, by decide +kernel⟩, by decide +kernel, k_1312, by decide⟩, k_1313, k_1314⟩
theorem lk_LAW_121 : LkV "NoonFieldsLaw" 121 N_trim 1 := ⟨⟨k_672, k_1, ⟨by decide +kernel, by decide +kernel⟩, by decide +kernel, k_669, by decide⟩, k_670, k_671⟩
theorem lk_LAW_124 : LkV "NoonFieldsLaw" 124 M_trim 1 := ⟨⟨k_1319, k_13, ⟨by decide +kernel, by decide +kernel⟩, by decide +kernel, k_1316, by decide⟩, k_1317, k_1318⟩
theorem lk_LAW_125 : LkV "NoonFieldsLaw" 125 N_text 0 := ⟨⟨k_676, k_1, ⟨by decide +kernel, by decide +kernel⟩, by decide +kernel, k_673, by decide⟩, k_674, k_675⟩
theorem lk_LAW_128 : LkV "NoonFieldsLaw" 128 M_text 0 := ⟨⟨k_1323, k_13, ⟨by decide +kernel, by decide +kernel⟩, by decide +kernel, k_1320, by decide⟩, k_1321, k_1322⟩
theorem lk_LAW_129 : LkV "NoonFieldsLaw" 129 N_textTold 2 := ⟨⟨k_849, k_1, ⟨by decide +kernel, by decide +kernel⟩, by decide +kernel, k_846, by decide⟩, k_847, k_848⟩
theorem lk_LAW_132 : LkV "NoonFieldsLaw" 132 M_textTold 2 := ⟨⟨k_1390, k_13, ⟨by decide +kernel, by decide +kernel⟩, by decide +kernel, k_1387, by decide⟩, k_1388, k_1389⟩
theorem lk_LAW_133 : LkV "NoonFieldsLaw" 133 N_why 1 := ⟨⟨k_853, k_1, ⟨by decide +kernel, by decide +kernel⟩, by decide +kernel, k_850, by decide⟩, k_851, k_852⟩
theorem lk_LAW_136 : LkV "NoonFieldsLaw" 136 M_why 1 := ⟨⟨k_1398, k_13, ⟨by decide +kernel, by decide +kernel⟩, by decide +kernel, k_1395, by decide⟩, k_1396, k_1397⟩
theorem lk_LAW_137 : LkV "NoonFieldsLaw" 137 N_sheet 3 := ⟨⟨k_857, k_1, ⟨by decide +kernel, by decide +kernel⟩, by decide +kernel, k_854, by decide⟩, k_855, k_856⟩
theorem lk_LAW_140 : LkV "NoonFieldsLaw" 140 M_sheet 3 := ⟨⟨k_1402, k_13, ⟨by decide +kernel, by decide +kernel⟩, by decide +kernel, k_1399, by decide⟩, k_1400, k_1401⟩
theorem lk_LAW_141 : LkV "NoonFieldsLaw" 141 N_mark 3 := ⟨⟨k_866, k_1, ⟨by decide +kernel, by decide +kernel⟩, by decide +kernel, k_863, by decide⟩, k_864, k_865⟩
theorem lk_LAW_144 : LkV "NoonFieldsLaw" 144 M_mark 3 := ⟨⟨k_1411, k_13, ⟨by decide +kernel, by decide +kernel⟩, by decide +kernel, k_1408, by decide⟩, k_1409, k_1410⟩
theorem lk_LAW_145 : LkV "NoonFieldsLaw" 145 N_pour 1 := ⟨⟨k_879, k_1, ⟨by decide +kernel, by decide +kernel⟩, by decide +kernel, k_876, by decide⟩, k_877, k_878⟩
theorem lk_LAW_148 : LkV "NoonFieldsLaw" 148 M_pour 1 := ⟨⟨k_1419, k_13, ⟨by decide +kernel, by decide +kernel⟩, by decide +kernel, k_1416, by decide⟩, k_1417, k_1418⟩
theorem lk_LAW_149 : LkV "NoonFieldsLaw" 149 N_reads 1 := ⟨⟨k_885, k_1, ⟨by decide +kernel, by decide +kernel⟩, by decide +kernel, k_882, by decide⟩, k_883, k_884⟩
theorem lk_LAW_152 : LkV "NoonFieldsLaw" 152 M_reads 1 := ⟨⟨k_1423, k_13, ⟨by decide +kernel, by decide +kernel⟩, by decide +kernel, k_1420, by decide⟩, k_1421, k_1422⟩
theorem lk_LAW_153 : LkV "NoonFieldsLaw" 153 N_copy 5 := ⟨⟨k_889, k_1, ⟨by decide +kernel, by decide +kernel⟩, by decide +kernel, k_886, by decide⟩, k_887, k_888⟩
theorem lk_LAW_157 : LkV "NoonFieldsLaw" 157 M_copy 5 := ⟨⟨k_1431, k_13, ⟨by decide +kernel, by decide +kernel⟩, by decide +kernel, k_1428, by decide⟩, k_1429, k_1430⟩
theorem lk_LAW_158 : LkV "NoonFieldsLaw" 158 N_lay 3 := ⟨⟨k_902, k_1, ⟨by decide +kernel, by decide +kernel⟩, by decide +kernel, k_899, by decide⟩, k_900, k_901⟩
theorem lk_LAW_161 : LkV "NoonFieldsLaw" 161 M_lay 3 := ⟨⟨k_1435, k_13, ⟨by decide +kernel, by decide +kernel⟩, by decide +kernel, k_1432, by decide⟩, k_1433, k_1434⟩
theorem lk_LAW_162 : LkV "NoonFieldsLaw" 162 N_ask 2 := ⟨⟨k_915, k_1, ⟨by decide +kernel, by decide +kernel⟩, by decide +kernel, k_912, by decide⟩, k_913, k_914⟩
theorem lk_LAW_165 : LkV "NoonFieldsLaw" 165 M_ask 2 := ⟨⟨k_1442, k_13, ⟨by decide +kernel, by decide +kernel⟩, by decide +kernel, k_1439, by decide⟩, k_1440, k_1441⟩
theorem lk_LAW_166 : LkV "NoonFieldsLaw" 166 N_item 2 := ⟨⟨k_920, k_1, ⟨by decide +kernel, by decide +kernel⟩, by decide +kernel, k_917, by decide⟩, k_918, k_919⟩
theorem lk_LAW_169 : LkV "NoonFieldsLaw" 169 M_item 2 := ⟨⟨k_1446, k_13, ⟨by decide +kernel, by decide +kernel⟩, by decide +kernel, k_1443, by decide⟩, k_1444, k_1445⟩
theorem lk_LAW_170 : LkV "NoonFieldsLaw" 170 N_rest 2 := ⟨⟨k_924, k_1, ⟨by decide +kernel, by decide +kernel⟩, by decide +kernel, k_921, by decide⟩, k_922, k_923⟩
theorem lk_LAW_173 : LkV "NoonFieldsLaw" 173 M_rest 2 := ⟨⟨k_1450, k_13, ⟨by decide +kernel, by decide +kernel⟩, by decide +kernel, k_1447, by decide⟩, k_1448, k_1449⟩
theorem lk_LAW_174 : LkV "NoonFieldsLaw" 174 N_tell 1 := ⟨⟨k_929, k_1, ⟨by decide +kernel, by decide +kernel⟩, by decide +kernel, k_926, by decide⟩, k_927, k_928⟩
theorem lk_LAW_177 : LkV "NoonFieldsLaw" 177 M_tell 1 := ⟨⟨k_1455, k_13, ⟨by decide +kernel, by decide +kernel⟩, by decide +kernel, k_1452, by decide⟩, k_1453, k_1454⟩
theorem lk_LAW_178 : LkV "NoonFieldsLaw" 178 N_check 1 := ⟨⟨k_933, k_1, ⟨by decide +kernel, by decide +kernel⟩, by decide +kernel, k_930, by decide⟩, k_931, k_932⟩
theorem lk_LAW_181 : LkV "NoonFieldsLaw" 181 M_check 1 := ⟨⟨k_1459, k_13, ⟨by decide +kernel, by decide +kernel⟩, by decide +kernel, k_1456, by decide⟩, k_1457, k_1458⟩
theorem lk_LAW_182 : LkV "NoonFieldsLaw" 182 N_keep 0 := ⟨⟨k_941, k_1, ⟨by decide +kernel, by decide +kernel⟩, by decide +kernel, k_938, by decide⟩, k_939, k_940⟩
theorem lk_LAW_185 : LkV "NoonFieldsLaw" 185 M_keep 0 := ⟨⟨k_1468, k_13, ⟨by decide +kernel, by decide +kernel⟩, by decide +kernel, k_1465, by decide⟩, k_1466, k_1467⟩
theorem lk_LAW_186 : LkV "NoonFieldsLaw" 186 N_back 0 := ⟨⟨k_945, k_1, ⟨by decide +kernel, by decide +kernel⟩, by decide +kernel, k_942, by decide⟩, k_943, k_944⟩
theorem lk_LAW_189 : LkV "NoonFieldsLaw" 189 M_back 0 := ⟨⟨k_1472, k_13, ⟨by decide +kernel, by decide +kernel⟩, by decide +kernel, k_1469, by decide⟩, k_1470, k_1471⟩
theorem lk_LAW_190 : LkV "NoonFieldsLaw" 190 N_count 1 := ⟨⟨k_949, k_1, ⟨by decide +kernel, by decide +kernel⟩, by decide +kernel, k_946, by decide⟩, k_947, k_948⟩
theorem lk_LAW_193 : LkV "NoonFieldsLaw" 193 M_count 1 := ⟨⟨k_1476, k_13, ⟨by decide +kernel, by decide +kernel⟩, by decide +kernel, k_1473, by decide⟩, k_1474, k_1475⟩
theorem lk_M_77 : LkV "NoonFieldsModel" 77 M_puts 3 := ⟨⟨k_963, k_13, ⟨by decide +kernel, by decide +kernel⟩, by decide +kernel, k_960, by decide⟩, k_962, ks_21⟩
theorem lk_M_82 : LkS "NoonFieldsModel" 82 M_isIn 3 := ⟨⟨k_1077, k_13, ⟨by decide +kernel, by decide +kernel⟩, by decide +kernel, k_1075, by decide⟩, k_1076⟩
theorem lk_M_87 : LkV "NoonFieldsModel" 87 M_sets 3 := ⟨⟨k_1091, k_13, ⟨by decide +kernel, by decide +kernel⟩, by decide +kernel, k_1088, by decide⟩, k_1090, ks_23⟩
theorem lk_M_92 : LkS "NoonFieldsModel" 92 M_isField 1 := ⟨⟨k_1080, k_13, ⟨by decide +kernel, by decide +kernel⟩, by decide +kernel, k_1078, by decide⟩, k_1079⟩
theorem lk_M_100 : LkV "NoonFieldsModel" 100 M_comes 3 := ⟨⟨k_1087, k_13, ⟨by decide +kernel, by decide +kernel⟩, by decide +kernel, k_1084, by decide⟩, k_1086, ks_22⟩
theorem lk_M_103 : LkS "NoonFieldsModel" 103 M_off 2 := ⟨⟨k_1122, k_13, ⟨by decide +kernel, by decide +kernel⟩, by decide +kernel, k_1120, by decide⟩, k_1121⟩
theorem lk_M_107 : LkV "NoonFieldsModel" 107 M_of 2 := ⟨⟨k_1104, k_13, ⟨by decide +kernel, by decide +kernel⟩, by decide +kernel, k_1101, by decide⟩, k_1103, ks_25⟩
theorem lk_M_110 : LkS "NoonFieldsModel" 110 M_farOf 2 := ⟨⟨k_1119, k_13, ⟨by decide +kernel, by decide +kernel⟩, by decide +kernel, k_1117, by decide⟩, k_1118⟩
theorem lk_M_113 : LkV "NoonFieldsModel" 113 M_in 2 := ⟨⟨k_1126, k_13, ⟨by decide +kernel, by decide +kernel⟩, by decide +kernel, k_1123, by decide⟩, k_1125, ks_28⟩
theorem lk_M_116 : LkV "NoonFieldsModel" 116 M_counts 1 := ⟨⟨k_1130, k_13, ⟨by decide +kernel, by decide +kernel⟩, by decide +kernel, k_1127, by decide⟩, k_1129, ks_29⟩
theorem lk_M_120 : LkV "NoonFieldsModel" 120 M_worked 1 := ⟨⟨k_1138, k_13, ⟨by decide +kernel, by decide +kernel⟩, by decide +kernel, k_1135, by decide⟩, k_1137, ks_31⟩
theorem lk_M_123 : LkS "NoonFieldsModel" 123 M_within 2 := ⟨⟨k_1144, k_13, ⟨by decide +kernel, by decide +kernel⟩, by decide +kernel, k_1142, by decide⟩, k_1143⟩
theorem lk_M_126 : LkV "NoonFieldsModel" 126 M_isOne 1 := ⟨⟨k_1099, k_13, ⟨by decide +kernel, by decide +kernel⟩, by decide +kernel, k_1096, by decide⟩, k_1098, ks_24⟩
theorem lk_M_131 : LkV "NoonFieldsModel" 131 M_worth 1 := ⟨⟨k_1108, k_13, ⟨by decide +kernel, by decide +kernel⟩, by decide +kernel, k_1105, by decide⟩, k_1107, ks_26⟩
theorem lk_M_134 : LkV "NoonFieldsModel" 134 M_walkOf 2 := ⟨⟨k_1116, k_13, ⟨by decide +kernel, by decide +kernel⟩, by decide +kernel, k_1113, by decide⟩, k_1115, ks_27⟩
theorem lk_M_137 : LkV "NoonFieldsModel" 137 M_mayStand 2 := ⟨⟨k_1148, k_13, ⟨by decide +kernel, by decide +kernel⟩, by decide +kernel, k_1145, by decide⟩, k_1147, ks_32⟩
theorem lk_M_141 : LkS "NoonFieldsModel" 141 M_isOf 2 := ⟨⟨k_1155, k_13, ⟨by decide +kernel, by decide +kernel⟩, by decide +kernel, k_1153, by decide⟩, k_1154⟩
theorem lk_M_145 : LkV "NoonFieldsModel" 145 M_becomes 2 := ⟨⟨k_1164, k_13, ⟨by decide +kernel, by decide +kernel⟩, by decide +kernel, k_1161, by decide⟩, k_1163, ks_33⟩
theorem lk_M_152 : LkV "NoonFieldsModel" 152 M_areTalked 2 := ⟨⟨k_1178, k_13, ⟨by decide +kernel, by decide +kernel⟩, by decide +kernel, k_1175, by decide⟩, k_1177, ks_34⟩
theorem lk_M_159 : LkV "NoonFieldsModel" 159 M_drawn 0 := ⟨⟨k_1204, k_13, ⟨by decide +kernel, by decide +kernel⟩, by decide +kernel, k_1201, by decide⟩, k_1203, ks_35⟩
theorem lk_M_163 : LkV "NoonFieldsModel" 163 M_isFree 2 := ⟨⟨k_1229, k_13, ⟨by decide +kernel, by decide +kernel⟩, by decide +kernel, k_1226, by decide⟩, k_1228, ks_39⟩
theorem lk_M_166 : LkV "NoonFieldsModel" 166 M_goesTo 1 := ⟨⟨k_1225, k_13, ⟨by decide +kernel, by decide +kernel⟩, by decide +kernel, k_1222, by decide⟩, k_1224, ks_38⟩
theorem lk_M_169 : LkV "NoonFieldsModel" 169 M_goes 1 := ⟨⟨k_1221, k_13, ⟨by decide +kernel, by decide +kernel⟩, by decide +kernel, k_1218, by decide⟩, k_1220, ks_37⟩
theorem lk_M_173 : LkV "NoonFieldsModel" 173 M_goesOn 0 := ⟨⟨k_1217, k_13, ⟨by decide +kernel, by decide +kernel⟩, by decide +kernel, k_1214, by decide⟩, k_1216, ks_36⟩
theorem lk_M_176 : LkV "NoonFieldsModel" 176 M_allCorn 0 := ⟨⟨k_1237, k_13, ⟨by decide +kernel, by decide +kernel⟩, by decide +kernel, k_1234, by decide⟩, k_1236, ks_40⟩
theorem lk_M_179 : LkV "NoonFieldsModel" 179 M_allOf 1 := ⟨⟨k_1241, k_13, ⟨by decide +kernel, by decide +kernel⟩, by decide +kernel, k_1238, by decide⟩, k_1240, ks_41⟩
theorem lk_M_182 : LkV "NoonFieldsModel" 182 M_isPlacing 0 := ⟨⟨k_1249, k_13, ⟨by decide +kernel, by decide +kernel⟩, by decide +kernel, k_1246, by decide⟩, k_1248, ks_42⟩
theorem lk_M_188 : LkV "NoonFieldsModel" 188 M_laysBy 0 := ⟨⟨k_1259, k_13, ⟨by decide +kernel, by decide +kernel⟩, by decide +kernel, k_1256, by decide⟩, k_1258, ks_43⟩
theorem lk_M_191 : LkV "NoonFieldsModel" 191 M_goesOnMany 1 := ⟨⟨k_1263, k_13, ⟨by decide +kernel, by decide +kernel⟩, by decide +kernel, k_1260, by decide⟩, k_1262, ks_44⟩
theorem lk_M_194 : LkV "NoonFieldsModel" 194 M_laysBack 0 := ⟨⟨k_1267, k_13, ⟨by decide +kernel, by decide +kernel⟩, by decide +kernel, k_1264, by decide⟩, k_1266, ks_45⟩
theorem lk_M_197 : LkS "NoonFieldsModel" 197 M_manyIn 1 := ⟨⟨k_1283, k_13, ⟨by decide +kernel, by decide +kernel⟩, by decide +kernel, k_1281, by decide⟩, k_1282⟩
theorem lk_M_202 : LkV "NoonFieldsModel" 202 M_allHad 1 := ⟨⟨k_1280, k_13, ⟨by decide +kernel, by decide +kernel⟩, by decide +kernel, k_1277, by decide⟩, k_1279, ks_46⟩
theorem lk_M_205 : LkS "NoonFieldsModel" 205 M_orNone 1 := ⟨⟨k_1286, k_13, ⟨by decide +kernel, by decide +kernel⟩, by decide +kernel, k_1284, by decide⟩, k_1285⟩
theorem lk_M_210 : LkV "NoonFieldsModel" 210 M_findOften 1 := ⟨⟨k_1303, k_13, ⟨by decide +kernel, by decide +kernel⟩, by decide +kernel, k_1300, by decide⟩, k_1302, ks_47⟩
theorem lk_M_233 : LkV "NoonFieldsModel" 233 M_isLetter 1 := ⟨⟨k_1335, k_13, ⟨by decide +kernel, by decide +kernel⟩, by decide +kernel, k_1332, by decide⟩, k_1334, ks_50⟩
theorem lk_M_239 : LkV "NoonFieldsModel" 239 M_isDigit 1 := ⟨⟨k_1341, k_13, ⟨by decide +kernel, by decide +kernel⟩, by decide +kernel, k_1338, by decide⟩, k_1340, ks_51⟩
theorem lk_M_245 : LkV "NoonFieldsModel" 245 M_isWordAt 4 := ⟨⟨k_1351, k_13, ⟨by decide +kernel, by decide +kernel⟩, by decide +kernel, k_1348, by decide⟩, k_1350, ks_53⟩
theorem lk_M_255 : LkV "NoonFieldsModel" 255 M_both 1 := ⟨⟨k_1359, k_13, ⟨by decide +kernel, by decide +kernel⟩, by decide +kernel, k_1356, by decide⟩, k_1358, ks_55⟩
theorem lk_M_258 : LkV "NoonFieldsModel" 258 M_isSign 1 := ⟨⟨k_1386, k_13, ⟨by decide +kernel, by decide +kernel⟩, by decide +kernel, k_1383, by decide⟩, k_1385, ks_61⟩
theorem lk_M_261 : LkV "NoonFieldsModel" 261 M_nextToken 0 := ⟨⟨k_1331, k_13, ⟨by decide +kernel, by decide +kernel⟩, by decide +kernel, k_1328, by decide⟩, k_1330, ks_49⟩
theorem lk_M_264 : LkV "NoonFieldsModel" 264 M_step 2 := ⟨⟨k_1379, k_13, ⟨by decide +kernel, by decide +kernel⟩, by decide +kernel, k_1376, by decide⟩, k_1378, ks_60⟩
theorem lk_M_268 : LkV "NoonFieldsModel" 268 M_test 1 := ⟨⟨k_1363, k_13, ⟨by decide +kernel, by decide +kernel⟩, by decide +kernel, k_1360, by decide⟩, k_1362, ks_56⟩
theorem lk_M_271 : LkV "NoonFieldsModel" 271 M_sum 1 := ⟨⟨k_1367, k_13, ⟨by decide +kernel, by decide +kernel⟩, by decide +kernel, k_1364, by decide⟩, k_1366, ks_57⟩
theorem lk_M_274 : LkV "NoonFieldsModel" 274 M_term 1 := ⟨⟨k_1371, k_13, ⟨by decide +kernel, by decide +kernel⟩, by decide +kernel, k_1368, by decide⟩, k_1370, ks_58⟩
theorem lk_M_277 : LkV "NoonFieldsModel" 277 M_part0 1 := ⟨⟨k_1375, k_13, ⟨by decide +kernel, by decide +kernel⟩, by decide +kernel, k_1372, by decide⟩, k_1374, ks_59⟩
theorem lk_M_283 : LkS "NoonFieldsModel" 283 M_isName 2 := ⟨⟨k_1382, k_13, ⟨by decide +kernel, by decide +kernel⟩, by decide +kernel, k_1380, by decide⟩, k_1381⟩
theorem lk_M_292 : LkV "NoonFieldsModel" 292 M_either 1 := ⟨⟨k_1355, k_13, ⟨by decide +kernel, by decide +kernel⟩, by decide +kernel, k_1352, by decide⟩, k_1354, ks_54⟩
theorem lk_M_295 : LkV "NoonFieldsModel" 295 M_textAt 1 := ⟨⟨k_1134, k_13, ⟨by decide +kernel, by decide +kernel⟩, by decide +kernel, k_1131, by decide⟩, k_1133, ks_30⟩
theorem lk_M_298 : LkV "NoonFieldsModel" 298 M_key 0 := ⟨⟨k_1347, k_13, ⟨by decide +kernel, by decide +kernel⟩, by decide +kernel, k_1344, by decide⟩, k_1346, ks_52⟩
theorem lk_M_301 : LkV "NoonFieldsModel" 301 M_parse 0 := ⟨⟨k_1327, k_13, ⟨by decide +kernel, by decide +kernel⟩, by decide +kernel, k_1324, by decide⟩, k_1326, ks_48⟩
theorem lk_M_304 : LkV "NoonFieldsModel" 304 M_isText 1 := ⟨⟨k_1394, k_13, ⟨by decide +kernel, by decide +kernel⟩, by decide +kernel, k_1391, by decide⟩, k_1393, ks_62⟩
theorem lk_M_307 : LkS "NoonFieldsModel" 307 M_joined 3 := ⟨⟨k_1141, k_13, ⟨by decide +kernel, by decide +kernel⟩, by decide +kernel, k_1139, by decide⟩, k_1140⟩
theorem lk_M_311 : LkS "NoonFieldsModel" 311 M_isSheet 1 := ⟨⟨k_1405, k_13, ⟨by decide +kernel, by decide +kernel⟩, by decide +kernel, k_1403, by decide⟩, k_1404⟩
theorem lk_M_323 : LkS "NoonFieldsModel" 323 M_isSlot 1 := ⟨⟨k_1438, k_13, ⟨by decide +kernel, by decide +kernel⟩, by decide +kernel, k_1436, by decide⟩, k_1437⟩
theorem lk_M_336 : LkV "NoonFieldsModel" 336 M_setAside 2 := ⟨⟨k_1464, k_13, ⟨by decide +kernel, by decide +kernel⟩, by decide +kernel, k_1461, by decide⟩, k_1463, ks_63⟩
theorem lk_M_340 : LkV "NoonFieldsModel" 340 M_talks 0 := ⟨⟨k_1480, k_13, ⟨by decide +kernel, by decide +kernel⟩, by decide +kernel, k_1477, by decide⟩, k_1479, ks_64⟩
theorem kc_N_102 : Cond.constant "NoonFields" 102 (-1000000001) ∈ WS := k_313
theorem kc_N_133 : Cond.constant "NoonFields" 133 (-1000000012) ∈ WS := k_462
theorem kc_N_185 : Cond.constant "NoonFields" 185 (-1000000005) ∈ WS := k_557
theorem kc_N_229 : Cond.constant "NoonFields" 229 (-1000000011) ∈ WS := k_637
theorem kc_N_243 : Cond.constant "NoonFields" 243 (-1000000003) ∈ WS := k_664
theorem kc_N_272 : Cond.constant "NoonFields" 272 (-1000000014) ∈ WS := k_862
theorem kc_N_276 : Cond.constant "NoonFields" 276 (-1000000013) ∈ WS := k_868
theorem kc_N_280 : Cond.constant "NoonFields" 280 (-99999) ∈ WS := k_869
theorem kc_N_281 : Cond.constant "NoonFields" 281 (99999) ∈ WS := k_870
theorem kc_N_331 : Cond.constant "NoonFields" 331 (-1000000002) ∈ WS := k_925
theorem kc_Sh_30 : Cond.constant "NoonFields$Sheet" 30 (-1000000005) ∈ WS := k_875
theorem kc_Wo_65 : Cond.constant "NoonFields$World" 65 (-1000000003) ∈ WS := k_318
theorem kc_Wo_113 : Cond.constant "NoonFields$World" 113 (1103515245) ∈ WS := k_508
theorem kc_M_81 : Cond.constant "NoonFieldsModel" 81 (-1000000005) ∈ WS := k_1250
theorem kc_M_86 : Cond.constant "NoonFieldsModel" 86 (1103515245) ∈ WS := k_1205
theorem kc_M_90 : Cond.constantLong "NoonFieldsModel" 90 (5) ∈ WS := k_1074
theorem kc_M_96 : Cond.constantLong "NoonFieldsModel" 96 (99) ∈ WS := k_1081
theorem kc_M_98 : Cond.constant "NoonFieldsModel" 98 (-1000000001) ∈ WS := k_1082
theorem kc_M_99 : Cond.constant "NoonFieldsModel" 99 (-1000000003) ∈ WS := k_1083
theorem kc_M_129 : Cond.constantLong "NoonFieldsModel" 129 (6) ∈ WS := k_1100
theorem kc_M_144 : Cond.constant "NoonFieldsModel" 144 (-1000000012) ∈ WS := k_1156
theorem kc_M_148 : Cond.constantLong "NoonFieldsModel" 148 (2) ∈ WS := k_1169
theorem kc_M_150 : Cond.constantLong "NoonFieldsModel" 150 (8) ∈ WS := k_1170
theorem kc_M_155 : Cond.constantLong "NoonFieldsModel" 155 (4) ∈ WS := k_1187
theorem kc_M_157 : Cond.constantLong "NoonFieldsModel" 157 (100) ∈ WS := k_1196
theorem kc_M_186 : Cond.constantLong "NoonFieldsModel" 186 (3) ∈ WS := k_1255
theorem kc_M_200 : Cond.constantLong "NoonFieldsModel" 200 (9) ∈ WS := k_1276
theorem kc_M_208 : Cond.constantLong "NoonFieldsModel" 208 (60) ∈ WS := k_1291
theorem kc_M_216 : Cond.constantLong "NoonFieldsModel" 216 (97) ∈ WS := k_1336
theorem kc_M_218 : Cond.constantLong "NoonFieldsModel" 218 (122) ∈ WS := k_1337
theorem kc_M_220 : Cond.constantLong "NoonFieldsModel" 220 (48) ∈ WS := k_1342
theorem kc_M_222 : Cond.constantLong "NoonFieldsModel" 222 (57) ∈ WS := k_1343
theorem kc_M_314 : Cond.constantLong "NoonFieldsModel" 314 (-1) ∈ WS := k_1406
theorem kc_M_316 : Cond.constant "NoonFieldsModel" 316 (-1000000014) ∈ WS := k_1407
theorem kc_M_317 : Cond.constant "NoonFieldsModel" 317 (-1000000011) ∈ WS := k_1412
theorem kc_M_318 : Cond.constant "NoonFieldsModel" 318 (-1000000013) ∈ WS := k_1413
theorem kc_M_319 : Cond.constantLong "NoonFieldsModel" 319 (-99999) ∈ WS := k_1414
theorem kc_M_321 : Cond.constantLong "NoonFieldsModel" 321 (99999) ∈ WS := k_1415
theorem kc_M_326 : Cond.constant "NoonFieldsModel" 326 (-1000000002) ∈ WS := k_1451
theorem kc_M_330 : Cond.constantLong "NoonFieldsModel" 330 (30) ∈ WS := k_1460
