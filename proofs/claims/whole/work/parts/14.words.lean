/-! the words of the tables, by their places; classes, fields, methods: printed by wip/whole/gen/gen.py -/
theorem w_0 : (Jvm.Cond.selects "KnowHouse" ({ cls := "KnowHouse", name := "refused", desc := "(I)I" } : Jvm.MethodName) ({ cls := "KnowHouse", name := "refused", desc := "(I)I" } : Jvm.MethodName)) ∈ gW := gW_in 0 (by decide +kernel) rfl
theorem w_1 : (Jvm.Cond.selects "KnowHouse" ({ cls := "KnowHouse", name := "done", desc := "(I)I" } : Jvm.MethodName) ({ cls := "KnowHouse", name := "done", desc := "(I)I" } : Jvm.MethodName)) ∈ gW := gW_in 1 (by decide +kernel) rfl
theorem w_2 : (Jvm.Cond.selects "KnowHouse$Keeping" ({ cls := "KnowHouse$Keeping", name := "countMost", desc := "()V" } : Jvm.MethodName) ({ cls := "KnowHouse$Keeping", name := "countMost", desc := "()V" } : Jvm.MethodName)) ∈ gW := gW_in 2 (by decide +kernel) rfl
theorem w_3 : (Jvm.Cond.selects "KnowHouse$Keeping" ({ cls := "KnowHouse$Keeping", name := "isAlike", desc := "(II)Z" } : Jvm.MethodName) ({ cls := "KnowHouse$Keeping", name := "isAlike", desc := "(II)Z" } : Jvm.MethodName)) ∈ gW := gW_in 3 (by decide +kernel) rfl
theorem w_4 : (Jvm.Cond.selects "KnowHouse$Keeping" ({ cls := "KnowHouse$Keeping", name := "pairInOrder", desc := "()V" } : Jvm.MethodName) ({ cls := "KnowHouse$Keeping", name := "pairInOrder", desc := "()V" } : Jvm.MethodName)) ∈ gW := gW_in 4 (by decide +kernel) rfl
theorem w_5 : (Jvm.Cond.selects "KnowHouse$Keeping" ({ cls := "KnowHouse$Keeping", name := "leastOld", desc := "(II)I" } : Jvm.MethodName) ({ cls := "KnowHouse$Keeping", name := "leastOld", desc := "(II)I" } : Jvm.MethodName)) ∈ gW := gW_in 5 (by decide +kernel) rfl
theorem w_6 : (Jvm.Cond.selects "KnowHouse$Keeping" ({ cls := "KnowHouse$Keeping", name := "pairMoved", desc := "()V" } : Jvm.MethodName) ({ cls := "KnowHouse$Keeping", name := "pairMoved", desc := "()V" } : Jvm.MethodName)) ∈ gW := gW_in 6 (by decide +kernel) rfl
theorem w_7 : (Jvm.Cond.selects "KnowHouse$Keeping" ({ cls := "KnowHouse$Keeping", name := "firstLeftOf", desc := "(I)I" } : Jvm.MethodName) ({ cls := "KnowHouse$Keeping", name := "firstLeftOf", desc := "(I)I" } : Jvm.MethodName)) ∈ gW := gW_in 7 (by decide +kernel) rfl
theorem w_8 : (Jvm.Cond.selects "KnowHouse$Keeping" ({ cls := "KnowHouse$Keeping", name := "newPage", desc := "(LKnowHouse$Change;)LKnowHouse$Page;" } : Jvm.MethodName) ({ cls := "KnowHouse$Keeping", name := "newPage", desc := "(LKnowHouse$Change;)LKnowHouse$Page;" } : Jvm.MethodName)) ∈ gW := gW_in 8 (by decide +kernel) rfl
theorem w_9 : (Jvm.Cond.selects "KnowHouse$Line" ({ cls := "KnowHouse$Line", name := "marksToGo", desc := "()I" } : Jvm.MethodName) ({ cls := "KnowHouse$Line", name := "marksToGo", desc := "()I" } : Jvm.MethodName)) ∈ gW := gW_in 9 (by decide +kernel) rfl
theorem w_10 : (Jvm.Cond.selects "KnowHouse$Teams" ({ cls := "KnowHouse$Teams", name := "meetsAll", desc := "(I)Z" } : Jvm.MethodName) ({ cls := "KnowHouse$Teams", name := "meetsAll", desc := "(I)Z" } : Jvm.MethodName)) ∈ gW := gW_in 10 (by decide +kernel) rfl
theorem w_11 : (Jvm.Cond.selects "KnowHouse$Planner" ({ cls := "KnowHouse$Planner", name := "priceTasks", desc := "(LKnowHouse$State;)V" } : Jvm.MethodName) ({ cls := "KnowHouse$Planner", name := "priceTasks", desc := "(LKnowHouse$State;)V" } : Jvm.MethodName)) ∈ gW := gW_in 11 (by decide +kernel) rfl
theorem w_12 : (Jvm.Cond.selects "KnowHouse$Planner" ({ cls := "KnowHouse$Planner", name := "openSlots", desc := "(LKnowHouse$State;LKnowHouse$Teams;I)Z" } : Jvm.MethodName) ({ cls := "KnowHouse$Planner", name := "openSlots", desc := "(LKnowHouse$State;LKnowHouse$Teams;I)Z" } : Jvm.MethodName)) ∈ gW := gW_in 12 (by decide +kernel) rfl
theorem w_13 : (Jvm.Cond.selects "KnowHouse$Planner" ({ cls := "KnowHouse$Planner", name := "countLeast", desc := "()V" } : Jvm.MethodName) ({ cls := "KnowHouse$Planner", name := "countLeast", desc := "()V" } : Jvm.MethodName)) ∈ gW := gW_in 13 (by decide +kernel) rfl
theorem w_14 : (Jvm.Cond.selects "KnowHouse$Planner" ({ cls := "KnowHouse$Planner", name := "hoursWith", desc := "(III)I" } : Jvm.MethodName) ({ cls := "KnowHouse$Planner", name := "hoursWith", desc := "(III)I" } : Jvm.MethodName)) ∈ gW := gW_in 14 (by decide +kernel) rfl
theorem w_15 : (Jvm.Cond.selects "KnowHouse$Planner" ({ cls := "KnowHouse$Planner", name := "filled", desc := "(II)I" } : Jvm.MethodName) ({ cls := "KnowHouse$Planner", name := "filled", desc := "(II)I" } : Jvm.MethodName)) ∈ gW := gW_in 15 (by decide +kernel) rfl
theorem w_16 : (Jvm.Cond.selects "KnowHouse$Planner" ({ cls := "KnowHouse$Planner", name := "choose", desc := "()V" } : Jvm.MethodName) ({ cls := "KnowHouse$Planner", name := "choose", desc := "()V" } : Jvm.MethodName)) ∈ gW := gW_in 16 (by decide +kernel) rfl
theorem w_17 : (Jvm.Cond.selects "KnowHouse$Planner" ({ cls := "KnowHouse$Planner", name := "firstFile", desc := "(II)I" } : Jvm.MethodName) ({ cls := "KnowHouse$Planner", name := "firstFile", desc := "(II)I" } : Jvm.MethodName)) ∈ gW := gW_in 17 (by decide +kernel) rfl
theorem w_18 : (Jvm.Cond.selects "KnowHouse" ({ cls := "KnowHouse", name := "countLone", desc := "()I" } : Jvm.MethodName) ({ cls := "KnowHouse", name := "countLone", desc := "()I" } : Jvm.MethodName)) ∈ gW := gW_in 18 (by decide +kernel) rfl
theorem w_19 : (Jvm.Cond.selects "KnowHouse$Acts" ({ cls := "KnowHouse$Acts", name := "begin", desc := "(I)V" } : Jvm.MethodName) ({ cls := "KnowHouse$Acts", name := "begin", desc := "(I)V" } : Jvm.MethodName)) ∈ gW := gW_in 19 (by decide +kernel) rfl
theorem w_20 : (Jvm.Cond.selects "KnowHouse" ({ cls := "KnowHouse", name := "sheetOf", desc := "(I)LKnowHouse$Sheet;" } : Jvm.MethodName) ({ cls := "KnowHouse", name := "sheetOf", desc := "(I)LKnowHouse$Sheet;" } : Jvm.MethodName)) ∈ gW := gW_in 20 (by decide +kernel) rfl
theorem w_21 : (Jvm.Cond.selects "KnowHouse" ({ cls := "KnowHouse", name := "takeForKind", desc := "(LKnowHouse$Change;I)I" } : Jvm.MethodName) ({ cls := "KnowHouse", name := "takeForKind", desc := "(LKnowHouse$Change;I)I" } : Jvm.MethodName)) ∈ gW := gW_in 21 (by decide +kernel) rfl
theorem w_22 : (Jvm.Cond.selects "KnowHouse" ({ cls := "KnowHouse", name := "takeNumber", desc := "(LKnowHouse$Sheet;I)I" } : Jvm.MethodName) ({ cls := "KnowHouse", name := "takeNumber", desc := "(LKnowHouse$Sheet;I)I" } : Jvm.MethodName)) ∈ gW := gW_in 22 (by decide +kernel) rfl
theorem w_23 : (Jvm.Cond.selects "KnowHouse" ({ cls := "KnowHouse", name := "copyNumbers", desc := "(LKnowHouse$Sheet;I)I" } : Jvm.MethodName) ({ cls := "KnowHouse", name := "copyNumbers", desc := "(LKnowHouse$Sheet;I)I" } : Jvm.MethodName)) ∈ gW := gW_in 23 (by decide +kernel) rfl
theorem w_24 : (Jvm.Cond.selects "KnowHouse" ({ cls := "KnowHouse", name := "putAmongFormed", desc := "(LKnowHouse$Change;)I" } : Jvm.MethodName) ({ cls := "KnowHouse", name := "putAmongFormed", desc := "(LKnowHouse$Change;)I" } : Jvm.MethodName)) ∈ gW := gW_in 24 (by decide +kernel) rfl
theorem w_25 : (Jvm.Cond.selects "KnowHouseModel" ({ cls := "KnowHouseModel", name := "refused", desc := "(I)I" } : Jvm.MethodName) ({ cls := "KnowHouseModel", name := "refused", desc := "(I)I" } : Jvm.MethodName)) ∈ gW := gW_in 25 (by decide +kernel) rfl
theorem w_26 : (Jvm.Cond.selects "KnowHouseModel" ({ cls := "KnowHouseModel", name := "done", desc := "(I)I" } : Jvm.MethodName) ({ cls := "KnowHouseModel", name := "done", desc := "(I)I" } : Jvm.MethodName)) ∈ gW := gW_in 26 (by decide +kernel) rfl
theorem w_27 : (Jvm.Cond.selects "KnowHouseModel" ({ cls := "KnowHouseModel", name := "isPerson", desc := "(I)Z" } : Jvm.MethodName) ({ cls := "KnowHouseModel", name := "isPerson", desc := "(I)Z" } : Jvm.MethodName)) ∈ gW := gW_in 27 (by decide +kernel) rfl
theorem w_28 : (Jvm.Cond.selects "KnowHouseModel" ({ cls := "KnowHouseModel", name := "isHere", desc := "(I)Z" } : Jvm.MethodName) ({ cls := "KnowHouseModel", name := "isHere", desc := "(I)Z" } : Jvm.MethodName)) ∈ gW := gW_in 28 (by decide +kernel) rfl
theorem w_29 : (Jvm.Cond.selects "KnowHouseModel" ({ cls := "KnowHouseModel", name := "comes", desc := "(IIII)I" } : Jvm.MethodName) ({ cls := "KnowHouseModel", name := "comes", desc := "(IIII)I" } : Jvm.MethodName)) ∈ gW := gW_in 29 (by decide +kernel) rfl
theorem w_30 : (Jvm.Cond.selects "KnowHouseModel" ({ cls := "KnowHouseModel", name := "pairs", desc := "(IZ)V" } : Jvm.MethodName) ({ cls := "KnowHouseModel", name := "pairs", desc := "(IZ)V" } : Jvm.MethodName)) ∈ gW := gW_in 30 (by decide +kernel) rfl
theorem w_31 : (Jvm.Cond.selects "KnowHouseModel" ({ cls := "KnowHouseModel", name := "textAt", desc := "(II)I" } : Jvm.MethodName) ({ cls := "KnowHouseModel", name := "textAt", desc := "(II)I" } : Jvm.MethodName)) ∈ gW := gW_in 31 (by decide +kernel) rfl
theorem w_32 : (Jvm.Cond.selects "KnowHouseModel" ({ cls := "KnowHouseModel", name := "areAlike", desc := "(IIZ)Z" } : Jvm.MethodName) ({ cls := "KnowHouseModel", name := "areAlike", desc := "(IIZ)Z" } : Jvm.MethodName)) ∈ gW := gW_in 32 (by decide +kernel) rfl
theorem w_33 : (Jvm.Cond.selects "KnowHouseModel" ({ cls := "KnowHouseModel", name := "moves", desc := "(I)V" } : Jvm.MethodName) ({ cls := "KnowHouseModel", name := "moves", desc := "(I)V" } : Jvm.MethodName)) ∈ gW := gW_in 33 (by decide +kernel) rfl
theorem w_34 : (Jvm.Cond.selects "KnowHouseModel" ({ cls := "KnowHouseModel", name := "isTaken", desc := "(II)Z" } : Jvm.MethodName) ({ cls := "KnowHouseModel", name := "isTaken", desc := "(II)Z" } : Jvm.MethodName)) ∈ gW := gW_in 34 (by decide +kernel) rfl
theorem w_35 : (Jvm.Cond.selects "KnowHouseModel" ({ cls := "KnowHouseModel", name := "marks", desc := "([IIIII)V" } : Jvm.MethodName) ({ cls := "KnowHouseModel", name := "marks", desc := "([IIIII)V" } : Jvm.MethodName)) ∈ gW := gW_in 35 (by decide +kernel) rfl
theorem w_36 : (Jvm.Cond.selects "KnowHouseModel" ({ cls := "KnowHouseModel", name := "isChange", desc := "(I)Z" } : Jvm.MethodName) ({ cls := "KnowHouseModel", name := "isChange", desc := "(I)Z" } : Jvm.MethodName)) ∈ gW := gW_in 36 (by decide +kernel) rfl
theorem w_37 : (Jvm.Cond.selects "KnowHouseModel" ({ cls := "KnowHouseModel", name := "isLine", desc := "(II)Z" } : Jvm.MethodName) ({ cls := "KnowHouseModel", name := "isLine", desc := "(II)Z" } : Jvm.MethodName)) ∈ gW := gW_in 37 (by decide +kernel) rfl
theorem w_38 : (Jvm.Cond.selects "KnowHouseModel" ({ cls := "KnowHouseModel", name := "keepsAll", desc := "(Z)V" } : Jvm.MethodName) ({ cls := "KnowHouseModel", name := "keepsAll", desc := "(Z)V" } : Jvm.MethodName)) ∈ gW := gW_in 38 (by decide +kernel) rfl
theorem w_39 : (Jvm.Cond.selects "KnowHouseModel" ({ cls := "KnowHouseModel", name := "keeps", desc := "([IZ)V" } : Jvm.MethodName) ({ cls := "KnowHouseModel", name := "keeps", desc := "([IZ)V" } : Jvm.MethodName)) ∈ gW := gW_in 39 (by decide +kernel) rfl
theorem w_40 : (Jvm.Cond.selects "KnowHouseModel" ({ cls := "KnowHouseModel", name := "madeBy", desc := "(I)I" } : Jvm.MethodName) ({ cls := "KnowHouseModel", name := "madeBy", desc := "(I)I" } : Jvm.MethodName)) ∈ gW := gW_in 40 (by decide +kernel) rfl
theorem w_41 : (Jvm.Cond.selects "KnowHouseModel" ({ cls := "KnowHouseModel", name := "pointsFrom", desc := "(IIII)I" } : Jvm.MethodName) ({ cls := "KnowHouseModel", name := "pointsFrom", desc := "(IIII)I" } : Jvm.MethodName)) ∈ gW := gW_in 41 (by decide +kernel) rfl
theorem w_42 : (Jvm.Cond.selects "KnowHouseModel" ({ cls := "KnowHouseModel", name := "known", desc := "(II)I" } : Jvm.MethodName) ({ cls := "KnowHouseModel", name := "known", desc := "(II)I" } : Jvm.MethodName)) ∈ gW := gW_in 42 (by decide +kernel) rfl
theorem w_43 : (Jvm.Cond.selects "KnowHouseModel" ({ cls := "KnowHouseModel", name := "isAble", desc := "(II)Z" } : Jvm.MethodName) ({ cls := "KnowHouseModel", name := "isAble", desc := "(II)Z" } : Jvm.MethodName)) ∈ gW := gW_in 43 (by decide +kernel) rfl
theorem w_44 : (Jvm.Cond.selects "KnowHouseModel" ({ cls := "KnowHouseModel", name := "does", desc := "(II)Z" } : Jvm.MethodName) ({ cls := "KnowHouseModel", name := "does", desc := "(II)Z" } : Jvm.MethodName)) ∈ gW := gW_in 44 (by decide +kernel) rfl
theorem w_45 : (Jvm.Cond.selects "KnowHouseModel" ({ cls := "KnowHouseModel", name := "findAbles", desc := "()V" } : Jvm.MethodName) ({ cls := "KnowHouseModel", name := "findAbles", desc := "()V" } : Jvm.MethodName)) ∈ gW := gW_in 45 (by decide +kernel) rfl
theorem w_46 : (Jvm.Cond.selects "KnowHouseModel" ({ cls := "KnowHouseModel", name := "lostBy", desc := "(I)I" } : Jvm.MethodName) ({ cls := "KnowHouseModel", name := "lostBy", desc := "(I)I" } : Jvm.MethodName)) ∈ gW := gW_in 46 (by decide +kernel) rfl
theorem w_47 : (Jvm.Cond.selects "KnowHouseModel" ({ cls := "KnowHouseModel", name := "loneAt", desc := "(I)I" } : Jvm.MethodName) ({ cls := "KnowHouseModel", name := "loneAt", desc := "(I)I" } : Jvm.MethodName)) ∈ gW := gW_in 47 (by decide +kernel) rfl
theorem w_48 : (Jvm.Cond.selects "KnowHouseModel" ({ cls := "KnowHouseModel", name := "isLone", desc := "(I)Z" } : Jvm.MethodName) ({ cls := "KnowHouseModel", name := "isLone", desc := "(I)Z" } : Jvm.MethodName)) ∈ gW := gW_in 48 (by decide +kernel) rfl
theorem w_49 : (Jvm.Cond.selects "KnowHouseModel" ({ cls := "KnowHouseModel", name := "covers", desc := "(I)Z" } : Jvm.MethodName) ({ cls := "KnowHouseModel", name := "covers", desc := "(I)Z" } : Jvm.MethodName)) ∈ gW := gW_in 49 (by decide +kernel) rfl
theorem w_50 : (Jvm.Cond.selects "KnowHouseModel" ({ cls := "KnowHouseModel", name := "begins", desc := "(I)I" } : Jvm.MethodName) ({ cls := "KnowHouseModel", name := "begins", desc := "(I)I" } : Jvm.MethodName)) ∈ gW := gW_in 50 (by decide +kernel) rfl
theorem w_51 : (Jvm.Cond.selects "KnowHouseModel" ({ cls := "KnowHouseModel", name := "findTasks", desc := "()V" } : Jvm.MethodName) ({ cls := "KnowHouseModel", name := "findTasks", desc := "()V" } : Jvm.MethodName)) ∈ gW := gW_in 51 (by decide +kernel) rfl
theorem w_52 : (Jvm.Cond.selects "KnowHouseModel" ({ cls := "KnowHouseModel", name := "taskOf", desc := "(II)I" } : Jvm.MethodName) ({ cls := "KnowHouseModel", name := "taskOf", desc := "(II)I" } : Jvm.MethodName)) ∈ gW := gW_in 52 (by decide +kernel) rfl
theorem w_53 : (Jvm.Cond.selects "KnowHouseModel" ({ cls := "KnowHouseModel", name := "lacking", desc := "(II)I" } : Jvm.MethodName) ({ cls := "KnowHouseModel", name := "lacking", desc := "(II)I" } : Jvm.MethodName)) ∈ gW := gW_in 53 (by decide +kernel) rfl
theorem w_54 : (Jvm.Cond.selects "KnowHouseModel" ({ cls := "KnowHouseModel", name := "write", desc := "(II)I" } : Jvm.MethodName) ({ cls := "KnowHouseModel", name := "write", desc := "(II)I" } : Jvm.MethodName)) ∈ gW := gW_in 54 (by decide +kernel) rfl
theorem w_55 : (Jvm.Cond.selects "KnowHouseModel" ({ cls := "KnowHouseModel", name := "notes", desc := "(I)V" } : Jvm.MethodName) ({ cls := "KnowHouseModel", name := "notes", desc := "(I)V" } : Jvm.MethodName)) ∈ gW := gW_in 55 (by decide +kernel) rfl
theorem w_56 : (Jvm.Cond.selects "KnowHouseModel" ({ cls := "KnowHouseModel", name := "formedWrite", desc := "(II)I" } : Jvm.MethodName) ({ cls := "KnowHouseModel", name := "formedWrite", desc := "(II)I" } : Jvm.MethodName)) ∈ gW := gW_in 56 (by decide +kernel) rfl
theorem w_57 : (Jvm.Cond.selects "KnowHouseModel" ({ cls := "KnowHouseModel", name := "plainWrite", desc := "(II)I" } : Jvm.MethodName) ({ cls := "KnowHouseModel", name := "plainWrite", desc := "(II)I" } : Jvm.MethodName)) ∈ gW := gW_in 57 (by decide +kernel) rfl
theorem w_58 : (Jvm.Cond.selects "KnowHouseModel" ({ cls := "KnowHouseModel", name := "move", desc := "(II)I" } : Jvm.MethodName) ({ cls := "KnowHouseModel", name := "move", desc := "(II)I" } : Jvm.MethodName)) ∈ gW := gW_in 58 (by decide +kernel) rfl
theorem w_59 : (Jvm.Cond.selects "KnowHouseModel" ({ cls := "KnowHouseModel", name := "plainMove", desc := "(II)I" } : Jvm.MethodName) ({ cls := "KnowHouseModel", name := "plainMove", desc := "(II)I" } : Jvm.MethodName)) ∈ gW := gW_in 59 (by decide +kernel) rfl
theorem w_60 : (Jvm.Cond.selects "KnowHouseModel" ({ cls := "KnowHouseModel", name := "know", desc := "(II)I" } : Jvm.MethodName) ({ cls := "KnowHouseModel", name := "know", desc := "(II)I" } : Jvm.MethodName)) ∈ gW := gW_in 60 (by decide +kernel) rfl
theorem w_61 : (Jvm.Cond.selects "KnowHouseModel" ({ cls := "KnowHouseModel", name := "plainKnow", desc := "(II)I" } : Jvm.MethodName) ({ cls := "KnowHouseModel", name := "plainKnow", desc := "(II)I" } : Jvm.MethodName)) ∈ gW := gW_in 61 (by decide +kernel) rfl
theorem w_62 : (Jvm.Cond.selects "KnowHouseModel" ({ cls := "KnowHouseModel", name := "fade", desc := "(II)I" } : Jvm.MethodName) ({ cls := "KnowHouseModel", name := "fade", desc := "(II)I" } : Jvm.MethodName)) ∈ gW := gW_in 62 (by decide +kernel) rfl
theorem w_63 : (Jvm.Cond.selects "KnowHouseModel" ({ cls := "KnowHouseModel", name := "plainFade", desc := "(II)I" } : Jvm.MethodName) ({ cls := "KnowHouseModel", name := "plainFade", desc := "(II)I" } : Jvm.MethodName)) ∈ gW := gW_in 63 (by decide +kernel) rfl
theorem w_64 : (Jvm.Cond.selects "KnowHouseModel" ({ cls := "KnowHouseModel", name := "copied", desc := "(II)I" } : Jvm.MethodName) ({ cls := "KnowHouseModel", name := "copied", desc := "(II)I" } : Jvm.MethodName)) ∈ gW := gW_in 64 (by decide +kernel) rfl
theorem w_66 : (Jvm.Cond.initialized "KnowHouse") ∈ gW := gW_in 66 (by decide +kernel) rfl
theorem w_67 : (Jvm.Cond.initialized "KnowHouse$State") ∈ gW := gW_in 67 (by decide +kernel) rfl
theorem w_68 : (Jvm.Cond.initialized "KnowHouse$Page") ∈ gW := gW_in 68 (by decide +kernel) rfl
theorem w_69 : (Jvm.Cond.initialized "KnowHouse$Keeping") ∈ gW := gW_in 69 (by decide +kernel) rfl
theorem w_70 : (Jvm.Cond.initialized "KnowHouse$Teams") ∈ gW := gW_in 70 (by decide +kernel) rfl
theorem w_71 : (Jvm.Cond.initialized "KnowHouse$Planner") ∈ gW := gW_in 71 (by decide +kernel) rfl
theorem w_72 : (Jvm.Cond.initialized "KnowHouse$Acts") ∈ gW := gW_in 72 (by decide +kernel) rfl
theorem w_73 : (Jvm.Cond.initialized "KnowHouse$Sheet") ∈ gW := gW_in 73 (by decide +kernel) rfl
theorem w_74 : (Jvm.Cond.initialized "KnowHouseModel") ∈ gW := gW_in 74 (by decide +kernel) rfl
theorem w_75 : (Jvm.Cond.initialized "KnowHouse$Change") ∈ gW := gW_in 75 (by decide +kernel) rfl
theorem w_76 : (Jvm.Cond.initialized "java/util/Arrays") ∈ gW := gW_in 76 (by decide +kernel) rfl
theorem w_77 : (Jvm.Cond.initialized "java/lang/Math") ∈ gW := gW_in 77 (by decide +kernel) rfl
theorem w_78 : (Jvm.Cond.initialized "KnowHouse$Line") ∈ gW := gW_in 78 (by decide +kernel) rfl
theorem w_79 : (Jvm.Cond.initialized "java/lang/System") ∈ gW := gW_in 79 (by decide +kernel) rfl
theorem w_80 : (Jvm.Cond.initialized "java/lang/Integer") ∈ gW := gW_in 80 (by decide +kernel) rfl
theorem w_81 : (Jvm.Cond.classLink "KnowHouseLaw" (7 : Nat) "KnowHouse") ∈ gW := gW_in 81 (by decide +kernel) rfl
theorem w_82 : (Jvm.Cond.instantiable "KnowHouse" (10 : Nat)) ∈ gW := gW_in 82 (by decide +kernel) rfl
theorem w_83 : (Jvm.Cond.methodLink "KnowHouseLaw" (9 : Nat) ({ cls := "KnowHouse", name := "<init>", desc := "()V" } : Jvm.MethodName)) ∈ gW := gW_in 83 (by decide +kernel) rfl
theorem w_84 : (Jvm.Cond.instanceMethod ({ cls := "KnowHouse", name := "<init>", desc := "()V" } : Jvm.MethodName)) ∈ gW := gW_in 84 (by decide +kernel) rfl
set_option maxRecDepth 100000 in
theorem w_85 : (Jvm.Cond.code ({ cls := "KnowHouse", name := "<init>", desc := "()V" } : Jvm.MethodName) prog_1_method_1_code (2 : Nat) (Option.none : Option Jvm.ClassFile.FieldType)) ∈ gW := gW_in 85 rfl rfl
theorem w_86 : (Jvm.Cond.methodLink "KnowHouse" (1 : Nat) ({ cls := "java/lang/Object", name := "<init>", desc := "()V" } : Jvm.MethodName)) ∈ gW := gW_in 86 (by decide +kernel) rfl
theorem w_87 : (Jvm.Cond.instanceMethod ({ cls := "java/lang/Object", name := "<init>", desc := "()V" } : Jvm.MethodName)) ∈ gW := gW_in 87 (by decide +kernel) rfl
set_option maxRecDepth 100000 in
theorem w_88 : (Jvm.Cond.code ({ cls := "java/lang/Object", name := "<init>", desc := "()V" } : Jvm.MethodName) object_method_1_code (1 : Nat) (Option.none : Option Jvm.ClassFile.FieldType)) ∈ gW := gW_in 88 rfl rfl
theorem w_89 : (Jvm.Cond.classLink "KnowHouse" (7 : Nat) "KnowHouse$State") ∈ gW := gW_in 89 (by decide +kernel) rfl
theorem w_90 : (Jvm.Cond.instantiable "KnowHouse$State" (10 : Nat)) ∈ gW := gW_in 90 (by decide +kernel) rfl
theorem w_91 : (Jvm.Cond.methodLink "KnowHouse" (9 : Nat) ({ cls := "KnowHouse$State", name := "<init>", desc := "()V" } : Jvm.MethodName)) ∈ gW := gW_in 91 (by decide +kernel) rfl
theorem w_92 : (Jvm.Cond.instanceMethod ({ cls := "KnowHouse$State", name := "<init>", desc := "()V" } : Jvm.MethodName)) ∈ gW := gW_in 92 (by decide +kernel) rfl
set_option maxRecDepth 100000 in
theorem w_93 : (Jvm.Cond.code ({ cls := "KnowHouse$State", name := "<init>", desc := "()V" } : Jvm.MethodName) prog_9_method_1_code (3 : Nat) (Option.none : Option Jvm.ClassFile.FieldType)) ∈ gW := gW_in 93 rfl rfl
theorem w_94 : (Jvm.Cond.methodLink "KnowHouse$State" (3 : Nat) ({ cls := "java/lang/Object", name := "<init>", desc := "()V" } : Jvm.MethodName)) ∈ gW := gW_in 94 (by decide +kernel) rfl
theorem w_95 : (Jvm.Cond.classLink "KnowHouse$State" (22 : Nat) "KnowHouse$Page") ∈ gW := gW_in 95 (by decide +kernel) rfl
theorem w_97 : (Jvm.Cond.classLink "KnowHouse$State" (28 : Nat) "KnowHouse$Change") ∈ gW := gW_in 97 (by decide +kernel) rfl
theorem w_99 : (Jvm.Cond.instantiable "KnowHouse$Page" (1 : Nat)) ∈ gW := gW_in 99 (by decide +kernel) rfl
theorem w_100 : (Jvm.Cond.classLink "KnowHouse$State" (34 : Nat) "KnowHouse$Line") ∈ gW := gW_in 100 (by decide +kernel) rfl
theorem w_102 : (Jvm.Cond.methodLink "KnowHouse$State" (36 : Nat) ({ cls := "KnowHouse$Page", name := "<init>", desc := "([LKnowHouse$Line;)V" } : Jvm.MethodName)) ∈ gW := gW_in 102 (by decide +kernel) rfl
theorem w_103 : (Jvm.Cond.instanceMethod ({ cls := "KnowHouse$Page", name := "<init>", desc := "([LKnowHouse$Line;)V" } : Jvm.MethodName)) ∈ gW := gW_in 103 (by decide +kernel) rfl
set_option maxRecDepth 100000 in
theorem w_104 : (Jvm.Cond.code ({ cls := "KnowHouse$Page", name := "<init>", desc := "([LKnowHouse$Line;)V" } : Jvm.MethodName) prog_6_method_1_code (2 : Nat) (Option.none : Option Jvm.ClassFile.FieldType)) ∈ gW := gW_in 104 rfl rfl
theorem w_105 : (Jvm.Cond.methodLink "KnowHouse$Page" (3 : Nat) ({ cls := "java/lang/Object", name := "<init>", desc := "()V" } : Jvm.MethodName)) ∈ gW := gW_in 105 (by decide +kernel) rfl
theorem w_106 : (Jvm.Cond.fieldLink "KnowHouse$Page" (9 : Nat) "KnowHouse$Page" "rows" "[LKnowHouse$Line;") ∈ gW := gW_in 106 (by decide +kernel) rfl
theorem w_107 : (Jvm.Cond.fieldLink "KnowHouse$Keeping" (24 : Nat) "KnowHouse$Page" "rows" "[LKnowHouse$Line;") ∈ gW := gW_in 107 (by decide +kernel) rfl
theorem w_108 : (Jvm.Cond.fieldLink "KnowHouse$State" (90 : Nat) "KnowHouse$Page" "rows" "[LKnowHouse$Line;") ∈ gW := gW_in 108 (by decide +kernel) rfl
theorem w_112 : (Jvm.Cond.arrayClass Jvm.ClassFile.FieldType.int) ∈ gW := gW_in 112 (by decide +kernel) rfl
theorem w_113 : (Jvm.Cond.fieldLink "KnowHouse$State" (39 : Nat) "KnowHouse$State" "people" "I") ∈ gW := gW_in 113 (by decide +kernel) rfl
theorem w_114 : (Jvm.Cond.fieldLink "KnowHouse$Teams" (15 : Nat) "KnowHouse$State" "people" "I") ∈ gW := gW_in 114 (by decide +kernel) rfl
theorem w_115 : (Jvm.Cond.fieldLink "KnowHouse" (58 : Nat) "KnowHouse$State" "people" "I") ∈ gW := gW_in 115 (by decide +kernel) rfl
theorem w_116 : (Jvm.Cond.fieldLink "KnowHouse$State" (9 : Nat) "KnowHouse$State" "hours" "[I") ∈ gW := gW_in 116 (by decide +kernel) rfl
theorem w_117 : (Jvm.Cond.fieldLink "KnowHouse$Planner" (80 : Nat) "KnowHouse$State" "hours" "[I") ∈ gW := gW_in 117 (by decide +kernel) rfl
theorem w_118 : (Jvm.Cond.fieldLink "KnowHouse$State" (42 : Nat) "KnowHouse$State" "present" "I") ∈ gW := gW_in 118 (by decide +kernel) rfl
theorem w_119 : (Jvm.Cond.fieldLink "KnowHouse" (75 : Nat) "KnowHouse$State" "present" "I") ∈ gW := gW_in 119 (by decide +kernel) rfl
theorem w_120 : (Jvm.Cond.fieldLink "KnowHouse$Change" (32 : Nat) "KnowHouse$State" "day" "I") ∈ gW := gW_in 120 (by decide +kernel) rfl
theorem w_121 : (Jvm.Cond.fieldLink "KnowHouse$State" (45 : Nat) "KnowHouse$State" "day" "I") ∈ gW := gW_in 121 (by decide +kernel) rfl
theorem w_122 : (Jvm.Cond.fieldLink "KnowHouse$Planner" (63 : Nat) "KnowHouse$State" "day" "I") ∈ gW := gW_in 122 (by decide +kernel) rfl
theorem w_123 : (Jvm.Cond.fieldLink "KnowHouse" (78 : Nat) "KnowHouse$State" "day" "I") ∈ gW := gW_in 123 (by decide +kernel) rfl
theorem w_124 : (Jvm.Cond.fieldLink "KnowHouse$State" (15 : Nat) "KnowHouse$State" "share" "I") ∈ gW := gW_in 124 (by decide +kernel) rfl
theorem w_125 : (Jvm.Cond.fieldLink "KnowHouse" (82 : Nat) "KnowHouse$State" "share" "I") ∈ gW := gW_in 125 (by decide +kernel) rfl
theorem w_126 : (Jvm.Cond.fieldLink "KnowHouse$State" (48 : Nat) "KnowHouse$State" "taped" "I") ∈ gW := gW_in 126 (by decide +kernel) rfl
theorem w_127 : (Jvm.Cond.fieldLink "KnowHouse" (88 : Nat) "KnowHouse$State" "taped" "I") ∈ gW := gW_in 127 (by decide +kernel) rfl
theorem w_128 : (Jvm.Cond.fieldLink "KnowHouse$State" (19 : Nat) "KnowHouse$State" "tape" "[I") ∈ gW := gW_in 128 (by decide +kernel) rfl
theorem w_129 : (Jvm.Cond.fieldLink "KnowHouse" (91 : Nat) "KnowHouse$State" "tape" "[I") ∈ gW := gW_in 129 (by decide +kernel) rfl
theorem w_130 : (Jvm.Cond.fieldLink "KnowHouse$State" (24 : Nat) "KnowHouse$State" "pages" "[LKnowHouse$Page;") ∈ gW := gW_in 130 (by decide +kernel) rfl
theorem w_131 : (Jvm.Cond.fieldLink "KnowHouse$Change" (36 : Nat) "KnowHouse$State" "pages" "[LKnowHouse$Page;") ∈ gW := gW_in 131 (by decide +kernel) rfl
theorem w_132 : (Jvm.Cond.fieldLink "KnowHouse$Teams" (25 : Nat) "KnowHouse$State" "pages" "[LKnowHouse$Page;") ∈ gW := gW_in 132 (by decide +kernel) rfl
theorem w_133 : (Jvm.Cond.fieldLink "KnowHouse$Planner" (55 : Nat) "KnowHouse$State" "pages" "[LKnowHouse$Page;") ∈ gW := gW_in 133 (by decide +kernel) rfl
theorem w_134 : (Jvm.Cond.fieldLink "KnowHouse" (138 : Nat) "KnowHouse$State" "pages" "[LKnowHouse$Page;") ∈ gW := gW_in 134 (by decide +kernel) rfl
theorem w_135 : (Jvm.Cond.fieldLink "KnowHouse$Change" (9 : Nat) "KnowHouse$State" "changed" "I") ∈ gW := gW_in 135 (by decide +kernel) rfl
theorem w_136 : (Jvm.Cond.fieldLink "KnowHouse$State" (51 : Nat) "KnowHouse$State" "changed" "I") ∈ gW := gW_in 136 (by decide +kernel) rfl
theorem w_137 : (Jvm.Cond.fieldLink "KnowHouse" (99 : Nat) "KnowHouse$State" "changed" "I") ∈ gW := gW_in 137 (by decide +kernel) rfl
theorem w_138 : (Jvm.Cond.fieldLink "KnowHouse$State" (30 : Nat) "KnowHouse$State" "changes" "[LKnowHouse$Change;") ∈ gW := gW_in 138 (by decide +kernel) rfl
theorem w_160 : (Jvm.Cond.classLink "KnowHouse" (19 : Nat) "KnowHouse$Keeping") ∈ gW := gW_in 160 (by decide +kernel) rfl
theorem w_161 : (Jvm.Cond.instantiable "KnowHouse$Keeping" (7 : Nat)) ∈ gW := gW_in 161 (by decide +kernel) rfl
theorem w_163 : (Jvm.Cond.instanceMethod ({ cls := "KnowHouse$Keeping", name := "<init>", desc := "()V" } : Jvm.MethodName)) ∈ gW := gW_in 163 (by decide +kernel) rfl
set_option maxRecDepth 100000 in
theorem w_164 : (Jvm.Cond.code ({ cls := "KnowHouse$Keeping", name := "<init>", desc := "()V" } : Jvm.MethodName) prog_4_method_1_code (1 : Nat) (Option.none : Option Jvm.ClassFile.FieldType)) ∈ gW := gW_in 164 rfl rfl
theorem w_165 : (Jvm.Cond.methodLink "KnowHouse$Keeping" (3 : Nat) ({ cls := "java/lang/Object", name := "<init>", desc := "()V" } : Jvm.MethodName)) ∈ gW := gW_in 165 (by decide +kernel) rfl
theorem w_166 : (Jvm.Cond.fieldLink "KnowHouse$Keeping" (11 : Nat) "KnowHouse$Keeping" "most" "[I") ∈ gW := gW_in 166 (by decide +kernel) rfl
theorem w_167 : (Jvm.Cond.fieldLink "KnowHouse$Keeping" (15 : Nat) "KnowHouse$Keeping" "oldOf" "[I") ∈ gW := gW_in 167 (by decide +kernel) rfl
theorem w_168 : (Jvm.Cond.fieldLink "KnowHouse$Keeping" (51 : Nat) "KnowHouse$Keeping" "taken" "I") ∈ gW := gW_in 168 (by decide +kernel) rfl
theorem w_169 : (Jvm.Cond.fieldLink "KnowHouse$Keeping" (30 : Nat) "KnowHouse$Keeping" "old" "[LKnowHouse$Line;") ∈ gW := gW_in 169 (by decide +kernel) rfl
theorem w_170 : (Jvm.Cond.fieldLink "KnowHouse$Keeping" (33 : Nat) "KnowHouse$Keeping" "texts" "[I") ∈ gW := gW_in 170 (by decide +kernel) rfl
theorem w_171 : (Jvm.Cond.fieldLink "KnowHouse$Keeping" (36 : Nat) "KnowHouse$Keeping" "newSize" "I") ∈ gW := gW_in 171 (by decide +kernel) rfl
theorem w_172 : (Jvm.Cond.fieldLink "KnowHouse$Keeping" (47 : Nat) "KnowHouse$Keeping" "isByWording" "Z") ∈ gW := gW_in 172 (by decide +kernel) rfl
theorem w_188 : (Jvm.Cond.classLink "KnowHouse" (26 : Nat) "KnowHouse$Teams") ∈ gW := gW_in 188 (by decide +kernel) rfl
theorem w_189 : (Jvm.Cond.instantiable "KnowHouse$Teams" (1 : Nat)) ∈ gW := gW_in 189 (by decide +kernel) rfl
theorem w_191 : (Jvm.Cond.instanceMethod ({ cls := "KnowHouse$Teams", name := "<init>", desc := "()V" } : Jvm.MethodName)) ∈ gW := gW_in 191 (by decide +kernel) rfl
set_option maxRecDepth 100000 in
theorem w_192 : (Jvm.Cond.code ({ cls := "KnowHouse$Teams", name := "<init>", desc := "()V" } : Jvm.MethodName) prog_10_method_1_code (1 : Nat) (Option.none : Option Jvm.ClassFile.FieldType)) ∈ gW := gW_in 192 rfl rfl
theorem w_193 : (Jvm.Cond.methodLink "KnowHouse$Teams" (3 : Nat) ({ cls := "java/lang/Object", name := "<init>", desc := "()V" } : Jvm.MethodName)) ∈ gW := gW_in 193 (by decide +kernel) rfl
theorem w_194 : (Jvm.Cond.fieldLink "KnowHouse$Teams" (9 : Nat) "KnowHouse$Teams" "teams" "[I") ∈ gW := gW_in 194 (by decide +kernel) rfl
theorem w_198 : (Jvm.Cond.classLink "KnowHouse" (33 : Nat) "KnowHouse$Planner") ∈ gW := gW_in 198 (by decide +kernel) rfl
theorem w_199 : (Jvm.Cond.instantiable "KnowHouse$Planner" (6 : Nat)) ∈ gW := gW_in 199 (by decide +kernel) rfl
theorem w_201 : (Jvm.Cond.instanceMethod ({ cls := "KnowHouse$Planner", name := "<init>", desc := "()V" } : Jvm.MethodName)) ∈ gW := gW_in 201 (by decide +kernel) rfl
set_option maxRecDepth 100000 in
theorem w_202 : (Jvm.Cond.code ({ cls := "KnowHouse$Planner", name := "<init>", desc := "()V" } : Jvm.MethodName) prog_7_method_1_code (1 : Nat) (Option.none : Option Jvm.ClassFile.FieldType)) ∈ gW := gW_in 202 rfl rfl
theorem w_203 : (Jvm.Cond.methodLink "KnowHouse$Planner" (3 : Nat) ({ cls := "java/lang/Object", name := "<init>", desc := "()V" } : Jvm.MethodName)) ∈ gW := gW_in 203 (by decide +kernel) rfl
theorem w_204 : (Jvm.Cond.fieldLink "KnowHouse$Planner" (39 : Nat) "KnowHouse$Planner" "hours" "I") ∈ gW := gW_in 204 (by decide +kernel) rfl
theorem w_205 : (Jvm.Cond.fieldLink "KnowHouse" (216 : Nat) "KnowHouse$Planner" "hours" "I") ∈ gW := gW_in 205 (by decide +kernel) rfl
theorem w_206 : (Jvm.Cond.fieldLink "KnowHouse$Planner" (9 : Nat) "KnowHouse$Planner" "chosen" "[I") ∈ gW := gW_in 206 (by decide +kernel) rfl
theorem w_207 : (Jvm.Cond.fieldLink "KnowHouse" (219 : Nat) "KnowHouse$Planner" "chosen" "[I") ∈ gW := gW_in 207 (by decide +kernel) rfl
theorem w_208 : (Jvm.Cond.fieldLink "KnowHouse$Planner" (15 : Nat) "KnowHouse$Planner" "slotsOf" "[I") ∈ gW := gW_in 208 (by decide +kernel) rfl
theorem w_209 : (Jvm.Cond.fieldLink "KnowHouse$Planner" (35 : Nat) "KnowHouse$Planner" "slots" "I") ∈ gW := gW_in 209 (by decide +kernel) rfl
theorem w_210 : (Jvm.Cond.fieldLink "KnowHouse$Planner" (18 : Nat) "KnowHouse$Planner" "taskHours" "[I") ∈ gW := gW_in 210 (by decide +kernel) rfl
theorem w_211 : (Jvm.Cond.fieldLink "KnowHouse$Planner" (21 : Nat) "KnowHouse$Planner" "least" "[I") ∈ gW := gW_in 211 (by decide +kernel) rfl
theorem w_225 : (Jvm.Cond.classLink "KnowHouse" (40 : Nat) "KnowHouse$Acts") ∈ gW := gW_in 225 (by decide +kernel) rfl
theorem w_226 : (Jvm.Cond.instantiable "KnowHouse$Acts" (2 : Nat)) ∈ gW := gW_in 226 (by decide +kernel) rfl
theorem w_228 : (Jvm.Cond.instanceMethod ({ cls := "KnowHouse$Acts", name := "<init>", desc := "()V" } : Jvm.MethodName)) ∈ gW := gW_in 228 (by decide +kernel) rfl
set_option maxRecDepth 100000 in
theorem w_229 : (Jvm.Cond.code ({ cls := "KnowHouse$Acts", name := "<init>", desc := "()V" } : Jvm.MethodName) prog_2_method_1_code (1 : Nat) (Option.none : Option Jvm.ClassFile.FieldType)) ∈ gW := gW_in 229 rfl rfl
theorem w_230 : (Jvm.Cond.methodLink "KnowHouse$Acts" (3 : Nat) ({ cls := "java/lang/Object", name := "<init>", desc := "()V" } : Jvm.MethodName)) ∈ gW := gW_in 230 (by decide +kernel) rfl
theorem w_231 : (Jvm.Cond.fieldLink "KnowHouse$Acts" (11 : Nat) "KnowHouse$Acts" "bodies" "[I") ∈ gW := gW_in 231 (by decide +kernel) rfl
theorem w_232 : (Jvm.Cond.fieldLink "KnowHouse" (241 : Nat) "KnowHouse$Acts" "bodies" "[I") ∈ gW := gW_in 232 (by decide +kernel) rfl
theorem w_233 : (Jvm.Cond.fieldLink "KnowHouse$Acts" (15 : Nat) "KnowHouse$Acts" "traced" "I") ∈ gW := gW_in 233 (by decide +kernel) rfl
theorem w_234 : (Jvm.Cond.fieldLink "KnowHouse" (234 : Nat) "KnowHouse$Acts" "traced" "I") ∈ gW := gW_in 234 (by decide +kernel) rfl
theorem w_240 : (Jvm.Cond.classLink "KnowHouse" (47 : Nat) "KnowHouse$Sheet") ∈ gW := gW_in 240 (by decide +kernel) rfl
theorem w_242 : (Jvm.Cond.instantiable "KnowHouse$Sheet" (3 : Nat)) ∈ gW := gW_in 242 (by decide +kernel) rfl
theorem w_244 : (Jvm.Cond.instanceMethod ({ cls := "KnowHouse$Sheet", name := "<init>", desc := "()V" } : Jvm.MethodName)) ∈ gW := gW_in 244 (by decide +kernel) rfl
set_option maxRecDepth 100000 in
theorem w_245 : (Jvm.Cond.code ({ cls := "KnowHouse$Sheet", name := "<init>", desc := "()V" } : Jvm.MethodName) prog_8_method_1_code (1 : Nat) (Option.none : Option Jvm.ClassFile.FieldType)) ∈ gW := gW_in 245 rfl rfl
theorem w_246 : (Jvm.Cond.methodLink "KnowHouse$Sheet" (3 : Nat) ({ cls := "java/lang/Object", name := "<init>", desc := "()V" } : Jvm.MethodName)) ∈ gW := gW_in 246 (by decide +kernel) rfl
theorem w_247 : (Jvm.Cond.fieldLink "KnowHouse$Sheet" (9 : Nat) "KnowHouse$Sheet" "sort" "I") ∈ gW := gW_in 247 (by decide +kernel) rfl
theorem w_248 : (Jvm.Cond.fieldLink "KnowHouse" (252 : Nat) "KnowHouse$Sheet" "sort" "I") ∈ gW := gW_in 248 (by decide +kernel) rfl
theorem w_249 : (Jvm.Cond.fieldLink "KnowHouse$Sheet" (19 : Nat) "KnowHouse$Sheet" "size" "I") ∈ gW := gW_in 249 (by decide +kernel) rfl
theorem w_250 : (Jvm.Cond.fieldLink "KnowHouse" (255 : Nat) "KnowHouse$Sheet" "size" "I") ∈ gW := gW_in 250 (by decide +kernel) rfl
theorem w_251 : (Jvm.Cond.fieldLink "KnowHouse$Sheet" (15 : Nat) "KnowHouse$Sheet" "numbers" "[I") ∈ gW := gW_in 251 (by decide +kernel) rfl
theorem w_252 : (Jvm.Cond.fieldLink "KnowHouse" (257 : Nat) "KnowHouse$Sheet" "numbers" "[I") ∈ gW := gW_in 252 (by decide +kernel) rfl
theorem w_260 : (Jvm.Cond.fieldLink "KnowHouse" (10 : Nat) "KnowHouse" "now" "LKnowHouse$State;") ∈ gW := gW_in 260 (by decide +kernel) rfl
theorem w_261 : (Jvm.Cond.fieldLink "KnowHouse" (16 : Nat) "KnowHouse" "saved" "LKnowHouse$State;") ∈ gW := gW_in 261 (by decide +kernel) rfl
theorem w_262 : (Jvm.Cond.fieldLink "KnowHouse" (22 : Nat) "KnowHouse" "keeping" "LKnowHouse$Keeping;") ∈ gW := gW_in 262 (by decide +kernel) rfl
theorem w_263 : (Jvm.Cond.fieldLink "KnowHouse" (29 : Nat) "KnowHouse" "teams" "LKnowHouse$Teams;") ∈ gW := gW_in 263 (by decide +kernel) rfl
theorem w_264 : (Jvm.Cond.fieldLink "KnowHouse" (36 : Nat) "KnowHouse" "planner" "LKnowHouse$Planner;") ∈ gW := gW_in 264 (by decide +kernel) rfl
theorem w_265 : (Jvm.Cond.fieldLink "KnowHouse" (43 : Nat) "KnowHouse" "acts" "LKnowHouse$Acts;") ∈ gW := gW_in 265 (by decide +kernel) rfl
theorem w_266 : (Jvm.Cond.fieldLink "KnowHouse" (49 : Nat) "KnowHouse" "sheets" "[LKnowHouse$Sheet;") ∈ gW := gW_in 266 (by decide +kernel) rfl
theorem w_267 : (Jvm.Cond.fieldLink "KnowHouse" (150 : Nat) "KnowHouse" "isSaved" "Z") ∈ gW := gW_in 267 (by decide +kernel) rfl
theorem w_268 : (Jvm.Cond.fieldLink "KnowHouse" (154 : Nat) "KnowHouse" "restored" "I") ∈ gW := gW_in 268 (by decide +kernel) rfl
theorem w_269 : (Jvm.Cond.fieldLink "KnowHouse" (290 : Nat) "KnowHouse" "status" "I") ∈ gW := gW_in 269 (by decide +kernel) rfl
theorem w_291 : (Jvm.Cond.methodLink "KnowHouseLaw" (13 : Nat) ({ cls := "KnowHouse", name := "person", desc := "(I)I" } : Jvm.MethodName)) ∈ gW := gW_in 291 (by decide +kernel) rfl
theorem w_292 : (Jvm.Cond.instanceMethod ({ cls := "KnowHouse", name := "person", desc := "(I)I" } : Jvm.MethodName)) ∈ gW := gW_in 292 (by decide +kernel) rfl
theorem w_293 : (Jvm.Cond.selects "KnowHouse" ({ cls := "KnowHouse", name := "person", desc := "(I)I" } : Jvm.MethodName) ({ cls := "KnowHouse", name := "person", desc := "(I)I" } : Jvm.MethodName)) ∈ gW := gW_in 293 (by decide +kernel) rfl
set_option maxRecDepth 100000 in
theorem w_294 : (Jvm.Cond.code ({ cls := "KnowHouse", name := "person", desc := "(I)I" } : Jvm.MethodName) prog_1_method_2_code (2 : Nat) (Option.some Jvm.ClassFile.FieldType.int)) ∈ gW := gW_in 294 rfl rfl
theorem w_295 : (Jvm.Cond.methodLink "KnowHouse" (54 : Nat) ({ cls := "KnowHouse", name := "refused", desc := "(I)I" } : Jvm.MethodName)) ∈ gW := gW_in 295 (by decide +kernel) rfl
theorem w_297 : (Jvm.Cond.instanceMethod ({ cls := "KnowHouse", name := "refused", desc := "(I)I" } : Jvm.MethodName)) ∈ gW := gW_in 297 (by decide +kernel) rfl
set_option maxRecDepth 100000 in
theorem w_298 : (Jvm.Cond.code ({ cls := "KnowHouse", name := "refused", desc := "(I)I" } : Jvm.MethodName) prog_1_method_34_code (2 : Nat) (Option.some Jvm.ClassFile.FieldType.int)) ∈ gW := gW_in 298 rfl rfl
theorem w_299 : (Jvm.Cond.methodLink "KnowHouse" (62 : Nat) ({ cls := "KnowHouse$State", name := "addPerson", desc := "(I)I" } : Jvm.MethodName)) ∈ gW := gW_in 299 (by decide +kernel) rfl
theorem w_300 : (Jvm.Cond.instanceMethod ({ cls := "KnowHouse$State", name := "addPerson", desc := "(I)I" } : Jvm.MethodName)) ∈ gW := gW_in 300 (by decide +kernel) rfl
theorem w_301 : (Jvm.Cond.selects "KnowHouse$State" ({ cls := "KnowHouse$State", name := "addPerson", desc := "(I)I" } : Jvm.MethodName) ({ cls := "KnowHouse$State", name := "addPerson", desc := "(I)I" } : Jvm.MethodName)) ∈ gW := gW_in 301 (by decide +kernel) rfl
set_option maxRecDepth 100000 in
theorem w_302 : (Jvm.Cond.code ({ cls := "KnowHouse$State", name := "addPerson", desc := "(I)I" } : Jvm.MethodName) prog_9_method_3_code (3 : Nat) (Option.some Jvm.ClassFile.FieldType.int)) ∈ gW := gW_in 302 rfl rfl
theorem w_303 : (Jvm.Cond.methodLink "KnowHouse" (65 : Nat) ({ cls := "KnowHouse", name := "done", desc := "(I)I" } : Jvm.MethodName)) ∈ gW := gW_in 303 (by decide +kernel) rfl
theorem w_305 : (Jvm.Cond.instanceMethod ({ cls := "KnowHouse", name := "done", desc := "(I)I" } : Jvm.MethodName)) ∈ gW := gW_in 305 (by decide +kernel) rfl
set_option maxRecDepth 100000 in
theorem w_306 : (Jvm.Cond.code ({ cls := "KnowHouse", name := "done", desc := "(I)I" } : Jvm.MethodName) prog_1_method_33_code (2 : Nat) (Option.some Jvm.ClassFile.FieldType.int)) ∈ gW := gW_in 306 rfl rfl
theorem w_307 : (Jvm.Cond.methodLink "KnowHouseLaw" (18 : Nat) ({ cls := "KnowHouse", name := "here", desc := "(IZ)I" } : Jvm.MethodName)) ∈ gW := gW_in 307 (by decide +kernel) rfl
theorem w_308 : (Jvm.Cond.instanceMethod ({ cls := "KnowHouse", name := "here", desc := "(IZ)I" } : Jvm.MethodName)) ∈ gW := gW_in 308 (by decide +kernel) rfl
theorem w_309 : (Jvm.Cond.selects "KnowHouse" ({ cls := "KnowHouse", name := "here", desc := "(IZ)I" } : Jvm.MethodName) ({ cls := "KnowHouse", name := "here", desc := "(IZ)I" } : Jvm.MethodName)) ∈ gW := gW_in 309 (by decide +kernel) rfl
set_option maxRecDepth 100000 in
theorem w_310 : (Jvm.Cond.code ({ cls := "KnowHouse", name := "here", desc := "(IZ)I" } : Jvm.MethodName) prog_1_method_3_code (4 : Nat) (Option.some Jvm.ClassFile.FieldType.int)) ∈ gW := gW_in 310 rfl rfl
theorem w_311 : (Jvm.Cond.methodLink "KnowHouse" (68 : Nat) ({ cls := "KnowHouse$State", name := "isPerson", desc := "(I)Z" } : Jvm.MethodName)) ∈ gW := gW_in 311 (by decide +kernel) rfl
theorem w_312 : (Jvm.Cond.instanceMethod ({ cls := "KnowHouse$State", name := "isPerson", desc := "(I)Z" } : Jvm.MethodName)) ∈ gW := gW_in 312 (by decide +kernel) rfl
theorem w_313 : (Jvm.Cond.selects "KnowHouse$State" ({ cls := "KnowHouse$State", name := "isPerson", desc := "(I)Z" } : Jvm.MethodName) ({ cls := "KnowHouse$State", name := "isPerson", desc := "(I)Z" } : Jvm.MethodName)) ∈ gW := gW_in 313 (by decide +kernel) rfl
set_option maxRecDepth 100000 in
theorem w_314 : (Jvm.Cond.code ({ cls := "KnowHouse$State", name := "isPerson", desc := "(I)Z" } : Jvm.MethodName) prog_9_method_5_code (2 : Nat) (Option.some Jvm.ClassFile.FieldType.boolean)) ∈ gW := gW_in 314 rfl rfl
theorem w_315 : (Jvm.Cond.methodLink "KnowHouse" (72 : Nat) ({ cls := "KnowHouse$State", name := "isHere", desc := "(I)Z" } : Jvm.MethodName)) ∈ gW := gW_in 315 (by decide +kernel) rfl
theorem w_316 : (Jvm.Cond.instanceMethod ({ cls := "KnowHouse$State", name := "isHere", desc := "(I)Z" } : Jvm.MethodName)) ∈ gW := gW_in 316 (by decide +kernel) rfl
theorem w_317 : (Jvm.Cond.selects "KnowHouse$State" ({ cls := "KnowHouse$State", name := "isHere", desc := "(I)Z" } : Jvm.MethodName) ({ cls := "KnowHouse$State", name := "isHere", desc := "(I)Z" } : Jvm.MethodName)) ∈ gW := gW_in 317 (by decide +kernel) rfl
set_option maxRecDepth 100000 in
theorem w_318 : (Jvm.Cond.code ({ cls := "KnowHouse$State", name := "isHere", desc := "(I)Z" } : Jvm.MethodName) prog_9_method_6_code (2 : Nat) (Option.some Jvm.ClassFile.FieldType.boolean)) ∈ gW := gW_in 318 rfl rfl
theorem w_319 : (Jvm.Cond.methodLink "KnowHouseLaw" (23 : Nat) ({ cls := "KnowHouse", name := "day", desc := "(I)I" } : Jvm.MethodName)) ∈ gW := gW_in 319 (by decide +kernel) rfl
theorem w_320 : (Jvm.Cond.instanceMethod ({ cls := "KnowHouse", name := "day", desc := "(I)I" } : Jvm.MethodName)) ∈ gW := gW_in 320 (by decide +kernel) rfl
theorem w_321 : (Jvm.Cond.selects "KnowHouse" ({ cls := "KnowHouse", name := "day", desc := "(I)I" } : Jvm.MethodName) ({ cls := "KnowHouse", name := "day", desc := "(I)I" } : Jvm.MethodName)) ∈ gW := gW_in 321 (by decide +kernel) rfl
set_option maxRecDepth 100000 in
theorem w_322 : (Jvm.Cond.code ({ cls := "KnowHouse", name := "day", desc := "(I)I" } : Jvm.MethodName) prog_1_method_4_code (2 : Nat) (Option.some Jvm.ClassFile.FieldType.int)) ∈ gW := gW_in 322 rfl rfl
theorem w_323 : (Jvm.Cond.constant "KnowHouse" (81 : Nat) (100000 : Int32)) ∈ gW := gW_in 323 (by decide +kernel) rfl
theorem w_324 : (Jvm.Cond.methodLink "KnowHouseLaw" (27 : Nat) ({ cls := "KnowHouse", name := "share", desc := "(I)I" } : Jvm.MethodName)) ∈ gW := gW_in 324 (by decide +kernel) rfl
theorem w_325 : (Jvm.Cond.instanceMethod ({ cls := "KnowHouse", name := "share", desc := "(I)I" } : Jvm.MethodName)) ∈ gW := gW_in 325 (by decide +kernel) rfl
theorem w_326 : (Jvm.Cond.selects "KnowHouse" ({ cls := "KnowHouse", name := "share", desc := "(I)I" } : Jvm.MethodName) ({ cls := "KnowHouse", name := "share", desc := "(I)I" } : Jvm.MethodName)) ∈ gW := gW_in 326 (by decide +kernel) rfl
set_option maxRecDepth 100000 in
theorem w_327 : (Jvm.Cond.code ({ cls := "KnowHouse", name := "share", desc := "(I)I" } : Jvm.MethodName) prog_1_method_5_code (3 : Nat) (Option.some Jvm.ClassFile.FieldType.int)) ∈ gW := gW_in 327 rfl rfl
theorem w_328 : (Jvm.Cond.methodLink "KnowHouseLaw" (31 : Nat) ({ cls := "KnowHouse", name := "text", desc := "(I)I" } : Jvm.MethodName)) ∈ gW := gW_in 328 (by decide +kernel) rfl
theorem w_329 : (Jvm.Cond.instanceMethod ({ cls := "KnowHouse", name := "text", desc := "(I)I" } : Jvm.MethodName)) ∈ gW := gW_in 329 (by decide +kernel) rfl
theorem w_330 : (Jvm.Cond.selects "KnowHouse" ({ cls := "KnowHouse", name := "text", desc := "(I)I" } : Jvm.MethodName) ({ cls := "KnowHouse", name := "text", desc := "(I)I" } : Jvm.MethodName)) ∈ gW := gW_in 330 (by decide +kernel) rfl
set_option maxRecDepth 100000 in
theorem w_331 : (Jvm.Cond.code ({ cls := "KnowHouse", name := "text", desc := "(I)I" } : Jvm.MethodName) prog_1_method_6_code (2 : Nat) (Option.some Jvm.ClassFile.FieldType.int)) ∈ gW := gW_in 331 rfl rfl
theorem w_332 : (Jvm.Cond.methodLink "KnowHouse" (85 : Nat) ({ cls := "KnowHouse", name := "isText", desc := "(I)Z" } : Jvm.MethodName)) ∈ gW := gW_in 332 (by decide +kernel) rfl
theorem w_333 : (Jvm.Cond.static ({ cls := "KnowHouse", name := "isText", desc := "(I)Z" } : Jvm.MethodName)) ∈ gW := gW_in 333 (by decide +kernel) rfl
set_option maxRecDepth 100000 in
theorem w_334 : (Jvm.Cond.code ({ cls := "KnowHouse", name := "isText", desc := "(I)Z" } : Jvm.MethodName) prog_1_method_41_code (1 : Nat) (Option.some Jvm.ClassFile.FieldType.boolean)) ∈ gW := gW_in 334 rfl rfl
theorem w_335 : (Jvm.Cond.methodLink "KnowHouseLaw" (35 : Nat) ({ cls := "KnowHouse", name := "wipe", desc := "()I" } : Jvm.MethodName)) ∈ gW := gW_in 335 (by decide +kernel) rfl
theorem w_336 : (Jvm.Cond.instanceMethod ({ cls := "KnowHouse", name := "wipe", desc := "()I" } : Jvm.MethodName)) ∈ gW := gW_in 336 (by decide +kernel) rfl
theorem w_337 : (Jvm.Cond.selects "KnowHouse" ({ cls := "KnowHouse", name := "wipe", desc := "()I" } : Jvm.MethodName) ({ cls := "KnowHouse", name := "wipe", desc := "()I" } : Jvm.MethodName)) ∈ gW := gW_in 337 (by decide +kernel) rfl
set_option maxRecDepth 100000 in
theorem w_338 : (Jvm.Cond.code ({ cls := "KnowHouse", name := "wipe", desc := "()I" } : Jvm.MethodName) prog_1_method_7_code (2 : Nat) (Option.some Jvm.ClassFile.FieldType.int)) ∈ gW := gW_in 338 rfl rfl
theorem w_339 : (Jvm.Cond.methodLink "KnowHouseLaw" (40 : Nat) ({ cls := "KnowHouse", name := "change", desc := "(IIII)I" } : Jvm.MethodName)) ∈ gW := gW_in 339 (by decide +kernel) rfl
theorem w_340 : (Jvm.Cond.instanceMethod ({ cls := "KnowHouse", name := "change", desc := "(IIII)I" } : Jvm.MethodName)) ∈ gW := gW_in 340 (by decide +kernel) rfl
theorem w_341 : (Jvm.Cond.selects "KnowHouse" ({ cls := "KnowHouse", name := "change", desc := "(IIII)I" } : Jvm.MethodName) ({ cls := "KnowHouse", name := "change", desc := "(IIII)I" } : Jvm.MethodName)) ∈ gW := gW_in 341 (by decide +kernel) rfl
set_option maxRecDepth 100000 in
theorem w_342 : (Jvm.Cond.code ({ cls := "KnowHouse", name := "change", desc := "(IIII)I" } : Jvm.MethodName) prog_1_method_8_code (8 : Nat) (Option.some Jvm.ClassFile.FieldType.int)) ∈ gW := gW_in 342 rfl rfl
theorem w_343 : (Jvm.Cond.methodLink "KnowHouse" (95 : Nat) ({ cls := "KnowHouse$State", name := "pageOf", desc := "(I)LKnowHouse$Page;" } : Jvm.MethodName)) ∈ gW := gW_in 343 (by decide +kernel) rfl
theorem w_344 : (Jvm.Cond.instanceMethod ({ cls := "KnowHouse$State", name := "pageOf", desc := "(I)LKnowHouse$Page;" } : Jvm.MethodName)) ∈ gW := gW_in 344 (by decide +kernel) rfl
theorem w_345 : (Jvm.Cond.selects "KnowHouse$State" ({ cls := "KnowHouse$State", name := "pageOf", desc := "(I)LKnowHouse$Page;" } : Jvm.MethodName) ({ cls := "KnowHouse$State", name := "pageOf", desc := "(I)LKnowHouse$Page;" } : Jvm.MethodName)) ∈ gW := gW_in 345 (by decide +kernel) rfl
set_option maxRecDepth 100000 in
theorem w_346 : (Jvm.Cond.code ({ cls := "KnowHouse$State", name := "pageOf", desc := "(I)LKnowHouse$Page;" } : Jvm.MethodName) prog_9_method_7_code (2 : Nat) (Option.some (Jvm.ClassFile.FieldType.object "KnowHouse$Page"))) ∈ gW := gW_in 346 rfl rfl
theorem w_347 : (Jvm.Cond.classLink "KnowHouse" (102 : Nat) "KnowHouse$Change") ∈ gW := gW_in 347 (by decide +kernel) rfl
theorem w_348 : (Jvm.Cond.instantiable "KnowHouse$Change" (8 : Nat)) ∈ gW := gW_in 348 (by decide +kernel) rfl
theorem w_349 : (Jvm.Cond.methodLink "KnowHouse" (104 : Nat) ({ cls := "KnowHouse$Change", name := "<init>", desc := "(LKnowHouse$State;IIII)V" } : Jvm.MethodName)) ∈ gW := gW_in 349 (by decide +kernel) rfl
theorem w_350 : (Jvm.Cond.instanceMethod ({ cls := "KnowHouse$Change", name := "<init>", desc := "(LKnowHouse$State;IIII)V" } : Jvm.MethodName)) ∈ gW := gW_in 350 (by decide +kernel) rfl
set_option maxRecDepth 100000 in
theorem w_351 : (Jvm.Cond.code ({ cls := "KnowHouse$Change", name := "<init>", desc := "(LKnowHouse$State;IIII)V" } : Jvm.MethodName) prog_3_method_1_code (6 : Nat) (Option.none : Option Jvm.ClassFile.FieldType)) ∈ gW := gW_in 351 rfl rfl
theorem w_352 : (Jvm.Cond.methodLink "KnowHouse$Change" (3 : Nat) ({ cls := "java/lang/Object", name := "<init>", desc := "()V" } : Jvm.MethodName)) ∈ gW := gW_in 352 (by decide +kernel) rfl
theorem w_353 : (Jvm.Cond.fieldLink "KnowHouse$Change" (15 : Nat) "KnowHouse$Change" "number" "I") ∈ gW := gW_in 353 (by decide +kernel) rfl
theorem w_354 : (Jvm.Cond.fieldLink "KnowHouse$Acts" (48 : Nat) "KnowHouse$Change" "number" "I") ∈ gW := gW_in 354 (by decide +kernel) rfl
theorem w_355 : (Jvm.Cond.fieldLink "KnowHouse$State" (60 : Nat) "KnowHouse$Change" "number" "I") ∈ gW := gW_in 355 (by decide +kernel) rfl
theorem w_356 : (Jvm.Cond.fieldLink "KnowHouse" (115 : Nat) "KnowHouse$Change" "number" "I") ∈ gW := gW_in 356 (by decide +kernel) rfl
theorem w_357 : (Jvm.Cond.fieldLink "KnowHouse$Keeping" (101 : Nat) "KnowHouse$Change" "number" "I") ∈ gW := gW_in 357 (by decide +kernel) rfl
theorem w_358 : (Jvm.Cond.fieldLink "KnowHouse$Change" (20 : Nat) "KnowHouse$Change" "kind" "I") ∈ gW := gW_in 358 (by decide +kernel) rfl
theorem w_359 : (Jvm.Cond.fieldLink "KnowHouse$Acts" (19 : Nat) "KnowHouse$Change" "kind" "I") ∈ gW := gW_in 359 (by decide +kernel) rfl
theorem w_360 : (Jvm.Cond.fieldLink "KnowHouse$Keeping" (40 : Nat) "KnowHouse$Change" "kind" "I") ∈ gW := gW_in 360 (by decide +kernel) rfl
theorem w_361 : (Jvm.Cond.fieldLink "KnowHouse" (176 : Nat) "KnowHouse$Change" "kind" "I") ∈ gW := gW_in 361 (by decide +kernel) rfl
theorem w_362 : (Jvm.Cond.fieldLink "KnowHouse$Change" (23 : Nat) "KnowHouse$Change" "file" "I") ∈ gW := gW_in 362 (by decide +kernel) rfl
theorem w_363 : (Jvm.Cond.fieldLink "KnowHouse$State" (63 : Nat) "KnowHouse$Change" "file" "I") ∈ gW := gW_in 363 (by decide +kernel) rfl
theorem w_364 : (Jvm.Cond.fieldLink "KnowHouse" (122 : Nat) "KnowHouse$Change" "file" "I") ∈ gW := gW_in 364 (by decide +kernel) rfl
theorem w_365 : (Jvm.Cond.fieldLink "KnowHouse$Change" (26 : Nat) "KnowHouse$Change" "hand" "I") ∈ gW := gW_in 365 (by decide +kernel) rfl
theorem w_366 : (Jvm.Cond.fieldLink "KnowHouse$Acts" (42 : Nat) "KnowHouse$Change" "hand" "I") ∈ gW := gW_in 366 (by decide +kernel) rfl
theorem w_367 : (Jvm.Cond.fieldLink "KnowHouse" (179 : Nat) "KnowHouse$Change" "hand" "I") ∈ gW := gW_in 367 (by decide +kernel) rfl
theorem w_368 : (Jvm.Cond.fieldLink "KnowHouse$Change" (29 : Nat) "KnowHouse$Change" "other" "I") ∈ gW := gW_in 368 (by decide +kernel) rfl
theorem w_369 : (Jvm.Cond.fieldLink "KnowHouse" (182 : Nat) "KnowHouse$Change" "other" "I") ∈ gW := gW_in 369 (by decide +kernel) rfl
theorem w_370 : (Jvm.Cond.fieldLink "KnowHouse$Change" (35 : Nat) "KnowHouse$Change" "day" "I") ∈ gW := gW_in 370 (by decide +kernel) rfl
theorem w_371 : (Jvm.Cond.fieldLink "KnowHouse$Acts" (45 : Nat) "KnowHouse$Change" "day" "I") ∈ gW := gW_in 371 (by decide +kernel) rfl
theorem w_372 : (Jvm.Cond.fieldLink "KnowHouse" (185 : Nat) "KnowHouse$Change" "day" "I") ∈ gW := gW_in 372 (by decide +kernel) rfl
theorem w_373 : (Jvm.Cond.fieldLink "KnowHouse$Change" (40 : Nat) "KnowHouse$Change" "ahead" "LKnowHouse$Page;") ∈ gW := gW_in 373 (by decide +kernel) rfl
theorem w_374 : (Jvm.Cond.fieldLink "KnowHouse$Keeping" (18 : Nat) "KnowHouse$Change" "ahead" "LKnowHouse$Page;") ∈ gW := gW_in 374 (by decide +kernel) rfl
theorem w_375 : (Jvm.Cond.fieldLink "KnowHouse" (125 : Nat) "KnowHouse$Change" "ahead" "LKnowHouse$Page;") ∈ gW := gW_in 375 (by decide +kernel) rfl
theorem w_376 : (Jvm.Cond.fieldLink "KnowHouse" (135 : Nat) "KnowHouse$Change" "lasting" "I") ∈ gW := gW_in 376 (by decide +kernel) rfl
theorem w_377 : (Jvm.Cond.fieldLink "KnowHouse$Keeping" (111 : Nat) "KnowHouse$Change" "lasting" "I") ∈ gW := gW_in 377 (by decide +kernel) rfl
theorem w_395 : (Jvm.Cond.methodLink "KnowHouse" (107 : Nat) ({ cls := "KnowHouse$Keeping", name := "after", desc := "(LKnowHouse$Change;[II)LKnowHouse$Page;" } : Jvm.MethodName)) ∈ gW := gW_in 395 (by decide +kernel) rfl
theorem w_396 : (Jvm.Cond.instanceMethod ({ cls := "KnowHouse$Keeping", name := "after", desc := "(LKnowHouse$Change;[II)LKnowHouse$Page;" } : Jvm.MethodName)) ∈ gW := gW_in 396 (by decide +kernel) rfl
theorem w_397 : (Jvm.Cond.selects "KnowHouse$Keeping" ({ cls := "KnowHouse$Keeping", name := "after", desc := "(LKnowHouse$Change;[II)LKnowHouse$Page;" } : Jvm.MethodName) ({ cls := "KnowHouse$Keeping", name := "after", desc := "(LKnowHouse$Change;[II)LKnowHouse$Page;" } : Jvm.MethodName)) ∈ gW := gW_in 397 (by decide +kernel) rfl
set_option maxRecDepth 100000 in
theorem w_398 : (Jvm.Cond.code ({ cls := "KnowHouse$Keeping", name := "after", desc := "(LKnowHouse$Change;[II)LKnowHouse$Page;" } : Jvm.MethodName) prog_4_method_2_code (4 : Nat) (Option.some (Jvm.ClassFile.FieldType.object "KnowHouse$Page"))) ∈ gW := gW_in 398 rfl rfl
theorem w_400 : (Jvm.Cond.static ({ cls := "KnowHouse", name := "isUnder", desc := "(II)Z" } : Jvm.MethodName)) ∈ gW := gW_in 400 (by decide +kernel) rfl
set_option maxRecDepth 100000 in
theorem w_401 : (Jvm.Cond.code ({ cls := "KnowHouse", name := "isUnder", desc := "(II)Z" } : Jvm.MethodName) prog_1_method_42_code (4 : Nat) (Option.some Jvm.ClassFile.FieldType.boolean)) ∈ gW := gW_in 401 rfl rfl
theorem w_402 : (Jvm.Cond.fieldLink "KnowHouse" (297 : Nat) "KnowHouse" "KIND_ABOVE" "[I") ∈ gW := gW_in 402 (by decide +kernel) rfl
theorem w_404 : (Jvm.Cond.methodLink "KnowHouse$Keeping" (54 : Nat) ({ cls := "KnowHouse$Keeping", name := "countMost", desc := "()V" } : Jvm.MethodName)) ∈ gW := gW_in 404 (by decide +kernel) rfl
theorem w_406 : (Jvm.Cond.instanceMethod ({ cls := "KnowHouse$Keeping", name := "countMost", desc := "()V" } : Jvm.MethodName)) ∈ gW := gW_in 406 (by decide +kernel) rfl
set_option maxRecDepth 100000 in
theorem w_407 : (Jvm.Cond.code ({ cls := "KnowHouse$Keeping", name := "countMost", desc := "()V" } : Jvm.MethodName) prog_4_method_5_code (4 : Nat) (Option.none : Option Jvm.ClassFile.FieldType)) ∈ gW := gW_in 407 rfl rfl
theorem w_408 : (Jvm.Cond.methodLink "KnowHouse$Keeping" (76 : Nat) ({ cls := "java/util/Arrays", name := "fill", desc := "([II)V" } : Jvm.MethodName)) ∈ gW := gW_in 408 (by decide +kernel) rfl
theorem w_409 : (Jvm.Cond.static ({ cls := "java/util/Arrays", name := "fill", desc := "([II)V" } : Jvm.MethodName)) ∈ gW := gW_in 409 (by decide +kernel) rfl
set_option maxRecDepth 100000 in
theorem w_410 : (Jvm.Cond.code ({ cls := "java/util/Arrays", name := "fill", desc := "([II)V" } : Jvm.MethodName) prog_16_method_103_code (4 : Nat) (Option.none : Option Jvm.ClassFile.FieldType)) ∈ gW := gW_in 410 rfl rfl
theorem w_411 : (Jvm.Cond.methodLink "KnowHouse$Keeping" (82 : Nat) ({ cls := "KnowHouse$Keeping", name := "isAlike", desc := "(II)Z" } : Jvm.MethodName)) ∈ gW := gW_in 411 (by decide +kernel) rfl
theorem w_413 : (Jvm.Cond.instanceMethod ({ cls := "KnowHouse$Keeping", name := "isAlike", desc := "(II)Z" } : Jvm.MethodName)) ∈ gW := gW_in 413 (by decide +kernel) rfl
set_option maxRecDepth 100000 in
theorem w_414 : (Jvm.Cond.code ({ cls := "KnowHouse$Keeping", name := "isAlike", desc := "(II)Z" } : Jvm.MethodName) prog_4_method_3_code (3 : Nat) (Option.some Jvm.ClassFile.FieldType.boolean)) ∈ gW := gW_in 414 rfl rfl
theorem w_415 : (Jvm.Cond.methodLink "KnowHouse$Keeping" (72 : Nat) ({ cls := "KnowHouse$Keeping", name := "wordingOf", desc := "(I)I" } : Jvm.MethodName)) ∈ gW := gW_in 415 (by decide +kernel) rfl
theorem w_416 : (Jvm.Cond.static ({ cls := "KnowHouse$Keeping", name := "wordingOf", desc := "(I)I" } : Jvm.MethodName)) ∈ gW := gW_in 416 (by decide +kernel) rfl
set_option maxRecDepth 100000 in
theorem w_417 : (Jvm.Cond.code ({ cls := "KnowHouse$Keeping", name := "wordingOf", desc := "(I)I" } : Jvm.MethodName) prog_4_method_4_code (1 : Nat) (Option.some Jvm.ClassFile.FieldType.int)) ∈ gW := gW_in 417 rfl rfl
theorem w_418 : (Jvm.Cond.methodLink "KnowHouse$Keeping" (85 : Nat) ({ cls := "java/lang/Math", name := "max", desc := "(II)I" } : Jvm.MethodName)) ∈ gW := gW_in 418 (by decide +kernel) rfl
theorem w_419 : (Jvm.Cond.static ({ cls := "java/lang/Math", name := "max", desc := "(II)I" } : Jvm.MethodName)) ∈ gW := gW_in 419 (by decide +kernel) rfl
set_option maxRecDepth 100000 in
theorem w_420 : (Jvm.Cond.code ({ cls := "java/lang/Math", name := "max", desc := "(II)I" } : Jvm.MethodName) prog_14_method_65_code (2 : Nat) (Option.some Jvm.ClassFile.FieldType.int)) ∈ gW := gW_in 420 rfl rfl
theorem w_421 : (Jvm.Cond.methodLink "KnowHouse$Keeping" (57 : Nat) ({ cls := "KnowHouse$Keeping", name := "pairInOrder", desc := "()V" } : Jvm.MethodName)) ∈ gW := gW_in 421 (by decide +kernel) rfl
theorem w_423 : (Jvm.Cond.instanceMethod ({ cls := "KnowHouse$Keeping", name := "pairInOrder", desc := "()V" } : Jvm.MethodName)) ∈ gW := gW_in 423 (by decide +kernel) rfl
set_option maxRecDepth 100000 in
theorem w_424 : (Jvm.Cond.code ({ cls := "KnowHouse$Keeping", name := "pairInOrder", desc := "()V" } : Jvm.MethodName) prog_4_method_6_code (4 : Nat) (Option.none : Option Jvm.ClassFile.FieldType)) ∈ gW := gW_in 424 rfl rfl
theorem w_425 : (Jvm.Cond.methodLink "KnowHouse$Keeping" (91 : Nat) ({ cls := "KnowHouse$Keeping", name := "leastOld", desc := "(II)I" } : Jvm.MethodName)) ∈ gW := gW_in 425 (by decide +kernel) rfl
theorem w_427 : (Jvm.Cond.instanceMethod ({ cls := "KnowHouse$Keeping", name := "leastOld", desc := "(II)I" } : Jvm.MethodName)) ∈ gW := gW_in 427 (by decide +kernel) rfl
set_option maxRecDepth 100000 in
theorem w_428 : (Jvm.Cond.code ({ cls := "KnowHouse$Keeping", name := "leastOld", desc := "(II)I" } : Jvm.MethodName) prog_4_method_7_code (5 : Nat) (Option.some Jvm.ClassFile.FieldType.int)) ∈ gW := gW_in 428 rfl rfl
theorem w_429 : (Jvm.Cond.methodLink "KnowHouse$Keeping" (60 : Nat) ({ cls := "KnowHouse$Keeping", name := "pairMoved", desc := "()V" } : Jvm.MethodName)) ∈ gW := gW_in 429 (by decide +kernel) rfl
theorem w_431 : (Jvm.Cond.instanceMethod ({ cls := "KnowHouse$Keeping", name := "pairMoved", desc := "()V" } : Jvm.MethodName)) ∈ gW := gW_in 431 (by decide +kernel) rfl
set_option maxRecDepth 100000 in
theorem w_432 : (Jvm.Cond.code ({ cls := "KnowHouse$Keeping", name := "pairMoved", desc := "()V" } : Jvm.MethodName) prog_4_method_8_code (3 : Nat) (Option.none : Option Jvm.ClassFile.FieldType)) ∈ gW := gW_in 432 rfl rfl
theorem w_433 : (Jvm.Cond.methodLink "KnowHouse$Keeping" (94 : Nat) ({ cls := "KnowHouse$Keeping", name := "firstLeftOf", desc := "(I)I" } : Jvm.MethodName)) ∈ gW := gW_in 433 (by decide +kernel) rfl
theorem w_435 : (Jvm.Cond.instanceMethod ({ cls := "KnowHouse$Keeping", name := "firstLeftOf", desc := "(I)I" } : Jvm.MethodName)) ∈ gW := gW_in 435 (by decide +kernel) rfl
set_option maxRecDepth 100000 in
theorem w_436 : (Jvm.Cond.code ({ cls := "KnowHouse$Keeping", name := "firstLeftOf", desc := "(I)I" } : Jvm.MethodName) prog_4_method_9_code (3 : Nat) (Option.some Jvm.ClassFile.FieldType.int)) ∈ gW := gW_in 436 rfl rfl
theorem w_437 : (Jvm.Cond.methodLink "KnowHouse$Keeping" (63 : Nat) ({ cls := "KnowHouse$Keeping", name := "newPage", desc := "(LKnowHouse$Change;)LKnowHouse$Page;" } : Jvm.MethodName)) ∈ gW := gW_in 437 (by decide +kernel) rfl
theorem w_439 : (Jvm.Cond.instanceMethod ({ cls := "KnowHouse$Keeping", name := "newPage", desc := "(LKnowHouse$Change;)LKnowHouse$Page;" } : Jvm.MethodName)) ∈ gW := gW_in 439 (by decide +kernel) rfl
set_option maxRecDepth 100000 in
theorem w_440 : (Jvm.Cond.code ({ cls := "KnowHouse$Keeping", name := "newPage", desc := "(LKnowHouse$Change;)LKnowHouse$Page;" } : Jvm.MethodName) prog_4_method_10_code (6 : Nat) (Option.some (Jvm.ClassFile.FieldType.object "KnowHouse$Page"))) ∈ gW := gW_in 440 rfl rfl
theorem w_441 : (Jvm.Cond.classLink "KnowHouse$Keeping" (68 : Nat) "KnowHouse$Line") ∈ gW := gW_in 441 (by decide +kernel) rfl
theorem w_442 : (Jvm.Cond.methodLink "KnowHouse$Keeping" (97 : Nat) ({ cls := "KnowHouse$Change", name := "firstMarks", desc := "()[I" } : Jvm.MethodName)) ∈ gW := gW_in 442 (by decide +kernel) rfl
theorem w_443 : (Jvm.Cond.instanceMethod ({ cls := "KnowHouse$Change", name := "firstMarks", desc := "()[I" } : Jvm.MethodName)) ∈ gW := gW_in 443 (by decide +kernel) rfl
theorem w_444 : (Jvm.Cond.selects "KnowHouse$Change" ({ cls := "KnowHouse$Change", name := "firstMarks", desc := "()[I" } : Jvm.MethodName) ({ cls := "KnowHouse$Change", name := "firstMarks", desc := "()[I" } : Jvm.MethodName)) ∈ gW := gW_in 444 (by decide +kernel) rfl
set_option maxRecDepth 100000 in
theorem w_445 : (Jvm.Cond.code ({ cls := "KnowHouse$Change", name := "firstMarks", desc := "()[I" } : Jvm.MethodName) prog_3_method_2_code (1 : Nat) (Option.some (Jvm.ClassFile.FieldType.array Jvm.ClassFile.FieldType.int))) ∈ gW := gW_in 445 rfl rfl
theorem w_446 : (Jvm.Cond.instantiable "KnowHouse$Line" (3 : Nat)) ∈ gW := gW_in 446 (by decide +kernel) rfl
theorem w_447 : (Jvm.Cond.methodLink "KnowHouse$Keeping" (104 : Nat) ({ cls := "KnowHouse$Line", name := "<init>", desc := "(II[I)V" } : Jvm.MethodName)) ∈ gW := gW_in 447 (by decide +kernel) rfl
theorem w_448 : (Jvm.Cond.instanceMethod ({ cls := "KnowHouse$Line", name := "<init>", desc := "(II[I)V" } : Jvm.MethodName)) ∈ gW := gW_in 448 (by decide +kernel) rfl
set_option maxRecDepth 100000 in
theorem w_449 : (Jvm.Cond.code ({ cls := "KnowHouse$Line", name := "<init>", desc := "(II[I)V" } : Jvm.MethodName) prog_5_method_1_code (4 : Nat) (Option.none : Option Jvm.ClassFile.FieldType)) ∈ gW := gW_in 449 rfl rfl
theorem w_450 : (Jvm.Cond.methodLink "KnowHouse$Line" (3 : Nat) ({ cls := "java/lang/Object", name := "<init>", desc := "()V" } : Jvm.MethodName)) ∈ gW := gW_in 450 (by decide +kernel) rfl
theorem w_451 : (Jvm.Cond.fieldLink "KnowHouse$Line" (9 : Nat) "KnowHouse$Line" "text" "I") ∈ gW := gW_in 451 (by decide +kernel) rfl
theorem w_452 : (Jvm.Cond.fieldLink "KnowHouse$Keeping" (67 : Nat) "KnowHouse$Line" "text" "I") ∈ gW := gW_in 452 (by decide +kernel) rfl
theorem w_453 : (Jvm.Cond.fieldLink "KnowHouse" (161 : Nat) "KnowHouse$Line" "text" "I") ∈ gW := gW_in 453 (by decide +kernel) rfl
theorem w_454 : (Jvm.Cond.fieldLink "KnowHouse$Line" (15 : Nat) "KnowHouse$Line" "maker" "I") ∈ gW := gW_in 454 (by decide +kernel) rfl
theorem w_455 : (Jvm.Cond.fieldLink "KnowHouse$Page" (25 : Nat) "KnowHouse$Line" "maker" "I") ∈ gW := gW_in 455 (by decide +kernel) rfl
theorem w_456 : (Jvm.Cond.fieldLink "KnowHouse$State" (94 : Nat) "KnowHouse$Line" "maker" "I") ∈ gW := gW_in 456 (by decide +kernel) rfl
theorem w_457 : (Jvm.Cond.fieldLink "KnowHouse" (166 : Nat) "KnowHouse$Line" "maker" "I") ∈ gW := gW_in 457 (by decide +kernel) rfl
theorem w_458 : (Jvm.Cond.fieldLink "KnowHouse$Line" (18 : Nat) "KnowHouse$Line" "marks" "[I") ∈ gW := gW_in 458 (by decide +kernel) rfl
theorem w_466 : (Jvm.Cond.methodLink "KnowHouse$Keeping" (107 : Nat) ({ cls := "KnowHouse$Line", name := "withText", desc := "(I)LKnowHouse$Line;" } : Jvm.MethodName)) ∈ gW := gW_in 466 (by decide +kernel) rfl
theorem w_467 : (Jvm.Cond.instanceMethod ({ cls := "KnowHouse$Line", name := "withText", desc := "(I)LKnowHouse$Line;" } : Jvm.MethodName)) ∈ gW := gW_in 467 (by decide +kernel) rfl
theorem w_468 : (Jvm.Cond.selects "KnowHouse$Line" ({ cls := "KnowHouse$Line", name := "withText", desc := "(I)LKnowHouse$Line;" } : Jvm.MethodName) ({ cls := "KnowHouse$Line", name := "withText", desc := "(I)LKnowHouse$Line;" } : Jvm.MethodName)) ∈ gW := gW_in 468 (by decide +kernel) rfl
set_option maxRecDepth 100000 in
theorem w_469 : (Jvm.Cond.code ({ cls := "KnowHouse$Line", name := "withText", desc := "(I)LKnowHouse$Line;" } : Jvm.MethodName) prog_5_method_6_code (2 : Nat) (Option.some (Jvm.ClassFile.FieldType.object "KnowHouse$Line"))) ∈ gW := gW_in 469 rfl rfl
theorem w_470 : (Jvm.Cond.classLink "KnowHouse$Line" (10 : Nat) "KnowHouse$Line") ∈ gW := gW_in 470 (by decide +kernel) rfl
theorem w_471 : (Jvm.Cond.methodLink "KnowHouse$Line" (33 : Nat) ({ cls := "KnowHouse$Line", name := "<init>", desc := "(II[I)V" } : Jvm.MethodName)) ∈ gW := gW_in 471 (by decide +kernel) rfl
theorem w_472 : (Jvm.Cond.classLink "KnowHouse$Keeping" (25 : Nat) "KnowHouse$Page") ∈ gW := gW_in 472 (by decide +kernel) rfl
theorem w_473 : (Jvm.Cond.methodLink "KnowHouse$Keeping" (114 : Nat) ({ cls := "KnowHouse$Page", name := "<init>", desc := "([LKnowHouse$Line;)V" } : Jvm.MethodName)) ∈ gW := gW_in 473 (by decide +kernel) rfl
theorem w_474 : (Jvm.Cond.methodLink "KnowHouse" (111 : Nat) ({ cls := "KnowHouse$State", name := "addChange", desc := "(LKnowHouse$Change;LKnowHouse$Page;)V" } : Jvm.MethodName)) ∈ gW := gW_in 474 (by decide +kernel) rfl
theorem w_475 : (Jvm.Cond.instanceMethod ({ cls := "KnowHouse$State", name := "addChange", desc := "(LKnowHouse$Change;LKnowHouse$Page;)V" } : Jvm.MethodName)) ∈ gW := gW_in 475 (by decide +kernel) rfl
theorem w_476 : (Jvm.Cond.selects "KnowHouse$State" ({ cls := "KnowHouse$State", name := "addChange", desc := "(LKnowHouse$Change;LKnowHouse$Page;)V" } : Jvm.MethodName) ({ cls := "KnowHouse$State", name := "addChange", desc := "(LKnowHouse$Change;LKnowHouse$Page;)V" } : Jvm.MethodName)) ∈ gW := gW_in 476 (by decide +kernel) rfl
set_option maxRecDepth 100000 in
theorem w_477 : (Jvm.Cond.code ({ cls := "KnowHouse$State", name := "addChange", desc := "(LKnowHouse$Change;LKnowHouse$Page;)V" } : Jvm.MethodName) prog_9_method_4_code (3 : Nat) (Option.none : Option Jvm.ClassFile.FieldType)) ∈ gW := gW_in 477 rfl rfl
theorem w_478 : (Jvm.Cond.methodLink "KnowHouseLaw" (45 : Nat) ({ cls := "KnowHouse", name := "back", desc := "(II)I" } : Jvm.MethodName)) ∈ gW := gW_in 478 (by decide +kernel) rfl
theorem w_479 : (Jvm.Cond.instanceMethod ({ cls := "KnowHouse", name := "back", desc := "(II)I" } : Jvm.MethodName)) ∈ gW := gW_in 479 (by decide +kernel) rfl
theorem w_480 : (Jvm.Cond.selects "KnowHouse" ({ cls := "KnowHouse", name := "back", desc := "(II)I" } : Jvm.MethodName) ({ cls := "KnowHouse", name := "back", desc := "(II)I" } : Jvm.MethodName)) ∈ gW := gW_in 480 (by decide +kernel) rfl
set_option maxRecDepth 100000 in
theorem w_481 : (Jvm.Cond.code ({ cls := "KnowHouse", name := "back", desc := "(II)I" } : Jvm.MethodName) prog_1_method_9_code (5 : Nat) (Option.some Jvm.ClassFile.FieldType.int)) ∈ gW := gW_in 481 rfl rfl
theorem w_482 : (Jvm.Cond.methodLink "KnowHouse" (118 : Nat) ({ cls := "KnowHouse$State", name := "changeOf", desc := "(I)LKnowHouse$Change;" } : Jvm.MethodName)) ∈ gW := gW_in 482 (by decide +kernel) rfl
theorem w_483 : (Jvm.Cond.instanceMethod ({ cls := "KnowHouse$State", name := "changeOf", desc := "(I)LKnowHouse$Change;" } : Jvm.MethodName)) ∈ gW := gW_in 483 (by decide +kernel) rfl
theorem w_484 : (Jvm.Cond.selects "KnowHouse$State" ({ cls := "KnowHouse$State", name := "changeOf", desc := "(I)LKnowHouse$Change;" } : Jvm.MethodName) ({ cls := "KnowHouse$State", name := "changeOf", desc := "(I)LKnowHouse$Change;" } : Jvm.MethodName)) ∈ gW := gW_in 484 (by decide +kernel) rfl
set_option maxRecDepth 100000 in
theorem w_485 : (Jvm.Cond.code ({ cls := "KnowHouse$State", name := "changeOf", desc := "(I)LKnowHouse$Change;" } : Jvm.MethodName) prog_9_method_9_code (2 : Nat) (Option.some (Jvm.ClassFile.FieldType.object "KnowHouse$Change"))) ∈ gW := gW_in 485 rfl rfl
theorem w_486 : (Jvm.Cond.methodLink "KnowHouse" (129 : Nat) ({ cls := "KnowHouse$Page", name := "size", desc := "()I" } : Jvm.MethodName)) ∈ gW := gW_in 486 (by decide +kernel) rfl
theorem w_487 : (Jvm.Cond.instanceMethod ({ cls := "KnowHouse$Page", name := "size", desc := "()I" } : Jvm.MethodName)) ∈ gW := gW_in 487 (by decide +kernel) rfl
theorem w_488 : (Jvm.Cond.selects "KnowHouse$Page" ({ cls := "KnowHouse$Page", name := "size", desc := "()I" } : Jvm.MethodName) ({ cls := "KnowHouse$Page", name := "size", desc := "()I" } : Jvm.MethodName)) ∈ gW := gW_in 488 (by decide +kernel) rfl
set_option maxRecDepth 100000 in
theorem w_489 : (Jvm.Cond.code ({ cls := "KnowHouse$Page", name := "size", desc := "()I" } : Jvm.MethodName) prog_6_method_2_code (1 : Nat) (Option.some Jvm.ClassFile.FieldType.int)) ∈ gW := gW_in 489 rfl rfl
theorem w_490 : (Jvm.Cond.methodLink "KnowHouseLaw" (50 : Nat) ({ cls := "KnowHouse", name := "read", desc := "(IIII)I" } : Jvm.MethodName)) ∈ gW := gW_in 490 (by decide +kernel) rfl
theorem w_491 : (Jvm.Cond.instanceMethod ({ cls := "KnowHouse", name := "read", desc := "(IIII)I" } : Jvm.MethodName)) ∈ gW := gW_in 491 (by decide +kernel) rfl
theorem w_492 : (Jvm.Cond.selects "KnowHouse" ({ cls := "KnowHouse", name := "read", desc := "(IIII)I" } : Jvm.MethodName) ({ cls := "KnowHouse", name := "read", desc := "(IIII)I" } : Jvm.MethodName)) ∈ gW := gW_in 492 (by decide +kernel) rfl
set_option maxRecDepth 100000 in
theorem w_493 : (Jvm.Cond.code ({ cls := "KnowHouse", name := "read", desc := "(IIII)I" } : Jvm.MethodName) prog_1_method_10_code (6 : Nat) (Option.some Jvm.ClassFile.FieldType.int)) ∈ gW := gW_in 493 rfl rfl
theorem w_494 : (Jvm.Cond.methodLink "KnowHouse" (142 : Nat) ({ cls := "KnowHouse$Page", name := "readBy", desc := "(IIII)LKnowHouse$Page;" } : Jvm.MethodName)) ∈ gW := gW_in 494 (by decide +kernel) rfl
theorem w_495 : (Jvm.Cond.instanceMethod ({ cls := "KnowHouse$Page", name := "readBy", desc := "(IIII)LKnowHouse$Page;" } : Jvm.MethodName)) ∈ gW := gW_in 495 (by decide +kernel) rfl
theorem w_496 : (Jvm.Cond.selects "KnowHouse$Page" ({ cls := "KnowHouse$Page", name := "readBy", desc := "(IIII)LKnowHouse$Page;" } : Jvm.MethodName) ({ cls := "KnowHouse$Page", name := "readBy", desc := "(IIII)LKnowHouse$Page;" } : Jvm.MethodName)) ∈ gW := gW_in 496 (by decide +kernel) rfl
set_option maxRecDepth 100000 in
theorem w_497 : (Jvm.Cond.code ({ cls := "KnowHouse$Page", name := "readBy", desc := "(IIII)LKnowHouse$Page;" } : Jvm.MethodName) prog_6_method_7_code (7 : Nat) (Option.some (Jvm.ClassFile.FieldType.object "KnowHouse$Page"))) ∈ gW := gW_in 497 rfl rfl
theorem w_498 : (Jvm.Cond.classLink "KnowHouse$Page" (16 : Nat) "KnowHouse$Line") ∈ gW := gW_in 498 (by decide +kernel) rfl
theorem w_499 : (Jvm.Cond.methodLink "KnowHouse$Page" (29 : Nat) ({ cls := "KnowHouse$Line", name := "readBy", desc := "(II)LKnowHouse$Line;" } : Jvm.MethodName)) ∈ gW := gW_in 499 (by decide +kernel) rfl
theorem w_500 : (Jvm.Cond.instanceMethod ({ cls := "KnowHouse$Line", name := "readBy", desc := "(II)LKnowHouse$Line;" } : Jvm.MethodName)) ∈ gW := gW_in 500 (by decide +kernel) rfl
theorem w_501 : (Jvm.Cond.selects "KnowHouse$Line" ({ cls := "KnowHouse$Line", name := "readBy", desc := "(II)LKnowHouse$Line;" } : Jvm.MethodName) ({ cls := "KnowHouse$Line", name := "readBy", desc := "(II)LKnowHouse$Line;" } : Jvm.MethodName)) ∈ gW := gW_in 501 (by decide +kernel) rfl
set_option maxRecDepth 100000 in
theorem w_502 : (Jvm.Cond.code ({ cls := "KnowHouse$Line", name := "readBy", desc := "(II)LKnowHouse$Line;" } : Jvm.MethodName) prog_5_method_7_code (6 : Nat) (Option.some (Jvm.ClassFile.FieldType.object "KnowHouse$Line"))) ∈ gW := gW_in 502 rfl rfl
theorem w_503 : (Jvm.Cond.methodLink "KnowHouse$Line" (26 : Nat) ({ cls := "KnowHouse$Line", name := "marksToGo", desc := "()I" } : Jvm.MethodName)) ∈ gW := gW_in 503 (by decide +kernel) rfl
theorem w_505 : (Jvm.Cond.instanceMethod ({ cls := "KnowHouse$Line", name := "marksToGo", desc := "()I" } : Jvm.MethodName)) ∈ gW := gW_in 505 (by decide +kernel) rfl
set_option maxRecDepth 100000 in
theorem w_506 : (Jvm.Cond.code ({ cls := "KnowHouse$Line", name := "marksToGo", desc := "()I" } : Jvm.MethodName) prog_5_method_8_code (1 : Nat) (Option.some Jvm.ClassFile.FieldType.int)) ∈ gW := gW_in 506 rfl rfl
theorem w_507 : (Jvm.Cond.methodLink "KnowHouse$Line" (36 : Nat) ({ cls := "java/lang/System", name := "arraycopy", desc := "(Ljava/lang/Object;ILjava/lang/Object;II)V" } : Jvm.MethodName)) ∈ gW := gW_in 507 (by decide +kernel) rfl
theorem w_508 : (Jvm.Cond.static ({ cls := "java/lang/System", name := "arraycopy", desc := "(Ljava/lang/Object;ILjava/lang/Object;II)V" } : Jvm.MethodName)) ∈ gW := gW_in 508 (by decide +kernel) rfl
theorem w_509 : (Jvm.Cond.native ({ cls := "java/lang/System", name := "arraycopy", desc := "(Ljava/lang/Object;ILjava/lang/Object;II)V" } : Jvm.MethodName)) ∈ gW := gW_in 509 (by decide +kernel) rfl
theorem w_510 : (Jvm.Cond.classLink "KnowHouse$Page" (10 : Nat) "KnowHouse$Page") ∈ gW := gW_in 510 (by decide +kernel) rfl
theorem w_511 : (Jvm.Cond.methodLink "KnowHouse$Page" (33 : Nat) ({ cls := "KnowHouse$Page", name := "<init>", desc := "([LKnowHouse$Line;)V" } : Jvm.MethodName)) ∈ gW := gW_in 511 (by decide +kernel) rfl
theorem w_512 : (Jvm.Cond.methodLink "KnowHouseLaw" (54 : Nat) ({ cls := "KnowHouse", name := "image", desc := "()I" } : Jvm.MethodName)) ∈ gW := gW_in 512 (by decide +kernel) rfl
theorem w_513 : (Jvm.Cond.instanceMethod ({ cls := "KnowHouse", name := "image", desc := "()I" } : Jvm.MethodName)) ∈ gW := gW_in 513 (by decide +kernel) rfl
theorem w_514 : (Jvm.Cond.selects "KnowHouse" ({ cls := "KnowHouse", name := "image", desc := "()I" } : Jvm.MethodName) ({ cls := "KnowHouse", name := "image", desc := "()I" } : Jvm.MethodName)) ∈ gW := gW_in 514 (by decide +kernel) rfl
set_option maxRecDepth 100000 in
theorem w_515 : (Jvm.Cond.code ({ cls := "KnowHouse", name := "image", desc := "()I" } : Jvm.MethodName) prog_1_method_11_code (1 : Nat) (Option.some Jvm.ClassFile.FieldType.int)) ∈ gW := gW_in 515 rfl rfl
theorem w_516 : (Jvm.Cond.methodLink "KnowHouse" (146 : Nat) ({ cls := "KnowHouse$State", name := "become", desc := "(LKnowHouse$State;)V" } : Jvm.MethodName)) ∈ gW := gW_in 516 (by decide +kernel) rfl
theorem w_517 : (Jvm.Cond.instanceMethod ({ cls := "KnowHouse$State", name := "become", desc := "(LKnowHouse$State;)V" } : Jvm.MethodName)) ∈ gW := gW_in 517 (by decide +kernel) rfl
theorem w_518 : (Jvm.Cond.selects "KnowHouse$State" ({ cls := "KnowHouse$State", name := "become", desc := "(LKnowHouse$State;)V" } : Jvm.MethodName) ({ cls := "KnowHouse$State", name := "become", desc := "(LKnowHouse$State;)V" } : Jvm.MethodName)) ∈ gW := gW_in 518 (by decide +kernel) rfl
set_option maxRecDepth 100000 in
theorem w_519 : (Jvm.Cond.code ({ cls := "KnowHouse$State", name := "become", desc := "(LKnowHouse$State;)V" } : Jvm.MethodName) prog_9_method_2_code (3 : Nat) (Option.none : Option Jvm.ClassFile.FieldType)) ∈ gW := gW_in 519 rfl rfl
theorem w_520 : (Jvm.Cond.methodLink "KnowHouse$State" (54 : Nat) ({ cls := "java/lang/System", name := "arraycopy", desc := "(Ljava/lang/Object;ILjava/lang/Object;II)V" } : Jvm.MethodName)) ∈ gW := gW_in 520 (by decide +kernel) rfl
theorem w_521 : (Jvm.Cond.methodLink "KnowHouseLaw" (58 : Nat) ({ cls := "KnowHouse", name := "restore", desc := "()I" } : Jvm.MethodName)) ∈ gW := gW_in 521 (by decide +kernel) rfl
theorem w_522 : (Jvm.Cond.instanceMethod ({ cls := "KnowHouse", name := "restore", desc := "()I" } : Jvm.MethodName)) ∈ gW := gW_in 522 (by decide +kernel) rfl
theorem w_523 : (Jvm.Cond.selects "KnowHouse" ({ cls := "KnowHouse", name := "restore", desc := "()I" } : Jvm.MethodName) ({ cls := "KnowHouse", name := "restore", desc := "()I" } : Jvm.MethodName)) ∈ gW := gW_in 523 (by decide +kernel) rfl
set_option maxRecDepth 100000 in
theorem w_524 : (Jvm.Cond.code ({ cls := "KnowHouse", name := "restore", desc := "()I" } : Jvm.MethodName) prog_1_method_12_code (1 : Nat) (Option.some Jvm.ClassFile.FieldType.int)) ∈ gW := gW_in 524 rfl rfl
theorem w_525 : (Jvm.Cond.methodLink "KnowHouseLaw" (62 : Nat) ({ cls := "KnowHouse", name := "lines", desc := "(I)I" } : Jvm.MethodName)) ∈ gW := gW_in 525 (by decide +kernel) rfl
theorem w_526 : (Jvm.Cond.instanceMethod ({ cls := "KnowHouse", name := "lines", desc := "(I)I" } : Jvm.MethodName)) ∈ gW := gW_in 526 (by decide +kernel) rfl
theorem w_527 : (Jvm.Cond.selects "KnowHouse" ({ cls := "KnowHouse", name := "lines", desc := "(I)I" } : Jvm.MethodName) ({ cls := "KnowHouse", name := "lines", desc := "(I)I" } : Jvm.MethodName)) ∈ gW := gW_in 527 (by decide +kernel) rfl
set_option maxRecDepth 100000 in
theorem w_528 : (Jvm.Cond.code ({ cls := "KnowHouse", name := "lines", desc := "(I)I" } : Jvm.MethodName) prog_1_method_13_code (3 : Nat) (Option.some Jvm.ClassFile.FieldType.int)) ∈ gW := gW_in 528 rfl rfl
theorem w_529 : (Jvm.Cond.methodLink "KnowHouseLaw" (66 : Nat) ({ cls := "KnowHouse", name := "line", desc := "(III)I" } : Jvm.MethodName)) ∈ gW := gW_in 529 (by decide +kernel) rfl
theorem w_530 : (Jvm.Cond.instanceMethod ({ cls := "KnowHouse", name := "line", desc := "(III)I" } : Jvm.MethodName)) ∈ gW := gW_in 530 (by decide +kernel) rfl
theorem w_531 : (Jvm.Cond.selects "KnowHouse" ({ cls := "KnowHouse", name := "line", desc := "(III)I" } : Jvm.MethodName) ({ cls := "KnowHouse", name := "line", desc := "(III)I" } : Jvm.MethodName)) ∈ gW := gW_in 531 (by decide +kernel) rfl
set_option maxRecDepth 100000 in
theorem w_532 : (Jvm.Cond.code ({ cls := "KnowHouse", name := "line", desc := "(III)I" } : Jvm.MethodName) prog_1_method_14_code (5 : Nat) (Option.some Jvm.ClassFile.FieldType.int)) ∈ gW := gW_in 532 rfl rfl
theorem w_533 : (Jvm.Cond.methodLink "KnowHouse" (157 : Nat) ({ cls := "KnowHouse$State", name := "lineOf", desc := "(II)LKnowHouse$Line;" } : Jvm.MethodName)) ∈ gW := gW_in 533 (by decide +kernel) rfl
theorem w_534 : (Jvm.Cond.instanceMethod ({ cls := "KnowHouse$State", name := "lineOf", desc := "(II)LKnowHouse$Line;" } : Jvm.MethodName)) ∈ gW := gW_in 534 (by decide +kernel) rfl
theorem w_535 : (Jvm.Cond.selects "KnowHouse$State" ({ cls := "KnowHouse$State", name := "lineOf", desc := "(II)LKnowHouse$Line;" } : Jvm.MethodName) ({ cls := "KnowHouse$State", name := "lineOf", desc := "(II)LKnowHouse$Line;" } : Jvm.MethodName)) ∈ gW := gW_in 535 (by decide +kernel) rfl
set_option maxRecDepth 100000 in
theorem w_536 : (Jvm.Cond.code ({ cls := "KnowHouse$State", name := "lineOf", desc := "(II)LKnowHouse$Line;" } : Jvm.MethodName) prog_9_method_8_code (4 : Nat) (Option.some (Jvm.ClassFile.FieldType.object "KnowHouse$Line"))) ∈ gW := gW_in 536 rfl rfl
theorem w_537 : (Jvm.Cond.methodLink "KnowHouse$State" (66 : Nat) ({ cls := "KnowHouse$State", name := "pageOf", desc := "(I)LKnowHouse$Page;" } : Jvm.MethodName)) ∈ gW := gW_in 537 (by decide +kernel) rfl
theorem w_538 : (Jvm.Cond.methodLink "KnowHouse$State" (70 : Nat) ({ cls := "KnowHouse$Page", name := "rowAt", desc := "(I)LKnowHouse$Line;" } : Jvm.MethodName)) ∈ gW := gW_in 538 (by decide +kernel) rfl
theorem w_539 : (Jvm.Cond.instanceMethod ({ cls := "KnowHouse$Page", name := "rowAt", desc := "(I)LKnowHouse$Line;" } : Jvm.MethodName)) ∈ gW := gW_in 539 (by decide +kernel) rfl
theorem w_540 : (Jvm.Cond.selects "KnowHouse$Page" ({ cls := "KnowHouse$Page", name := "rowAt", desc := "(I)LKnowHouse$Line;" } : Jvm.MethodName) ({ cls := "KnowHouse$Page", name := "rowAt", desc := "(I)LKnowHouse$Line;" } : Jvm.MethodName)) ∈ gW := gW_in 540 (by decide +kernel) rfl
set_option maxRecDepth 100000 in
theorem w_541 : (Jvm.Cond.code ({ cls := "KnowHouse$Page", name := "rowAt", desc := "(I)LKnowHouse$Line;" } : Jvm.MethodName) prog_6_method_3_code (2 : Nat) (Option.some (Jvm.ClassFile.FieldType.object "KnowHouse$Line"))) ∈ gW := gW_in 541 rfl rfl
theorem w_542 : (Jvm.Cond.methodLink "KnowHouse" (169 : Nat) ({ cls := "KnowHouse$Line", name := "markCount", desc := "()I" } : Jvm.MethodName)) ∈ gW := gW_in 542 (by decide +kernel) rfl
theorem w_543 : (Jvm.Cond.instanceMethod ({ cls := "KnowHouse$Line", name := "markCount", desc := "()I" } : Jvm.MethodName)) ∈ gW := gW_in 543 (by decide +kernel) rfl
theorem w_544 : (Jvm.Cond.selects "KnowHouse$Line" ({ cls := "KnowHouse$Line", name := "markCount", desc := "()I" } : Jvm.MethodName) ({ cls := "KnowHouse$Line", name := "markCount", desc := "()I" } : Jvm.MethodName)) ∈ gW := gW_in 544 (by decide +kernel) rfl
set_option maxRecDepth 100000 in
theorem w_545 : (Jvm.Cond.code ({ cls := "KnowHouse$Line", name := "markCount", desc := "()I" } : Jvm.MethodName) prog_5_method_2_code (1 : Nat) (Option.some Jvm.ClassFile.FieldType.int)) ∈ gW := gW_in 545 rfl rfl
theorem w_546 : (Jvm.Cond.methodLink "KnowHouseLaw" (71 : Nat) ({ cls := "KnowHouse", name := "mark", desc := "(IIII)I" } : Jvm.MethodName)) ∈ gW := gW_in 546 (by decide +kernel) rfl
theorem w_547 : (Jvm.Cond.instanceMethod ({ cls := "KnowHouse", name := "mark", desc := "(IIII)I" } : Jvm.MethodName)) ∈ gW := gW_in 547 (by decide +kernel) rfl
theorem w_548 : (Jvm.Cond.selects "KnowHouse" ({ cls := "KnowHouse", name := "mark", desc := "(IIII)I" } : Jvm.MethodName) ({ cls := "KnowHouse", name := "mark", desc := "(IIII)I" } : Jvm.MethodName)) ∈ gW := gW_in 548 (by decide +kernel) rfl
set_option maxRecDepth 100000 in
theorem w_549 : (Jvm.Cond.code ({ cls := "KnowHouse", name := "mark", desc := "(IIII)I" } : Jvm.MethodName) prog_1_method_15_code (6 : Nat) (Option.some Jvm.ClassFile.FieldType.int)) ∈ gW := gW_in 549 rfl rfl
theorem w_550 : (Jvm.Cond.methodLink "KnowHouse" (172 : Nat) ({ cls := "KnowHouse$Line", name := "markTold", desc := "(II)I" } : Jvm.MethodName)) ∈ gW := gW_in 550 (by decide +kernel) rfl
theorem w_551 : (Jvm.Cond.instanceMethod ({ cls := "KnowHouse$Line", name := "markTold", desc := "(II)I" } : Jvm.MethodName)) ∈ gW := gW_in 551 (by decide +kernel) rfl
theorem w_552 : (Jvm.Cond.selects "KnowHouse$Line" ({ cls := "KnowHouse$Line", name := "markTold", desc := "(II)I" } : Jvm.MethodName) ({ cls := "KnowHouse$Line", name := "markTold", desc := "(II)I" } : Jvm.MethodName)) ∈ gW := gW_in 552 (by decide +kernel) rfl
set_option maxRecDepth 100000 in
theorem w_553 : (Jvm.Cond.code ({ cls := "KnowHouse$Line", name := "markTold", desc := "(II)I" } : Jvm.MethodName) prog_5_method_3_code (3 : Nat) (Option.some Jvm.ClassFile.FieldType.int)) ∈ gW := gW_in 553 rfl rfl
theorem w_554 : (Jvm.Cond.methodLink "KnowHouse$Line" (22 : Nat) ({ cls := "KnowHouse$Line", name := "markCount", desc := "()I" } : Jvm.MethodName)) ∈ gW := gW_in 554 (by decide +kernel) rfl
theorem w_555 : (Jvm.Cond.methodLink "KnowHouseLaw" (75 : Nat) ({ cls := "KnowHouse", name := "changeTold", desc := "(II)I" } : Jvm.MethodName)) ∈ gW := gW_in 555 (by decide +kernel) rfl
theorem w_556 : (Jvm.Cond.instanceMethod ({ cls := "KnowHouse", name := "changeTold", desc := "(II)I" } : Jvm.MethodName)) ∈ gW := gW_in 556 (by decide +kernel) rfl
theorem w_557 : (Jvm.Cond.selects "KnowHouse" ({ cls := "KnowHouse", name := "changeTold", desc := "(II)I" } : Jvm.MethodName) ({ cls := "KnowHouse", name := "changeTold", desc := "(II)I" } : Jvm.MethodName)) ∈ gW := gW_in 557 (by decide +kernel) rfl
set_option maxRecDepth 100000 in
theorem w_558 : (Jvm.Cond.code ({ cls := "KnowHouse", name := "changeTold", desc := "(II)I" } : Jvm.MethodName) prog_1_method_16_code (4 : Nat) (Option.some Jvm.ClassFile.FieldType.int)) ∈ gW := gW_in 558 rfl rfl
theorem w_559 : (Jvm.Cond.methodLink "KnowHouse" (186 : Nat) ({ cls := "KnowHouse$State", name := "linesMadeBy", desc := "(I)I" } : Jvm.MethodName)) ∈ gW := gW_in 559 (by decide +kernel) rfl
theorem w_560 : (Jvm.Cond.instanceMethod ({ cls := "KnowHouse$State", name := "linesMadeBy", desc := "(I)I" } : Jvm.MethodName)) ∈ gW := gW_in 560 (by decide +kernel) rfl
theorem w_561 : (Jvm.Cond.selects "KnowHouse$State" ({ cls := "KnowHouse$State", name := "linesMadeBy", desc := "(I)I" } : Jvm.MethodName) ({ cls := "KnowHouse$State", name := "linesMadeBy", desc := "(I)I" } : Jvm.MethodName)) ∈ gW := gW_in 561 (by decide +kernel) rfl
set_option maxRecDepth 100000 in
theorem w_562 : (Jvm.Cond.code ({ cls := "KnowHouse$State", name := "linesMadeBy", desc := "(I)I" } : Jvm.MethodName) prog_9_method_12_code (7 : Nat) (Option.some Jvm.ClassFile.FieldType.int)) ∈ gW := gW_in 562 rfl rfl
theorem w_563 : (Jvm.Cond.methodLink "KnowHouse$State" (86 : Nat) ({ cls := "KnowHouse$Page", name := "madeBy", desc := "(I)I" } : Jvm.MethodName)) ∈ gW := gW_in 563 (by decide +kernel) rfl
theorem w_564 : (Jvm.Cond.instanceMethod ({ cls := "KnowHouse$Page", name := "madeBy", desc := "(I)I" } : Jvm.MethodName)) ∈ gW := gW_in 564 (by decide +kernel) rfl
theorem w_565 : (Jvm.Cond.selects "KnowHouse$Page" ({ cls := "KnowHouse$Page", name := "madeBy", desc := "(I)I" } : Jvm.MethodName) ({ cls := "KnowHouse$Page", name := "madeBy", desc := "(I)I" } : Jvm.MethodName)) ∈ gW := gW_in 565 (by decide +kernel) rfl
set_option maxRecDepth 100000 in
theorem w_566 : (Jvm.Cond.code ({ cls := "KnowHouse$Page", name := "madeBy", desc := "(I)I" } : Jvm.MethodName) prog_6_method_6_code (7 : Nat) (Option.some Jvm.ClassFile.FieldType.int)) ∈ gW := gW_in 566 rfl rfl
theorem w_567 : (Jvm.Cond.methodLink "KnowHouseLaw" (79 : Nat) ({ cls := "KnowHouse", name := "points", desc := "(III)I" } : Jvm.MethodName)) ∈ gW := gW_in 567 (by decide +kernel) rfl
theorem w_568 : (Jvm.Cond.instanceMethod ({ cls := "KnowHouse", name := "points", desc := "(III)I" } : Jvm.MethodName)) ∈ gW := gW_in 568 (by decide +kernel) rfl
theorem w_569 : (Jvm.Cond.selects "KnowHouse" ({ cls := "KnowHouse", name := "points", desc := "(III)I" } : Jvm.MethodName) ({ cls := "KnowHouse", name := "points", desc := "(III)I" } : Jvm.MethodName)) ∈ gW := gW_in 569 (by decide +kernel) rfl
set_option maxRecDepth 100000 in
theorem w_570 : (Jvm.Cond.code ({ cls := "KnowHouse", name := "points", desc := "(III)I" } : Jvm.MethodName) prog_1_method_17_code (5 : Nat) (Option.some Jvm.ClassFile.FieldType.int)) ∈ gW := gW_in 570 rfl rfl
theorem w_571 : (Jvm.Cond.methodLink "KnowHouse" (189 : Nat) ({ cls := "KnowHouse$Line", name := "pointsOf", desc := "(III)I" } : Jvm.MethodName)) ∈ gW := gW_in 571 (by decide +kernel) rfl
theorem w_572 : (Jvm.Cond.instanceMethod ({ cls := "KnowHouse$Line", name := "pointsOf", desc := "(III)I" } : Jvm.MethodName)) ∈ gW := gW_in 572 (by decide +kernel) rfl
theorem w_573 : (Jvm.Cond.selects "KnowHouse$Line" ({ cls := "KnowHouse$Line", name := "pointsOf", desc := "(III)I" } : Jvm.MethodName) ({ cls := "KnowHouse$Line", name := "pointsOf", desc := "(III)I" } : Jvm.MethodName)) ∈ gW := gW_in 573 (by decide +kernel) rfl
set_option maxRecDepth 100000 in
theorem w_574 : (Jvm.Cond.code ({ cls := "KnowHouse$Line", name := "pointsOf", desc := "(III)I" } : Jvm.MethodName) prog_5_method_4_code (7 : Nat) (Option.some Jvm.ClassFile.FieldType.int)) ∈ gW := gW_in 574 rfl rfl
theorem w_575 : (Jvm.Cond.methodLink "KnowHouseLaw" (83 : Nat) ({ cls := "KnowHouse", name := "knows", desc := "(II)I" } : Jvm.MethodName)) ∈ gW := gW_in 575 (by decide +kernel) rfl
theorem w_576 : (Jvm.Cond.instanceMethod ({ cls := "KnowHouse", name := "knows", desc := "(II)I" } : Jvm.MethodName)) ∈ gW := gW_in 576 (by decide +kernel) rfl
theorem w_577 : (Jvm.Cond.selects "KnowHouse" ({ cls := "KnowHouse", name := "knows", desc := "(II)I" } : Jvm.MethodName) ({ cls := "KnowHouse", name := "knows", desc := "(II)I" } : Jvm.MethodName)) ∈ gW := gW_in 577 (by decide +kernel) rfl
set_option maxRecDepth 100000 in
theorem w_578 : (Jvm.Cond.code ({ cls := "KnowHouse", name := "knows", desc := "(II)I" } : Jvm.MethodName) prog_1_method_18_code (4 : Nat) (Option.some Jvm.ClassFile.FieldType.int)) ∈ gW := gW_in 578 rfl rfl
theorem w_579 : (Jvm.Cond.methodLink "KnowHouse" (193 : Nat) ({ cls := "KnowHouse$Page", name := "knownBy", desc := "(II)I" } : Jvm.MethodName)) ∈ gW := gW_in 579 (by decide +kernel) rfl
theorem w_580 : (Jvm.Cond.instanceMethod ({ cls := "KnowHouse$Page", name := "knownBy", desc := "(II)I" } : Jvm.MethodName)) ∈ gW := gW_in 580 (by decide +kernel) rfl
theorem w_581 : (Jvm.Cond.selects "KnowHouse$Page" ({ cls := "KnowHouse$Page", name := "knownBy", desc := "(II)I" } : Jvm.MethodName) ({ cls := "KnowHouse$Page", name := "knownBy", desc := "(II)I" } : Jvm.MethodName)) ∈ gW := gW_in 581 (by decide +kernel) rfl
set_option maxRecDepth 100000 in
theorem w_582 : (Jvm.Cond.code ({ cls := "KnowHouse$Page", name := "knownBy", desc := "(II)I" } : Jvm.MethodName) prog_6_method_4_code (8 : Nat) (Option.some Jvm.ClassFile.FieldType.int)) ∈ gW := gW_in 582 rfl rfl
theorem w_583 : (Jvm.Cond.methodLink "KnowHouse$Page" (15 : Nat) ({ cls := "KnowHouse$Line", name := "pointsOf", desc := "(III)I" } : Jvm.MethodName)) ∈ gW := gW_in 583 (by decide +kernel) rfl
theorem w_584 : (Jvm.Cond.methodLink "KnowHouseLaw" (87 : Nat) ({ cls := "KnowHouse", name := "able", desc := "(II)I" } : Jvm.MethodName)) ∈ gW := gW_in 584 (by decide +kernel) rfl
theorem w_585 : (Jvm.Cond.instanceMethod ({ cls := "KnowHouse", name := "able", desc := "(II)I" } : Jvm.MethodName)) ∈ gW := gW_in 585 (by decide +kernel) rfl
theorem w_586 : (Jvm.Cond.selects "KnowHouse" ({ cls := "KnowHouse", name := "able", desc := "(II)I" } : Jvm.MethodName) ({ cls := "KnowHouse", name := "able", desc := "(II)I" } : Jvm.MethodName)) ∈ gW := gW_in 586 (by decide +kernel) rfl
set_option maxRecDepth 100000 in
theorem w_587 : (Jvm.Cond.code ({ cls := "KnowHouse", name := "able", desc := "(II)I" } : Jvm.MethodName) prog_1_method_19_code (4 : Nat) (Option.some Jvm.ClassFile.FieldType.int)) ∈ gW := gW_in 587 rfl rfl
theorem w_588 : (Jvm.Cond.methodLink "KnowHouse" (196 : Nat) ({ cls := "KnowHouse$State", name := "isAble", desc := "(ILKnowHouse$Page;)Z" } : Jvm.MethodName)) ∈ gW := gW_in 588 (by decide +kernel) rfl
theorem w_589 : (Jvm.Cond.instanceMethod ({ cls := "KnowHouse$State", name := "isAble", desc := "(ILKnowHouse$Page;)Z" } : Jvm.MethodName)) ∈ gW := gW_in 589 (by decide +kernel) rfl
theorem w_590 : (Jvm.Cond.selects "KnowHouse$State" ({ cls := "KnowHouse$State", name := "isAble", desc := "(ILKnowHouse$Page;)Z" } : Jvm.MethodName) ({ cls := "KnowHouse$State", name := "isAble", desc := "(ILKnowHouse$Page;)Z" } : Jvm.MethodName)) ∈ gW := gW_in 590 (by decide +kernel) rfl
set_option maxRecDepth 100000 in
theorem w_591 : (Jvm.Cond.code ({ cls := "KnowHouse$State", name := "isAble", desc := "(ILKnowHouse$Page;)Z" } : Jvm.MethodName) prog_9_method_10_code (3 : Nat) (Option.some Jvm.ClassFile.FieldType.boolean)) ∈ gW := gW_in 591 rfl rfl
theorem w_592 : (Jvm.Cond.methodLink "KnowHouse$State" (74 : Nat) ({ cls := "KnowHouse$Page", name := "knownBy", desc := "(II)I" } : Jvm.MethodName)) ∈ gW := gW_in 592 (by decide +kernel) rfl
theorem w_593 : (Jvm.Cond.methodLink "KnowHouse$State" (78 : Nat) ({ cls := "KnowHouse$State", name := "isEnough", desc := "(ILKnowHouse$Page;)Z" } : Jvm.MethodName)) ∈ gW := gW_in 593 (by decide +kernel) rfl
theorem w_594 : (Jvm.Cond.instanceMethod ({ cls := "KnowHouse$State", name := "isEnough", desc := "(ILKnowHouse$Page;)Z" } : Jvm.MethodName)) ∈ gW := gW_in 594 (by decide +kernel) rfl
theorem w_595 : (Jvm.Cond.selects "KnowHouse$State" ({ cls := "KnowHouse$State", name := "isEnough", desc := "(ILKnowHouse$Page;)Z" } : Jvm.MethodName) ({ cls := "KnowHouse$State", name := "isEnough", desc := "(ILKnowHouse$Page;)Z" } : Jvm.MethodName)) ∈ gW := gW_in 595 (by decide +kernel) rfl
set_option maxRecDepth 100000 in
theorem w_596 : (Jvm.Cond.code ({ cls := "KnowHouse$State", name := "isEnough", desc := "(ILKnowHouse$Page;)Z" } : Jvm.MethodName) prog_9_method_11_code (3 : Nat) (Option.some Jvm.ClassFile.FieldType.boolean)) ∈ gW := gW_in 596 rfl rfl
theorem w_597 : (Jvm.Cond.methodLink "KnowHouse$State" (82 : Nat) ({ cls := "KnowHouse$Page", name := "size", desc := "()I" } : Jvm.MethodName)) ∈ gW := gW_in 597 (by decide +kernel) rfl
theorem w_598 : (Jvm.Cond.methodLink "KnowHouseLaw" (91 : Nat) ({ cls := "KnowHouse", name := "lost", desc := "(I)I" } : Jvm.MethodName)) ∈ gW := gW_in 598 (by decide +kernel) rfl
theorem w_599 : (Jvm.Cond.instanceMethod ({ cls := "KnowHouse", name := "lost", desc := "(I)I" } : Jvm.MethodName)) ∈ gW := gW_in 599 (by decide +kernel) rfl
theorem w_600 : (Jvm.Cond.selects "KnowHouse" ({ cls := "KnowHouse", name := "lost", desc := "(I)I" } : Jvm.MethodName) ({ cls := "KnowHouse", name := "lost", desc := "(I)I" } : Jvm.MethodName)) ∈ gW := gW_in 600 (by decide +kernel) rfl
set_option maxRecDepth 100000 in
theorem w_601 : (Jvm.Cond.code ({ cls := "KnowHouse", name := "lost", desc := "(I)I" } : Jvm.MethodName) prog_1_method_20_code (2 : Nat) (Option.some Jvm.ClassFile.FieldType.int)) ∈ gW := gW_in 601 rfl rfl
theorem w_602 : (Jvm.Cond.methodLink "KnowHouse" (200 : Nat) ({ cls := "KnowHouse$Teams", name := "gather", desc := "(LKnowHouse$State;)V" } : Jvm.MethodName)) ∈ gW := gW_in 602 (by decide +kernel) rfl
theorem w_603 : (Jvm.Cond.instanceMethod ({ cls := "KnowHouse$Teams", name := "gather", desc := "(LKnowHouse$State;)V" } : Jvm.MethodName)) ∈ gW := gW_in 603 (by decide +kernel) rfl
theorem w_604 : (Jvm.Cond.selects "KnowHouse$Teams" ({ cls := "KnowHouse$Teams", name := "gather", desc := "(LKnowHouse$State;)V" } : Jvm.MethodName) ({ cls := "KnowHouse$Teams", name := "gather", desc := "(LKnowHouse$State;)V" } : Jvm.MethodName)) ∈ gW := gW_in 604 (by decide +kernel) rfl
set_option maxRecDepth 100000 in
theorem w_605 : (Jvm.Cond.code ({ cls := "KnowHouse$Teams", name := "gather", desc := "(LKnowHouse$State;)V" } : Jvm.MethodName) prog_10_method_2_code (5 : Nat) (Option.none : Option Jvm.ClassFile.FieldType)) ∈ gW := gW_in 605 rfl rfl
theorem w_606 : (Jvm.Cond.methodLink "KnowHouse$Teams" (21 : Nat) ({ cls := "KnowHouse$State", name := "isHere", desc := "(I)Z" } : Jvm.MethodName)) ∈ gW := gW_in 606 (by decide +kernel) rfl
theorem w_607 : (Jvm.Cond.methodLink "KnowHouse$Teams" (29 : Nat) ({ cls := "KnowHouse$State", name := "isAble", desc := "(ILKnowHouse$Page;)Z" } : Jvm.MethodName)) ∈ gW := gW_in 607 (by decide +kernel) rfl
theorem w_608 : (Jvm.Cond.methodLink "KnowHouse" (203 : Nat) ({ cls := "KnowHouse$Teams", name := "lostWithout", desc := "(I)I" } : Jvm.MethodName)) ∈ gW := gW_in 608 (by decide +kernel) rfl
theorem w_609 : (Jvm.Cond.instanceMethod ({ cls := "KnowHouse$Teams", name := "lostWithout", desc := "(I)I" } : Jvm.MethodName)) ∈ gW := gW_in 609 (by decide +kernel) rfl
theorem w_610 : (Jvm.Cond.selects "KnowHouse$Teams" ({ cls := "KnowHouse$Teams", name := "lostWithout", desc := "(I)I" } : Jvm.MethodName) ({ cls := "KnowHouse$Teams", name := "lostWithout", desc := "(I)I" } : Jvm.MethodName)) ∈ gW := gW_in 610 (by decide +kernel) rfl
set_option maxRecDepth 100000 in
theorem w_611 : (Jvm.Cond.code ({ cls := "KnowHouse$Teams", name := "lostWithout", desc := "(I)I" } : Jvm.MethodName) prog_10_method_4_code (4 : Nat) (Option.some Jvm.ClassFile.FieldType.int)) ∈ gW := gW_in 611 rfl rfl
theorem w_612 : (Jvm.Cond.methodLink "KnowHouseLaw" (95 : Nat) ({ cls := "KnowHouse", name := "lone", desc := "(I)I" } : Jvm.MethodName)) ∈ gW := gW_in 612 (by decide +kernel) rfl
theorem w_613 : (Jvm.Cond.instanceMethod ({ cls := "KnowHouse", name := "lone", desc := "(I)I" } : Jvm.MethodName)) ∈ gW := gW_in 613 (by decide +kernel) rfl
theorem w_614 : (Jvm.Cond.selects "KnowHouse" ({ cls := "KnowHouse", name := "lone", desc := "(I)I" } : Jvm.MethodName) ({ cls := "KnowHouse", name := "lone", desc := "(I)I" } : Jvm.MethodName)) ∈ gW := gW_in 614 (by decide +kernel) rfl
set_option maxRecDepth 100000 in
theorem w_615 : (Jvm.Cond.code ({ cls := "KnowHouse", name := "lone", desc := "(I)I" } : Jvm.MethodName) prog_1_method_21_code (4 : Nat) (Option.some Jvm.ClassFile.FieldType.int)) ∈ gW := gW_in 615 rfl rfl
theorem w_616 : (Jvm.Cond.methodLink "KnowHouse" (206 : Nat) ({ cls := "KnowHouse$Teams", name := "loneAfter", desc := "(I)I" } : Jvm.MethodName)) ∈ gW := gW_in 616 (by decide +kernel) rfl
theorem w_617 : (Jvm.Cond.instanceMethod ({ cls := "KnowHouse$Teams", name := "loneAfter", desc := "(I)I" } : Jvm.MethodName)) ∈ gW := gW_in 617 (by decide +kernel) rfl
theorem w_618 : (Jvm.Cond.selects "KnowHouse$Teams" ({ cls := "KnowHouse$Teams", name := "loneAfter", desc := "(I)I" } : Jvm.MethodName) ({ cls := "KnowHouse$Teams", name := "loneAfter", desc := "(I)I" } : Jvm.MethodName)) ∈ gW := gW_in 618 (by decide +kernel) rfl
set_option maxRecDepth 100000 in
theorem w_619 : (Jvm.Cond.code ({ cls := "KnowHouse$Teams", name := "loneAfter", desc := "(I)I" } : Jvm.MethodName) prog_10_method_5_code (8 : Nat) (Option.some Jvm.ClassFile.FieldType.int)) ∈ gW := gW_in 619 rfl rfl
theorem w_620 : (Jvm.Cond.methodLink "KnowHouse$Teams" (33 : Nat) ({ cls := "java/lang/Integer", name := "bitCount", desc := "(I)I" } : Jvm.MethodName)) ∈ gW := gW_in 620 (by decide +kernel) rfl
theorem w_621 : (Jvm.Cond.static ({ cls := "java/lang/Integer", name := "bitCount", desc := "(I)I" } : Jvm.MethodName)) ∈ gW := gW_in 621 (by decide +kernel) rfl
set_option maxRecDepth 100000 in
theorem w_622 : (Jvm.Cond.code ({ cls := "java/lang/Integer", name := "bitCount", desc := "(I)I" } : Jvm.MethodName) prog_13_method_49_code (1 : Nat) (Option.some Jvm.ClassFile.FieldType.int)) ∈ gW := gW_in 622 rfl rfl
theorem w_623 : (Jvm.Cond.constant "java/lang/Integer" (265 : Nat) (1431655765 : Int32)) ∈ gW := gW_in 623 (by decide +kernel) rfl
theorem w_624 : (Jvm.Cond.constant "java/lang/Integer" (266 : Nat) (858993459 : Int32)) ∈ gW := gW_in 624 (by decide +kernel) rfl
theorem w_625 : (Jvm.Cond.constant "java/lang/Integer" (267 : Nat) (252645135 : Int32)) ∈ gW := gW_in 625 (by decide +kernel) rfl
theorem w_626 : (Jvm.Cond.methodLink "KnowHouse$Teams" (39 : Nat) ({ cls := "KnowHouse$Teams", name := "isAhead", desc := "(II)Z" } : Jvm.MethodName)) ∈ gW := gW_in 626 (by decide +kernel) rfl
theorem w_627 : (Jvm.Cond.static ({ cls := "KnowHouse$Teams", name := "isAhead", desc := "(II)Z" } : Jvm.MethodName)) ∈ gW := gW_in 627 (by decide +kernel) rfl
set_option maxRecDepth 100000 in
theorem w_628 : (Jvm.Cond.code ({ cls := "KnowHouse$Teams", name := "isAhead", desc := "(II)Z" } : Jvm.MethodName) prog_10_method_8_code (3 : Nat) (Option.some Jvm.ClassFile.FieldType.boolean)) ∈ gW := gW_in 628 rfl rfl
theorem w_629 : (Jvm.Cond.methodLink "KnowHouseLaw" (99 : Nat) ({ cls := "KnowHouse", name := "cover", desc := "()I" } : Jvm.MethodName)) ∈ gW := gW_in 629 (by decide +kernel) rfl
theorem w_630 : (Jvm.Cond.instanceMethod ({ cls := "KnowHouse", name := "cover", desc := "()I" } : Jvm.MethodName)) ∈ gW := gW_in 630 (by decide +kernel) rfl
theorem w_631 : (Jvm.Cond.selects "KnowHouse" ({ cls := "KnowHouse", name := "cover", desc := "()I" } : Jvm.MethodName) ({ cls := "KnowHouse", name := "cover", desc := "()I" } : Jvm.MethodName)) ∈ gW := gW_in 631 (by decide +kernel) rfl
set_option maxRecDepth 100000 in
theorem w_632 : (Jvm.Cond.code ({ cls := "KnowHouse", name := "cover", desc := "()I" } : Jvm.MethodName) prog_1_method_22_code (1 : Nat) (Option.some Jvm.ClassFile.FieldType.int)) ∈ gW := gW_in 632 rfl rfl
theorem w_633 : (Jvm.Cond.methodLink "KnowHouse" (209 : Nat) ({ cls := "KnowHouse$Teams", name := "fewest", desc := "(I)I" } : Jvm.MethodName)) ∈ gW := gW_in 633 (by decide +kernel) rfl
theorem w_634 : (Jvm.Cond.instanceMethod ({ cls := "KnowHouse$Teams", name := "fewest", desc := "(I)I" } : Jvm.MethodName)) ∈ gW := gW_in 634 (by decide +kernel) rfl
theorem w_635 : (Jvm.Cond.selects "KnowHouse$Teams" ({ cls := "KnowHouse$Teams", name := "fewest", desc := "(I)I" } : Jvm.MethodName) ({ cls := "KnowHouse$Teams", name := "fewest", desc := "(I)I" } : Jvm.MethodName)) ∈ gW := gW_in 635 (by decide +kernel) rfl
set_option maxRecDepth 100000 in
theorem w_636 : (Jvm.Cond.code ({ cls := "KnowHouse$Teams", name := "fewest", desc := "(I)I" } : Jvm.MethodName) prog_10_method_6_code (4 : Nat) (Option.some Jvm.ClassFile.FieldType.int)) ∈ gW := gW_in 636 rfl rfl
theorem w_637 : (Jvm.Cond.methodLink "KnowHouse$Teams" (43 : Nat) ({ cls := "KnowHouse$Teams", name := "meetsAll", desc := "(I)Z" } : Jvm.MethodName)) ∈ gW := gW_in 637 (by decide +kernel) rfl
theorem w_639 : (Jvm.Cond.instanceMethod ({ cls := "KnowHouse$Teams", name := "meetsAll", desc := "(I)Z" } : Jvm.MethodName)) ∈ gW := gW_in 639 (by decide +kernel) rfl
set_option maxRecDepth 100000 in
theorem w_640 : (Jvm.Cond.code ({ cls := "KnowHouse$Teams", name := "meetsAll", desc := "(I)Z" } : Jvm.MethodName) prog_10_method_7_code (6 : Nat) (Option.some Jvm.ClassFile.FieldType.boolean)) ∈ gW := gW_in 640 rfl rfl
theorem w_641 : (Jvm.Cond.methodLink "KnowHouseLaw" (103 : Nat) ({ cls := "KnowHouse", name := "plan", desc := "(II)I" } : Jvm.MethodName)) ∈ gW := gW_in 641 (by decide +kernel) rfl
theorem w_642 : (Jvm.Cond.instanceMethod ({ cls := "KnowHouse", name := "plan", desc := "(II)I" } : Jvm.MethodName)) ∈ gW := gW_in 642 (by decide +kernel) rfl
theorem w_643 : (Jvm.Cond.selects "KnowHouse" ({ cls := "KnowHouse", name := "plan", desc := "(II)I" } : Jvm.MethodName) ({ cls := "KnowHouse", name := "plan", desc := "(II)I" } : Jvm.MethodName)) ∈ gW := gW_in 643 (by decide +kernel) rfl
set_option maxRecDepth 100000 in
theorem w_644 : (Jvm.Cond.code ({ cls := "KnowHouse", name := "plan", desc := "(II)I" } : Jvm.MethodName) prog_1_method_23_code (3 : Nat) (Option.some Jvm.ClassFile.FieldType.int)) ∈ gW := gW_in 644 rfl rfl
theorem w_645 : (Jvm.Cond.methodLink "KnowHouse" (212 : Nat) ({ cls := "KnowHouse$Planner", name := "workOut", desc := "(LKnowHouse$State;LKnowHouse$Teams;I)Z" } : Jvm.MethodName)) ∈ gW := gW_in 645 (by decide +kernel) rfl
theorem w_646 : (Jvm.Cond.instanceMethod ({ cls := "KnowHouse$Planner", name := "workOut", desc := "(LKnowHouse$State;LKnowHouse$Teams;I)Z" } : Jvm.MethodName)) ∈ gW := gW_in 646 (by decide +kernel) rfl
theorem w_647 : (Jvm.Cond.selects "KnowHouse$Planner" ({ cls := "KnowHouse$Planner", name := "workOut", desc := "(LKnowHouse$State;LKnowHouse$Teams;I)Z" } : Jvm.MethodName) ({ cls := "KnowHouse$Planner", name := "workOut", desc := "(LKnowHouse$State;LKnowHouse$Teams;I)Z" } : Jvm.MethodName)) ∈ gW := gW_in 647 (by decide +kernel) rfl
set_option maxRecDepth 100000 in
theorem w_648 : (Jvm.Cond.code ({ cls := "KnowHouse$Planner", name := "workOut", desc := "(LKnowHouse$State;LKnowHouse$Teams;I)Z" } : Jvm.MethodName) prog_7_method_2_code (4 : Nat) (Option.some Jvm.ClassFile.FieldType.boolean)) ∈ gW := gW_in 648 rfl rfl
theorem w_649 : (Jvm.Cond.methodLink "KnowHouse$Planner" (24 : Nat) ({ cls := "KnowHouse$Planner", name := "priceTasks", desc := "(LKnowHouse$State;)V" } : Jvm.MethodName)) ∈ gW := gW_in 649 (by decide +kernel) rfl
theorem w_651 : (Jvm.Cond.instanceMethod ({ cls := "KnowHouse$Planner", name := "priceTasks", desc := "(LKnowHouse$State;)V" } : Jvm.MethodName)) ∈ gW := gW_in 651 (by decide +kernel) rfl
set_option maxRecDepth 100000 in
theorem w_652 : (Jvm.Cond.code ({ cls := "KnowHouse$Planner", name := "priceTasks", desc := "(LKnowHouse$State;)V" } : Jvm.MethodName) prog_7_method_3_code (5 : Nat) (Option.none : Option Jvm.ClassFile.FieldType)) ∈ gW := gW_in 652 rfl rfl
theorem w_653 : (Jvm.Cond.methodLink "KnowHouse$Planner" (46 : Nat) ({ cls := "KnowHouse$State", name := "isPerson", desc := "(I)Z" } : Jvm.MethodName)) ∈ gW := gW_in 653 (by decide +kernel) rfl
theorem w_654 : (Jvm.Cond.methodLink "KnowHouse$Planner" (52 : Nat) ({ cls := "KnowHouse$State", name := "isHere", desc := "(I)Z" } : Jvm.MethodName)) ∈ gW := gW_in 654 (by decide +kernel) rfl
theorem w_655 : (Jvm.Cond.methodLink "KnowHouse$Planner" (59 : Nat) ({ cls := "KnowHouse$Planner", name := "priceOf", desc := "(LKnowHouse$State;ILKnowHouse$Page;)I" } : Jvm.MethodName)) ∈ gW := gW_in 655 (by decide +kernel) rfl
theorem w_656 : (Jvm.Cond.static ({ cls := "KnowHouse$Planner", name := "priceOf", desc := "(LKnowHouse$State;ILKnowHouse$Page;)I" } : Jvm.MethodName)) ∈ gW := gW_in 656 (by decide +kernel) rfl
set_option maxRecDepth 100000 in
theorem w_657 : (Jvm.Cond.code ({ cls := "KnowHouse$Planner", name := "priceOf", desc := "(LKnowHouse$State;ILKnowHouse$Page;)I" } : Jvm.MethodName) prog_7_method_4_code (6 : Nat) (Option.some Jvm.ClassFile.FieldType.int)) ∈ gW := gW_in 657 rfl rfl
theorem w_658 : (Jvm.Cond.methodLink "KnowHouse$Planner" (66 : Nat) ({ cls := "KnowHouse$Page", name := "knownBy", desc := "(II)I" } : Jvm.MethodName)) ∈ gW := gW_in 658 (by decide +kernel) rfl
theorem w_659 : (Jvm.Cond.methodLink "KnowHouse$Planner" (72 : Nat) ({ cls := "KnowHouse$Page", name := "size", desc := "()I" } : Jvm.MethodName)) ∈ gW := gW_in 659 (by decide +kernel) rfl
theorem w_660 : (Jvm.Cond.methodLink "KnowHouse$Planner" (76 : Nat) ({ cls := "KnowHouse$State", name := "isEnough", desc := "(ILKnowHouse$Page;)Z" } : Jvm.MethodName)) ∈ gW := gW_in 660 (by decide +kernel) rfl
theorem w_661 : (Jvm.Cond.methodLink "KnowHouse$Planner" (82 : Nat) ({ cls := "KnowHouse$Page", name := "knownIfRead", desc := "(II)I" } : Jvm.MethodName)) ∈ gW := gW_in 661 (by decide +kernel) rfl
theorem w_662 : (Jvm.Cond.instanceMethod ({ cls := "KnowHouse$Page", name := "knownIfRead", desc := "(II)I" } : Jvm.MethodName)) ∈ gW := gW_in 662 (by decide +kernel) rfl
theorem w_663 : (Jvm.Cond.selects "KnowHouse$Page" ({ cls := "KnowHouse$Page", name := "knownIfRead", desc := "(II)I" } : Jvm.MethodName) ({ cls := "KnowHouse$Page", name := "knownIfRead", desc := "(II)I" } : Jvm.MethodName)) ∈ gW := gW_in 663 (by decide +kernel) rfl
set_option maxRecDepth 100000 in
theorem w_664 : (Jvm.Cond.code ({ cls := "KnowHouse$Page", name := "knownIfRead", desc := "(II)I" } : Jvm.MethodName) prog_6_method_5_code (8 : Nat) (Option.some Jvm.ClassFile.FieldType.int)) ∈ gW := gW_in 664 rfl rfl
theorem w_665 : (Jvm.Cond.methodLink "KnowHouse$Page" (21 : Nat) ({ cls := "KnowHouse$Line", name := "pointsIfRead", desc := "(II)I" } : Jvm.MethodName)) ∈ gW := gW_in 665 (by decide +kernel) rfl
theorem w_666 : (Jvm.Cond.instanceMethod ({ cls := "KnowHouse$Line", name := "pointsIfRead", desc := "(II)I" } : Jvm.MethodName)) ∈ gW := gW_in 666 (by decide +kernel) rfl
theorem w_667 : (Jvm.Cond.selects "KnowHouse$Line" ({ cls := "KnowHouse$Line", name := "pointsIfRead", desc := "(II)I" } : Jvm.MethodName) ({ cls := "KnowHouse$Line", name := "pointsIfRead", desc := "(II)I" } : Jvm.MethodName)) ∈ gW := gW_in 667 (by decide +kernel) rfl
set_option maxRecDepth 100000 in
theorem w_668 : (Jvm.Cond.code ({ cls := "KnowHouse$Line", name := "pointsIfRead", desc := "(II)I" } : Jvm.MethodName) prog_5_method_5_code (3 : Nat) (Option.some Jvm.ClassFile.FieldType.int)) ∈ gW := gW_in 668 rfl rfl
theorem w_669 : (Jvm.Cond.methodLink "KnowHouse$Line" (29 : Nat) ({ cls := "KnowHouse$Line", name := "pointsOf", desc := "(III)I" } : Jvm.MethodName)) ∈ gW := gW_in 669 (by decide +kernel) rfl
theorem w_670 : (Jvm.Cond.constant "KnowHouse$Planner" (42 : Nat) (1000000 : Int32)) ∈ gW := gW_in 670 (by decide +kernel) rfl
theorem w_671 : (Jvm.Cond.methodLink "KnowHouse$Planner" (28 : Nat) ({ cls := "KnowHouse$Planner", name := "openSlots", desc := "(LKnowHouse$State;LKnowHouse$Teams;I)Z" } : Jvm.MethodName)) ∈ gW := gW_in 671 (by decide +kernel) rfl
theorem w_673 : (Jvm.Cond.instanceMethod ({ cls := "KnowHouse$Planner", name := "openSlots", desc := "(LKnowHouse$State;LKnowHouse$Teams;I)Z" } : Jvm.MethodName)) ∈ gW := gW_in 673 (by decide +kernel) rfl
set_option maxRecDepth 100000 in
theorem w_674 : (Jvm.Cond.code ({ cls := "KnowHouse$Planner", name := "openSlots", desc := "(LKnowHouse$State;LKnowHouse$Teams;I)Z" } : Jvm.MethodName) prog_7_method_5_code (7 : Nat) (Option.some Jvm.ClassFile.FieldType.boolean)) ∈ gW := gW_in 674 rfl rfl
theorem w_675 : (Jvm.Cond.methodLink "KnowHouse$Planner" (85 : Nat) ({ cls := "KnowHouse$Teams", name := "sizeOf", desc := "(I)I" } : Jvm.MethodName)) ∈ gW := gW_in 675 (by decide +kernel) rfl
theorem w_676 : (Jvm.Cond.instanceMethod ({ cls := "KnowHouse$Teams", name := "sizeOf", desc := "(I)I" } : Jvm.MethodName)) ∈ gW := gW_in 676 (by decide +kernel) rfl
theorem w_677 : (Jvm.Cond.selects "KnowHouse$Teams" ({ cls := "KnowHouse$Teams", name := "sizeOf", desc := "(I)I" } : Jvm.MethodName) ({ cls := "KnowHouse$Teams", name := "sizeOf", desc := "(I)I" } : Jvm.MethodName)) ∈ gW := gW_in 677 (by decide +kernel) rfl
set_option maxRecDepth 100000 in
theorem w_678 : (Jvm.Cond.code ({ cls := "KnowHouse$Teams", name := "sizeOf", desc := "(I)I" } : Jvm.MethodName) prog_10_method_3_code (2 : Nat) (Option.some Jvm.ClassFile.FieldType.int)) ∈ gW := gW_in 678 rfl rfl
theorem w_679 : (Jvm.Cond.methodLink "KnowHouse$Planner" (91 : Nat) ({ cls := "java/lang/Math", name := "max", desc := "(II)I" } : Jvm.MethodName)) ∈ gW := gW_in 679 (by decide +kernel) rfl
theorem w_680 : (Jvm.Cond.methodLink "KnowHouse$Planner" (32 : Nat) ({ cls := "KnowHouse$Planner", name := "countLeast", desc := "()V" } : Jvm.MethodName)) ∈ gW := gW_in 680 (by decide +kernel) rfl
theorem w_682 : (Jvm.Cond.instanceMethod ({ cls := "KnowHouse$Planner", name := "countLeast", desc := "()V" } : Jvm.MethodName)) ∈ gW := gW_in 682 (by decide +kernel) rfl
set_option maxRecDepth 100000 in
theorem w_683 : (Jvm.Cond.code ({ cls := "KnowHouse$Planner", name := "countLeast", desc := "()V" } : Jvm.MethodName) prog_7_method_6_code (5 : Nat) (Option.none : Option Jvm.ClassFile.FieldType)) ∈ gW := gW_in 683 rfl rfl
theorem w_684 : (Jvm.Cond.methodLink "KnowHouse$Planner" (96 : Nat) ({ cls := "java/util/Arrays", name := "fill", desc := "([II)V" } : Jvm.MethodName)) ∈ gW := gW_in 684 (by decide +kernel) rfl
theorem w_685 : (Jvm.Cond.methodLink "KnowHouse$Planner" (102 : Nat) ({ cls := "KnowHouse$Planner", name := "hoursWith", desc := "(III)I" } : Jvm.MethodName)) ∈ gW := gW_in 685 (by decide +kernel) rfl
theorem w_687 : (Jvm.Cond.instanceMethod ({ cls := "KnowHouse$Planner", name := "hoursWith", desc := "(III)I" } : Jvm.MethodName)) ∈ gW := gW_in 687 (by decide +kernel) rfl
set_option maxRecDepth 100000 in
theorem w_688 : (Jvm.Cond.code ({ cls := "KnowHouse$Planner", name := "hoursWith", desc := "(III)I" } : Jvm.MethodName) prog_7_method_7_code (4 : Nat) (Option.some Jvm.ClassFile.FieldType.int)) ∈ gW := gW_in 688 rfl rfl
theorem w_689 : (Jvm.Cond.methodLink "KnowHouse$Planner" (109 : Nat) ({ cls := "KnowHouse$Planner", name := "filled", desc := "(II)I" } : Jvm.MethodName)) ∈ gW := gW_in 689 (by decide +kernel) rfl
theorem w_691 : (Jvm.Cond.instanceMethod ({ cls := "KnowHouse$Planner", name := "filled", desc := "(II)I" } : Jvm.MethodName)) ∈ gW := gW_in 691 (by decide +kernel) rfl
set_option maxRecDepth 100000 in
theorem w_692 : (Jvm.Cond.code ({ cls := "KnowHouse$Planner", name := "filled", desc := "(II)I" } : Jvm.MethodName) prog_7_method_8_code (3 : Nat) (Option.some Jvm.ClassFile.FieldType.int)) ∈ gW := gW_in 692 rfl rfl
theorem w_693 : (Jvm.Cond.methodLink "KnowHouse$Planner" (112 : Nat) ({ cls := "java/lang/Integer", name := "lowestOneBit", desc := "(I)I" } : Jvm.MethodName)) ∈ gW := gW_in 693 (by decide +kernel) rfl
theorem w_694 : (Jvm.Cond.static ({ cls := "java/lang/Integer", name := "lowestOneBit", desc := "(I)I" } : Jvm.MethodName)) ∈ gW := gW_in 694 (by decide +kernel) rfl
set_option maxRecDepth 100000 in
theorem w_695 : (Jvm.Cond.code ({ cls := "java/lang/Integer", name := "lowestOneBit", desc := "(I)I" } : Jvm.MethodName) prog_13_method_46_code (1 : Nat) (Option.some Jvm.ClassFile.FieldType.int)) ∈ gW := gW_in 695 rfl rfl
theorem w_696 : (Jvm.Cond.methodLink "KnowHouse$Planner" (106 : Nat) ({ cls := "java/lang/Math", name := "min", desc := "(II)I" } : Jvm.MethodName)) ∈ gW := gW_in 696 (by decide +kernel) rfl
theorem w_697 : (Jvm.Cond.static ({ cls := "java/lang/Math", name := "min", desc := "(II)I" } : Jvm.MethodName)) ∈ gW := gW_in 697 (by decide +kernel) rfl
set_option maxRecDepth 100000 in
theorem w_698 : (Jvm.Cond.code ({ cls := "java/lang/Math", name := "min", desc := "(II)I" } : Jvm.MethodName) prog_14_method_69_code (2 : Nat) (Option.some Jvm.ClassFile.FieldType.int)) ∈ gW := gW_in 698 rfl rfl
theorem w_699 : (Jvm.Cond.methodLink "KnowHouse$Planner" (43 : Nat) ({ cls := "KnowHouse$Planner", name := "choose", desc := "()V" } : Jvm.MethodName)) ∈ gW := gW_in 699 (by decide +kernel) rfl
theorem w_701 : (Jvm.Cond.instanceMethod ({ cls := "KnowHouse$Planner", name := "choose", desc := "()V" } : Jvm.MethodName)) ∈ gW := gW_in 701 (by decide +kernel) rfl
set_option maxRecDepth 100000 in
theorem w_702 : (Jvm.Cond.code ({ cls := "KnowHouse$Planner", name := "choose", desc := "()V" } : Jvm.MethodName) prog_7_method_9_code (3 : Nat) (Option.none : Option Jvm.ClassFile.FieldType)) ∈ gW := gW_in 702 rfl rfl
theorem w_703 : (Jvm.Cond.methodLink "KnowHouse$Planner" (117 : Nat) ({ cls := "KnowHouse$Planner", name := "firstFile", desc := "(II)I" } : Jvm.MethodName)) ∈ gW := gW_in 703 (by decide +kernel) rfl
theorem w_705 : (Jvm.Cond.instanceMethod ({ cls := "KnowHouse$Planner", name := "firstFile", desc := "(II)I" } : Jvm.MethodName)) ∈ gW := gW_in 705 (by decide +kernel) rfl
set_option maxRecDepth 100000 in
theorem w_706 : (Jvm.Cond.code ({ cls := "KnowHouse$Planner", name := "firstFile", desc := "(II)I" } : Jvm.MethodName) prog_7_method_10_code (4 : Nat) (Option.some Jvm.ClassFile.FieldType.int)) ∈ gW := gW_in 706 rfl rfl
theorem w_707 : (Jvm.Cond.methodLink "KnowHouseLaw" (107 : Nat) ({ cls := "KnowHouse", name := "sum", desc := "(II)I" } : Jvm.MethodName)) ∈ gW := gW_in 707 (by decide +kernel) rfl
theorem w_708 : (Jvm.Cond.instanceMethod ({ cls := "KnowHouse", name := "sum", desc := "(II)I" } : Jvm.MethodName)) ∈ gW := gW_in 708 (by decide +kernel) rfl
theorem w_709 : (Jvm.Cond.selects "KnowHouse" ({ cls := "KnowHouse", name := "sum", desc := "(II)I" } : Jvm.MethodName) ({ cls := "KnowHouse", name := "sum", desc := "(II)I" } : Jvm.MethodName)) ∈ gW := gW_in 709 (by decide +kernel) rfl
set_option maxRecDepth 100000 in
theorem w_710 : (Jvm.Cond.code ({ cls := "KnowHouse", name := "sum", desc := "(II)I" } : Jvm.MethodName) prog_1_method_24_code (5 : Nat) (Option.some Jvm.ClassFile.FieldType.int)) ∈ gW := gW_in 710 rfl rfl
theorem w_711 : (Jvm.Cond.methodLink "KnowHouse" (222 : Nat) ({ cls := "KnowHouse$State", name := "shareOf", desc := "(ILKnowHouse$Page;)I" } : Jvm.MethodName)) ∈ gW := gW_in 711 (by decide +kernel) rfl
theorem w_712 : (Jvm.Cond.instanceMethod ({ cls := "KnowHouse$State", name := "shareOf", desc := "(ILKnowHouse$Page;)I" } : Jvm.MethodName)) ∈ gW := gW_in 712 (by decide +kernel) rfl
theorem w_713 : (Jvm.Cond.selects "KnowHouse$State" ({ cls := "KnowHouse$State", name := "shareOf", desc := "(ILKnowHouse$Page;)I" } : Jvm.MethodName) ({ cls := "KnowHouse$State", name := "shareOf", desc := "(ILKnowHouse$Page;)I" } : Jvm.MethodName)) ∈ gW := gW_in 713 (by decide +kernel) rfl
set_option maxRecDepth 100000 in
theorem w_714 : (Jvm.Cond.code ({ cls := "KnowHouse$State", name := "shareOf", desc := "(ILKnowHouse$Page;)I" } : Jvm.MethodName) prog_9_method_13_code (9 : Nat) (Option.some Jvm.ClassFile.FieldType.int)) ∈ gW := gW_in 714 rfl rfl
theorem w_715 : (Jvm.Cond.methodLink "KnowHouse$State" (97 : Nat) ({ cls := "KnowHouse$State", name := "changeOf", desc := "(I)LKnowHouse$Change;" } : Jvm.MethodName)) ∈ gW := gW_in 715 (by decide +kernel) rfl
theorem w_716 : (Jvm.Cond.methodLink "KnowHouse$State" (101 : Nat) ({ cls := "KnowHouse$Change", name := "shareOf", desc := "(I)I" } : Jvm.MethodName)) ∈ gW := gW_in 716 (by decide +kernel) rfl
theorem w_717 : (Jvm.Cond.instanceMethod ({ cls := "KnowHouse$Change", name := "shareOf", desc := "(I)I" } : Jvm.MethodName)) ∈ gW := gW_in 717 (by decide +kernel) rfl
theorem w_718 : (Jvm.Cond.selects "KnowHouse$Change" ({ cls := "KnowHouse$Change", name := "shareOf", desc := "(I)I" } : Jvm.MethodName) ({ cls := "KnowHouse$Change", name := "shareOf", desc := "(I)I" } : Jvm.MethodName)) ∈ gW := gW_in 718 (by decide +kernel) rfl
set_option maxRecDepth 100000 in
theorem w_719 : (Jvm.Cond.code ({ cls := "KnowHouse$Change", name := "shareOf", desc := "(I)I" } : Jvm.MethodName) prog_3_method_3_code (2 : Nat) (Option.some Jvm.ClassFile.FieldType.int)) ∈ gW := gW_in 719 rfl rfl
theorem w_720 : (Jvm.Cond.methodLink "KnowHouseLaw" (111 : Nat) ({ cls := "KnowHouse", name := "count", desc := "(I)I" } : Jvm.MethodName)) ∈ gW := gW_in 720 (by decide +kernel) rfl
theorem w_721 : (Jvm.Cond.instanceMethod ({ cls := "KnowHouse", name := "count", desc := "(I)I" } : Jvm.MethodName)) ∈ gW := gW_in 721 (by decide +kernel) rfl
theorem w_722 : (Jvm.Cond.selects "KnowHouse" ({ cls := "KnowHouse", name := "count", desc := "(I)I" } : Jvm.MethodName) ({ cls := "KnowHouse", name := "count", desc := "(I)I" } : Jvm.MethodName)) ∈ gW := gW_in 722 (by decide +kernel) rfl
set_option maxRecDepth 100000 in
theorem w_723 : (Jvm.Cond.code ({ cls := "KnowHouse", name := "count", desc := "(I)I" } : Jvm.MethodName) prog_1_method_25_code (2 : Nat) (Option.some Jvm.ClassFile.FieldType.int)) ∈ gW := gW_in 723 rfl rfl
theorem w_724 : (Jvm.Cond.methodLink "KnowHouse" (226 : Nat) ({ cls := "java/lang/Integer", name := "bitCount", desc := "(I)I" } : Jvm.MethodName)) ∈ gW := gW_in 724 (by decide +kernel) rfl
theorem w_725 : (Jvm.Cond.methodLink "KnowHouse" (231 : Nat) ({ cls := "KnowHouse", name := "countLone", desc := "()I" } : Jvm.MethodName)) ∈ gW := gW_in 725 (by decide +kernel) rfl
theorem w_727 : (Jvm.Cond.instanceMethod ({ cls := "KnowHouse", name := "countLone", desc := "()I" } : Jvm.MethodName)) ∈ gW := gW_in 727 (by decide +kernel) rfl
set_option maxRecDepth 100000 in
theorem w_728 : (Jvm.Cond.code ({ cls := "KnowHouse", name := "countLone", desc := "()I" } : Jvm.MethodName) prog_1_method_36_code (3 : Nat) (Option.some Jvm.ClassFile.FieldType.int)) ∈ gW := gW_in 728 rfl rfl
theorem w_729 : (Jvm.Cond.methodLink "KnowHouseLaw" (115 : Nat) ({ cls := "KnowHouse", name := "act", desc := "(III)I" } : Jvm.MethodName)) ∈ gW := gW_in 729 (by decide +kernel) rfl
theorem w_730 : (Jvm.Cond.instanceMethod ({ cls := "KnowHouse", name := "act", desc := "(III)I" } : Jvm.MethodName)) ∈ gW := gW_in 730 (by decide +kernel) rfl
theorem w_731 : (Jvm.Cond.selects "KnowHouse" ({ cls := "KnowHouse", name := "act", desc := "(III)I" } : Jvm.MethodName) ({ cls := "KnowHouse", name := "act", desc := "(III)I" } : Jvm.MethodName)) ∈ gW := gW_in 731 (by decide +kernel) rfl
set_option maxRecDepth 100000 in
theorem w_732 : (Jvm.Cond.code ({ cls := "KnowHouse", name := "act", desc := "(III)I" } : Jvm.MethodName) prog_1_method_26_code (5 : Nat) (Option.some Jvm.ClassFile.FieldType.int)) ∈ gW := gW_in 732 rfl rfl
theorem w_733 : (Jvm.Cond.methodLink "KnowHouse" (237 : Nat) ({ cls := "KnowHouse$Acts", name := "perform", desc := "(LKnowHouse$Change;II)I" } : Jvm.MethodName)) ∈ gW := gW_in 733 (by decide +kernel) rfl
theorem w_734 : (Jvm.Cond.instanceMethod ({ cls := "KnowHouse$Acts", name := "perform", desc := "(LKnowHouse$Change;II)I" } : Jvm.MethodName)) ∈ gW := gW_in 734 (by decide +kernel) rfl
theorem w_735 : (Jvm.Cond.selects "KnowHouse$Acts" ({ cls := "KnowHouse$Acts", name := "perform", desc := "(LKnowHouse$Change;II)I" } : Jvm.MethodName) ({ cls := "KnowHouse$Acts", name := "perform", desc := "(LKnowHouse$Change;II)I" } : Jvm.MethodName)) ∈ gW := gW_in 735 (by decide +kernel) rfl
set_option maxRecDepth 100000 in
theorem w_736 : (Jvm.Cond.code ({ cls := "KnowHouse$Acts", name := "perform", desc := "(LKnowHouse$Change;II)I" } : Jvm.MethodName) prog_2_method_2_code (4 : Nat) (Option.some Jvm.ClassFile.FieldType.int)) ∈ gW := gW_in 736 rfl rfl
theorem w_737 : (Jvm.Cond.methodLink "KnowHouse$Acts" (24 : Nat) ({ cls := "KnowHouse$Acts", name := "run", desc := "(LKnowHouse$Acts;LKnowHouse$Change;IIII)I" } : Jvm.MethodName)) ∈ gW := gW_in 737 (by decide +kernel) rfl
theorem w_738 : (Jvm.Cond.static ({ cls := "KnowHouse$Acts", name := "run", desc := "(LKnowHouse$Acts;LKnowHouse$Change;IIII)I" } : Jvm.MethodName)) ∈ gW := gW_in 738 (by decide +kernel) rfl
set_option maxRecDepth 100000 in
theorem w_739 : (Jvm.Cond.code ({ cls := "KnowHouse$Acts", name := "run", desc := "(LKnowHouse$Acts;LKnowHouse$Change;IIII)I" } : Jvm.MethodName) prog_2_method_3_code (10 : Nat) (Option.some Jvm.ClassFile.FieldType.int)) ∈ gW := gW_in 739 rfl rfl
theorem w_740 : (Jvm.Cond.methodLink "KnowHouse$Acts" (28 : Nat) ({ cls := "KnowHouse$Acts", name := "kindWithBody", desc := "(II)I" } : Jvm.MethodName)) ∈ gW := gW_in 740 (by decide +kernel) rfl
theorem w_741 : (Jvm.Cond.static ({ cls := "KnowHouse$Acts", name := "kindWithBody", desc := "(II)I" } : Jvm.MethodName)) ∈ gW := gW_in 741 (by decide +kernel) rfl
set_option maxRecDepth 100000 in
theorem w_742 : (Jvm.Cond.code ({ cls := "KnowHouse$Acts", name := "kindWithBody", desc := "(II)I" } : Jvm.MethodName) prog_2_method_4_code (4 : Nat) (Option.some Jvm.ClassFile.FieldType.int)) ∈ gW := gW_in 742 rfl rfl
theorem w_743 : (Jvm.Cond.fieldLink "KnowHouse$Acts" (35 : Nat) "KnowHouse$Acts" "BODIES" "[I") ∈ gW := gW_in 743 (by decide +kernel) rfl
theorem w_746 : (Jvm.Cond.methodLink "KnowHouse$Acts" (38 : Nat) ({ cls := "KnowHouse$Acts", name := "begin", desc := "(I)V" } : Jvm.MethodName)) ∈ gW := gW_in 746 (by decide +kernel) rfl
theorem w_748 : (Jvm.Cond.instanceMethod ({ cls := "KnowHouse$Acts", name := "begin", desc := "(I)V" } : Jvm.MethodName)) ∈ gW := gW_in 748 (by decide +kernel) rfl
set_option maxRecDepth 100000 in
theorem w_749 : (Jvm.Cond.code ({ cls := "KnowHouse$Acts", name := "begin", desc := "(I)V" } : Jvm.MethodName) prog_2_method_5_code (2 : Nat) (Option.none : Option Jvm.ClassFile.FieldType)) ∈ gW := gW_in 749 rfl rfl
theorem w_750 : (Jvm.Cond.methodLink "KnowHouseLaw" (119 : Nat) ({ cls := "KnowHouse", name := "trace", desc := "(I)I" } : Jvm.MethodName)) ∈ gW := gW_in 750 (by decide +kernel) rfl
theorem w_751 : (Jvm.Cond.instanceMethod ({ cls := "KnowHouse", name := "trace", desc := "(I)I" } : Jvm.MethodName)) ∈ gW := gW_in 751 (by decide +kernel) rfl
theorem w_752 : (Jvm.Cond.selects "KnowHouse" ({ cls := "KnowHouse", name := "trace", desc := "(I)I" } : Jvm.MethodName) ({ cls := "KnowHouse", name := "trace", desc := "(I)I" } : Jvm.MethodName)) ∈ gW := gW_in 752 (by decide +kernel) rfl
set_option maxRecDepth 100000 in
theorem w_753 : (Jvm.Cond.code ({ cls := "KnowHouse", name := "trace", desc := "(I)I" } : Jvm.MethodName) prog_1_method_27_code (2 : Nat) (Option.some Jvm.ClassFile.FieldType.int)) ∈ gW := gW_in 753 rfl rfl
theorem w_754 : (Jvm.Cond.methodLink "KnowHouseLaw" (123 : Nat) ({ cls := "KnowHouse", name := "sheet", desc := "(III)I" } : Jvm.MethodName)) ∈ gW := gW_in 754 (by decide +kernel) rfl
theorem w_755 : (Jvm.Cond.instanceMethod ({ cls := "KnowHouse", name := "sheet", desc := "(III)I" } : Jvm.MethodName)) ∈ gW := gW_in 755 (by decide +kernel) rfl
theorem w_756 : (Jvm.Cond.selects "KnowHouse" ({ cls := "KnowHouse", name := "sheet", desc := "(III)I" } : Jvm.MethodName) ({ cls := "KnowHouse", name := "sheet", desc := "(III)I" } : Jvm.MethodName)) ∈ gW := gW_in 756 (by decide +kernel) rfl
set_option maxRecDepth 100000 in
theorem w_757 : (Jvm.Cond.code ({ cls := "KnowHouse", name := "sheet", desc := "(III)I" } : Jvm.MethodName) prog_1_method_28_code (5 : Nat) (Option.some Jvm.ClassFile.FieldType.int)) ∈ gW := gW_in 757 rfl rfl
theorem w_758 : (Jvm.Cond.methodLink "KnowHouse" (244 : Nat) ({ cls := "KnowHouse", name := "sheetOf", desc := "(I)LKnowHouse$Sheet;" } : Jvm.MethodName)) ∈ gW := gW_in 758 (by decide +kernel) rfl
theorem w_760 : (Jvm.Cond.instanceMethod ({ cls := "KnowHouse", name := "sheetOf", desc := "(I)LKnowHouse$Sheet;" } : Jvm.MethodName)) ∈ gW := gW_in 760 (by decide +kernel) rfl
set_option maxRecDepth 100000 in
theorem w_761 : (Jvm.Cond.code ({ cls := "KnowHouse", name := "sheetOf", desc := "(I)LKnowHouse$Sheet;" } : Jvm.MethodName) prog_1_method_35_code (2 : Nat) (Option.some (Jvm.ClassFile.FieldType.object "KnowHouse$Sheet"))) ∈ gW := gW_in 761 rfl rfl
theorem w_762 : (Jvm.Cond.methodLink "KnowHouse" (248 : Nat) ({ cls := "KnowHouse$Sheet", name := "begin", desc := "(II)V" } : Jvm.MethodName)) ∈ gW := gW_in 762 (by decide +kernel) rfl
theorem w_763 : (Jvm.Cond.instanceMethod ({ cls := "KnowHouse$Sheet", name := "begin", desc := "(II)V" } : Jvm.MethodName)) ∈ gW := gW_in 763 (by decide +kernel) rfl
theorem w_764 : (Jvm.Cond.selects "KnowHouse$Sheet" ({ cls := "KnowHouse$Sheet", name := "begin", desc := "(II)V" } : Jvm.MethodName) ({ cls := "KnowHouse$Sheet", name := "begin", desc := "(II)V" } : Jvm.MethodName)) ∈ gW := gW_in 764 (by decide +kernel) rfl
set_option maxRecDepth 100000 in
theorem w_765 : (Jvm.Cond.code ({ cls := "KnowHouse$Sheet", name := "begin", desc := "(II)V" } : Jvm.MethodName) prog_8_method_2_code (3 : Nat) (Option.none : Option Jvm.ClassFile.FieldType)) ∈ gW := gW_in 765 rfl rfl
theorem w_766 : (Jvm.Cond.methodLink "KnowHouse$Sheet" (22 : Nat) ({ cls := "java/util/Arrays", name := "fill", desc := "([II)V" } : Jvm.MethodName)) ∈ gW := gW_in 766 (by decide +kernel) rfl
theorem w_767 : (Jvm.Cond.methodLink "KnowHouseLaw" (127 : Nat) ({ cls := "KnowHouse", name := "cell", desc := "(III)I" } : Jvm.MethodName)) ∈ gW := gW_in 767 (by decide +kernel) rfl
theorem w_768 : (Jvm.Cond.instanceMethod ({ cls := "KnowHouse", name := "cell", desc := "(III)I" } : Jvm.MethodName)) ∈ gW := gW_in 768 (by decide +kernel) rfl
theorem w_769 : (Jvm.Cond.selects "KnowHouse" ({ cls := "KnowHouse", name := "cell", desc := "(III)I" } : Jvm.MethodName) ({ cls := "KnowHouse", name := "cell", desc := "(III)I" } : Jvm.MethodName)) ∈ gW := gW_in 769 (by decide +kernel) rfl
set_option maxRecDepth 100000 in
theorem w_770 : (Jvm.Cond.code ({ cls := "KnowHouse", name := "cell", desc := "(III)I" } : Jvm.MethodName) prog_1_method_29_code (5 : Nat) (Option.some Jvm.ClassFile.FieldType.int)) ∈ gW := gW_in 770 rfl rfl
theorem w_771 : (Jvm.Cond.methodLink "KnowHouseLaw" (131 : Nat) ({ cls := "KnowHouse", name := "come", desc := "(II)I" } : Jvm.MethodName)) ∈ gW := gW_in 771 (by decide +kernel) rfl
theorem w_772 : (Jvm.Cond.instanceMethod ({ cls := "KnowHouse", name := "come", desc := "(II)I" } : Jvm.MethodName)) ∈ gW := gW_in 772 (by decide +kernel) rfl
theorem w_773 : (Jvm.Cond.selects "KnowHouse" ({ cls := "KnowHouse", name := "come", desc := "(II)I" } : Jvm.MethodName) ({ cls := "KnowHouse", name := "come", desc := "(II)I" } : Jvm.MethodName)) ∈ gW := gW_in 773 (by decide +kernel) rfl
set_option maxRecDepth 100000 in
theorem w_774 : (Jvm.Cond.code ({ cls := "KnowHouse", name := "come", desc := "(II)I" } : Jvm.MethodName) prog_1_method_30_code (4 : Nat) (Option.some Jvm.ClassFile.FieldType.int)) ∈ gW := gW_in 774 rfl rfl
theorem w_775 : (Jvm.Cond.methodLink "KnowHouse" (260 : Nat) ({ cls := "KnowHouse$Sheet", name := "holdsTexts", desc := "()Z" } : Jvm.MethodName)) ∈ gW := gW_in 775 (by decide +kernel) rfl
theorem w_776 : (Jvm.Cond.instanceMethod ({ cls := "KnowHouse$Sheet", name := "holdsTexts", desc := "()Z" } : Jvm.MethodName)) ∈ gW := gW_in 776 (by decide +kernel) rfl
theorem w_777 : (Jvm.Cond.selects "KnowHouse$Sheet" ({ cls := "KnowHouse$Sheet", name := "holdsTexts", desc := "()Z" } : Jvm.MethodName) ({ cls := "KnowHouse$Sheet", name := "holdsTexts", desc := "()Z" } : Jvm.MethodName)) ∈ gW := gW_in 777 (by decide +kernel) rfl
set_option maxRecDepth 100000 in
theorem w_778 : (Jvm.Cond.code ({ cls := "KnowHouse$Sheet", name := "holdsTexts", desc := "()Z" } : Jvm.MethodName) prog_8_method_3_code (2 : Nat) (Option.some Jvm.ClassFile.FieldType.boolean)) ∈ gW := gW_in 778 rfl rfl
theorem w_780 : (Jvm.Cond.methodLink "KnowHouse" (264 : Nat) ({ cls := "java/lang/System", name := "arraycopy", desc := "(Ljava/lang/Object;ILjava/lang/Object;II)V" } : Jvm.MethodName)) ∈ gW := gW_in 780 (by decide +kernel) rfl
theorem w_781 : (Jvm.Cond.methodLink "KnowHouseLaw" (135 : Nat) ({ cls := "KnowHouse", name := "forge", desc := "(III)I" } : Jvm.MethodName)) ∈ gW := gW_in 781 (by decide +kernel) rfl
theorem w_782 : (Jvm.Cond.instanceMethod ({ cls := "KnowHouse", name := "forge", desc := "(III)I" } : Jvm.MethodName)) ∈ gW := gW_in 782 (by decide +kernel) rfl
theorem w_783 : (Jvm.Cond.selects "KnowHouse" ({ cls := "KnowHouse", name := "forge", desc := "(III)I" } : Jvm.MethodName) ({ cls := "KnowHouse", name := "forge", desc := "(III)I" } : Jvm.MethodName)) ∈ gW := gW_in 783 (by decide +kernel) rfl
set_option maxRecDepth 100000 in
theorem w_784 : (Jvm.Cond.code ({ cls := "KnowHouse", name := "forge", desc := "(III)I" } : Jvm.MethodName) prog_1_method_31_code (4 : Nat) (Option.some Jvm.ClassFile.FieldType.int)) ∈ gW := gW_in 784 rfl rfl
theorem w_785 : (Jvm.Cond.methodLink "KnowHouse" (270 : Nat) ({ cls := "java/lang/Math", name := "floorMod", desc := "(II)I" } : Jvm.MethodName)) ∈ gW := gW_in 785 (by decide +kernel) rfl
theorem w_786 : (Jvm.Cond.static ({ cls := "java/lang/Math", name := "floorMod", desc := "(II)I" } : Jvm.MethodName)) ∈ gW := gW_in 786 (by decide +kernel) rfl
set_option maxRecDepth 100000 in
theorem w_787 : (Jvm.Cond.code ({ cls := "java/lang/Math", name := "floorMod", desc := "(II)I" } : Jvm.MethodName) prog_14_method_50_code (3 : Nat) (Option.some Jvm.ClassFile.FieldType.int)) ∈ gW := gW_in 787 rfl rfl
theorem w_788 : (Jvm.Cond.methodLink "KnowHouse" (275 : Nat) ({ cls := "KnowHouse", name := "takeForKind", desc := "(LKnowHouse$Change;I)I" } : Jvm.MethodName)) ∈ gW := gW_in 788 (by decide +kernel) rfl
theorem w_790 : (Jvm.Cond.instanceMethod ({ cls := "KnowHouse", name := "takeForKind", desc := "(LKnowHouse$Change;I)I" } : Jvm.MethodName)) ∈ gW := gW_in 790 (by decide +kernel) rfl
set_option maxRecDepth 100000 in
theorem w_791 : (Jvm.Cond.code ({ cls := "KnowHouse", name := "takeForKind", desc := "(LKnowHouse$Change;I)I" } : Jvm.MethodName) prog_1_method_37_code (3 : Nat) (Option.some Jvm.ClassFile.FieldType.int)) ∈ gW := gW_in 791 rfl rfl
theorem w_792 : (Jvm.Cond.methodLink "KnowHouse" (293 : Nat) ({ cls := "KnowHouse", name := "isUnder", desc := "(II)Z" } : Jvm.MethodName)) ∈ gW := gW_in 792 (by decide +kernel) rfl
theorem w_793 : (Jvm.Cond.methodLink "KnowHouse" (279 : Nat) ({ cls := "KnowHouse", name := "takeNumber", desc := "(LKnowHouse$Sheet;I)I" } : Jvm.MethodName)) ∈ gW := gW_in 793 (by decide +kernel) rfl
theorem w_795 : (Jvm.Cond.instanceMethod ({ cls := "KnowHouse", name := "takeNumber", desc := "(LKnowHouse$Sheet;I)I" } : Jvm.MethodName)) ∈ gW := gW_in 795 (by decide +kernel) rfl
set_option maxRecDepth 100000 in
theorem w_796 : (Jvm.Cond.code ({ cls := "KnowHouse", name := "takeNumber", desc := "(LKnowHouse$Sheet;I)I" } : Jvm.MethodName) prog_1_method_38_code (3 : Nat) (Option.some Jvm.ClassFile.FieldType.int)) ∈ gW := gW_in 796 rfl rfl
theorem w_797 : (Jvm.Cond.methodLink "KnowHouse" (283 : Nat) ({ cls := "KnowHouse", name := "copyNumbers", desc := "(LKnowHouse$Sheet;I)I" } : Jvm.MethodName)) ∈ gW := gW_in 797 (by decide +kernel) rfl
theorem w_799 : (Jvm.Cond.instanceMethod ({ cls := "KnowHouse", name := "copyNumbers", desc := "(LKnowHouse$Sheet;I)I" } : Jvm.MethodName)) ∈ gW := gW_in 799 (by decide +kernel) rfl
set_option maxRecDepth 100000 in
theorem w_800 : (Jvm.Cond.code ({ cls := "KnowHouse", name := "copyNumbers", desc := "(LKnowHouse$Sheet;I)I" } : Jvm.MethodName) prog_1_method_39_code (5 : Nat) (Option.some Jvm.ClassFile.FieldType.int)) ∈ gW := gW_in 800 rfl rfl
theorem w_801 : (Jvm.Cond.methodLink "KnowHouse" (286 : Nat) ({ cls := "KnowHouse", name := "putAmongFormed", desc := "(LKnowHouse$Change;)I" } : Jvm.MethodName)) ∈ gW := gW_in 801 (by decide +kernel) rfl
theorem w_803 : (Jvm.Cond.instanceMethod ({ cls := "KnowHouse", name := "putAmongFormed", desc := "(LKnowHouse$Change;)I" } : Jvm.MethodName)) ∈ gW := gW_in 803 (by decide +kernel) rfl
set_option maxRecDepth 100000 in
theorem w_804 : (Jvm.Cond.code ({ cls := "KnowHouse", name := "putAmongFormed", desc := "(LKnowHouse$Change;)I" } : Jvm.MethodName) prog_1_method_40_code (2 : Nat) (Option.some Jvm.ClassFile.FieldType.int)) ∈ gW := gW_in 804 rfl rfl
theorem w_805 : (Jvm.Cond.methodLink "KnowHouseLaw" (139 : Nat) ({ cls := "KnowHouse", name := "status", desc := "()I" } : Jvm.MethodName)) ∈ gW := gW_in 805 (by decide +kernel) rfl
theorem w_806 : (Jvm.Cond.instanceMethod ({ cls := "KnowHouse", name := "status", desc := "()I" } : Jvm.MethodName)) ∈ gW := gW_in 806 (by decide +kernel) rfl
theorem w_807 : (Jvm.Cond.selects "KnowHouse" ({ cls := "KnowHouse", name := "status", desc := "()I" } : Jvm.MethodName) ({ cls := "KnowHouse", name := "status", desc := "()I" } : Jvm.MethodName)) ∈ gW := gW_in 807 (by decide +kernel) rfl
set_option maxRecDepth 100000 in
theorem w_808 : (Jvm.Cond.code ({ cls := "KnowHouse", name := "status", desc := "()I" } : Jvm.MethodName) prog_1_method_32_code (1 : Nat) (Option.some Jvm.ClassFile.FieldType.int)) ∈ gW := gW_in 808 rfl rfl
theorem w_809 : (Jvm.Cond.classLink "KnowHouseLaw" (10 : Nat) "KnowHouseModel") ∈ gW := gW_in 809 (by decide +kernel) rfl
theorem w_810 : (Jvm.Cond.instantiable "KnowHouseModel" (32 : Nat)) ∈ gW := gW_in 810 (by decide +kernel) rfl
theorem w_811 : (Jvm.Cond.methodLink "KnowHouseLaw" (12 : Nat) ({ cls := "KnowHouseModel", name := "<init>", desc := "()V" } : Jvm.MethodName)) ∈ gW := gW_in 811 (by decide +kernel) rfl
theorem w_812 : (Jvm.Cond.instanceMethod ({ cls := "KnowHouseModel", name := "<init>", desc := "()V" } : Jvm.MethodName)) ∈ gW := gW_in 812 (by decide +kernel) rfl
set_option maxRecDepth 100000 in
theorem w_813 : (Jvm.Cond.code ({ cls := "KnowHouseModel", name := "<init>", desc := "()V" } : Jvm.MethodName) prog_12_method_1_code (1 : Nat) (Option.none : Option Jvm.ClassFile.FieldType)) ∈ gW := gW_in 813 rfl rfl
theorem w_814 : (Jvm.Cond.methodLink "KnowHouseModel" (1 : Nat) ({ cls := "java/lang/Object", name := "<init>", desc := "()V" } : Jvm.MethodName)) ∈ gW := gW_in 814 (by decide +kernel) rfl
theorem w_815 : (Jvm.Cond.constant "KnowHouseModel" (55 : Nat) (36800 : Int32)) ∈ gW := gW_in 815 (by decide +kernel) rfl
theorem w_816 : (Jvm.Cond.constant "KnowHouseModel" (68 : Nat) (36864 : Int32)) ∈ gW := gW_in 816 (by decide +kernel) rfl
theorem w_817 : (Jvm.Cond.fieldLink "KnowHouseModel" (7 : Nat) "KnowHouseModel" "lines" "[I") ∈ gW := gW_in 817 (by decide +kernel) rfl
theorem w_818 : (Jvm.Cond.fieldLink "KnowHouseModel" (13 : Nat) "KnowHouseModel" "lineCount" "[I") ∈ gW := gW_in 818 (by decide +kernel) rfl
theorem w_819 : (Jvm.Cond.fieldLink "KnowHouseModel" (16 : Nat) "KnowHouseModel" "past" "[I") ∈ gW := gW_in 819 (by decide +kernel) rfl
theorem w_820 : (Jvm.Cond.fieldLink "KnowHouseModel" (19 : Nat) "KnowHouseModel" "pastCount" "[I") ∈ gW := gW_in 820 (by decide +kernel) rfl
theorem w_821 : (Jvm.Cond.fieldLink "KnowHouseModel" (22 : Nat) "KnowHouseModel" "next" "[I") ∈ gW := gW_in 821 (by decide +kernel) rfl
theorem w_822 : (Jvm.Cond.fieldLink "KnowHouseModel" (25 : Nat) "KnowHouseModel" "kind" "[I") ∈ gW := gW_in 822 (by decide +kernel) rfl
theorem w_823 : (Jvm.Cond.fieldLink "KnowHouseModel" (28 : Nat) "KnowHouseModel" "fileOf" "[I") ∈ gW := gW_in 823 (by decide +kernel) rfl
theorem w_824 : (Jvm.Cond.fieldLink "KnowHouseModel" (31 : Nat) "KnowHouseModel" "hand" "[I") ∈ gW := gW_in 824 (by decide +kernel) rfl
theorem w_825 : (Jvm.Cond.fieldLink "KnowHouseModel" (34 : Nat) "KnowHouseModel" "second" "[I") ∈ gW := gW_in 825 (by decide +kernel) rfl
theorem w_826 : (Jvm.Cond.fieldLink "KnowHouseModel" (37 : Nat) "KnowHouseModel" "dayOf" "[I") ∈ gW := gW_in 826 (by decide +kernel) rfl
theorem w_827 : (Jvm.Cond.fieldLink "KnowHouseModel" (40 : Nat) "KnowHouseModel" "kept" "[I") ∈ gW := gW_in 827 (by decide +kernel) rfl
theorem w_828 : (Jvm.Cond.fieldLink "KnowHouseModel" (43 : Nat) "KnowHouseModel" "ahead" "[I") ∈ gW := gW_in 828 (by decide +kernel) rfl
theorem w_829 : (Jvm.Cond.fieldLink "KnowHouseModel" (46 : Nat) "KnowHouseModel" "hours" "[I") ∈ gW := gW_in 829 (by decide +kernel) rfl
theorem w_830 : (Jvm.Cond.fieldLink "KnowHouseModel" (49 : Nat) "KnowHouseModel" "tape" "[I") ∈ gW := gW_in 830 (by decide +kernel) rfl
theorem w_831 : (Jvm.Cond.fieldLink "KnowHouseModel" (52 : Nat) "KnowHouseModel" "all" "[I") ∈ gW := gW_in 831 (by decide +kernel) rfl
theorem w_832 : (Jvm.Cond.fieldLink "KnowHouseModel" (56 : Nat) "KnowHouseModel" "image" "[I") ∈ gW := gW_in 832 (by decide +kernel) rfl
theorem w_833 : (Jvm.Cond.fieldLink "KnowHouseModel" (173 : Nat) "KnowHouseModel" "hasImage" "Z") ∈ gW := gW_in 833 (by decide +kernel) rfl
theorem w_834 : (Jvm.Cond.fieldLink "KnowHouseModel" (177 : Nat) "KnowHouseModel" "restored" "I") ∈ gW := gW_in 834 (by decide +kernel) rfl
theorem w_835 : (Jvm.Cond.fieldLink "KnowHouseModel" (90 : Nat) "KnowHouseModel" "status" "I") ∈ gW := gW_in 835 (by decide +kernel) rfl
theorem w_836 : (Jvm.Cond.fieldLink "KnowHouseModel" (59 : Nat) "KnowHouseModel" "most" "[I") ∈ gW := gW_in 836 (by decide +kernel) rfl
theorem w_837 : (Jvm.Cond.fieldLink "KnowHouseModel" (62 : Nat) "KnowHouseModel" "oldOf" "[I") ∈ gW := gW_in 837 (by decide +kernel) rfl
theorem w_838 : (Jvm.Cond.fieldLink "KnowHouseModel" (162 : Nat) "KnowHouseModel" "imageAt" "I") ∈ gW := gW_in 838 (by decide +kernel) rfl
theorem w_839 : (Jvm.Cond.fieldLink "KnowHouseModel" (65 : Nat) "KnowHouseModel" "ables" "[I") ∈ gW := gW_in 839 (by decide +kernel) rfl
theorem w_840 : (Jvm.Cond.fieldLink "KnowHouseModel" (203 : Nat) "KnowHouseModel" "lones" "I") ∈ gW := gW_in 840 (by decide +kernel) rfl
theorem w_841 : (Jvm.Cond.fieldLink "KnowHouseModel" (69 : Nat) "KnowHouseModel" "least" "[I") ∈ gW := gW_in 841 (by decide +kernel) rfl
theorem w_842 : (Jvm.Cond.fieldLink "KnowHouseModel" (72 : Nat) "KnowHouseModel" "task" "[I") ∈ gW := gW_in 842 (by decide +kernel) rfl
theorem w_843 : (Jvm.Cond.fieldLink "KnowHouseModel" (75 : Nat) "KnowHouseModel" "power" "[I") ∈ gW := gW_in 843 (by decide +kernel) rfl
theorem w_844 : (Jvm.Cond.fieldLink "KnowHouseModel" (78 : Nat) "KnowHouseModel" "trace" "[I") ∈ gW := gW_in 844 (by decide +kernel) rfl
theorem w_845 : (Jvm.Cond.fieldLink "KnowHouseModel" (234 : Nat) "KnowHouseModel" "traces" "I") ∈ gW := gW_in 845 (by decide +kernel) rfl
theorem w_846 : (Jvm.Cond.fieldLink "KnowHouseModel" (81 : Nat) "KnowHouseModel" "sort" "[I") ∈ gW := gW_in 846 (by decide +kernel) rfl
theorem w_847 : (Jvm.Cond.fieldLink "KnowHouseModel" (84 : Nat) "KnowHouseModel" "size" "[I") ∈ gW := gW_in 847 (by decide +kernel) rfl
theorem w_848 : (Jvm.Cond.fieldLink "KnowHouseModel" (87 : Nat) "KnowHouseModel" "cells" "[I") ∈ gW := gW_in 848 (by decide +kernel) rfl
theorem w_914 : (Jvm.Cond.methodLink "KnowHouseLaw" (17 : Nat) ({ cls := "KnowHouseModel", name := "person", desc := "(I)I" } : Jvm.MethodName)) ∈ gW := gW_in 914 (by decide +kernel) rfl
theorem w_915 : (Jvm.Cond.instanceMethod ({ cls := "KnowHouseModel", name := "person", desc := "(I)I" } : Jvm.MethodName)) ∈ gW := gW_in 915 (by decide +kernel) rfl
theorem w_916 : (Jvm.Cond.selects "KnowHouseModel" ({ cls := "KnowHouseModel", name := "person", desc := "(I)I" } : Jvm.MethodName) ({ cls := "KnowHouseModel", name := "person", desc := "(I)I" } : Jvm.MethodName)) ∈ gW := gW_in 916 (by decide +kernel) rfl
set_option maxRecDepth 100000 in
theorem w_917 : (Jvm.Cond.code ({ cls := "KnowHouseModel", name := "person", desc := "(I)I" } : Jvm.MethodName) prog_12_method_10_code (3 : Nat) (Option.some Jvm.ClassFile.FieldType.int)) ∈ gW := gW_in 917 rfl rfl
theorem w_918 : (Jvm.Cond.constantLong "KnowHouseModel" (98 : Nat) (99 : Int64)) ∈ gW := gW_in 918 (by decide +kernel) rfl
theorem w_919 : (Jvm.Cond.methodLink "KnowHouseModel" (100 : Nat) ({ cls := "KnowHouseModel", name := "isIn", desc := "(JJJ)Z" } : Jvm.MethodName)) ∈ gW := gW_in 919 (by decide +kernel) rfl
theorem w_920 : (Jvm.Cond.static ({ cls := "KnowHouseModel", name := "isIn", desc := "(JJJ)Z" } : Jvm.MethodName)) ∈ gW := gW_in 920 (by decide +kernel) rfl
set_option maxRecDepth 100000 in
theorem w_921 : (Jvm.Cond.code ({ cls := "KnowHouseModel", name := "isIn", desc := "(JJJ)Z" } : Jvm.MethodName) prog_12_method_2_code (6 : Nat) (Option.some Jvm.ClassFile.FieldType.boolean)) ∈ gW := gW_in 921 rfl rfl
theorem w_922 : (Jvm.Cond.methodLink "KnowHouseModel" (104 : Nat) ({ cls := "KnowHouseModel", name := "refused", desc := "(I)I" } : Jvm.MethodName)) ∈ gW := gW_in 922 (by decide +kernel) rfl
theorem w_924 : (Jvm.Cond.instanceMethod ({ cls := "KnowHouseModel", name := "refused", desc := "(I)I" } : Jvm.MethodName)) ∈ gW := gW_in 924 (by decide +kernel) rfl
set_option maxRecDepth 100000 in
theorem w_925 : (Jvm.Cond.code ({ cls := "KnowHouseModel", name := "refused", desc := "(I)I" } : Jvm.MethodName) prog_12_method_3_code (2 : Nat) (Option.some Jvm.ClassFile.FieldType.int)) ∈ gW := gW_in 925 rfl rfl
theorem w_926 : (Jvm.Cond.methodLink "KnowHouseModel" (108 : Nat) ({ cls := "KnowHouseModel", name := "done", desc := "(I)I" } : Jvm.MethodName)) ∈ gW := gW_in 926 (by decide +kernel) rfl
theorem w_928 : (Jvm.Cond.instanceMethod ({ cls := "KnowHouseModel", name := "done", desc := "(I)I" } : Jvm.MethodName)) ∈ gW := gW_in 928 (by decide +kernel) rfl
set_option maxRecDepth 100000 in
theorem w_929 : (Jvm.Cond.code ({ cls := "KnowHouseModel", name := "done", desc := "(I)I" } : Jvm.MethodName) prog_12_method_4_code (2 : Nat) (Option.some Jvm.ClassFile.FieldType.int)) ∈ gW := gW_in 929 rfl rfl
theorem w_930 : (Jvm.Cond.methodLink "KnowHouseLaw" (22 : Nat) ({ cls := "KnowHouseModel", name := "here", desc := "(IZ)I" } : Jvm.MethodName)) ∈ gW := gW_in 930 (by decide +kernel) rfl
theorem w_931 : (Jvm.Cond.instanceMethod ({ cls := "KnowHouseModel", name := "here", desc := "(IZ)I" } : Jvm.MethodName)) ∈ gW := gW_in 931 (by decide +kernel) rfl
theorem w_932 : (Jvm.Cond.selects "KnowHouseModel" ({ cls := "KnowHouseModel", name := "here", desc := "(IZ)I" } : Jvm.MethodName) ({ cls := "KnowHouseModel", name := "here", desc := "(IZ)I" } : Jvm.MethodName)) ∈ gW := gW_in 932 (by decide +kernel) rfl
set_option maxRecDepth 100000 in
theorem w_933 : (Jvm.Cond.code ({ cls := "KnowHouseModel", name := "here", desc := "(IZ)I" } : Jvm.MethodName) prog_12_method_11_code (4 : Nat) (Option.some Jvm.ClassFile.FieldType.int)) ∈ gW := gW_in 933 rfl rfl
theorem w_934 : (Jvm.Cond.methodLink "KnowHouseModel" (111 : Nat) ({ cls := "KnowHouseModel", name := "isPerson", desc := "(I)Z" } : Jvm.MethodName)) ∈ gW := gW_in 934 (by decide +kernel) rfl
theorem w_936 : (Jvm.Cond.instanceMethod ({ cls := "KnowHouseModel", name := "isPerson", desc := "(I)Z" } : Jvm.MethodName)) ∈ gW := gW_in 936 (by decide +kernel) rfl
set_option maxRecDepth 100000 in
theorem w_937 : (Jvm.Cond.code ({ cls := "KnowHouseModel", name := "isPerson", desc := "(I)Z" } : Jvm.MethodName) prog_12_method_5_code (2 : Nat) (Option.some Jvm.ClassFile.FieldType.boolean)) ∈ gW := gW_in 937 rfl rfl
theorem w_938 : (Jvm.Cond.methodLink "KnowHouseModel" (114 : Nat) ({ cls := "KnowHouseModel", name := "isHere", desc := "(I)Z" } : Jvm.MethodName)) ∈ gW := gW_in 938 (by decide +kernel) rfl
theorem w_940 : (Jvm.Cond.instanceMethod ({ cls := "KnowHouseModel", name := "isHere", desc := "(I)Z" } : Jvm.MethodName)) ∈ gW := gW_in 940 (by decide +kernel) rfl
set_option maxRecDepth 100000 in
theorem w_941 : (Jvm.Cond.code ({ cls := "KnowHouseModel", name := "isHere", desc := "(I)Z" } : Jvm.MethodName) prog_12_method_9_code (2 : Nat) (Option.some Jvm.ClassFile.FieldType.boolean)) ∈ gW := gW_in 941 rfl rfl
theorem w_942 : (Jvm.Cond.methodLink "KnowHouseLaw" (26 : Nat) ({ cls := "KnowHouseModel", name := "day", desc := "(I)I" } : Jvm.MethodName)) ∈ gW := gW_in 942 (by decide +kernel) rfl
theorem w_943 : (Jvm.Cond.instanceMethod ({ cls := "KnowHouseModel", name := "day", desc := "(I)I" } : Jvm.MethodName)) ∈ gW := gW_in 943 (by decide +kernel) rfl
theorem w_944 : (Jvm.Cond.selects "KnowHouseModel" ({ cls := "KnowHouseModel", name := "day", desc := "(I)I" } : Jvm.MethodName) ({ cls := "KnowHouseModel", name := "day", desc := "(I)I" } : Jvm.MethodName)) ∈ gW := gW_in 944 (by decide +kernel) rfl
set_option maxRecDepth 100000 in
theorem w_945 : (Jvm.Cond.code ({ cls := "KnowHouseModel", name := "day", desc := "(I)I" } : Jvm.MethodName) prog_12_method_12_code (2 : Nat) (Option.some Jvm.ClassFile.FieldType.int)) ∈ gW := gW_in 945 rfl rfl
theorem w_946 : (Jvm.Cond.constantLong "KnowHouseModel" (117 : Nat) (1000 : Int64)) ∈ gW := gW_in 946 (by decide +kernel) rfl
theorem w_947 : (Jvm.Cond.constant "KnowHouseModel" (119 : Nat) (100000 : Int32)) ∈ gW := gW_in 947 (by decide +kernel) rfl
theorem w_948 : (Jvm.Cond.methodLink "KnowHouseLaw" (30 : Nat) ({ cls := "KnowHouseModel", name := "share", desc := "(I)I" } : Jvm.MethodName)) ∈ gW := gW_in 948 (by decide +kernel) rfl
theorem w_949 : (Jvm.Cond.instanceMethod ({ cls := "KnowHouseModel", name := "share", desc := "(I)I" } : Jvm.MethodName)) ∈ gW := gW_in 949 (by decide +kernel) rfl
theorem w_950 : (Jvm.Cond.selects "KnowHouseModel" ({ cls := "KnowHouseModel", name := "share", desc := "(I)I" } : Jvm.MethodName) ({ cls := "KnowHouseModel", name := "share", desc := "(I)I" } : Jvm.MethodName)) ∈ gW := gW_in 950 (by decide +kernel) rfl
set_option maxRecDepth 100000 in
theorem w_951 : (Jvm.Cond.code ({ cls := "KnowHouseModel", name := "share", desc := "(I)I" } : Jvm.MethodName) prog_12_method_13_code (3 : Nat) (Option.some Jvm.ClassFile.FieldType.int)) ∈ gW := gW_in 951 rfl rfl
theorem w_952 : (Jvm.Cond.constantLong "KnowHouseModel" (120 : Nat) (100 : Int64)) ∈ gW := gW_in 952 (by decide +kernel) rfl
theorem w_953 : (Jvm.Cond.methodLink "KnowHouseLaw" (34 : Nat) ({ cls := "KnowHouseModel", name := "text", desc := "(I)I" } : Jvm.MethodName)) ∈ gW := gW_in 953 (by decide +kernel) rfl
theorem w_954 : (Jvm.Cond.instanceMethod ({ cls := "KnowHouseModel", name := "text", desc := "(I)I" } : Jvm.MethodName)) ∈ gW := gW_in 954 (by decide +kernel) rfl
theorem w_955 : (Jvm.Cond.selects "KnowHouseModel" ({ cls := "KnowHouseModel", name := "text", desc := "(I)I" } : Jvm.MethodName) ({ cls := "KnowHouseModel", name := "text", desc := "(I)I" } : Jvm.MethodName)) ∈ gW := gW_in 955 (by decide +kernel) rfl
set_option maxRecDepth 100000 in
theorem w_956 : (Jvm.Cond.code ({ cls := "KnowHouseModel", name := "text", desc := "(I)I" } : Jvm.MethodName) prog_12_method_14_code (2 : Nat) (Option.some Jvm.ClassFile.FieldType.int)) ∈ gW := gW_in 956 rfl rfl
theorem w_957 : (Jvm.Cond.constantLong "KnowHouseModel" (122 : Nat) (10 : Int64)) ∈ gW := gW_in 957 (by decide +kernel) rfl
theorem w_958 : (Jvm.Cond.constantLong "KnowHouseModel" (124 : Nat) (9999 : Int64)) ∈ gW := gW_in 958 (by decide +kernel) rfl
theorem w_959 : (Jvm.Cond.methodLink "KnowHouseLaw" (39 : Nat) ({ cls := "KnowHouseModel", name := "wipe", desc := "()I" } : Jvm.MethodName)) ∈ gW := gW_in 959 (by decide +kernel) rfl
theorem w_960 : (Jvm.Cond.instanceMethod ({ cls := "KnowHouseModel", name := "wipe", desc := "()I" } : Jvm.MethodName)) ∈ gW := gW_in 960 (by decide +kernel) rfl
theorem w_961 : (Jvm.Cond.selects "KnowHouseModel" ({ cls := "KnowHouseModel", name := "wipe", desc := "()I" } : Jvm.MethodName) ({ cls := "KnowHouseModel", name := "wipe", desc := "()I" } : Jvm.MethodName)) ∈ gW := gW_in 961 (by decide +kernel) rfl
set_option maxRecDepth 100000 in
theorem w_962 : (Jvm.Cond.code ({ cls := "KnowHouseModel", name := "wipe", desc := "()I" } : Jvm.MethodName) prog_12_method_15_code (2 : Nat) (Option.some Jvm.ClassFile.FieldType.int)) ∈ gW := gW_in 962 rfl rfl
theorem w_963 : (Jvm.Cond.methodLink "KnowHouseLaw" (44 : Nat) ({ cls := "KnowHouseModel", name := "change", desc := "(IIII)I" } : Jvm.MethodName)) ∈ gW := gW_in 963 (by decide +kernel) rfl
theorem w_964 : (Jvm.Cond.instanceMethod ({ cls := "KnowHouseModel", name := "change", desc := "(IIII)I" } : Jvm.MethodName)) ∈ gW := gW_in 964 (by decide +kernel) rfl
theorem w_965 : (Jvm.Cond.selects "KnowHouseModel" ({ cls := "KnowHouseModel", name := "change", desc := "(IIII)I" } : Jvm.MethodName) ({ cls := "KnowHouseModel", name := "change", desc := "(IIII)I" } : Jvm.MethodName)) ∈ gW := gW_in 965 (by decide +kernel) rfl
set_option maxRecDepth 100000 in
theorem w_966 : (Jvm.Cond.code ({ cls := "KnowHouseModel", name := "change", desc := "(IIII)I" } : Jvm.MethodName) prog_12_method_23_code (11 : Nat) (Option.some Jvm.ClassFile.FieldType.int)) ∈ gW := gW_in 966 rfl rfl
theorem w_967 : (Jvm.Cond.constantLong "KnowHouseModel" (138 : Nat) (5 : Int64)) ∈ gW := gW_in 967 (by decide +kernel) rfl
theorem w_968 : (Jvm.Cond.methodLink "KnowHouseModel" (94 : Nat) ({ cls := "KnowHouseModel", name := "isFile", desc := "(I)Z" } : Jvm.MethodName)) ∈ gW := gW_in 968 (by decide +kernel) rfl
theorem w_969 : (Jvm.Cond.static ({ cls := "KnowHouseModel", name := "isFile", desc := "(I)Z" } : Jvm.MethodName)) ∈ gW := gW_in 969 (by decide +kernel) rfl
set_option maxRecDepth 100000 in
theorem w_970 : (Jvm.Cond.code ({ cls := "KnowHouseModel", name := "isFile", desc := "(I)Z" } : Jvm.MethodName) prog_12_method_6_code (1 : Nat) (Option.some Jvm.ClassFile.FieldType.boolean)) ∈ gW := gW_in 970 rfl rfl
theorem w_971 : (Jvm.Cond.methodLink "KnowHouseModel" (140 : Nat) ({ cls := "KnowHouseModel", name := "comes", desc := "(IIII)I" } : Jvm.MethodName)) ∈ gW := gW_in 971 (by decide +kernel) rfl
theorem w_973 : (Jvm.Cond.instanceMethod ({ cls := "KnowHouseModel", name := "comes", desc := "(IIII)I" } : Jvm.MethodName)) ∈ gW := gW_in 973 (by decide +kernel) rfl
set_option maxRecDepth 100000 in
theorem w_974 : (Jvm.Cond.code ({ cls := "KnowHouseModel", name := "comes", desc := "(IIII)I" } : Jvm.MethodName) prog_12_method_21_code (7 : Nat) (Option.some Jvm.ClassFile.FieldType.int)) ∈ gW := gW_in 974 rfl rfl
theorem w_975 : (Jvm.Cond.methodLink "KnowHouseModel" (144 : Nat) ({ cls := "KnowHouseModel", name := "pairs", desc := "(IZ)V" } : Jvm.MethodName)) ∈ gW := gW_in 975 (by decide +kernel) rfl
theorem w_977 : (Jvm.Cond.instanceMethod ({ cls := "KnowHouseModel", name := "pairs", desc := "(IZ)V" } : Jvm.MethodName)) ∈ gW := gW_in 977 (by decide +kernel) rfl
set_option maxRecDepth 100000 in
theorem w_978 : (Jvm.Cond.code ({ cls := "KnowHouseModel", name := "pairs", desc := "(IZ)V" } : Jvm.MethodName) prog_12_method_18_code (8 : Nat) (Option.none : Option Jvm.ClassFile.FieldType)) ∈ gW := gW_in 978 rfl rfl
theorem w_979 : (Jvm.Cond.methodLink "KnowHouseModel" (126 : Nat) ({ cls := "KnowHouseModel", name := "textAt", desc := "(II)I" } : Jvm.MethodName)) ∈ gW := gW_in 979 (by decide +kernel) rfl
theorem w_981 : (Jvm.Cond.instanceMethod ({ cls := "KnowHouseModel", name := "textAt", desc := "(II)I" } : Jvm.MethodName)) ∈ gW := gW_in 981 (by decide +kernel) rfl
set_option maxRecDepth 100000 in
theorem w_982 : (Jvm.Cond.code ({ cls := "KnowHouseModel", name := "textAt", desc := "(II)I" } : Jvm.MethodName) prog_12_method_17_code (3 : Nat) (Option.some Jvm.ClassFile.FieldType.int)) ∈ gW := gW_in 982 rfl rfl
theorem w_983 : (Jvm.Cond.methodLink "KnowHouseModel" (130 : Nat) ({ cls := "KnowHouseModel", name := "areAlike", desc := "(IIZ)Z" } : Jvm.MethodName)) ∈ gW := gW_in 983 (by decide +kernel) rfl
theorem w_985 : (Jvm.Cond.instanceMethod ({ cls := "KnowHouseModel", name := "areAlike", desc := "(IIZ)Z" } : Jvm.MethodName)) ∈ gW := gW_in 985 (by decide +kernel) rfl
set_option maxRecDepth 100000 in
theorem w_986 : (Jvm.Cond.code ({ cls := "KnowHouseModel", name := "areAlike", desc := "(IIZ)Z" } : Jvm.MethodName) prog_12_method_16_code (4 : Nat) (Option.some Jvm.ClassFile.FieldType.boolean)) ∈ gW := gW_in 986 rfl rfl
theorem w_987 : (Jvm.Cond.methodLink "KnowHouseModel" (148 : Nat) ({ cls := "KnowHouseModel", name := "moves", desc := "(I)V" } : Jvm.MethodName)) ∈ gW := gW_in 987 (by decide +kernel) rfl
theorem w_989 : (Jvm.Cond.instanceMethod ({ cls := "KnowHouseModel", name := "moves", desc := "(I)V" } : Jvm.MethodName)) ∈ gW := gW_in 989 (by decide +kernel) rfl
set_option maxRecDepth 100000 in
theorem w_990 : (Jvm.Cond.code ({ cls := "KnowHouseModel", name := "moves", desc := "(I)V" } : Jvm.MethodName) prog_12_method_20_code (4 : Nat) (Option.none : Option Jvm.ClassFile.FieldType)) ∈ gW := gW_in 990 rfl rfl
theorem w_991 : (Jvm.Cond.methodLink "KnowHouseModel" (134 : Nat) ({ cls := "KnowHouseModel", name := "isTaken", desc := "(II)Z" } : Jvm.MethodName)) ∈ gW := gW_in 991 (by decide +kernel) rfl
theorem w_993 : (Jvm.Cond.instanceMethod ({ cls := "KnowHouseModel", name := "isTaken", desc := "(II)Z" } : Jvm.MethodName)) ∈ gW := gW_in 993 (by decide +kernel) rfl
set_option maxRecDepth 100000 in
theorem w_994 : (Jvm.Cond.code ({ cls := "KnowHouseModel", name := "isTaken", desc := "(II)Z" } : Jvm.MethodName) prog_12_method_19_code (5 : Nat) (Option.some Jvm.ClassFile.FieldType.boolean)) ∈ gW := gW_in 994 rfl rfl
theorem w_995 : (Jvm.Cond.methodLink "KnowHouseModel" (152 : Nat) ({ cls := "KnowHouseModel", name := "marks", desc := "([IIIII)V" } : Jvm.MethodName)) ∈ gW := gW_in 995 (by decide +kernel) rfl
theorem w_997 : (Jvm.Cond.instanceMethod ({ cls := "KnowHouseModel", name := "marks", desc := "([IIIII)V" } : Jvm.MethodName)) ∈ gW := gW_in 997 (by decide +kernel) rfl
set_option maxRecDepth 100000 in
theorem w_998 : (Jvm.Cond.code ({ cls := "KnowHouseModel", name := "marks", desc := "([IIIII)V" } : Jvm.MethodName) prog_12_method_22_code (7 : Nat) (Option.none : Option Jvm.ClassFile.FieldType)) ∈ gW := gW_in 998 rfl rfl
theorem w_999 : (Jvm.Cond.methodLink "KnowHouseLaw" (49 : Nat) ({ cls := "KnowHouseModel", name := "back", desc := "(II)I" } : Jvm.MethodName)) ∈ gW := gW_in 999 (by decide +kernel) rfl
theorem w_1000 : (Jvm.Cond.instanceMethod ({ cls := "KnowHouseModel", name := "back", desc := "(II)I" } : Jvm.MethodName)) ∈ gW := gW_in 1000 (by decide +kernel) rfl
theorem w_1001 : (Jvm.Cond.selects "KnowHouseModel" ({ cls := "KnowHouseModel", name := "back", desc := "(II)I" } : Jvm.MethodName) ({ cls := "KnowHouseModel", name := "back", desc := "(II)I" } : Jvm.MethodName)) ∈ gW := gW_in 1001 (by decide +kernel) rfl
set_option maxRecDepth 100000 in
theorem w_1002 : (Jvm.Cond.code ({ cls := "KnowHouseModel", name := "back", desc := "(II)I" } : Jvm.MethodName) prog_12_method_24_code (6 : Nat) (Option.some Jvm.ClassFile.FieldType.int)) ∈ gW := gW_in 1002 rfl rfl
theorem w_1003 : (Jvm.Cond.methodLink "KnowHouseModel" (156 : Nat) ({ cls := "KnowHouseModel", name := "isChange", desc := "(I)Z" } : Jvm.MethodName)) ∈ gW := gW_in 1003 (by decide +kernel) rfl
theorem w_1005 : (Jvm.Cond.instanceMethod ({ cls := "KnowHouseModel", name := "isChange", desc := "(I)Z" } : Jvm.MethodName)) ∈ gW := gW_in 1005 (by decide +kernel) rfl
set_option maxRecDepth 100000 in
theorem w_1006 : (Jvm.Cond.code ({ cls := "KnowHouseModel", name := "isChange", desc := "(I)Z" } : Jvm.MethodName) prog_12_method_8_code (2 : Nat) (Option.some Jvm.ClassFile.FieldType.boolean)) ∈ gW := gW_in 1006 rfl rfl
theorem w_1007 : (Jvm.Cond.methodLink "KnowHouseLaw" (53 : Nat) ({ cls := "KnowHouseModel", name := "read", desc := "(IIII)I" } : Jvm.MethodName)) ∈ gW := gW_in 1007 (by decide +kernel) rfl
theorem w_1008 : (Jvm.Cond.instanceMethod ({ cls := "KnowHouseModel", name := "read", desc := "(IIII)I" } : Jvm.MethodName)) ∈ gW := gW_in 1008 (by decide +kernel) rfl
theorem w_1009 : (Jvm.Cond.selects "KnowHouseModel" ({ cls := "KnowHouseModel", name := "read", desc := "(IIII)I" } : Jvm.MethodName) ({ cls := "KnowHouseModel", name := "read", desc := "(IIII)I" } : Jvm.MethodName)) ∈ gW := gW_in 1009 (by decide +kernel) rfl
set_option maxRecDepth 100000 in
theorem w_1010 : (Jvm.Cond.code ({ cls := "KnowHouseModel", name := "read", desc := "(IIII)I" } : Jvm.MethodName) prog_12_method_25_code (6 : Nat) (Option.some Jvm.ClassFile.FieldType.int)) ∈ gW := gW_in 1010 rfl rfl
theorem w_1011 : (Jvm.Cond.methodLink "KnowHouseModel" (159 : Nat) ({ cls := "KnowHouseModel", name := "isLine", desc := "(II)Z" } : Jvm.MethodName)) ∈ gW := gW_in 1011 (by decide +kernel) rfl
theorem w_1013 : (Jvm.Cond.instanceMethod ({ cls := "KnowHouseModel", name := "isLine", desc := "(II)Z" } : Jvm.MethodName)) ∈ gW := gW_in 1013 (by decide +kernel) rfl
set_option maxRecDepth 100000 in
theorem w_1014 : (Jvm.Cond.code ({ cls := "KnowHouseModel", name := "isLine", desc := "(II)Z" } : Jvm.MethodName) prog_12_method_7_code (3 : Nat) (Option.some Jvm.ClassFile.FieldType.boolean)) ∈ gW := gW_in 1014 rfl rfl
theorem w_1015 : (Jvm.Cond.methodLink "KnowHouseLaw" (57 : Nat) ({ cls := "KnowHouseModel", name := "image", desc := "()I" } : Jvm.MethodName)) ∈ gW := gW_in 1015 (by decide +kernel) rfl
theorem w_1016 : (Jvm.Cond.instanceMethod ({ cls := "KnowHouseModel", name := "image", desc := "()I" } : Jvm.MethodName)) ∈ gW := gW_in 1016 (by decide +kernel) rfl
theorem w_1017 : (Jvm.Cond.selects "KnowHouseModel" ({ cls := "KnowHouseModel", name := "image", desc := "()I" } : Jvm.MethodName) ({ cls := "KnowHouseModel", name := "image", desc := "()I" } : Jvm.MethodName)) ∈ gW := gW_in 1017 (by decide +kernel) rfl
set_option maxRecDepth 100000 in
theorem w_1018 : (Jvm.Cond.code ({ cls := "KnowHouseModel", name := "image", desc := "()I" } : Jvm.MethodName) prog_12_method_28_code (1 : Nat) (Option.some Jvm.ClassFile.FieldType.int)) ∈ gW := gW_in 1018 rfl rfl
theorem w_1019 : (Jvm.Cond.methodLink "KnowHouseModel" (169 : Nat) ({ cls := "KnowHouseModel", name := "keepsAll", desc := "(Z)V" } : Jvm.MethodName)) ∈ gW := gW_in 1019 (by decide +kernel) rfl
theorem w_1021 : (Jvm.Cond.instanceMethod ({ cls := "KnowHouseModel", name := "keepsAll", desc := "(Z)V" } : Jvm.MethodName)) ∈ gW := gW_in 1021 (by decide +kernel) rfl
set_option maxRecDepth 100000 in
theorem w_1022 : (Jvm.Cond.code ({ cls := "KnowHouseModel", name := "keepsAll", desc := "(Z)V" } : Jvm.MethodName) prog_12_method_27_code (2 : Nat) (Option.none : Option Jvm.ClassFile.FieldType)) ∈ gW := gW_in 1022 rfl rfl
theorem w_1023 : (Jvm.Cond.methodLink "KnowHouseModel" (165 : Nat) ({ cls := "KnowHouseModel", name := "keeps", desc := "([IZ)V" } : Jvm.MethodName)) ∈ gW := gW_in 1023 (by decide +kernel) rfl
theorem w_1025 : (Jvm.Cond.instanceMethod ({ cls := "KnowHouseModel", name := "keeps", desc := "([IZ)V" } : Jvm.MethodName)) ∈ gW := gW_in 1025 (by decide +kernel) rfl
set_option maxRecDepth 100000 in
theorem w_1026 : (Jvm.Cond.code ({ cls := "KnowHouseModel", name := "keeps", desc := "([IZ)V" } : Jvm.MethodName) prog_12_method_26_code (4 : Nat) (Option.none : Option Jvm.ClassFile.FieldType)) ∈ gW := gW_in 1026 rfl rfl
theorem w_1027 : (Jvm.Cond.methodLink "KnowHouseLaw" (61 : Nat) ({ cls := "KnowHouseModel", name := "restore", desc := "()I" } : Jvm.MethodName)) ∈ gW := gW_in 1027 (by decide +kernel) rfl
theorem w_1028 : (Jvm.Cond.instanceMethod ({ cls := "KnowHouseModel", name := "restore", desc := "()I" } : Jvm.MethodName)) ∈ gW := gW_in 1028 (by decide +kernel) rfl
theorem w_1029 : (Jvm.Cond.selects "KnowHouseModel" ({ cls := "KnowHouseModel", name := "restore", desc := "()I" } : Jvm.MethodName) ({ cls := "KnowHouseModel", name := "restore", desc := "()I" } : Jvm.MethodName)) ∈ gW := gW_in 1029 (by decide +kernel) rfl
set_option maxRecDepth 100000 in
theorem w_1030 : (Jvm.Cond.code ({ cls := "KnowHouseModel", name := "restore", desc := "()I" } : Jvm.MethodName) prog_12_method_29_code (1 : Nat) (Option.some Jvm.ClassFile.FieldType.int)) ∈ gW := gW_in 1030 rfl rfl
theorem w_1031 : (Jvm.Cond.methodLink "KnowHouseLaw" (65 : Nat) ({ cls := "KnowHouseModel", name := "lines", desc := "(I)I" } : Jvm.MethodName)) ∈ gW := gW_in 1031 (by decide +kernel) rfl
theorem w_1032 : (Jvm.Cond.instanceMethod ({ cls := "KnowHouseModel", name := "lines", desc := "(I)I" } : Jvm.MethodName)) ∈ gW := gW_in 1032 (by decide +kernel) rfl
theorem w_1033 : (Jvm.Cond.selects "KnowHouseModel" ({ cls := "KnowHouseModel", name := "lines", desc := "(I)I" } : Jvm.MethodName) ({ cls := "KnowHouseModel", name := "lines", desc := "(I)I" } : Jvm.MethodName)) ∈ gW := gW_in 1033 (by decide +kernel) rfl
set_option maxRecDepth 100000 in
theorem w_1034 : (Jvm.Cond.code ({ cls := "KnowHouseModel", name := "lines", desc := "(I)I" } : Jvm.MethodName) prog_12_method_30_code (2 : Nat) (Option.some Jvm.ClassFile.FieldType.int)) ∈ gW := gW_in 1034 rfl rfl
theorem w_1035 : (Jvm.Cond.methodLink "KnowHouseLaw" (70 : Nat) ({ cls := "KnowHouseModel", name := "line", desc := "(III)I" } : Jvm.MethodName)) ∈ gW := gW_in 1035 (by decide +kernel) rfl
theorem w_1036 : (Jvm.Cond.instanceMethod ({ cls := "KnowHouseModel", name := "line", desc := "(III)I" } : Jvm.MethodName)) ∈ gW := gW_in 1036 (by decide +kernel) rfl
theorem w_1037 : (Jvm.Cond.selects "KnowHouseModel" ({ cls := "KnowHouseModel", name := "line", desc := "(III)I" } : Jvm.MethodName) ({ cls := "KnowHouseModel", name := "line", desc := "(III)I" } : Jvm.MethodName)) ∈ gW := gW_in 1037 (by decide +kernel) rfl
set_option maxRecDepth 100000 in
theorem w_1038 : (Jvm.Cond.code ({ cls := "KnowHouseModel", name := "line", desc := "(III)I" } : Jvm.MethodName) prog_12_method_31_code (4 : Nat) (Option.some Jvm.ClassFile.FieldType.int)) ∈ gW := gW_in 1038 rfl rfl
theorem w_1039 : (Jvm.Cond.constantLong "KnowHouseModel" (180 : Nat) (2 : Int64)) ∈ gW := gW_in 1039 (by decide +kernel) rfl
theorem w_1040 : (Jvm.Cond.methodLink "KnowHouseLaw" (74 : Nat) ({ cls := "KnowHouseModel", name := "mark", desc := "(IIII)I" } : Jvm.MethodName)) ∈ gW := gW_in 1040 (by decide +kernel) rfl
theorem w_1041 : (Jvm.Cond.instanceMethod ({ cls := "KnowHouseModel", name := "mark", desc := "(IIII)I" } : Jvm.MethodName)) ∈ gW := gW_in 1041 (by decide +kernel) rfl
theorem w_1042 : (Jvm.Cond.selects "KnowHouseModel" ({ cls := "KnowHouseModel", name := "mark", desc := "(IIII)I" } : Jvm.MethodName) ({ cls := "KnowHouseModel", name := "mark", desc := "(IIII)I" } : Jvm.MethodName)) ∈ gW := gW_in 1042 (by decide +kernel) rfl
set_option maxRecDepth 100000 in
theorem w_1043 : (Jvm.Cond.code ({ cls := "KnowHouseModel", name := "mark", desc := "(IIII)I" } : Jvm.MethodName) prog_12_method_32_code (5 : Nat) (Option.some Jvm.ClassFile.FieldType.int)) ∈ gW := gW_in 1043 rfl rfl
theorem w_1044 : (Jvm.Cond.methodLink "KnowHouseLaw" (78 : Nat) ({ cls := "KnowHouseModel", name := "changeTold", desc := "(II)I" } : Jvm.MethodName)) ∈ gW := gW_in 1044 (by decide +kernel) rfl
theorem w_1045 : (Jvm.Cond.instanceMethod ({ cls := "KnowHouseModel", name := "changeTold", desc := "(II)I" } : Jvm.MethodName)) ∈ gW := gW_in 1045 (by decide +kernel) rfl
theorem w_1046 : (Jvm.Cond.selects "KnowHouseModel" ({ cls := "KnowHouseModel", name := "changeTold", desc := "(II)I" } : Jvm.MethodName) ({ cls := "KnowHouseModel", name := "changeTold", desc := "(II)I" } : Jvm.MethodName)) ∈ gW := gW_in 1046 (by decide +kernel) rfl
set_option maxRecDepth 100000 in
theorem w_1047 : (Jvm.Cond.code ({ cls := "KnowHouseModel", name := "changeTold", desc := "(II)I" } : Jvm.MethodName) prog_12_method_34_code (3 : Nat) (Option.some Jvm.ClassFile.FieldType.int)) ∈ gW := gW_in 1047 rfl rfl
theorem w_1048 : (Jvm.Cond.methodLink "KnowHouseModel" (182 : Nat) ({ cls := "KnowHouseModel", name := "madeBy", desc := "(I)I" } : Jvm.MethodName)) ∈ gW := gW_in 1048 (by decide +kernel) rfl
theorem w_1050 : (Jvm.Cond.instanceMethod ({ cls := "KnowHouseModel", name := "madeBy", desc := "(I)I" } : Jvm.MethodName)) ∈ gW := gW_in 1050 (by decide +kernel) rfl
set_option maxRecDepth 100000 in
theorem w_1051 : (Jvm.Cond.code ({ cls := "KnowHouseModel", name := "madeBy", desc := "(I)I" } : Jvm.MethodName) prog_12_method_33_code (5 : Nat) (Option.some Jvm.ClassFile.FieldType.int)) ∈ gW := gW_in 1051 rfl rfl
theorem w_1052 : (Jvm.Cond.methodLink "KnowHouseLaw" (82 : Nat) ({ cls := "KnowHouseModel", name := "points", desc := "(III)I" } : Jvm.MethodName)) ∈ gW := gW_in 1052 (by decide +kernel) rfl
theorem w_1053 : (Jvm.Cond.instanceMethod ({ cls := "KnowHouseModel", name := "points", desc := "(III)I" } : Jvm.MethodName)) ∈ gW := gW_in 1053 (by decide +kernel) rfl
theorem w_1054 : (Jvm.Cond.selects "KnowHouseModel" ({ cls := "KnowHouseModel", name := "points", desc := "(III)I" } : Jvm.MethodName) ({ cls := "KnowHouseModel", name := "points", desc := "(III)I" } : Jvm.MethodName)) ∈ gW := gW_in 1054 (by decide +kernel) rfl
set_option maxRecDepth 100000 in
theorem w_1055 : (Jvm.Cond.code ({ cls := "KnowHouseModel", name := "points", desc := "(III)I" } : Jvm.MethodName) prog_12_method_36_code (4 : Nat) (Option.some Jvm.ClassFile.FieldType.int)) ∈ gW := gW_in 1055 rfl rfl
theorem w_1056 : (Jvm.Cond.methodLink "KnowHouseModel" (185 : Nat) ({ cls := "KnowHouseModel", name := "pointsFrom", desc := "(IIII)I" } : Jvm.MethodName)) ∈ gW := gW_in 1056 (by decide +kernel) rfl
theorem w_1058 : (Jvm.Cond.instanceMethod ({ cls := "KnowHouseModel", name := "pointsFrom", desc := "(IIII)I" } : Jvm.MethodName)) ∈ gW := gW_in 1058 (by decide +kernel) rfl
set_option maxRecDepth 100000 in
theorem w_1059 : (Jvm.Cond.code ({ cls := "KnowHouseModel", name := "pointsFrom", desc := "(IIII)I" } : Jvm.MethodName) prog_12_method_35_code (10 : Nat) (Option.some Jvm.ClassFile.FieldType.int)) ∈ gW := gW_in 1059 rfl rfl
theorem w_1060 : (Jvm.Cond.methodLink "KnowHouseLaw" (86 : Nat) ({ cls := "KnowHouseModel", name := "knows", desc := "(II)I" } : Jvm.MethodName)) ∈ gW := gW_in 1060 (by decide +kernel) rfl
theorem w_1061 : (Jvm.Cond.instanceMethod ({ cls := "KnowHouseModel", name := "knows", desc := "(II)I" } : Jvm.MethodName)) ∈ gW := gW_in 1061 (by decide +kernel) rfl
theorem w_1062 : (Jvm.Cond.selects "KnowHouseModel" ({ cls := "KnowHouseModel", name := "knows", desc := "(II)I" } : Jvm.MethodName) ({ cls := "KnowHouseModel", name := "knows", desc := "(II)I" } : Jvm.MethodName)) ∈ gW := gW_in 1062 (by decide +kernel) rfl
set_option maxRecDepth 100000 in
theorem w_1063 : (Jvm.Cond.code ({ cls := "KnowHouseModel", name := "knows", desc := "(II)I" } : Jvm.MethodName) prog_12_method_38_code (3 : Nat) (Option.some Jvm.ClassFile.FieldType.int)) ∈ gW := gW_in 1063 rfl rfl
theorem w_1064 : (Jvm.Cond.methodLink "KnowHouseModel" (188 : Nat) ({ cls := "KnowHouseModel", name := "known", desc := "(II)I" } : Jvm.MethodName)) ∈ gW := gW_in 1064 (by decide +kernel) rfl
theorem w_1066 : (Jvm.Cond.instanceMethod ({ cls := "KnowHouseModel", name := "known", desc := "(II)I" } : Jvm.MethodName)) ∈ gW := gW_in 1066 (by decide +kernel) rfl
set_option maxRecDepth 100000 in
theorem w_1067 : (Jvm.Cond.code ({ cls := "KnowHouseModel", name := "known", desc := "(II)I" } : Jvm.MethodName) prog_12_method_37_code (5 : Nat) (Option.some Jvm.ClassFile.FieldType.int)) ∈ gW := gW_in 1067 rfl rfl
theorem w_1068 : (Jvm.Cond.methodLink "KnowHouseLaw" (90 : Nat) ({ cls := "KnowHouseModel", name := "able", desc := "(II)I" } : Jvm.MethodName)) ∈ gW := gW_in 1068 (by decide +kernel) rfl
theorem w_1069 : (Jvm.Cond.instanceMethod ({ cls := "KnowHouseModel", name := "able", desc := "(II)I" } : Jvm.MethodName)) ∈ gW := gW_in 1069 (by decide +kernel) rfl
theorem w_1070 : (Jvm.Cond.selects "KnowHouseModel" ({ cls := "KnowHouseModel", name := "able", desc := "(II)I" } : Jvm.MethodName) ({ cls := "KnowHouseModel", name := "able", desc := "(II)I" } : Jvm.MethodName)) ∈ gW := gW_in 1070 (by decide +kernel) rfl
set_option maxRecDepth 100000 in
theorem w_1071 : (Jvm.Cond.code ({ cls := "KnowHouseModel", name := "able", desc := "(II)I" } : Jvm.MethodName) prog_12_method_41_code (3 : Nat) (Option.some Jvm.ClassFile.FieldType.int)) ∈ gW := gW_in 1071 rfl rfl
theorem w_1072 : (Jvm.Cond.methodLink "KnowHouseModel" (194 : Nat) ({ cls := "KnowHouseModel", name := "isAble", desc := "(II)Z" } : Jvm.MethodName)) ∈ gW := gW_in 1072 (by decide +kernel) rfl
theorem w_1074 : (Jvm.Cond.instanceMethod ({ cls := "KnowHouseModel", name := "isAble", desc := "(II)Z" } : Jvm.MethodName)) ∈ gW := gW_in 1074 (by decide +kernel) rfl
set_option maxRecDepth 100000 in
theorem w_1075 : (Jvm.Cond.code ({ cls := "KnowHouseModel", name := "isAble", desc := "(II)Z" } : Jvm.MethodName) prog_12_method_40_code (3 : Nat) (Option.some Jvm.ClassFile.FieldType.boolean)) ∈ gW := gW_in 1075 rfl rfl
theorem w_1076 : (Jvm.Cond.methodLink "KnowHouseModel" (191 : Nat) ({ cls := "KnowHouseModel", name := "does", desc := "(II)Z" } : Jvm.MethodName)) ∈ gW := gW_in 1076 (by decide +kernel) rfl
theorem w_1078 : (Jvm.Cond.instanceMethod ({ cls := "KnowHouseModel", name := "does", desc := "(II)Z" } : Jvm.MethodName)) ∈ gW := gW_in 1078 (by decide +kernel) rfl
set_option maxRecDepth 100000 in
theorem w_1079 : (Jvm.Cond.code ({ cls := "KnowHouseModel", name := "does", desc := "(II)Z" } : Jvm.MethodName) prog_12_method_39_code (3 : Nat) (Option.some Jvm.ClassFile.FieldType.boolean)) ∈ gW := gW_in 1079 rfl rfl
theorem w_1080 : (Jvm.Cond.methodLink "KnowHouseLaw" (94 : Nat) ({ cls := "KnowHouseModel", name := "lost", desc := "(I)I" } : Jvm.MethodName)) ∈ gW := gW_in 1080 (by decide +kernel) rfl
theorem w_1081 : (Jvm.Cond.instanceMethod ({ cls := "KnowHouseModel", name := "lost", desc := "(I)I" } : Jvm.MethodName)) ∈ gW := gW_in 1081 (by decide +kernel) rfl
theorem w_1082 : (Jvm.Cond.selects "KnowHouseModel" ({ cls := "KnowHouseModel", name := "lost", desc := "(I)I" } : Jvm.MethodName) ({ cls := "KnowHouseModel", name := "lost", desc := "(I)I" } : Jvm.MethodName)) ∈ gW := gW_in 1082 (by decide +kernel) rfl
set_option maxRecDepth 100000 in
theorem w_1083 : (Jvm.Cond.code ({ cls := "KnowHouseModel", name := "lost", desc := "(I)I" } : Jvm.MethodName) prog_12_method_44_code (2 : Nat) (Option.some Jvm.ClassFile.FieldType.int)) ∈ gW := gW_in 1083 rfl rfl
theorem w_1084 : (Jvm.Cond.methodLink "KnowHouseModel" (197 : Nat) ({ cls := "KnowHouseModel", name := "findAbles", desc := "()V" } : Jvm.MethodName)) ∈ gW := gW_in 1084 (by decide +kernel) rfl
theorem w_1086 : (Jvm.Cond.instanceMethod ({ cls := "KnowHouseModel", name := "findAbles", desc := "()V" } : Jvm.MethodName)) ∈ gW := gW_in 1086 (by decide +kernel) rfl
set_option maxRecDepth 100000 in
theorem w_1087 : (Jvm.Cond.code ({ cls := "KnowHouseModel", name := "findAbles", desc := "()V" } : Jvm.MethodName) prog_12_method_42_code (3 : Nat) (Option.none : Option Jvm.ClassFile.FieldType)) ∈ gW := gW_in 1087 rfl rfl
theorem w_1088 : (Jvm.Cond.methodLink "KnowHouseModel" (200 : Nat) ({ cls := "KnowHouseModel", name := "lostBy", desc := "(I)I" } : Jvm.MethodName)) ∈ gW := gW_in 1088 (by decide +kernel) rfl
theorem w_1090 : (Jvm.Cond.instanceMethod ({ cls := "KnowHouseModel", name := "lostBy", desc := "(I)I" } : Jvm.MethodName)) ∈ gW := gW_in 1090 (by decide +kernel) rfl
set_option maxRecDepth 100000 in
theorem w_1091 : (Jvm.Cond.code ({ cls := "KnowHouseModel", name := "lostBy", desc := "(I)I" } : Jvm.MethodName) prog_12_method_43_code (4 : Nat) (Option.some Jvm.ClassFile.FieldType.int)) ∈ gW := gW_in 1091 rfl rfl
theorem w_1092 : (Jvm.Cond.methodLink "KnowHouseLaw" (98 : Nat) ({ cls := "KnowHouseModel", name := "lone", desc := "(I)I" } : Jvm.MethodName)) ∈ gW := gW_in 1092 (by decide +kernel) rfl
theorem w_1093 : (Jvm.Cond.instanceMethod ({ cls := "KnowHouseModel", name := "lone", desc := "(I)I" } : Jvm.MethodName)) ∈ gW := gW_in 1093 (by decide +kernel) rfl
theorem w_1094 : (Jvm.Cond.selects "KnowHouseModel" ({ cls := "KnowHouseModel", name := "lone", desc := "(I)I" } : Jvm.MethodName) ({ cls := "KnowHouseModel", name := "lone", desc := "(I)I" } : Jvm.MethodName)) ∈ gW := gW_in 1094 (by decide +kernel) rfl
set_option maxRecDepth 100000 in
theorem w_1095 : (Jvm.Cond.code ({ cls := "KnowHouseModel", name := "lone", desc := "(I)I" } : Jvm.MethodName) prog_12_method_48_code (2 : Nat) (Option.some Jvm.ClassFile.FieldType.int)) ∈ gW := gW_in 1095 rfl rfl
theorem w_1096 : (Jvm.Cond.methodLink "KnowHouseModel" (212 : Nat) ({ cls := "KnowHouseModel", name := "loneAt", desc := "(I)I" } : Jvm.MethodName)) ∈ gW := gW_in 1096 (by decide +kernel) rfl
theorem w_1098 : (Jvm.Cond.instanceMethod ({ cls := "KnowHouseModel", name := "loneAt", desc := "(I)I" } : Jvm.MethodName)) ∈ gW := gW_in 1098 (by decide +kernel) rfl
set_option maxRecDepth 100000 in
theorem w_1099 : (Jvm.Cond.code ({ cls := "KnowHouseModel", name := "loneAt", desc := "(I)I" } : Jvm.MethodName) prog_12_method_47_code (4 : Nat) (Option.some Jvm.ClassFile.FieldType.int)) ∈ gW := gW_in 1099 rfl rfl
theorem w_1100 : (Jvm.Cond.methodLink "KnowHouseModel" (206 : Nat) ({ cls := "KnowHouseModel", name := "bits", desc := "(I)I" } : Jvm.MethodName)) ∈ gW := gW_in 1100 (by decide +kernel) rfl
theorem w_1101 : (Jvm.Cond.static ({ cls := "KnowHouseModel", name := "bits", desc := "(I)I" } : Jvm.MethodName)) ∈ gW := gW_in 1101 (by decide +kernel) rfl
set_option maxRecDepth 100000 in
theorem w_1102 : (Jvm.Cond.code ({ cls := "KnowHouseModel", name := "bits", desc := "(I)I" } : Jvm.MethodName) prog_12_method_45_code (3 : Nat) (Option.some Jvm.ClassFile.FieldType.int)) ∈ gW := gW_in 1102 rfl rfl
theorem w_1103 : (Jvm.Cond.methodLink "KnowHouseModel" (209 : Nat) ({ cls := "KnowHouseModel", name := "isLone", desc := "(I)Z" } : Jvm.MethodName)) ∈ gW := gW_in 1103 (by decide +kernel) rfl
theorem w_1105 : (Jvm.Cond.instanceMethod ({ cls := "KnowHouseModel", name := "isLone", desc := "(I)Z" } : Jvm.MethodName)) ∈ gW := gW_in 1105 (by decide +kernel) rfl
set_option maxRecDepth 100000 in
theorem w_1106 : (Jvm.Cond.code ({ cls := "KnowHouseModel", name := "isLone", desc := "(I)Z" } : Jvm.MethodName) prog_12_method_46_code (4 : Nat) (Option.some Jvm.ClassFile.FieldType.boolean)) ∈ gW := gW_in 1106 rfl rfl
theorem w_1107 : (Jvm.Cond.methodLink "KnowHouseLaw" (102 : Nat) ({ cls := "KnowHouseModel", name := "cover", desc := "()I" } : Jvm.MethodName)) ∈ gW := gW_in 1107 (by decide +kernel) rfl
theorem w_1108 : (Jvm.Cond.instanceMethod ({ cls := "KnowHouseModel", name := "cover", desc := "()I" } : Jvm.MethodName)) ∈ gW := gW_in 1108 (by decide +kernel) rfl
theorem w_1109 : (Jvm.Cond.selects "KnowHouseModel" ({ cls := "KnowHouseModel", name := "cover", desc := "()I" } : Jvm.MethodName) ({ cls := "KnowHouseModel", name := "cover", desc := "()I" } : Jvm.MethodName)) ∈ gW := gW_in 1109 (by decide +kernel) rfl
set_option maxRecDepth 100000 in
theorem w_1110 : (Jvm.Cond.code ({ cls := "KnowHouseModel", name := "cover", desc := "()I" } : Jvm.MethodName) prog_12_method_49_code (3 : Nat) (Option.some Jvm.ClassFile.FieldType.int)) ∈ gW := gW_in 1110 rfl rfl
theorem w_1111 : (Jvm.Cond.methodLink "KnowHouseModel" (215 : Nat) ({ cls := "KnowHouseModel", name := "covers", desc := "(I)Z" } : Jvm.MethodName)) ∈ gW := gW_in 1111 (by decide +kernel) rfl
theorem w_1113 : (Jvm.Cond.instanceMethod ({ cls := "KnowHouseModel", name := "covers", desc := "(I)Z" } : Jvm.MethodName)) ∈ gW := gW_in 1113 (by decide +kernel) rfl
set_option maxRecDepth 100000 in
theorem w_1114 : (Jvm.Cond.code ({ cls := "KnowHouseModel", name := "covers", desc := "(I)Z" } : Jvm.MethodName) prog_12_method_50_code (4 : Nat) (Option.some Jvm.ClassFile.FieldType.boolean)) ∈ gW := gW_in 1114 rfl rfl
theorem w_1115 : (Jvm.Cond.methodLink "KnowHouseLaw" (106 : Nat) ({ cls := "KnowHouseModel", name := "plan", desc := "(II)I" } : Jvm.MethodName)) ∈ gW := gW_in 1115 (by decide +kernel) rfl
theorem w_1116 : (Jvm.Cond.instanceMethod ({ cls := "KnowHouseModel", name := "plan", desc := "(II)I" } : Jvm.MethodName)) ∈ gW := gW_in 1116 (by decide +kernel) rfl
theorem w_1117 : (Jvm.Cond.selects "KnowHouseModel" ({ cls := "KnowHouseModel", name := "plan", desc := "(II)I" } : Jvm.MethodName) ({ cls := "KnowHouseModel", name := "plan", desc := "(II)I" } : Jvm.MethodName)) ∈ gW := gW_in 1117 (by decide +kernel) rfl
set_option maxRecDepth 100000 in
theorem w_1118 : (Jvm.Cond.code ({ cls := "KnowHouseModel", name := "plan", desc := "(II)I" } : Jvm.MethodName) prog_12_method_55_code (9 : Nat) (Option.some Jvm.ClassFile.FieldType.int)) ∈ gW := gW_in 1118 rfl rfl
theorem w_1119 : (Jvm.Cond.constantLong "KnowHouseModel" (229 : Nat) (3 : Int64)) ∈ gW := gW_in 1119 (by decide +kernel) rfl
theorem w_1120 : (Jvm.Cond.methodLink "KnowHouseModel" (231 : Nat) ({ cls := "KnowHouseModel", name := "begins", desc := "(I)I" } : Jvm.MethodName)) ∈ gW := gW_in 1120 (by decide +kernel) rfl
theorem w_1122 : (Jvm.Cond.instanceMethod ({ cls := "KnowHouseModel", name := "begins", desc := "(I)I" } : Jvm.MethodName)) ∈ gW := gW_in 1122 (by decide +kernel) rfl
set_option maxRecDepth 100000 in
theorem w_1123 : (Jvm.Cond.code ({ cls := "KnowHouseModel", name := "begins", desc := "(I)I" } : Jvm.MethodName) prog_12_method_54_code (9 : Nat) (Option.some Jvm.ClassFile.FieldType.int)) ∈ gW := gW_in 1123 rfl rfl
theorem w_1124 : (Jvm.Cond.methodLink "KnowHouseModel" (221 : Nat) ({ cls := "KnowHouseModel", name := "findTasks", desc := "()V" } : Jvm.MethodName)) ∈ gW := gW_in 1124 (by decide +kernel) rfl
theorem w_1126 : (Jvm.Cond.instanceMethod ({ cls := "KnowHouseModel", name := "findTasks", desc := "()V" } : Jvm.MethodName)) ∈ gW := gW_in 1126 (by decide +kernel) rfl
set_option maxRecDepth 100000 in
theorem w_1127 : (Jvm.Cond.code ({ cls := "KnowHouseModel", name := "findTasks", desc := "()V" } : Jvm.MethodName) prog_12_method_51_code (3 : Nat) (Option.none : Option Jvm.ClassFile.FieldType)) ∈ gW := gW_in 1127 rfl rfl
theorem w_1128 : (Jvm.Cond.methodLink "KnowHouseModel" (218 : Nat) ({ cls := "KnowHouseModel", name := "taskOf", desc := "(II)I" } : Jvm.MethodName)) ∈ gW := gW_in 1128 (by decide +kernel) rfl
theorem w_1130 : (Jvm.Cond.instanceMethod ({ cls := "KnowHouseModel", name := "taskOf", desc := "(II)I" } : Jvm.MethodName)) ∈ gW := gW_in 1130 (by decide +kernel) rfl
set_option maxRecDepth 100000 in
theorem w_1131 : (Jvm.Cond.code ({ cls := "KnowHouseModel", name := "taskOf", desc := "(II)I" } : Jvm.MethodName) prog_12_method_52_code (6 : Nat) (Option.some Jvm.ClassFile.FieldType.int)) ∈ gW := gW_in 1131 rfl rfl
theorem w_1132 : (Jvm.Cond.constant "KnowHouseModel" (224 : Nat) (32768 : Int32)) ∈ gW := gW_in 1132 (by decide +kernel) rfl
theorem w_1133 : (Jvm.Cond.constant "KnowHouseModel" (225 : Nat) (1000000 : Int32)) ∈ gW := gW_in 1133 (by decide +kernel) rfl
theorem w_1134 : (Jvm.Cond.methodLink "KnowHouseModel" (226 : Nat) ({ cls := "KnowHouseModel", name := "lacking", desc := "(II)I" } : Jvm.MethodName)) ∈ gW := gW_in 1134 (by decide +kernel) rfl
theorem w_1136 : (Jvm.Cond.instanceMethod ({ cls := "KnowHouseModel", name := "lacking", desc := "(II)I" } : Jvm.MethodName)) ∈ gW := gW_in 1136 (by decide +kernel) rfl
set_option maxRecDepth 100000 in
theorem w_1137 : (Jvm.Cond.code ({ cls := "KnowHouseModel", name := "lacking", desc := "(II)I" } : Jvm.MethodName) prog_12_method_53_code (3 : Nat) (Option.some Jvm.ClassFile.FieldType.int)) ∈ gW := gW_in 1137 rfl rfl
theorem w_1138 : (Jvm.Cond.methodLink "KnowHouseLaw" (110 : Nat) ({ cls := "KnowHouseModel", name := "sum", desc := "(II)I" } : Jvm.MethodName)) ∈ gW := gW_in 1138 (by decide +kernel) rfl
theorem w_1139 : (Jvm.Cond.instanceMethod ({ cls := "KnowHouseModel", name := "sum", desc := "(II)I" } : Jvm.MethodName)) ∈ gW := gW_in 1139 (by decide +kernel) rfl
theorem w_1140 : (Jvm.Cond.selects "KnowHouseModel" ({ cls := "KnowHouseModel", name := "sum", desc := "(II)I" } : Jvm.MethodName) ({ cls := "KnowHouseModel", name := "sum", desc := "(II)I" } : Jvm.MethodName)) ∈ gW := gW_in 1140 (by decide +kernel) rfl
set_option maxRecDepth 100000 in
theorem w_1141 : (Jvm.Cond.code ({ cls := "KnowHouseModel", name := "sum", desc := "(II)I" } : Jvm.MethodName) prog_12_method_56_code (8 : Nat) (Option.some Jvm.ClassFile.FieldType.int)) ∈ gW := gW_in 1141 rfl rfl
theorem w_1142 : (Jvm.Cond.methodLink "KnowHouseLaw" (114 : Nat) ({ cls := "KnowHouseModel", name := "count", desc := "(I)I" } : Jvm.MethodName)) ∈ gW := gW_in 1142 (by decide +kernel) rfl
theorem w_1143 : (Jvm.Cond.instanceMethod ({ cls := "KnowHouseModel", name := "count", desc := "(I)I" } : Jvm.MethodName)) ∈ gW := gW_in 1143 (by decide +kernel) rfl
theorem w_1144 : (Jvm.Cond.selects "KnowHouseModel" ({ cls := "KnowHouseModel", name := "count", desc := "(I)I" } : Jvm.MethodName) ({ cls := "KnowHouseModel", name := "count", desc := "(I)I" } : Jvm.MethodName)) ∈ gW := gW_in 1144 (by decide +kernel) rfl
set_option maxRecDepth 100000 in
theorem w_1145 : (Jvm.Cond.code ({ cls := "KnowHouseModel", name := "count", desc := "(I)I" } : Jvm.MethodName) prog_12_method_57_code (3 : Nat) (Option.some Jvm.ClassFile.FieldType.int)) ∈ gW := gW_in 1145 rfl rfl
theorem w_1146 : (Jvm.Cond.methodLink "KnowHouseLaw" (118 : Nat) ({ cls := "KnowHouseModel", name := "act", desc := "(III)I" } : Jvm.MethodName)) ∈ gW := gW_in 1146 (by decide +kernel) rfl
theorem w_1147 : (Jvm.Cond.instanceMethod ({ cls := "KnowHouseModel", name := "act", desc := "(III)I" } : Jvm.MethodName)) ∈ gW := gW_in 1147 (by decide +kernel) rfl
theorem w_1148 : (Jvm.Cond.selects "KnowHouseModel" ({ cls := "KnowHouseModel", name := "act", desc := "(III)I" } : Jvm.MethodName) ({ cls := "KnowHouseModel", name := "act", desc := "(III)I" } : Jvm.MethodName)) ∈ gW := gW_in 1148 (by decide +kernel) rfl
set_option maxRecDepth 100000 in
theorem w_1149 : (Jvm.Cond.code ({ cls := "KnowHouseModel", name := "act", desc := "(III)I" } : Jvm.MethodName) prog_12_method_68_code (4 : Nat) (Option.some Jvm.ClassFile.FieldType.int)) ∈ gW := gW_in 1149 rfl rfl
theorem w_1150 : (Jvm.Cond.methodLink "KnowHouseModel" (246 : Nat) ({ cls := "KnowHouseModel", name := "write", desc := "(II)I" } : Jvm.MethodName)) ∈ gW := gW_in 1150 (by decide +kernel) rfl
theorem w_1152 : (Jvm.Cond.instanceMethod ({ cls := "KnowHouseModel", name := "write", desc := "(II)I" } : Jvm.MethodName)) ∈ gW := gW_in 1152 (by decide +kernel) rfl
set_option maxRecDepth 100000 in
theorem w_1153 : (Jvm.Cond.code ({ cls := "KnowHouseModel", name := "write", desc := "(II)I" } : Jvm.MethodName) prog_12_method_61_code (3 : Nat) (Option.some Jvm.ClassFile.FieldType.int)) ∈ gW := gW_in 1153 rfl rfl
theorem w_1154 : (Jvm.Cond.methodLink "KnowHouseModel" (237 : Nat) ({ cls := "KnowHouseModel", name := "notes", desc := "(I)V" } : Jvm.MethodName)) ∈ gW := gW_in 1154 (by decide +kernel) rfl
theorem w_1156 : (Jvm.Cond.instanceMethod ({ cls := "KnowHouseModel", name := "notes", desc := "(I)V" } : Jvm.MethodName)) ∈ gW := gW_in 1156 (by decide +kernel) rfl
set_option maxRecDepth 100000 in
theorem w_1157 : (Jvm.Cond.code ({ cls := "KnowHouseModel", name := "notes", desc := "(I)V" } : Jvm.MethodName) prog_12_method_58_code (2 : Nat) (Option.none : Option Jvm.ClassFile.FieldType)) ∈ gW := gW_in 1157 rfl rfl
theorem w_1158 : (Jvm.Cond.methodLink "KnowHouseModel" (243 : Nat) ({ cls := "KnowHouseModel", name := "formedWrite", desc := "(II)I" } : Jvm.MethodName)) ∈ gW := gW_in 1158 (by decide +kernel) rfl
theorem w_1160 : (Jvm.Cond.instanceMethod ({ cls := "KnowHouseModel", name := "formedWrite", desc := "(II)I" } : Jvm.MethodName)) ∈ gW := gW_in 1160 (by decide +kernel) rfl
set_option maxRecDepth 100000 in
theorem w_1161 : (Jvm.Cond.code ({ cls := "KnowHouseModel", name := "formedWrite", desc := "(II)I" } : Jvm.MethodName) prog_12_method_60_code (3 : Nat) (Option.some Jvm.ClassFile.FieldType.int)) ∈ gW := gW_in 1161 rfl rfl
theorem w_1162 : (Jvm.Cond.methodLink "KnowHouseModel" (240 : Nat) ({ cls := "KnowHouseModel", name := "plainWrite", desc := "(II)I" } : Jvm.MethodName)) ∈ gW := gW_in 1162 (by decide +kernel) rfl
theorem w_1164 : (Jvm.Cond.instanceMethod ({ cls := "KnowHouseModel", name := "plainWrite", desc := "(II)I" } : Jvm.MethodName)) ∈ gW := gW_in 1164 (by decide +kernel) rfl
set_option maxRecDepth 100000 in
theorem w_1165 : (Jvm.Cond.code ({ cls := "KnowHouseModel", name := "plainWrite", desc := "(II)I" } : Jvm.MethodName) prog_12_method_59_code (3 : Nat) (Option.some Jvm.ClassFile.FieldType.int)) ∈ gW := gW_in 1165 rfl rfl
theorem w_1166 : (Jvm.Cond.methodLink "KnowHouseModel" (255 : Nat) ({ cls := "KnowHouseModel", name := "move", desc := "(II)I" } : Jvm.MethodName)) ∈ gW := gW_in 1166 (by decide +kernel) rfl
theorem w_1168 : (Jvm.Cond.instanceMethod ({ cls := "KnowHouseModel", name := "move", desc := "(II)I" } : Jvm.MethodName)) ∈ gW := gW_in 1168 (by decide +kernel) rfl
set_option maxRecDepth 100000 in
theorem w_1169 : (Jvm.Cond.code ({ cls := "KnowHouseModel", name := "move", desc := "(II)I" } : Jvm.MethodName) prog_12_method_63_code (4 : Nat) (Option.some Jvm.ClassFile.FieldType.int)) ∈ gW := gW_in 1169 rfl rfl
theorem w_1170 : (Jvm.Cond.methodLink "KnowHouseModel" (249 : Nat) ({ cls := "KnowHouseModel", name := "plainMove", desc := "(II)I" } : Jvm.MethodName)) ∈ gW := gW_in 1170 (by decide +kernel) rfl
theorem w_1172 : (Jvm.Cond.instanceMethod ({ cls := "KnowHouseModel", name := "plainMove", desc := "(II)I" } : Jvm.MethodName)) ∈ gW := gW_in 1172 (by decide +kernel) rfl
set_option maxRecDepth 100000 in
theorem w_1173 : (Jvm.Cond.code ({ cls := "KnowHouseModel", name := "plainMove", desc := "(II)I" } : Jvm.MethodName) prog_12_method_62_code (3 : Nat) (Option.some Jvm.ClassFile.FieldType.int)) ∈ gW := gW_in 1173 rfl rfl
theorem w_1174 : (Jvm.Cond.methodLink "KnowHouseModel" (258 : Nat) ({ cls := "KnowHouseModel", name := "know", desc := "(II)I" } : Jvm.MethodName)) ∈ gW := gW_in 1174 (by decide +kernel) rfl
theorem w_1176 : (Jvm.Cond.instanceMethod ({ cls := "KnowHouseModel", name := "know", desc := "(II)I" } : Jvm.MethodName)) ∈ gW := gW_in 1176 (by decide +kernel) rfl
set_option maxRecDepth 100000 in
theorem w_1177 : (Jvm.Cond.code ({ cls := "KnowHouseModel", name := "know", desc := "(II)I" } : Jvm.MethodName) prog_12_method_65_code (3 : Nat) (Option.some Jvm.ClassFile.FieldType.int)) ∈ gW := gW_in 1177 rfl rfl
theorem w_1178 : (Jvm.Cond.methodLink "KnowHouseModel" (252 : Nat) ({ cls := "KnowHouseModel", name := "plainKnow", desc := "(II)I" } : Jvm.MethodName)) ∈ gW := gW_in 1178 (by decide +kernel) rfl
theorem w_1180 : (Jvm.Cond.instanceMethod ({ cls := "KnowHouseModel", name := "plainKnow", desc := "(II)I" } : Jvm.MethodName)) ∈ gW := gW_in 1180 (by decide +kernel) rfl
set_option maxRecDepth 100000 in
theorem w_1181 : (Jvm.Cond.code ({ cls := "KnowHouseModel", name := "plainKnow", desc := "(II)I" } : Jvm.MethodName) prog_12_method_64_code (3 : Nat) (Option.some Jvm.ClassFile.FieldType.int)) ∈ gW := gW_in 1181 rfl rfl
theorem w_1182 : (Jvm.Cond.methodLink "KnowHouseModel" (264 : Nat) ({ cls := "KnowHouseModel", name := "fade", desc := "(II)I" } : Jvm.MethodName)) ∈ gW := gW_in 1182 (by decide +kernel) rfl
theorem w_1184 : (Jvm.Cond.instanceMethod ({ cls := "KnowHouseModel", name := "fade", desc := "(II)I" } : Jvm.MethodName)) ∈ gW := gW_in 1184 (by decide +kernel) rfl
set_option maxRecDepth 100000 in
theorem w_1185 : (Jvm.Cond.code ({ cls := "KnowHouseModel", name := "fade", desc := "(II)I" } : Jvm.MethodName) prog_12_method_67_code (4 : Nat) (Option.some Jvm.ClassFile.FieldType.int)) ∈ gW := gW_in 1185 rfl rfl
theorem w_1186 : (Jvm.Cond.methodLink "KnowHouseModel" (261 : Nat) ({ cls := "KnowHouseModel", name := "plainFade", desc := "(II)I" } : Jvm.MethodName)) ∈ gW := gW_in 1186 (by decide +kernel) rfl
theorem w_1188 : (Jvm.Cond.instanceMethod ({ cls := "KnowHouseModel", name := "plainFade", desc := "(II)I" } : Jvm.MethodName)) ∈ gW := gW_in 1188 (by decide +kernel) rfl
set_option maxRecDepth 100000 in
theorem w_1189 : (Jvm.Cond.code ({ cls := "KnowHouseModel", name := "plainFade", desc := "(II)I" } : Jvm.MethodName) prog_12_method_66_code (4 : Nat) (Option.some Jvm.ClassFile.FieldType.int)) ∈ gW := gW_in 1189 rfl rfl
theorem w_1190 : (Jvm.Cond.methodLink "KnowHouseLaw" (122 : Nat) ({ cls := "KnowHouseModel", name := "trace", desc := "(I)I" } : Jvm.MethodName)) ∈ gW := gW_in 1190 (by decide +kernel) rfl
theorem w_1191 : (Jvm.Cond.instanceMethod ({ cls := "KnowHouseModel", name := "trace", desc := "(I)I" } : Jvm.MethodName)) ∈ gW := gW_in 1191 (by decide +kernel) rfl
theorem w_1192 : (Jvm.Cond.selects "KnowHouseModel" ({ cls := "KnowHouseModel", name := "trace", desc := "(I)I" } : Jvm.MethodName) ({ cls := "KnowHouseModel", name := "trace", desc := "(I)I" } : Jvm.MethodName)) ∈ gW := gW_in 1192 (by decide +kernel) rfl
set_option maxRecDepth 100000 in
theorem w_1193 : (Jvm.Cond.code ({ cls := "KnowHouseModel", name := "trace", desc := "(I)I" } : Jvm.MethodName) prog_12_method_69_code (2 : Nat) (Option.some Jvm.ClassFile.FieldType.int)) ∈ gW := gW_in 1193 rfl rfl
theorem w_1194 : (Jvm.Cond.methodLink "KnowHouseLaw" (126 : Nat) ({ cls := "KnowHouseModel", name := "sheet", desc := "(III)I" } : Jvm.MethodName)) ∈ gW := gW_in 1194 (by decide +kernel) rfl
theorem w_1195 : (Jvm.Cond.instanceMethod ({ cls := "KnowHouseModel", name := "sheet", desc := "(III)I" } : Jvm.MethodName)) ∈ gW := gW_in 1195 (by decide +kernel) rfl
theorem w_1196 : (Jvm.Cond.selects "KnowHouseModel" ({ cls := "KnowHouseModel", name := "sheet", desc := "(III)I" } : Jvm.MethodName) ({ cls := "KnowHouseModel", name := "sheet", desc := "(III)I" } : Jvm.MethodName)) ∈ gW := gW_in 1196 (by decide +kernel) rfl
set_option maxRecDepth 100000 in
theorem w_1197 : (Jvm.Cond.code ({ cls := "KnowHouseModel", name := "sheet", desc := "(III)I" } : Jvm.MethodName) prog_12_method_70_code (5 : Nat) (Option.some Jvm.ClassFile.FieldType.int)) ∈ gW := gW_in 1197 rfl rfl
theorem w_1198 : (Jvm.Cond.constantLong "KnowHouseModel" (267 : Nat) (-1 : Int64)) ∈ gW := gW_in 1198 (by decide +kernel) rfl
theorem w_1199 : (Jvm.Cond.constantLong "KnowHouseModel" (269 : Nat) (40 : Int64)) ∈ gW := gW_in 1199 (by decide +kernel) rfl
theorem w_1200 : (Jvm.Cond.methodLink "KnowHouseLaw" (130 : Nat) ({ cls := "KnowHouseModel", name := "cell", desc := "(III)I" } : Jvm.MethodName)) ∈ gW := gW_in 1200 (by decide +kernel) rfl
theorem w_1201 : (Jvm.Cond.instanceMethod ({ cls := "KnowHouseModel", name := "cell", desc := "(III)I" } : Jvm.MethodName)) ∈ gW := gW_in 1201 (by decide +kernel) rfl
theorem w_1202 : (Jvm.Cond.selects "KnowHouseModel" ({ cls := "KnowHouseModel", name := "cell", desc := "(III)I" } : Jvm.MethodName) ({ cls := "KnowHouseModel", name := "cell", desc := "(III)I" } : Jvm.MethodName)) ∈ gW := gW_in 1202 (by decide +kernel) rfl
set_option maxRecDepth 100000 in
theorem w_1203 : (Jvm.Cond.code ({ cls := "KnowHouseModel", name := "cell", desc := "(III)I" } : Jvm.MethodName) prog_12_method_72_code (4 : Nat) (Option.some Jvm.ClassFile.FieldType.int)) ∈ gW := gW_in 1203 rfl rfl
theorem w_1204 : (Jvm.Cond.constantLong "KnowHouseModel" (271 : Nat) (-10000 : Int64)) ∈ gW := gW_in 1204 (by decide +kernel) rfl
theorem w_1205 : (Jvm.Cond.constantLong "KnowHouseModel" (273 : Nat) (10000 : Int64)) ∈ gW := gW_in 1205 (by decide +kernel) rfl
theorem w_1206 : (Jvm.Cond.methodLink "KnowHouseModel" (275 : Nat) ({ cls := "KnowHouseModel", name := "byteOf", desc := "(I)I" } : Jvm.MethodName)) ∈ gW := gW_in 1206 (by decide +kernel) rfl
theorem w_1207 : (Jvm.Cond.static ({ cls := "KnowHouseModel", name := "byteOf", desc := "(I)I" } : Jvm.MethodName)) ∈ gW := gW_in 1207 (by decide +kernel) rfl
set_option maxRecDepth 100000 in
theorem w_1208 : (Jvm.Cond.code ({ cls := "KnowHouseModel", name := "byteOf", desc := "(I)I" } : Jvm.MethodName) prog_12_method_71_code (2 : Nat) (Option.some Jvm.ClassFile.FieldType.int)) ∈ gW := gW_in 1208 rfl rfl
theorem w_1209 : (Jvm.Cond.methodLink "KnowHouseLaw" (134 : Nat) ({ cls := "KnowHouseModel", name := "come", desc := "(II)I" } : Jvm.MethodName)) ∈ gW := gW_in 1209 (by decide +kernel) rfl
theorem w_1210 : (Jvm.Cond.instanceMethod ({ cls := "KnowHouseModel", name := "come", desc := "(II)I" } : Jvm.MethodName)) ∈ gW := gW_in 1210 (by decide +kernel) rfl
theorem w_1211 : (Jvm.Cond.selects "KnowHouseModel" ({ cls := "KnowHouseModel", name := "come", desc := "(II)I" } : Jvm.MethodName) ({ cls := "KnowHouseModel", name := "come", desc := "(II)I" } : Jvm.MethodName)) ∈ gW := gW_in 1211 (by decide +kernel) rfl
set_option maxRecDepth 100000 in
theorem w_1212 : (Jvm.Cond.code ({ cls := "KnowHouseModel", name := "come", desc := "(II)I" } : Jvm.MethodName) prog_12_method_73_code (5 : Nat) (Option.some Jvm.ClassFile.FieldType.int)) ∈ gW := gW_in 1212 rfl rfl
theorem w_1213 : (Jvm.Cond.methodLink "KnowHouseLaw" (138 : Nat) ({ cls := "KnowHouseModel", name := "forge", desc := "(III)I" } : Jvm.MethodName)) ∈ gW := gW_in 1213 (by decide +kernel) rfl
theorem w_1214 : (Jvm.Cond.instanceMethod ({ cls := "KnowHouseModel", name := "forge", desc := "(III)I" } : Jvm.MethodName)) ∈ gW := gW_in 1214 (by decide +kernel) rfl
theorem w_1215 : (Jvm.Cond.selects "KnowHouseModel" ({ cls := "KnowHouseModel", name := "forge", desc := "(III)I" } : Jvm.MethodName) ({ cls := "KnowHouseModel", name := "forge", desc := "(III)I" } : Jvm.MethodName)) ∈ gW := gW_in 1215 (by decide +kernel) rfl
set_option maxRecDepth 100000 in
theorem w_1216 : (Jvm.Cond.code ({ cls := "KnowHouseModel", name := "forge", desc := "(III)I" } : Jvm.MethodName) prog_12_method_75_code (8 : Nat) (Option.some Jvm.ClassFile.FieldType.int)) ∈ gW := gW_in 1216 rfl rfl
theorem w_1217 : (Jvm.Cond.constantLong "KnowHouseModel" (278 : Nat) (6 : Int64)) ∈ gW := gW_in 1217 (by decide +kernel) rfl
theorem w_1218 : (Jvm.Cond.constantLong "KnowHouseModel" (280 : Nat) (-100 : Int64)) ∈ gW := gW_in 1218 (by decide +kernel) rfl
theorem w_1219 : (Jvm.Cond.methodLink "KnowHouseModel" (282 : Nat) ({ cls := "KnowHouseModel", name := "modulo", desc := "(II)I" } : Jvm.MethodName)) ∈ gW := gW_in 1219 (by decide +kernel) rfl
theorem w_1220 : (Jvm.Cond.static ({ cls := "KnowHouseModel", name := "modulo", desc := "(II)I" } : Jvm.MethodName)) ∈ gW := gW_in 1220 (by decide +kernel) rfl
set_option maxRecDepth 100000 in
theorem w_1221 : (Jvm.Cond.code ({ cls := "KnowHouseModel", name := "modulo", desc := "(II)I" } : Jvm.MethodName) prog_12_method_74_code (2 : Nat) (Option.some Jvm.ClassFile.FieldType.int)) ∈ gW := gW_in 1221 rfl rfl
theorem w_1222 : (Jvm.Cond.methodLink "KnowHouseModel" (285 : Nat) ({ cls := "KnowHouseModel", name := "copied", desc := "(II)I" } : Jvm.MethodName)) ∈ gW := gW_in 1222 (by decide +kernel) rfl
theorem w_1224 : (Jvm.Cond.instanceMethod ({ cls := "KnowHouseModel", name := "copied", desc := "(II)I" } : Jvm.MethodName)) ∈ gW := gW_in 1224 (by decide +kernel) rfl
set_option maxRecDepth 100000 in
theorem w_1225 : (Jvm.Cond.code ({ cls := "KnowHouseModel", name := "copied", desc := "(II)I" } : Jvm.MethodName) prog_12_method_76_code (5 : Nat) (Option.some Jvm.ClassFile.FieldType.int)) ∈ gW := gW_in 1225 rfl rfl
theorem w_1226 : (Jvm.Cond.methodLink "KnowHouseLaw" (142 : Nat) ({ cls := "KnowHouseModel", name := "status", desc := "()I" } : Jvm.MethodName)) ∈ gW := gW_in 1226 (by decide +kernel) rfl
theorem w_1227 : (Jvm.Cond.instanceMethod ({ cls := "KnowHouseModel", name := "status", desc := "()I" } : Jvm.MethodName)) ∈ gW := gW_in 1227 (by decide +kernel) rfl
theorem w_1228 : (Jvm.Cond.selects "KnowHouseModel" ({ cls := "KnowHouseModel", name := "status", desc := "()I" } : Jvm.MethodName) ({ cls := "KnowHouseModel", name := "status", desc := "()I" } : Jvm.MethodName)) ∈ gW := gW_in 1228 (by decide +kernel) rfl
set_option maxRecDepth 100000 in
theorem w_1229 : (Jvm.Cond.code ({ cls := "KnowHouseModel", name := "status", desc := "()I" } : Jvm.MethodName) prog_12_method_77_code (1 : Nat) (Option.some Jvm.ClassFile.FieldType.int)) ∈ gW := gW_in 1229 rfl rfl
theorem ow_0 : ∀ w ∈ u_ws RX0 TX0 2, w ∈ lw_tbl ∧ goodWord w = true := by decide +kernel
theorem oc_0 : okCl 0 RX0 TX0 2 := ⟨rfl, rfl, fun w hw => List.mem_filter.mpr (ow_0 w hw)⟩
theorem df_0 {G : gG} : ∀ j, j < 2 → defaultValue (tyX0 j) = vp_V ((aDf 0).map (cV G)) j := by
  intro j hj
  rcases (show j = 0 ∨ j = 1 by omega) with rfl | rfl <;> rfl
theorem ow_1 : ∀ w ∈ u_ws RX1 TX1 8, w ∈ lw_tbl ∧ goodWord w = true := by decide +kernel
theorem oc_1 : okCl 1 RX1 TX1 8 := ⟨rfl, rfl, fun w hw => List.mem_filter.mpr (ow_1 w hw)⟩
theorem df_1 {G : gG} : ∀ j, j < 8 → defaultValue (tyX1 j) = vp_V ((aDf 1).map (cV G)) j := by
  intro j hj
  rcases (show j = 0 ∨ j = 1 ∨ j = 2 ∨ j = 3 ∨ j = 4 ∨ j = 5 ∨ j = 6 ∨ j = 7 by omega) with rfl | rfl | rfl | rfl | rfl | rfl | rfl | rfl <;> rfl
theorem ow_2 : ∀ w ∈ u_ws RX2 TX2 7, w ∈ lw_tbl ∧ goodWord w = true := by decide +kernel
theorem oc_2 : okCl 2 RX2 TX2 7 := ⟨rfl, rfl, fun w hw => List.mem_filter.mpr (ow_2 w hw)⟩
theorem df_2 {G : gG} : ∀ j, j < 7 → defaultValue (tyX2 j) = vp_V ((aDf 2).map (cV G)) j := by
  intro j hj
  rcases (show j = 0 ∨ j = 1 ∨ j = 2 ∨ j = 3 ∨ j = 4 ∨ j = 5 ∨ j = 6 by omega) with rfl | rfl | rfl | rfl | rfl | rfl | rfl <;> rfl
theorem ow_3 : ∀ w ∈ u_ws RX3 TX3 3, w ∈ lw_tbl ∧ goodWord w = true := by decide +kernel
theorem oc_3 : okCl 3 RX3 TX3 3 := ⟨rfl, rfl, fun w hw => List.mem_filter.mpr (ow_3 w hw)⟩
theorem df_3 {G : gG} : ∀ j, j < 3 → defaultValue (tyX3 j) = vp_V ((aDf 3).map (cV G)) j := by
  intro j hj
  rcases (show j = 0 ∨ j = 1 ∨ j = 2 by omega) with rfl | rfl | rfl <;> rfl
theorem ow_4 : ∀ w ∈ u_ws RX4 TX4 1, w ∈ lw_tbl ∧ goodWord w = true := by decide +kernel
theorem oc_4 : okCl 4 RX4 TX4 1 := ⟨rfl, rfl, fun w hw => List.mem_filter.mpr (ow_4 w hw)⟩
theorem df_4 {G : gG} : ∀ j, j < 1 → defaultValue (tyX4 j) = vp_V ((aDf 4).map (cV G)) j := by
  intro j hj
  rcases (show j = 0 by omega) with rfl <;> rfl
theorem ow_5 : ∀ w ∈ u_ws RX5 TX5 6, w ∈ lw_tbl ∧ goodWord w = true := by decide +kernel
theorem oc_5 : okCl 5 RX5 TX5 6 := ⟨rfl, rfl, fun w hw => List.mem_filter.mpr (ow_5 w hw)⟩
theorem df_5 {G : gG} : ∀ j, j < 6 → defaultValue (tyX5 j) = vp_V ((aDf 5).map (cV G)) j := by
  intro j hj
  rcases (show j = 0 ∨ j = 1 ∨ j = 2 ∨ j = 3 ∨ j = 4 ∨ j = 5 by omega) with rfl | rfl | rfl | rfl | rfl | rfl <;> rfl
theorem ow_6 : ∀ w ∈ u_ws RX6 TX6 3, w ∈ lw_tbl ∧ goodWord w = true := by decide +kernel
theorem oc_6 : okCl 6 RX6 TX6 3 := ⟨rfl, rfl, fun w hw => List.mem_filter.mpr (ow_6 w hw)⟩
theorem df_6 {G : gG} : ∀ j, j < 3 → defaultValue (tyX6 j) = vp_V ((aDf 6).map (cV G)) j := by
  intro j hj
  rcases (show j = 0 ∨ j = 1 ∨ j = 2 by omega) with rfl | rfl | rfl <;> rfl
theorem ow_7 : ∀ w ∈ u_ws RX7 TX7 10, w ∈ lw_tbl ∧ goodWord w = true := by decide +kernel
theorem oc_7 : okCl 7 RX7 TX7 10 := ⟨rfl, rfl, fun w hw => List.mem_filter.mpr (ow_7 w hw)⟩
theorem df_7 {G : gG} : ∀ j, j < 10 → defaultValue (tyX7 j) = vp_V ((aDf 7).map (cV G)) j := by
  intro j hj
  rcases (show j = 0 ∨ j = 1 ∨ j = 2 ∨ j = 3 ∨ j = 4 ∨ j = 5 ∨ j = 6 ∨ j = 7 ∨ j = 8 ∨ j = 9 by omega) with rfl | rfl | rfl | rfl | rfl | rfl | rfl | rfl | rfl | rfl <;> rfl
theorem ow_8 : ∀ w ∈ u_ws RX8 TX8 1, w ∈ lw_tbl ∧ goodWord w = true := by decide +kernel
theorem oc_8 : okCl 8 RX8 TX8 1 := ⟨rfl, rfl, fun w hw => List.mem_filter.mpr (ow_8 w hw)⟩
theorem df_8 {G : gG} : ∀ j, j < 1 → defaultValue (tyX8 j) = vp_V ((aDf 8).map (cV G)) j := by
  intro j hj
  rcases (show j = 0 by omega) with rfl <;> rfl
theorem ow_9 : ∀ w ∈ u_ws RX9 TX9 10, w ∈ lw_tbl ∧ goodWord w = true := by decide +kernel
theorem oc_9 : okCl 9 RX9 TX9 10 := ⟨rfl, rfl, fun w hw => List.mem_filter.mpr (ow_9 w hw)⟩
theorem df_9 {G : gG} : ∀ j, j < 10 → defaultValue (tyX9 j) = vp_V ((aDf 9).map (cV G)) j := by
  intro j hj
  rcases (show j = 0 ∨ j = 1 ∨ j = 2 ∨ j = 3 ∨ j = 4 ∨ j = 5 ∨ j = 6 ∨ j = 7 ∨ j = 8 ∨ j = 9 by omega) with rfl | rfl | rfl | rfl | rfl | rfl | rfl | rfl | rfl | rfl <;> rfl
theorem ow_10 : ∀ w ∈ u_ws RX10 TX10 32, w ∈ lw_tbl ∧ goodWord w = true := by decide +kernel
theorem oc_10 : okCl 10 RX10 TX10 32 := ⟨rfl, rfl, fun w hw => List.mem_filter.mpr (ow_10 w hw)⟩
theorem df_10 {G : gG} : ∀ j, j < 32 → defaultValue (tyX10 j) = vp_V ((aDf 10).map (cV G)) j := by
  intro j hj
  rcases (show j = 0 ∨ j = 1 ∨ j = 2 ∨ j = 3 ∨ j = 4 ∨ j = 5 ∨ j = 6 ∨ j = 7 ∨ j = 8 ∨ j = 9 ∨ j = 10 ∨ j = 11 ∨ j = 12 ∨ j = 13 ∨ j = 14 ∨ j = 15 ∨ j = 16 ∨ j = 17 ∨ j = 18 ∨ j = 19 ∨ j = 20 ∨ j = 21 ∨ j = 22 ∨ j = 23 ∨ j = 24 ∨ j = 25 ∨ j = 26 ∨ j = 27 ∨ j = 28 ∨ j = 29 ∨ j = 30 ∨ j = 31 by omega) with rfl | rfl | rfl | rfl | rfl | rfl | rfl | rfl | rfl | rfl | rfl | rfl | rfl | rfl | rfl | rfl | rfl | rfl | rfl | rfl | rfl | rfl | rfl | rfl | rfl | rfl | rfl | rfl | rfl | rfl | rfl | rfl <;> rfl
abbrev D_A_init : dD := (yX0_init, cX0_init, 1, none)
abbrev D_A_perform : dD := (yX0_perform, cX0_perform, 4, some .int)
abbrev D_A_run : dD := (yX0_run, cX0_run, 10, some .int)
abbrev D_A_kindWithBody : dD := (yX0_kindWithBody, cX0_kindWithBody, 4, some .int)
abbrev D_A_begin : dD := (yX0_begin, cX0_begin, 2, none)
abbrev D_Ch_init : dD := (yX1_init, cX1_init, 6, none)
abbrev D_Ch_firstMarks : dD := (yX1_firstMarks, cX1_firstMarks, 1, some (.array .int))
abbrev D_Ch_shareOf : dD := (yX1_shareOf, cX1_shareOf, 2, some .int)
abbrev D_Kp_init : dD := (yX2_init, cX2_init, 1, none)
abbrev D_Kp_after : dD := (yX2_after, cX2_after, 4, some (.object "KnowHouse$Page"))
abbrev D_Kp_isAlike : dD := (yX2_isAlike, cX2_isAlike, 3, some .boolean)
abbrev D_Kp_wordingOf : dD := (yX2_wordingOf, cX2_wordingOf, 1, some .int)
abbrev D_Kp_countMost : dD := (yX2_countMost, cX2_countMost, 4, none)
abbrev D_Kp_pairInOrder : dD := (yX2_pairInOrder, cX2_pairInOrder, 4, none)
abbrev D_Kp_leastOld : dD := (yX2_leastOld, cX2_leastOld, 5, some .int)
abbrev D_Kp_pairMoved : dD := (yX2_pairMoved, cX2_pairMoved, 3, none)
abbrev D_Kp_firstLeftOf : dD := (yX2_firstLeftOf, cX2_firstLeftOf, 3, some .int)
abbrev D_Kp_newPage : dD := (yX2_newPage, cX2_newPage, 6, some (.object "KnowHouse$Page"))
abbrev D_Li_init : dD := (yX3_init, cX3_init, 4, none)
abbrev D_Li_markCount : dD := (yX3_markCount, cX3_markCount, 1, some .int)
abbrev D_Li_markTold : dD := (yX3_markTold, cX3_markTold, 3, some .int)
abbrev D_Li_pointsOf : dD := (yX3_pointsOf, cX3_pointsOf, 7, some .int)
abbrev D_Li_pointsIfRead : dD := (yX3_pointsIfRead, cX3_pointsIfRead, 3, some .int)
abbrev D_Li_withText : dD := (yX3_withText, cX3_withText, 2, some (.object "KnowHouse$Line"))
abbrev D_Li_readBy : dD := (yX3_readBy, cX3_readBy, 6, some (.object "KnowHouse$Line"))
abbrev D_Li_marksToGo : dD := (yX3_marksToGo, cX3_marksToGo, 1, some .int)
abbrev D_Pg_init : dD := (yX4_init, cX4_init, 2, none)
abbrev D_Pg_size : dD := (yX4_size, cX4_size, 1, some .int)
abbrev D_Pg_rowAt : dD := (yX4_rowAt, cX4_rowAt, 2, some (.object "KnowHouse$Line"))
abbrev D_Pg_knownBy : dD := (yX4_knownBy, cX4_knownBy, 8, some .int)
abbrev D_Pg_knownIfRead : dD := (yX4_knownIfRead, cX4_knownIfRead, 8, some .int)
abbrev D_Pg_madeBy : dD := (yX4_madeBy, cX4_madeBy, 7, some .int)
abbrev D_Pg_readBy : dD := (yX4_readBy, cX4_readBy, 7, some (.object "KnowHouse$Page"))
abbrev D_Pl_init : dD := (yX5_init, cX5_init, 1, none)
abbrev D_Pl_workOut : dD := (yX5_workOut, cX5_workOut, 4, some .boolean)
abbrev D_Pl_priceTasks : dD := (yX5_priceTasks, cX5_priceTasks, 5, none)
abbrev D_Pl_priceOf : dD := (yX5_priceOf, cX5_priceOf, 6, some .int)
abbrev D_Pl_openSlots : dD := (yX5_openSlots, cX5_openSlots, 7, some .boolean)
abbrev D_Pl_countLeast : dD := (yX5_countLeast, cX5_countLeast, 5, none)
abbrev D_Pl_hoursWith : dD := (yX5_hoursWith, cX5_hoursWith, 4, some .int)
abbrev D_Pl_filled : dD := (yX5_filled, cX5_filled, 3, some .int)
abbrev D_Pl_choose : dD := (yX5_choose, cX5_choose, 3, none)
abbrev D_Pl_firstFile : dD := (yX5_firstFile, cX5_firstFile, 4, some .int)
abbrev D_Sh_init : dD := (yX6_init, cX6_init, 1, none)
abbrev D_Sh_begin : dD := (yX6_begin, cX6_begin, 3, none)
abbrev D_Sh_holdsTexts : dD := (yX6_holdsTexts, cX6_holdsTexts, 2, some .boolean)
abbrev D_St_init : dD := (yX7_init, cX7_init, 3, none)
abbrev D_St_become : dD := (yX7_become, cX7_become, 3, none)
abbrev D_St_addPerson : dD := (yX7_addPerson, cX7_addPerson, 3, some .int)
abbrev D_St_addChange : dD := (yX7_addChange, cX7_addChange, 3, none)
abbrev D_St_isPerson : dD := (yX7_isPerson, cX7_isPerson, 2, some .boolean)
abbrev D_St_isHere : dD := (yX7_isHere, cX7_isHere, 2, some .boolean)
abbrev D_St_pageOf : dD := (yX7_pageOf, cX7_pageOf, 2, some (.object "KnowHouse$Page"))
abbrev D_St_lineOf : dD := (yX7_lineOf, cX7_lineOf, 4, some (.object "KnowHouse$Line"))
abbrev D_St_changeOf : dD := (yX7_changeOf, cX7_changeOf, 2, some (.object "KnowHouse$Change"))
abbrev D_St_isAble : dD := (yX7_isAble, cX7_isAble, 3, some .boolean)
abbrev D_St_isEnough : dD := (yX7_isEnough, cX7_isEnough, 3, some .boolean)
abbrev D_St_linesMadeBy : dD := (yX7_linesMadeBy, cX7_linesMadeBy, 7, some .int)
abbrev D_St_shareOf : dD := (yX7_shareOf, cX7_shareOf, 9, some .int)
abbrev D_Te_init : dD := (yX8_init, cX8_init, 1, none)
abbrev D_Te_gather : dD := (yX8_gather, cX8_gather, 5, none)
abbrev D_Te_sizeOf : dD := (yX8_sizeOf, cX8_sizeOf, 2, some .int)
abbrev D_Te_lostWithout : dD := (yX8_lostWithout, cX8_lostWithout, 4, some .int)
abbrev D_Te_loneAfter : dD := (yX8_loneAfter, cX8_loneAfter, 8, some .int)
abbrev D_Te_fewest : dD := (yX8_fewest, cX8_fewest, 4, some .int)
abbrev D_Te_meetsAll : dD := (yX8_meetsAll, cX8_meetsAll, 6, some .boolean)
abbrev D_Te_isAhead : dD := (yX8_isAhead, cX8_isAhead, 3, some .boolean)
abbrev D_C_init : dD := (yX9_init, cX9_init, 2, none)
abbrev D_C_person : dD := (yX9_person, cX9_person, 2, some .int)
abbrev D_C_here : dD := (yX9_here, cX9_here, 4, some .int)
abbrev D_C_day : dD := (yX9_day, cX9_day, 2, some .int)
abbrev D_C_share : dD := (yX9_share, cX9_share, 3, some .int)
abbrev D_C_text : dD := (yX9_text, cX9_text, 2, some .int)
abbrev D_C_wipe : dD := (yX9_wipe, cX9_wipe, 2, some .int)
abbrev D_C_change : dD := (yX9_change, cX9_change, 8, some .int)
abbrev D_C_back : dD := (yX9_back, cX9_back, 5, some .int)
abbrev D_C_read : dD := (yX9_read, cX9_read, 6, some .int)
abbrev D_C_image : dD := (yX9_image, cX9_image, 1, some .int)
abbrev D_C_restore : dD := (yX9_restore, cX9_restore, 1, some .int)
abbrev D_C_lines : dD := (yX9_lines, cX9_lines, 3, some .int)
abbrev D_C_line : dD := (yX9_line, cX9_line, 5, some .int)
abbrev D_C_mark : dD := (yX9_mark, cX9_mark, 6, some .int)
abbrev D_C_changeTold : dD := (yX9_changeTold, cX9_changeTold, 4, some .int)
abbrev D_C_points : dD := (yX9_points, cX9_points, 5, some .int)
abbrev D_C_knows : dD := (yX9_knows, cX9_knows, 4, some .int)
abbrev D_C_able : dD := (yX9_able, cX9_able, 4, some .int)
abbrev D_C_lost : dD := (yX9_lost, cX9_lost, 2, some .int)
abbrev D_C_lone : dD := (yX9_lone, cX9_lone, 4, some .int)
abbrev D_C_cover : dD := (yX9_cover, cX9_cover, 1, some .int)
abbrev D_C_plan : dD := (yX9_plan, cX9_plan, 3, some .int)
abbrev D_C_sum : dD := (yX9_sum, cX9_sum, 5, some .int)
abbrev D_C_count : dD := (yX9_count, cX9_count, 2, some .int)
abbrev D_C_act : dD := (yX9_act, cX9_act, 5, some .int)
abbrev D_C_trace : dD := (yX9_trace, cX9_trace, 2, some .int)
abbrev D_C_sheet : dD := (yX9_sheet, cX9_sheet, 5, some .int)
abbrev D_C_cell : dD := (yX9_cell, cX9_cell, 5, some .int)
abbrev D_C_come : dD := (yX9_come, cX9_come, 4, some .int)
abbrev D_C_forge : dD := (yX9_forge, cX9_forge, 4, some .int)
abbrev D_C_status : dD := (yX9_status, cX9_status, 1, some .int)
abbrev D_C_done : dD := (yX9_done, cX9_done, 2, some .int)
abbrev D_C_refused : dD := (yX9_refused, cX9_refused, 2, some .int)
abbrev D_C_sheetOf : dD := (yX9_sheetOf, cX9_sheetOf, 2, some (.object "KnowHouse$Sheet"))
abbrev D_C_countLone : dD := (yX9_countLone, cX9_countLone, 3, some .int)
abbrev D_C_takeForKind : dD := (yX9_takeForKind, cX9_takeForKind, 3, some .int)
abbrev D_C_takeNumber : dD := (yX9_takeNumber, cX9_takeNumber, 3, some .int)
abbrev D_C_copyNumbers : dD := (yX9_copyNumbers, cX9_copyNumbers, 5, some .int)
abbrev D_C_putAmongFormed : dD := (yX9_putAmongFormed, cX9_putAmongFormed, 2, some .int)
abbrev D_C_isText : dD := (yX9_isText, cX9_isText, 1, some .boolean)
abbrev D_C_isUnder : dD := (yX9_isUnder, cX9_isUnder, 4, some .boolean)
abbrev D_R_init : dD := (yX10_init, cX10_init, 1, none)
abbrev D_R_isIn : dD := (yX10_isIn, cX10_isIn, 6, some .boolean)
abbrev D_R_refused : dD := (yX10_refused, cX10_refused, 2, some .int)
abbrev D_R_done : dD := (yX10_done, cX10_done, 2, some .int)
abbrev D_R_isPerson : dD := (yX10_isPerson, cX10_isPerson, 2, some .boolean)
abbrev D_R_isFile : dD := (yX10_isFile, cX10_isFile, 1, some .boolean)
abbrev D_R_isLine : dD := (yX10_isLine, cX10_isLine, 3, some .boolean)
abbrev D_R_isChange : dD := (yX10_isChange, cX10_isChange, 2, some .boolean)
abbrev D_R_isHere : dD := (yX10_isHere, cX10_isHere, 2, some .boolean)
abbrev D_R_person : dD := (yX10_person, cX10_person, 3, some .int)
abbrev D_R_here : dD := (yX10_here, cX10_here, 4, some .int)
abbrev D_R_day : dD := (yX10_day, cX10_day, 2, some .int)
abbrev D_R_share : dD := (yX10_share, cX10_share, 3, some .int)
abbrev D_R_text : dD := (yX10_text, cX10_text, 2, some .int)
abbrev D_R_wipe : dD := (yX10_wipe, cX10_wipe, 2, some .int)
abbrev D_R_areAlike : dD := (yX10_areAlike, cX10_areAlike, 4, some .boolean)
abbrev D_R_textAt : dD := (yX10_textAt, cX10_textAt, 3, some .int)
abbrev D_R_pairs : dD := (yX10_pairs, cX10_pairs, 8, none)
abbrev D_R_isTaken : dD := (yX10_isTaken, cX10_isTaken, 5, some .boolean)
abbrev D_R_moves : dD := (yX10_moves, cX10_moves, 4, none)
abbrev D_R_comes : dD := (yX10_comes, cX10_comes, 7, some .int)
abbrev D_R_marks : dD := (yX10_marks, cX10_marks, 7, none)
abbrev D_R_change : dD := (yX10_change, cX10_change, 11, some .int)
abbrev D_R_back : dD := (yX10_back, cX10_back, 6, some .int)
abbrev D_R_read : dD := (yX10_read, cX10_read, 6, some .int)
abbrev D_R_keeps : dD := (yX10_keeps, cX10_keeps, 4, none)
abbrev D_R_keepsAll : dD := (yX10_keepsAll, cX10_keepsAll, 2, none)
abbrev D_R_image : dD := (yX10_image, cX10_image, 1, some .int)
abbrev D_R_restore : dD := (yX10_restore, cX10_restore, 1, some .int)
abbrev D_R_lines : dD := (yX10_lines, cX10_lines, 2, some .int)
abbrev D_R_line : dD := (yX10_line, cX10_line, 4, some .int)
abbrev D_R_mark : dD := (yX10_mark, cX10_mark, 5, some .int)
abbrev D_R_madeBy : dD := (yX10_madeBy, cX10_madeBy, 5, some .int)
abbrev D_R_changeTold : dD := (yX10_changeTold, cX10_changeTold, 3, some .int)
abbrev D_R_pointsFrom : dD := (yX10_pointsFrom, cX10_pointsFrom, 10, some .int)
abbrev D_R_points : dD := (yX10_points, cX10_points, 4, some .int)
abbrev D_R_known : dD := (yX10_known, cX10_known, 5, some .int)
abbrev D_R_knows : dD := (yX10_knows, cX10_knows, 3, some .int)
abbrev D_R_does : dD := (yX10_does, cX10_does, 3, some .boolean)
abbrev D_R_isAble : dD := (yX10_isAble, cX10_isAble, 3, some .boolean)
abbrev D_R_able : dD := (yX10_able, cX10_able, 3, some .int)
abbrev D_R_findAbles : dD := (yX10_findAbles, cX10_findAbles, 3, none)
abbrev D_R_lostBy : dD := (yX10_lostBy, cX10_lostBy, 4, some .int)
abbrev D_R_lost : dD := (yX10_lost, cX10_lost, 2, some .int)
abbrev D_R_bits : dD := (yX10_bits, cX10_bits, 3, some .int)
abbrev D_R_isLone : dD := (yX10_isLone, cX10_isLone, 4, some .boolean)
abbrev D_R_loneAt : dD := (yX10_loneAt, cX10_loneAt, 4, some .int)
abbrev D_R_lone : dD := (yX10_lone, cX10_lone, 2, some .int)
abbrev D_R_cover : dD := (yX10_cover, cX10_cover, 3, some .int)
abbrev D_R_covers : dD := (yX10_covers, cX10_covers, 4, some .boolean)
abbrev D_R_findTasks : dD := (yX10_findTasks, cX10_findTasks, 3, none)
abbrev D_R_taskOf : dD := (yX10_taskOf, cX10_taskOf, 6, some .int)
abbrev D_R_lacking : dD := (yX10_lacking, cX10_lacking, 3, some .int)
abbrev D_R_begins : dD := (yX10_begins, cX10_begins, 9, some .int)
abbrev D_R_plan : dD := (yX10_plan, cX10_plan, 9, some .int)
abbrev D_R_sum : dD := (yX10_sum, cX10_sum, 8, some .int)
abbrev D_R_count : dD := (yX10_count, cX10_count, 3, some .int)
abbrev D_R_notes : dD := (yX10_notes, cX10_notes, 2, none)
abbrev D_R_plainWrite : dD := (yX10_plainWrite, cX10_plainWrite, 3, some .int)
abbrev D_R_formedWrite : dD := (yX10_formedWrite, cX10_formedWrite, 3, some .int)
abbrev D_R_write : dD := (yX10_write, cX10_write, 3, some .int)
abbrev D_R_plainMove : dD := (yX10_plainMove, cX10_plainMove, 3, some .int)
abbrev D_R_move : dD := (yX10_move, cX10_move, 4, some .int)
abbrev D_R_plainKnow : dD := (yX10_plainKnow, cX10_plainKnow, 3, some .int)
abbrev D_R_know : dD := (yX10_know, cX10_know, 3, some .int)
abbrev D_R_plainFade : dD := (yX10_plainFade, cX10_plainFade, 4, some .int)
abbrev D_R_fade : dD := (yX10_fade, cX10_fade, 4, some .int)
abbrev D_R_act : dD := (yX10_act, cX10_act, 4, some .int)
abbrev D_R_trace : dD := (yX10_trace, cX10_trace, 2, some .int)
abbrev D_R_sheet : dD := (yX10_sheet, cX10_sheet, 5, some .int)
abbrev D_R_byteOf : dD := (yX10_byteOf, cX10_byteOf, 2, some .int)
abbrev D_R_cell : dD := (yX10_cell, cX10_cell, 4, some .int)
abbrev D_R_come : dD := (yX10_come, cX10_come, 5, some .int)
abbrev D_R_modulo : dD := (yX10_modulo, cX10_modulo, 2, some .int)
abbrev D_R_forge : dD := (yX10_forge, cX10_forge, 8, some .int)
abbrev D_R_copied : dD := (yX10_copied, cX10_copied, 5, some .int)
abbrev D_R_status : dD := (yX10_status, cX10_status, 1, some .int)
abbrev D_J_lowestOneBit : dD := (yJ6_lowestOneBit_0f7a4, cJ6_lowestOneBit_0f7a4, 1, some .int)
abbrev D_J_bitCount : dD := (yJ6_bitCount_0f7a4, cJ6_bitCount_0f7a4, 1, some .int)
abbrev D_J_floorMod : dD := (yJ9_floorMod_7cf53, cJ9_floorMod_7cf53, 3, some .int)
abbrev D_J_max : dD := (yJ9_max_7cf53, cJ9_max_7cf53, 2, some .int)
abbrev D_J_min : dD := (yJ9_min_7cf53, cJ9_min_7cf53, 2, some .int)
abbrev D_J_fill : dD := (yJ7_fill_53178, cJ7_fill_53178, 4, none)
abbrev D_W_law : dD := (yL_law, cL_law, 4, some .boolean)
theorem op_A_init : okP D_A_init 0 := ⟨⟨by decide +kernel, by decide +kernel, by decide +kernel⟩, by decide +kernel⟩
theorem op_A_perform : okP D_A_perform 3 := ⟨⟨by decide +kernel, by decide +kernel, by decide +kernel⟩, by decide +kernel⟩
theorem op_A_run : okP D_A_run 6 := ⟨⟨by decide +kernel, by decide +kernel, by decide +kernel⟩, by decide +kernel⟩
theorem op_A_kindWithBody : okP D_A_kindWithBody 2 := ⟨⟨by decide +kernel, by decide +kernel, by decide +kernel⟩, by decide +kernel⟩
theorem op_A_begin : okP D_A_begin 1 := ⟨⟨by decide +kernel, by decide +kernel, by decide +kernel⟩, by decide +kernel⟩
theorem op_Ch_init : okP D_Ch_init 5 := ⟨⟨by decide +kernel, by decide +kernel, by decide +kernel⟩, by decide +kernel⟩
theorem op_Ch_firstMarks : okP D_Ch_firstMarks 0 := ⟨⟨by decide +kernel, by decide +kernel, by decide +kernel⟩, by decide +kernel⟩
theorem op_Ch_shareOf : okP D_Ch_shareOf 1 := ⟨⟨by decide +kernel, by decide +kernel, by decide +kernel⟩, by decide +kernel⟩
theorem op_Kp_init : okP D_Kp_init 0 := ⟨⟨by decide +kernel, by decide +kernel, by decide +kernel⟩, by decide +kernel⟩
theorem op_Kp_after : okP D_Kp_after 3 := ⟨⟨by decide +kernel, by decide +kernel, by decide +kernel⟩, by decide +kernel⟩
theorem op_Kp_isAlike : okP D_Kp_isAlike 2 := ⟨⟨by decide +kernel, by decide +kernel, by decide +kernel⟩, by decide +kernel⟩
theorem op_Kp_wordingOf : okP D_Kp_wordingOf 1 := ⟨⟨by decide +kernel, by decide +kernel, by decide +kernel⟩, by decide +kernel⟩
theorem op_Kp_countMost : okP D_Kp_countMost 0 := ⟨⟨by decide +kernel, by decide +kernel, by decide +kernel⟩, by decide +kernel⟩
theorem op_Kp_pairInOrder : okP D_Kp_pairInOrder 0 := ⟨⟨by decide +kernel, by decide +kernel, by decide +kernel⟩, by decide +kernel⟩
theorem op_Kp_leastOld : okP D_Kp_leastOld 2 := ⟨⟨by decide +kernel, by decide +kernel, by decide +kernel⟩, by decide +kernel⟩
theorem op_Kp_pairMoved : okP D_Kp_pairMoved 0 := ⟨⟨by decide +kernel, by decide +kernel, by decide +kernel⟩, by decide +kernel⟩
theorem op_Kp_firstLeftOf : okP D_Kp_firstLeftOf 1 := ⟨⟨by decide +kernel, by decide +kernel, by decide +kernel⟩, by decide +kernel⟩
theorem op_Kp_newPage : okP D_Kp_newPage 1 := ⟨⟨by decide +kernel, by decide +kernel, by decide +kernel⟩, by decide +kernel⟩
theorem op_Li_init : okP D_Li_init 3 := ⟨⟨by decide +kernel, by decide +kernel, by decide +kernel⟩, by decide +kernel⟩
theorem op_Li_markCount : okP D_Li_markCount 0 := ⟨⟨by decide +kernel, by decide +kernel, by decide +kernel⟩, by decide +kernel⟩
theorem op_Li_markTold : okP D_Li_markTold 2 := ⟨⟨by decide +kernel, by decide +kernel, by decide +kernel⟩, by decide +kernel⟩
theorem op_Li_pointsOf : okP D_Li_pointsOf 3 := ⟨⟨by decide +kernel, by decide +kernel, by decide +kernel⟩, by decide +kernel⟩
theorem op_Li_pointsIfRead : okP D_Li_pointsIfRead 2 := ⟨⟨by decide +kernel, by decide +kernel, by decide +kernel⟩, by decide +kernel⟩
theorem op_Li_withText : okP D_Li_withText 1 := ⟨⟨by decide +kernel, by decide +kernel, by decide +kernel⟩, by decide +kernel⟩
theorem op_Li_readBy : okP D_Li_readBy 2 := ⟨⟨by decide +kernel, by decide +kernel, by decide +kernel⟩, by decide +kernel⟩
theorem op_Li_marksToGo : okP D_Li_marksToGo 0 := ⟨⟨by decide +kernel, by decide +kernel, by decide +kernel⟩, by decide +kernel⟩
theorem op_Pg_init : okP D_Pg_init 1 := ⟨⟨by decide +kernel, by decide +kernel, by decide +kernel⟩, by decide +kernel⟩
theorem op_Pg_size : okP D_Pg_size 0 := ⟨⟨by decide +kernel, by decide +kernel, by decide +kernel⟩, by decide +kernel⟩
theorem op_Pg_rowAt : okP D_Pg_rowAt 1 := ⟨⟨by decide +kernel, by decide +kernel, by decide +kernel⟩, by decide +kernel⟩
theorem op_Pg_knownBy : okP D_Pg_knownBy 2 := ⟨⟨by decide +kernel, by decide +kernel, by decide +kernel⟩, by decide +kernel⟩
theorem op_Pg_knownIfRead : okP D_Pg_knownIfRead 2 := ⟨⟨by decide +kernel, by decide +kernel, by decide +kernel⟩, by decide +kernel⟩
theorem op_Pg_madeBy : okP D_Pg_madeBy 1 := ⟨⟨by decide +kernel, by decide +kernel, by decide +kernel⟩, by decide +kernel⟩
theorem op_Pg_readBy : okP D_Pg_readBy 4 := ⟨⟨by decide +kernel, by decide +kernel, by decide +kernel⟩, by decide +kernel⟩
theorem op_Pl_init : okP D_Pl_init 0 := ⟨⟨by decide +kernel, by decide +kernel, by decide +kernel⟩, by decide +kernel⟩
theorem op_Pl_workOut : okP D_Pl_workOut 3 := ⟨⟨by decide +kernel, by decide +kernel, by decide +kernel⟩, by decide +kernel⟩
theorem op_Pl_priceTasks : okP D_Pl_priceTasks 1 := ⟨⟨by decide +kernel, by decide +kernel, by decide +kernel⟩, by decide +kernel⟩
theorem op_Pl_priceOf : okP D_Pl_priceOf 3 := ⟨⟨by decide +kernel, by decide +kernel, by decide +kernel⟩, by decide +kernel⟩
theorem op_Pl_openSlots : okP D_Pl_openSlots 3 := ⟨⟨by decide +kernel, by decide +kernel, by decide +kernel⟩, by decide +kernel⟩
theorem op_Pl_countLeast : okP D_Pl_countLeast 0 := ⟨⟨by decide +kernel, by decide +kernel, by decide +kernel⟩, by decide +kernel⟩
theorem op_Pl_hoursWith : okP D_Pl_hoursWith 3 := ⟨⟨by decide +kernel, by decide +kernel, by decide +kernel⟩, by decide +kernel⟩
theorem op_Pl_filled : okP D_Pl_filled 2 := ⟨⟨by decide +kernel, by decide +kernel, by decide +kernel⟩, by decide +kernel⟩
theorem op_Pl_choose : okP D_Pl_choose 0 := ⟨⟨by decide +kernel, by decide +kernel, by decide +kernel⟩, by decide +kernel⟩
theorem op_Pl_firstFile : okP D_Pl_firstFile 2 := ⟨⟨by decide +kernel, by decide +kernel, by decide +kernel⟩, by decide +kernel⟩
theorem op_Sh_init : okP D_Sh_init 0 := ⟨⟨by decide +kernel, by decide +kernel, by decide +kernel⟩, by decide +kernel⟩
theorem op_Sh_begin : okP D_Sh_begin 2 := ⟨⟨by decide +kernel, by decide +kernel, by decide +kernel⟩, by decide +kernel⟩
theorem op_Sh_holdsTexts : okP D_Sh_holdsTexts 0 := ⟨⟨by decide +kernel, by decide +kernel, by decide +kernel⟩, by decide +kernel⟩
theorem op_St_init : okP D_St_init 0 := ⟨⟨by decide +kernel, by decide +kernel, by decide +kernel⟩, by decide +kernel⟩
theorem op_St_become : okP D_St_become 1 := ⟨⟨by decide +kernel, by decide +kernel, by decide +kernel⟩, by decide +kernel⟩
theorem op_St_addPerson : okP D_St_addPerson 1 := ⟨⟨by decide +kernel, by decide +kernel, by decide +kernel⟩, by decide +kernel⟩
theorem op_St_addChange : okP D_St_addChange 2 := ⟨⟨by decide +kernel, by decide +kernel, by decide +kernel⟩, by decide +kernel⟩
theorem op_St_isPerson : okP D_St_isPerson 1 := ⟨⟨by decide +kernel, by decide +kernel, by decide +kernel⟩, by decide +kernel⟩
theorem op_St_isHere : okP D_St_isHere 1 := ⟨⟨by decide +kernel, by decide +kernel, by decide +kernel⟩, by decide +kernel⟩
theorem op_St_pageOf : okP D_St_pageOf 1 := ⟨⟨by decide +kernel, by decide +kernel, by decide +kernel⟩, by decide +kernel⟩
theorem op_St_lineOf : okP D_St_lineOf 2 := ⟨⟨by decide +kernel, by decide +kernel, by decide +kernel⟩, by decide +kernel⟩
theorem op_St_changeOf : okP D_St_changeOf 1 := ⟨⟨by decide +kernel, by decide +kernel, by decide +kernel⟩, by decide +kernel⟩
theorem op_St_isAble : okP D_St_isAble 2 := ⟨⟨by decide +kernel, by decide +kernel, by decide +kernel⟩, by decide +kernel⟩
theorem op_St_isEnough : okP D_St_isEnough 2 := ⟨⟨by decide +kernel, by decide +kernel, by decide +kernel⟩, by decide +kernel⟩
theorem op_St_linesMadeBy : okP D_St_linesMadeBy 1 := ⟨⟨by decide +kernel, by decide +kernel, by decide +kernel⟩, by decide +kernel⟩
theorem op_St_shareOf : okP D_St_shareOf 2 := ⟨⟨by decide +kernel, by decide +kernel, by decide +kernel⟩, by decide +kernel⟩
theorem op_Te_init : okP D_Te_init 0 := ⟨⟨by decide +kernel, by decide +kernel, by decide +kernel⟩, by decide +kernel⟩
theorem op_Te_gather : okP D_Te_gather 1 := ⟨⟨by decide +kernel, by decide +kernel, by decide +kernel⟩, by decide +kernel⟩
theorem op_Te_sizeOf : okP D_Te_sizeOf 1 := ⟨⟨by decide +kernel, by decide +kernel, by decide +kernel⟩, by decide +kernel⟩
theorem op_Te_lostWithout : okP D_Te_lostWithout 1 := ⟨⟨by decide +kernel, by decide +kernel, by decide +kernel⟩, by decide +kernel⟩
theorem op_Te_loneAfter : okP D_Te_loneAfter 1 := ⟨⟨by decide +kernel, by decide +kernel, by decide +kernel⟩, by decide +kernel⟩
theorem op_Te_fewest : okP D_Te_fewest 1 := ⟨⟨by decide +kernel, by decide +kernel, by decide +kernel⟩, by decide +kernel⟩
theorem op_Te_meetsAll : okP D_Te_meetsAll 1 := ⟨⟨by decide +kernel, by decide +kernel, by decide +kernel⟩, by decide +kernel⟩
theorem op_Te_isAhead : okP D_Te_isAhead 2 := ⟨⟨by decide +kernel, by decide +kernel, by decide +kernel⟩, by decide +kernel⟩
theorem op_C_init : okP D_C_init 0 := ⟨⟨by decide +kernel, by decide +kernel, by decide +kernel⟩, by decide +kernel⟩
theorem op_C_person : okP D_C_person 1 := ⟨⟨by decide +kernel, by decide +kernel, by decide +kernel⟩, by decide +kernel⟩
theorem op_C_here : okP D_C_here 2 := ⟨⟨by decide +kernel, by decide +kernel, by decide +kernel⟩, by decide +kernel⟩
theorem op_C_day : okP D_C_day 1 := ⟨⟨by decide +kernel, by decide +kernel, by decide +kernel⟩, by decide +kernel⟩
theorem op_C_share : okP D_C_share 1 := ⟨⟨by decide +kernel, by decide +kernel, by decide +kernel⟩, by decide +kernel⟩
theorem op_C_text : okP D_C_text 1 := ⟨⟨by decide +kernel, by decide +kernel, by decide +kernel⟩, by decide +kernel⟩
theorem op_C_wipe : okP D_C_wipe 0 := ⟨⟨by decide +kernel, by decide +kernel, by decide +kernel⟩, by decide +kernel⟩
theorem op_C_change : okP D_C_change 4 := ⟨⟨by decide +kernel, by decide +kernel, by decide +kernel⟩, by decide +kernel⟩
theorem op_C_back : okP D_C_back 2 := ⟨⟨by decide +kernel, by decide +kernel, by decide +kernel⟩, by decide +kernel⟩
theorem op_C_read : okP D_C_read 4 := ⟨⟨by decide +kernel, by decide +kernel, by decide +kernel⟩, by decide +kernel⟩
theorem op_C_image : okP D_C_image 0 := ⟨⟨by decide +kernel, by decide +kernel, by decide +kernel⟩, by decide +kernel⟩
theorem op_C_restore : okP D_C_restore 0 := ⟨⟨by decide +kernel, by decide +kernel, by decide +kernel⟩, by decide +kernel⟩
theorem op_C_lines : okP D_C_lines 1 := ⟨⟨by decide +kernel, by decide +kernel, by decide +kernel⟩, by decide +kernel⟩
theorem op_C_line : okP D_C_line 3 := ⟨⟨by decide +kernel, by decide +kernel, by decide +kernel⟩, by decide +kernel⟩
theorem op_C_mark : okP D_C_mark 4 := ⟨⟨by decide +kernel, by decide +kernel, by decide +kernel⟩, by decide +kernel⟩
theorem op_C_changeTold : okP D_C_changeTold 2 := ⟨⟨by decide +kernel, by decide +kernel, by decide +kernel⟩, by decide +kernel⟩
theorem op_C_points : okP D_C_points 3 := ⟨⟨by decide +kernel, by decide +kernel, by decide +kernel⟩, by decide +kernel⟩
theorem op_C_knows : okP D_C_knows 2 := ⟨⟨by decide +kernel, by decide +kernel, by decide +kernel⟩, by decide +kernel⟩
theorem op_C_able : okP D_C_able 2 := ⟨⟨by decide +kernel, by decide +kernel, by decide +kernel⟩, by decide +kernel⟩
theorem op_C_lost : okP D_C_lost 1 := ⟨⟨by decide +kernel, by decide +kernel, by decide +kernel⟩, by decide +kernel⟩
theorem op_C_lone : okP D_C_lone 1 := ⟨⟨by decide +kernel, by decide +kernel, by decide +kernel⟩, by decide +kernel⟩
theorem op_C_cover : okP D_C_cover 0 := ⟨⟨by decide +kernel, by decide +kernel, by decide +kernel⟩, by decide +kernel⟩
theorem op_C_plan : okP D_C_plan 2 := ⟨⟨by decide +kernel, by decide +kernel, by decide +kernel⟩, by decide +kernel⟩
theorem op_C_sum : okP D_C_sum 2 := ⟨⟨by decide +kernel, by decide +kernel, by decide +kernel⟩, by decide +kernel⟩
theorem op_C_count : okP D_C_count 1 := ⟨⟨by decide +kernel, by decide +kernel, by decide +kernel⟩, by decide +kernel⟩
theorem op_C_act : okP D_C_act 3 := ⟨⟨by decide +kernel, by decide +kernel, by decide +kernel⟩, by decide +kernel⟩
theorem op_C_trace : okP D_C_trace 1 := ⟨⟨by decide +kernel, by decide +kernel, by decide +kernel⟩, by decide +kernel⟩
theorem op_C_sheet : okP D_C_sheet 3 := ⟨⟨by decide +kernel, by decide +kernel, by decide +kernel⟩, by decide +kernel⟩
theorem op_C_cell : okP D_C_cell 3 := ⟨⟨by decide +kernel, by decide +kernel, by decide +kernel⟩, by decide +kernel⟩
theorem op_C_come : okP D_C_come 2 := ⟨⟨by decide +kernel, by decide +kernel, by decide +kernel⟩, by decide +kernel⟩
theorem op_C_forge : okP D_C_forge 3 := ⟨⟨by decide +kernel, by decide +kernel, by decide +kernel⟩, by decide +kernel⟩
theorem op_C_status : okP D_C_status 0 := ⟨⟨by decide +kernel, by decide +kernel, by decide +kernel⟩, by decide +kernel⟩
theorem op_C_done : okP D_C_done 1 := ⟨⟨by decide +kernel, by decide +kernel, by decide +kernel⟩, by decide +kernel⟩
theorem op_C_refused : okP D_C_refused 1 := ⟨⟨by decide +kernel, by decide +kernel, by decide +kernel⟩, by decide +kernel⟩
theorem op_C_sheetOf : okP D_C_sheetOf 1 := ⟨⟨by decide +kernel, by decide +kernel, by decide +kernel⟩, by decide +kernel⟩
theorem op_C_countLone : okP D_C_countLone 0 := ⟨⟨by decide +kernel, by decide +kernel, by decide +kernel⟩, by decide +kernel⟩
theorem op_C_takeForKind : okP D_C_takeForKind 2 := ⟨⟨by decide +kernel, by decide +kernel, by decide +kernel⟩, by decide +kernel⟩
theorem op_C_takeNumber : okP D_C_takeNumber 2 := ⟨⟨by decide +kernel, by decide +kernel, by decide +kernel⟩, by decide +kernel⟩
theorem op_C_copyNumbers : okP D_C_copyNumbers 2 := ⟨⟨by decide +kernel, by decide +kernel, by decide +kernel⟩, by decide +kernel⟩
theorem op_C_putAmongFormed : okP D_C_putAmongFormed 1 := ⟨⟨by decide +kernel, by decide +kernel, by decide +kernel⟩, by decide +kernel⟩
theorem op_C_isText : okP D_C_isText 1 := ⟨⟨by decide +kernel, by decide +kernel, by decide +kernel⟩, by decide +kernel⟩
theorem op_C_isUnder : okP D_C_isUnder 2 := ⟨⟨by decide +kernel, by decide +kernel, by decide +kernel⟩, by decide +kernel⟩
theorem op_R_init : okP D_R_init 0 := ⟨⟨by decide +kernel, by decide +kernel, by decide +kernel⟩, by decide +kernel⟩
theorem op_R_isIn : okP D_R_isIn 3 := ⟨⟨by decide +kernel, by decide +kernel, by decide +kernel⟩, by decide +kernel⟩
theorem op_R_refused : okP D_R_refused 1 := ⟨⟨by decide +kernel, by decide +kernel, by decide +kernel⟩, by decide +kernel⟩
theorem op_R_done : okP D_R_done 1 := ⟨⟨by decide +kernel, by decide +kernel, by decide +kernel⟩, by decide +kernel⟩
theorem op_R_isPerson : okP D_R_isPerson 1 := ⟨⟨by decide +kernel, by decide +kernel, by decide +kernel⟩, by decide +kernel⟩
theorem op_R_isFile : okP D_R_isFile 1 := ⟨⟨by decide +kernel, by decide +kernel, by decide +kernel⟩, by decide +kernel⟩
theorem op_R_isLine : okP D_R_isLine 2 := ⟨⟨by decide +kernel, by decide +kernel, by decide +kernel⟩, by decide +kernel⟩
theorem op_R_isChange : okP D_R_isChange 1 := ⟨⟨by decide +kernel, by decide +kernel, by decide +kernel⟩, by decide +kernel⟩
theorem op_R_isHere : okP D_R_isHere 1 := ⟨⟨by decide +kernel, by decide +kernel, by decide +kernel⟩, by decide +kernel⟩
theorem op_R_person : okP D_R_person 1 := ⟨⟨by decide +kernel, by decide +kernel, by decide +kernel⟩, by decide +kernel⟩
theorem op_R_here : okP D_R_here 2 := ⟨⟨by decide +kernel, by decide +kernel, by decide +kernel⟩, by decide +kernel⟩
theorem op_R_day : okP D_R_day 1 := ⟨⟨by decide +kernel, by decide +kernel, by decide +kernel⟩, by decide +kernel⟩
theorem op_R_share : okP D_R_share 1 := ⟨⟨by decide +kernel, by decide +kernel, by decide +kernel⟩, by decide +kernel⟩
theorem op_R_text : okP D_R_text 1 := ⟨⟨by decide +kernel, by decide +kernel, by decide +kernel⟩, by decide +kernel⟩
theorem op_R_wipe : okP D_R_wipe 0 := ⟨⟨by decide +kernel, by decide +kernel, by decide +kernel⟩, by decide +kernel⟩
theorem op_R_areAlike : okP D_R_areAlike 3 := ⟨⟨by decide +kernel, by decide +kernel, by decide +kernel⟩, by decide +kernel⟩
theorem op_R_textAt : okP D_R_textAt 2 := ⟨⟨by decide +kernel, by decide +kernel, by decide +kernel⟩, by decide +kernel⟩
theorem op_R_pairs : okP D_R_pairs 2 := ⟨⟨by decide +kernel, by decide +kernel, by decide +kernel⟩, by decide +kernel⟩
theorem op_R_isTaken : okP D_R_isTaken 2 := ⟨⟨by decide +kernel, by decide +kernel, by decide +kernel⟩, by decide +kernel⟩
theorem op_R_moves : okP D_R_moves 1 := ⟨⟨by decide +kernel, by decide +kernel, by decide +kernel⟩, by decide +kernel⟩
theorem op_R_comes : okP D_R_comes 4 := ⟨⟨by decide +kernel, by decide +kernel, by decide +kernel⟩, by decide +kernel⟩
theorem op_R_marks : okP D_R_marks 5 := ⟨⟨by decide +kernel, by decide +kernel, by decide +kernel⟩, by decide +kernel⟩
theorem op_R_change : okP D_R_change 4 := ⟨⟨by decide +kernel, by decide +kernel, by decide +kernel⟩, by decide +kernel⟩
theorem op_R_back : okP D_R_back 2 := ⟨⟨by decide +kernel, by decide +kernel, by decide +kernel⟩, by decide +kernel⟩
theorem op_R_read : okP D_R_read 4 := ⟨⟨by decide +kernel, by decide +kernel, by decide +kernel⟩, by decide +kernel⟩
theorem op_R_keeps : okP D_R_keeps 2 := ⟨⟨by decide +kernel, by decide +kernel, by decide +kernel⟩, by decide +kernel⟩
theorem op_R_keepsAll : okP D_R_keepsAll 1 := ⟨⟨by decide +kernel, by decide +kernel, by decide +kernel⟩, by decide +kernel⟩
theorem op_R_image : okP D_R_image 0 := ⟨⟨by decide +kernel, by decide +kernel, by decide +kernel⟩, by decide +kernel⟩
theorem op_R_restore : okP D_R_restore 0 := ⟨⟨by decide +kernel, by decide +kernel, by decide +kernel⟩, by decide +kernel⟩
theorem op_R_lines : okP D_R_lines 1 := ⟨⟨by decide +kernel, by decide +kernel, by decide +kernel⟩, by decide +kernel⟩
theorem op_R_line : okP D_R_line 3 := ⟨⟨by decide +kernel, by decide +kernel, by decide +kernel⟩, by decide +kernel⟩
theorem op_R_mark : okP D_R_mark 4 := ⟨⟨by decide +kernel, by decide +kernel, by decide +kernel⟩, by decide +kernel⟩
theorem op_R_madeBy : okP D_R_madeBy 1 := ⟨⟨by decide +kernel, by decide +kernel, by decide +kernel⟩, by decide +kernel⟩
theorem op_R_changeTold : okP D_R_changeTold 2 := ⟨⟨by decide +kernel, by decide +kernel, by decide +kernel⟩, by decide +kernel⟩
theorem op_R_pointsFrom : okP D_R_pointsFrom 4 := ⟨⟨by decide +kernel, by decide +kernel, by decide +kernel⟩, by decide +kernel⟩
theorem op_R_points : okP D_R_points 3 := ⟨⟨by decide +kernel, by decide +kernel, by decide +kernel⟩, by decide +kernel⟩
theorem op_R_known : okP D_R_known 2 := ⟨⟨by decide +kernel, by decide +kernel, by decide +kernel⟩, by decide +kernel⟩
theorem op_R_knows : okP D_R_knows 2 := ⟨⟨by decide +kernel, by decide +kernel, by decide +kernel⟩, by decide +kernel⟩
theorem op_R_does : okP D_R_does 2 := ⟨⟨by decide +kernel, by decide +kernel, by decide +kernel⟩, by decide +kernel⟩
theorem op_R_isAble : okP D_R_isAble 2 := ⟨⟨by decide +kernel, by decide +kernel, by decide +kernel⟩, by decide +kernel⟩
theorem op_R_able : okP D_R_able 2 := ⟨⟨by decide +kernel, by decide +kernel, by decide +kernel⟩, by decide +kernel⟩
theorem op_R_findAbles : okP D_R_findAbles 0 := ⟨⟨by decide +kernel, by decide +kernel, by decide +kernel⟩, by decide +kernel⟩
theorem op_R_lostBy : okP D_R_lostBy 1 := ⟨⟨by decide +kernel, by decide +kernel, by decide +kernel⟩, by decide +kernel⟩
theorem op_R_lost : okP D_R_lost 1 := ⟨⟨by decide +kernel, by decide +kernel, by decide +kernel⟩, by decide +kernel⟩
theorem op_R_bits : okP D_R_bits 1 := ⟨⟨by decide +kernel, by decide +kernel, by decide +kernel⟩, by decide +kernel⟩
theorem op_R_isLone : okP D_R_isLone 1 := ⟨⟨by decide +kernel, by decide +kernel, by decide +kernel⟩, by decide +kernel⟩
theorem op_R_loneAt : okP D_R_loneAt 1 := ⟨⟨by decide +kernel, by decide +kernel, by decide +kernel⟩, by decide +kernel⟩
theorem op_R_lone : okP D_R_lone 1 := ⟨⟨by decide +kernel, by decide +kernel, by decide +kernel⟩, by decide +kernel⟩
theorem op_R_cover : okP D_R_cover 0 := ⟨⟨by decide +kernel, by decide +kernel, by decide +kernel⟩, by decide +kernel⟩
theorem op_R_covers : okP D_R_covers 1 := ⟨⟨by decide +kernel, by decide +kernel, by decide +kernel⟩, by decide +kernel⟩
theorem op_R_findTasks : okP D_R_findTasks 0 := ⟨⟨by decide +kernel, by decide +kernel, by decide +kernel⟩, by decide +kernel⟩
theorem op_R_taskOf : okP D_R_taskOf 2 := ⟨⟨by decide +kernel, by decide +kernel, by decide +kernel⟩, by decide +kernel⟩
theorem op_R_lacking : okP D_R_lacking 2 := ⟨⟨by decide +kernel, by decide +kernel, by decide +kernel⟩, by decide +kernel⟩
theorem op_R_begins : okP D_R_begins 1 := ⟨⟨by decide +kernel, by decide +kernel, by decide +kernel⟩, by decide +kernel⟩
theorem op_R_plan : okP D_R_plan 2 := ⟨⟨by decide +kernel, by decide +kernel, by decide +kernel⟩, by decide +kernel⟩
theorem op_R_sum : okP D_R_sum 2 := ⟨⟨by decide +kernel, by decide +kernel, by decide +kernel⟩, by decide +kernel⟩
theorem op_R_count : okP D_R_count 1 := ⟨⟨by decide +kernel, by decide +kernel, by decide +kernel⟩, by decide +kernel⟩
theorem op_R_notes : okP D_R_notes 1 := ⟨⟨by decide +kernel, by decide +kernel, by decide +kernel⟩, by decide +kernel⟩
theorem op_R_plainWrite : okP D_R_plainWrite 2 := ⟨⟨by decide +kernel, by decide +kernel, by decide +kernel⟩, by decide +kernel⟩
theorem op_R_formedWrite : okP D_R_formedWrite 2 := ⟨⟨by decide +kernel, by decide +kernel, by decide +kernel⟩, by decide +kernel⟩
theorem op_R_write : okP D_R_write 2 := ⟨⟨by decide +kernel, by decide +kernel, by decide +kernel⟩, by decide +kernel⟩
theorem op_R_plainMove : okP D_R_plainMove 2 := ⟨⟨by decide +kernel, by decide +kernel, by decide +kernel⟩, by decide +kernel⟩
theorem op_R_move : okP D_R_move 2 := ⟨⟨by decide +kernel, by decide +kernel, by decide +kernel⟩, by decide +kernel⟩
theorem op_R_plainKnow : okP D_R_plainKnow 2 := ⟨⟨by decide +kernel, by decide +kernel, by decide +kernel⟩, by decide +kernel⟩
theorem op_R_know : okP D_R_know 2 := ⟨⟨by decide +kernel, by decide +kernel, by decide +kernel⟩, by decide +kernel⟩
theorem op_R_plainFade : okP D_R_plainFade 2 := ⟨⟨by decide +kernel, by decide +kernel, by decide +kernel⟩, by decide +kernel⟩
theorem op_R_fade : okP D_R_fade 2 := ⟨⟨by decide +kernel, by decide +kernel, by decide +kernel⟩, by decide +kernel⟩
theorem op_R_act : okP D_R_act 3 := ⟨⟨by decide +kernel, by decide +kernel, by decide +kernel⟩, by decide +kernel⟩
theorem op_R_trace : okP D_R_trace 1 := ⟨⟨by decide +kernel, by decide +kernel, by decide +kernel⟩, by decide +kernel⟩
theorem op_R_sheet : okP D_R_sheet 3 := ⟨⟨by decide +kernel, by decide +kernel, by decide +kernel⟩, by decide +kernel⟩
theorem op_R_byteOf : okP D_R_byteOf 1 := ⟨⟨by decide +kernel, by decide +kernel, by decide +kernel⟩, by decide +kernel⟩
theorem op_R_cell : okP D_R_cell 3 := ⟨⟨by decide +kernel, by decide +kernel, by decide +kernel⟩, by decide +kernel⟩
theorem op_R_come : okP D_R_come 2 := ⟨⟨by decide +kernel, by decide +kernel, by decide +kernel⟩, by decide +kernel⟩
theorem op_R_modulo : okP D_R_modulo 2 := ⟨⟨by decide +kernel, by decide +kernel, by decide +kernel⟩, by decide +kernel⟩
theorem op_R_forge : okP D_R_forge 3 := ⟨⟨by decide +kernel, by decide +kernel, by decide +kernel⟩, by decide +kernel⟩
theorem op_R_copied : okP D_R_copied 2 := ⟨⟨by decide +kernel, by decide +kernel, by decide +kernel⟩, by decide +kernel⟩
theorem op_R_status : okP D_R_status 0 := ⟨⟨by decide +kernel, by decide +kernel, by decide +kernel⟩, by decide +kernel⟩
theorem op_J_lowestOneBit : okP D_J_lowestOneBit 1 := ⟨⟨by decide +kernel, by decide +kernel, by decide +kernel⟩, by decide +kernel⟩
theorem op_J_bitCount : okP D_J_bitCount 1 := ⟨⟨by decide +kernel, by decide +kernel, by decide +kernel⟩, by decide +kernel⟩
theorem op_J_floorMod : okP D_J_floorMod 2 := ⟨⟨by decide +kernel, by decide +kernel, by decide +kernel⟩, by decide +kernel⟩
theorem op_J_max : okP D_J_max 2 := ⟨⟨by decide +kernel, by decide +kernel, by decide +kernel⟩, by decide +kernel⟩
theorem op_J_min : okP D_J_min 2 := ⟨⟨by decide +kernel, by decide +kernel, by decide +kernel⟩, by decide +kernel⟩
theorem op_J_fill : okP D_J_fill 2 := ⟨⟨by decide +kernel, by decide +kernel, by decide +kernel⟩, by decide +kernel⟩
theorem op_W_law : okP D_W_law 1 := ⟨⟨by decide +kernel, by decide +kernel, by decide +kernel⟩, by decide +kernel⟩
def mt (M : Nat) : dD := ([D_A_init, D_A_perform, D_A_run, D_A_kindWithBody, D_A_begin, D_Ch_init, D_Ch_firstMarks, D_Ch_shareOf, D_Kp_init, D_Kp_after, D_Kp_isAlike, D_Kp_wordingOf, D_Kp_countMost, D_Kp_pairInOrder, D_Kp_leastOld, D_Kp_pairMoved, D_Kp_firstLeftOf, D_Kp_newPage, D_Li_init, D_Li_markCount, D_Li_markTold, D_Li_pointsOf, D_Li_pointsIfRead, D_Li_withText, D_Li_readBy, D_Li_marksToGo, D_Pg_init, D_Pg_size, D_Pg_rowAt, D_Pg_knownBy, D_Pg_knownIfRead, D_Pg_madeBy, D_Pg_readBy, D_Pl_init, D_Pl_workOut, D_Pl_priceTasks, D_Pl_priceOf, D_Pl_openSlots, D_Pl_countLeast, D_Pl_hoursWith, D_Pl_filled, D_Pl_choose, D_Pl_firstFile, D_Sh_init, D_Sh_begin, D_Sh_holdsTexts, D_St_init, D_St_become, D_St_addPerson, D_St_addChange, D_St_isPerson, D_St_isHere, D_St_pageOf, D_St_lineOf, D_St_changeOf, D_St_isAble, D_St_isEnough, D_St_linesMadeBy, D_St_shareOf, D_Te_init, D_Te_gather, D_Te_sizeOf, D_Te_lostWithout, D_Te_loneAfter, D_Te_fewest, D_Te_meetsAll, D_Te_isAhead, D_C_init, D_C_person, D_C_here, D_C_day, D_C_share, D_C_text, D_C_wipe, D_C_change, D_C_back, D_C_read, D_C_image, D_C_restore, D_C_lines, D_C_line, D_C_mark, D_C_changeTold, D_C_points, D_C_knows, D_C_able, D_C_lost, D_C_lone, D_C_cover, D_C_plan, D_C_sum, D_C_count, D_C_act, D_C_trace, D_C_sheet, D_C_cell, D_C_come, D_C_forge, D_C_status, D_C_done, D_C_refused, D_C_sheetOf, D_C_countLone, D_C_takeForKind, D_C_takeNumber, D_C_copyNumbers, D_C_putAmongFormed, D_C_isText, D_C_isUnder, D_R_init, D_R_isIn, D_R_refused, D_R_done, D_R_isPerson, D_R_isFile, D_R_isLine, D_R_isChange, D_R_isHere, D_R_person, D_R_here, D_R_day, D_R_share, D_R_text, D_R_wipe, D_R_areAlike, D_R_textAt, D_R_pairs, D_R_isTaken, D_R_moves, D_R_comes, D_R_marks, D_R_change, D_R_back, D_R_read, D_R_keeps, D_R_keepsAll, D_R_image, D_R_restore, D_R_lines, D_R_line, D_R_mark, D_R_madeBy, D_R_changeTold, D_R_pointsFrom, D_R_points, D_R_known, D_R_knows, D_R_does, D_R_isAble, D_R_able, D_R_findAbles, D_R_lostBy, D_R_lost, D_R_bits, D_R_isLone, D_R_loneAt, D_R_lone, D_R_cover, D_R_covers, D_R_findTasks, D_R_taskOf, D_R_lacking, D_R_begins, D_R_plan, D_R_sum, D_R_count, D_R_notes, D_R_plainWrite, D_R_formedWrite, D_R_write, D_R_plainMove, D_R_move, D_R_plainKnow, D_R_know, D_R_plainFade, D_R_fade, D_R_act, D_R_trace, D_R_sheet, D_R_byteOf, D_R_cell, D_R_come, D_R_modulo, D_R_forge, D_R_copied, D_R_status, D_J_lowestOneBit, D_J_bitCount, D_J_floorMod, D_J_max, D_J_min, D_J_fill, D_W_law] : List dD).getD M D_W_law
theorem lkl_mem : ∀ (L : List (Nat × aIn)) (pc : Nat) (i : aIn), lkl L pc = some i → (pc, i) ∈ L := by
  intro L
  induction L with
  | nil => intro pc i h; cases h
  | cons q t ih =>
    intro pc i h
    obtain ⟨a, j⟩ := q
    unfold lkl at h
    cases e : Nat.beq a pc with
    | true =>
      rw [e] at h
      simp only [cond_true] at h
      cases h
      rw [Nat.eq_of_beq_eq_true e]
      exact List.mem_cons_self
    | false =>
      rw [e] at h
      exact List.mem_cons_of_mem _ (ih pc i h)
theorem lkl_ok {P : Nat → aIn → Prop} {L : List (Nat × aIn)} (h : ∀ q ∈ L, P q.1 q.2) : ∀ (pc : Nat) (i : aIn), lkl L pc = some i → P pc i := fun pc i e => h (pc, i) (lkl_mem L pc i e)
theorem lkb_ok {P : Nat → aIn → Prop} {A B : aK} {n : Nat} (ha : ∀ (pc : Nat) (i : aIn), A pc = some i → P pc i) (hb : ∀ (pc : Nat) (i : aIn), B pc = some i → P pc i) : ∀ (pc : Nat) (i : aIn), (bif Nat.ble n pc then A pc else B pc) = some i → P pc i := by
  intro pc i e
  cases q : Nat.ble n pc with
  | true => rw [q] at e; exact ha pc i e
  | false => rw [q] at e; exact hb pc i e
