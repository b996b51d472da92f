set_option maxRecDepth 20000
/-- the words of the tables that stay as they are while the machine runs -/
def gT : List Cond := lw_tbl.filter goodWord
theorem gmem {w : Cond} (i : Nat) (h : lw_tbl[i]? = some w) (hg : goodWord w = true) : w ∈ gT := List.mem_filter.mpr ⟨List.mem_of_getElem? h, hg⟩
theorem gsub {w : Cond} (h : w ∈ gT) : w ∈ lw_tbl := (List.mem_filter.mp h).1
theorem ggood {w : Cond} (h : w ∈ gT) : goodWord w = true := (List.mem_filter.mp h).2
theorem gIn {ws : List Cond} (h : ∀ w ∈ ws, w ∈ gT) : GoodIn gT ws := fun w hw => ⟨h w hw, good_of_word (ggood (h w hw))⟩
theorem lwmem {w : Cond} (i : Nat) (h : lw_tbl[i]? = some w) : w ∈ lw_tbl := List.mem_of_getElem? h
theorem lwt1 {w : Cond} (i : Nat) (h : tables_1_1[i]? = some w) : w ∈ lw_tbl := List.mem_append_right _ (List.mem_append_left _ (List.mem_of_getElem? h))
theorem lwt2 {w : Cond} (i : Nat) (h : tables_1_2[i]? = some w) : w ∈ lw_tbl := List.mem_append_right _ (List.mem_append_right _ (List.mem_append_left _ (List.mem_of_getElem? h)))
theorem lwt3 {w : Cond} (i : Nat) (h : tables_1_3[i]? = some w) : w ∈ lw_tbl := List.mem_append_right _ (List.mem_append_right _ (List.mem_append_right _ (List.mem_append_left _ (List.mem_of_getElem? h))))
theorem lwt4 {w : Cond} (i : Nat) (h : tables_1_4[i]? = some w) : w ∈ lw_tbl := List.mem_append_right _ (List.mem_append_right _ (List.mem_append_right _ (List.mem_append_right _ (List.mem_append_left _ (List.mem_of_getElem? h)))))
theorem lwt5 {w : Cond} (i : Nat) (h : tables_1_5[i]? = some w) : w ∈ lw_tbl := List.mem_append_right _ (List.mem_append_right _ (List.mem_append_right _ (List.mem_append_right _ (List.mem_append_right _ (List.mem_append_left _ (List.mem_of_getElem? h))))))
theorem lwt6 {w : Cond} (i : Nat) (h : tables_1_6[i]? = some w) : w ∈ lw_tbl := List.mem_append_right _ (List.mem_append_right _ (List.mem_append_right _ (List.mem_append_right _ (List.mem_append_right _ (List.mem_append_right _ (List.mem_of_getElem? h))))))
theorem gmt {w : Cond} (h : w ∈ lw_tbl) (hg : goodWord w = true) : w ∈ gT := List.mem_filter.mpr ⟨h, hg⟩

theorem qs_0 : Cond.selects "StarCustody$SkyReader" ({ cls := "StarCustody$SkyReader", name := "readEither", desc := "(I)V" } : Jvm.MethodName) ({ cls := "StarCustody$SkyReader", name := "readEither", desc := "(I)V" } : Jvm.MethodName) ∈ gT := gmem 0 rfl rfl
theorem qs_1 : Cond.selects "StarCustody$SkyReader" ({ cls := "StarCustody$SkyReader", name := "readBoth", desc := "(I)V" } : Jvm.MethodName) ({ cls := "StarCustody$SkyReader", name := "readBoth", desc := "(I)V" } : Jvm.MethodName) ∈ gT := gmem 1 rfl rfl
theorem qs_2 : Cond.selects "StarCustody$SkyReader" ({ cls := "StarCustody$SkyReader", name := "readFactor", desc := "(I)V" } : Jvm.MethodName) ({ cls := "StarCustody$SkyReader", name := "readFactor", desc := "(I)V" } : Jvm.MethodName) ∈ gT := gmem 2 rfl rfl
theorem qs_3 : Cond.selects "StarCustody$SkyReader" ({ cls := "StarCustody$SkyReader", name := "readTest", desc := "()V" } : Jvm.MethodName) ({ cls := "StarCustody$SkyReader", name := "readTest", desc := "()V" } : Jvm.MethodName) ∈ gT := gmem 3 rfl rfl
theorem qs_4 : Cond.selects "StarCustody" ({ cls := "StarCustody", name := "newStar", desc := "(III)LStarCustody$Star;" } : Jvm.MethodName) ({ cls := "StarCustody", name := "newStar", desc := "(III)LStarCustody$Star;" } : Jvm.MethodName) ∈ gT := gmem 4 rfl rfl
theorem qs_5 : Cond.selects "StarCustody" ({ cls := "StarCustody", name := "nightsTill", desc := "(II)I" } : Jvm.MethodName) ({ cls := "StarCustody", name := "nightsTill", desc := "(II)I" } : Jvm.MethodName) ∈ gT := gmem 5 rfl rfl
theorem qs_6 : Cond.selects "StarCustody" ({ cls := "StarCustody", name := "monthOf", desc := "(II)I" } : Jvm.MethodName) ({ cls := "StarCustody", name := "monthOf", desc := "(II)I" } : Jvm.MethodName) ∈ gT := gmem 6 rfl rfl
theorem qs_7 : Cond.selects "StarCustody" ({ cls := "StarCustody", name := "fitting", desc := "(III)I" } : Jvm.MethodName) ({ cls := "StarCustody", name := "fitting", desc := "(III)I" } : Jvm.MethodName) ∈ gT := gmem 7 rfl rfl
theorem qs_8 : Cond.selects "StarCustody" ({ cls := "StarCustody", name := "isAsNoted", desc := "(LStarCustody$Star;II)Z" } : Jvm.MethodName) ({ cls := "StarCustody", name := "isAsNoted", desc := "(LStarCustody$Star;II)Z" } : Jvm.MethodName) ∈ gT := gmem 8 rfl rfl
theorem qs_9 : Cond.selects "StarCustody" ({ cls := "StarCustody", name := "seenUnder", desc := "(II)I" } : Jvm.MethodName) ({ cls := "StarCustody", name := "seenUnder", desc := "(II)I" } : Jvm.MethodName) ∈ gT := gmem 9 rfl rfl
theorem qs_10 : Cond.selects "StarCustodyModel" ({ cls := "StarCustodyModel", name := "clauseHere", desc := "()V" } : Jvm.MethodName) ({ cls := "StarCustodyModel", name := "clauseHere", desc := "()V" } : Jvm.MethodName) ∈ gT := gmem 10 rfl rfl
theorem qs_11 : Cond.selects "StarCustodyModel" ({ cls := "StarCustodyModel", name := "here", desc := "()I" } : Jvm.MethodName) ({ cls := "StarCustodyModel", name := "here", desc := "()I" } : Jvm.MethodName) ∈ gT := gmem 11 rfl rfl
theorem qs_12 : Cond.selects "StarCustodyModel" ({ cls := "StarCustodyModel", name := "tellsHere", desc := "(ILjava/lang/String;)V" } : Jvm.MethodName) ({ cls := "StarCustodyModel", name := "tellsHere", desc := "(ILjava/lang/String;)V" } : Jvm.MethodName) ∈ gT := gmem 12 rfl rfl
theorem qs_13 : Cond.selects "StarCustodyModel" ({ cls := "StarCustodyModel", name := "spells", desc := "(Ljava/lang/String;)V" } : Jvm.MethodName) ({ cls := "StarCustodyModel", name := "spells", desc := "(Ljava/lang/String;)V" } : Jvm.MethodName) ∈ gT := gmem 13 rfl rfl
theorem qs_14 : Cond.selects "StarCustodyModel" ({ cls := "StarCustodyModel", name := "must", desc := "(I)V" } : Jvm.MethodName) ({ cls := "StarCustodyModel", name := "must", desc := "(I)V" } : Jvm.MethodName) ∈ gT := gmem 14 rfl rfl
theorem qs_15 : Cond.selects "StarCustodyModel" ({ cls := "StarCustodyModel", name := "figures", desc := "()I" } : Jvm.MethodName) ({ cls := "StarCustodyModel", name := "figures", desc := "()I" } : Jvm.MethodName) ∈ gT := gmem 15 rfl rfl
theorem qs_16 : Cond.selects "StarCustodyModel" ({ cls := "StarCustodyModel", name := "wordOfD", desc := "()V" } : Jvm.MethodName) ({ cls := "StarCustodyModel", name := "wordOfD", desc := "()V" } : Jvm.MethodName) ∈ gT := gmem 16 rfl rfl
theorem qs_17 : Cond.selects "StarCustodyModel" ({ cls := "StarCustodyModel", name := "much", desc := "(ILjava/lang/String;)V" } : Jvm.MethodName) ({ cls := "StarCustodyModel", name := "much", desc := "(ILjava/lang/String;)V" } : Jvm.MethodName) ∈ gT := gmem 17 rfl rfl
theorem qs_18 : Cond.selects "StarCustodyModel" ({ cls := "StarCustodyModel", name := "some", desc := "()V" } : Jvm.MethodName) ({ cls := "StarCustodyModel", name := "some", desc := "()V" } : Jvm.MethodName) ∈ gT := gmem 18 rfl rfl
theorem qs_19 : Cond.selects "StarCustodyModel" ({ cls := "StarCustodyModel", name := "every", desc := "()V" } : Jvm.MethodName) ({ cls := "StarCustodyModel", name := "every", desc := "()V" } : Jvm.MethodName) ∈ gT := gmem 19 rfl rfl
theorem qs_20 : Cond.selects "StarCustodyModel" ({ cls := "StarCustodyModel", name := "factor", desc := "()V" } : Jvm.MethodName) ({ cls := "StarCustodyModel", name := "factor", desc := "()V" } : Jvm.MethodName) ∈ gT := gmem 20 rfl rfl
theorem qs_21 : Cond.selects "StarCustodyModel" ({ cls := "StarCustodyModel", name := "emits", desc := "(I)V" } : Jvm.MethodName) ({ cls := "StarCustodyModel", name := "emits", desc := "(I)V" } : Jvm.MethodName) ∈ gT := gmem 21 rfl rfl
theorem qs_22 : Cond.selects "StarCustodyModel" ({ cls := "StarCustodyModel", name := "among", desc := "(Ljava/lang/String;)I" } : Jvm.MethodName) ({ cls := "StarCustodyModel", name := "among", desc := "(Ljava/lang/String;)I" } : Jvm.MethodName) ∈ gT := gmem 22 rfl rfl
theorem qs_23 : Cond.selects "StarCustodyModel" ({ cls := "StarCustodyModel", name := "isLight", desc := "(I)Z" } : Jvm.MethodName) ({ cls := "StarCustodyModel", name := "isLight", desc := "(I)Z" } : Jvm.MethodName) ∈ gT := gmem 23 rfl rfl
theorem qs_24 : Cond.selects "StarCustodyModel" ({ cls := "StarCustodyModel", name := "isUp", desc := "(II)Z" } : Jvm.MethodName) ({ cls := "StarCustodyModel", name := "isUp", desc := "(II)Z" } : Jvm.MethodName) ∈ gT := gmem 24 rfl rfl
theorem qs_25 : Cond.selects "StarCustodyModel" ({ cls := "StarCustodyModel", name := "baseOf", desc := "(III)I" } : Jvm.MethodName) ({ cls := "StarCustodyModel", name := "baseOf", desc := "(III)I" } : Jvm.MethodName) ∈ gT := gmem 25 rfl rfl
theorem qs_26 : Cond.selects "StarCustodyModel" ({ cls := "StarCustodyModel", name := "tellsOf", desc := "(II)I" } : Jvm.MethodName) ({ cls := "StarCustodyModel", name := "tellsOf", desc := "(II)I" } : Jvm.MethodName) ∈ gT := gmem 26 rfl rfl
theorem qs_27 : Cond.selects "StarCustodyModel" ({ cls := "StarCustodyModel", name := "worthOf", desc := "(III)I" } : Jvm.MethodName) ({ cls := "StarCustodyModel", name := "worthOf", desc := "(III)I" } : Jvm.MethodName) ∈ gT := gmem 27 rfl rfl
theorem qs_28 : Cond.selects "StarCustodyModel" ({ cls := "StarCustodyModel", name := "asItIs", desc := "()V" } : Jvm.MethodName) ({ cls := "StarCustodyModel", name := "asItIs", desc := "()V" } : Jvm.MethodName) ∈ gT := gmem 28 rfl rfl
theorem qs_29 : Cond.selects "StarCustodyModel" ({ cls := "StarCustodyModel", name := "turnOn", desc := "(I)I" } : Jvm.MethodName) ({ cls := "StarCustodyModel", name := "turnOn", desc := "(I)I" } : Jvm.MethodName) ∈ gT := gmem 29 rfl rfl
theorem qs_30 : Cond.selects "StarCustodyModel" ({ cls := "StarCustodyModel", name := "isClouded", desc := "(I)Z" } : Jvm.MethodName) ({ cls := "StarCustodyModel", name := "isClouded", desc := "(I)Z" } : Jvm.MethodName) ∈ gT := gmem 30 rfl rfl
theorem qs_31 : Cond.selects "StarCustodyModel" ({ cls := "StarCustodyModel", name := "upOn", desc := "(I)I" } : Jvm.MethodName) ({ cls := "StarCustodyModel", name := "upOn", desc := "(I)I" } : Jvm.MethodName) ∈ gT := gmem 31 rfl rfl
theorem qs_32 : Cond.selects "StarCustodyModel" ({ cls := "StarCustodyModel", name := "hasOn", desc := "(II)I" } : Jvm.MethodName) ({ cls := "StarCustodyModel", name := "hasOn", desc := "(II)I" } : Jvm.MethodName) ∈ gT := gmem 32 rfl rfl
theorem qs_33 : Cond.selects "StarCustodyModel" ({ cls := "StarCustodyModel", name := "goes", desc := "()V" } : Jvm.MethodName) ({ cls := "StarCustodyModel", name := "goes", desc := "()V" } : Jvm.MethodName) ∈ gT := gmem 33 rfl rfl
theorem qs_34 : Cond.selects "StarCustodyModel" ({ cls := "StarCustodyModel", name := "keeps", desc := "()V" } : Jvm.MethodName) ({ cls := "StarCustodyModel", name := "keeps", desc := "()V" } : Jvm.MethodName) ∈ gT := gmem 34 rfl rfl
theorem qs_35 : Cond.selects "StarCustodyModel" ({ cls := "StarCustodyModel", name := "goesOn", desc := "(I)V" } : Jvm.MethodName) ({ cls := "StarCustodyModel", name := "goesOn", desc := "(I)V" } : Jvm.MethodName) ∈ gT := gmem 35 rfl rfl
theorem qs_36 : Cond.selects "StarCustodyModel" ({ cls := "StarCustodyModel", name := "goesBack", desc := "()V" } : Jvm.MethodName) ({ cls := "StarCustodyModel", name := "goesBack", desc := "()V" } : Jvm.MethodName) ∈ gT := gmem 36 rfl rfl
theorem qs_37 : Cond.selects "StarCustodyModel" ({ cls := "StarCustodyModel", name := "dealt", desc := "(III)I" } : Jvm.MethodName) ({ cls := "StarCustodyModel", name := "dealt", desc := "(III)I" } : Jvm.MethodName) ∈ gT := gmem 37 rfl rfl
theorem qs_38 : Cond.selects "StarCustodyModel" ({ cls := "StarCustodyModel", name := "looksForWorths", desc := "()V" } : Jvm.MethodName) ({ cls := "StarCustodyModel", name := "looksForWorths", desc := "()V" } : Jvm.MethodName) ∈ gT := gmem 38 rfl rfl
theorem qs_39 : Cond.selects "StarCustodyModel" ({ cls := "StarCustodyModel", name := "shareOf", desc := "(III)I" } : Jvm.MethodName) ({ cls := "StarCustodyModel", name := "shareOf", desc := "(III)I" } : Jvm.MethodName) ∈ gT := gmem 39 rfl rfl
theorem qs_40 : Cond.selects "StarCustodyModel" ({ cls := "StarCustodyModel", name := "fitting", desc := "(IIIII)I" } : Jvm.MethodName) ({ cls := "StarCustodyModel", name := "fitting", desc := "(IIIII)I" } : Jvm.MethodName) ∈ gT := gmem 40 rfl rfl
theorem qs_41 : Cond.selects "StarCustodyModel" ({ cls := "StarCustodyModel", name := "areAsNoted", desc := "(I)Z" } : Jvm.MethodName) ({ cls := "StarCustodyModel", name := "areAsNoted", desc := "(I)Z" } : Jvm.MethodName) ∈ gT := gmem 41 rfl rfl
theorem qs_42 : Cond.selects "StarCustodyModel" ({ cls := "StarCustodyModel", name := "goesBy", desc := "(II)V" } : Jvm.MethodName) ({ cls := "StarCustodyModel", name := "goesBy", desc := "(II)V" } : Jvm.MethodName) ∈ gT := gmem 42 rfl rfl
theorem qs_43 : Cond.selects "StarCustodyModel" ({ cls := "StarCustodyModel", name := "glowsActs", desc := "(I)I" } : Jvm.MethodName) ({ cls := "StarCustodyModel", name := "glowsActs", desc := "(I)I" } : Jvm.MethodName) ∈ gT := gmem 43 rfl rfl
theorem qs_44 : Cond.selects "StarCustodyModel" ({ cls := "StarCustodyModel", name := "ranBody", desc := "(I)V" } : Jvm.MethodName) ({ cls := "StarCustodyModel", name := "ranBody", desc := "(I)V" } : Jvm.MethodName) ∈ gT := gmem 44 rfl rfl
theorem qs_45 : Cond.selects "StarCustodyModel" ({ cls := "StarCustodyModel", name := "plainGlows", desc := "(I)I" } : Jvm.MethodName) ({ cls := "StarCustodyModel", name := "plainGlows", desc := "(I)I" } : Jvm.MethodName) ∈ gT := gmem 45 rfl rfl
theorem qs_46 : Cond.selects "StarCustodyModel" ({ cls := "StarCustodyModel", name := "claimsActs", desc := "(I)I" } : Jvm.MethodName) ({ cls := "StarCustodyModel", name := "claimsActs", desc := "(I)I" } : Jvm.MethodName) ∈ gT := gmem 46 rfl rfl
theorem qs_47 : Cond.selects "StarCustodyModel" ({ cls := "StarCustodyModel", name := "plainClaims", desc := "(I)I" } : Jvm.MethodName) ({ cls := "StarCustodyModel", name := "plainClaims", desc := "(I)I" } : Jvm.MethodName) ∈ gT := gmem 47 rfl rfl
theorem qs_48 : Cond.selects "StarCustodyModel" ({ cls := "StarCustodyModel", name := "tellsActs", desc := "(I)I" } : Jvm.MethodName) ({ cls := "StarCustodyModel", name := "tellsActs", desc := "(I)I" } : Jvm.MethodName) ∈ gT := gmem 48 rfl rfl
theorem qs_49 : Cond.selects "StarCustodyModel" ({ cls := "StarCustodyModel", name := "plainTelling", desc := "(I)I" } : Jvm.MethodName) ({ cls := "StarCustodyModel", name := "plainTelling", desc := "(I)I" } : Jvm.MethodName) ∈ gT := gmem 49 rfl rfl
theorem q_0 : Jvm.Cond.initialized "StarCustodyLaw" ∈ gT := gmt (lwt1 0 rfl) rfl
theorem q_1 : Jvm.Cond.initialized "StarCustody" ∈ gT := gmt (lwt1 1 rfl) rfl
theorem q_2 : Jvm.Cond.initialized "StarCustody$Rows" ∈ gT := gmt (lwt1 2 rfl) rfl
theorem q_3 : Jvm.Cond.initialized "java/lang/Math" ∈ gT := gmt (lwt1 3 rfl) rfl
theorem q_4 : Jvm.Cond.initialized "StarCustody$Roof" ∈ gT := gmt (lwt1 4 rfl) rfl
theorem q_5 : Jvm.Cond.initialized "StarCustody$Sky" ∈ gT := gmt (lwt1 5 rfl) rfl
theorem q_6 : Jvm.Cond.initialized "StarCustody$SkyReader" ∈ gT := gmt (lwt1 6 rfl) rfl
theorem q_7 : Jvm.Cond.initialized "StarCustodyModel" ∈ gT := gmt (lwt1 7 rfl) rfl
theorem q_8 : Jvm.Cond.initialized "java/lang/String" ∈ gT := gmt (lwt1 8 rfl) rfl
theorem q_9 : Jvm.Cond.initialized "java/lang/StringLatin1" ∈ gT := gmt (lwt1 9 rfl) rfl
theorem q_10 : Jvm.Cond.initialized "jdk/internal/util/Preconditions" ∈ gT := gmt (lwt1 10 rfl) rfl
theorem q_11 : Jvm.Cond.initialized "java/lang/StringUTF16" ∈ gT := gmt (lwt1 11 rfl) rfl
theorem q_12 : Jvm.Cond.initialized "java/lang/System" ∈ gT := gmt (lwt1 12 rfl) rfl
theorem q_13 : Jvm.Cond.initialized "StarCustody$Star" ∈ gT := gmt (lwt1 13 rfl) rfl
theorem q_14 : Jvm.Cond.initialized "StarCustody$Moon" ∈ gT := gmt (lwt1 14 rfl) rfl
theorem q_15 : Jvm.Cond.initialized "StarCustody$Comet" ∈ gT := gmt (lwt1 15 rfl) rfl
theorem q_16 : Jvm.Cond.initialized "StarCustody$Nebula" ∈ gT := gmt (lwt1 16 rfl) rfl
theorem q_17 : Jvm.Cond.initialized "StarCustody$Twin" ∈ gT := gmt (lwt1 17 rfl) rfl
theorem q_18 : Jvm.Cond.initialized "StarCustody$Guest" ∈ gT := gmt (lwt1 18 rfl) rfl
theorem q_19 : Jvm.Cond.initialized "StarCustody$Told" ∈ gT := gmt (lwt1 19 rfl) rfl
theorem q_20 : Jvm.Cond.initialized "java/lang/Integer" ∈ gT := gmt (lwt1 20 rfl) rfl
theorem q_21 : Jvm.Cond.classLink "StarCustodyLaw" (7 : Nat) "StarCustody" ∈ gT := gmt (lwt1 21 rfl) rfl
theorem q_22 : Jvm.Cond.instantiable "StarCustody" (7 : Nat) ∈ gT := gmt (lwt1 22 rfl) rfl
theorem q_23 : Jvm.Cond.methodLink "StarCustodyLaw" (9 : Nat) ({ cls := "StarCustody", name := "<init>", desc := "()V" } : Jvm.MethodName) ∈ gT := gmt (lwt1 23 rfl) rfl
theorem q_24 : Jvm.Cond.instanceMethod ({ cls := "StarCustody", name := "<init>", desc := "()V" } : Jvm.MethodName) ∈ gT := gmt (lwt1 24 rfl) rfl
theorem q_25 : Jvm.Cond.code ({ cls := "StarCustody", name := "<init>", desc := "()V" } : Jvm.MethodName) prog_1_method_1_code (1 : Nat) (Option.none : Option Jvm.ClassFile.FieldType) ∈ gT := gmt (lwt1 25 rfl) rfl
theorem q_26 : Jvm.Cond.methodLink "StarCustody" (3 : Nat) ({ cls := "java/lang/Object", name := "<init>", desc := "()V" } : Jvm.MethodName) ∈ gT := gmt (lwt1 26 rfl) rfl
theorem q_27 : Jvm.Cond.instanceMethod ({ cls := "java/lang/Object", name := "<init>", desc := "()V" } : Jvm.MethodName) ∈ gT := gmt (lwt1 27 rfl) rfl
theorem q_28 : Jvm.Cond.code ({ cls := "java/lang/Object", name := "<init>", desc := "()V" } : Jvm.MethodName) object_method_1_code (1 : Nat) (Option.none : Option Jvm.ClassFile.FieldType) ∈ gT := gmt (lwt1 28 rfl) rfl
theorem q_29 : Jvm.Cond.classLink "StarCustody" (9 : Nat) "StarCustody$Rows" ∈ gT := gmt (lwt1 29 rfl) rfl
theorem q_30 : Jvm.Cond.instantiable "StarCustody$Rows" (4 : Nat) ∈ gT := gmt (lwt1 30 rfl) rfl
theorem q_31 : Jvm.Cond.methodLink "StarCustody" (13 : Nat) ({ cls := "StarCustody$Rows", name := "<init>", desc := "(II)V" } : Jvm.MethodName) ∈ gT := gmt (lwt1 31 rfl) rfl
theorem q_32 : Jvm.Cond.instanceMethod ({ cls := "StarCustody$Rows", name := "<init>", desc := "(II)V" } : Jvm.MethodName) ∈ gT := gmt (lwt1 32 rfl) rfl
theorem q_33 : Jvm.Cond.code ({ cls := "StarCustody$Rows", name := "<init>", desc := "(II)V" } : Jvm.MethodName) prog_7_method_1_code (3 : Nat) (Option.none : Option Jvm.ClassFile.FieldType) ∈ gT := gmt (lwt1 33 rfl) rfl
theorem q_34 : Jvm.Cond.methodLink "StarCustody$Rows" (1 : Nat) ({ cls := "java/lang/Object", name := "<init>", desc := "()V" } : Jvm.MethodName) ∈ gT := gmt (lwt1 34 rfl) rfl
theorem q_35 : Jvm.Cond.methodLink "StarCustody$Rows" (19 : Nat) ({ cls := "java/lang/Math", name := "max", desc := "(II)I" } : Jvm.MethodName) ∈ gT := gmt (lwt1 35 rfl) rfl
theorem q_36 : Jvm.Cond.static ({ cls := "java/lang/Math", name := "max", desc := "(II)I" } : Jvm.MethodName) ∈ gT := gmt (lwt1 36 rfl) rfl
theorem q_37 : Jvm.Cond.code ({ cls := "java/lang/Math", name := "max", desc := "(II)I" } : Jvm.MethodName) prog_16_method_65_code (2 : Nat) (Option.some Jvm.ClassFile.FieldType.int) ∈ gT := gmt (lwt1 37 rfl) rfl
theorem q_38 : Jvm.Cond.fieldLink "StarCustody$Rows" (25 : Nat) "StarCustody$Rows" "cells" "[I" ∈ gT := gmt (lwt1 38 rfl) rfl
theorem q_39 : Jvm.Cond.fieldLink "StarCustody$SkyReader" (50 : Nat) "StarCustody$Rows" "cells" "[I" ∈ gT := gmt (lwt1 39 rfl) rfl
theorem q_40 : Jvm.Cond.fieldLink "StarCustody$Rows" (13 : Nat) "StarCustody$Rows" "most" "I" ∈ gT := gmt (lwt1 40 rfl) rfl
theorem q_41 : Jvm.Cond.fieldLink "StarCustody$Rows" (16 : Nat) "StarCustody$Rows" "width" "I" ∈ gT := gmt (lwt1 41 rfl) rfl
theorem q_42 : Jvm.Cond.fieldLink "StarCustody$Rows" (7 : Nat) "StarCustody$Rows" "count" "I" ∈ gT := gmt (lwt1 42 rfl) rfl
theorem q_43 : Jvm.Cond.fieldLink "StarCustody$SkyReader" (45 : Nat) "StarCustody$Rows" "count" "I" ∈ gT := gmt (lwt1 43 rfl) rfl
theorem q_44 : Jvm.Cond.fieldLink "StarCustody" (232 : Nat) "StarCustody$Rows" "count" "I" ∈ gT := gmt (lwt1 44 rfl) rfl
theorem q_53 : Jvm.Cond.superclass "StarCustody$Rows" "java/lang/Object" ∈ gT := gmt (lwt1 53 rfl) rfl
theorem q_54 : Jvm.Cond.arrayClass Jvm.ClassFile.FieldType.int ∈ gT := gmt (lwt1 54 rfl) rfl
theorem q_55 : Jvm.Cond.classLink "StarCustody" (20 : Nat) "StarCustody$Roof" ∈ gT := gmt (lwt1 55 rfl) rfl
theorem q_56 : Jvm.Cond.instantiable "StarCustody$Roof" (14 : Nat) ∈ gT := gmt (lwt1 56 rfl) rfl
theorem q_57 : Jvm.Cond.methodLinkNest "StarCustody" (22 : Nat) ({ cls := "StarCustody$Roof", name := "<init>", desc := "()V" } : Jvm.MethodName) "StarCustody" ∈ lw_tbl := lwt1 57 rfl
theorem q_58 : Jvm.Cond.instanceMethod ({ cls := "StarCustody$Roof", name := "<init>", desc := "()V" } : Jvm.MethodName) ∈ gT := gmt (lwt1 58 rfl) rfl
theorem q_59 : Jvm.Cond.code ({ cls := "StarCustody$Roof", name := "<init>", desc := "()V" } : Jvm.MethodName) prog_6_method_1_code (1 : Nat) (Option.none : Option Jvm.ClassFile.FieldType) ∈ gT := gmt (lwt1 59 rfl) rfl
theorem q_60 : Jvm.Cond.methodLink "StarCustody$Roof" (3 : Nat) ({ cls := "java/lang/Object", name := "<init>", desc := "()V" } : Jvm.MethodName) ∈ gT := gmt (lwt1 60 rfl) rfl
theorem q_61 : Jvm.Cond.classLink "StarCustody$Roof" (28 : Nat) "StarCustody$Star" ∈ gT := gmt (lwt1 61 rfl) rfl
theorem q_62 : Jvm.Cond.arrayOver (Jvm.ClassFile.FieldType.object "StarCustody$Star") ∈ lw_tbl := lwt1 62 rfl
theorem q_63 : Jvm.Cond.classLink "StarCustody$Roof" (43 : Nat) "StarCustody$Sky" ∈ gT := gmt (lwt1 63 rfl) rfl
theorem q_64 : Jvm.Cond.instantiable "StarCustody$Sky" (6 : Nat) ∈ gT := gmt (lwt1 64 rfl) rfl
theorem q_65 : Jvm.Cond.methodLinkNest "StarCustody$Roof" (45 : Nat) ({ cls := "StarCustody$Sky", name := "<init>", desc := "()V" } : Jvm.MethodName) "StarCustody" ∈ lw_tbl := lwt1 65 rfl
theorem q_66 : Jvm.Cond.instanceMethod ({ cls := "StarCustody$Sky", name := "<init>", desc := "()V" } : Jvm.MethodName) ∈ gT := gmt (lwt1 66 rfl) rfl
theorem q_67 : Jvm.Cond.code ({ cls := "StarCustody$Sky", name := "<init>", desc := "()V" } : Jvm.MethodName) prog_8_method_1_code (1 : Nat) (Option.none : Option Jvm.ClassFile.FieldType) ∈ gT := gmt (lwt1 67 rfl) rfl
theorem q_68 : Jvm.Cond.methodLink "StarCustody$Sky" (3 : Nat) ({ cls := "java/lang/Object", name := "<init>", desc := "()V" } : Jvm.MethodName) ∈ gT := gmt (lwt1 68 rfl) rfl
theorem q_69 : Jvm.Cond.fieldLink "StarCustody$Sky" (9 : Nat) "StarCustody$Sky" "steps" "[I" ∈ gT := gmt (lwt1 69 rfl) rfl
theorem q_70 : Jvm.Cond.fieldLink "StarCustody$Sky" (15 : Nat) "StarCustody$Sky" "signs" "[I" ∈ gT := gmt (lwt1 70 rfl) rfl
theorem q_71 : Jvm.Cond.fieldLink "StarCustody$Sky" (18 : Nat) "StarCustody$Sky" "numbers" "[I" ∈ gT := gmt (lwt1 71 rfl) rfl
theorem q_72 : Jvm.Cond.fieldLink "StarCustody$Sky" (21 : Nat) "StarCustody$Sky" "size" "I" ∈ gT := gmt (lwt1 72 rfl) rfl
theorem q_73 : Jvm.Cond.fieldLink "StarCustody$Sky" (25 : Nat) "StarCustody$Sky" "turn" "I" ∈ gT := gmt (lwt1 73 rfl) rfl
theorem q_74 : Jvm.Cond.fieldLink "StarCustody$Roof" (83 : Nat) "StarCustody$Sky" "turn" "I" ∈ gT := gmt (lwt1 74 rfl) rfl
theorem q_75 : Jvm.Cond.fieldLink "StarCustody$SkyReader" (86 : Nat) "StarCustody$Sky" "turn" "I" ∈ gT := gmt (lwt1 75 rfl) rfl
theorem q_76 : Jvm.Cond.fieldLink "StarCustody" (152 : Nat) "StarCustody$Sky" "turn" "I" ∈ gT := gmt (lwt1 76 rfl) rfl
theorem q_77 : Jvm.Cond.fieldLink "StarCustody$Sky" (28 : Nat) "StarCustody$Sky" "cloud" "I" ∈ gT := gmt (lwt1 77 rfl) rfl
theorem q_78 : Jvm.Cond.fieldLink "StarCustody$SkyReader" (91 : Nat) "StarCustody$Sky" "cloud" "I" ∈ gT := gmt (lwt1 78 rfl) rfl
theorem q_79 : Jvm.Cond.fieldLink "StarCustody" (155 : Nat) "StarCustody$Sky" "cloud" "I" ∈ gT := gmt (lwt1 79 rfl) rfl
theorem q_92 : Jvm.Cond.superclass "StarCustody$Sky" "java/lang/Object" ∈ gT := gmt (lwt1 92 rfl) rfl
theorem q_93 : Jvm.Cond.classLink "StarCustody$Roof" (50 : Nat) "StarCustody$Rows" ∈ gT := gmt (lwt1 93 rfl) rfl
theorem q_94 : Jvm.Cond.methodLink "StarCustody$Roof" (52 : Nat) ({ cls := "StarCustody$Rows", name := "<init>", desc := "(II)V" } : Jvm.MethodName) ∈ gT := gmt (lwt1 94 rfl) rfl
theorem q_95 : Jvm.Cond.fieldLink "StarCustody$Roof" (9 : Nat) "StarCustody$Roof" "night" "I" ∈ gT := gmt (lwt1 95 rfl) rfl
theorem q_96 : Jvm.Cond.fieldLink "StarCustody" (127 : Nat) "StarCustody$Roof" "night" "I" ∈ gT := gmt (lwt1 96 rfl) rfl
theorem q_97 : Jvm.Cond.fieldLink "StarCustody$Roof" (15 : Nat) "StarCustody$Roof" "lights" "I" ∈ gT := gmt (lwt1 97 rfl) rfl
theorem q_98 : Jvm.Cond.fieldLink "StarCustody" (87 : Nat) "StarCustody$Roof" "lights" "I" ∈ gT := gmt (lwt1 98 rfl) rfl
theorem q_99 : Jvm.Cond.fieldLink "StarCustody$Roof" (18 : Nat) "StarCustody$Roof" "skies" "I" ∈ gT := gmt (lwt1 99 rfl) rfl
theorem q_100 : Jvm.Cond.fieldLink "StarCustody" (65 : Nat) "StarCustody$Roof" "skies" "I" ∈ gT := gmt (lwt1 100 rfl) rfl
theorem q_101 : Jvm.Cond.fieldLink "StarCustody$Roof" (21 : Nat) "StarCustody$Roof" "hidden" "I" ∈ gT := gmt (lwt1 101 rfl) rfl
theorem q_102 : Jvm.Cond.fieldLink "StarCustody" (120 : Nat) "StarCustody$Roof" "hidden" "I" ∈ gT := gmt (lwt1 102 rfl) rfl
theorem q_103 : Jvm.Cond.fieldLink "StarCustody$Roof" (24 : Nat) "StarCustody$Roof" "seen" "[I" ∈ gT := gmt (lwt1 103 rfl) rfl
theorem q_104 : Jvm.Cond.fieldLink "StarCustody" (168 : Nat) "StarCustody$Roof" "seen" "[I" ∈ gT := gmt (lwt1 104 rfl) rfl
theorem q_105 : Jvm.Cond.fieldLink "StarCustody$Roof" (30 : Nat) "StarCustody$Roof" "stars" "[LStarCustody$Star;" ∈ gT := gmt (lwt1 105 rfl) rfl
theorem q_106 : Jvm.Cond.fieldLink "StarCustody$Roof" (34 : Nat) "StarCustody$Roof" "rounds" "[I" ∈ gT := gmt (lwt1 106 rfl) rfl
theorem q_107 : Jvm.Cond.fieldLink "StarCustody" (110 : Nat) "StarCustody$Roof" "rounds" "[I" ∈ gT := gmt (lwt1 107 rfl) rfl
theorem q_108 : Jvm.Cond.fieldLink "StarCustody$Roof" (37 : Nat) "StarCustody$Roof" "phases" "[I" ∈ gT := gmt (lwt1 108 rfl) rfl
theorem q_109 : Jvm.Cond.fieldLink "StarCustody" (117 : Nat) "StarCustody$Roof" "phases" "[I" ∈ gT := gmt (lwt1 109 rfl) rfl
theorem q_110 : Jvm.Cond.fieldLink "StarCustody$Roof" (40 : Nat) "StarCustody$Roof" "rows" "[I" ∈ gT := gmt (lwt1 110 rfl) rfl
theorem q_111 : Jvm.Cond.fieldLink "StarCustody" (141 : Nat) "StarCustody$Roof" "rows" "[I" ∈ gT := gmt (lwt1 111 rfl) rfl
theorem q_112 : Jvm.Cond.fieldLink "StarCustody$Roof" (46 : Nat) "StarCustody$Roof" "sky" "LStarCustody$Sky;" ∈ gT := gmt (lwt1 112 rfl) rfl
theorem q_113 : Jvm.Cond.fieldLink "StarCustody" (76 : Nat) "StarCustody$Roof" "sky" "LStarCustody$Sky;" ∈ gT := gmt (lwt1 113 rfl) rfl
theorem q_114 : Jvm.Cond.fieldLink "StarCustody" (32 : Nat) "StarCustody$Roof" "tape" "LStarCustody$Rows;" ∈ gT := gmt (lwt1 114 rfl) rfl
theorem q_115 : Jvm.Cond.fieldLink "StarCustody$Roof" (55 : Nat) "StarCustody$Roof" "tape" "LStarCustody$Rows;" ∈ gT := gmt (lwt1 115 rfl) rfl
theorem q_116 : Jvm.Cond.fieldLink "StarCustody$Roof" (59 : Nat) "StarCustody$Roof" "notes" "LStarCustody$Rows;" ∈ gT := gmt (lwt1 116 rfl) rfl
theorem q_117 : Jvm.Cond.fieldLink "StarCustody" (210 : Nat) "StarCustody$Roof" "notes" "LStarCustody$Rows;" ∈ gT := gmt (lwt1 117 rfl) rfl
theorem q_118 : Jvm.Cond.fieldLink "StarCustody$Roof" (62 : Nat) "StarCustody$Roof" "plans" "LStarCustody$Rows;" ∈ gT := gmt (lwt1 118 rfl) rfl
theorem q_119 : Jvm.Cond.fieldLink "StarCustody" (229 : Nat) "StarCustody$Roof" "plans" "LStarCustody$Rows;" ∈ gT := gmt (lwt1 119 rfl) rfl
theorem q_120 : Jvm.Cond.fieldLink "StarCustody$Roof" (65 : Nat) "StarCustody$Roof" "books" "LStarCustody$Rows;" ∈ gT := gmt (lwt1 120 rfl) rfl
theorem q_121 : Jvm.Cond.fieldLink "StarCustody" (238 : Nat) "StarCustody$Roof" "books" "LStarCustody$Rows;" ∈ gT := gmt (lwt1 121 rfl) rfl
theorem q_150 : Jvm.Cond.superclass "StarCustody$Roof" "java/lang/Object" ∈ gT := gmt (lwt1 150 rfl) rfl
theorem q_151 : Jvm.Cond.classLink "StarCustody" (30 : Nat) "StarCustody$SkyReader" ∈ gT := gmt (lwt1 151 rfl) rfl
theorem q_152 : Jvm.Cond.instantiable "StarCustody$SkyReader" (5 : Nat) ∈ gT := gmt (lwt1 152 rfl) rfl
theorem q_153 : Jvm.Cond.methodLink "StarCustody" (35 : Nat) ({ cls := "StarCustody$SkyReader", name := "<init>", desc := "(LStarCustody$Rows;)V" } : Jvm.MethodName) ∈ gT := gmt (lwt1 153 rfl) rfl
theorem q_154 : Jvm.Cond.instanceMethod ({ cls := "StarCustody$SkyReader", name := "<init>", desc := "(LStarCustody$Rows;)V" } : Jvm.MethodName) ∈ gT := gmt (lwt1 154 rfl) rfl
theorem q_155 : Jvm.Cond.code ({ cls := "StarCustody$SkyReader", name := "<init>", desc := "(LStarCustody$Rows;)V" } : Jvm.MethodName) prog_9_method_1_code (2 : Nat) (Option.none : Option Jvm.ClassFile.FieldType) ∈ gT := gmt (lwt1 155 rfl) rfl
theorem q_156 : Jvm.Cond.methodLink "StarCustody$SkyReader" (3 : Nat) ({ cls := "java/lang/Object", name := "<init>", desc := "()V" } : Jvm.MethodName) ∈ gT := gmt (lwt1 156 rfl) rfl
theorem q_157 : Jvm.Cond.classLink "StarCustody$SkyReader" (9 : Nat) "StarCustody$Sky" ∈ gT := gmt (lwt1 157 rfl) rfl
theorem q_158 : Jvm.Cond.methodLinkNest "StarCustody$SkyReader" (11 : Nat) ({ cls := "StarCustody$Sky", name := "<init>", desc := "()V" } : Jvm.MethodName) "StarCustody" ∈ lw_tbl := lwt1 158 rfl
theorem q_159 : Jvm.Cond.fieldLink "StarCustody$SkyReader" (28 : Nat) "StarCustody$SkyReader" "tape" "LStarCustody$Rows;" ∈ gT := gmt (lwt1 159 rfl) rfl
theorem q_160 : Jvm.Cond.fieldLink "StarCustody$SkyReader" (12 : Nat) "StarCustody$SkyReader" "sky" "LStarCustody$Sky;" ∈ gT := gmt (lwt1 160 rfl) rfl
theorem q_161 : Jvm.Cond.fieldLink "StarCustody" (80 : Nat) "StarCustody$SkyReader" "sky" "LStarCustody$Sky;" ∈ gT := gmt (lwt1 161 rfl) rfl
theorem q_162 : Jvm.Cond.fieldLink "StarCustody$SkyReader" (18 : Nat) "StarCustody$SkyReader" "place" "I" ∈ gT := gmt (lwt1 162 rfl) rfl
theorem q_163 : Jvm.Cond.fieldLink "StarCustody$SkyReader" (22 : Nat) "StarCustody$SkyReader" "next" "I" ∈ gT := gmt (lwt1 163 rfl) rfl
theorem q_164 : Jvm.Cond.fieldLink "StarCustody$SkyReader" (25 : Nat) "StarCustody$SkyReader" "fault" "I" ∈ gT := gmt (lwt1 164 rfl) rfl
theorem q_175 : Jvm.Cond.superclass "StarCustody$SkyReader" "java/lang/Object" ∈ gT := gmt (lwt1 175 rfl) rfl
theorem q_176 : Jvm.Cond.fieldLink "StarCustody" (16 : Nat) "StarCustody" "trace" "LStarCustody$Rows;" ∈ gT := gmt (lwt1 176 rfl) rfl
theorem q_177 : Jvm.Cond.fieldLink "StarCustody" (23 : Nat) "StarCustody" "now" "LStarCustody$Roof;" ∈ gT := gmt (lwt1 177 rfl) rfl
theorem q_178 : Jvm.Cond.fieldLink "StarCustody" (27 : Nat) "StarCustody" "kept" "LStarCustody$Roof;" ∈ gT := gmt (lwt1 178 rfl) rfl
theorem q_179 : Jvm.Cond.fieldLink "StarCustody" (38 : Nat) "StarCustody" "reader" "LStarCustody$SkyReader;" ∈ gT := gmt (lwt1 179 rfl) rfl
theorem q_180 : Jvm.Cond.fieldLink "StarCustody" (42 : Nat) "StarCustody" "toZero" "[I" ∈ gT := gmt (lwt1 180 rfl) rfl
theorem q_181 : Jvm.Cond.fieldLink "StarCustody" (46 : Nat) "StarCustody" "toOne" "[I" ∈ gT := gmt (lwt1 181 rfl) rfl
theorem q_182 : Jvm.Cond.fieldLink "StarCustody" (49 : Nat) "StarCustody" "isKept" "Z" ∈ gT := gmt (lwt1 182 rfl) rfl
theorem q_197 : Jvm.Cond.superclass "StarCustody" "java/lang/Object" ∈ gT := gmt (lwt1 197 rfl) rfl
theorem q_198 : Jvm.Cond.methodLink "StarCustodyLaw" (13 : Nat) ({ cls := "StarCustody", name := "feed", desc := "(I)I" } : Jvm.MethodName) ∈ gT := gmt (lwt1 198 rfl) rfl
theorem q_199 : Jvm.Cond.instanceMethod ({ cls := "StarCustody", name := "feed", desc := "(I)I" } : Jvm.MethodName) ∈ gT := gmt (lwt1 199 rfl) rfl
theorem q_200 : Jvm.Cond.selects "StarCustody" ({ cls := "StarCustody", name := "feed", desc := "(I)I" } : Jvm.MethodName) ({ cls := "StarCustody", name := "feed", desc := "(I)I" } : Jvm.MethodName) ∈ gT := gmt (lwt1 200 rfl) rfl
theorem q_201 : Jvm.Cond.code ({ cls := "StarCustody", name := "feed", desc := "(I)I" } : Jvm.MethodName) prog_1_method_2_code (2 : Nat) (Option.some Jvm.ClassFile.FieldType.int) ∈ gT := gmt (lwt1 201 rfl) rfl
theorem q_202 : Jvm.Cond.methodLink "StarCustody" (53 : Nat) ({ cls := "StarCustody", name := "isIn", desc := "(III)Z" } : Jvm.MethodName) ∈ gT := gmt (lwt1 202 rfl) rfl
theorem q_203 : Jvm.Cond.static ({ cls := "StarCustody", name := "isIn", desc := "(III)Z" } : Jvm.MethodName) ∈ gT := gmt (lwt1 203 rfl) rfl
theorem q_204 : Jvm.Cond.code ({ cls := "StarCustody", name := "isIn", desc := "(III)Z" } : Jvm.MethodName) prog_1_method_47_code (3 : Nat) (Option.some Jvm.ClassFile.FieldType.boolean) ∈ gT := gmt (lwt1 204 rfl) rfl
theorem q_205 : Jvm.Cond.methodLink "StarCustody" (57 : Nat) ({ cls := "StarCustody$Rows", name := "isFull", desc := "()Z" } : Jvm.MethodName) ∈ gT := gmt (lwt1 205 rfl) rfl
theorem q_206 : Jvm.Cond.instanceMethod ({ cls := "StarCustody$Rows", name := "isFull", desc := "()Z" } : Jvm.MethodName) ∈ gT := gmt (lwt1 206 rfl) rfl
theorem q_207 : Jvm.Cond.selects "StarCustody$Rows" ({ cls := "StarCustody$Rows", name := "isFull", desc := "()Z" } : Jvm.MethodName) ({ cls := "StarCustody$Rows", name := "isFull", desc := "()Z" } : Jvm.MethodName) ∈ gT := gmt (lwt1 207 rfl) rfl
theorem q_208 : Jvm.Cond.code ({ cls := "StarCustody$Rows", name := "isFull", desc := "()Z" } : Jvm.MethodName) prog_7_method_2_code (1 : Nat) (Option.some Jvm.ClassFile.FieldType.boolean) ∈ gT := gmt (lwt1 208 rfl) rfl
theorem q_209 : Jvm.Cond.methodLink "StarCustody" (61 : Nat) ({ cls := "StarCustody$Rows", name := "tell", desc := "(I)I" } : Jvm.MethodName) ∈ gT := gmt (lwt1 209 rfl) rfl
theorem q_210 : Jvm.Cond.instanceMethod ({ cls := "StarCustody$Rows", name := "tell", desc := "(I)I" } : Jvm.MethodName) ∈ gT := gmt (lwt1 210 rfl) rfl
theorem q_211 : Jvm.Cond.selects "StarCustody$Rows" ({ cls := "StarCustody$Rows", name := "tell", desc := "(I)I" } : Jvm.MethodName) ({ cls := "StarCustody$Rows", name := "tell", desc := "(I)I" } : Jvm.MethodName) ∈ gT := gmt (lwt1 211 rfl) rfl
theorem q_212 : Jvm.Cond.code ({ cls := "StarCustody$Rows", name := "tell", desc := "(I)I" } : Jvm.MethodName) prog_7_method_3_code (2 : Nat) (Option.some Jvm.ClassFile.FieldType.int) ∈ gT := gmt (lwt1 212 rfl) rfl
theorem q_213 : Jvm.Cond.methodLink "StarCustodyLaw" (18 : Nat) ({ cls := "StarCustody", name := "sky", desc := "()I" } : Jvm.MethodName) ∈ gT := gmt (lwt1 213 rfl) rfl
theorem q_214 : Jvm.Cond.instanceMethod ({ cls := "StarCustody", name := "sky", desc := "()I" } : Jvm.MethodName) ∈ gT := gmt (lwt1 214 rfl) rfl
theorem q_215 : Jvm.Cond.selects "StarCustody" ({ cls := "StarCustody", name := "sky", desc := "()I" } : Jvm.MethodName) ({ cls := "StarCustody", name := "sky", desc := "()I" } : Jvm.MethodName) ∈ gT := gmt (lwt1 215 rfl) rfl
theorem q_216 : Jvm.Cond.code ({ cls := "StarCustody", name := "sky", desc := "()I" } : Jvm.MethodName) prog_1_method_3_code (2 : Nat) (Option.some Jvm.ClassFile.FieldType.int) ∈ gT := gmt (lwt1 216 rfl) rfl
theorem q_217 : Jvm.Cond.methodLink "StarCustody" (69 : Nat) ({ cls := "StarCustody$SkyReader", name := "read", desc := "()I" } : Jvm.MethodName) ∈ gT := gmt (lwt1 217 rfl) rfl
theorem q_218 : Jvm.Cond.instanceMethod ({ cls := "StarCustody$SkyReader", name := "read", desc := "()I" } : Jvm.MethodName) ∈ gT := gmt (lwt1 218 rfl) rfl
theorem q_219 : Jvm.Cond.selects "StarCustody$SkyReader" ({ cls := "StarCustody$SkyReader", name := "read", desc := "()I" } : Jvm.MethodName) ({ cls := "StarCustody$SkyReader", name := "read", desc := "()I" } : Jvm.MethodName) ∈ gT := gmt (lwt1 219 rfl) rfl
theorem q_220 : Jvm.Cond.code ({ cls := "StarCustody$SkyReader", name := "read", desc := "()I" } : Jvm.MethodName) prog_9_method_2_code (2 : Nat) (Option.some Jvm.ClassFile.FieldType.int) ∈ gT := gmt (lwt1 220 rfl) rfl
theorem q_221 : Jvm.Cond.methodLink "StarCustody$SkyReader" (32 : Nat) ({ cls := "StarCustody$Sky", name := "empty", desc := "()V" } : Jvm.MethodName) ∈ gT := gmt (lwt1 221 rfl) rfl
theorem q_222 : Jvm.Cond.instanceMethod ({ cls := "StarCustody$Sky", name := "empty", desc := "()V" } : Jvm.MethodName) ∈ gT := gmt (lwt1 222 rfl) rfl
theorem q_223 : Jvm.Cond.selects "StarCustody$Sky" ({ cls := "StarCustody$Sky", name := "empty", desc := "()V" } : Jvm.MethodName) ({ cls := "StarCustody$Sky", name := "empty", desc := "()V" } : Jvm.MethodName) ∈ gT := gmt (lwt1 223 rfl) rfl
theorem q_224 : Jvm.Cond.code ({ cls := "StarCustody$Sky", name := "empty", desc := "()V" } : Jvm.MethodName) prog_8_method_2_code (1 : Nat) (Option.none : Option Jvm.ClassFile.FieldType) ∈ gT := gmt (lwt1 224 rfl) rfl
theorem q_225 : Jvm.Cond.methodLink "StarCustody$SkyReader" (35 : Nat) ({ cls := "StarCustody$SkyReader", name := "goTo", desc := "(I)V" } : Jvm.MethodName) ∈ gT := gmt (lwt1 225 rfl) rfl
theorem q_226 : Jvm.Cond.instanceMethod ({ cls := "StarCustody$SkyReader", name := "goTo", desc := "(I)V" } : Jvm.MethodName) ∈ gT := gmt (lwt1 226 rfl) rfl
theorem q_227 : Jvm.Cond.selects "StarCustody$SkyReader" ({ cls := "StarCustody$SkyReader", name := "goTo", desc := "(I)V" } : Jvm.MethodName) ({ cls := "StarCustody$SkyReader", name := "goTo", desc := "(I)V" } : Jvm.MethodName) ∈ gT := gmt (lwt1 227 rfl) rfl
theorem q_228 : Jvm.Cond.code ({ cls := "StarCustody$SkyReader", name := "goTo", desc := "(I)V" } : Jvm.MethodName) prog_9_method_3_code (2 : Nat) (Option.none : Option Jvm.ClassFile.FieldType) ∈ gT := gmt (lwt1 228 rfl) rfl
theorem q_229 : Jvm.Cond.methodLinkNest "StarCustody$SkyReader" (54 : Nat) ({ cls := "StarCustody", name := "at", desc := "([II)I" } : Jvm.MethodName) "StarCustody" ∈ lw_tbl := lwt1 229 rfl
theorem q_230 : Jvm.Cond.static ({ cls := "StarCustody", name := "at", desc := "([II)I" } : Jvm.MethodName) ∈ gT := gmt (lwt1 230 rfl) rfl
theorem q_231 : Jvm.Cond.code ({ cls := "StarCustody", name := "at", desc := "([II)I" } : Jvm.MethodName) prog_1_method_50_code (2 : Nat) (Option.some Jvm.ClassFile.FieldType.int) ∈ gT := gmt (lwt1 231 rfl) rfl
theorem q_232 : Jvm.Cond.methodLink "StarCustody$SkyReader" (39 : Nat) ({ cls := "StarCustody$SkyReader", name := "readClause", desc := "()V" } : Jvm.MethodName) ∈ gT := gmt (lwt1 232 rfl) rfl
theorem q_233 : Jvm.Cond.instanceMethod ({ cls := "StarCustody$SkyReader", name := "readClause", desc := "()V" } : Jvm.MethodName) ∈ gT := gmt (lwt1 233 rfl) rfl
theorem q_234 : Jvm.Cond.selects "StarCustody$SkyReader" ({ cls := "StarCustody$SkyReader", name := "readClause", desc := "()V" } : Jvm.MethodName) ({ cls := "StarCustody$SkyReader", name := "readClause", desc := "()V" } : Jvm.MethodName) ∈ gT := gmt (lwt1 234 rfl) rfl
theorem q_235 : Jvm.Cond.code ({ cls := "StarCustody$SkyReader", name := "readClause", desc := "()V" } : Jvm.MethodName) prog_9_method_8_code (3 : Nat) (Option.none : Option Jvm.ClassFile.FieldType) ∈ gT := gmt (lwt1 235 rfl) rfl
theorem q_236 : Jvm.Cond.stringRef "StarCustody$SkyReader" (71 : Nat) "turn " ∈ lw_tbl := lwt1 236 rfl
theorem q_237 : Jvm.Cond.methodLink "StarCustody$SkyReader" (73 : Nat) ({ cls := "StarCustody$SkyReader", name := "takeWord", desc := "(Ljava/lang/String;)V" } : Jvm.MethodName) ∈ gT := gmt (lwt1 237 rfl) rfl
theorem q_238 : Jvm.Cond.instanceMethod ({ cls := "StarCustody$SkyReader", name := "takeWord", desc := "(Ljava/lang/String;)V" } : Jvm.MethodName) ∈ gT := gmt (lwt1 238 rfl) rfl
theorem q_239 : Jvm.Cond.selects "StarCustody$SkyReader" ({ cls := "StarCustody$SkyReader", name := "takeWord", desc := "(Ljava/lang/String;)V" } : Jvm.MethodName) ({ cls := "StarCustody$SkyReader", name := "takeWord", desc := "(Ljava/lang/String;)V" } : Jvm.MethodName) ∈ gT := gmt (lwt1 239 rfl) rfl
theorem q_240 : Jvm.Cond.code ({ cls := "StarCustody$SkyReader", name := "takeWord", desc := "(Ljava/lang/String;)V" } : Jvm.MethodName) prog_9_method_6_code (3 : Nat) (Option.none : Option Jvm.ClassFile.FieldType) ∈ gT := gmt (lwt2 0 rfl) rfl
theorem q_241 : Jvm.Cond.methodLink "StarCustody$SkyReader" (58 : Nat) ({ cls := "java/lang/String", name := "length", desc := "()I" } : Jvm.MethodName) ∈ gT := gmt (lwt2 1 rfl) rfl
theorem q_242 : Jvm.Cond.instanceMethod ({ cls := "java/lang/String", name := "length", desc := "()I" } : Jvm.MethodName) ∈ gT := gmt (lwt2 2 rfl) rfl
theorem q_243 : Jvm.Cond.selects "java/lang/String" ({ cls := "java/lang/String", name := "length", desc := "()I" } : Jvm.MethodName) ({ cls := "java/lang/String", name := "length", desc := "()I" } : Jvm.MethodName) ∈ gT := gmt (lwt2 3 rfl) rfl
theorem q_244 : Jvm.Cond.code ({ cls := "java/lang/String", name := "length", desc := "()I" } : Jvm.MethodName) prog_17_method_54_code (1 : Nat) (Option.some Jvm.ClassFile.FieldType.int) ∈ gT := gmt (lwt2 4 rfl) rfl
theorem q_245 : Jvm.Cond.methodLink "java/lang/String" (335 : Nat) ({ cls := "java/lang/String", name := "coder", desc := "()B" } : Jvm.MethodName) ∈ gT := gmt (lwt2 5 rfl) rfl
theorem q_246 : Jvm.Cond.instanceMethod ({ cls := "java/lang/String", name := "coder", desc := "()B" } : Jvm.MethodName) ∈ gT := gmt (lwt2 6 rfl) rfl
theorem q_247 : Jvm.Cond.selects "java/lang/String" ({ cls := "java/lang/String", name := "coder", desc := "()B" } : Jvm.MethodName) ({ cls := "java/lang/String", name := "coder", desc := "()B" } : Jvm.MethodName) ∈ gT := gmt (lwt2 7 rfl) rfl
theorem q_248 : Jvm.Cond.code ({ cls := "java/lang/String", name := "coder", desc := "()B" } : Jvm.MethodName) prog_17_method_152_code (1 : Nat) (Option.some Jvm.ClassFile.FieldType.byte) ∈ gT := gmt (lwt2 8 rfl) rfl
theorem q_249 : Jvm.Cond.fieldLink "java/lang/String" (38 : Nat) "java/lang/String" "COMPACT_STRINGS" "Z" ∈ gT := gmt (lwt2 9 rfl) rfl
theorem q_250 : Jvm.Cond.laysStatic "java/lang/String" "COMPACT_STRINGS" "Z" ∈ lw_tbl := lwt2 10 rfl
theorem q_251 : Jvm.Cond.methodLink "StarCustody$SkyReader" (64 : Nat) ({ cls := "java/lang/String", name := "charAt", desc := "(I)C" } : Jvm.MethodName) ∈ gT := gmt (lwt2 11 rfl) rfl
theorem q_252 : Jvm.Cond.instanceMethod ({ cls := "java/lang/String", name := "charAt", desc := "(I)C" } : Jvm.MethodName) ∈ gT := gmt (lwt2 12 rfl) rfl
theorem q_253 : Jvm.Cond.selects "java/lang/String" ({ cls := "java/lang/String", name := "charAt", desc := "(I)C" } : Jvm.MethodName) ({ cls := "java/lang/String", name := "charAt", desc := "(I)C" } : Jvm.MethodName) ∈ gT := gmt (lwt2 13 rfl) rfl
theorem q_254 : Jvm.Cond.code ({ cls := "java/lang/String", name := "charAt", desc := "(I)C" } : Jvm.MethodName) prog_17_method_56_code (2 : Nat) (Option.some Jvm.ClassFile.FieldType.char) ∈ gT := gmt (lwt2 14 rfl) rfl
theorem q_255 : Jvm.Cond.methodLink "java/lang/String" (492 : Nat) ({ cls := "java/lang/String", name := "isLatin1", desc := "()Z" } : Jvm.MethodName) ∈ gT := gmt (lwt2 15 rfl) rfl
theorem q_256 : Jvm.Cond.instanceMethod ({ cls := "java/lang/String", name := "isLatin1", desc := "()Z" } : Jvm.MethodName) ∈ gT := gmt (lwt2 16 rfl) rfl
theorem q_257 : Jvm.Cond.selects "java/lang/String" ({ cls := "java/lang/String", name := "isLatin1", desc := "()Z" } : Jvm.MethodName) ({ cls := "java/lang/String", name := "isLatin1", desc := "()Z" } : Jvm.MethodName) ∈ gT := gmt (lwt2 17 rfl) rfl
theorem q_258 : Jvm.Cond.code ({ cls := "java/lang/String", name := "isLatin1", desc := "()Z" } : Jvm.MethodName) prog_17_method_154_code (1 : Nat) (Option.some Jvm.ClassFile.FieldType.boolean) ∈ gT := gmt (lwt2 18 rfl) rfl
theorem q_259 : Jvm.Cond.methodLink "java/lang/String" (495 : Nat) ({ cls := "java/lang/StringLatin1", name := "charAt", desc := "([BI)C" } : Jvm.MethodName) ∈ gT := gmt (lwt2 19 rfl) rfl
theorem q_260 : Jvm.Cond.static ({ cls := "java/lang/StringLatin1", name := "charAt", desc := "([BI)C" } : Jvm.MethodName) ∈ gT := gmt (lwt2 20 rfl) rfl
theorem q_261 : Jvm.Cond.code ({ cls := "java/lang/StringLatin1", name := "charAt", desc := "([BI)C" } : Jvm.MethodName) prog_18_method_2_code (2 : Nat) (Option.some Jvm.ClassFile.FieldType.char) ∈ gT := gmt (lwt2 21 rfl) rfl
theorem q_262 : Jvm.Cond.methodLink "java/lang/StringLatin1" (9 : Nat) ({ cls := "java/lang/String", name := "checkIndex", desc := "(II)V" } : Jvm.MethodName) ∈ gT := gmt (lwt2 22 rfl) rfl
theorem q_263 : Jvm.Cond.static ({ cls := "java/lang/String", name := "checkIndex", desc := "(II)V" } : Jvm.MethodName) ∈ gT := gmt (lwt2 23 rfl) rfl
theorem q_264 : Jvm.Cond.code ({ cls := "java/lang/String", name := "checkIndex", desc := "(II)V" } : Jvm.MethodName) prog_17_method_155_code (2 : Nat) (Option.none : Option Jvm.ClassFile.FieldType) ∈ gT := gmt (lwt2 24 rfl) rfl
theorem q_265 : Jvm.Cond.fieldLink "java/lang/String" (1053 : Nat) "jdk/internal/util/Preconditions" "SIOOBE_FORMATTER" "Ljava/util/function/BiFunction;" ∈ gT := gmt (lwt2 25 rfl) rfl
theorem q_266 : Jvm.Cond.laysStatic "jdk/internal/util/Preconditions" "SIOOBE_FORMATTER" "Ljava/util/function/BiFunction;" ∈ lw_tbl := lwt2 26 rfl
theorem q_267 : Jvm.Cond.methodLink "java/lang/String" (1059 : Nat) ({ cls := "jdk/internal/util/Preconditions", name := "checkIndex", desc := "(IILjava/util/function/BiFunction;)I" } : Jvm.MethodName) ∈ gT := gmt (lwt2 27 rfl) rfl
theorem q_268 : Jvm.Cond.static ({ cls := "jdk/internal/util/Preconditions", name := "checkIndex", desc := "(IILjava/util/function/BiFunction;)I" } : Jvm.MethodName) ∈ gT := gmt (lwt2 28 rfl) rfl
theorem q_269 : Jvm.Cond.code ({ cls := "jdk/internal/util/Preconditions", name := "checkIndex", desc := "(IILjava/util/function/BiFunction;)I" } : Jvm.MethodName) prog_21_method_11_code (3 : Nat) (Option.some Jvm.ClassFile.FieldType.int) ∈ gT := gmt (lwt2 29 rfl) rfl
theorem q_270 : Jvm.Cond.methodLink "java/lang/String" (498 : Nat) ({ cls := "java/lang/StringUTF16", name := "charAt", desc := "([BI)C" } : Jvm.MethodName) ∈ gT := gmt (lwt2 30 rfl) rfl
theorem q_271 : Jvm.Cond.static ({ cls := "java/lang/StringUTF16", name := "charAt", desc := "([BI)C" } : Jvm.MethodName) ∈ gT := gmt (lwt2 31 rfl) rfl
theorem q_272 : Jvm.Cond.code ({ cls := "java/lang/StringUTF16", name := "charAt", desc := "([BI)C" } : Jvm.MethodName) prog_19_method_83_code (2 : Nat) (Option.some Jvm.ClassFile.FieldType.char) ∈ gT := gmt (lwt2 32 rfl) rfl
theorem q_273 : Jvm.Cond.methodLink "java/lang/StringUTF16" (67 : Nat) ({ cls := "java/lang/StringUTF16", name := "checkIndex", desc := "(I[B)V" } : Jvm.MethodName) ∈ gT := gmt (lwt2 33 rfl) rfl
theorem q_274 : Jvm.Cond.static ({ cls := "java/lang/StringUTF16", name := "checkIndex", desc := "(I[B)V" } : Jvm.MethodName) ∈ gT := gmt (lwt2 34 rfl) rfl
theorem q_275 : Jvm.Cond.code ({ cls := "java/lang/StringUTF16", name := "checkIndex", desc := "(I[B)V" } : Jvm.MethodName) prog_19_method_91_code (2 : Nat) (Option.none : Option Jvm.ClassFile.FieldType) ∈ gT := gmt (lwt2 35 rfl) rfl
theorem q_276 : Jvm.Cond.methodLink "java/lang/StringUTF16" (48 : Nat) ({ cls := "java/lang/StringUTF16", name := "length", desc := "([B)I" } : Jvm.MethodName) ∈ gT := gmt (lwt2 36 rfl) rfl
theorem q_277 : Jvm.Cond.static ({ cls := "java/lang/StringUTF16", name := "length", desc := "([B)I" } : Jvm.MethodName) ∈ gT := gmt (lwt2 37 rfl) rfl
theorem q_278 : Jvm.Cond.code ({ cls := "java/lang/StringUTF16", name := "length", desc := "([B)I" } : Jvm.MethodName) prog_19_method_6_code (1 : Nat) (Option.some Jvm.ClassFile.FieldType.int) ∈ gT := gmt (lwt2 38 rfl) rfl
theorem q_279 : Jvm.Cond.methodLink "java/lang/StringUTF16" (414 : Nat) ({ cls := "java/lang/String", name := "checkIndex", desc := "(II)V" } : Jvm.MethodName) ∈ gT := gmt (lwt2 39 rfl) rfl
theorem q_280 : Jvm.Cond.methodLink "java/lang/StringUTF16" (71 : Nat) ({ cls := "java/lang/StringUTF16", name := "getChar", desc := "([BI)C" } : Jvm.MethodName) ∈ gT := gmt (lwt2 40 rfl) rfl
theorem q_281 : Jvm.Cond.static ({ cls := "java/lang/StringUTF16", name := "getChar", desc := "([BI)C" } : Jvm.MethodName) ∈ gT := gmt (lwt2 41 rfl) rfl
theorem q_282 : Jvm.Cond.code ({ cls := "java/lang/StringUTF16", name := "getChar", desc := "([BI)C" } : Jvm.MethodName) prog_19_method_5_code (2 : Nat) (Option.some Jvm.ClassFile.FieldType.char) ∈ gT := gmt (lwt2 42 rfl) rfl
theorem q_283 : Jvm.Cond.fieldLink "java/lang/StringUTF16" (44 : Nat) "java/lang/StringUTF16" "$assertionsDisabled" "Z" ∈ gT := gmt (lwt2 43 rfl) rfl
theorem q_284 : Jvm.Cond.laysStatic "java/lang/StringUTF16" "$assertionsDisabled" "Z" ∈ lw_tbl := lwt2 44 rfl
theorem q_285 : Jvm.Cond.fieldLink "java/lang/StringUTF16" (59 : Nat) "java/lang/StringUTF16" "HI_BYTE_SHIFT" "I" ∈ gT := gmt (lwt2 45 rfl) rfl
theorem q_286 : Jvm.Cond.laysStatic "java/lang/StringUTF16" "HI_BYTE_SHIFT" "I" ∈ lw_tbl := lwt2 46 rfl
theorem q_287 : Jvm.Cond.fieldLink "java/lang/StringUTF16" (63 : Nat) "java/lang/StringUTF16" "LO_BYTE_SHIFT" "I" ∈ gT := gmt (lwt2 47 rfl) rfl
theorem q_288 : Jvm.Cond.laysStatic "java/lang/StringUTF16" "LO_BYTE_SHIFT" "I" ∈ lw_tbl := lwt2 48 rfl
theorem q_289 : Jvm.Cond.methodLink "StarCustody$SkyReader" (68 : Nat) ({ cls := "StarCustody$SkyReader", name := "take", desc := "(I)V" } : Jvm.MethodName) ∈ gT := gmt (lwt2 49 rfl) rfl
theorem q_290 : Jvm.Cond.instanceMethod ({ cls := "StarCustody$SkyReader", name := "take", desc := "(I)V" } : Jvm.MethodName) ∈ gT := gmt (lwt2 50 rfl) rfl
theorem q_291 : Jvm.Cond.selects "StarCustody$SkyReader" ({ cls := "StarCustody$SkyReader", name := "take", desc := "(I)V" } : Jvm.MethodName) ({ cls := "StarCustody$SkyReader", name := "take", desc := "(I)V" } : Jvm.MethodName) ∈ gT := gmt (lwt2 51 rfl) rfl
theorem q_292 : Jvm.Cond.code ({ cls := "StarCustody$SkyReader", name := "take", desc := "(I)V" } : Jvm.MethodName) prog_9_method_5_code (2 : Nat) (Option.none : Option Jvm.ClassFile.FieldType) ∈ gT := gmt (lwt2 52 rfl) rfl
theorem q_293 : Jvm.Cond.methodLink "StarCustody$SkyReader" (42 : Nat) ({ cls := "StarCustody$SkyReader", name := "fail", desc := "()V" } : Jvm.MethodName) ∈ gT := gmt (lwt2 53 rfl) rfl
theorem q_294 : Jvm.Cond.instanceMethod ({ cls := "StarCustody$SkyReader", name := "fail", desc := "()V" } : Jvm.MethodName) ∈ gT := gmt (lwt2 54 rfl) rfl
theorem q_295 : Jvm.Cond.selects "StarCustody$SkyReader" ({ cls := "StarCustody$SkyReader", name := "fail", desc := "()V" } : Jvm.MethodName) ({ cls := "StarCustody$SkyReader", name := "fail", desc := "()V" } : Jvm.MethodName) ∈ gT := gmt (lwt2 55 rfl) rfl
theorem q_296 : Jvm.Cond.code ({ cls := "StarCustody$SkyReader", name := "fail", desc := "()V" } : Jvm.MethodName) prog_9_method_4_code (1 : Nat) (Option.none : Option Jvm.ClassFile.FieldType) ∈ gT := gmt (lwt2 56 rfl) rfl
theorem q_297 : Jvm.Cond.methodLink "StarCustody$SkyReader" (77 : Nat) ({ cls := "StarCustody$SkyReader", name := "takeNumber", desc := "()I" } : Jvm.MethodName) ∈ gT := gmt (lwt2 57 rfl) rfl
theorem q_298 : Jvm.Cond.instanceMethod ({ cls := "StarCustody$SkyReader", name := "takeNumber", desc := "()I" } : Jvm.MethodName) ∈ gT := gmt (lwt2 58 rfl) rfl
theorem q_299 : Jvm.Cond.selects "StarCustody$SkyReader" ({ cls := "StarCustody$SkyReader", name := "takeNumber", desc := "()I" } : Jvm.MethodName) ({ cls := "StarCustody$SkyReader", name := "takeNumber", desc := "()I" } : Jvm.MethodName) ∈ gT := gmt (lwt2 59 rfl) rfl
theorem q_300 : Jvm.Cond.code ({ cls := "StarCustody$SkyReader", name := "takeNumber", desc := "()I" } : Jvm.MethodName) prog_9_method_7_code (2 : Nat) (Option.some Jvm.ClassFile.FieldType.int) ∈ gT := gmt (lwt2 60 rfl) rfl
theorem q_301 : Jvm.Cond.methodLink "StarCustody$SkyReader" (80 : Nat) ({ cls := "java/lang/Math", name := "max", desc := "(II)I" } : Jvm.MethodName) ∈ gT := gmt (lwt2 61 rfl) rfl
theorem q_302 : Jvm.Cond.stringRef "StarCustody$SkyReader" (89 : Nat) "cloud " ∈ lw_tbl := lwt2 62 rfl
theorem q_303 : Jvm.Cond.stringRef "StarCustody$SkyReader" (94 : Nat) "im " ∈ lw_tbl := lwt2 63 rfl
theorem q_304 : Jvm.Cond.stringRef "StarCustody$SkyReader" (96 : Nat) "ear " ∈ lw_tbl := lwt2 64 rfl
theorem q_305 : Jvm.Cond.methodLink "StarCustody$SkyReader" (98 : Nat) ({ cls := "StarCustody$SkyReader", name := "readEither", desc := "(I)V" } : Jvm.MethodName) ∈ gT := gmt (lwt2 65 rfl) rfl
theorem q_307 : Jvm.Cond.instanceMethod ({ cls := "StarCustody$SkyReader", name := "readEither", desc := "(I)V" } : Jvm.MethodName) ∈ gT := gmt (lwt2 67 rfl) rfl
theorem q_308 : Jvm.Cond.code ({ cls := "StarCustody$SkyReader", name := "readEither", desc := "(I)V" } : Jvm.MethodName) prog_9_method_9_code (3 : Nat) (Option.none : Option Jvm.ClassFile.FieldType) ∈ gT := gmt (lwt2 68 rfl) rfl
theorem q_309 : Jvm.Cond.methodLink "StarCustody$SkyReader" (105 : Nat) ({ cls := "StarCustody$SkyReader", name := "readBoth", desc := "(I)V" } : Jvm.MethodName) ∈ gT := gmt (lwt2 69 rfl) rfl
theorem q_311 : Jvm.Cond.instanceMethod ({ cls := "StarCustody$SkyReader", name := "readBoth", desc := "(I)V" } : Jvm.MethodName) ∈ gT := gmt (lwt2 71 rfl) rfl
theorem q_312 : Jvm.Cond.code ({ cls := "StarCustody$SkyReader", name := "readBoth", desc := "(I)V" } : Jvm.MethodName) prog_9_method_10_code (3 : Nat) (Option.none : Option Jvm.ClassFile.FieldType) ∈ gT := gmt (lwt2 72 rfl) rfl
theorem q_313 : Jvm.Cond.methodLink "StarCustody$SkyReader" (108 : Nat) ({ cls := "StarCustody$SkyReader", name := "readFactor", desc := "(I)V" } : Jvm.MethodName) ∈ gT := gmt (lwt2 73 rfl) rfl
theorem q_315 : Jvm.Cond.instanceMethod ({ cls := "StarCustody$SkyReader", name := "readFactor", desc := "(I)V" } : Jvm.MethodName) ∈ gT := gmt (lwt2 75 rfl) rfl
theorem q_316 : Jvm.Cond.code ({ cls := "StarCustody$SkyReader", name := "readFactor", desc := "(I)V" } : Jvm.MethodName) prog_9_method_11_code (2 : Nat) (Option.none : Option Jvm.ClassFile.FieldType) ∈ gT := gmt (lwt2 76 rfl) rfl
theorem q_317 : Jvm.Cond.methodLink "StarCustody$SkyReader" (111 : Nat) ({ cls := "StarCustody$SkyReader", name := "readTest", desc := "()V" } : Jvm.MethodName) ∈ gT := gmt (lwt2 77 rfl) rfl
theorem q_319 : Jvm.Cond.instanceMethod ({ cls := "StarCustody$SkyReader", name := "readTest", desc := "()V" } : Jvm.MethodName) ∈ gT := gmt (lwt2 79 rfl) rfl
theorem q_320 : Jvm.Cond.code ({ cls := "StarCustody$SkyReader", name := "readTest", desc := "()V" } : Jvm.MethodName) prog_9_method_12_code (3 : Nat) (Option.none : Option Jvm.ClassFile.FieldType) ∈ gT := gmt (lwt2 80 rfl) rfl
theorem q_321 : Jvm.Cond.methodLink "StarCustody$SkyReader" (101 : Nat) ({ cls := "StarCustody$Sky", name := "add", desc := "(III)V" } : Jvm.MethodName) ∈ gT := gmt (lwt2 81 rfl) rfl
theorem q_322 : Jvm.Cond.instanceMethod ({ cls := "StarCustody$Sky", name := "add", desc := "(III)V" } : Jvm.MethodName) ∈ gT := gmt (lwt2 82 rfl) rfl
theorem q_323 : Jvm.Cond.selects "StarCustody$Sky" ({ cls := "StarCustody$Sky", name := "add", desc := "(III)V" } : Jvm.MethodName) ({ cls := "StarCustody$Sky", name := "add", desc := "(III)V" } : Jvm.MethodName) ∈ gT := gmt (lwt2 83 rfl) rfl
theorem q_324 : Jvm.Cond.code ({ cls := "StarCustody$Sky", name := "add", desc := "(III)V" } : Jvm.MethodName) prog_8_method_4_code (4 : Nat) (Option.none : Option Jvm.ClassFile.FieldType) ∈ gT := gmt (lwt2 84 rfl) rfl
theorem q_325 : Jvm.Cond.methodLinkNest "StarCustody$Sky" (35 : Nat) ({ cls := "StarCustody", name := "put", desc := "([III)V" } : Jvm.MethodName) "StarCustody" ∈ lw_tbl := lwt2 85 rfl
theorem q_326 : Jvm.Cond.static ({ cls := "StarCustody", name := "put", desc := "([III)V" } : Jvm.MethodName) ∈ gT := gmt (lwt2 86 rfl) rfl
theorem q_327 : Jvm.Cond.code ({ cls := "StarCustody", name := "put", desc := "([III)V" } : Jvm.MethodName) prog_1_method_51_code (3 : Nat) (Option.none : Option Jvm.ClassFile.FieldType) ∈ gT := gmt (lwt2 87 rfl) rfl
theorem q_328 : Jvm.Cond.methodLink "StarCustody" (73 : Nat) ({ cls := "StarCustody$Rows", name := "clear", desc := "()I" } : Jvm.MethodName) ∈ gT := gmt (lwt2 88 rfl) rfl
theorem q_329 : Jvm.Cond.instanceMethod ({ cls := "StarCustody$Rows", name := "clear", desc := "()I" } : Jvm.MethodName) ∈ gT := gmt (lwt2 89 rfl) rfl
theorem q_330 : Jvm.Cond.selects "StarCustody$Rows" ({ cls := "StarCustody$Rows", name := "clear", desc := "()I" } : Jvm.MethodName) ({ cls := "StarCustody$Rows", name := "clear", desc := "()I" } : Jvm.MethodName) ∈ gT := gmt (lwt2 90 rfl) rfl
theorem q_331 : Jvm.Cond.code ({ cls := "StarCustody$Rows", name := "clear", desc := "()I" } : Jvm.MethodName) prog_7_method_5_code (1 : Nat) (Option.some Jvm.ClassFile.FieldType.int) ∈ gT := gmt (lwt2 91 rfl) rfl
theorem q_332 : Jvm.Cond.methodLink "StarCustody" (81 : Nat) ({ cls := "StarCustody$Sky", name := "become", desc := "(LStarCustody$Sky;)V" } : Jvm.MethodName) ∈ gT := gmt (lwt2 92 rfl) rfl
theorem q_333 : Jvm.Cond.instanceMethod ({ cls := "StarCustody$Sky", name := "become", desc := "(LStarCustody$Sky;)V" } : Jvm.MethodName) ∈ gT := gmt (lwt2 93 rfl) rfl
theorem q_334 : Jvm.Cond.selects "StarCustody$Sky" ({ cls := "StarCustody$Sky", name := "become", desc := "(LStarCustody$Sky;)V" } : Jvm.MethodName) ({ cls := "StarCustody$Sky", name := "become", desc := "(LStarCustody$Sky;)V" } : Jvm.MethodName) ∈ gT := gmt (lwt2 94 rfl) rfl
theorem q_335 : Jvm.Cond.code ({ cls := "StarCustody$Sky", name := "become", desc := "(LStarCustody$Sky;)V" } : Jvm.MethodName) prog_8_method_3_code (2 : Nat) (Option.none : Option Jvm.ClassFile.FieldType) ∈ gT := gmt (lwt2 95 rfl) rfl
theorem q_336 : Jvm.Cond.methodLinkNest "StarCustody$Sky" (31 : Nat) ({ cls := "StarCustody", name := "copy", desc := "([I[I)V" } : Jvm.MethodName) "StarCustody" ∈ lw_tbl := lwt2 96 rfl
theorem q_337 : Jvm.Cond.static ({ cls := "StarCustody", name := "copy", desc := "([I[I)V" } : Jvm.MethodName) ∈ gT := gmt (lwt2 97 rfl) rfl
theorem q_338 : Jvm.Cond.code ({ cls := "StarCustody", name := "copy", desc := "([I[I)V" } : Jvm.MethodName) prog_1_method_53_code (2 : Nat) (Option.none : Option Jvm.ClassFile.FieldType) ∈ gT := gmt (lwt2 98 rfl) rfl
theorem q_339 : Jvm.Cond.methodLink "StarCustody" (176 : Nat) ({ cls := "java/lang/Math", name := "min", desc := "(II)I" } : Jvm.MethodName) ∈ gT := gmt (lwt2 99 rfl) rfl
theorem q_340 : Jvm.Cond.static ({ cls := "java/lang/Math", name := "min", desc := "(II)I" } : Jvm.MethodName) ∈ gT := gmt (lwt2 100 rfl) rfl
theorem q_341 : Jvm.Cond.code ({ cls := "java/lang/Math", name := "min", desc := "(II)I" } : Jvm.MethodName) prog_16_method_69_code (2 : Nat) (Option.some Jvm.ClassFile.FieldType.int) ∈ gT := gmt (lwt2 101 rfl) rfl
theorem q_342 : Jvm.Cond.methodLink "StarCustody" (289 : Nat) ({ cls := "java/lang/System", name := "arraycopy", desc := "(Ljava/lang/Object;ILjava/lang/Object;II)V" } : Jvm.MethodName) ∈ gT := gmt (lwt2 102 rfl) rfl
theorem q_343 : Jvm.Cond.static ({ cls := "java/lang/System", name := "arraycopy", desc := "(Ljava/lang/Object;ILjava/lang/Object;II)V" } : Jvm.MethodName) ∈ gT := gmt (lwt2 103 rfl) rfl
theorem q_344 : Jvm.Cond.native ({ cls := "java/lang/System", name := "arraycopy", desc := "(Ljava/lang/Object;ILjava/lang/Object;II)V" } : Jvm.MethodName) ∈ gT := gmt (lwt2 104 rfl) rfl
theorem q_345 : Jvm.Cond.arrayClass Jvm.ClassFile.FieldType.byte ∈ gT := gmt (lwt2 105 rfl) rfl
theorem q_346 : Jvm.Cond.methodLink "StarCustodyLaw" (23 : Nat) ({ cls := "StarCustody", name := "light", desc := "(IIII)I" } : Jvm.MethodName) ∈ gT := gmt (lwt2 106 rfl) rfl
theorem q_347 : Jvm.Cond.instanceMethod ({ cls := "StarCustody", name := "light", desc := "(IIII)I" } : Jvm.MethodName) ∈ gT := gmt (lwt2 107 rfl) rfl
theorem q_348 : Jvm.Cond.selects "StarCustody" ({ cls := "StarCustody", name := "light", desc := "(IIII)I" } : Jvm.MethodName) ({ cls := "StarCustody", name := "light", desc := "(IIII)I" } : Jvm.MethodName) ∈ gT := gmt (lwt2 108 rfl) rfl
theorem q_349 : Jvm.Cond.code ({ cls := "StarCustody", name := "light", desc := "(IIII)I" } : Jvm.MethodName) prog_1_method_4_code (5 : Nat) (Option.some Jvm.ClassFile.FieldType.int) ∈ gT := gmt (lwt2 109 rfl) rfl
theorem q_350 : Jvm.Cond.methodLink "StarCustody" (90 : Nat) ({ cls := "StarCustody", name := "newStar", desc := "(III)LStarCustody$Star;" } : Jvm.MethodName) ∈ gT := gmt (lwt2 110 rfl) rfl
theorem q_352 : Jvm.Cond.instanceMethod ({ cls := "StarCustody", name := "newStar", desc := "(III)LStarCustody$Star;" } : Jvm.MethodName) ∈ gT := gmt (lwt2 112 rfl) rfl
theorem q_353 : Jvm.Cond.code ({ cls := "StarCustody", name := "newStar", desc := "(III)LStarCustody$Star;" } : Jvm.MethodName) prog_1_method_34_code (4 : Nat) (Option.some (Jvm.ClassFile.FieldType.object "StarCustody$Star")) ∈ gT := gmt (lwt2 113 rfl) rfl
theorem q_354 : Jvm.Cond.classLink "StarCustody" (257 : Nat) "StarCustody$Moon" ∈ gT := gmt (lwt2 114 rfl) rfl
theorem q_355 : Jvm.Cond.instantiable "StarCustody$Moon" (4 : Nat) ∈ gT := gmt (lwt2 115 rfl) rfl
theorem q_356 : Jvm.Cond.methodLink "StarCustody" (259 : Nat) ({ cls := "StarCustody$Moon", name := "<init>", desc := "(IIILStarCustody$Rows;)V" } : Jvm.MethodName) ∈ gT := gmt (lwt2 116 rfl) rfl
theorem q_357 : Jvm.Cond.instanceMethod ({ cls := "StarCustody$Moon", name := "<init>", desc := "(IIILStarCustody$Rows;)V" } : Jvm.MethodName) ∈ gT := gmt (lwt2 117 rfl) rfl
theorem q_358 : Jvm.Cond.code ({ cls := "StarCustody$Moon", name := "<init>", desc := "(IIILStarCustody$Rows;)V" } : Jvm.MethodName) prog_4_method_1_code (5 : Nat) (Option.none : Option Jvm.ClassFile.FieldType) ∈ gT := gmt (lwt2 118 rfl) rfl
theorem q_359 : Jvm.Cond.methodLink "StarCustody$Moon" (1 : Nat) ({ cls := "StarCustody$Star", name := "<init>", desc := "(IIILStarCustody$Rows;)V" } : Jvm.MethodName) ∈ gT := gmt (lwt2 119 rfl) rfl
theorem q_360 : Jvm.Cond.instanceMethod ({ cls := "StarCustody$Star", name := "<init>", desc := "(IIILStarCustody$Rows;)V" } : Jvm.MethodName) ∈ gT := gmt (lwt2 120 rfl) rfl
theorem q_361 : Jvm.Cond.code ({ cls := "StarCustody$Star", name := "<init>", desc := "(IIILStarCustody$Rows;)V" } : Jvm.MethodName) prog_10_method_1_code (5 : Nat) (Option.none : Option Jvm.ClassFile.FieldType) ∈ gT := gmt (lwt2 121 rfl) rfl
theorem q_362 : Jvm.Cond.methodLink "StarCustody$Star" (1 : Nat) ({ cls := "java/lang/Object", name := "<init>", desc := "()V" } : Jvm.MethodName) ∈ gT := gmt (lwt2 122 rfl) rfl
theorem q_363 : Jvm.Cond.fieldLink "StarCustody$Star" (7 : Nat) "StarCustody$Star" "kind" "I" ∈ gT := gmt (lwt2 123 rfl) rfl
theorem q_364 : Jvm.Cond.fieldLink "StarCustody" (102 : Nat) "StarCustody$Star" "kind" "I" ∈ gT := gmt (lwt2 124 rfl) rfl
theorem q_365 : Jvm.Cond.fieldLink "StarCustody$Sky" (52 : Nat) "StarCustody$Star" "kind" "I" ∈ gT := gmt (lwt2 125 rfl) rfl
theorem q_366 : Jvm.Cond.fieldLink "StarCustody$Star" (13 : Nat) "StarCustody$Star" "number" "I" ∈ gT := gmt (lwt2 126 rfl) rfl
theorem q_367 : Jvm.Cond.fieldLink "StarCustody$Guest" (34 : Nat) "StarCustody$Guest" "number" "I" ∈ gT := gmt (lwt2 127 rfl) rfl
theorem q_368 : Jvm.Cond.sameField "StarCustody$Guest" "StarCustody$Star" "number" "I" ∈ gT := gmt (lwt2 128 rfl) rfl
theorem q_369 : Jvm.Cond.fieldLink "StarCustody$Sky" (47 : Nat) "StarCustody$Star" "number" "I" ∈ gT := gmt (lwt2 129 rfl) rfl
theorem q_370 : Jvm.Cond.fieldLink "StarCustody$Roof" (113 : Nat) "StarCustody$Star" "number" "I" ∈ gT := gmt (lwt2 130 rfl) rfl
theorem q_371 : Jvm.Cond.fieldLink "StarCustody" (282 : Nat) "StarCustody$Star" "number" "I" ∈ gT := gmt (lwt2 131 rfl) rfl
theorem q_372 : Jvm.Cond.fieldLink "StarCustody$Star" (16 : Nat) "StarCustody$Star" "v" "I" ∈ gT := gmt (lwt2 132 rfl) rfl
theorem q_373 : Jvm.Cond.fieldLink "StarCustody$Nebula" (7 : Nat) "StarCustody$Nebula" "v" "I" ∈ gT := gmt (lwt2 133 rfl) rfl
theorem q_374 : Jvm.Cond.sameField "StarCustody$Nebula" "StarCustody$Star" "v" "I" ∈ gT := gmt (lwt2 134 rfl) rfl
theorem q_375 : Jvm.Cond.fieldLink "StarCustody$Guest" (15 : Nat) "StarCustody$Guest" "v" "I" ∈ gT := gmt (lwt2 135 rfl) rfl
theorem q_376 : Jvm.Cond.sameField "StarCustody$Guest" "StarCustody$Star" "v" "I" ∈ gT := gmt (lwt2 136 rfl) rfl
theorem q_377 : Jvm.Cond.fieldLink "StarCustody$Told" (26 : Nat) "StarCustody$Told" "v" "I" ∈ gT := gmt (lwt2 137 rfl) rfl
theorem q_378 : Jvm.Cond.sameField "StarCustody$Told" "StarCustody$Star" "v" "I" ∈ gT := gmt (lwt2 138 rfl) rfl
theorem q_379 : Jvm.Cond.fieldLink "StarCustody" (107 : Nat) "StarCustody$Star" "v" "I" ∈ gT := gmt (lwt2 139 rfl) rfl
theorem q_380 : Jvm.Cond.fieldLink "StarCustody$Roof" (94 : Nat) "StarCustody$Star" "v" "I" ∈ gT := gmt (lwt2 140 rfl) rfl
theorem q_381 : Jvm.Cond.fieldLink "StarCustody$Sky" (55 : Nat) "StarCustody$Star" "v" "I" ∈ gT := gmt (lwt2 141 rfl) rfl
theorem q_382 : Jvm.Cond.fieldLink "StarCustody$Star" (19 : Nat) "StarCustody$Star" "trace" "LStarCustody$Rows;" ∈ gT := gmt (lwt2 142 rfl) rfl
theorem q_383 : Jvm.Cond.fieldLink "StarCustody$Comet" (11 : Nat) "StarCustody$Comet" "trace" "LStarCustody$Rows;" ∈ gT := gmt (lwt2 143 rfl) rfl
theorem q_384 : Jvm.Cond.sameField "StarCustody$Comet" "StarCustody$Star" "trace" "LStarCustody$Rows;" ∈ gT := gmt (lwt2 144 rfl) rfl
theorem q_385 : Jvm.Cond.fieldLink "StarCustody$Told" (11 : Nat) "StarCustody$Told" "trace" "LStarCustody$Rows;" ∈ gT := gmt (lwt2 145 rfl) rfl
theorem q_386 : Jvm.Cond.sameField "StarCustody$Told" "StarCustody$Star" "trace" "LStarCustody$Rows;" ∈ gT := gmt (lwt2 146 rfl) rfl
theorem q_387 : Jvm.Cond.fieldLink "StarCustody$Nebula" (13 : Nat) "StarCustody$Nebula" "trace" "LStarCustody$Rows;" ∈ gT := gmt (lwt2 147 rfl) rfl
theorem q_388 : Jvm.Cond.sameField "StarCustody$Nebula" "StarCustody$Star" "trace" "LStarCustody$Rows;" ∈ gT := gmt (lwt2 148 rfl) rfl
theorem q_389 : Jvm.Cond.fieldLink "StarCustody$Guest" (21 : Nat) "StarCustody$Guest" "trace" "LStarCustody$Rows;" ∈ gT := gmt (lwt2 149 rfl) rfl
theorem q_390 : Jvm.Cond.sameField "StarCustody$Guest" "StarCustody$Star" "trace" "LStarCustody$Rows;" ∈ gT := gmt (lwt2 150 rfl) rfl
theorem q_391 : Jvm.Cond.fieldLink "StarCustody$Moon" (7 : Nat) "StarCustody$Moon" "trace" "LStarCustody$Rows;" ∈ gT := gmt (lwt2 151 rfl) rfl
theorem q_392 : Jvm.Cond.sameField "StarCustody$Moon" "StarCustody$Star" "trace" "LStarCustody$Rows;" ∈ gT := gmt (lwt2 152 rfl) rfl
theorem q_393 : Jvm.Cond.fieldLink "StarCustody$Twin" (15 : Nat) "StarCustody$Twin" "trace" "LStarCustody$Rows;" ∈ gT := gmt (lwt2 153 rfl) rfl
theorem q_394 : Jvm.Cond.sameField "StarCustody$Twin" "StarCustody$Star" "trace" "LStarCustody$Rows;" ∈ gT := gmt (lwt2 154 rfl) rfl
theorem q_403 : Jvm.Cond.superclass "StarCustody$Moon" "StarCustody$Star" ∈ gT := gmt (lwt2 163 rfl) rfl
theorem q_404 : Jvm.Cond.classLink "StarCustody" (262 : Nat) "StarCustody$Comet" ∈ gT := gmt (lwt2 164 rfl) rfl
theorem q_405 : Jvm.Cond.instantiable "StarCustody$Comet" (4 : Nat) ∈ gT := gmt (lwt2 165 rfl) rfl
theorem q_406 : Jvm.Cond.methodLink "StarCustody" (264 : Nat) ({ cls := "StarCustody$Comet", name := "<init>", desc := "(IIILStarCustody$Rows;)V" } : Jvm.MethodName) ∈ gT := gmt (lwt2 166 rfl) rfl
theorem q_407 : Jvm.Cond.instanceMethod ({ cls := "StarCustody$Comet", name := "<init>", desc := "(IIILStarCustody$Rows;)V" } : Jvm.MethodName) ∈ gT := gmt (lwt2 167 rfl) rfl
theorem q_408 : Jvm.Cond.code ({ cls := "StarCustody$Comet", name := "<init>", desc := "(IIILStarCustody$Rows;)V" } : Jvm.MethodName) prog_2_method_1_code (5 : Nat) (Option.none : Option Jvm.ClassFile.FieldType) ∈ gT := gmt (lwt2 168 rfl) rfl
theorem q_409 : Jvm.Cond.methodLink "StarCustody$Comet" (1 : Nat) ({ cls := "StarCustody$Star", name := "<init>", desc := "(IIILStarCustody$Rows;)V" } : Jvm.MethodName) ∈ gT := gmt (lwt2 169 rfl) rfl
theorem q_414 : Jvm.Cond.superclass "StarCustody$Comet" "StarCustody$Star" ∈ gT := gmt (lwt2 174 rfl) rfl
theorem q_415 : Jvm.Cond.classLink "StarCustody" (265 : Nat) "StarCustody$Nebula" ∈ gT := gmt (lwt2 175 rfl) rfl
theorem q_416 : Jvm.Cond.instantiable "StarCustody$Nebula" (4 : Nat) ∈ gT := gmt (lwt2 176 rfl) rfl
theorem q_417 : Jvm.Cond.methodLink "StarCustody" (267 : Nat) ({ cls := "StarCustody$Nebula", name := "<init>", desc := "(IIILStarCustody$Rows;)V" } : Jvm.MethodName) ∈ gT := gmt (lwt2 177 rfl) rfl
theorem q_418 : Jvm.Cond.instanceMethod ({ cls := "StarCustody$Nebula", name := "<init>", desc := "(IIILStarCustody$Rows;)V" } : Jvm.MethodName) ∈ gT := gmt (lwt2 178 rfl) rfl
theorem q_419 : Jvm.Cond.code ({ cls := "StarCustody$Nebula", name := "<init>", desc := "(IIILStarCustody$Rows;)V" } : Jvm.MethodName) prog_5_method_1_code (5 : Nat) (Option.none : Option Jvm.ClassFile.FieldType) ∈ gT := gmt (lwt2 179 rfl) rfl
theorem q_420 : Jvm.Cond.methodLink "StarCustody$Nebula" (1 : Nat) ({ cls := "StarCustody$Star", name := "<init>", desc := "(IIILStarCustody$Rows;)V" } : Jvm.MethodName) ∈ gT := gmt (lwt2 180 rfl) rfl
theorem q_425 : Jvm.Cond.superclass "StarCustody$Nebula" "StarCustody$Star" ∈ gT := gmt (lwt2 185 rfl) rfl
theorem q_426 : Jvm.Cond.classLink "StarCustody" (268 : Nat) "StarCustody$Twin" ∈ gT := gmt (lwt2 186 rfl) rfl
theorem q_427 : Jvm.Cond.instantiable "StarCustody$Twin" (4 : Nat) ∈ gT := gmt (lwt2 187 rfl) rfl
theorem q_428 : Jvm.Cond.methodLink "StarCustody" (270 : Nat) ({ cls := "StarCustody$Twin", name := "<init>", desc := "(IIILStarCustody$Rows;)V" } : Jvm.MethodName) ∈ gT := gmt (lwt2 188 rfl) rfl
theorem q_429 : Jvm.Cond.instanceMethod ({ cls := "StarCustody$Twin", name := "<init>", desc := "(IIILStarCustody$Rows;)V" } : Jvm.MethodName) ∈ gT := gmt (lwt2 189 rfl) rfl
theorem q_430 : Jvm.Cond.code ({ cls := "StarCustody$Twin", name := "<init>", desc := "(IIILStarCustody$Rows;)V" } : Jvm.MethodName) prog_12_method_1_code (5 : Nat) (Option.none : Option Jvm.ClassFile.FieldType) ∈ gT := gmt (lwt2 190 rfl) rfl
theorem q_431 : Jvm.Cond.methodLink "StarCustody$Twin" (1 : Nat) ({ cls := "StarCustody$Moon", name := "<init>", desc := "(IIILStarCustody$Rows;)V" } : Jvm.MethodName) ∈ gT := gmt (lwt2 191 rfl) rfl
theorem q_436 : Jvm.Cond.superclass "StarCustody$Twin" "StarCustody$Moon" ∈ gT := gmt (lwt2 196 rfl) rfl
theorem q_437 : Jvm.Cond.classLink "StarCustody" (271 : Nat) "StarCustody$Guest" ∈ gT := gmt (lwt2 197 rfl) rfl
theorem q_438 : Jvm.Cond.instantiable "StarCustody$Guest" (4 : Nat) ∈ gT := gmt (lwt2 198 rfl) rfl
theorem q_439 : Jvm.Cond.methodLink "StarCustody" (273 : Nat) ({ cls := "StarCustody$Guest", name := "<init>", desc := "(IIILStarCustody$Rows;)V" } : Jvm.MethodName) ∈ gT := gmt (lwt2 199 rfl) rfl
theorem q_440 : Jvm.Cond.instanceMethod ({ cls := "StarCustody$Guest", name := "<init>", desc := "(IIILStarCustody$Rows;)V" } : Jvm.MethodName) ∈ gT := gmt (lwt2 200 rfl) rfl
theorem q_441 : Jvm.Cond.code ({ cls := "StarCustody$Guest", name := "<init>", desc := "(IIILStarCustody$Rows;)V" } : Jvm.MethodName) prog_3_method_1_code (5 : Nat) (Option.none : Option Jvm.ClassFile.FieldType) ∈ gT := gmt (lwt2 201 rfl) rfl
theorem q_442 : Jvm.Cond.methodLink "StarCustody$Guest" (1 : Nat) ({ cls := "StarCustody$Comet", name := "<init>", desc := "(IIILStarCustody$Rows;)V" } : Jvm.MethodName) ∈ gT := gmt (lwt2 202 rfl) rfl
theorem q_447 : Jvm.Cond.superclass "StarCustody$Guest" "StarCustody$Comet" ∈ gT := gmt (lwt2 207 rfl) rfl
theorem q_448 : Jvm.Cond.classLink "StarCustody" (274 : Nat) "StarCustody$Told" ∈ gT := gmt (lwt2 208 rfl) rfl
theorem q_449 : Jvm.Cond.instantiable "StarCustody$Told" (4 : Nat) ∈ gT := gmt (lwt2 209 rfl) rfl
theorem q_450 : Jvm.Cond.methodLink "StarCustody" (276 : Nat) ({ cls := "StarCustody$Told", name := "<init>", desc := "(IIILStarCustody$Rows;)V" } : Jvm.MethodName) ∈ gT := gmt (lwt2 210 rfl) rfl
theorem q_451 : Jvm.Cond.instanceMethod ({ cls := "StarCustody$Told", name := "<init>", desc := "(IIILStarCustody$Rows;)V" } : Jvm.MethodName) ∈ gT := gmt (lwt2 211 rfl) rfl
theorem q_452 : Jvm.Cond.code ({ cls := "StarCustody$Told", name := "<init>", desc := "(IIILStarCustody$Rows;)V" } : Jvm.MethodName) prog_11_method_1_code (5 : Nat) (Option.none : Option Jvm.ClassFile.FieldType) ∈ gT := gmt (lwt2 212 rfl) rfl
theorem q_453 : Jvm.Cond.methodLink "StarCustody$Told" (1 : Nat) ({ cls := "StarCustody$Nebula", name := "<init>", desc := "(IIILStarCustody$Rows;)V" } : Jvm.MethodName) ∈ gT := gmt (lwt2 213 rfl) rfl
theorem q_458 : Jvm.Cond.superclass "StarCustody$Told" "StarCustody$Nebula" ∈ gT := gmt (lwt2 218 rfl) rfl
theorem q_459 : Jvm.Cond.classLink "StarCustody" (103 : Nat) "StarCustody$Star" ∈ gT := gmt (lwt2 219 rfl) rfl
theorem q_460 : Jvm.Cond.instantiable "StarCustody$Star" (4 : Nat) ∈ gT := gmt (lwt2 220 rfl) rfl
theorem q_461 : Jvm.Cond.methodLink "StarCustody" (277 : Nat) ({ cls := "StarCustody$Star", name := "<init>", desc := "(IIILStarCustody$Rows;)V" } : Jvm.MethodName) ∈ gT := gmt (lwt2 221 rfl) rfl
theorem q_466 : Jvm.Cond.superclass "StarCustody$Star" "java/lang/Object" ∈ gT := gmt (lwt2 226 rfl) rfl
theorem q_467 : Jvm.Cond.methodLink "StarCustody" (94 : Nat) ({ cls := "StarCustody$Roof", name := "come", desc := "(LStarCustody$Star;II)V" } : Jvm.MethodName) ∈ gT := gmt (lwt2 227 rfl) rfl
theorem q_468 : Jvm.Cond.instanceMethod ({ cls := "StarCustody$Roof", name := "come", desc := "(LStarCustody$Star;II)V" } : Jvm.MethodName) ∈ gT := gmt (lwt2 228 rfl) rfl
theorem q_469 : Jvm.Cond.selects "StarCustody$Roof" ({ cls := "StarCustody$Roof", name := "come", desc := "(LStarCustody$Star;II)V" } : Jvm.MethodName) ({ cls := "StarCustody$Roof", name := "come", desc := "(LStarCustody$Star;II)V" } : Jvm.MethodName) ∈ gT := gmt (lwt2 229 rfl) rfl
theorem q_470 : Jvm.Cond.code ({ cls := "StarCustody$Roof", name := "come", desc := "(LStarCustody$Star;II)V" } : Jvm.MethodName) prog_6_method_3_code (5 : Nat) (Option.none : Option Jvm.ClassFile.FieldType) ∈ gT := gmt (lwt2 230 rfl) rfl
theorem q_471 : Jvm.Cond.methodLinkNest "StarCustody$Roof" (79 : Nat) ({ cls := "StarCustody", name := "put", desc := "([III)V" } : Jvm.MethodName) "StarCustody" ∈ lw_tbl := lwt2 231 rfl
theorem q_472 : Jvm.Cond.methodLink "StarCustodyLaw" (28 : Nat) ({ cls := "StarCustody", name := "of", desc := "(II)I" } : Jvm.MethodName) ∈ gT := gmt (lwt2 232 rfl) rfl
theorem q_473 : Jvm.Cond.instanceMethod ({ cls := "StarCustody", name := "of", desc := "(II)I" } : Jvm.MethodName) ∈ gT := gmt (lwt2 233 rfl) rfl
theorem q_474 : Jvm.Cond.selects "StarCustody" ({ cls := "StarCustody", name := "of", desc := "(II)I" } : Jvm.MethodName) ({ cls := "StarCustody", name := "of", desc := "(II)I" } : Jvm.MethodName) ∈ gT := gmt (lwt2 234 rfl) rfl
theorem q_475 : Jvm.Cond.code ({ cls := "StarCustody", name := "of", desc := "(II)I" } : Jvm.MethodName) prog_1_method_5_code (4 : Nat) (Option.some Jvm.ClassFile.FieldType.int) ∈ gT := gmt (lwt2 235 rfl) rfl
theorem q_476 : Jvm.Cond.methodLink "StarCustody" (98 : Nat) ({ cls := "StarCustody$Roof", name := "starAt", desc := "(I)LStarCustody$Star;" } : Jvm.MethodName) ∈ gT := gmt (lwt2 236 rfl) rfl
theorem q_477 : Jvm.Cond.instanceMethod ({ cls := "StarCustody$Roof", name := "starAt", desc := "(I)LStarCustody$Star;" } : Jvm.MethodName) ∈ gT := gmt (lwt2 237 rfl) rfl
theorem q_478 : Jvm.Cond.selects "StarCustody$Roof" ({ cls := "StarCustody$Roof", name := "starAt", desc := "(I)LStarCustody$Star;" } : Jvm.MethodName) ({ cls := "StarCustody$Roof", name := "starAt", desc := "(I)LStarCustody$Star;" } : Jvm.MethodName) ∈ gT := gmt (lwt2 238 rfl) rfl
theorem q_479 : Jvm.Cond.code ({ cls := "StarCustody$Roof", name := "starAt", desc := "(I)LStarCustody$Star;" } : Jvm.MethodName) prog_6_method_4_code (2 : Nat) (Option.some (Jvm.ClassFile.FieldType.object "StarCustody$Star")) ∈ gT := gmt (lwt2 239 rfl) rfl
theorem q_480 : Jvm.Cond.methodLink "StarCustody" (113 : Nat) ({ cls := "StarCustody", name := "at", desc := "([II)I" } : Jvm.MethodName) ∈ gT := gmt (lwt3 0 rfl) rfl
theorem q_481 : Jvm.Cond.methodLink "StarCustody" (123 : Nat) ({ cls := "StarCustody", name := "bitOf", desc := "(II)I" } : Jvm.MethodName) ∈ gT := gmt (lwt3 1 rfl) rfl
theorem q_482 : Jvm.Cond.static ({ cls := "StarCustody", name := "bitOf", desc := "(II)I" } : Jvm.MethodName) ∈ gT := gmt (lwt3 2 rfl) rfl
theorem q_483 : Jvm.Cond.code ({ cls := "StarCustody", name := "bitOf", desc := "(II)I" } : Jvm.MethodName) prog_1_method_48_code (2 : Nat) (Option.some Jvm.ClassFile.FieldType.int) ∈ gT := gmt (lwt3 3 rfl) rfl
theorem q_484 : Jvm.Cond.methodLink "StarCustody" (130 : Nat) ({ cls := "StarCustody$Roof", name := "isUp", desc := "(III)Z" } : Jvm.MethodName) ∈ gT := gmt (lwt3 4 rfl) rfl
theorem q_485 : Jvm.Cond.instanceMethod ({ cls := "StarCustody$Roof", name := "isUp", desc := "(III)Z" } : Jvm.MethodName) ∈ gT := gmt (lwt3 5 rfl) rfl
theorem q_486 : Jvm.Cond.selects "StarCustody$Roof" ({ cls := "StarCustody$Roof", name := "isUp", desc := "(III)Z" } : Jvm.MethodName) ({ cls := "StarCustody$Roof", name := "isUp", desc := "(III)Z" } : Jvm.MethodName) ∈ gT := gmt (lwt3 6 rfl) rfl
theorem q_487 : Jvm.Cond.code ({ cls := "StarCustody$Roof", name := "isUp", desc := "(III)Z" } : Jvm.MethodName) prog_6_method_6_code (5 : Nat) (Option.some Jvm.ClassFile.FieldType.boolean) ∈ gT := gmt (lwt3 7 rfl) rfl
theorem q_488 : Jvm.Cond.methodLink "StarCustody$Roof" (86 : Nat) ({ cls := "StarCustody$Roof", name := "starAt", desc := "(I)LStarCustody$Star;" } : Jvm.MethodName) ∈ gT := gmt (lwt3 8 rfl) rfl
theorem q_489 : Jvm.Cond.methodLinkNest "StarCustody$Roof" (90 : Nat) ({ cls := "StarCustody", name := "bitOf", desc := "(II)I" } : Jvm.MethodName) "StarCustody" ∈ lw_tbl := lwt3 9 rfl
theorem q_490 : Jvm.Cond.methodLinkNest "StarCustody$Roof" (97 : Nat) ({ cls := "StarCustody", name := "at", desc := "([II)I" } : Jvm.MethodName) "StarCustody" ∈ lw_tbl := lwt3 10 rfl
theorem q_491 : Jvm.Cond.methodLink "StarCustody$Roof" (101 : Nat) ({ cls := "StarCustody$Star", name := "isOver", desc := "(IIII)Z" } : Jvm.MethodName) ∈ gT := gmt (lwt3 11 rfl) rfl
theorem q_492 : Jvm.Cond.instanceMethod ({ cls := "StarCustody$Star", name := "isOver", desc := "(IIII)Z" } : Jvm.MethodName) ∈ gT := gmt (lwt3 12 rfl) rfl
theorem q_493 : Jvm.Cond.selects "StarCustody$Star" ({ cls := "StarCustody$Star", name := "isOver", desc := "(IIII)Z" } : Jvm.MethodName) ({ cls := "StarCustody$Star", name := "isOver", desc := "(IIII)Z" } : Jvm.MethodName) ∈ gT := gmt (lwt3 13 rfl) rfl
theorem q_494 : Jvm.Cond.sameMethod "StarCustody$Star" "StarCustody$Star" "isOver" "(IIII)Z" ∈ gT := gmt (lwt3 14 rfl) rfl
theorem q_495 : Jvm.Cond.selects "StarCustody$Comet" ({ cls := "StarCustody$Star", name := "isOver", desc := "(IIII)Z" } : Jvm.MethodName) ({ cls := "StarCustody$Comet", name := "isOver", desc := "(IIII)Z" } : Jvm.MethodName) ∈ gT := gmt (lwt3 15 rfl) rfl
theorem q_496 : Jvm.Cond.instanceMethod ({ cls := "StarCustody$Comet", name := "isOver", desc := "(IIII)Z" } : Jvm.MethodName) ∈ gT := gmt (lwt3 16 rfl) rfl
theorem q_497 : Jvm.Cond.code ({ cls := "StarCustody$Comet", name := "isOver", desc := "(IIII)Z" } : Jvm.MethodName) prog_2_method_2_code (5 : Nat) (Option.some Jvm.ClassFile.FieldType.boolean) ∈ gT := gmt (lwt3 17 rfl) rfl
theorem q_498 : Jvm.Cond.methodLink "StarCustody$Comet" (7 : Nat) ({ cls := "StarCustody$Star", name := "isOver", desc := "(IIII)Z" } : Jvm.MethodName) ∈ gT := gmt (lwt3 18 rfl) rfl
theorem q_499 : Jvm.Cond.selects "StarCustody$Guest" ({ cls := "StarCustody$Star", name := "isOver", desc := "(IIII)Z" } : Jvm.MethodName) ({ cls := "StarCustody$Guest", name := "isOver", desc := "(IIII)Z" } : Jvm.MethodName) ∈ gT := gmt (lwt3 19 rfl) rfl
theorem q_500 : Jvm.Cond.instanceMethod ({ cls := "StarCustody$Guest", name := "isOver", desc := "(IIII)Z" } : Jvm.MethodName) ∈ gT := gmt (lwt3 20 rfl) rfl
theorem q_501 : Jvm.Cond.code ({ cls := "StarCustody$Guest", name := "isOver", desc := "(IIII)Z" } : Jvm.MethodName) prog_3_method_2_code (5 : Nat) (Option.some Jvm.ClassFile.FieldType.boolean) ∈ gT := gmt (lwt3 21 rfl) rfl
theorem q_502 : Jvm.Cond.methodLink "StarCustody$Guest" (7 : Nat) ({ cls := "StarCustody$Comet", name := "isOver", desc := "(IIII)Z" } : Jvm.MethodName) ∈ gT := gmt (lwt3 22 rfl) rfl
theorem q_503 : Jvm.Cond.selects "StarCustody$Moon" ({ cls := "StarCustody$Star", name := "isOver", desc := "(IIII)Z" } : Jvm.MethodName) ({ cls := "StarCustody$Moon", name := "isOver", desc := "(IIII)Z" } : Jvm.MethodName) ∈ gT := gmt (lwt3 23 rfl) rfl
theorem q_504 : Jvm.Cond.instanceMethod ({ cls := "StarCustody$Moon", name := "isOver", desc := "(IIII)Z" } : Jvm.MethodName) ∈ gT := gmt (lwt3 24 rfl) rfl
theorem q_505 : Jvm.Cond.code ({ cls := "StarCustody$Moon", name := "isOver", desc := "(IIII)Z" } : Jvm.MethodName) prog_4_method_2_code (5 : Nat) (Option.some Jvm.ClassFile.FieldType.boolean) ∈ gT := gmt (lwt3 25 rfl) rfl
theorem q_506 : Jvm.Cond.selects "StarCustody$Nebula" ({ cls := "StarCustody$Star", name := "isOver", desc := "(IIII)Z" } : Jvm.MethodName) ({ cls := "StarCustody$Star", name := "isOver", desc := "(IIII)Z" } : Jvm.MethodName) ∈ gT := gmt (lwt3 26 rfl) rfl
theorem q_507 : Jvm.Cond.selects "StarCustody$Told" ({ cls := "StarCustody$Star", name := "isOver", desc := "(IIII)Z" } : Jvm.MethodName) ({ cls := "StarCustody$Star", name := "isOver", desc := "(IIII)Z" } : Jvm.MethodName) ∈ gT := gmt (lwt3 27 rfl) rfl
theorem q_508 : Jvm.Cond.selects "StarCustody$Twin" ({ cls := "StarCustody$Star", name := "isOver", desc := "(IIII)Z" } : Jvm.MethodName) ({ cls := "StarCustody$Twin", name := "isOver", desc := "(IIII)Z" } : Jvm.MethodName) ∈ gT := gmt (lwt3 28 rfl) rfl
theorem q_509 : Jvm.Cond.instanceMethod ({ cls := "StarCustody$Twin", name := "isOver", desc := "(IIII)Z" } : Jvm.MethodName) ∈ gT := gmt (lwt3 29 rfl) rfl
theorem q_510 : Jvm.Cond.code ({ cls := "StarCustody$Twin", name := "isOver", desc := "(IIII)Z" } : Jvm.MethodName) prog_12_method_2_code (5 : Nat) (Option.some Jvm.ClassFile.FieldType.boolean) ∈ gT := gmt (lwt3 30 rfl) rfl
theorem q_511 : Jvm.Cond.methodLink "StarCustody$Twin" (7 : Nat) ({ cls := "StarCustody$Moon", name := "isOver", desc := "(IIII)Z" } : Jvm.MethodName) ∈ gT := gmt (lwt3 31 rfl) rfl
theorem q_512 : Jvm.Cond.code ({ cls := "StarCustody$Star", name := "isOver", desc := "(IIII)Z" } : Jvm.MethodName) prog_10_method_2_code (5 : Nat) (Option.some Jvm.ClassFile.FieldType.boolean) ∈ gT := gmt (lwt3 32 rfl) rfl
theorem q_513 : Jvm.Cond.methodLink "StarCustodyLaw" (33 : Nat) ({ cls := "StarCustody", name := "base", desc := "(III)I" } : Jvm.MethodName) ∈ gT := gmt (lwt3 33 rfl) rfl
theorem q_514 : Jvm.Cond.instanceMethod ({ cls := "StarCustody", name := "base", desc := "(III)I" } : Jvm.MethodName) ∈ gT := gmt (lwt3 34 rfl) rfl
theorem q_515 : Jvm.Cond.selects "StarCustody" ({ cls := "StarCustody", name := "base", desc := "(III)I" } : Jvm.MethodName) ({ cls := "StarCustody", name := "base", desc := "(III)I" } : Jvm.MethodName) ∈ gT := gmt (lwt3 35 rfl) rfl
theorem q_516 : Jvm.Cond.code ({ cls := "StarCustody", name := "base", desc := "(III)I" } : Jvm.MethodName) prog_1_method_6_code (5 : Nat) (Option.some Jvm.ClassFile.FieldType.int) ∈ gT := gmt (lwt3 36 rfl) rfl
theorem q_517 : Jvm.Cond.constant "StarCustody" (133 : Nat) (-9999999 : Int32) ∈ gT := gmt (lwt3 37 rfl) rfl
theorem q_518 : Jvm.Cond.methodLink "StarCustody" (134 : Nat) ({ cls := "StarCustody$Sky", name := "baseOf", desc := "(LStarCustody$Star;II)I" } : Jvm.MethodName) ∈ gT := gmt (lwt3 38 rfl) rfl
theorem q_519 : Jvm.Cond.instanceMethod ({ cls := "StarCustody$Sky", name := "baseOf", desc := "(LStarCustody$Star;II)I" } : Jvm.MethodName) ∈ gT := gmt (lwt3 39 rfl) rfl
theorem q_520 : Jvm.Cond.selects "StarCustody$Sky" ({ cls := "StarCustody$Sky", name := "baseOf", desc := "(LStarCustody$Star;II)I" } : Jvm.MethodName) ({ cls := "StarCustody$Sky", name := "baseOf", desc := "(LStarCustody$Star;II)I" } : Jvm.MethodName) ∈ gT := gmt (lwt3 40 rfl) rfl
theorem q_521 : Jvm.Cond.code ({ cls := "StarCustody$Sky", name := "baseOf", desc := "(LStarCustody$Star;II)I" } : Jvm.MethodName) prog_8_method_5_code (8 : Nat) (Option.some Jvm.ClassFile.FieldType.int) ∈ gT := gmt (lwt3 41 rfl) rfl
theorem q_522 : Jvm.Cond.methodLinkNest "StarCustody$Sky" (39 : Nat) ({ cls := "StarCustody", name := "at", desc := "([II)I" } : Jvm.MethodName) "StarCustody" ∈ lw_tbl := lwt3 42 rfl
theorem q_523 : Jvm.Cond.methodLink "StarCustody$Sky" (43 : Nat) ({ cls := "StarCustody$Sky", name := "factOf", desc := "(ILStarCustody$Star;II)I" } : Jvm.MethodName) ∈ gT := gmt (lwt3 43 rfl) rfl
theorem q_524 : Jvm.Cond.static ({ cls := "StarCustody$Sky", name := "factOf", desc := "(ILStarCustody$Star;II)I" } : Jvm.MethodName) ∈ gT := gmt (lwt3 44 rfl) rfl
theorem q_525 : Jvm.Cond.code ({ cls := "StarCustody$Sky", name := "factOf", desc := "(ILStarCustody$Star;II)I" } : Jvm.MethodName) prog_8_method_6_code (4 : Nat) (Option.some Jvm.ClassFile.FieldType.int) ∈ gT := gmt (lwt3 45 rfl) rfl
theorem q_526 : Jvm.Cond.methodLink "StarCustodyLaw" (38 : Nat) ({ cls := "StarCustody", name := "worth", desc := "(III)I" } : Jvm.MethodName) ∈ gT := gmt (lwt3 46 rfl) rfl
theorem q_527 : Jvm.Cond.instanceMethod ({ cls := "StarCustody", name := "worth", desc := "(III)I" } : Jvm.MethodName) ∈ gT := gmt (lwt3 47 rfl) rfl
theorem q_528 : Jvm.Cond.selects "StarCustody" ({ cls := "StarCustody", name := "worth", desc := "(III)I" } : Jvm.MethodName) ({ cls := "StarCustody", name := "worth", desc := "(III)I" } : Jvm.MethodName) ∈ gT := gmt (lwt3 48 rfl) rfl
theorem q_529 : Jvm.Cond.code ({ cls := "StarCustody", name := "worth", desc := "(III)I" } : Jvm.MethodName) prog_1_method_7_code (5 : Nat) (Option.some Jvm.ClassFile.FieldType.int) ∈ gT := gmt (lwt3 49 rfl) rfl
theorem q_530 : Jvm.Cond.methodLink "StarCustody" (138 : Nat) ({ cls := "StarCustody$Roof", name := "worthOf", desc := "(LStarCustody$Star;II)I" } : Jvm.MethodName) ∈ gT := gmt (lwt3 50 rfl) rfl
theorem q_531 : Jvm.Cond.instanceMethod ({ cls := "StarCustody$Roof", name := "worthOf", desc := "(LStarCustody$Star;II)I" } : Jvm.MethodName) ∈ gT := gmt (lwt3 51 rfl) rfl
theorem q_532 : Jvm.Cond.selects "StarCustody$Roof" ({ cls := "StarCustody$Roof", name := "worthOf", desc := "(LStarCustody$Star;II)I" } : Jvm.MethodName) ({ cls := "StarCustody$Roof", name := "worthOf", desc := "(LStarCustody$Star;II)I" } : Jvm.MethodName) ∈ gT := gmt (lwt3 52 rfl) rfl
theorem q_533 : Jvm.Cond.code ({ cls := "StarCustody$Roof", name := "worthOf", desc := "(LStarCustody$Star;II)I" } : Jvm.MethodName) prog_6_method_8_code (5 : Nat) (Option.some Jvm.ClassFile.FieldType.int) ∈ gT := gmt (lwt3 53 rfl) rfl
theorem q_534 : Jvm.Cond.methodLink "StarCustody$Roof" (116 : Nat) ({ cls := "StarCustody$Sky", name := "baseOf", desc := "(LStarCustody$Star;II)I" } : Jvm.MethodName) ∈ gT := gmt (lwt3 54 rfl) rfl
theorem q_535 : Jvm.Cond.methodLink "StarCustody$Roof" (120 : Nat) ({ cls := "StarCustody$Star", name := "worthBy", desc := "(III)I" } : Jvm.MethodName) ∈ gT := gmt (lwt3 55 rfl) rfl
theorem q_536 : Jvm.Cond.instanceMethod ({ cls := "StarCustody$Star", name := "worthBy", desc := "(III)I" } : Jvm.MethodName) ∈ gT := gmt (lwt3 56 rfl) rfl
theorem q_537 : Jvm.Cond.selects "StarCustody$Star" ({ cls := "StarCustody$Star", name := "worthBy", desc := "(III)I" } : Jvm.MethodName) ({ cls := "StarCustody$Star", name := "worthBy", desc := "(III)I" } : Jvm.MethodName) ∈ gT := gmt (lwt3 57 rfl) rfl
theorem q_538 : Jvm.Cond.sameMethod "StarCustody$Star" "StarCustody$Star" "worthBy" "(III)I" ∈ gT := gmt (lwt3 58 rfl) rfl
theorem q_539 : Jvm.Cond.selects "StarCustody$Comet" ({ cls := "StarCustody$Star", name := "worthBy", desc := "(III)I" } : Jvm.MethodName) ({ cls := "StarCustody$Star", name := "worthBy", desc := "(III)I" } : Jvm.MethodName) ∈ gT := gmt (lwt3 59 rfl) rfl
theorem q_540 : Jvm.Cond.selects "StarCustody$Guest" ({ cls := "StarCustody$Star", name := "worthBy", desc := "(III)I" } : Jvm.MethodName) ({ cls := "StarCustody$Guest", name := "worthBy", desc := "(III)I" } : Jvm.MethodName) ∈ gT := gmt (lwt3 60 rfl) rfl
theorem q_541 : Jvm.Cond.instanceMethod ({ cls := "StarCustody$Guest", name := "worthBy", desc := "(III)I" } : Jvm.MethodName) ∈ gT := gmt (lwt3 61 rfl) rfl
theorem q_542 : Jvm.Cond.code ({ cls := "StarCustody$Guest", name := "worthBy", desc := "(III)I" } : Jvm.MethodName) prog_3_method_3_code (4 : Nat) (Option.some Jvm.ClassFile.FieldType.int) ∈ gT := gmt (lwt3 62 rfl) rfl
theorem q_543 : Jvm.Cond.methodLink "StarCustody$Guest" (11 : Nat) ({ cls := "StarCustody$Comet", name := "worthBy", desc := "(III)I" } : Jvm.MethodName) ∈ gT := gmt (lwt3 63 rfl) rfl
theorem q_544 : Jvm.Cond.sameMethod "StarCustody$Comet" "StarCustody$Star" "worthBy" "(III)I" ∈ gT := gmt (lwt3 64 rfl) rfl
theorem q_545 : Jvm.Cond.declares ({ cls := "StarCustody$Star", name := "worthBy", desc := "(III)I" } : Jvm.MethodName) ∈ lw_tbl := lwt3 65 rfl
theorem q_546 : Jvm.Cond.selects "StarCustody$Moon" ({ cls := "StarCustody$Star", name := "worthBy", desc := "(III)I" } : Jvm.MethodName) ({ cls := "StarCustody$Moon", name := "worthBy", desc := "(III)I" } : Jvm.MethodName) ∈ gT := gmt (lwt3 66 rfl) rfl
theorem q_547 : Jvm.Cond.instanceMethod ({ cls := "StarCustody$Moon", name := "worthBy", desc := "(III)I" } : Jvm.MethodName) ∈ gT := gmt (lwt3 67 rfl) rfl
theorem q_548 : Jvm.Cond.code ({ cls := "StarCustody$Moon", name := "worthBy", desc := "(III)I" } : Jvm.MethodName) prog_4_method_3_code (4 : Nat) (Option.some Jvm.ClassFile.FieldType.int) ∈ gT := gmt (lwt3 68 rfl) rfl
theorem q_549 : Jvm.Cond.selects "StarCustody$Nebula" ({ cls := "StarCustody$Star", name := "worthBy", desc := "(III)I" } : Jvm.MethodName) ({ cls := "StarCustody$Nebula", name := "worthBy", desc := "(III)I" } : Jvm.MethodName) ∈ gT := gmt (lwt3 69 rfl) rfl
theorem q_550 : Jvm.Cond.instanceMethod ({ cls := "StarCustody$Nebula", name := "worthBy", desc := "(III)I" } : Jvm.MethodName) ∈ gT := gmt (lwt3 70 rfl) rfl
theorem q_551 : Jvm.Cond.code ({ cls := "StarCustody$Nebula", name := "worthBy", desc := "(III)I" } : Jvm.MethodName) prog_5_method_2_code (4 : Nat) (Option.some Jvm.ClassFile.FieldType.int) ∈ gT := gmt (lwt3 71 rfl) rfl
theorem q_552 : Jvm.Cond.selects "StarCustody$Told" ({ cls := "StarCustody$Star", name := "worthBy", desc := "(III)I" } : Jvm.MethodName) ({ cls := "StarCustody$Told", name := "worthBy", desc := "(III)I" } : Jvm.MethodName) ∈ gT := gmt (lwt3 72 rfl) rfl
theorem q_553 : Jvm.Cond.instanceMethod ({ cls := "StarCustody$Told", name := "worthBy", desc := "(III)I" } : Jvm.MethodName) ∈ gT := gmt (lwt3 73 rfl) rfl
theorem q_554 : Jvm.Cond.code ({ cls := "StarCustody$Told", name := "worthBy", desc := "(III)I" } : Jvm.MethodName) prog_11_method_2_code (4 : Nat) (Option.some Jvm.ClassFile.FieldType.int) ∈ gT := gmt (lwt3 74 rfl) rfl
theorem q_555 : Jvm.Cond.methodLink "StarCustody$Told" (7 : Nat) ({ cls := "StarCustody$Nebula", name := "worthBy", desc := "(III)I" } : Jvm.MethodName) ∈ gT := gmt (lwt3 75 rfl) rfl
theorem q_556 : Jvm.Cond.selects "StarCustody$Twin" ({ cls := "StarCustody$Star", name := "worthBy", desc := "(III)I" } : Jvm.MethodName) ({ cls := "StarCustody$Twin", name := "worthBy", desc := "(III)I" } : Jvm.MethodName) ∈ gT := gmt (lwt3 76 rfl) rfl
theorem q_557 : Jvm.Cond.instanceMethod ({ cls := "StarCustody$Twin", name := "worthBy", desc := "(III)I" } : Jvm.MethodName) ∈ gT := gmt (lwt3 77 rfl) rfl
theorem q_558 : Jvm.Cond.code ({ cls := "StarCustody$Twin", name := "worthBy", desc := "(III)I" } : Jvm.MethodName) prog_12_method_3_code (4 : Nat) (Option.some Jvm.ClassFile.FieldType.int) ∈ gT := gmt (lwt3 78 rfl) rfl
theorem q_559 : Jvm.Cond.methodLink "StarCustody$Twin" (11 : Nat) ({ cls := "StarCustody$Moon", name := "worthBy", desc := "(III)I" } : Jvm.MethodName) ∈ gT := gmt (lwt3 79 rfl) rfl
theorem q_560 : Jvm.Cond.code ({ cls := "StarCustody$Star", name := "worthBy", desc := "(III)I" } : Jvm.MethodName) prog_10_method_3_code (4 : Nat) (Option.some Jvm.ClassFile.FieldType.int) ∈ gT := gmt (lwt3 80 rfl) rfl
theorem q_561 : Jvm.Cond.methodLink "StarCustody$Roof" (124 : Nat) ({ cls := "java/lang/Math", name := "max", desc := "(II)I" } : Jvm.MethodName) ∈ gT := gmt (lwt3 81 rfl) rfl
theorem q_562 : Jvm.Cond.methodLink "StarCustodyLaw" (42 : Nat) ({ cls := "StarCustody", name := "row", desc := "(III)I" } : Jvm.MethodName) ∈ gT := gmt (lwt3 82 rfl) rfl
theorem q_563 : Jvm.Cond.instanceMethod ({ cls := "StarCustody", name := "row", desc := "(III)I" } : Jvm.MethodName) ∈ gT := gmt (lwt3 83 rfl) rfl
theorem q_564 : Jvm.Cond.selects "StarCustody" ({ cls := "StarCustody", name := "row", desc := "(III)I" } : Jvm.MethodName) ({ cls := "StarCustody", name := "row", desc := "(III)I" } : Jvm.MethodName) ∈ gT := gmt (lwt3 84 rfl) rfl
theorem q_565 : Jvm.Cond.code ({ cls := "StarCustody", name := "row", desc := "(III)I" } : Jvm.MethodName) prog_1_method_8_code (5 : Nat) (Option.some Jvm.ClassFile.FieldType.int) ∈ gT := gmt (lwt3 85 rfl) rfl
theorem q_566 : Jvm.Cond.methodLink "StarCustody" (144 : Nat) ({ cls := "StarCustody", name := "swap", desc := "([III)I" } : Jvm.MethodName) ∈ gT := gmt (lwt3 86 rfl) rfl
theorem q_567 : Jvm.Cond.static ({ cls := "StarCustody", name := "swap", desc := "([III)I" } : Jvm.MethodName) ∈ gT := gmt (lwt3 87 rfl) rfl
theorem q_568 : Jvm.Cond.code ({ cls := "StarCustody", name := "swap", desc := "([III)I" } : Jvm.MethodName) prog_1_method_52_code (4 : Nat) (Option.some Jvm.ClassFile.FieldType.int) ∈ gT := gmt (lwt3 88 rfl) rfl
theorem q_569 : Jvm.Cond.methodLink "StarCustody" (181 : Nat) ({ cls := "StarCustody", name := "put", desc := "([III)V" } : Jvm.MethodName) ∈ gT := gmt (lwt3 89 rfl) rfl
theorem q_570 : Jvm.Cond.methodLink "StarCustodyLaw" (46 : Nat) ({ cls := "StarCustody", name := "set", desc := "(III)I" } : Jvm.MethodName) ∈ gT := gmt (lwt3 90 rfl) rfl
theorem q_571 : Jvm.Cond.instanceMethod ({ cls := "StarCustody", name := "set", desc := "(III)I" } : Jvm.MethodName) ∈ gT := gmt (lwt3 91 rfl) rfl
theorem q_572 : Jvm.Cond.selects "StarCustody" ({ cls := "StarCustody", name := "set", desc := "(III)I" } : Jvm.MethodName) ({ cls := "StarCustody", name := "set", desc := "(III)I" } : Jvm.MethodName) ∈ gT := gmt (lwt3 92 rfl) rfl
theorem q_573 : Jvm.Cond.code ({ cls := "StarCustody", name := "set", desc := "(III)I" } : Jvm.MethodName) prog_1_method_9_code (4 : Nat) (Option.some Jvm.ClassFile.FieldType.int) ∈ gT := gmt (lwt3 93 rfl) rfl
theorem q_574 : Jvm.Cond.methodLink "StarCustodyLaw" (50 : Nat) ({ cls := "StarCustody", name := "hide", desc := "(IZ)I" } : Jvm.MethodName) ∈ gT := gmt (lwt3 94 rfl) rfl
theorem q_575 : Jvm.Cond.instanceMethod ({ cls := "StarCustody", name := "hide", desc := "(IZ)I" } : Jvm.MethodName) ∈ gT := gmt (lwt3 95 rfl) rfl
theorem q_576 : Jvm.Cond.selects "StarCustody" ({ cls := "StarCustody", name := "hide", desc := "(IZ)I" } : Jvm.MethodName) ({ cls := "StarCustody", name := "hide", desc := "(IZ)I" } : Jvm.MethodName) ∈ gT := gmt (lwt3 96 rfl) rfl
theorem q_577 : Jvm.Cond.code ({ cls := "StarCustody", name := "hide", desc := "(IZ)I" } : Jvm.MethodName) prog_1_method_10_code (4 : Nat) (Option.some Jvm.ClassFile.FieldType.int) ∈ gT := gmt (lwt3 97 rfl) rfl
theorem q_578 : Jvm.Cond.methodLink "StarCustody" (148 : Nat) ({ cls := "StarCustody", name := "withBit", desc := "(IIZ)I" } : Jvm.MethodName) ∈ gT := gmt (lwt3 98 rfl) rfl
theorem q_579 : Jvm.Cond.static ({ cls := "StarCustody", name := "withBit", desc := "(IIZ)I" } : Jvm.MethodName) ∈ gT := gmt (lwt3 99 rfl) rfl
theorem q_580 : Jvm.Cond.code ({ cls := "StarCustody", name := "withBit", desc := "(IIZ)I" } : Jvm.MethodName) prog_1_method_49_code (3 : Nat) (Option.some Jvm.ClassFile.FieldType.int) ∈ gT := gmt (lwt3 100 rfl) rfl
theorem q_581 : Jvm.Cond.methodLink "StarCustodyLaw" (55 : Nat) ({ cls := "StarCustody", name := "told", desc := "(I)I" } : Jvm.MethodName) ∈ gT := gmt (lwt3 101 rfl) rfl
theorem q_582 : Jvm.Cond.instanceMethod ({ cls := "StarCustody", name := "told", desc := "(I)I" } : Jvm.MethodName) ∈ gT := gmt (lwt3 102 rfl) rfl
theorem q_583 : Jvm.Cond.selects "StarCustody" ({ cls := "StarCustody", name := "told", desc := "(I)I" } : Jvm.MethodName) ({ cls := "StarCustody", name := "told", desc := "(I)I" } : Jvm.MethodName) ∈ gT := gmt (lwt3 103 rfl) rfl
theorem q_584 : Jvm.Cond.code ({ cls := "StarCustody", name := "told", desc := "(I)I" } : Jvm.MethodName) prog_1_method_11_code (2 : Nat) (Option.some Jvm.ClassFile.FieldType.int) ∈ gT := gmt (lwt3 104 rfl) rfl
theorem q_585 : Jvm.Cond.methodLink "StarCustody" (158 : Nat) ({ cls := "StarCustody$Roof", name := "turnOf", desc := "(I)I" } : Jvm.MethodName) ∈ gT := gmt (lwt3 105 rfl) rfl
theorem q_586 : Jvm.Cond.instanceMethod ({ cls := "StarCustody$Roof", name := "turnOf", desc := "(I)I" } : Jvm.MethodName) ∈ gT := gmt (lwt3 106 rfl) rfl
theorem q_587 : Jvm.Cond.selects "StarCustody$Roof" ({ cls := "StarCustody$Roof", name := "turnOf", desc := "(I)I" } : Jvm.MethodName) ({ cls := "StarCustody$Roof", name := "turnOf", desc := "(I)I" } : Jvm.MethodName) ∈ gT := gmt (lwt3 107 rfl) rfl
theorem q_588 : Jvm.Cond.code ({ cls := "StarCustody$Roof", name := "turnOf", desc := "(I)I" } : Jvm.MethodName) prog_6_method_5_code (2 : Nat) (Option.some Jvm.ClassFile.FieldType.int) ∈ gT := gmt (lwt3 108 rfl) rfl
theorem q_589 : Jvm.Cond.methodLink "StarCustody" (161 : Nat) ({ cls := "StarCustody", name := "isClouded", desc := "(II)Z" } : Jvm.MethodName) ∈ gT := gmt (lwt3 109 rfl) rfl
theorem q_590 : Jvm.Cond.static ({ cls := "StarCustody", name := "isClouded", desc := "(II)Z" } : Jvm.MethodName) ∈ gT := gmt (lwt3 110 rfl) rfl
theorem q_591 : Jvm.Cond.code ({ cls := "StarCustody", name := "isClouded", desc := "(II)Z" } : Jvm.MethodName) prog_1_method_46_code (2 : Nat) (Option.some Jvm.ClassFile.FieldType.boolean) ∈ gT := gmt (lwt3 111 rfl) rfl
theorem q_592 : Jvm.Cond.methodLink "StarCustody" (165 : Nat) ({ cls := "StarCustody$Roof", name := "upBits", desc := "(I)I" } : Jvm.MethodName) ∈ gT := gmt (lwt3 112 rfl) rfl
theorem q_593 : Jvm.Cond.instanceMethod ({ cls := "StarCustody$Roof", name := "upBits", desc := "(I)I" } : Jvm.MethodName) ∈ gT := gmt (lwt3 113 rfl) rfl
theorem q_594 : Jvm.Cond.selects "StarCustody$Roof" ({ cls := "StarCustody$Roof", name := "upBits", desc := "(I)I" } : Jvm.MethodName) ({ cls := "StarCustody$Roof", name := "upBits", desc := "(I)I" } : Jvm.MethodName) ∈ gT := gmt (lwt3 114 rfl) rfl
theorem q_595 : Jvm.Cond.code ({ cls := "StarCustody$Roof", name := "upBits", desc := "(I)I" } : Jvm.MethodName) prog_6_method_7_code (4 : Nat) (Option.some Jvm.ClassFile.FieldType.int) ∈ gT := gmt (lwt3 115 rfl) rfl
theorem q_596 : Jvm.Cond.methodLink "StarCustody$Roof" (105 : Nat) ({ cls := "StarCustody$Roof", name := "isUp", desc := "(III)Z" } : Jvm.MethodName) ∈ gT := gmt (lwt3 116 rfl) rfl
theorem q_597 : Jvm.Cond.methodLinkNest "StarCustody$Roof" (109 : Nat) ({ cls := "StarCustody", name := "withBit", desc := "(IIZ)I" } : Jvm.MethodName) "StarCustody" ∈ lw_tbl := lwt3 117 rfl
theorem q_598 : Jvm.Cond.methodLink "StarCustody" (171 : Nat) ({ cls := "StarCustody$Roof", name := "hasFor", desc := "(IIII)I" } : Jvm.MethodName) ∈ gT := gmt (lwt3 118 rfl) rfl
theorem q_599 : Jvm.Cond.instanceMethod ({ cls := "StarCustody$Roof", name := "hasFor", desc := "(IIII)I" } : Jvm.MethodName) ∈ gT := gmt (lwt3 119 rfl) rfl
theorem q_600 : Jvm.Cond.selects "StarCustody$Roof" ({ cls := "StarCustody$Roof", name := "hasFor", desc := "(IIII)I" } : Jvm.MethodName) ({ cls := "StarCustody$Roof", name := "hasFor", desc := "(IIII)I" } : Jvm.MethodName) ∈ gT := gmt (lwt3 120 rfl) rfl
theorem q_601 : Jvm.Cond.code ({ cls := "StarCustody$Roof", name := "hasFor", desc := "(IIII)I" } : Jvm.MethodName) prog_6_method_9_code (8 : Nat) (Option.some Jvm.ClassFile.FieldType.int) ∈ gT := gmt (lwt3 121 rfl) rfl
theorem q_602 : Jvm.Cond.methodLinkNest "StarCustody$Roof" (129 : Nat) ({ cls := "StarCustody", name := "isClouded", desc := "(II)Z" } : Jvm.MethodName) "StarCustody" ∈ lw_tbl := lwt3 122 rfl
theorem q_603 : Jvm.Cond.methodLink "StarCustody$Roof" (133 : Nat) ({ cls := "StarCustody$Roof", name := "worthOf", desc := "(LStarCustody$Star;II)I" } : Jvm.MethodName) ∈ gT := gmt (lwt3 123 rfl) rfl
theorem q_604 : Jvm.Cond.methodLink "StarCustodyLaw" (59 : Nat) ({ cls := "StarCustody", name := "pass", desc := "(I)I" } : Jvm.MethodName) ∈ gT := gmt (lwt3 124 rfl) rfl
theorem q_605 : Jvm.Cond.instanceMethod ({ cls := "StarCustody", name := "pass", desc := "(I)I" } : Jvm.MethodName) ∈ gT := gmt (lwt3 125 rfl) rfl
theorem q_606 : Jvm.Cond.selects "StarCustody" ({ cls := "StarCustody", name := "pass", desc := "(I)I" } : Jvm.MethodName) ({ cls := "StarCustody", name := "pass", desc := "(I)I" } : Jvm.MethodName) ∈ gT := gmt (lwt3 126 rfl) rfl
theorem q_607 : Jvm.Cond.code ({ cls := "StarCustody", name := "pass", desc := "(I)I" } : Jvm.MethodName) prog_1_method_12_code (5 : Nat) (Option.some Jvm.ClassFile.FieldType.int) ∈ gT := gmt (lwt3 127 rfl) rfl
theorem q_608 : Jvm.Cond.constant "StarCustody" (175 : Nat) (9999999 : Int32) ∈ gT := gmt (lwt3 128 rfl) rfl
theorem q_609 : Jvm.Cond.methodLink "StarCustodyLaw" (63 : Nat) ({ cls := "StarCustody", name := "on", desc := "(II)I" } : Jvm.MethodName) ∈ gT := gmt (lwt3 129 rfl) rfl
theorem q_610 : Jvm.Cond.instanceMethod ({ cls := "StarCustody", name := "on", desc := "(II)I" } : Jvm.MethodName) ∈ gT := gmt (lwt3 130 rfl) rfl
theorem q_611 : Jvm.Cond.selects "StarCustody" ({ cls := "StarCustody", name := "on", desc := "(II)I" } : Jvm.MethodName) ({ cls := "StarCustody", name := "on", desc := "(II)I" } : Jvm.MethodName) ∈ gT := gmt (lwt3 131 rfl) rfl
theorem q_612 : Jvm.Cond.code ({ cls := "StarCustody", name := "on", desc := "(II)I" } : Jvm.MethodName) prog_1_method_13_code (5 : Nat) (Option.some Jvm.ClassFile.FieldType.int) ∈ gT := gmt (lwt3 132 rfl) rfl
theorem q_613 : Jvm.Cond.methodLink "StarCustody" (185 : Nat) ({ cls := "java/lang/Integer", name := "bitCount", desc := "(I)I" } : Jvm.MethodName) ∈ gT := gmt (lwt3 133 rfl) rfl
theorem q_614 : Jvm.Cond.static ({ cls := "java/lang/Integer", name := "bitCount", desc := "(I)I" } : Jvm.MethodName) ∈ gT := gmt (lwt3 134 rfl) rfl
theorem q_615 : Jvm.Cond.code ({ cls := "java/lang/Integer", name := "bitCount", desc := "(I)I" } : Jvm.MethodName) prog_15_method_49_code (1 : Nat) (Option.some Jvm.ClassFile.FieldType.int) ∈ gT := gmt (lwt3 135 rfl) rfl
theorem q_616 : Jvm.Cond.constant "java/lang/Integer" (265 : Nat) (1431655765 : Int32) ∈ gT := gmt (lwt3 136 rfl) rfl
theorem q_617 : Jvm.Cond.constant "java/lang/Integer" (266 : Nat) (858993459 : Int32) ∈ gT := gmt (lwt3 137 rfl) rfl
theorem q_618 : Jvm.Cond.constant "java/lang/Integer" (267 : Nat) (252645135 : Int32) ∈ gT := gmt (lwt3 138 rfl) rfl
theorem q_619 : Jvm.Cond.methodLink "StarCustodyLaw" (67 : Nat) ({ cls := "StarCustody", name := "when", desc := "(I)I" } : Jvm.MethodName) ∈ gT := gmt (lwt3 139 rfl) rfl
theorem q_620 : Jvm.Cond.instanceMethod ({ cls := "StarCustody", name := "when", desc := "(I)I" } : Jvm.MethodName) ∈ gT := gmt (lwt3 140 rfl) rfl
theorem q_621 : Jvm.Cond.selects "StarCustody" ({ cls := "StarCustody", name := "when", desc := "(I)I" } : Jvm.MethodName) ({ cls := "StarCustody", name := "when", desc := "(I)I" } : Jvm.MethodName) ∈ gT := gmt (lwt3 141 rfl) rfl
theorem q_622 : Jvm.Cond.code ({ cls := "StarCustody", name := "when", desc := "(I)I" } : Jvm.MethodName) prog_1_method_14_code (2 : Nat) (Option.some Jvm.ClassFile.FieldType.int) ∈ gT := gmt (lwt3 142 rfl) rfl
theorem q_623 : Jvm.Cond.methodLink "StarCustody" (190 : Nat) ({ cls := "StarCustody", name := "nightsTill", desc := "(II)I" } : Jvm.MethodName) ∈ gT := gmt (lwt3 143 rfl) rfl
theorem q_625 : Jvm.Cond.instanceMethod ({ cls := "StarCustody", name := "nightsTill", desc := "(II)I" } : Jvm.MethodName) ∈ gT := gmt (lwt3 145 rfl) rfl
theorem q_626 : Jvm.Cond.code ({ cls := "StarCustody", name := "nightsTill", desc := "(II)I" } : Jvm.MethodName) prog_1_method_36_code (5 : Nat) (Option.some Jvm.ClassFile.FieldType.int) ∈ gT := gmt (lwt3 146 rfl) rfl
theorem q_627 : Jvm.Cond.methodLink "StarCustodyLaw" (71 : Nat) ({ cls := "StarCustody", name := "meet", desc := "(II)I" } : Jvm.MethodName) ∈ gT := gmt (lwt3 147 rfl) rfl
theorem q_628 : Jvm.Cond.instanceMethod ({ cls := "StarCustody", name := "meet", desc := "(II)I" } : Jvm.MethodName) ∈ gT := gmt (lwt3 148 rfl) rfl
theorem q_629 : Jvm.Cond.selects "StarCustody" ({ cls := "StarCustody", name := "meet", desc := "(II)I" } : Jvm.MethodName) ({ cls := "StarCustody", name := "meet", desc := "(II)I" } : Jvm.MethodName) ∈ gT := gmt (lwt3 149 rfl) rfl
theorem q_630 : Jvm.Cond.code ({ cls := "StarCustody", name := "meet", desc := "(II)I" } : Jvm.MethodName) prog_1_method_15_code (3 : Nat) (Option.some Jvm.ClassFile.FieldType.int) ∈ gT := gmt (lwt3 150 rfl) rfl
theorem q_631 : Jvm.Cond.methodLink "StarCustodyLaw" (75 : Nat) ({ cls := "StarCustody", name := "deal", desc := "(III)I" } : Jvm.MethodName) ∈ gT := gmt (lwt3 151 rfl) rfl
theorem q_632 : Jvm.Cond.instanceMethod ({ cls := "StarCustody", name := "deal", desc := "(III)I" } : Jvm.MethodName) ∈ gT := gmt (lwt3 152 rfl) rfl
theorem q_633 : Jvm.Cond.selects "StarCustody" ({ cls := "StarCustody", name := "deal", desc := "(III)I" } : Jvm.MethodName) ({ cls := "StarCustody", name := "deal", desc := "(III)I" } : Jvm.MethodName) ∈ gT := gmt (lwt3 153 rfl) rfl
theorem q_634 : Jvm.Cond.code ({ cls := "StarCustody", name := "deal", desc := "(III)I" } : Jvm.MethodName) prog_1_method_16_code (5 : Nat) (Option.some Jvm.ClassFile.FieldType.int) ∈ gT := gmt (lwt3 154 rfl) rfl
theorem q_635 : Jvm.Cond.methodLink "StarCustody" (193 : Nat) ({ cls := "StarCustody", name := "fullestWay", desc := "([I[II)I" } : Jvm.MethodName) ∈ gT := gmt (lwt3 155 rfl) rfl
theorem q_636 : Jvm.Cond.static ({ cls := "StarCustody", name := "fullestWay", desc := "([I[II)I" } : Jvm.MethodName) ∈ gT := gmt (lwt3 156 rfl) rfl
theorem q_637 : Jvm.Cond.code ({ cls := "StarCustody", name := "fullestWay", desc := "([I[II)I" } : Jvm.MethodName) prog_1_method_37_code (5 : Nat) (Option.some Jvm.ClassFile.FieldType.int) ∈ gT := gmt (lwt3 157 rfl) rfl
theorem q_638 : Jvm.Cond.methodLink "StarCustody" (197 : Nat) ({ cls := "StarCustody", name := "evenestWay", desc := "([I[II)I" } : Jvm.MethodName) ∈ gT := gmt (lwt3 158 rfl) rfl
theorem q_639 : Jvm.Cond.static ({ cls := "StarCustody", name := "evenestWay", desc := "([I[II)I" } : Jvm.MethodName) ∈ gT := gmt (lwt3 159 rfl) rfl
theorem q_640 : Jvm.Cond.code ({ cls := "StarCustody", name := "evenestWay", desc := "([I[II)I" } : Jvm.MethodName) prog_1_method_38_code (10 : Nat) (Option.some Jvm.ClassFile.FieldType.int) ∈ gT := gmt (lwt3 160 rfl) rfl
theorem q_641 : Jvm.Cond.methodLink "StarCustody" (200 : Nat) ({ cls := "StarCustody", name := "given", desc := "([IIII)I" } : Jvm.MethodName) ∈ gT := gmt (lwt3 161 rfl) rfl
theorem q_642 : Jvm.Cond.static ({ cls := "StarCustody", name := "given", desc := "([IIII)I" } : Jvm.MethodName) ∈ gT := gmt (lwt3 162 rfl) rfl
theorem q_643 : Jvm.Cond.code ({ cls := "StarCustody", name := "given", desc := "([IIII)I" } : Jvm.MethodName) prog_1_method_40_code (6 : Nat) (Option.some Jvm.ClassFile.FieldType.int) ∈ gT := gmt (lwt3 163 rfl) rfl
theorem q_644 : Jvm.Cond.methodLink "StarCustodyLaw" (79 : Nat) ({ cls := "StarCustody", name := "shares", desc := "(I)I" } : Jvm.MethodName) ∈ gT := gmt (lwt3 164 rfl) rfl
theorem q_645 : Jvm.Cond.instanceMethod ({ cls := "StarCustody", name := "shares", desc := "(I)I" } : Jvm.MethodName) ∈ gT := gmt (lwt3 165 rfl) rfl
theorem q_646 : Jvm.Cond.selects "StarCustody" ({ cls := "StarCustody", name := "shares", desc := "(I)I" } : Jvm.MethodName) ({ cls := "StarCustody", name := "shares", desc := "(I)I" } : Jvm.MethodName) ∈ gT := gmt (lwt3 166 rfl) rfl
theorem q_647 : Jvm.Cond.code ({ cls := "StarCustody", name := "shares", desc := "(I)I" } : Jvm.MethodName) prog_1_method_17_code (3 : Nat) (Option.some Jvm.ClassFile.FieldType.int) ∈ gT := gmt (lwt3 167 rfl) rfl
theorem q_648 : Jvm.Cond.methodLink "StarCustody" (204 : Nat) ({ cls := "StarCustody", name := "monthOf", desc := "(II)I" } : Jvm.MethodName) ∈ gT := gmt (lwt3 168 rfl) rfl
theorem q_650 : Jvm.Cond.instanceMethod ({ cls := "StarCustody", name := "monthOf", desc := "(II)I" } : Jvm.MethodName) ∈ gT := gmt (lwt3 170 rfl) rfl
theorem q_651 : Jvm.Cond.code ({ cls := "StarCustody", name := "monthOf", desc := "(II)I" } : Jvm.MethodName) prog_1_method_41_code (7 : Nat) (Option.some Jvm.ClassFile.FieldType.int) ∈ gT := gmt (lwt3 171 rfl) rfl
theorem q_652 : Jvm.Cond.methodLink "StarCustody" (207 : Nat) ({ cls := "StarCustody", name := "noEnvyWay", desc := "([I[II)I" } : Jvm.MethodName) ∈ gT := gmt (lwt3 172 rfl) rfl
theorem q_653 : Jvm.Cond.static ({ cls := "StarCustody", name := "noEnvyWay", desc := "([I[II)I" } : Jvm.MethodName) ∈ gT := gmt (lwt3 173 rfl) rfl
theorem q_654 : Jvm.Cond.code ({ cls := "StarCustody", name := "noEnvyWay", desc := "([I[II)I" } : Jvm.MethodName) prog_1_method_39_code (4 : Nat) (Option.some Jvm.ClassFile.FieldType.int) ∈ gT := gmt (lwt3 174 rfl) rfl
theorem q_655 : Jvm.Cond.methodLink "StarCustodyLaw" (83 : Nat) ({ cls := "StarCustody", name := "note", desc := "(IIZ)I" } : Jvm.MethodName) ∈ gT := gmt (lwt3 175 rfl) rfl
theorem q_656 : Jvm.Cond.instanceMethod ({ cls := "StarCustody", name := "note", desc := "(IIZ)I" } : Jvm.MethodName) ∈ gT := gmt (lwt3 176 rfl) rfl
theorem q_657 : Jvm.Cond.selects "StarCustody" ({ cls := "StarCustody", name := "note", desc := "(IIZ)I" } : Jvm.MethodName) ({ cls := "StarCustody", name := "note", desc := "(IIZ)I" } : Jvm.MethodName) ∈ gT := gmt (lwt3 177 rfl) rfl
theorem q_658 : Jvm.Cond.code ({ cls := "StarCustody", name := "note", desc := "(IIZ)I" } : Jvm.MethodName) prog_1_method_18_code (4 : Nat) (Option.some Jvm.ClassFile.FieldType.int) ∈ gT := gmt (lwt3 178 rfl) rfl
theorem q_659 : Jvm.Cond.methodLink "StarCustody" (213 : Nat) ({ cls := "StarCustody$Rows", name := "add", desc := "(III)I" } : Jvm.MethodName) ∈ gT := gmt (lwt3 179 rfl) rfl
theorem q_660 : Jvm.Cond.instanceMethod ({ cls := "StarCustody$Rows", name := "add", desc := "(III)I" } : Jvm.MethodName) ∈ gT := gmt (lwt3 180 rfl) rfl
theorem q_661 : Jvm.Cond.selects "StarCustody$Rows" ({ cls := "StarCustody$Rows", name := "add", desc := "(III)I" } : Jvm.MethodName) ({ cls := "StarCustody$Rows", name := "add", desc := "(III)I" } : Jvm.MethodName) ∈ gT := gmt (lwt3 181 rfl) rfl
theorem q_662 : Jvm.Cond.code ({ cls := "StarCustody$Rows", name := "add", desc := "(III)I" } : Jvm.MethodName) prog_7_method_4_code (4 : Nat) (Option.some Jvm.ClassFile.FieldType.int) ∈ gT := gmt (lwt3 182 rfl) rfl
theorem q_663 : Jvm.Cond.methodLinkNest "StarCustody$Rows" (29 : Nat) ({ cls := "StarCustody", name := "put", desc := "([III)V" } : Jvm.MethodName) "StarCustody" ∈ lw_tbl := lwt3 183 rfl
theorem q_664 : Jvm.Cond.methodLink "StarCustodyLaw" (88 : Nat) ({ cls := "StarCustody", name := "rounds", desc := "(II)I" } : Jvm.MethodName) ∈ gT := gmt (lwt3 184 rfl) rfl
theorem q_665 : Jvm.Cond.instanceMethod ({ cls := "StarCustody", name := "rounds", desc := "(II)I" } : Jvm.MethodName) ∈ gT := gmt (lwt3 185 rfl) rfl
theorem q_666 : Jvm.Cond.selects "StarCustody" ({ cls := "StarCustody", name := "rounds", desc := "(II)I" } : Jvm.MethodName) ({ cls := "StarCustody", name := "rounds", desc := "(II)I" } : Jvm.MethodName) ∈ gT := gmt (lwt3 186 rfl) rfl
theorem q_667 : Jvm.Cond.code ({ cls := "StarCustody", name := "rounds", desc := "(II)I" } : Jvm.MethodName) prog_1_method_19_code (3 : Nat) (Option.some Jvm.ClassFile.FieldType.int) ∈ gT := gmt (lwt3 187 rfl) rfl
theorem q_668 : Jvm.Cond.methodLink "StarCustody" (217 : Nat) ({ cls := "StarCustody", name := "fitting", desc := "(III)I" } : Jvm.MethodName) ∈ gT := gmt (lwt3 188 rfl) rfl
theorem q_670 : Jvm.Cond.instanceMethod ({ cls := "StarCustody", name := "fitting", desc := "(III)I" } : Jvm.MethodName) ∈ gT := gmt (lwt3 190 rfl) rfl
theorem q_671 : Jvm.Cond.code ({ cls := "StarCustody", name := "fitting", desc := "(III)I" } : Jvm.MethodName) prog_1_method_42_code (10 : Nat) (Option.some Jvm.ClassFile.FieldType.int) ∈ gT := gmt (lwt3 191 rfl) rfl
theorem q_672 : Jvm.Cond.methodLink "StarCustody" (278 : Nat) ({ cls := "StarCustody", name := "isAsNoted", desc := "(LStarCustody$Star;II)Z" } : Jvm.MethodName) ∈ gT := gmt (lwt3 192 rfl) rfl
theorem q_674 : Jvm.Cond.instanceMethod ({ cls := "StarCustody", name := "isAsNoted", desc := "(LStarCustody$Star;II)Z" } : Jvm.MethodName) ∈ gT := gmt (lwt3 194 rfl) rfl
theorem q_675 : Jvm.Cond.code ({ cls := "StarCustody", name := "isAsNoted", desc := "(LStarCustody$Star;II)Z" } : Jvm.MethodName) prog_1_method_43_code (10 : Nat) (Option.some Jvm.ClassFile.FieldType.boolean) ∈ gT := gmt (lwt3 195 rfl) rfl
theorem q_676 : Jvm.Cond.methodLink "StarCustody" (235 : Nat) ({ cls := "StarCustody$Rows", name := "cell", desc := "(II)I" } : Jvm.MethodName) ∈ gT := gmt (lwt3 196 rfl) rfl
theorem q_677 : Jvm.Cond.instanceMethod ({ cls := "StarCustody$Rows", name := "cell", desc := "(II)I" } : Jvm.MethodName) ∈ gT := gmt (lwt3 197 rfl) rfl
theorem q_678 : Jvm.Cond.selects "StarCustody$Rows" ({ cls := "StarCustody$Rows", name := "cell", desc := "(II)I" } : Jvm.MethodName) ({ cls := "StarCustody$Rows", name := "cell", desc := "(II)I" } : Jvm.MethodName) ∈ gT := gmt (lwt3 198 rfl) rfl
theorem q_679 : Jvm.Cond.code ({ cls := "StarCustody$Rows", name := "cell", desc := "(II)I" } : Jvm.MethodName) prog_7_method_6_code (3 : Nat) (Option.some Jvm.ClassFile.FieldType.int) ∈ gT := gmt (lwt3 199 rfl) rfl
theorem q_680 : Jvm.Cond.methodLinkNest "StarCustody$Rows" (35 : Nat) ({ cls := "StarCustody", name := "at", desc := "([II)I" } : Jvm.MethodName) "StarCustody" ∈ lw_tbl := lwt3 200 rfl
theorem q_681 : Jvm.Cond.methodLink "StarCustody" (285 : Nat) ({ cls := "StarCustody$Star", name := "isOver", desc := "(IIII)Z" } : Jvm.MethodName) ∈ gT := gmt (lwt3 201 rfl) rfl
theorem q_682 : Jvm.Cond.methodLink "StarCustodyLaw" (92 : Nat) ({ cls := "StarCustody", name := "phases", desc := "(II)I" } : Jvm.MethodName) ∈ gT := gmt (lwt3 202 rfl) rfl
theorem q_683 : Jvm.Cond.instanceMethod ({ cls := "StarCustody", name := "phases", desc := "(II)I" } : Jvm.MethodName) ∈ gT := gmt (lwt3 203 rfl) rfl
theorem q_684 : Jvm.Cond.selects "StarCustody" ({ cls := "StarCustody", name := "phases", desc := "(II)I" } : Jvm.MethodName) ({ cls := "StarCustody", name := "phases", desc := "(II)I" } : Jvm.MethodName) ∈ gT := gmt (lwt3 204 rfl) rfl
theorem q_685 : Jvm.Cond.code ({ cls := "StarCustody", name := "phases", desc := "(II)I" } : Jvm.MethodName) prog_1_method_20_code (3 : Nat) (Option.some Jvm.ClassFile.FieldType.int) ∈ gT := gmt (lwt3 205 rfl) rfl
theorem q_686 : Jvm.Cond.methodLink "StarCustodyLaw" (96 : Nat) ({ cls := "StarCustody", name := "firm", desc := "(II)I" } : Jvm.MethodName) ∈ gT := gmt (lwt3 206 rfl) rfl
theorem q_687 : Jvm.Cond.instanceMethod ({ cls := "StarCustody", name := "firm", desc := "(II)I" } : Jvm.MethodName) ∈ gT := gmt (lwt3 207 rfl) rfl
theorem q_688 : Jvm.Cond.selects "StarCustody" ({ cls := "StarCustody", name := "firm", desc := "(II)I" } : Jvm.MethodName) ({ cls := "StarCustody", name := "firm", desc := "(II)I" } : Jvm.MethodName) ∈ gT := gmt (lwt3 208 rfl) rfl
theorem q_689 : Jvm.Cond.code ({ cls := "StarCustody", name := "firm", desc := "(II)I" } : Jvm.MethodName) prog_1_method_21_code (3 : Nat) (Option.some Jvm.ClassFile.FieldType.int) ∈ gT := gmt (lwt3 209 rfl) rfl
theorem q_690 : Jvm.Cond.methodLink "StarCustodyLaw" (100 : Nat) ({ cls := "StarCustody", name := "odds", desc := "(IIII)J" } : Jvm.MethodName) ∈ gT := gmt (lwt3 210 rfl) rfl
theorem q_691 : Jvm.Cond.instanceMethod ({ cls := "StarCustody", name := "odds", desc := "(IIII)J" } : Jvm.MethodName) ∈ gT := gmt (lwt3 211 rfl) rfl
theorem q_692 : Jvm.Cond.selects "StarCustody" ({ cls := "StarCustody", name := "odds", desc := "(IIII)J" } : Jvm.MethodName) ({ cls := "StarCustody", name := "odds", desc := "(IIII)J" } : Jvm.MethodName) ∈ gT := gmt (lwt3 212 rfl) rfl
theorem q_693 : Jvm.Cond.code ({ cls := "StarCustody", name := "odds", desc := "(IIII)J" } : Jvm.MethodName) prog_1_method_22_code (7 : Nat) (Option.some Jvm.ClassFile.FieldType.long) ∈ gT := gmt (lwt3 213 rfl) rfl
theorem q_694 : Jvm.Cond.constantLong "StarCustody" (220 : Nat) (-9223372036854775808 : Int64) ∈ gT := gmt (lwt3 214 rfl) rfl
theorem q_695 : Jvm.Cond.methodLink "StarCustody" (222 : Nat) ({ cls := "StarCustody", name := "seenUnder", desc := "(II)I" } : Jvm.MethodName) ∈ gT := gmt (lwt3 215 rfl) rfl
theorem q_697 : Jvm.Cond.instanceMethod ({ cls := "StarCustody", name := "seenUnder", desc := "(II)I" } : Jvm.MethodName) ∈ gT := gmt (lwt3 217 rfl) rfl
theorem q_698 : Jvm.Cond.code ({ cls := "StarCustody", name := "seenUnder", desc := "(II)I" } : Jvm.MethodName) prog_1_method_44_code (5 : Nat) (Option.some Jvm.ClassFile.FieldType.int) ∈ gT := gmt (lwt3 218 rfl) rfl
theorem q_699 : Jvm.Cond.methodLink "StarCustody" (225 : Nat) ({ cls := "StarCustody", name := "lowest", desc := "(III)J" } : Jvm.MethodName) ∈ gT := gmt (lwt3 219 rfl) rfl
theorem q_700 : Jvm.Cond.static ({ cls := "StarCustody", name := "lowest", desc := "(III)J" } : Jvm.MethodName) ∈ gT := gmt (lwt3 220 rfl) rfl
theorem q_701 : Jvm.Cond.code ({ cls := "StarCustody", name := "lowest", desc := "(III)J" } : Jvm.MethodName) prog_1_method_45_code (5 : Nat) (Option.some Jvm.ClassFile.FieldType.long) ∈ gT := gmt (lwt3 221 rfl) rfl
theorem q_702 : Jvm.Cond.methodLink "StarCustodyLaw" (105 : Nat) ({ cls := "StarCustody", name := "mean", desc := "(II)J" } : Jvm.MethodName) ∈ gT := gmt (lwt3 222 rfl) rfl
theorem q_703 : Jvm.Cond.instanceMethod ({ cls := "StarCustody", name := "mean", desc := "(II)J" } : Jvm.MethodName) ∈ gT := gmt (lwt3 223 rfl) rfl
theorem q_704 : Jvm.Cond.selects "StarCustody" ({ cls := "StarCustody", name := "mean", desc := "(II)J" } : Jvm.MethodName) ({ cls := "StarCustody", name := "mean", desc := "(II)J" } : Jvm.MethodName) ∈ gT := gmt (lwt3 224 rfl) rfl
theorem q_705 : Jvm.Cond.code ({ cls := "StarCustody", name := "mean", desc := "(II)J" } : Jvm.MethodName) prog_1_method_23_code (5 : Nat) (Option.some Jvm.ClassFile.FieldType.long) ∈ gT := gmt (lwt3 225 rfl) rfl
theorem q_706 : Jvm.Cond.methodLink "StarCustodyLaw" (110 : Nat) ({ cls := "StarCustody", name := "plan", desc := "(II)I" } : Jvm.MethodName) ∈ gT := gmt (lwt3 226 rfl) rfl
theorem q_707 : Jvm.Cond.instanceMethod ({ cls := "StarCustody", name := "plan", desc := "(II)I" } : Jvm.MethodName) ∈ gT := gmt (lwt3 227 rfl) rfl
theorem q_708 : Jvm.Cond.selects "StarCustody" ({ cls := "StarCustody", name := "plan", desc := "(II)I" } : Jvm.MethodName) ({ cls := "StarCustody", name := "plan", desc := "(II)I" } : Jvm.MethodName) ∈ gT := gmt (lwt3 228 rfl) rfl
theorem q_709 : Jvm.Cond.code ({ cls := "StarCustody", name := "plan", desc := "(II)I" } : Jvm.MethodName) prog_1_method_24_code (3 : Nat) (Option.some Jvm.ClassFile.FieldType.int) ∈ gT := gmt (lwt3 229 rfl) rfl
theorem q_710 : Jvm.Cond.methodLink "StarCustodyLaw" (114 : Nat) ({ cls := "StarCustody", name := "done", desc := "(I)I" } : Jvm.MethodName) ∈ gT := gmt (lwt3 230 rfl) rfl
theorem q_711 : Jvm.Cond.instanceMethod ({ cls := "StarCustody", name := "done", desc := "(I)I" } : Jvm.MethodName) ∈ gT := gmt (lwt3 231 rfl) rfl
theorem q_712 : Jvm.Cond.selects "StarCustody" ({ cls := "StarCustody", name := "done", desc := "(I)I" } : Jvm.MethodName) ({ cls := "StarCustody", name := "done", desc := "(I)I" } : Jvm.MethodName) ∈ gT := gmt (lwt3 232 rfl) rfl
theorem q_713 : Jvm.Cond.code ({ cls := "StarCustody", name := "done", desc := "(I)I" } : Jvm.MethodName) prog_1_method_25_code (7 : Nat) (Option.some Jvm.ClassFile.FieldType.int) ∈ gT := gmt (lwt3 233 rfl) rfl
theorem q_714 : Jvm.Cond.methodLink "StarCustodyLaw" (118 : Nat) ({ cls := "StarCustody", name := "book", desc := "(II)I" } : Jvm.MethodName) ∈ gT := gmt (lwt3 234 rfl) rfl
theorem q_715 : Jvm.Cond.instanceMethod ({ cls := "StarCustody", name := "book", desc := "(II)I" } : Jvm.MethodName) ∈ gT := gmt (lwt3 235 rfl) rfl
theorem q_716 : Jvm.Cond.selects "StarCustody" ({ cls := "StarCustody", name := "book", desc := "(II)I" } : Jvm.MethodName) ({ cls := "StarCustody", name := "book", desc := "(II)I" } : Jvm.MethodName) ∈ gT := gmt (lwt3 236 rfl) rfl
theorem q_717 : Jvm.Cond.code ({ cls := "StarCustody", name := "book", desc := "(II)I" } : Jvm.MethodName) prog_1_method_26_code (3 : Nat) (Option.some Jvm.ClassFile.FieldType.int) ∈ gT := gmt (lwt3 237 rfl) rfl
theorem q_718 : Jvm.Cond.methodLink "StarCustodyLaw" (122 : Nat) ({ cls := "StarCustody", name := "looked", desc := "()I" } : Jvm.MethodName) ∈ gT := gmt (lwt3 238 rfl) rfl
theorem q_719 : Jvm.Cond.instanceMethod ({ cls := "StarCustody", name := "looked", desc := "()I" } : Jvm.MethodName) ∈ gT := gmt (lwt3 239 rfl) rfl
theorem q_720 : Jvm.Cond.selects "StarCustody" ({ cls := "StarCustody", name := "looked", desc := "()I" } : Jvm.MethodName) ({ cls := "StarCustody", name := "looked", desc := "()I" } : Jvm.MethodName) ∈ gT := gmt (lwt4 0 rfl) rfl
theorem q_721 : Jvm.Cond.code ({ cls := "StarCustody", name := "looked", desc := "()I" } : Jvm.MethodName) prog_1_method_27_code (2 : Nat) (Option.some Jvm.ClassFile.FieldType.int) ∈ gT := gmt (lwt4 1 rfl) rfl
theorem q_722 : Jvm.Cond.methodLink "StarCustodyLaw" (126 : Nat) ({ cls := "StarCustody", name := "act", desc := "(III)I" } : Jvm.MethodName) ∈ gT := gmt (lwt4 2 rfl) rfl
theorem q_723 : Jvm.Cond.instanceMethod ({ cls := "StarCustody", name := "act", desc := "(III)I" } : Jvm.MethodName) ∈ gT := gmt (lwt4 3 rfl) rfl
theorem q_724 : Jvm.Cond.selects "StarCustody" ({ cls := "StarCustody", name := "act", desc := "(III)I" } : Jvm.MethodName) ({ cls := "StarCustody", name := "act", desc := "(III)I" } : Jvm.MethodName) ∈ gT := gmt (lwt4 4 rfl) rfl
theorem q_725 : Jvm.Cond.code ({ cls := "StarCustody", name := "act", desc := "(III)I" } : Jvm.MethodName) prog_1_method_28_code (5 : Nat) (Option.some Jvm.ClassFile.FieldType.int) ∈ gT := gmt (lwt4 5 rfl) rfl
theorem q_726 : Jvm.Cond.methodLink "StarCustody" (241 : Nat) ({ cls := "StarCustody$Star", name := "glows", desc := "(I)I" } : Jvm.MethodName) ∈ gT := gmt (lwt4 6 rfl) rfl
theorem q_727 : Jvm.Cond.instanceMethod ({ cls := "StarCustody$Star", name := "glows", desc := "(I)I" } : Jvm.MethodName) ∈ gT := gmt (lwt4 7 rfl) rfl
theorem q_728 : Jvm.Cond.selects "StarCustody$Star" ({ cls := "StarCustody$Star", name := "glows", desc := "(I)I" } : Jvm.MethodName) ({ cls := "StarCustody$Star", name := "glows", desc := "(I)I" } : Jvm.MethodName) ∈ gT := gmt (lwt4 8 rfl) rfl
theorem q_729 : Jvm.Cond.sameMethod "StarCustody$Star" "StarCustody$Star" "glows" "(I)I" ∈ gT := gmt (lwt4 9 rfl) rfl
theorem q_730 : Jvm.Cond.selects "StarCustody$Comet" ({ cls := "StarCustody$Star", name := "glows", desc := "(I)I" } : Jvm.MethodName) ({ cls := "StarCustody$Star", name := "glows", desc := "(I)I" } : Jvm.MethodName) ∈ gT := gmt (lwt4 10 rfl) rfl
theorem q_731 : Jvm.Cond.selects "StarCustody$Guest" ({ cls := "StarCustody$Star", name := "glows", desc := "(I)I" } : Jvm.MethodName) ({ cls := "StarCustody$Guest", name := "glows", desc := "(I)I" } : Jvm.MethodName) ∈ gT := gmt (lwt4 11 rfl) rfl
theorem q_732 : Jvm.Cond.instanceMethod ({ cls := "StarCustody$Guest", name := "glows", desc := "(I)I" } : Jvm.MethodName) ∈ gT := gmt (lwt4 12 rfl) rfl
theorem q_733 : Jvm.Cond.code ({ cls := "StarCustody$Guest", name := "glows", desc := "(I)I" } : Jvm.MethodName) prog_3_method_4_code (2 : Nat) (Option.some Jvm.ClassFile.FieldType.int) ∈ gT := gmt (lwt4 13 rfl) rfl
theorem q_734 : Jvm.Cond.methodLink "StarCustody$Guest" (25 : Nat) ({ cls := "StarCustody$Rows", name := "tell", desc := "(I)I" } : Jvm.MethodName) ∈ gT := gmt (lwt4 14 rfl) rfl
theorem q_735 : Jvm.Cond.methodLink "StarCustody$Guest" (31 : Nat) ({ cls := "StarCustody$Comet", name := "glows", desc := "(I)I" } : Jvm.MethodName) ∈ gT := gmt (lwt4 15 rfl) rfl
theorem q_736 : Jvm.Cond.sameMethod "StarCustody$Comet" "StarCustody$Star" "glows" "(I)I" ∈ gT := gmt (lwt4 16 rfl) rfl
theorem q_737 : Jvm.Cond.declares ({ cls := "StarCustody$Star", name := "glows", desc := "(I)I" } : Jvm.MethodName) ∈ lw_tbl := lwt4 17 rfl
theorem q_738 : Jvm.Cond.selects "StarCustody$Moon" ({ cls := "StarCustody$Star", name := "glows", desc := "(I)I" } : Jvm.MethodName) ({ cls := "StarCustody$Moon", name := "glows", desc := "(I)I" } : Jvm.MethodName) ∈ gT := gmt (lwt4 18 rfl) rfl
theorem q_739 : Jvm.Cond.instanceMethod ({ cls := "StarCustody$Moon", name := "glows", desc := "(I)I" } : Jvm.MethodName) ∈ gT := gmt (lwt4 19 rfl) rfl
theorem q_740 : Jvm.Cond.code ({ cls := "StarCustody$Moon", name := "glows", desc := "(I)I" } : Jvm.MethodName) prog_4_method_4_code (2 : Nat) (Option.some Jvm.ClassFile.FieldType.int) ∈ gT := gmt (lwt4 20 rfl) rfl
theorem q_741 : Jvm.Cond.methodLink "StarCustody$Moon" (13 : Nat) ({ cls := "StarCustody$Rows", name := "tell", desc := "(I)I" } : Jvm.MethodName) ∈ gT := gmt (lwt4 21 rfl) rfl
theorem q_742 : Jvm.Cond.methodLink "StarCustody$Moon" (19 : Nat) ({ cls := "StarCustody$Star", name := "glows", desc := "(I)I" } : Jvm.MethodName) ∈ gT := gmt (lwt4 22 rfl) rfl
theorem q_743 : Jvm.Cond.selects "StarCustody$Nebula" ({ cls := "StarCustody$Star", name := "glows", desc := "(I)I" } : Jvm.MethodName) ({ cls := "StarCustody$Star", name := "glows", desc := "(I)I" } : Jvm.MethodName) ∈ gT := gmt (lwt4 23 rfl) rfl
theorem q_744 : Jvm.Cond.selects "StarCustody$Told" ({ cls := "StarCustody$Star", name := "glows", desc := "(I)I" } : Jvm.MethodName) ({ cls := "StarCustody$Star", name := "glows", desc := "(I)I" } : Jvm.MethodName) ∈ gT := gmt (lwt4 24 rfl) rfl
theorem q_745 : Jvm.Cond.selects "StarCustody$Twin" ({ cls := "StarCustody$Star", name := "glows", desc := "(I)I" } : Jvm.MethodName) ({ cls := "StarCustody$Moon", name := "glows", desc := "(I)I" } : Jvm.MethodName) ∈ gT := gmt (lwt4 25 rfl) rfl
theorem q_746 : Jvm.Cond.code ({ cls := "StarCustody$Star", name := "glows", desc := "(I)I" } : Jvm.MethodName) prog_10_method_4_code (2 : Nat) (Option.some Jvm.ClassFile.FieldType.int) ∈ gT := gmt (lwt4 26 rfl) rfl
theorem q_747 : Jvm.Cond.methodLink "StarCustody$Star" (23 : Nat) ({ cls := "StarCustody$Rows", name := "tell", desc := "(I)I" } : Jvm.MethodName) ∈ gT := gmt (lwt4 27 rfl) rfl
theorem q_748 : Jvm.Cond.methodLink "StarCustody" (244 : Nat) ({ cls := "StarCustody$Star", name := "claims", desc := "(I)I" } : Jvm.MethodName) ∈ gT := gmt (lwt4 28 rfl) rfl
theorem q_749 : Jvm.Cond.instanceMethod ({ cls := "StarCustody$Star", name := "claims", desc := "(I)I" } : Jvm.MethodName) ∈ gT := gmt (lwt4 29 rfl) rfl
theorem q_750 : Jvm.Cond.selects "StarCustody$Star" ({ cls := "StarCustody$Star", name := "claims", desc := "(I)I" } : Jvm.MethodName) ({ cls := "StarCustody$Star", name := "claims", desc := "(I)I" } : Jvm.MethodName) ∈ gT := gmt (lwt4 30 rfl) rfl
theorem q_751 : Jvm.Cond.sameMethod "StarCustody$Star" "StarCustody$Star" "claims" "(I)I" ∈ gT := gmt (lwt4 31 rfl) rfl
theorem q_752 : Jvm.Cond.selects "StarCustody$Comet" ({ cls := "StarCustody$Star", name := "claims", desc := "(I)I" } : Jvm.MethodName) ({ cls := "StarCustody$Comet", name := "claims", desc := "(I)I" } : Jvm.MethodName) ∈ gT := gmt (lwt4 32 rfl) rfl
theorem q_753 : Jvm.Cond.instanceMethod ({ cls := "StarCustody$Comet", name := "claims", desc := "(I)I" } : Jvm.MethodName) ∈ gT := gmt (lwt4 33 rfl) rfl
theorem q_754 : Jvm.Cond.code ({ cls := "StarCustody$Comet", name := "claims", desc := "(I)I" } : Jvm.MethodName) prog_2_method_3_code (2 : Nat) (Option.some Jvm.ClassFile.FieldType.int) ∈ gT := gmt (lwt4 34 rfl) rfl
theorem q_755 : Jvm.Cond.methodLink "StarCustody$Comet" (17 : Nat) ({ cls := "StarCustody$Rows", name := "tell", desc := "(I)I" } : Jvm.MethodName) ∈ gT := gmt (lwt4 35 rfl) rfl
theorem q_756 : Jvm.Cond.methodLink "StarCustody$Comet" (23 : Nat) ({ cls := "StarCustody$Star", name := "claims", desc := "(I)I" } : Jvm.MethodName) ∈ gT := gmt (lwt4 36 rfl) rfl
theorem q_757 : Jvm.Cond.selects "StarCustody$Guest" ({ cls := "StarCustody$Star", name := "claims", desc := "(I)I" } : Jvm.MethodName) ({ cls := "StarCustody$Comet", name := "claims", desc := "(I)I" } : Jvm.MethodName) ∈ gT := gmt (lwt4 37 rfl) rfl
theorem q_758 : Jvm.Cond.selects "StarCustody$Moon" ({ cls := "StarCustody$Star", name := "claims", desc := "(I)I" } : Jvm.MethodName) ({ cls := "StarCustody$Star", name := "claims", desc := "(I)I" } : Jvm.MethodName) ∈ gT := gmt (lwt4 38 rfl) rfl
theorem q_759 : Jvm.Cond.selects "StarCustody$Nebula" ({ cls := "StarCustody$Star", name := "claims", desc := "(I)I" } : Jvm.MethodName) ({ cls := "StarCustody$Star", name := "claims", desc := "(I)I" } : Jvm.MethodName) ∈ gT := gmt (lwt4 39 rfl) rfl
theorem q_760 : Jvm.Cond.selects "StarCustody$Told" ({ cls := "StarCustody$Star", name := "claims", desc := "(I)I" } : Jvm.MethodName) ({ cls := "StarCustody$Told", name := "claims", desc := "(I)I" } : Jvm.MethodName) ∈ gT := gmt (lwt4 40 rfl) rfl
theorem q_761 : Jvm.Cond.instanceMethod ({ cls := "StarCustody$Told", name := "claims", desc := "(I)I" } : Jvm.MethodName) ∈ gT := gmt (lwt4 41 rfl) rfl
theorem q_762 : Jvm.Cond.code ({ cls := "StarCustody$Told", name := "claims", desc := "(I)I" } : Jvm.MethodName) prog_11_method_3_code (2 : Nat) (Option.some Jvm.ClassFile.FieldType.int) ∈ gT := gmt (lwt4 42 rfl) rfl
theorem q_763 : Jvm.Cond.methodLink "StarCustody$Told" (17 : Nat) ({ cls := "StarCustody$Rows", name := "tell", desc := "(I)I" } : Jvm.MethodName) ∈ gT := gmt (lwt4 43 rfl) rfl
theorem q_764 : Jvm.Cond.methodLink "StarCustody$Told" (23 : Nat) ({ cls := "StarCustody$Nebula", name := "claims", desc := "(I)I" } : Jvm.MethodName) ∈ gT := gmt (lwt4 44 rfl) rfl
theorem q_765 : Jvm.Cond.sameMethod "StarCustody$Nebula" "StarCustody$Star" "claims" "(I)I" ∈ gT := gmt (lwt4 45 rfl) rfl
theorem q_766 : Jvm.Cond.declares ({ cls := "StarCustody$Star", name := "claims", desc := "(I)I" } : Jvm.MethodName) ∈ lw_tbl := lwt4 46 rfl
theorem q_767 : Jvm.Cond.selects "StarCustody$Twin" ({ cls := "StarCustody$Star", name := "claims", desc := "(I)I" } : Jvm.MethodName) ({ cls := "StarCustody$Star", name := "claims", desc := "(I)I" } : Jvm.MethodName) ∈ gT := gmt (lwt4 47 rfl) rfl
theorem q_768 : Jvm.Cond.code ({ cls := "StarCustody$Star", name := "claims", desc := "(I)I" } : Jvm.MethodName) prog_10_method_5_code (2 : Nat) (Option.some Jvm.ClassFile.FieldType.int) ∈ gT := gmt (lwt4 48 rfl) rfl
theorem q_769 : Jvm.Cond.methodLink "StarCustody$Star" (29 : Nat) ({ cls := "StarCustody$Star", name := "glows", desc := "(I)I" } : Jvm.MethodName) ∈ gT := gmt (lwt4 49 rfl) rfl
theorem q_770 : Jvm.Cond.methodLink "StarCustody" (247 : Nat) ({ cls := "StarCustody$Star", name := "tells", desc := "(I)I" } : Jvm.MethodName) ∈ gT := gmt (lwt4 50 rfl) rfl
theorem q_771 : Jvm.Cond.instanceMethod ({ cls := "StarCustody$Star", name := "tells", desc := "(I)I" } : Jvm.MethodName) ∈ gT := gmt (lwt4 51 rfl) rfl
theorem q_772 : Jvm.Cond.selects "StarCustody$Star" ({ cls := "StarCustody$Star", name := "tells", desc := "(I)I" } : Jvm.MethodName) ({ cls := "StarCustody$Star", name := "tells", desc := "(I)I" } : Jvm.MethodName) ∈ gT := gmt (lwt4 52 rfl) rfl
theorem q_773 : Jvm.Cond.sameMethod "StarCustody$Star" "StarCustody$Star" "tells" "(I)I" ∈ gT := gmt (lwt4 53 rfl) rfl
theorem q_774 : Jvm.Cond.selects "StarCustody$Comet" ({ cls := "StarCustody$Star", name := "tells", desc := "(I)I" } : Jvm.MethodName) ({ cls := "StarCustody$Star", name := "tells", desc := "(I)I" } : Jvm.MethodName) ∈ gT := gmt (lwt4 54 rfl) rfl
theorem q_775 : Jvm.Cond.selects "StarCustody$Guest" ({ cls := "StarCustody$Star", name := "tells", desc := "(I)I" } : Jvm.MethodName) ({ cls := "StarCustody$Star", name := "tells", desc := "(I)I" } : Jvm.MethodName) ∈ gT := gmt (lwt4 55 rfl) rfl
theorem q_776 : Jvm.Cond.selects "StarCustody$Moon" ({ cls := "StarCustody$Star", name := "tells", desc := "(I)I" } : Jvm.MethodName) ({ cls := "StarCustody$Star", name := "tells", desc := "(I)I" } : Jvm.MethodName) ∈ gT := gmt (lwt4 56 rfl) rfl
theorem q_777 : Jvm.Cond.selects "StarCustody$Nebula" ({ cls := "StarCustody$Star", name := "tells", desc := "(I)I" } : Jvm.MethodName) ({ cls := "StarCustody$Nebula", name := "tells", desc := "(I)I" } : Jvm.MethodName) ∈ gT := gmt (lwt4 57 rfl) rfl
theorem q_778 : Jvm.Cond.instanceMethod ({ cls := "StarCustody$Nebula", name := "tells", desc := "(I)I" } : Jvm.MethodName) ∈ gT := gmt (lwt4 58 rfl) rfl
theorem q_779 : Jvm.Cond.code ({ cls := "StarCustody$Nebula", name := "tells", desc := "(I)I" } : Jvm.MethodName) prog_5_method_3_code (2 : Nat) (Option.some Jvm.ClassFile.FieldType.int) ∈ gT := gmt (lwt4 59 rfl) rfl
theorem q_780 : Jvm.Cond.methodLink "StarCustody$Nebula" (17 : Nat) ({ cls := "StarCustody$Rows", name := "tell", desc := "(I)I" } : Jvm.MethodName) ∈ gT := gmt (lwt4 60 rfl) rfl
theorem q_781 : Jvm.Cond.methodLink "StarCustody$Nebula" (23 : Nat) ({ cls := "StarCustody$Star", name := "tells", desc := "(I)I" } : Jvm.MethodName) ∈ gT := gmt (lwt4 61 rfl) rfl
theorem q_782 : Jvm.Cond.selects "StarCustody$Told" ({ cls := "StarCustody$Star", name := "tells", desc := "(I)I" } : Jvm.MethodName) ({ cls := "StarCustody$Nebula", name := "tells", desc := "(I)I" } : Jvm.MethodName) ∈ gT := gmt (lwt4 62 rfl) rfl
theorem q_783 : Jvm.Cond.selects "StarCustody$Twin" ({ cls := "StarCustody$Star", name := "tells", desc := "(I)I" } : Jvm.MethodName) ({ cls := "StarCustody$Twin", name := "tells", desc := "(I)I" } : Jvm.MethodName) ∈ gT := gmt (lwt4 63 rfl) rfl
theorem q_784 : Jvm.Cond.instanceMethod ({ cls := "StarCustody$Twin", name := "tells", desc := "(I)I" } : Jvm.MethodName) ∈ gT := gmt (lwt4 64 rfl) rfl
theorem q_785 : Jvm.Cond.code ({ cls := "StarCustody$Twin", name := "tells", desc := "(I)I" } : Jvm.MethodName) prog_12_method_4_code (2 : Nat) (Option.some Jvm.ClassFile.FieldType.int) ∈ gT := gmt (lwt4 65 rfl) rfl
theorem q_786 : Jvm.Cond.methodLink "StarCustody$Twin" (21 : Nat) ({ cls := "StarCustody$Rows", name := "tell", desc := "(I)I" } : Jvm.MethodName) ∈ gT := gmt (lwt4 66 rfl) rfl
theorem q_787 : Jvm.Cond.methodLink "StarCustody$Twin" (27 : Nat) ({ cls := "StarCustody$Moon", name := "tells", desc := "(I)I" } : Jvm.MethodName) ∈ gT := gmt (lwt4 67 rfl) rfl
theorem q_788 : Jvm.Cond.sameMethod "StarCustody$Moon" "StarCustody$Star" "tells" "(I)I" ∈ gT := gmt (lwt4 68 rfl) rfl
theorem q_789 : Jvm.Cond.declares ({ cls := "StarCustody$Star", name := "tells", desc := "(I)I" } : Jvm.MethodName) ∈ lw_tbl := lwt4 69 rfl
theorem q_790 : Jvm.Cond.methodLink "StarCustody$Twin" (30 : Nat) ({ cls := "StarCustody$Twin", name := "glows", desc := "(I)I" } : Jvm.MethodName) ∈ gT := gmt (lwt4 70 rfl) rfl
theorem q_791 : Jvm.Cond.sameMethod "StarCustody$Twin" "StarCustody$Moon" "glows" "(I)I" ∈ gT := gmt (lwt4 71 rfl) rfl
theorem q_792 : Jvm.Cond.declares ({ cls := "StarCustody$Moon", name := "glows", desc := "(I)I" } : Jvm.MethodName) ∈ lw_tbl := lwt4 72 rfl
theorem q_793 : Jvm.Cond.selects "StarCustody$Twin" ({ cls := "StarCustody$Twin", name := "glows", desc := "(I)I" } : Jvm.MethodName) ({ cls := "StarCustody$Moon", name := "glows", desc := "(I)I" } : Jvm.MethodName) ∈ gT := gmt (lwt4 73 rfl) rfl
theorem q_794 : Jvm.Cond.code ({ cls := "StarCustody$Star", name := "tells", desc := "(I)I" } : Jvm.MethodName) prog_10_method_6_code (2 : Nat) (Option.some Jvm.ClassFile.FieldType.int) ∈ gT := gmt (lwt4 74 rfl) rfl
theorem q_795 : Jvm.Cond.methodLink "StarCustody$Star" (32 : Nat) ({ cls := "StarCustody$Star", name := "claims", desc := "(I)I" } : Jvm.MethodName) ∈ gT := gmt (lwt4 75 rfl) rfl
theorem q_796 : Jvm.Cond.methodLink "StarCustodyLaw" (130 : Nat) ({ cls := "StarCustody", name := "trace", desc := "(I)I" } : Jvm.MethodName) ∈ gT := gmt (lwt4 76 rfl) rfl
theorem q_797 : Jvm.Cond.instanceMethod ({ cls := "StarCustody", name := "trace", desc := "(I)I" } : Jvm.MethodName) ∈ gT := gmt (lwt4 77 rfl) rfl
theorem q_798 : Jvm.Cond.selects "StarCustody" ({ cls := "StarCustody", name := "trace", desc := "(I)I" } : Jvm.MethodName) ({ cls := "StarCustody", name := "trace", desc := "(I)I" } : Jvm.MethodName) ∈ gT := gmt (lwt4 78 rfl) rfl
theorem q_799 : Jvm.Cond.code ({ cls := "StarCustody", name := "trace", desc := "(I)I" } : Jvm.MethodName) prog_1_method_29_code (2 : Nat) (Option.some Jvm.ClassFile.FieldType.int) ∈ gT := gmt (lwt4 79 rfl) rfl
theorem q_800 : Jvm.Cond.methodLink "StarCustodyLaw" (134 : Nat) ({ cls := "StarCustody", name := "as", desc := "(II)I" } : Jvm.MethodName) ∈ gT := gmt (lwt4 80 rfl) rfl
theorem q_801 : Jvm.Cond.instanceMethod ({ cls := "StarCustody", name := "as", desc := "(II)I" } : Jvm.MethodName) ∈ gT := gmt (lwt4 81 rfl) rfl
theorem q_802 : Jvm.Cond.selects "StarCustody" ({ cls := "StarCustody", name := "as", desc := "(II)I" } : Jvm.MethodName) ({ cls := "StarCustody", name := "as", desc := "(II)I" } : Jvm.MethodName) ∈ gT := gmt (lwt4 82 rfl) rfl
theorem q_803 : Jvm.Cond.code ({ cls := "StarCustody", name := "as", desc := "(II)I" } : Jvm.MethodName) prog_1_method_30_code (4 : Nat) (Option.some Jvm.ClassFile.FieldType.int) ∈ gT := gmt (lwt4 83 rfl) rfl
theorem q_804 : Jvm.Cond.methodLink "StarCustody" (250 : Nat) ({ cls := "StarCustody", name := "isOfKind", desc := "(LStarCustody$Star;I)Z" } : Jvm.MethodName) ∈ gT := gmt (lwt4 84 rfl) rfl
theorem q_805 : Jvm.Cond.static ({ cls := "StarCustody", name := "isOfKind", desc := "(LStarCustody$Star;I)Z" } : Jvm.MethodName) ∈ gT := gmt (lwt4 85 rfl) rfl
theorem q_806 : Jvm.Cond.code ({ cls := "StarCustody", name := "isOfKind", desc := "(LStarCustody$Star;I)Z" } : Jvm.MethodName) prog_1_method_35_code (2 : Nat) (Option.some Jvm.ClassFile.FieldType.boolean) ∈ gT := gmt (lwt4 86 rfl) rfl
theorem q_807 : Jvm.Cond.methodLink "StarCustodyLaw" (138 : Nat) ({ cls := "StarCustody", name := "image", desc := "()I" } : Jvm.MethodName) ∈ gT := gmt (lwt4 87 rfl) rfl
theorem q_808 : Jvm.Cond.instanceMethod ({ cls := "StarCustody", name := "image", desc := "()I" } : Jvm.MethodName) ∈ gT := gmt (lwt4 88 rfl) rfl
theorem q_809 : Jvm.Cond.selects "StarCustody" ({ cls := "StarCustody", name := "image", desc := "()I" } : Jvm.MethodName) ({ cls := "StarCustody", name := "image", desc := "()I" } : Jvm.MethodName) ∈ gT := gmt (lwt4 89 rfl) rfl
theorem q_810 : Jvm.Cond.code ({ cls := "StarCustody", name := "image", desc := "()I" } : Jvm.MethodName) prog_1_method_31_code (1 : Nat) (Option.some Jvm.ClassFile.FieldType.int) ∈ gT := gmt (lwt4 90 rfl) rfl
theorem q_811 : Jvm.Cond.methodLink "StarCustody" (254 : Nat) ({ cls := "StarCustody$Roof", name := "become", desc := "(LStarCustody$Roof;)V" } : Jvm.MethodName) ∈ gT := gmt (lwt4 91 rfl) rfl
theorem q_812 : Jvm.Cond.instanceMethod ({ cls := "StarCustody$Roof", name := "become", desc := "(LStarCustody$Roof;)V" } : Jvm.MethodName) ∈ gT := gmt (lwt4 92 rfl) rfl
theorem q_813 : Jvm.Cond.selects "StarCustody$Roof" ({ cls := "StarCustody$Roof", name := "become", desc := "(LStarCustody$Roof;)V" } : Jvm.MethodName) ({ cls := "StarCustody$Roof", name := "become", desc := "(LStarCustody$Roof;)V" } : Jvm.MethodName) ∈ gT := gmt (lwt4 93 rfl) rfl
theorem q_814 : Jvm.Cond.code ({ cls := "StarCustody$Roof", name := "become", desc := "(LStarCustody$Roof;)V" } : Jvm.MethodName) prog_6_method_2_code (3 : Nat) (Option.none : Option Jvm.ClassFile.FieldType) ∈ gT := gmt (lwt4 94 rfl) rfl
theorem q_815 : Jvm.Cond.methodLinkNest "StarCustody$Roof" (68 : Nat) ({ cls := "StarCustody", name := "copy", desc := "([I[I)V" } : Jvm.MethodName) "StarCustody" ∈ lw_tbl := lwt4 95 rfl
theorem q_816 : Jvm.Cond.methodLink "StarCustody$Roof" (72 : Nat) ({ cls := "StarCustody$Sky", name := "become", desc := "(LStarCustody$Sky;)V" } : Jvm.MethodName) ∈ gT := gmt (lwt4 96 rfl) rfl
theorem q_817 : Jvm.Cond.methodLink "StarCustody$Roof" (76 : Nat) ({ cls := "StarCustody$Rows", name := "become", desc := "(LStarCustody$Rows;)V" } : Jvm.MethodName) ∈ gT := gmt (lwt4 97 rfl) rfl
theorem q_818 : Jvm.Cond.instanceMethod ({ cls := "StarCustody$Rows", name := "become", desc := "(LStarCustody$Rows;)V" } : Jvm.MethodName) ∈ gT := gmt (lwt4 98 rfl) rfl
theorem q_819 : Jvm.Cond.selects "StarCustody$Rows" ({ cls := "StarCustody$Rows", name := "become", desc := "(LStarCustody$Rows;)V" } : Jvm.MethodName) ({ cls := "StarCustody$Rows", name := "become", desc := "(LStarCustody$Rows;)V" } : Jvm.MethodName) ∈ gT := gmt (lwt4 99 rfl) rfl
theorem q_820 : Jvm.Cond.code ({ cls := "StarCustody$Rows", name := "become", desc := "(LStarCustody$Rows;)V" } : Jvm.MethodName) prog_7_method_7_code (2 : Nat) (Option.none : Option Jvm.ClassFile.FieldType) ∈ gT := gmt (lwt4 100 rfl) rfl
theorem q_821 : Jvm.Cond.methodLinkNest "StarCustody$Rows" (39 : Nat) ({ cls := "StarCustody", name := "copy", desc := "([I[I)V" } : Jvm.MethodName) "StarCustody" ∈ lw_tbl := lwt4 101 rfl
theorem q_822 : Jvm.Cond.methodLink "StarCustodyLaw" (142 : Nat) ({ cls := "StarCustody", name := "undo", desc := "()I" } : Jvm.MethodName) ∈ gT := gmt (lwt4 102 rfl) rfl
theorem q_823 : Jvm.Cond.instanceMethod ({ cls := "StarCustody", name := "undo", desc := "()I" } : Jvm.MethodName) ∈ gT := gmt (lwt4 103 rfl) rfl
theorem q_824 : Jvm.Cond.selects "StarCustody" ({ cls := "StarCustody", name := "undo", desc := "()I" } : Jvm.MethodName) ({ cls := "StarCustody", name := "undo", desc := "()I" } : Jvm.MethodName) ∈ gT := gmt (lwt4 104 rfl) rfl
theorem q_825 : Jvm.Cond.code ({ cls := "StarCustody", name := "undo", desc := "()I" } : Jvm.MethodName) prog_1_method_32_code (1 : Nat) (Option.some Jvm.ClassFile.FieldType.int) ∈ gT := gmt (lwt4 105 rfl) rfl
theorem q_826 : Jvm.Cond.methodLink "StarCustodyLaw" (146 : Nat) ({ cls := "StarCustody", name := "count", desc := "(I)I" } : Jvm.MethodName) ∈ gT := gmt (lwt4 106 rfl) rfl
theorem q_827 : Jvm.Cond.instanceMethod ({ cls := "StarCustody", name := "count", desc := "(I)I" } : Jvm.MethodName) ∈ gT := gmt (lwt4 107 rfl) rfl
theorem q_828 : Jvm.Cond.selects "StarCustody" ({ cls := "StarCustody", name := "count", desc := "(I)I" } : Jvm.MethodName) ({ cls := "StarCustody", name := "count", desc := "(I)I" } : Jvm.MethodName) ∈ gT := gmt (lwt4 108 rfl) rfl
theorem q_829 : Jvm.Cond.code ({ cls := "StarCustody", name := "count", desc := "(I)I" } : Jvm.MethodName) prog_1_method_33_code (2 : Nat) (Option.some Jvm.ClassFile.FieldType.int) ∈ gT := gmt (lwt4 109 rfl) rfl
theorem q_830 : Jvm.Cond.classLink "StarCustodyLaw" (10 : Nat) "StarCustodyModel" ∈ gT := gmt (lwt4 110 rfl) rfl
theorem q_831 : Jvm.Cond.instantiable "StarCustodyModel" (20 : Nat) ∈ gT := gmt (lwt4 111 rfl) rfl
theorem q_832 : Jvm.Cond.methodLink "StarCustodyLaw" (12 : Nat) ({ cls := "StarCustodyModel", name := "<init>", desc := "()V" } : Jvm.MethodName) ∈ gT := gmt (lwt4 112 rfl) rfl
theorem q_833 : Jvm.Cond.instanceMethod ({ cls := "StarCustodyModel", name := "<init>", desc := "()V" } : Jvm.MethodName) ∈ gT := gmt (lwt4 113 rfl) rfl
theorem q_834 : Jvm.Cond.code ({ cls := "StarCustodyModel", name := "<init>", desc := "()V" } : Jvm.MethodName) prog_14_method_1_code (1 : Nat) (Option.none : Option Jvm.ClassFile.FieldType) ∈ gT := gmt (lwt4 114 rfl) rfl
theorem q_835 : Jvm.Cond.methodLink "StarCustodyModel" (3 : Nat) ({ cls := "java/lang/Object", name := "<init>", desc := "()V" } : Jvm.MethodName) ∈ gT := gmt (lwt4 115 rfl) rfl
theorem q_836 : Jvm.Cond.fieldLink "StarCustodyModel" (9 : Nat) "StarCustodyModel" "s" "[I" ∈ gT := gmt (lwt4 116 rfl) rfl
theorem q_837 : Jvm.Cond.fieldLink "StarCustodyModel" (15 : Nat) "StarCustodyModel" "image" "[I" ∈ gT := gmt (lwt4 117 rfl) rfl
theorem q_838 : Jvm.Cond.fieldLink "StarCustodyModel" (18 : Nat) "StarCustodyModel" "frame" "[I" ∈ gT := gmt (lwt4 118 rfl) rfl
theorem q_839 : Jvm.Cond.fieldLink "StarCustodyModel" (253 : Nat) "StarCustodyModel" "hasImage" "Z" ∈ gT := gmt (lwt4 119 rfl) rfl
theorem q_840 : Jvm.Cond.fieldLink "StarCustodyModel" (49 : Nat) "StarCustodyModel" "cloud" "I" ∈ gT := gmt (lwt4 120 rfl) rfl
theorem q_841 : Jvm.Cond.fieldLink "StarCustodyModel" (79 : Nat) "StarCustodyModel" "act" "I" ∈ gT := gmt (lwt4 121 rfl) rfl
theorem q_842 : Jvm.Cond.fieldLink "StarCustodyModel" (52 : Nat) "StarCustodyModel" "spot" "I" ∈ gT := gmt (lwt4 122 rfl) rfl
theorem q_843 : Jvm.Cond.fieldLink "StarCustodyModel" (55 : Nat) "StarCustodyModel" "end" "I" ∈ gT := gmt (lwt4 123 rfl) rfl
theorem q_844 : Jvm.Cond.fieldLink "StarCustodyModel" (58 : Nat) "StarCustodyModel" "isWrong" "Z" ∈ gT := gmt (lwt4 124 rfl) rfl
theorem q_845 : Jvm.Cond.fieldLink "StarCustodyModel" (82 : Nat) "StarCustodyModel" "open" "I" ∈ gT := gmt (lwt4 125 rfl) rfl
theorem q_846 : Jvm.Cond.fieldLink "StarCustodyModel" (21 : Nat) "StarCustodyModel" "by" "[I" ∈ gT := gmt (lwt4 126 rfl) rfl
theorem q_847 : Jvm.Cond.fieldLink "StarCustodyModel" (24 : Nat) "StarCustodyModel" "truths" "[Z" ∈ gT := gmt (lwt4 127 rfl) rfl
theorem q_848 : Jvm.Cond.fieldLink "StarCustodyModel" (28 : Nat) "StarCustodyModel" "has" "[I" ∈ gT := gmt (lwt4 128 rfl) rfl
theorem q_849 : Jvm.Cond.fieldLink "StarCustodyModel" (31 : Nat) "StarCustodyModel" "worths" "[I" ∈ gT := gmt (lwt4 129 rfl) rfl
theorem q_850 : Jvm.Cond.fieldLink "StarCustodyModel" (34 : Nat) "StarCustodyModel" "bodies" "[I" ∈ gT := gmt (lwt4 130 rfl) rfl
theorem q_851 : Jvm.Cond.fieldLink "StarCustodyModel" (217 : Nat) "StarCustodyModel" "ran" "I" ∈ gT := gmt (lwt4 131 rfl) rfl
theorem q_852 : Jvm.Cond.fieldLink "StarCustodyModel" (226 : Nat) "StarCustodyModel" "kind" "I" ∈ gT := gmt (lwt4 132 rfl) rfl
theorem q_853 : Jvm.Cond.fieldLink "StarCustodyModel" (223 : Nat) "StarCustodyModel" "number" "I" ∈ gT := gmt (lwt4 133 rfl) rfl
theorem q_854 : Jvm.Cond.fieldLink "StarCustodyModel" (238 : Nat) "StarCustodyModel" "tellsV" "I" ∈ gT := gmt (lwt4 134 rfl) rfl
theorem q_895 : Jvm.Cond.superclass "StarCustodyModel" "java/lang/Object" ∈ gT := gmt (lwt4 175 rfl) rfl
theorem q_896 : Jvm.Cond.arrayClass Jvm.ClassFile.FieldType.boolean ∈ gT := gmt (lwt4 176 rfl) rfl
theorem q_897 : Jvm.Cond.methodLink "StarCustodyLaw" (17 : Nat) ({ cls := "StarCustodyModel", name := "feed", desc := "(I)I" } : Jvm.MethodName) ∈ gT := gmt (lwt4 177 rfl) rfl
theorem q_898 : Jvm.Cond.instanceMethod ({ cls := "StarCustodyModel", name := "feed", desc := "(I)I" } : Jvm.MethodName) ∈ gT := gmt (lwt4 178 rfl) rfl
theorem q_899 : Jvm.Cond.selects "StarCustodyModel" ({ cls := "StarCustodyModel", name := "feed", desc := "(I)I" } : Jvm.MethodName) ({ cls := "StarCustodyModel", name := "feed", desc := "(I)I" } : Jvm.MethodName) ∈ gT := gmt (lwt4 179 rfl) rfl
theorem q_900 : Jvm.Cond.code ({ cls := "StarCustodyModel", name := "feed", desc := "(I)I" } : Jvm.MethodName) prog_14_method_9_code (2 : Nat) (Option.some Jvm.ClassFile.FieldType.int) ∈ gT := gmt (lwt4 180 rfl) rfl
theorem q_901 : Jvm.Cond.methodLink "StarCustodyModel" (41 : Nat) ({ cls := "StarCustodyModel", name := "in", desc := "(III)Z" } : Jvm.MethodName) ∈ gT := gmt (lwt4 181 rfl) rfl
theorem q_902 : Jvm.Cond.static ({ cls := "StarCustodyModel", name := "in", desc := "(III)Z" } : Jvm.MethodName) ∈ gT := gmt (lwt4 182 rfl) rfl
theorem q_903 : Jvm.Cond.code ({ cls := "StarCustodyModel", name := "in", desc := "(III)Z" } : Jvm.MethodName) prog_14_method_3_code (3 : Nat) (Option.some Jvm.ClassFile.FieldType.boolean) ∈ gT := gmt (lwt4 183 rfl) rfl
theorem q_904 : Jvm.Cond.methodLink "StarCustodyLaw" (22 : Nat) ({ cls := "StarCustodyModel", name := "sky", desc := "()I" } : Jvm.MethodName) ∈ gT := gmt (lwt4 184 rfl) rfl
theorem q_905 : Jvm.Cond.instanceMethod ({ cls := "StarCustodyModel", name := "sky", desc := "()I" } : Jvm.MethodName) ∈ gT := gmt (lwt4 185 rfl) rfl
theorem q_906 : Jvm.Cond.selects "StarCustodyModel" ({ cls := "StarCustodyModel", name := "sky", desc := "()I" } : Jvm.MethodName) ({ cls := "StarCustodyModel", name := "sky", desc := "()I" } : Jvm.MethodName) ∈ gT := gmt (lwt4 186 rfl) rfl
theorem q_907 : Jvm.Cond.code ({ cls := "StarCustodyModel", name := "sky", desc := "()I" } : Jvm.MethodName) prog_14_method_23_code (2 : Nat) (Option.some Jvm.ClassFile.FieldType.int) ∈ gT := gmt (lwt4 187 rfl) rfl
theorem q_908 : Jvm.Cond.methodLink "StarCustodyModel" (130 : Nat) ({ cls := "StarCustodyModel", name := "clauseHere", desc := "()V" } : Jvm.MethodName) ∈ gT := gmt (lwt4 188 rfl) rfl
theorem q_910 : Jvm.Cond.instanceMethod ({ cls := "StarCustodyModel", name := "clauseHere", desc := "()V" } : Jvm.MethodName) ∈ gT := gmt (lwt4 190 rfl) rfl
theorem q_911 : Jvm.Cond.code ({ cls := "StarCustodyModel", name := "clauseHere", desc := "()V" } : Jvm.MethodName) prog_14_method_22_code (1 : Nat) (Option.none : Option Jvm.ClassFile.FieldType) ∈ gT := gmt (lwt4 191 rfl) rfl
theorem q_912 : Jvm.Cond.methodLink "StarCustodyModel" (62 : Nat) ({ cls := "StarCustodyModel", name := "here", desc := "()I" } : Jvm.MethodName) ∈ gT := gmt (lwt4 192 rfl) rfl
theorem q_914 : Jvm.Cond.instanceMethod ({ cls := "StarCustodyModel", name := "here", desc := "()I" } : Jvm.MethodName) ∈ gT := gmt (lwt4 194 rfl) rfl
theorem q_915 : Jvm.Cond.code ({ cls := "StarCustodyModel", name := "here", desc := "()I" } : Jvm.MethodName) prog_14_method_10_code (1 : Nat) (Option.some Jvm.ClassFile.FieldType.int) ∈ gT := gmt (lwt4 195 rfl) rfl
theorem q_916 : Jvm.Cond.stringRef "StarCustodyModel" (120 : Nat) "turn " ∈ lw_tbl := lwt4 196 rfl
theorem q_917 : Jvm.Cond.methodLink "StarCustodyModel" (122 : Nat) ({ cls := "StarCustodyModel", name := "tellsHere", desc := "(ILjava/lang/String;)V" } : Jvm.MethodName) ∈ gT := gmt (lwt4 197 rfl) rfl
theorem q_919 : Jvm.Cond.instanceMethod ({ cls := "StarCustodyModel", name := "tellsHere", desc := "(ILjava/lang/String;)V" } : Jvm.MethodName) ∈ gT := gmt (lwt4 199 rfl) rfl
theorem q_920 : Jvm.Cond.code ({ cls := "StarCustodyModel", name := "tellsHere", desc := "(ILjava/lang/String;)V" } : Jvm.MethodName) prog_14_method_20_code (4 : Nat) (Option.none : Option Jvm.ClassFile.FieldType) ∈ gT := gmt (lwt4 200 rfl) rfl
theorem q_921 : Jvm.Cond.methodLink "StarCustodyModel" (108 : Nat) ({ cls := "StarCustodyModel", name := "spells", desc := "(Ljava/lang/String;)V" } : Jvm.MethodName) ∈ gT := gmt (lwt4 201 rfl) rfl
theorem q_923 : Jvm.Cond.instanceMethod ({ cls := "StarCustodyModel", name := "spells", desc := "(Ljava/lang/String;)V" } : Jvm.MethodName) ∈ gT := gmt (lwt4 203 rfl) rfl
theorem q_924 : Jvm.Cond.code ({ cls := "StarCustodyModel", name := "spells", desc := "(Ljava/lang/String;)V" } : Jvm.MethodName) prog_14_method_12_code (3 : Nat) (Option.none : Option Jvm.ClassFile.FieldType) ∈ gT := gmt (lwt4 204 rfl) rfl
theorem q_925 : Jvm.Cond.methodLink "StarCustodyModel" (66 : Nat) ({ cls := "java/lang/String", name := "length", desc := "()I" } : Jvm.MethodName) ∈ gT := gmt (lwt4 205 rfl) rfl
theorem q_926 : Jvm.Cond.methodLink "StarCustodyModel" (71 : Nat) ({ cls := "java/lang/String", name := "charAt", desc := "(I)C" } : Jvm.MethodName) ∈ gT := gmt (lwt4 206 rfl) rfl
theorem q_927 : Jvm.Cond.methodLink "StarCustodyModel" (75 : Nat) ({ cls := "StarCustodyModel", name := "must", desc := "(I)V" } : Jvm.MethodName) ∈ gT := gmt (lwt4 207 rfl) rfl
theorem q_929 : Jvm.Cond.instanceMethod ({ cls := "StarCustodyModel", name := "must", desc := "(I)V" } : Jvm.MethodName) ∈ gT := gmt (lwt4 209 rfl) rfl
theorem q_930 : Jvm.Cond.code ({ cls := "StarCustodyModel", name := "must", desc := "(I)V" } : Jvm.MethodName) prog_14_method_11_code (2 : Nat) (Option.none : Option Jvm.ClassFile.FieldType) ∈ gT := gmt (lwt4 210 rfl) rfl
theorem q_931 : Jvm.Cond.methodLink "StarCustodyModel" (102 : Nat) ({ cls := "StarCustodyModel", name := "figures", desc := "()I" } : Jvm.MethodName) ∈ gT := gmt (lwt4 211 rfl) rfl
theorem q_933 : Jvm.Cond.instanceMethod ({ cls := "StarCustodyModel", name := "figures", desc := "()I" } : Jvm.MethodName) ∈ gT := gmt (lwt4 213 rfl) rfl
theorem q_934 : Jvm.Cond.code ({ cls := "StarCustodyModel", name := "figures", desc := "()I" } : Jvm.MethodName) prog_14_method_13_code (3 : Nat) (Option.some Jvm.ClassFile.FieldType.int) ∈ gT := gmt (lwt4 214 rfl) rfl
theorem q_935 : Jvm.Cond.stringRef "StarCustodyModel" (125 : Nat) "cloud " ∈ lw_tbl := lwt4 215 rfl
theorem q_936 : Jvm.Cond.methodLink "StarCustodyModel" (127 : Nat) ({ cls := "StarCustodyModel", name := "wordOfD", desc := "()V" } : Jvm.MethodName) ∈ gT := gmt (lwt4 216 rfl) rfl
theorem q_938 : Jvm.Cond.instanceMethod ({ cls := "StarCustodyModel", name := "wordOfD", desc := "()V" } : Jvm.MethodName) ∈ gT := gmt (lwt4 218 rfl) rfl
theorem q_939 : Jvm.Cond.code ({ cls := "StarCustodyModel", name := "wordOfD", desc := "()V" } : Jvm.MethodName) prog_14_method_21_code (1 : Nat) (Option.none : Option Jvm.ClassFile.FieldType) ∈ gT := gmt (lwt4 219 rfl) rfl
theorem q_940 : Jvm.Cond.stringRef "StarCustodyModel" (112 : Nat) "ear " ∈ lw_tbl := lwt4 220 rfl
theorem q_941 : Jvm.Cond.methodLink "StarCustodyModel" (114 : Nat) ({ cls := "StarCustodyModel", name := "much", desc := "(ILjava/lang/String;)V" } : Jvm.MethodName) ∈ gT := gmt (lwt4 221 rfl) rfl
theorem q_943 : Jvm.Cond.instanceMethod ({ cls := "StarCustodyModel", name := "much", desc := "(ILjava/lang/String;)V" } : Jvm.MethodName) ∈ gT := gmt (lwt4 223 rfl) rfl
theorem q_944 : Jvm.Cond.code ({ cls := "StarCustodyModel", name := "much", desc := "(ILjava/lang/String;)V" } : Jvm.MethodName) prog_14_method_19_code (4 : Nat) (Option.none : Option Jvm.ClassFile.FieldType) ∈ gT := gmt (lwt4 224 rfl) rfl
theorem q_945 : Jvm.Cond.methodLink "StarCustodyModel" (91 : Nat) ({ cls := "StarCustodyModel", name := "some", desc := "()V" } : Jvm.MethodName) ∈ gT := gmt (lwt4 225 rfl) rfl
theorem q_947 : Jvm.Cond.instanceMethod ({ cls := "StarCustodyModel", name := "some", desc := "()V" } : Jvm.MethodName) ∈ gT := gmt (lwt4 227 rfl) rfl
theorem q_948 : Jvm.Cond.code ({ cls := "StarCustodyModel", name := "some", desc := "()V" } : Jvm.MethodName) prog_14_method_18_code (1 : Nat) (Option.none : Option Jvm.ClassFile.FieldType) ∈ gT := gmt (lwt4 228 rfl) rfl
theorem q_949 : Jvm.Cond.methodLink "StarCustodyModel" (105 : Nat) ({ cls := "StarCustodyModel", name := "every", desc := "()V" } : Jvm.MethodName) ∈ gT := gmt (lwt4 229 rfl) rfl
theorem q_951 : Jvm.Cond.instanceMethod ({ cls := "StarCustodyModel", name := "every", desc := "()V" } : Jvm.MethodName) ∈ gT := gmt (lwt4 231 rfl) rfl
theorem q_952 : Jvm.Cond.code ({ cls := "StarCustodyModel", name := "every", desc := "()V" } : Jvm.MethodName) prog_14_method_17_code (1 : Nat) (Option.none : Option Jvm.ClassFile.FieldType) ∈ gT := gmt (lwt4 232 rfl) rfl
theorem q_953 : Jvm.Cond.methodLink "StarCustodyModel" (85 : Nat) ({ cls := "StarCustodyModel", name := "factor", desc := "()V" } : Jvm.MethodName) ∈ gT := gmt (lwt4 233 rfl) rfl
theorem q_955 : Jvm.Cond.instanceMethod ({ cls := "StarCustodyModel", name := "factor", desc := "()V" } : Jvm.MethodName) ∈ gT := gmt (lwt4 235 rfl) rfl
theorem q_956 : Jvm.Cond.code ({ cls := "StarCustodyModel", name := "factor", desc := "()V" } : Jvm.MethodName) prog_14_method_16_code (5 : Nat) (Option.none : Option Jvm.ClassFile.FieldType) ∈ gT := gmt (lwt4 236 rfl) rfl
theorem q_957 : Jvm.Cond.methodLink "StarCustodyModel" (88 : Nat) ({ cls := "StarCustodyModel", name := "emits", desc := "(I)V" } : Jvm.MethodName) ∈ gT := gmt (lwt4 237 rfl) rfl
theorem q_959 : Jvm.Cond.instanceMethod ({ cls := "StarCustodyModel", name := "emits", desc := "(I)V" } : Jvm.MethodName) ∈ gT := gmt (lwt4 239 rfl) rfl
theorem q_960 : Jvm.Cond.code ({ cls := "StarCustodyModel", name := "emits", desc := "(I)V" } : Jvm.MethodName) prog_14_method_15_code (2 : Nat) (Option.none : Option Jvm.ClassFile.FieldType) ∈ gT := gmt (lwt5 0 rfl) rfl
theorem q_961 : Jvm.Cond.stringRef "StarCustodyModel" (94 : Nat) "pkvhnm" ∈ lw_tbl := lwt5 1 rfl
theorem q_962 : Jvm.Cond.methodLink "StarCustodyModel" (96 : Nat) ({ cls := "StarCustodyModel", name := "among", desc := "(Ljava/lang/String;)I" } : Jvm.MethodName) ∈ gT := gmt (lwt5 2 rfl) rfl
theorem q_964 : Jvm.Cond.instanceMethod ({ cls := "StarCustodyModel", name := "among", desc := "(Ljava/lang/String;)I" } : Jvm.MethodName) ∈ gT := gmt (lwt5 4 rfl) rfl
theorem q_965 : Jvm.Cond.code ({ cls := "StarCustodyModel", name := "among", desc := "(Ljava/lang/String;)I" } : Jvm.MethodName) prog_14_method_14_code (3 : Nat) (Option.some Jvm.ClassFile.FieldType.int) ∈ gT := gmt (lwt5 5 rfl) rfl
theorem q_966 : Jvm.Cond.stringRef "StarCustodyModel" (100 : Nat) "<=>" ∈ lw_tbl := lwt5 6 rfl
theorem q_967 : Jvm.Cond.stringRef "StarCustodyModel" (118 : Nat) "im " ∈ lw_tbl := lwt5 7 rfl
theorem q_968 : Jvm.Cond.methodLink "StarCustodyLaw" (27 : Nat) ({ cls := "StarCustodyModel", name := "light", desc := "(IIII)I" } : Jvm.MethodName) ∈ gT := gmt (lwt5 8 rfl) rfl
theorem q_969 : Jvm.Cond.instanceMethod ({ cls := "StarCustodyModel", name := "light", desc := "(IIII)I" } : Jvm.MethodName) ∈ gT := gmt (lwt5 9 rfl) rfl
theorem q_970 : Jvm.Cond.selects "StarCustodyModel" ({ cls := "StarCustodyModel", name := "light", desc := "(IIII)I" } : Jvm.MethodName) ({ cls := "StarCustodyModel", name := "light", desc := "(IIII)I" } : Jvm.MethodName) ∈ gT := gmt (lwt5 10 rfl) rfl
theorem q_971 : Jvm.Cond.code ({ cls := "StarCustodyModel", name := "light", desc := "(IIII)I" } : Jvm.MethodName) prog_14_method_32_code (7 : Nat) (Option.some Jvm.ClassFile.FieldType.int) ∈ gT := gmt (lwt5 11 rfl) rfl
theorem q_972 : Jvm.Cond.methodLink "StarCustodyLaw" (32 : Nat) ({ cls := "StarCustodyModel", name := "of", desc := "(II)I" } : Jvm.MethodName) ∈ gT := gmt (lwt5 12 rfl) rfl
theorem q_973 : Jvm.Cond.instanceMethod ({ cls := "StarCustodyModel", name := "of", desc := "(II)I" } : Jvm.MethodName) ∈ gT := gmt (lwt5 13 rfl) rfl
theorem q_974 : Jvm.Cond.selects "StarCustodyModel" ({ cls := "StarCustodyModel", name := "of", desc := "(II)I" } : Jvm.MethodName) ({ cls := "StarCustodyModel", name := "of", desc := "(II)I" } : Jvm.MethodName) ∈ gT := gmt (lwt5 14 rfl) rfl
theorem q_975 : Jvm.Cond.code ({ cls := "StarCustodyModel", name := "of", desc := "(II)I" } : Jvm.MethodName) prog_14_method_33_code (3 : Nat) (Option.some Jvm.ClassFile.FieldType.int) ∈ gT := gmt (lwt5 15 rfl) rfl
theorem q_976 : Jvm.Cond.methodLink "StarCustodyModel" (148 : Nat) ({ cls := "StarCustodyModel", name := "isLight", desc := "(I)Z" } : Jvm.MethodName) ∈ gT := gmt (lwt5 16 rfl) rfl
theorem q_978 : Jvm.Cond.instanceMethod ({ cls := "StarCustodyModel", name := "isLight", desc := "(I)Z" } : Jvm.MethodName) ∈ gT := gmt (lwt5 18 rfl) rfl
theorem q_979 : Jvm.Cond.code ({ cls := "StarCustodyModel", name := "isLight", desc := "(I)Z" } : Jvm.MethodName) prog_14_method_5_code (2 : Nat) (Option.some Jvm.ClassFile.FieldType.boolean) ∈ gT := gmt (lwt5 19 rfl) rfl
theorem q_980 : Jvm.Cond.methodLink "StarCustodyModel" (141 : Nat) ({ cls := "StarCustodyModel", name := "isUp", desc := "(II)Z" } : Jvm.MethodName) ∈ gT := gmt (lwt5 20 rfl) rfl
theorem q_982 : Jvm.Cond.instanceMethod ({ cls := "StarCustodyModel", name := "isUp", desc := "(II)Z" } : Jvm.MethodName) ∈ gT := gmt (lwt5 22 rfl) rfl
theorem q_983 : Jvm.Cond.code ({ cls := "StarCustodyModel", name := "isUp", desc := "(II)Z" } : Jvm.MethodName) prog_14_method_28_code (8 : Nat) (Option.some Jvm.ClassFile.FieldType.boolean) ∈ gT := gmt (lwt5 23 rfl) rfl
theorem q_984 : Jvm.Cond.methodLink "StarCustodyLaw" (37 : Nat) ({ cls := "StarCustodyModel", name := "base", desc := "(III)I" } : Jvm.MethodName) ∈ gT := gmt (lwt5 24 rfl) rfl
theorem q_985 : Jvm.Cond.instanceMethod ({ cls := "StarCustodyModel", name := "base", desc := "(III)I" } : Jvm.MethodName) ∈ gT := gmt (lwt5 25 rfl) rfl
theorem q_986 : Jvm.Cond.selects "StarCustodyModel" ({ cls := "StarCustodyModel", name := "base", desc := "(III)I" } : Jvm.MethodName) ({ cls := "StarCustodyModel", name := "base", desc := "(III)I" } : Jvm.MethodName) ∈ gT := gmt (lwt5 26 rfl) rfl
theorem q_987 : Jvm.Cond.code ({ cls := "StarCustodyModel", name := "base", desc := "(III)I" } : Jvm.MethodName) prog_14_method_35_code (4 : Nat) (Option.some Jvm.ClassFile.FieldType.int) ∈ gT := gmt (lwt5 27 rfl) rfl
theorem q_988 : Jvm.Cond.methodLink "StarCustodyModel" (151 : Nat) ({ cls := "StarCustodyModel", name := "isHouse", desc := "(I)Z" } : Jvm.MethodName) ∈ gT := gmt (lwt5 28 rfl) rfl
theorem q_989 : Jvm.Cond.static ({ cls := "StarCustodyModel", name := "isHouse", desc := "(I)Z" } : Jvm.MethodName) ∈ gT := gmt (lwt5 29 rfl) rfl
theorem q_990 : Jvm.Cond.code ({ cls := "StarCustodyModel", name := "isHouse", desc := "(I)Z" } : Jvm.MethodName) prog_14_method_34_code (1 : Nat) (Option.some Jvm.ClassFile.FieldType.boolean) ∈ gT := gmt (lwt5 30 rfl) rfl
theorem q_991 : Jvm.Cond.methodLink "StarCustodyModel" (133 : Nat) ({ cls := "StarCustodyModel", name := "baseOf", desc := "(III)I" } : Jvm.MethodName) ∈ gT := gmt (lwt5 31 rfl) rfl
theorem q_993 : Jvm.Cond.instanceMethod ({ cls := "StarCustodyModel", name := "baseOf", desc := "(III)I" } : Jvm.MethodName) ∈ gT := gmt (lwt5 33 rfl) rfl
theorem q_994 : Jvm.Cond.code ({ cls := "StarCustodyModel", name := "baseOf", desc := "(III)I" } : Jvm.MethodName) prog_14_method_25_code (13 : Nat) (Option.some Jvm.ClassFile.FieldType.int) ∈ gT := gmt (lwt5 34 rfl) rfl
theorem q_995 : Jvm.Cond.methodLink "StarCustodyModel" (45 : Nat) ({ cls := "StarCustodyModel", name := "tellsOf", desc := "(II)I" } : Jvm.MethodName) ∈ gT := gmt (lwt5 35 rfl) rfl
theorem q_997 : Jvm.Cond.instanceMethod ({ cls := "StarCustodyModel", name := "tellsOf", desc := "(II)I" } : Jvm.MethodName) ∈ gT := gmt (lwt5 37 rfl) rfl
theorem q_998 : Jvm.Cond.code ({ cls := "StarCustodyModel", name := "tellsOf", desc := "(II)I" } : Jvm.MethodName) prog_14_method_24_code (3 : Nat) (Option.some Jvm.ClassFile.FieldType.int) ∈ gT := gmt (lwt5 38 rfl) rfl
theorem q_999 : Jvm.Cond.constant "StarCustodyModel" (154 : Nat) (-9999999 : Int32) ∈ gT := gmt (lwt5 39 rfl) rfl
theorem q_1000 : Jvm.Cond.methodLink "StarCustodyLaw" (41 : Nat) ({ cls := "StarCustodyModel", name := "worth", desc := "(III)I" } : Jvm.MethodName) ∈ gT := gmt (lwt5 40 rfl) rfl
theorem q_1001 : Jvm.Cond.instanceMethod ({ cls := "StarCustodyModel", name := "worth", desc := "(III)I" } : Jvm.MethodName) ∈ gT := gmt (lwt5 41 rfl) rfl
theorem q_1002 : Jvm.Cond.selects "StarCustodyModel" ({ cls := "StarCustodyModel", name := "worth", desc := "(III)I" } : Jvm.MethodName) ({ cls := "StarCustodyModel", name := "worth", desc := "(III)I" } : Jvm.MethodName) ∈ gT := gmt (lwt5 42 rfl) rfl
theorem q_1003 : Jvm.Cond.code ({ cls := "StarCustodyModel", name := "worth", desc := "(III)I" } : Jvm.MethodName) prog_14_method_36_code (4 : Nat) (Option.some Jvm.ClassFile.FieldType.int) ∈ gT := gmt (lwt5 43 rfl) rfl
theorem q_1004 : Jvm.Cond.methodLink "StarCustodyModel" (145 : Nat) ({ cls := "StarCustodyModel", name := "worthOf", desc := "(III)I" } : Jvm.MethodName) ∈ gT := gmt (lwt5 44 rfl) rfl
theorem q_1006 : Jvm.Cond.instanceMethod ({ cls := "StarCustodyModel", name := "worthOf", desc := "(III)I" } : Jvm.MethodName) ∈ gT := gmt (lwt5 46 rfl) rfl
theorem q_1007 : Jvm.Cond.code ({ cls := "StarCustodyModel", name := "worthOf", desc := "(III)I" } : Jvm.MethodName) prog_14_method_29_code (6 : Nat) (Option.some Jvm.ClassFile.FieldType.int) ∈ gT := gmt (lwt5 47 rfl) rfl
theorem q_1008 : Jvm.Cond.methodLink "StarCustodyLaw" (45 : Nat) ({ cls := "StarCustodyModel", name := "row", desc := "(III)I" } : Jvm.MethodName) ∈ gT := gmt (lwt5 48 rfl) rfl
theorem q_1009 : Jvm.Cond.instanceMethod ({ cls := "StarCustodyModel", name := "row", desc := "(III)I" } : Jvm.MethodName) ∈ gT := gmt (lwt5 49 rfl) rfl
theorem q_1010 : Jvm.Cond.selects "StarCustodyModel" ({ cls := "StarCustodyModel", name := "row", desc := "(III)I" } : Jvm.MethodName) ({ cls := "StarCustodyModel", name := "row", desc := "(III)I" } : Jvm.MethodName) ∈ gT := gmt (lwt5 50 rfl) rfl
theorem q_1011 : Jvm.Cond.code ({ cls := "StarCustodyModel", name := "row", desc := "(III)I" } : Jvm.MethodName) prog_14_method_37_code (5 : Nat) (Option.some Jvm.ClassFile.FieldType.int) ∈ gT := gmt (lwt5 51 rfl) rfl
theorem q_1012 : Jvm.Cond.methodLink "StarCustodyLaw" (49 : Nat) ({ cls := "StarCustodyModel", name := "set", desc := "(III)I" } : Jvm.MethodName) ∈ gT := gmt (lwt5 52 rfl) rfl
theorem q_1013 : Jvm.Cond.instanceMethod ({ cls := "StarCustodyModel", name := "set", desc := "(III)I" } : Jvm.MethodName) ∈ gT := gmt (lwt5 53 rfl) rfl
theorem q_1014 : Jvm.Cond.selects "StarCustodyModel" ({ cls := "StarCustodyModel", name := "set", desc := "(III)I" } : Jvm.MethodName) ({ cls := "StarCustodyModel", name := "set", desc := "(III)I" } : Jvm.MethodName) ∈ gT := gmt (lwt5 54 rfl) rfl
theorem q_1015 : Jvm.Cond.code ({ cls := "StarCustodyModel", name := "set", desc := "(III)I" } : Jvm.MethodName) prog_14_method_38_code (6 : Nat) (Option.some Jvm.ClassFile.FieldType.int) ∈ gT := gmt (lwt5 55 rfl) rfl
theorem q_1016 : Jvm.Cond.methodLink "StarCustodyLaw" (54 : Nat) ({ cls := "StarCustodyModel", name := "hide", desc := "(IZ)I" } : Jvm.MethodName) ∈ gT := gmt (lwt5 56 rfl) rfl
theorem q_1017 : Jvm.Cond.instanceMethod ({ cls := "StarCustodyModel", name := "hide", desc := "(IZ)I" } : Jvm.MethodName) ∈ gT := gmt (lwt5 57 rfl) rfl
theorem q_1018 : Jvm.Cond.selects "StarCustodyModel" ({ cls := "StarCustodyModel", name := "hide", desc := "(IZ)I" } : Jvm.MethodName) ({ cls := "StarCustodyModel", name := "hide", desc := "(IZ)I" } : Jvm.MethodName) ∈ gT := gmt (lwt5 58 rfl) rfl
theorem q_1019 : Jvm.Cond.code ({ cls := "StarCustodyModel", name := "hide", desc := "(IZ)I" } : Jvm.MethodName) prog_14_method_39_code (4 : Nat) (Option.some Jvm.ClassFile.FieldType.int) ∈ gT := gmt (lwt5 59 rfl) rfl
theorem q_1020 : Jvm.Cond.methodLink "StarCustodyLaw" (58 : Nat) ({ cls := "StarCustodyModel", name := "told", desc := "(I)I" } : Jvm.MethodName) ∈ gT := gmt (lwt5 60 rfl) rfl
theorem q_1021 : Jvm.Cond.instanceMethod ({ cls := "StarCustodyModel", name := "told", desc := "(I)I" } : Jvm.MethodName) ∈ gT := gmt (lwt5 61 rfl) rfl
theorem q_1022 : Jvm.Cond.selects "StarCustodyModel" ({ cls := "StarCustodyModel", name := "told", desc := "(I)I" } : Jvm.MethodName) ({ cls := "StarCustodyModel", name := "told", desc := "(I)I" } : Jvm.MethodName) ∈ gT := gmt (lwt5 62 rfl) rfl
theorem q_1023 : Jvm.Cond.code ({ cls := "StarCustodyModel", name := "told", desc := "(I)I" } : Jvm.MethodName) prog_14_method_40_code (2 : Nat) (Option.some Jvm.ClassFile.FieldType.int) ∈ gT := gmt (lwt5 63 rfl) rfl
theorem q_1024 : Jvm.Cond.methodLink "StarCustodyModel" (155 : Nat) ({ cls := "StarCustodyModel", name := "asItIs", desc := "()V" } : Jvm.MethodName) ∈ gT := gmt (lwt5 64 rfl) rfl
theorem q_1026 : Jvm.Cond.instanceMethod ({ cls := "StarCustodyModel", name := "asItIs", desc := "()V" } : Jvm.MethodName) ∈ gT := gmt (lwt5 66 rfl) rfl
theorem q_1027 : Jvm.Cond.code ({ cls := "StarCustodyModel", name := "asItIs", desc := "()V" } : Jvm.MethodName) prog_14_method_6_code (1 : Nat) (Option.none : Option Jvm.ClassFile.FieldType) ∈ gT := gmt (lwt5 67 rfl) rfl
theorem q_1028 : Jvm.Cond.methodLink "StarCustodyModel" (158 : Nat) ({ cls := "StarCustodyModel", name := "turnOn", desc := "(I)I" } : Jvm.MethodName) ∈ gT := gmt (lwt5 68 rfl) rfl
theorem q_1030 : Jvm.Cond.instanceMethod ({ cls := "StarCustodyModel", name := "turnOn", desc := "(I)I" } : Jvm.MethodName) ∈ gT := gmt (lwt5 70 rfl) rfl
theorem q_1031 : Jvm.Cond.code ({ cls := "StarCustodyModel", name := "turnOn", desc := "(I)I" } : Jvm.MethodName) prog_14_method_26_code (3 : Nat) (Option.some Jvm.ClassFile.FieldType.int) ∈ gT := gmt (lwt5 71 rfl) rfl
theorem q_1032 : Jvm.Cond.methodLink "StarCustodyModel" (137 : Nat) ({ cls := "StarCustodyModel", name := "isClouded", desc := "(I)Z" } : Jvm.MethodName) ∈ gT := gmt (lwt5 72 rfl) rfl
theorem q_1034 : Jvm.Cond.instanceMethod ({ cls := "StarCustodyModel", name := "isClouded", desc := "(I)Z" } : Jvm.MethodName) ∈ gT := gmt (lwt5 74 rfl) rfl
theorem q_1035 : Jvm.Cond.code ({ cls := "StarCustodyModel", name := "isClouded", desc := "(I)Z" } : Jvm.MethodName) prog_14_method_27_code (2 : Nat) (Option.some Jvm.ClassFile.FieldType.boolean) ∈ gT := gmt (lwt5 75 rfl) rfl
theorem q_1036 : Jvm.Cond.methodLink "StarCustodyModel" (162 : Nat) ({ cls := "StarCustodyModel", name := "upOn", desc := "(I)I" } : Jvm.MethodName) ∈ gT := gmt (lwt5 76 rfl) rfl
theorem q_1038 : Jvm.Cond.instanceMethod ({ cls := "StarCustodyModel", name := "upOn", desc := "(I)I" } : Jvm.MethodName) ∈ gT := gmt (lwt5 78 rfl) rfl
theorem q_1039 : Jvm.Cond.code ({ cls := "StarCustodyModel", name := "upOn", desc := "(I)I" } : Jvm.MethodName) prog_14_method_31_code (4 : Nat) (Option.some Jvm.ClassFile.FieldType.int) ∈ gT := gmt (lwt5 79 rfl) rfl
theorem q_1040 : Jvm.Cond.methodLink "StarCustodyModel" (165 : Nat) ({ cls := "StarCustodyModel", name := "hasOn", desc := "(II)I" } : Jvm.MethodName) ∈ gT := gmt (lwt5 80 rfl) rfl
theorem q_1042 : Jvm.Cond.instanceMethod ({ cls := "StarCustodyModel", name := "hasOn", desc := "(II)I" } : Jvm.MethodName) ∈ gT := gmt (lwt5 82 rfl) rfl
theorem q_1043 : Jvm.Cond.code ({ cls := "StarCustodyModel", name := "hasOn", desc := "(II)I" } : Jvm.MethodName) prog_14_method_30_code (5 : Nat) (Option.some Jvm.ClassFile.FieldType.int) ∈ gT := gmt (lwt5 83 rfl) rfl
theorem q_1044 : Jvm.Cond.methodLink "StarCustodyLaw" (62 : Nat) ({ cls := "StarCustodyModel", name := "pass", desc := "(I)I" } : Jvm.MethodName) ∈ gT := gmt (lwt5 84 rfl) rfl
theorem q_1045 : Jvm.Cond.instanceMethod ({ cls := "StarCustodyModel", name := "pass", desc := "(I)I" } : Jvm.MethodName) ∈ gT := gmt (lwt5 85 rfl) rfl
theorem q_1046 : Jvm.Cond.selects "StarCustodyModel" ({ cls := "StarCustodyModel", name := "pass", desc := "(I)I" } : Jvm.MethodName) ({ cls := "StarCustodyModel", name := "pass", desc := "(I)I" } : Jvm.MethodName) ∈ gT := gmt (lwt5 86 rfl) rfl
theorem q_1047 : Jvm.Cond.code ({ cls := "StarCustodyModel", name := "pass", desc := "(I)I" } : Jvm.MethodName) prog_14_method_43_code (3 : Nat) (Option.some Jvm.ClassFile.FieldType.int) ∈ gT := gmt (lwt5 87 rfl) rfl
theorem q_1048 : Jvm.Cond.methodLink "StarCustodyModel" (168 : Nat) ({ cls := "StarCustodyModel", name := "goes", desc := "()V" } : Jvm.MethodName) ∈ gT := gmt (lwt5 88 rfl) rfl
theorem q_1050 : Jvm.Cond.instanceMethod ({ cls := "StarCustodyModel", name := "goes", desc := "()V" } : Jvm.MethodName) ∈ gT := gmt (lwt5 90 rfl) rfl
theorem q_1051 : Jvm.Cond.code ({ cls := "StarCustodyModel", name := "goes", desc := "()V" } : Jvm.MethodName) prog_14_method_41_code (2 : Nat) (Option.none : Option Jvm.ClassFile.FieldType) ∈ gT := gmt (lwt5 91 rfl) rfl
theorem q_1052 : Jvm.Cond.constant "StarCustodyModel" (171 : Nat) (9999999 : Int32) ∈ gT := gmt (lwt5 92 rfl) rfl
theorem q_1053 : Jvm.Cond.methodLink "StarCustodyModel" (172 : Nat) ({ cls := "StarCustodyModel", name := "within", desc := "(III)I" } : Jvm.MethodName) ∈ gT := gmt (lwt5 93 rfl) rfl
theorem q_1054 : Jvm.Cond.static ({ cls := "StarCustodyModel", name := "within", desc := "(III)I" } : Jvm.MethodName) ∈ gT := gmt (lwt5 94 rfl) rfl
theorem q_1055 : Jvm.Cond.code ({ cls := "StarCustodyModel", name := "within", desc := "(III)I" } : Jvm.MethodName) prog_14_method_4_code (3 : Nat) (Option.some Jvm.ClassFile.FieldType.int) ∈ gT := gmt (lwt5 95 rfl) rfl
theorem q_1056 : Jvm.Cond.methodLink "StarCustodyLaw" (66 : Nat) ({ cls := "StarCustodyModel", name := "on", desc := "(II)I" } : Jvm.MethodName) ∈ gT := gmt (lwt5 96 rfl) rfl
theorem q_1057 : Jvm.Cond.instanceMethod ({ cls := "StarCustodyModel", name := "on", desc := "(II)I" } : Jvm.MethodName) ∈ gT := gmt (lwt5 97 rfl) rfl
theorem q_1058 : Jvm.Cond.selects "StarCustodyModel" ({ cls := "StarCustodyModel", name := "on", desc := "(II)I" } : Jvm.MethodName) ({ cls := "StarCustodyModel", name := "on", desc := "(II)I" } : Jvm.MethodName) ∈ gT := gmt (lwt5 98 rfl) rfl
theorem q_1059 : Jvm.Cond.code ({ cls := "StarCustodyModel", name := "on", desc := "(II)I" } : Jvm.MethodName) prog_14_method_45_code (4 : Nat) (Option.some Jvm.ClassFile.FieldType.int) ∈ gT := gmt (lwt5 99 rfl) rfl
theorem q_1060 : Jvm.Cond.methodLink "StarCustodyModel" (175 : Nat) ({ cls := "StarCustodyModel", name := "keeps", desc := "()V" } : Jvm.MethodName) ∈ gT := gmt (lwt5 100 rfl) rfl
theorem q_1062 : Jvm.Cond.instanceMethod ({ cls := "StarCustodyModel", name := "keeps", desc := "()V" } : Jvm.MethodName) ∈ gT := gmt (lwt5 102 rfl) rfl
theorem q_1063 : Jvm.Cond.code ({ cls := "StarCustodyModel", name := "keeps", desc := "()V" } : Jvm.MethodName) prog_14_method_7_code (2 : Nat) (Option.none : Option Jvm.ClassFile.FieldType) ∈ gT := gmt (lwt5 103 rfl) rfl
theorem q_1064 : Jvm.Cond.methodLink "StarCustodyModel" (178 : Nat) ({ cls := "StarCustodyModel", name := "goesOn", desc := "(I)V" } : Jvm.MethodName) ∈ gT := gmt (lwt5 104 rfl) rfl
theorem q_1066 : Jvm.Cond.instanceMethod ({ cls := "StarCustodyModel", name := "goesOn", desc := "(I)V" } : Jvm.MethodName) ∈ gT := gmt (lwt5 106 rfl) rfl
theorem q_1067 : Jvm.Cond.code ({ cls := "StarCustodyModel", name := "goesOn", desc := "(I)V" } : Jvm.MethodName) prog_14_method_42_code (3 : Nat) (Option.none : Option Jvm.ClassFile.FieldType) ∈ gT := gmt (lwt5 107 rfl) rfl
theorem q_1068 : Jvm.Cond.methodLink "StarCustodyModel" (181 : Nat) ({ cls := "StarCustodyModel", name := "countOf", desc := "(I)I" } : Jvm.MethodName) ∈ gT := gmt (lwt5 108 rfl) rfl
theorem q_1069 : Jvm.Cond.static ({ cls := "StarCustodyModel", name := "countOf", desc := "(I)I" } : Jvm.MethodName) ∈ gT := gmt (lwt5 109 rfl) rfl
theorem q_1070 : Jvm.Cond.code ({ cls := "StarCustodyModel", name := "countOf", desc := "(I)I" } : Jvm.MethodName) prog_14_method_44_code (3 : Nat) (Option.some Jvm.ClassFile.FieldType.int) ∈ gT := gmt (lwt5 110 rfl) rfl
theorem q_1071 : Jvm.Cond.methodLink "StarCustodyModel" (184 : Nat) ({ cls := "StarCustodyModel", name := "goesBack", desc := "()V" } : Jvm.MethodName) ∈ gT := gmt (lwt5 111 rfl) rfl
theorem q_1073 : Jvm.Cond.instanceMethod ({ cls := "StarCustodyModel", name := "goesBack", desc := "()V" } : Jvm.MethodName) ∈ gT := gmt (lwt5 113 rfl) rfl
theorem q_1074 : Jvm.Cond.code ({ cls := "StarCustodyModel", name := "goesBack", desc := "()V" } : Jvm.MethodName) prog_14_method_8_code (2 : Nat) (Option.none : Option Jvm.ClassFile.FieldType) ∈ gT := gmt (lwt5 114 rfl) rfl
theorem q_1075 : Jvm.Cond.methodLink "StarCustodyLaw" (70 : Nat) ({ cls := "StarCustodyModel", name := "when", desc := "(I)I" } : Jvm.MethodName) ∈ gT := gmt (lwt5 115 rfl) rfl
theorem q_1076 : Jvm.Cond.instanceMethod ({ cls := "StarCustodyModel", name := "when", desc := "(I)I" } : Jvm.MethodName) ∈ gT := gmt (lwt5 116 rfl) rfl
theorem q_1077 : Jvm.Cond.selects "StarCustodyModel" ({ cls := "StarCustodyModel", name := "when", desc := "(I)I" } : Jvm.MethodName) ({ cls := "StarCustodyModel", name := "when", desc := "(I)I" } : Jvm.MethodName) ∈ gT := gmt (lwt5 117 rfl) rfl
theorem q_1078 : Jvm.Cond.code ({ cls := "StarCustodyModel", name := "when", desc := "(I)I" } : Jvm.MethodName) prog_14_method_46_code (3 : Nat) (Option.some Jvm.ClassFile.FieldType.int) ∈ gT := gmt (lwt5 118 rfl) rfl
theorem q_1079 : Jvm.Cond.methodLink "StarCustodyLaw" (74 : Nat) ({ cls := "StarCustodyModel", name := "meet", desc := "(II)I" } : Jvm.MethodName) ∈ gT := gmt (lwt5 119 rfl) rfl
theorem q_1080 : Jvm.Cond.instanceMethod ({ cls := "StarCustodyModel", name := "meet", desc := "(II)I" } : Jvm.MethodName) ∈ gT := gmt (lwt5 120 rfl) rfl
theorem q_1081 : Jvm.Cond.selects "StarCustodyModel" ({ cls := "StarCustodyModel", name := "meet", desc := "(II)I" } : Jvm.MethodName) ({ cls := "StarCustodyModel", name := "meet", desc := "(II)I" } : Jvm.MethodName) ∈ gT := gmt (lwt5 121 rfl) rfl
theorem q_1082 : Jvm.Cond.code ({ cls := "StarCustodyModel", name := "meet", desc := "(II)I" } : Jvm.MethodName) prog_14_method_47_code (4 : Nat) (Option.some Jvm.ClassFile.FieldType.int) ∈ gT := gmt (lwt5 122 rfl) rfl
theorem q_1083 : Jvm.Cond.methodLink "StarCustodyLaw" (78 : Nat) ({ cls := "StarCustodyModel", name := "deal", desc := "(III)I" } : Jvm.MethodName) ∈ gT := gmt (lwt5 123 rfl) rfl
theorem q_1084 : Jvm.Cond.instanceMethod ({ cls := "StarCustodyModel", name := "deal", desc := "(III)I" } : Jvm.MethodName) ∈ gT := gmt (lwt5 124 rfl) rfl
theorem q_1085 : Jvm.Cond.selects "StarCustodyModel" ({ cls := "StarCustodyModel", name := "deal", desc := "(III)I" } : Jvm.MethodName) ({ cls := "StarCustodyModel", name := "deal", desc := "(III)I" } : Jvm.MethodName) ∈ gT := gmt (lwt5 125 rfl) rfl
theorem q_1086 : Jvm.Cond.code ({ cls := "StarCustodyModel", name := "deal", desc := "(III)I" } : Jvm.MethodName) prog_14_method_49_code (13 : Nat) (Option.some Jvm.ClassFile.FieldType.int) ∈ gT := gmt (lwt5 126 rfl) rfl
theorem q_1087 : Jvm.Cond.methodLink "StarCustodyModel" (187 : Nat) ({ cls := "StarCustodyModel", name := "dealt", desc := "(III)I" } : Jvm.MethodName) ∈ gT := gmt (lwt5 127 rfl) rfl
theorem q_1089 : Jvm.Cond.instanceMethod ({ cls := "StarCustodyModel", name := "dealt", desc := "(III)I" } : Jvm.MethodName) ∈ gT := gmt (lwt5 129 rfl) rfl
theorem q_1090 : Jvm.Cond.code ({ cls := "StarCustodyModel", name := "dealt", desc := "(III)I" } : Jvm.MethodName) prog_14_method_48_code (6 : Nat) (Option.some Jvm.ClassFile.FieldType.int) ∈ gT := gmt (lwt5 130 rfl) rfl
theorem q_1091 : Jvm.Cond.methodLink "StarCustodyLaw" (82 : Nat) ({ cls := "StarCustodyModel", name := "shares", desc := "(I)I" } : Jvm.MethodName) ∈ gT := gmt (lwt5 131 rfl) rfl
theorem q_1092 : Jvm.Cond.instanceMethod ({ cls := "StarCustodyModel", name := "shares", desc := "(I)I" } : Jvm.MethodName) ∈ gT := gmt (lwt5 132 rfl) rfl
theorem q_1093 : Jvm.Cond.selects "StarCustodyModel" ({ cls := "StarCustodyModel", name := "shares", desc := "(I)I" } : Jvm.MethodName) ({ cls := "StarCustodyModel", name := "shares", desc := "(I)I" } : Jvm.MethodName) ∈ gT := gmt (lwt5 133 rfl) rfl
theorem q_1094 : Jvm.Cond.code ({ cls := "StarCustodyModel", name := "shares", desc := "(I)I" } : Jvm.MethodName) prog_14_method_52_code (8 : Nat) (Option.some Jvm.ClassFile.FieldType.int) ∈ gT := gmt (lwt5 134 rfl) rfl
theorem q_1095 : Jvm.Cond.methodLink "StarCustodyModel" (190 : Nat) ({ cls := "StarCustodyModel", name := "looksForWorths", desc := "()V" } : Jvm.MethodName) ∈ gT := gmt (lwt5 135 rfl) rfl
theorem q_1097 : Jvm.Cond.instanceMethod ({ cls := "StarCustodyModel", name := "looksForWorths", desc := "()V" } : Jvm.MethodName) ∈ gT := gmt (lwt5 137 rfl) rfl
theorem q_1098 : Jvm.Cond.code ({ cls := "StarCustodyModel", name := "looksForWorths", desc := "()V" } : Jvm.MethodName) prog_14_method_50_code (3 : Nat) (Option.none : Option Jvm.ClassFile.FieldType) ∈ gT := gmt (lwt5 138 rfl) rfl
theorem q_1099 : Jvm.Cond.methodLink "StarCustodyModel" (193 : Nat) ({ cls := "StarCustodyModel", name := "shareOf", desc := "(III)I" } : Jvm.MethodName) ∈ gT := gmt (lwt5 139 rfl) rfl
theorem q_1101 : Jvm.Cond.instanceMethod ({ cls := "StarCustodyModel", name := "shareOf", desc := "(III)I" } : Jvm.MethodName) ∈ gT := gmt (lwt5 141 rfl) rfl
theorem q_1102 : Jvm.Cond.code ({ cls := "StarCustodyModel", name := "shareOf", desc := "(III)I" } : Jvm.MethodName) prog_14_method_51_code (6 : Nat) (Option.some Jvm.ClassFile.FieldType.int) ∈ gT := gmt (lwt5 142 rfl) rfl
theorem q_1103 : Jvm.Cond.methodLink "StarCustodyLaw" (87 : Nat) ({ cls := "StarCustodyModel", name := "note", desc := "(IIZ)I" } : Jvm.MethodName) ∈ gT := gmt (lwt5 143 rfl) rfl
theorem q_1104 : Jvm.Cond.instanceMethod ({ cls := "StarCustodyModel", name := "note", desc := "(IIZ)I" } : Jvm.MethodName) ∈ gT := gmt (lwt5 144 rfl) rfl
theorem q_1105 : Jvm.Cond.selects "StarCustodyModel" ({ cls := "StarCustodyModel", name := "note", desc := "(IIZ)I" } : Jvm.MethodName) ({ cls := "StarCustodyModel", name := "note", desc := "(IIZ)I" } : Jvm.MethodName) ∈ gT := gmt (lwt5 145 rfl) rfl
theorem q_1106 : Jvm.Cond.code ({ cls := "StarCustodyModel", name := "note", desc := "(IIZ)I" } : Jvm.MethodName) prog_14_method_53_code (4 : Nat) (Option.some Jvm.ClassFile.FieldType.int) ∈ gT := gmt (lwt5 146 rfl) rfl
theorem q_1107 : Jvm.Cond.methodLink "StarCustodyLaw" (91 : Nat) ({ cls := "StarCustodyModel", name := "rounds", desc := "(II)I" } : Jvm.MethodName) ∈ gT := gmt (lwt5 147 rfl) rfl
theorem q_1108 : Jvm.Cond.instanceMethod ({ cls := "StarCustodyModel", name := "rounds", desc := "(II)I" } : Jvm.MethodName) ∈ gT := gmt (lwt5 148 rfl) rfl
theorem q_1109 : Jvm.Cond.selects "StarCustodyModel" ({ cls := "StarCustodyModel", name := "rounds", desc := "(II)I" } : Jvm.MethodName) ({ cls := "StarCustodyModel", name := "rounds", desc := "(II)I" } : Jvm.MethodName) ∈ gT := gmt (lwt5 149 rfl) rfl
theorem q_1110 : Jvm.Cond.code ({ cls := "StarCustodyModel", name := "rounds", desc := "(II)I" } : Jvm.MethodName) prog_14_method_56_code (3 : Nat) (Option.some Jvm.ClassFile.FieldType.int) ∈ gT := gmt (lwt5 150 rfl) rfl
theorem q_1111 : Jvm.Cond.methodLink "StarCustodyModel" (199 : Nat) ({ cls := "StarCustodyModel", name := "fitting", desc := "(IIIII)I" } : Jvm.MethodName) ∈ gT := gmt (lwt5 151 rfl) rfl
theorem q_1113 : Jvm.Cond.instanceMethod ({ cls := "StarCustodyModel", name := "fitting", desc := "(IIIII)I" } : Jvm.MethodName) ∈ gT := gmt (lwt5 153 rfl) rfl
theorem q_1114 : Jvm.Cond.code ({ cls := "StarCustodyModel", name := "fitting", desc := "(IIIII)I" } : Jvm.MethodName) prog_14_method_55_code (11 : Nat) (Option.some Jvm.ClassFile.FieldType.int) ∈ gT := gmt (lwt5 154 rfl) rfl
theorem q_1115 : Jvm.Cond.methodLink "StarCustodyModel" (196 : Nat) ({ cls := "StarCustodyModel", name := "areAsNoted", desc := "(I)Z" } : Jvm.MethodName) ∈ gT := gmt (lwt5 155 rfl) rfl
theorem q_1117 : Jvm.Cond.instanceMethod ({ cls := "StarCustodyModel", name := "areAsNoted", desc := "(I)Z" } : Jvm.MethodName) ∈ gT := gmt (lwt5 157 rfl) rfl
theorem q_1118 : Jvm.Cond.code ({ cls := "StarCustodyModel", name := "areAsNoted", desc := "(I)Z" } : Jvm.MethodName) prog_14_method_54_code (4 : Nat) (Option.some Jvm.ClassFile.FieldType.boolean) ∈ gT := gmt (lwt5 158 rfl) rfl
theorem q_1119 : Jvm.Cond.methodLink "StarCustodyLaw" (95 : Nat) ({ cls := "StarCustodyModel", name := "phases", desc := "(II)I" } : Jvm.MethodName) ∈ gT := gmt (lwt5 159 rfl) rfl
theorem q_1120 : Jvm.Cond.instanceMethod ({ cls := "StarCustodyModel", name := "phases", desc := "(II)I" } : Jvm.MethodName) ∈ gT := gmt (lwt5 160 rfl) rfl
theorem q_1121 : Jvm.Cond.selects "StarCustodyModel" ({ cls := "StarCustodyModel", name := "phases", desc := "(II)I" } : Jvm.MethodName) ({ cls := "StarCustodyModel", name := "phases", desc := "(II)I" } : Jvm.MethodName) ∈ gT := gmt (lwt5 161 rfl) rfl
theorem q_1122 : Jvm.Cond.code ({ cls := "StarCustodyModel", name := "phases", desc := "(II)I" } : Jvm.MethodName) prog_14_method_57_code (3 : Nat) (Option.some Jvm.ClassFile.FieldType.int) ∈ gT := gmt (lwt5 162 rfl) rfl
theorem q_1123 : Jvm.Cond.methodLink "StarCustodyLaw" (99 : Nat) ({ cls := "StarCustodyModel", name := "firm", desc := "(II)I" } : Jvm.MethodName) ∈ gT := gmt (lwt5 163 rfl) rfl
theorem q_1124 : Jvm.Cond.instanceMethod ({ cls := "StarCustodyModel", name := "firm", desc := "(II)I" } : Jvm.MethodName) ∈ gT := gmt (lwt5 164 rfl) rfl
theorem q_1125 : Jvm.Cond.selects "StarCustodyModel" ({ cls := "StarCustodyModel", name := "firm", desc := "(II)I" } : Jvm.MethodName) ({ cls := "StarCustodyModel", name := "firm", desc := "(II)I" } : Jvm.MethodName) ∈ gT := gmt (lwt5 165 rfl) rfl
theorem q_1126 : Jvm.Cond.code ({ cls := "StarCustodyModel", name := "firm", desc := "(II)I" } : Jvm.MethodName) prog_14_method_58_code (3 : Nat) (Option.some Jvm.ClassFile.FieldType.int) ∈ gT := gmt (lwt5 166 rfl) rfl
theorem q_1127 : Jvm.Cond.methodLink "StarCustodyLaw" (104 : Nat) ({ cls := "StarCustodyModel", name := "odds", desc := "(IIII)J" } : Jvm.MethodName) ∈ gT := gmt (lwt5 167 rfl) rfl
theorem q_1128 : Jvm.Cond.instanceMethod ({ cls := "StarCustodyModel", name := "odds", desc := "(IIII)J" } : Jvm.MethodName) ∈ gT := gmt (lwt5 168 rfl) rfl
theorem q_1129 : Jvm.Cond.selects "StarCustodyModel" ({ cls := "StarCustodyModel", name := "odds", desc := "(IIII)J" } : Jvm.MethodName) ({ cls := "StarCustodyModel", name := "odds", desc := "(IIII)J" } : Jvm.MethodName) ∈ gT := gmt (lwt5 169 rfl) rfl
theorem q_1130 : Jvm.Cond.code ({ cls := "StarCustodyModel", name := "odds", desc := "(IIII)J" } : Jvm.MethodName) prog_14_method_60_code (7 : Nat) (Option.some Jvm.ClassFile.FieldType.long) ∈ gT := gmt (lwt5 170 rfl) rfl
theorem q_1131 : Jvm.Cond.constantLong "StarCustodyModel" (203 : Nat) (-9223372036854775808 : Int64) ∈ gT := gmt (lwt5 171 rfl) rfl
theorem q_1132 : Jvm.Cond.constantLong "StarCustodyModel" (205 : Nat) (13 : Int64) ∈ gT := gmt (lwt5 172 rfl) rfl
theorem q_1133 : Jvm.Cond.methodLink "StarCustodyModel" (207 : Nat) ({ cls := "StarCustodyModel", name := "lowest", desc := "(JJI)J" } : Jvm.MethodName) ∈ gT := gmt (lwt5 173 rfl) rfl
theorem q_1134 : Jvm.Cond.static ({ cls := "StarCustodyModel", name := "lowest", desc := "(JJI)J" } : Jvm.MethodName) ∈ gT := gmt (lwt5 174 rfl) rfl
theorem q_1135 : Jvm.Cond.code ({ cls := "StarCustodyModel", name := "lowest", desc := "(JJI)J" } : Jvm.MethodName) prog_14_method_59_code (11 : Nat) (Option.some Jvm.ClassFile.FieldType.long) ∈ gT := gmt (lwt5 175 rfl) rfl
theorem q_1136 : Jvm.Cond.methodLink "StarCustodyLaw" (109 : Nat) ({ cls := "StarCustodyModel", name := "mean", desc := "(II)J" } : Jvm.MethodName) ∈ gT := gmt (lwt5 176 rfl) rfl
theorem q_1137 : Jvm.Cond.instanceMethod ({ cls := "StarCustodyModel", name := "mean", desc := "(II)J" } : Jvm.MethodName) ∈ gT := gmt (lwt5 177 rfl) rfl
theorem q_1138 : Jvm.Cond.selects "StarCustodyModel" ({ cls := "StarCustodyModel", name := "mean", desc := "(II)J" } : Jvm.MethodName) ({ cls := "StarCustodyModel", name := "mean", desc := "(II)J" } : Jvm.MethodName) ∈ gT := gmt (lwt5 178 rfl) rfl
theorem q_1139 : Jvm.Cond.code ({ cls := "StarCustodyModel", name := "mean", desc := "(II)J" } : Jvm.MethodName) prog_14_method_61_code (6 : Nat) (Option.some Jvm.ClassFile.FieldType.long) ∈ gT := gmt (lwt5 179 rfl) rfl
theorem q_1140 : Jvm.Cond.constantLong "StarCustodyModel" (211 : Nat) (28 : Int64) ∈ gT := gmt (lwt5 180 rfl) rfl
theorem q_1141 : Jvm.Cond.methodLink "StarCustodyLaw" (113 : Nat) ({ cls := "StarCustodyModel", name := "plan", desc := "(II)I" } : Jvm.MethodName) ∈ gT := gmt (lwt5 181 rfl) rfl
theorem q_1142 : Jvm.Cond.instanceMethod ({ cls := "StarCustodyModel", name := "plan", desc := "(II)I" } : Jvm.MethodName) ∈ gT := gmt (lwt5 182 rfl) rfl
theorem q_1143 : Jvm.Cond.selects "StarCustodyModel" ({ cls := "StarCustodyModel", name := "plan", desc := "(II)I" } : Jvm.MethodName) ({ cls := "StarCustodyModel", name := "plan", desc := "(II)I" } : Jvm.MethodName) ∈ gT := gmt (lwt5 183 rfl) rfl
theorem q_1144 : Jvm.Cond.code ({ cls := "StarCustodyModel", name := "plan", desc := "(II)I" } : Jvm.MethodName) prog_14_method_62_code (3 : Nat) (Option.some Jvm.ClassFile.FieldType.int) ∈ gT := gmt (lwt5 184 rfl) rfl
theorem q_1145 : Jvm.Cond.methodLink "StarCustodyLaw" (117 : Nat) ({ cls := "StarCustodyModel", name := "done", desc := "(I)I" } : Jvm.MethodName) ∈ gT := gmt (lwt5 185 rfl) rfl
theorem q_1146 : Jvm.Cond.instanceMethod ({ cls := "StarCustodyModel", name := "done", desc := "(I)I" } : Jvm.MethodName) ∈ gT := gmt (lwt5 186 rfl) rfl
theorem q_1147 : Jvm.Cond.selects "StarCustodyModel" ({ cls := "StarCustodyModel", name := "done", desc := "(I)I" } : Jvm.MethodName) ({ cls := "StarCustodyModel", name := "done", desc := "(I)I" } : Jvm.MethodName) ∈ gT := gmt (lwt5 187 rfl) rfl
theorem q_1148 : Jvm.Cond.code ({ cls := "StarCustodyModel", name := "done", desc := "(I)I" } : Jvm.MethodName) prog_14_method_64_code (3 : Nat) (Option.some Jvm.ClassFile.FieldType.int) ∈ gT := gmt (lwt5 188 rfl) rfl
theorem q_1149 : Jvm.Cond.methodLink "StarCustodyModel" (213 : Nat) ({ cls := "StarCustodyModel", name := "goesBy", desc := "(II)V" } : Jvm.MethodName) ∈ gT := gmt (lwt5 189 rfl) rfl
theorem q_1151 : Jvm.Cond.instanceMethod ({ cls := "StarCustodyModel", name := "goesBy", desc := "(II)V" } : Jvm.MethodName) ∈ gT := gmt (lwt5 191 rfl) rfl
theorem q_1152 : Jvm.Cond.code ({ cls := "StarCustodyModel", name := "goesBy", desc := "(II)V" } : Jvm.MethodName) prog_14_method_63_code (3 : Nat) (Option.none : Option Jvm.ClassFile.FieldType) ∈ gT := gmt (lwt5 192 rfl) rfl
theorem q_1153 : Jvm.Cond.methodLink "StarCustodyLaw" (121 : Nat) ({ cls := "StarCustodyModel", name := "book", desc := "(II)I" } : Jvm.MethodName) ∈ gT := gmt (lwt5 193 rfl) rfl
theorem q_1154 : Jvm.Cond.instanceMethod ({ cls := "StarCustodyModel", name := "book", desc := "(II)I" } : Jvm.MethodName) ∈ gT := gmt (lwt5 194 rfl) rfl
theorem q_1155 : Jvm.Cond.selects "StarCustodyModel" ({ cls := "StarCustodyModel", name := "book", desc := "(II)I" } : Jvm.MethodName) ({ cls := "StarCustodyModel", name := "book", desc := "(II)I" } : Jvm.MethodName) ∈ gT := gmt (lwt5 195 rfl) rfl
theorem q_1156 : Jvm.Cond.code ({ cls := "StarCustodyModel", name := "book", desc := "(II)I" } : Jvm.MethodName) prog_14_method_65_code (3 : Nat) (Option.some Jvm.ClassFile.FieldType.int) ∈ gT := gmt (lwt5 196 rfl) rfl
theorem q_1157 : Jvm.Cond.methodLink "StarCustodyLaw" (125 : Nat) ({ cls := "StarCustodyModel", name := "looked", desc := "()I" } : Jvm.MethodName) ∈ gT := gmt (lwt5 197 rfl) rfl
theorem q_1158 : Jvm.Cond.instanceMethod ({ cls := "StarCustodyModel", name := "looked", desc := "()I" } : Jvm.MethodName) ∈ gT := gmt (lwt5 198 rfl) rfl
theorem q_1159 : Jvm.Cond.selects "StarCustodyModel" ({ cls := "StarCustodyModel", name := "looked", desc := "()I" } : Jvm.MethodName) ({ cls := "StarCustodyModel", name := "looked", desc := "()I" } : Jvm.MethodName) ∈ gT := gmt (lwt5 199 rfl) rfl
theorem q_1160 : Jvm.Cond.code ({ cls := "StarCustodyModel", name := "looked", desc := "()I" } : Jvm.MethodName) prog_14_method_66_code (2 : Nat) (Option.some Jvm.ClassFile.FieldType.int) ∈ gT := gmt (lwt5 200 rfl) rfl
theorem q_1161 : Jvm.Cond.methodLink "StarCustodyLaw" (129 : Nat) ({ cls := "StarCustodyModel", name := "act", desc := "(III)I" } : Jvm.MethodName) ∈ gT := gmt (lwt5 201 rfl) rfl
theorem q_1162 : Jvm.Cond.instanceMethod ({ cls := "StarCustodyModel", name := "act", desc := "(III)I" } : Jvm.MethodName) ∈ gT := gmt (lwt5 202 rfl) rfl
theorem q_1163 : Jvm.Cond.selects "StarCustodyModel" ({ cls := "StarCustodyModel", name := "act", desc := "(III)I" } : Jvm.MethodName) ({ cls := "StarCustodyModel", name := "act", desc := "(III)I" } : Jvm.MethodName) ∈ gT := gmt (lwt5 203 rfl) rfl
theorem q_1164 : Jvm.Cond.code ({ cls := "StarCustodyModel", name := "act", desc := "(III)I" } : Jvm.MethodName) prog_14_method_75_code (4 : Nat) (Option.some Jvm.ClassFile.FieldType.int) ∈ gT := gmt (lwt5 204 rfl) rfl
theorem q_1165 : Jvm.Cond.methodLink "StarCustodyModel" (235 : Nat) ({ cls := "StarCustodyModel", name := "glowsActs", desc := "(I)I" } : Jvm.MethodName) ∈ gT := gmt (lwt5 205 rfl) rfl
theorem q_1167 : Jvm.Cond.instanceMethod ({ cls := "StarCustodyModel", name := "glowsActs", desc := "(I)I" } : Jvm.MethodName) ∈ gT := gmt (lwt5 207 rfl) rfl
theorem q_1168 : Jvm.Cond.code ({ cls := "StarCustodyModel", name := "glowsActs", desc := "(I)I" } : Jvm.MethodName) prog_14_method_70_code (2 : Nat) (Option.some Jvm.ClassFile.FieldType.int) ∈ gT := gmt (lwt5 208 rfl) rfl
theorem q_1169 : Jvm.Cond.methodLink "StarCustodyModel" (229 : Nat) ({ cls := "StarCustodyModel", name := "isUnder", desc := "(II)Z" } : Jvm.MethodName) ∈ gT := gmt (lwt5 209 rfl) rfl
theorem q_1170 : Jvm.Cond.static ({ cls := "StarCustodyModel", name := "isUnder", desc := "(II)Z" } : Jvm.MethodName) ∈ gT := gmt (lwt5 210 rfl) rfl
theorem q_1171 : Jvm.Cond.code ({ cls := "StarCustodyModel", name := "isUnder", desc := "(II)Z" } : Jvm.MethodName) prog_14_method_68_code (2 : Nat) (Option.some Jvm.ClassFile.FieldType.boolean) ∈ gT := gmt (lwt5 211 rfl) rfl
theorem q_1172 : Jvm.Cond.methodLink "StarCustodyModel" (220 : Nat) ({ cls := "StarCustodyModel", name := "ranBody", desc := "(I)V" } : Jvm.MethodName) ∈ gT := gmt (lwt5 212 rfl) rfl
theorem q_1174 : Jvm.Cond.instanceMethod ({ cls := "StarCustodyModel", name := "ranBody", desc := "(I)V" } : Jvm.MethodName) ∈ gT := gmt (lwt5 214 rfl) rfl
theorem q_1175 : Jvm.Cond.code ({ cls := "StarCustodyModel", name := "ranBody", desc := "(I)V" } : Jvm.MethodName) prog_14_method_67_code (2 : Nat) (Option.none : Option Jvm.ClassFile.FieldType) ∈ gT := gmt (lwt5 215 rfl) rfl
theorem q_1176 : Jvm.Cond.methodLink "StarCustodyModel" (232 : Nat) ({ cls := "StarCustodyModel", name := "plainGlows", desc := "(I)I" } : Jvm.MethodName) ∈ gT := gmt (lwt5 216 rfl) rfl
theorem q_1178 : Jvm.Cond.instanceMethod ({ cls := "StarCustodyModel", name := "plainGlows", desc := "(I)I" } : Jvm.MethodName) ∈ gT := gmt (lwt5 218 rfl) rfl
theorem q_1179 : Jvm.Cond.code ({ cls := "StarCustodyModel", name := "plainGlows", desc := "(I)I" } : Jvm.MethodName) prog_14_method_69_code (2 : Nat) (Option.some Jvm.ClassFile.FieldType.int) ∈ gT := gmt (lwt5 219 rfl) rfl
theorem q_1180 : Jvm.Cond.methodLink "StarCustodyModel" (244 : Nat) ({ cls := "StarCustodyModel", name := "claimsActs", desc := "(I)I" } : Jvm.MethodName) ∈ gT := gmt (lwt5 220 rfl) rfl
theorem q_1182 : Jvm.Cond.instanceMethod ({ cls := "StarCustodyModel", name := "claimsActs", desc := "(I)I" } : Jvm.MethodName) ∈ gT := gmt (lwt5 222 rfl) rfl
theorem q_1183 : Jvm.Cond.code ({ cls := "StarCustodyModel", name := "claimsActs", desc := "(I)I" } : Jvm.MethodName) prog_14_method_72_code (2 : Nat) (Option.some Jvm.ClassFile.FieldType.int) ∈ gT := gmt (lwt5 223 rfl) rfl
theorem q_1184 : Jvm.Cond.methodLink "StarCustodyModel" (241 : Nat) ({ cls := "StarCustodyModel", name := "plainClaims", desc := "(I)I" } : Jvm.MethodName) ∈ gT := gmt (lwt5 224 rfl) rfl
theorem q_1186 : Jvm.Cond.instanceMethod ({ cls := "StarCustodyModel", name := "plainClaims", desc := "(I)I" } : Jvm.MethodName) ∈ gT := gmt (lwt5 226 rfl) rfl
theorem q_1187 : Jvm.Cond.code ({ cls := "StarCustodyModel", name := "plainClaims", desc := "(I)I" } : Jvm.MethodName) prog_14_method_71_code (2 : Nat) (Option.some Jvm.ClassFile.FieldType.int) ∈ gT := gmt (lwt5 227 rfl) rfl
theorem q_1188 : Jvm.Cond.methodLink "StarCustodyModel" (250 : Nat) ({ cls := "StarCustodyModel", name := "tellsActs", desc := "(I)I" } : Jvm.MethodName) ∈ gT := gmt (lwt5 228 rfl) rfl
theorem q_1190 : Jvm.Cond.instanceMethod ({ cls := "StarCustodyModel", name := "tellsActs", desc := "(I)I" } : Jvm.MethodName) ∈ gT := gmt (lwt5 230 rfl) rfl
theorem q_1191 : Jvm.Cond.code ({ cls := "StarCustodyModel", name := "tellsActs", desc := "(I)I" } : Jvm.MethodName) prog_14_method_74_code (3 : Nat) (Option.some Jvm.ClassFile.FieldType.int) ∈ gT := gmt (lwt5 231 rfl) rfl
theorem q_1192 : Jvm.Cond.methodLink "StarCustodyModel" (247 : Nat) ({ cls := "StarCustodyModel", name := "plainTelling", desc := "(I)I" } : Jvm.MethodName) ∈ gT := gmt (lwt5 232 rfl) rfl
theorem q_1194 : Jvm.Cond.instanceMethod ({ cls := "StarCustodyModel", name := "plainTelling", desc := "(I)I" } : Jvm.MethodName) ∈ gT := gmt (lwt5 234 rfl) rfl
theorem q_1195 : Jvm.Cond.code ({ cls := "StarCustodyModel", name := "plainTelling", desc := "(I)I" } : Jvm.MethodName) prog_14_method_73_code (2 : Nat) (Option.some Jvm.ClassFile.FieldType.int) ∈ gT := gmt (lwt5 235 rfl) rfl
theorem q_1196 : Jvm.Cond.methodLink "StarCustodyLaw" (133 : Nat) ({ cls := "StarCustodyModel", name := "trace", desc := "(I)I" } : Jvm.MethodName) ∈ gT := gmt (lwt5 236 rfl) rfl
theorem q_1197 : Jvm.Cond.instanceMethod ({ cls := "StarCustodyModel", name := "trace", desc := "(I)I" } : Jvm.MethodName) ∈ gT := gmt (lwt5 237 rfl) rfl
theorem q_1198 : Jvm.Cond.selects "StarCustodyModel" ({ cls := "StarCustodyModel", name := "trace", desc := "(I)I" } : Jvm.MethodName) ({ cls := "StarCustodyModel", name := "trace", desc := "(I)I" } : Jvm.MethodName) ∈ gT := gmt (lwt5 238 rfl) rfl
theorem q_1199 : Jvm.Cond.code ({ cls := "StarCustodyModel", name := "trace", desc := "(I)I" } : Jvm.MethodName) prog_14_method_76_code (2 : Nat) (Option.some Jvm.ClassFile.FieldType.int) ∈ gT := gmt (lwt5 239 rfl) rfl
theorem q_1200 : Jvm.Cond.methodLink "StarCustodyLaw" (137 : Nat) ({ cls := "StarCustodyModel", name := "as", desc := "(II)I" } : Jvm.MethodName) ∈ gT := gmt (lwt6 0 rfl) rfl
theorem q_1201 : Jvm.Cond.instanceMethod ({ cls := "StarCustodyModel", name := "as", desc := "(II)I" } : Jvm.MethodName) ∈ gT := gmt (lwt6 1 rfl) rfl
theorem q_1202 : Jvm.Cond.selects "StarCustodyModel" ({ cls := "StarCustodyModel", name := "as", desc := "(II)I" } : Jvm.MethodName) ({ cls := "StarCustodyModel", name := "as", desc := "(II)I" } : Jvm.MethodName) ∈ gT := gmt (lwt6 2 rfl) rfl
theorem q_1203 : Jvm.Cond.code ({ cls := "StarCustodyModel", name := "as", desc := "(II)I" } : Jvm.MethodName) prog_14_method_77_code (3 : Nat) (Option.some Jvm.ClassFile.FieldType.int) ∈ gT := gmt (lwt6 3 rfl) rfl
theorem q_1204 : Jvm.Cond.methodLink "StarCustodyLaw" (141 : Nat) ({ cls := "StarCustodyModel", name := "image", desc := "()I" } : Jvm.MethodName) ∈ gT := gmt (lwt6 4 rfl) rfl
theorem q_1205 : Jvm.Cond.instanceMethod ({ cls := "StarCustodyModel", name := "image", desc := "()I" } : Jvm.MethodName) ∈ gT := gmt (lwt6 5 rfl) rfl
theorem q_1206 : Jvm.Cond.selects "StarCustodyModel" ({ cls := "StarCustodyModel", name := "image", desc := "()I" } : Jvm.MethodName) ({ cls := "StarCustodyModel", name := "image", desc := "()I" } : Jvm.MethodName) ∈ gT := gmt (lwt6 6 rfl) rfl
theorem q_1207 : Jvm.Cond.code ({ cls := "StarCustodyModel", name := "image", desc := "()I" } : Jvm.MethodName) prog_14_method_78_code (2 : Nat) (Option.some Jvm.ClassFile.FieldType.int) ∈ gT := gmt (lwt6 7 rfl) rfl
theorem q_1208 : Jvm.Cond.methodLink "StarCustodyLaw" (145 : Nat) ({ cls := "StarCustodyModel", name := "undo", desc := "()I" } : Jvm.MethodName) ∈ gT := gmt (lwt6 8 rfl) rfl
theorem q_1209 : Jvm.Cond.instanceMethod ({ cls := "StarCustodyModel", name := "undo", desc := "()I" } : Jvm.MethodName) ∈ gT := gmt (lwt6 9 rfl) rfl
theorem q_1210 : Jvm.Cond.selects "StarCustodyModel" ({ cls := "StarCustodyModel", name := "undo", desc := "()I" } : Jvm.MethodName) ({ cls := "StarCustodyModel", name := "undo", desc := "()I" } : Jvm.MethodName) ∈ gT := gmt (lwt6 10 rfl) rfl
theorem q_1211 : Jvm.Cond.code ({ cls := "StarCustodyModel", name := "undo", desc := "()I" } : Jvm.MethodName) prog_14_method_79_code (2 : Nat) (Option.some Jvm.ClassFile.FieldType.int) ∈ gT := gmt (lwt6 11 rfl) rfl
theorem q_1212 : Jvm.Cond.methodLink "StarCustodyLaw" (149 : Nat) ({ cls := "StarCustodyModel", name := "count", desc := "(I)I" } : Jvm.MethodName) ∈ gT := gmt (lwt6 12 rfl) rfl
theorem q_1213 : Jvm.Cond.instanceMethod ({ cls := "StarCustodyModel", name := "count", desc := "(I)I" } : Jvm.MethodName) ∈ gT := gmt (lwt6 13 rfl) rfl
theorem q_1214 : Jvm.Cond.selects "StarCustodyModel" ({ cls := "StarCustodyModel", name := "count", desc := "(I)I" } : Jvm.MethodName) ({ cls := "StarCustodyModel", name := "count", desc := "(I)I" } : Jvm.MethodName) ∈ gT := gmt (lwt6 14 rfl) rfl
theorem q_1215 : Jvm.Cond.code ({ cls := "StarCustodyModel", name := "count", desc := "(I)I" } : Jvm.MethodName) prog_14_method_80_code (2 : Nat) (Option.some Jvm.ClassFile.FieldType.int) ∈ gT := gmt (lwt6 15 rfl) rfl
theorem q_1216 : Jvm.Cond.sameMethod "StarCustody$Comet" "StarCustody$Comet" "isOver" "(IIII)Z" ∈ gT := gmt (lwt6 16 rfl) rfl
theorem q_1217 : Jvm.Cond.sameMethod "StarCustody$Moon" "StarCustody$Moon" "isOver" "(IIII)Z" ∈ gT := gmt (lwt6 17 rfl) rfl
theorem q_1218 : Jvm.Cond.sameMethod "StarCustody$Nebula" "StarCustody$Nebula" "worthBy" "(III)I" ∈ gT := gmt (lwt6 18 rfl) rfl
theorem q_1219 : Jvm.Cond.sameMethod "StarCustody$Moon" "StarCustody$Moon" "worthBy" "(III)I" ∈ gT := gmt (lwt6 19 rfl) rfl
theorem q_1220 : Jvm.Cond.castable "StarCustody$Twin" "StarCustody$Moon" ∈ lw_tbl := lwt6 20 rfl
theorem q_1221 : Jvm.Cond.castable "StarCustody$Guest" "StarCustody$Comet" ∈ lw_tbl := lwt6 21 rfl
theorem q_1222 : Jvm.Cond.castable "StarCustody$Told" "StarCustody$Nebula" ∈ lw_tbl := lwt6 22 rfl
theorem q_1223 : Jvm.Cond.castable "StarCustody$Moon" "StarCustody$Star" ∈ lw_tbl := lwt6 23 rfl
theorem q_1224 : Jvm.Cond.castable "StarCustody$Comet" "StarCustody$Star" ∈ lw_tbl := lwt6 24 rfl
theorem q_1225 : Jvm.Cond.castable "StarCustody$Nebula" "StarCustody$Star" ∈ lw_tbl := lwt6 25 rfl
theorem q_1226 : Jvm.Cond.castable "StarCustody$Twin" "StarCustody$Star" ∈ lw_tbl := lwt6 26 rfl
theorem q_1227 : Jvm.Cond.castable "StarCustody$Guest" "StarCustody$Star" ∈ lw_tbl := lwt6 27 rfl
theorem q_1228 : Jvm.Cond.castable "StarCustody$Told" "StarCustody$Star" ∈ lw_tbl := lwt6 28 rfl
theorem q_1229 : Jvm.Cond.fieldLink "java/lang/String" (9 : Nat) "java/lang/String" "value" "[B" ∈ gT := gmt (lwt6 29 rfl) rfl
theorem q_1230 : Jvm.Cond.fieldLink "java/lang/String" (15 : Nat) "java/lang/String" "coder" "B" ∈ gT := gmt (lwt6 30 rfl) rfl
