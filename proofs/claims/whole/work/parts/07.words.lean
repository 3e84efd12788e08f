set_option maxRecDepth 100000 in
theorem q78 : (Jvm.Cond.initialized "CoalHolesLaw") ∈ gw := gw_mem 78 rfl rfl
set_option maxRecDepth 100000 in
theorem q79 : (Jvm.Cond.initialized "CoalHoles") ∈ gw := gw_mem 79 rfl rfl
set_option maxRecDepth 100000 in
theorem q80 : (Jvm.Cond.initialized "CoalHoles$Laws") ∈ gw := gw_mem 80 rfl rfl
set_option maxRecDepth 100000 in
theorem q81 : (Jvm.Cond.initialized "java/lang/String") ∈ gw := gw_mem 81 rfl rfl
set_option maxRecDepth 100000 in
theorem q82 : (Jvm.Cond.initialized "CoalHoles$Terrace") ∈ gw := gw_mem 82 rfl rfl
set_option maxRecDepth 100000 in
theorem q83 : (Jvm.Cond.initialized "CoalHoles$Reader") ∈ gw := gw_mem 83 rfl rfl
set_option maxRecDepth 100000 in
theorem q84 : (Jvm.Cond.initialized "CoalHoles$Sheet") ∈ gw := gw_mem 84 rfl rfl
set_option maxRecDepth 100000 in
theorem q85 : (Jvm.Cond.initialized "CoalHoles$Slot") ∈ gw := gw_mem 85 rfl rfl
set_option maxRecDepth 100000 in
theorem q86 : (Jvm.Cond.initialized "CoalHolesModel") ∈ gw := gw_mem 86 rfl rfl
set_option maxRecDepth 100000 in
theorem q87 : (Jvm.Cond.initialized "java/lang/Math") ∈ gw := gw_mem 87 rfl rfl
set_option maxRecDepth 100000 in
theorem q88 : (Jvm.Cond.initialized "CoalHoles$Text") ∈ gw := gw_mem 88 rfl rfl
set_option maxRecDepth 100000 in
theorem q89 : (Jvm.Cond.initialized "java/lang/Integer") ∈ gw := gw_mem 89 rfl rfl
set_option maxRecDepth 100000 in
theorem q90 : (Jvm.Cond.initialized "java/lang/System") ∈ gw := gw_mem 90 rfl rfl
set_option maxRecDepth 100000 in
theorem q91 : (Jvm.Cond.initialized "java/util/Arrays") ∈ gw := gw_mem 91 rfl rfl
set_option maxRecDepth 100000 in
theorem q92 : (Jvm.Cond.initialized "java/lang/StringLatin1") ∈ gw := gw_mem 92 rfl rfl
set_option maxRecDepth 100000 in
theorem q93 : (Jvm.Cond.initialized "java/lang/StringUTF16") ∈ gw := gw_mem 93 rfl rfl
set_option maxRecDepth 100000 in
theorem q94 : (Jvm.Cond.initialized "jdk/internal/util/Preconditions") ∈ gw := gw_mem 94 rfl rfl
set_option maxRecDepth 100000 in
theorem q95 : (Jvm.Cond.initialized "java/lang/Character") ∈ gw := gw_mem 95 rfl rfl
set_option maxRecDepth 100000 in
theorem q96 : (Jvm.Cond.classLink "CoalHolesLaw" (7 : Nat) "CoalHoles") ∈ gw := gw_mem 96 rfl rfl
set_option maxRecDepth 100000 in
theorem q97 : (Jvm.Cond.instantiable "CoalHoles" (13 : Nat)) ∈ gw := gw_mem 97 rfl rfl
set_option maxRecDepth 100000 in
theorem q98 : (Jvm.Cond.methodLink "CoalHolesLaw" (9 : Nat) ({ cls := "CoalHoles", name := "<init>", desc := "()V" } : Jvm.MethodName)) ∈ gw := gw_mem 98 rfl rfl
set_option maxRecDepth 100000 in
theorem q101 : (Jvm.Cond.methodLink "CoalHoles" (1 : Nat) ({ cls := "java/lang/Object", name := "<init>", desc := "()V" } : Jvm.MethodName)) ∈ gw := gw_mem 101 rfl rfl
set_option maxRecDepth 100000 in
theorem q104 : (Jvm.Cond.classLink "CoalHoles" (7 : Nat) "CoalHoles$Laws") ∈ gw := gw_mem 104 rfl rfl
set_option maxRecDepth 100000 in
theorem q105 : (Jvm.Cond.instantiable "CoalHoles$Laws" (3 : Nat)) ∈ gw := gw_mem 105 rfl rfl
set_option maxRecDepth 100000 in
theorem q106 : (Jvm.Cond.methodLinkNest "CoalHoles" (9 : Nat) ({ cls := "CoalHoles$Laws", name := "<init>", desc := "()V" } : Jvm.MethodName) "CoalHoles") ∈ lw_tbl := List.mem_of_getElem? (i := 106) rfl
set_option maxRecDepth 100000 in
theorem q109 : (Jvm.Cond.methodLink "CoalHoles$Laws" (3 : Nat) ({ cls := "java/lang/Object", name := "<init>", desc := "()V" } : Jvm.MethodName)) ∈ gw := gw_mem 109 rfl rfl
set_option maxRecDepth 100000 in
theorem q110 : (Jvm.Cond.classLink "CoalHoles$Laws" (9 : Nat) "CoalHoles$Text") ∈ gw := gw_mem 110 rfl rfl
set_option maxRecDepth 100000 in
theorem q111 : (Jvm.Cond.arrayOver (Jvm.ClassFile.FieldType.object "CoalHoles$Text")) ∈ lw_tbl := List.mem_of_getElem? (i := 111) rfl
set_option maxRecDepth 100000 in
theorem q112 : (Jvm.Cond.stringRef "CoalHoles$Laws" (17 : Nat) "spcnok") ∈ lw_tbl := List.mem_of_getElem? (i := 112) rfl
set_option maxRecDepth 100000 in
theorem q113 : (Jvm.Cond.methodLink "CoalHoles$Laws" (19 : Nat) ({ cls := "java/lang/String", name := "length", desc := "()I" } : Jvm.MethodName)) ∈ gw := gw_mem 113 rfl rfl
set_option maxRecDepth 100000 in
theorem q115 : (Jvm.Cond.selects "java/lang/String" ({ cls := "java/lang/String", name := "length", desc := "()I" } : Jvm.MethodName) ({ cls := "java/lang/String", name := "length", desc := "()I" } : Jvm.MethodName)) ∈ gw := gw_mem 115 rfl rfl
set_option maxRecDepth 100000 in
theorem q117 : (Jvm.Cond.methodLink "java/lang/String" (335 : Nat) ({ cls := "java/lang/String", name := "coder", desc := "()B" } : Jvm.MethodName)) ∈ gw := gw_mem 117 rfl rfl
set_option maxRecDepth 100000 in
theorem q119 : (Jvm.Cond.selects "java/lang/String" ({ cls := "java/lang/String", name := "coder", desc := "()B" } : Jvm.MethodName) ({ cls := "java/lang/String", name := "coder", desc := "()B" } : Jvm.MethodName)) ∈ gw := gw_mem 119 rfl rfl
set_option maxRecDepth 100000 in
theorem q121 : (Jvm.Cond.fieldLink "java/lang/String" (38 : Nat) "java/lang/String" "COMPACT_STRINGS" "Z") ∈ gw := gw_mem 121 rfl rfl
set_option maxRecDepth 100000 in
theorem q122 : (Jvm.Cond.laysStatic "java/lang/String" "COMPACT_STRINGS" "Z") ∈ lw_tbl := List.mem_of_getElem? (i := 122) rfl
set_option maxRecDepth 100000 in
theorem q123 : (Jvm.Cond.fieldLink "CoalHoles$Laws" (11 : Nat) "CoalHoles$Laws" "texts" "[LCoalHoles$Text;") ∈ gw := gw_mem 123 rfl rfl
set_option maxRecDepth 100000 in
theorem q124 : (Jvm.Cond.fieldLinkNest "CoalHoles" (223 : Nat) "CoalHoles$Laws" "texts" "[LCoalHoles$Text;" "CoalHoles") ∈ lw_tbl := List.mem_of_getElem? (i := 124) rfl
set_option maxRecDepth 100000 in
theorem q125 : (Jvm.Cond.fieldLink "CoalHoles$Laws" (25 : Nat) "CoalHoles$Laws" "names" "[I") ∈ gw := gw_mem 125 rfl rfl
set_option maxRecDepth 100000 in
theorem q126 : (Jvm.Cond.fieldLinkNest "CoalHoles$Terrace" (139 : Nat) "CoalHoles$Laws" "names" "[I" "CoalHoles") ∈ lw_tbl := List.mem_of_getElem? (i := 126) rfl
set_option maxRecDepth 100000 in
theorem q127 : (Jvm.Cond.fieldLink "CoalHoles$Laws" (29 : Nat) "CoalHoles$Laws" "stack" "[I") ∈ gw := gw_mem 127 rfl rfl
set_option maxRecDepth 100000 in
theorem q128 : (Jvm.Cond.fieldLinkNest "CoalHoles$Terrace" (142 : Nat) "CoalHoles$Laws" "stack" "[I" "CoalHoles") ∈ lw_tbl := List.mem_of_getElem? (i := 128) rfl
set_option maxRecDepth 100000 in
theorem q136 : (Jvm.Cond.arrayClass Jvm.ClassFile.FieldType.byte) ∈ gw := gw_mem 136 rfl rfl
set_option maxRecDepth 100000 in
theorem q137 : (Jvm.Cond.arrayClass Jvm.ClassFile.FieldType.int) ∈ gw := gw_mem 137 rfl rfl
set_option maxRecDepth 100000 in
theorem q138 : (Jvm.Cond.classLink "CoalHoles" (16 : Nat) "CoalHoles$Terrace") ∈ gw := gw_mem 138 rfl rfl
set_option maxRecDepth 100000 in
theorem q139 : (Jvm.Cond.instantiable "CoalHoles$Terrace" (15 : Nat)) ∈ gw := gw_mem 139 rfl rfl
set_option maxRecDepth 100000 in
theorem q140 : (Jvm.Cond.methodLinkNest "CoalHoles" (18 : Nat) ({ cls := "CoalHoles$Terrace", name := "<init>", desc := "(LCoalHoles$Laws;)V" } : Jvm.MethodName) "CoalHoles") ∈ lw_tbl := List.mem_of_getElem? (i := 140) rfl
set_option maxRecDepth 100000 in
theorem q143 : (Jvm.Cond.methodLink "CoalHoles$Terrace" (3 : Nat) ({ cls := "java/lang/Object", name := "<init>", desc := "()V" } : Jvm.MethodName)) ∈ gw := gw_mem 143 rfl rfl
set_option maxRecDepth 100000 in
theorem q144 : (Jvm.Cond.fieldLinkNest "CoalHoles$Terrace" (27 : Nat) "CoalHoles" "FIRST_RULES" "[I" "CoalHoles") ∈ lw_tbl := List.mem_of_getElem? (i := 144) rfl
set_option maxRecDepth 100000 in
theorem q145 : (Jvm.Cond.laysStatic "CoalHoles" "FIRST_RULES" "[I") ∈ lw_tbl := List.mem_of_getElem? (i := 145) rfl
set_option maxRecDepth 100000 in
theorem q146 : (Jvm.Cond.methodLink "CoalHoles$Terrace" (30 : Nat) ({ cls := "[I", name := "clone", desc := "()Ljava/lang/Object;" } : Jvm.MethodName)) ∈ gw := gw_mem 146 rfl rfl
set_option maxRecDepth 100000 in
theorem q147 : (Jvm.Cond.sameMethod "[I" "java/lang/Object" "clone" "()Ljava/lang/Object;") ∈ gw := gw_mem 147 rfl rfl
set_option maxRecDepth 100000 in
theorem q148 : (Jvm.Cond.native ({ cls := "java/lang/Object", name := "clone", desc := "()Ljava/lang/Object;" } : Jvm.MethodName)) ∈ gw := gw_mem 148 rfl rfl
set_option maxRecDepth 100000 in
theorem q150 : (Jvm.Cond.selects "[I" ({ cls := "[I", name := "clone", desc := "()Ljava/lang/Object;" } : Jvm.MethodName) ({ cls := "java/lang/Object", name := "clone", desc := "()Ljava/lang/Object;" } : Jvm.MethodName)) ∈ gw := gw_mem 150 rfl rfl
set_option maxRecDepth 100000 in
theorem q151 : (Jvm.Cond.castable "[I" "java/lang/Cloneable") ∈ lw_tbl := List.mem_of_getElem? (i := 151) rfl
set_option maxRecDepth 100000 in
theorem q152 : (Jvm.Cond.classLink "CoalHoles$Terrace" (31 : Nat) "[I") ∈ gw := gw_mem 152 rfl rfl
set_option maxRecDepth 100000 in
theorem q153 : (Jvm.Cond.constant "CoalHoles$Terrace" (38 : Nat) (-1000000005 : Int32)) ∈ gw := gw_mem 153 rfl rfl
set_option maxRecDepth 100000 in
theorem q154 : (Jvm.Cond.fieldLink "CoalHoles$Terrace" (46 : Nat) "CoalHoles$Terrace" "laws" "LCoalHoles$Laws;") ∈ gw := gw_mem 154 rfl rfl
set_option maxRecDepth 100000 in
theorem q155 : (Jvm.Cond.fieldLink "CoalHoles$Terrace" (9 : Nat) "CoalHoles$Terrace" "kinds" "[I") ∈ gw := gw_mem 155 rfl rfl
set_option maxRecDepth 100000 in
theorem q156 : (Jvm.Cond.fieldLinkNest "CoalHoles$Slot" (28 : Nat) "CoalHoles$Terrace" "kinds" "[I" "CoalHoles") ∈ lw_tbl := List.mem_of_getElem? (i := 156) rfl
set_option maxRecDepth 100000 in
theorem q157 : (Jvm.Cond.fieldLinkNest "CoalHoles" (83 : Nat) "CoalHoles$Terrace" "kinds" "[I" "CoalHoles") ∈ lw_tbl := List.mem_of_getElem? (i := 157) rfl
set_option maxRecDepth 100000 in
theorem q158 : (Jvm.Cond.fieldLink "CoalHoles$Terrace" (15 : Nat) "CoalHoles$Terrace" "straights" "[I") ∈ gw := gw_mem 158 rfl rfl
set_option maxRecDepth 100000 in
theorem q159 : (Jvm.Cond.fieldLinkNest "CoalHoles$Slot" (35 : Nat) "CoalHoles$Terrace" "straights" "[I" "CoalHoles") ∈ lw_tbl := List.mem_of_getElem? (i := 159) rfl
set_option maxRecDepth 100000 in
theorem q160 : (Jvm.Cond.fieldLinkNest "CoalHoles" (86 : Nat) "CoalHoles$Terrace" "straights" "[I" "CoalHoles") ∈ lw_tbl := List.mem_of_getElem? (i := 160) rfl
set_option maxRecDepth 100000 in
theorem q161 : (Jvm.Cond.fieldLink "CoalHoles$Terrace" (18 : Nat) "CoalHoles$Terrace" "plates" "[I") ∈ gw := gw_mem 161 rfl rfl
set_option maxRecDepth 100000 in
theorem q162 : (Jvm.Cond.fieldLinkNest "CoalHoles" (89 : Nat) "CoalHoles$Terrace" "plates" "[I" "CoalHoles") ∈ lw_tbl := List.mem_of_getElem? (i := 162) rfl
set_option maxRecDepth 100000 in
theorem q163 : (Jvm.Cond.fieldLink "CoalHoles$Terrace" (21 : Nat) "CoalHoles$Terrace" "coals" "[I") ∈ gw := gw_mem 163 rfl rfl
set_option maxRecDepth 100000 in
theorem q164 : (Jvm.Cond.fieldLinkNest "CoalHoles$Slot" (41 : Nat) "CoalHoles$Terrace" "coals" "[I" "CoalHoles") ∈ lw_tbl := List.mem_of_getElem? (i := 164) rfl
set_option maxRecDepth 100000 in
theorem q165 : (Jvm.Cond.fieldLinkNest "CoalHoles" (92 : Nat) "CoalHoles$Terrace" "coals" "[I" "CoalHoles") ∈ lw_tbl := List.mem_of_getElem? (i := 165) rfl
set_option maxRecDepth 100000 in
theorem q166 : (Jvm.Cond.fieldLink "CoalHoles$Terrace" (24 : Nat) "CoalHoles$Terrace" "heards" "[I") ∈ gw := gw_mem 166 rfl rfl
set_option maxRecDepth 100000 in
theorem q167 : (Jvm.Cond.fieldLinkNest "CoalHoles$Slot" (47 : Nat) "CoalHoles$Terrace" "heards" "[I" "CoalHoles") ∈ lw_tbl := List.mem_of_getElem? (i := 167) rfl
set_option maxRecDepth 100000 in
theorem q168 : (Jvm.Cond.fieldLinkNest "CoalHoles" (95 : Nat) "CoalHoles$Terrace" "heards" "[I" "CoalHoles") ∈ lw_tbl := List.mem_of_getElem? (i := 168) rfl
set_option maxRecDepth 100000 in
theorem q169 : (Jvm.Cond.fieldLink "CoalHoles$Terrace" (35 : Nat) "CoalHoles$Terrace" "rules" "[I") ∈ gw := gw_mem 169 rfl rfl
set_option maxRecDepth 100000 in
theorem q170 : (Jvm.Cond.fieldLinkNest "CoalHoles" (122 : Nat) "CoalHoles$Terrace" "rules" "[I" "CoalHoles") ∈ lw_tbl := List.mem_of_getElem? (i := 170) rfl
set_option maxRecDepth 100000 in
theorem q171 : (Jvm.Cond.fieldLink "CoalHoles$Terrace" (39 : Nat) "CoalHoles$Terrace" "counting" "[I") ∈ gw := gw_mem 171 rfl rfl
set_option maxRecDepth 100000 in
theorem q172 : (Jvm.Cond.fieldLinkNest "CoalHoles" (230 : Nat) "CoalHoles$Terrace" "counting" "[I" "CoalHoles") ∈ lw_tbl := List.mem_of_getElem? (i := 172) rfl
set_option maxRecDepth 100000 in
theorem q173 : (Jvm.Cond.fieldLink "CoalHoles$Terrace" (50 : Nat) "CoalHoles$Terrace" "houses" "I") ∈ gw := gw_mem 173 rfl rfl
set_option maxRecDepth 100000 in
theorem q174 : (Jvm.Cond.fieldLinkNest "CoalHoles" (71 : Nat) "CoalHoles$Terrace" "houses" "I" "CoalHoles") ∈ lw_tbl := List.mem_of_getElem? (i := 174) rfl
set_option maxRecDepth 100000 in
theorem q175 : (Jvm.Cond.fieldLink "CoalHoles$Terrace" (59 : Nat) "CoalHoles$Terrace" "texts" "I") ∈ gw := gw_mem 175 rfl rfl
set_option maxRecDepth 100000 in
theorem q176 : (Jvm.Cond.fieldLinkNest "CoalHoles" (220 : Nat) "CoalHoles$Terrace" "texts" "I" "CoalHoles") ∈ lw_tbl := List.mem_of_getElem? (i := 176) rfl
set_option maxRecDepth 100000 in
theorem q177 : (Jvm.Cond.fieldLink "CoalHoles$Terrace" (62 : Nat) "CoalHoles$Terrace" "tune" "I") ∈ gw := gw_mem 177 rfl rfl
set_option maxRecDepth 100000 in
theorem q178 : (Jvm.Cond.fieldLinkNest "CoalHoles" (140 : Nat) "CoalHoles$Terrace" "tune" "I" "CoalHoles") ∈ lw_tbl := List.mem_of_getElem? (i := 178) rfl
set_option maxRecDepth 100000 in
theorem q179 : (Jvm.Cond.fieldLink "CoalHoles$Terrace" (65 : Nat) "CoalHoles$Terrace" "noise" "I") ∈ gw := gw_mem 179 rfl rfl
set_option maxRecDepth 100000 in
theorem q180 : (Jvm.Cond.fieldLinkNest "CoalHoles" (146 : Nat) "CoalHoles$Terrace" "noise" "I" "CoalHoles") ∈ lw_tbl := List.mem_of_getElem? (i := 180) rfl
set_option maxRecDepth 100000 in
theorem q181 : (Jvm.Cond.fieldLink "CoalHoles$Terrace" (68 : Nat) "CoalHoles$Terrace" "knocks" "I") ∈ gw := gw_mem 181 rfl rfl
set_option maxRecDepth 100000 in
theorem q182 : (Jvm.Cond.fieldLink "CoalHoles$Terrace" (71 : Nat) "CoalHoles$Terrace" "night" "I") ∈ gw := gw_mem 182 rfl rfl
set_option maxRecDepth 100000 in
theorem q183 : (Jvm.Cond.fieldLinkNest "CoalHoles" (149 : Nat) "CoalHoles$Terrace" "night" "I" "CoalHoles") ∈ lw_tbl := List.mem_of_getElem? (i := 183) rfl
set_option maxRecDepth 100000 in
theorem q184 : (Jvm.Cond.fieldLink "CoalHoles$Terrace" (42 : Nat) "CoalHoles$Terrace" "z" "I") ∈ gw := gw_mem 184 rfl rfl
set_option maxRecDepth 100000 in
theorem q185 : (Jvm.Cond.fieldLinkNest "CoalHoles" (134 : Nat) "CoalHoles$Terrace" "z" "I" "CoalHoles") ∈ lw_tbl := List.mem_of_getElem? (i := 185) rfl
set_option maxRecDepth 100000 in
theorem q217 : (Jvm.Cond.classLink "CoalHoles" (31 : Nat) "CoalHoles$Reader") ∈ gw := gw_mem 217 rfl rfl
set_option maxRecDepth 100000 in
theorem q218 : (Jvm.Cond.instantiable "CoalHoles$Reader" (8 : Nat)) ∈ gw := gw_mem 218 rfl rfl
set_option maxRecDepth 100000 in
theorem q219 : (Jvm.Cond.methodLinkNest "CoalHoles" (33 : Nat) ({ cls := "CoalHoles$Reader", name := "<init>", desc := "()V" } : Jvm.MethodName) "CoalHoles") ∈ lw_tbl := List.mem_of_getElem? (i := 219) rfl
set_option maxRecDepth 100000 in
theorem q222 : (Jvm.Cond.methodLink "CoalHoles$Reader" (3 : Nat) ({ cls := "java/lang/Object", name := "<init>", desc := "()V" } : Jvm.MethodName)) ∈ gw := gw_mem 222 rfl rfl
set_option maxRecDepth 100000 in
theorem q223 : (Jvm.Cond.fieldLink "CoalHoles$Reader" (9 : Nat) "CoalHoles$Reader" "codes" "[I") ∈ gw := gw_mem 223 rfl rfl
set_option maxRecDepth 100000 in
theorem q224 : (Jvm.Cond.fieldLink "CoalHoles$Reader" (15 : Nat) "CoalHoles$Reader" "open" "[I") ∈ gw := gw_mem 224 rfl rfl
set_option maxRecDepth 100000 in
theorem q225 : (Jvm.Cond.fieldLink "CoalHoles$Reader" (18 : Nat) "CoalHoles$Reader" "written" "I") ∈ gw := gw_mem 225 rfl rfl
set_option maxRecDepth 100000 in
theorem q226 : (Jvm.Cond.fieldLink "CoalHoles$Reader" (22 : Nat) "CoalHoles$Reader" "opened" "I") ∈ gw := gw_mem 226 rfl rfl
set_option maxRecDepth 100000 in
theorem q227 : (Jvm.Cond.fieldLink "CoalHoles$Reader" (25 : Nat) "CoalHoles$Reader" "brackets" "I") ∈ gw := gw_mem 227 rfl rfl
set_option maxRecDepth 100000 in
theorem q228 : (Jvm.Cond.fieldLink "CoalHoles$Reader" (28 : Nat) "CoalHoles$Reader" "nots" "I") ∈ gw := gw_mem 228 rfl rfl
set_option maxRecDepth 100000 in
theorem q229 : (Jvm.Cond.fieldLink "CoalHoles$Reader" (31 : Nat) "CoalHoles$Reader" "pieces" "I") ∈ gw := gw_mem 229 rfl rfl
set_option maxRecDepth 100000 in
theorem q230 : (Jvm.Cond.fieldLink "CoalHoles$Reader" (44 : Nat) "CoalHoles$Reader" "key" "I") ∈ gw := gw_mem 230 rfl rfl
set_option maxRecDepth 100000 in
theorem q231 : (Jvm.Cond.fieldLinkNest "CoalHoles" (233 : Nat) "CoalHoles$Reader" "key" "I" "CoalHoles") ∈ lw_tbl := List.mem_of_getElem? (i := 231) rfl
set_option maxRecDepth 100000 in
theorem q249 : (Jvm.Cond.classLink "CoalHoles" (42 : Nat) "CoalHoles$Sheet") ∈ gw := gw_mem 249 rfl rfl
set_option maxRecDepth 100000 in
theorem q250 : (Jvm.Cond.arrayOver (Jvm.ClassFile.FieldType.object "CoalHoles$Sheet")) ∈ lw_tbl := List.mem_of_getElem? (i := 250) rfl
set_option maxRecDepth 100000 in
theorem q251 : (Jvm.Cond.classLink "CoalHoles" (48 : Nat) "CoalHoles$Slot") ∈ gw := gw_mem 251 rfl rfl
set_option maxRecDepth 100000 in
theorem q252 : (Jvm.Cond.arrayOver (Jvm.ClassFile.FieldType.object "CoalHoles$Slot")) ∈ lw_tbl := List.mem_of_getElem? (i := 252) rfl
set_option maxRecDepth 100000 in
theorem q253 : (Jvm.Cond.instantiable "CoalHoles$Sheet" (3 : Nat)) ∈ gw := gw_mem 253 rfl rfl
set_option maxRecDepth 100000 in
theorem q254 : (Jvm.Cond.methodLinkNest "CoalHoles" (60 : Nat) ({ cls := "CoalHoles$Sheet", name := "<init>", desc := "()V" } : Jvm.MethodName) "CoalHoles") ∈ lw_tbl := List.mem_of_getElem? (i := 254) rfl
set_option maxRecDepth 100000 in
theorem q257 : (Jvm.Cond.methodLink "CoalHoles$Sheet" (3 : Nat) ({ cls := "java/lang/Object", name := "<init>", desc := "()V" } : Jvm.MethodName)) ∈ gw := gw_mem 257 rfl rfl
set_option maxRecDepth 100000 in
theorem q258 : (Jvm.Cond.fieldLink "CoalHoles$Sheet" (9 : Nat) "CoalHoles$Sheet" "places" "[I") ∈ gw := gw_mem 258 rfl rfl
set_option maxRecDepth 100000 in
theorem q259 : (Jvm.Cond.fieldLinkNest "CoalHoles" (253 : Nat) "CoalHoles$Sheet" "places" "[I" "CoalHoles") ∈ lw_tbl := List.mem_of_getElem? (i := 259) rfl
set_option maxRecDepth 100000 in
theorem q260 : (Jvm.Cond.fieldLink "CoalHoles$Sheet" (15 : Nat) "CoalHoles$Sheet" "sort" "I") ∈ gw := gw_mem 260 rfl rfl
set_option maxRecDepth 100000 in
theorem q261 : (Jvm.Cond.fieldLinkNest "CoalHoles" (196 : Nat) "CoalHoles$Sheet" "sort" "I" "CoalHoles") ∈ lw_tbl := List.mem_of_getElem? (i := 261) rfl
set_option maxRecDepth 100000 in
theorem q262 : (Jvm.Cond.fieldLink "CoalHoles$Sheet" (19 : Nat) "CoalHoles$Sheet" "length" "I") ∈ gw := gw_mem 262 rfl rfl
set_option maxRecDepth 100000 in
theorem q263 : (Jvm.Cond.fieldLinkNest "CoalHoles" (257 : Nat) "CoalHoles$Sheet" "length" "I" "CoalHoles") ∈ lw_tbl := List.mem_of_getElem? (i := 263) rfl
set_option maxRecDepth 100000 in
theorem q271 : (Jvm.Cond.instantiable "CoalHoles$Slot" (7 : Nat)) ∈ gw := gw_mem 271 rfl rfl
set_option maxRecDepth 100000 in
theorem q272 : (Jvm.Cond.methodLinkNest "CoalHoles" (61 : Nat) ({ cls := "CoalHoles$Slot", name := "<init>", desc := "()V" } : Jvm.MethodName) "CoalHoles") ∈ lw_tbl := List.mem_of_getElem? (i := 272) rfl
set_option maxRecDepth 100000 in
theorem q275 : (Jvm.Cond.methodLink "CoalHoles$Slot" (3 : Nat) ({ cls := "java/lang/Object", name := "<init>", desc := "()V" } : Jvm.MethodName)) ∈ gw := gw_mem 275 rfl rfl
set_option maxRecDepth 100000 in
theorem q276 : (Jvm.Cond.classLink "CoalHoles$Slot" (15 : Nat) "CoalHoles$Sheet") ∈ gw := gw_mem 276 rfl rfl
set_option maxRecDepth 100000 in
theorem q277 : (Jvm.Cond.methodLinkNest "CoalHoles$Slot" (17 : Nat) ({ cls := "CoalHoles$Sheet", name := "<init>", desc := "()V" } : Jvm.MethodName) "CoalHoles") ∈ lw_tbl := List.mem_of_getElem? (i := 277) rfl
set_option maxRecDepth 100000 in
theorem q278 : (Jvm.Cond.fieldLink "CoalHoles$Slot" (9 : Nat) "CoalHoles$Slot" "holds" "I") ∈ gw := gw_mem 278 rfl rfl
set_option maxRecDepth 100000 in
theorem q279 : (Jvm.Cond.fieldLinkNest "CoalHoles" (279 : Nat) "CoalHoles$Slot" "holds" "I" "CoalHoles") ∈ lw_tbl := List.mem_of_getElem? (i := 279) rfl
set_option maxRecDepth 100000 in
theorem q280 : (Jvm.Cond.fieldLink "CoalHoles$Slot" (32 : Nat) "CoalHoles$Slot" "kind" "I") ∈ gw := gw_mem 280 rfl rfl
set_option maxRecDepth 100000 in
theorem q281 : (Jvm.Cond.fieldLinkNest "CoalHoles" (295 : Nat) "CoalHoles$Slot" "kind" "I" "CoalHoles") ∈ lw_tbl := List.mem_of_getElem? (i := 281) rfl
set_option maxRecDepth 100000 in
theorem q282 : (Jvm.Cond.fieldLink "CoalHoles$Slot" (38 : Nat) "CoalHoles$Slot" "straight" "I") ∈ gw := gw_mem 282 rfl rfl
set_option maxRecDepth 100000 in
theorem q283 : (Jvm.Cond.fieldLinkNest "CoalHoles" (298 : Nat) "CoalHoles$Slot" "straight" "I" "CoalHoles") ∈ lw_tbl := List.mem_of_getElem? (i := 283) rfl
set_option maxRecDepth 100000 in
theorem q284 : (Jvm.Cond.fieldLink "CoalHoles$Slot" (44 : Nat) "CoalHoles$Slot" "coal" "I") ∈ gw := gw_mem 284 rfl rfl
set_option maxRecDepth 100000 in
theorem q285 : (Jvm.Cond.fieldLinkNest "CoalHoles" (301 : Nat) "CoalHoles$Slot" "coal" "I" "CoalHoles") ∈ lw_tbl := List.mem_of_getElem? (i := 285) rfl
set_option maxRecDepth 100000 in
theorem q286 : (Jvm.Cond.fieldLink "CoalHoles$Slot" (50 : Nat) "CoalHoles$Slot" "heard" "I") ∈ gw := gw_mem 286 rfl rfl
set_option maxRecDepth 100000 in
theorem q287 : (Jvm.Cond.fieldLinkNest "CoalHoles" (304 : Nat) "CoalHoles$Slot" "heard" "I" "CoalHoles") ∈ lw_tbl := List.mem_of_getElem? (i := 287) rfl
set_option maxRecDepth 100000 in
theorem q288 : (Jvm.Cond.fieldLinkNest "CoalHoles" (292 : Nat) "CoalHoles$Slot" "number" "I" "CoalHoles") ∈ lw_tbl := List.mem_of_getElem? (i := 288) rfl
set_option maxRecDepth 100000 in
theorem q289 : (Jvm.Cond.fieldLink "CoalHoles$Slot" (18 : Nat) "CoalHoles$Slot" "row" "LCoalHoles$Sheet;") ∈ gw := gw_mem 289 rfl rfl
set_option maxRecDepth 100000 in
theorem q290 : (Jvm.Cond.fieldLinkNest "CoalHoles" (286 : Nat) "CoalHoles$Slot" "row" "LCoalHoles$Sheet;" "CoalHoles") ∈ lw_tbl := List.mem_of_getElem? (i := 290) rfl
set_option maxRecDepth 100000 in
theorem q306 : (Jvm.Cond.fieldLink "CoalHoles" (10 : Nat) "CoalHoles" "laws" "LCoalHoles$Laws;") ∈ gw := gw_mem 306 rfl rfl
set_option maxRecDepth 100000 in
theorem q307 : (Jvm.Cond.fieldLink "CoalHoles" (21 : Nat) "CoalHoles" "now" "LCoalHoles$Terrace;") ∈ gw := gw_mem 307 rfl rfl
set_option maxRecDepth 100000 in
theorem q308 : (Jvm.Cond.fieldLink "CoalHoles" (25 : Nat) "CoalHoles" "image" "LCoalHoles$Terrace;") ∈ gw := gw_mem 308 rfl rfl
set_option maxRecDepth 100000 in
theorem q309 : (Jvm.Cond.fieldLink "CoalHoles" (28 : Nat) "CoalHoles" "thought" "LCoalHoles$Terrace;") ∈ gw := gw_mem 309 rfl rfl
set_option maxRecDepth 100000 in
theorem q310 : (Jvm.Cond.fieldLink "CoalHoles" (311 : Nat) "CoalHoles" "kept" "Z") ∈ gw := gw_mem 310 rfl rfl
set_option maxRecDepth 100000 in
theorem q311 : (Jvm.Cond.fieldLink "CoalHoles" (34 : Nat) "CoalHoles" "reader" "LCoalHoles$Reader;") ∈ gw := gw_mem 311 rfl rfl
set_option maxRecDepth 100000 in
theorem q312 : (Jvm.Cond.fieldLink "CoalHoles" (38 : Nat) "CoalHoles" "tape" "[I") ∈ gw := gw_mem 312 rfl rfl
set_option maxRecDepth 100000 in
theorem q313 : (Jvm.Cond.fieldLink "CoalHoles" (210 : Nat) "CoalHoles" "taped" "I") ∈ gw := gw_mem 313 rfl rfl
set_option maxRecDepth 100000 in
theorem q314 : (Jvm.Cond.fieldLink "CoalHoles" (44 : Nat) "CoalHoles" "sheets" "[LCoalHoles$Sheet;") ∈ gw := gw_mem 314 rfl rfl
set_option maxRecDepth 100000 in
theorem q315 : (Jvm.Cond.fieldLink "CoalHoles" (50 : Nat) "CoalHoles" "slots" "[LCoalHoles$Slot;") ∈ gw := gw_mem 315 rfl rfl
set_option maxRecDepth 100000 in
theorem q316 : (Jvm.Cond.fieldLink "CoalHoles" (54 : Nat) "CoalHoles" "waiting" "[I") ∈ gw := gw_mem 316 rfl rfl
set_option maxRecDepth 100000 in
theorem q317 : (Jvm.Cond.fieldLink "CoalHoles" (308 : Nat) "CoalHoles" "waits" "I") ∈ gw := gw_mem 317 rfl rfl
set_option maxRecDepth 100000 in
theorem q318 : (Jvm.Cond.fieldLink "CoalHoles" (57 : Nat) "CoalHoles" "differences" "[I") ∈ gw := gw_mem 318 rfl rfl
set_option maxRecDepth 100000 in
theorem q346 : (Jvm.Cond.methodLink "CoalHolesLaw" (13 : Nat) ({ cls := "CoalHoles", name := "house", desc := "(IIII)I" } : Jvm.MethodName)) ∈ gw := gw_mem 346 rfl rfl
set_option maxRecDepth 100000 in
theorem q348 : (Jvm.Cond.selects "CoalHoles" ({ cls := "CoalHoles", name := "house", desc := "(IIII)I" } : Jvm.MethodName) ({ cls := "CoalHoles", name := "house", desc := "(IIII)I" } : Jvm.MethodName)) ∈ gw := gw_mem 348 rfl rfl
set_option maxRecDepth 100000 in
theorem q350 : (Jvm.Cond.methodLink "CoalHoles" (62 : Nat) ({ cls := "CoalHoles", name := "isKind", desc := "(I)Z" } : Jvm.MethodName)) ∈ gw := gw_mem 350 rfl rfl
set_option maxRecDepth 100000 in
theorem q351 : (Jvm.Cond.static ({ cls := "CoalHoles", name := "isKind", desc := "(I)Z" } : Jvm.MethodName)) ∈ gw := gw_mem 351 rfl rfl
set_option maxRecDepth 100000 in
theorem q353 : (Jvm.Cond.methodLink "CoalHoles" (66 : Nat) ({ cls := "CoalHoles", name := "isWithin", desc := "(II)Z" } : Jvm.MethodName)) ∈ gw := gw_mem 353 rfl rfl
set_option maxRecDepth 100000 in
theorem q354 : (Jvm.Cond.static ({ cls := "CoalHoles", name := "isWithin", desc := "(II)Z" } : Jvm.MethodName)) ∈ gw := gw_mem 354 rfl rfl
set_option maxRecDepth 100000 in
theorem q356 : (Jvm.Cond.constant "CoalHoles" (70 : Nat) (-1000000001 : Int32)) ∈ gw := gw_mem 356 rfl rfl
set_option maxRecDepth 100000 in
theorem q357 : (Jvm.Cond.methodLinkNest "CoalHoles" (75 : Nat) ({ cls := "CoalHoles$Terrace", name := "build", desc := "(IIII)I" } : Jvm.MethodName) "CoalHoles") ∈ lw_tbl := List.mem_of_getElem? (i := 357) rfl
set_option maxRecDepth 100000 in
theorem q361 : (Jvm.Cond.constant "CoalHoles$Terrace" (74 : Nat) (-1000000003 : Int32)) ∈ gw := gw_mem 361 rfl rfl
set_option maxRecDepth 100000 in
theorem q362 : (Jvm.Cond.constant "CoalHoles" (79 : Nat) (-1000000003 : Int32)) ∈ gw := gw_mem 362 rfl rfl
set_option maxRecDepth 100000 in
theorem q363 : (Jvm.Cond.methodLink "CoalHolesLaw" (18 : Nat) ({ cls := "CoalHoles", name := "told", desc := "(II)I" } : Jvm.MethodName)) ∈ gw := gw_mem 363 rfl rfl
set_option maxRecDepth 100000 in
theorem q365 : (Jvm.Cond.selects "CoalHoles" ({ cls := "CoalHoles", name := "told", desc := "(II)I" } : Jvm.MethodName) ({ cls := "CoalHoles", name := "told", desc := "(II)I" } : Jvm.MethodName)) ∈ gw := gw_mem 365 rfl rfl
set_option maxRecDepth 100000 in
theorem q367 : (Jvm.Cond.methodLinkNest "CoalHoles" (80 : Nat) ({ cls := "CoalHoles$Terrace", name := "has", desc := "(I)Z" } : Jvm.MethodName) "CoalHoles") ∈ lw_tbl := List.mem_of_getElem? (i := 367) rfl
set_option maxRecDepth 100000 in
theorem q371 : (Jvm.Cond.methodLinkNest "CoalHoles" (98 : Nat) ({ cls := "CoalHoles$Terrace", name := "slack", desc := "(I)I" } : Jvm.MethodName) "CoalHoles") ∈ lw_tbl := List.mem_of_getElem? (i := 371) rfl
set_option maxRecDepth 100000 in
theorem q375 : (Jvm.Cond.methodLink "CoalHoles$Terrace" (124 : Nat) ({ cls := "CoalHoles$Terrace", name := "plain", desc := "(I)I" } : Jvm.MethodName)) ∈ gw := gw_mem 375 rfl rfl
set_option maxRecDepth 100000 in
theorem q379 : (Jvm.Cond.methodLinkNest "CoalHoles$Terrace" (130 : Nat) ({ cls := "CoalHoles$Laws", name := "at", desc := "(I)LCoalHoles$Text;" } : Jvm.MethodName) "CoalHoles") ∈ lw_tbl := List.mem_of_getElem? (i := 379) rfl
set_option maxRecDepth 100000 in
theorem q383 : (Jvm.Cond.methodLink "CoalHoles$Terrace" (136 : Nat) ({ cls := "java/lang/Math", name := "abs", desc := "(I)I" } : Jvm.MethodName)) ∈ gw := gw_mem 383 rfl rfl
set_option maxRecDepth 100000 in
theorem q384 : (Jvm.Cond.static ({ cls := "java/lang/Math", name := "abs", desc := "(I)I" } : Jvm.MethodName)) ∈ gw := gw_mem 384 rfl rfl
set_option maxRecDepth 100000 in
theorem q386 : (Jvm.Cond.methodLinkNest "CoalHoles$Terrace" (145 : Nat) ({ cls := "CoalHoles$Text", name := "value", desc := "([I[I)I" } : Jvm.MethodName) "CoalHoles") ∈ lw_tbl := List.mem_of_getElem? (i := 386) rfl
set_option maxRecDepth 100000 in
theorem q389 : (Jvm.Cond.instantiable "CoalHoles$Text" (3 : Nat)) ∈ gw := gw_mem 389 rfl rfl
set_option maxRecDepth 100000 in
theorem q391 : (Jvm.Cond.methodLink "CoalHoles$Text" (20 : Nat) ({ cls := "CoalHoles$Text", name := "named", desc := "([II)I" } : Jvm.MethodName)) ∈ gw := gw_mem 391 rfl rfl
set_option maxRecDepth 100000 in
theorem q392 : (Jvm.Cond.static ({ cls := "CoalHoles$Text", name := "named", desc := "([II)I" } : Jvm.MethodName)) ∈ gw := gw_mem 392 rfl rfl
set_option maxRecDepth 100000 in
theorem q394 : (Jvm.Cond.methodLink "CoalHoles$Text" (24 : Nat) ({ cls := "CoalHoles$Text", name := "joined", desc := "(III)I" } : Jvm.MethodName)) ∈ gw := gw_mem 394 rfl rfl
set_option maxRecDepth 100000 in
theorem q395 : (Jvm.Cond.static ({ cls := "CoalHoles$Text", name := "joined", desc := "(III)I" } : Jvm.MethodName)) ∈ gw := gw_mem 395 rfl rfl
set_option maxRecDepth 100000 in
theorem q397 : (Jvm.Cond.methodLinkNest "CoalHoles$Terrace" (121 : Nat) ({ cls := "CoalHoles", name := "heldWithin", desc := "(I)I" } : Jvm.MethodName) "CoalHoles") ∈ lw_tbl := List.mem_of_getElem? (i := 397) rfl
set_option maxRecDepth 100000 in
theorem q398 : (Jvm.Cond.static ({ cls := "CoalHoles", name := "heldWithin", desc := "(I)I" } : Jvm.MethodName)) ∈ gw := gw_mem 398 rfl rfl
set_option maxRecDepth 100000 in
theorem q400 : (Jvm.Cond.methodLink "CoalHoles" (125 : Nat) ({ cls := "java/lang/Math", name := "min", desc := "(II)I" } : Jvm.MethodName)) ∈ gw := gw_mem 400 rfl rfl
set_option maxRecDepth 100000 in
theorem q401 : (Jvm.Cond.static ({ cls := "java/lang/Math", name := "min", desc := "(II)I" } : Jvm.MethodName)) ∈ gw := gw_mem 401 rfl rfl
set_option maxRecDepth 100000 in
theorem q403 : (Jvm.Cond.methodLink "CoalHoles" (324 : Nat) ({ cls := "java/lang/Math", name := "max", desc := "(II)I" } : Jvm.MethodName)) ∈ gw := gw_mem 403 rfl rfl
set_option maxRecDepth 100000 in
theorem q404 : (Jvm.Cond.static ({ cls := "java/lang/Math", name := "max", desc := "(II)I" } : Jvm.MethodName)) ∈ gw := gw_mem 404 rfl rfl
set_option maxRecDepth 100000 in
theorem q406 : (Jvm.Cond.methodLink "CoalHoles$Terrace" (118 : Nat) ({ cls := "java/lang/Math", name := "max", desc := "(II)I" } : Jvm.MethodName)) ∈ gw := gw_mem 406 rfl rfl
set_option maxRecDepth 100000 in
theorem q407 : (Jvm.Cond.methodLink "CoalHoles$Terrace" (127 : Nat) ({ cls := "CoalHoles$Terrace", name := "tuneBeside", desc := "(I)I" } : Jvm.MethodName)) ∈ gw := gw_mem 407 rfl rfl
set_option maxRecDepth 100000 in
theorem q411 : (Jvm.Cond.methodLink "CoalHoles$Terrace" (107 : Nat) ({ cls := "java/lang/Integer", name := "bitCount", desc := "(I)I" } : Jvm.MethodName)) ∈ gw := gw_mem 411 rfl rfl
set_option maxRecDepth 100000 in
theorem q412 : (Jvm.Cond.static ({ cls := "java/lang/Integer", name := "bitCount", desc := "(I)I" } : Jvm.MethodName)) ∈ gw := gw_mem 412 rfl rfl
set_option maxRecDepth 100000 in
theorem q414 : (Jvm.Cond.constant "java/lang/Integer" (265 : Nat) (1431655765 : Int32)) ∈ gw := gw_mem 414 rfl rfl
set_option maxRecDepth 100000 in
theorem q415 : (Jvm.Cond.constant "java/lang/Integer" (266 : Nat) (858993459 : Int32)) ∈ gw := gw_mem 415 rfl rfl
set_option maxRecDepth 100000 in
theorem q416 : (Jvm.Cond.constant "java/lang/Integer" (267 : Nat) (252645135 : Int32)) ∈ gw := gw_mem 416 rfl rfl
set_option maxRecDepth 100000 in
theorem q417 : (Jvm.Cond.methodLink "CoalHoles$Terrace" (100 : Nat) ({ cls := "java/lang/Math", name := "min", desc := "(II)I" } : Jvm.MethodName)) ∈ gw := gw_mem 417 rfl rfl
set_option maxRecDepth 100000 in
theorem q418 : (Jvm.Cond.methodLinkNest "CoalHoles" (102 : Nat) ({ cls := "CoalHoles$Terrace", name := "bends", desc := "(I)I" } : Jvm.MethodName) "CoalHoles") ∈ lw_tbl := List.mem_of_getElem? (i := 418) rfl
set_option maxRecDepth 100000 in
theorem q422 : (Jvm.Cond.methodLinkNest "CoalHoles" (105 : Nat) ({ cls := "CoalHoles$Terrace", name := "burns", desc := "(I)I" } : Jvm.MethodName) "CoalHoles") ∈ lw_tbl := List.mem_of_getElem? (i := 422) rfl
set_option maxRecDepth 100000 in
theorem q426 : (Jvm.Cond.methodLinkNest "CoalHoles$Terrace" (151 : Nat) ({ cls := "CoalHoles", name := "isKind", desc := "(I)Z" } : Jvm.MethodName) "CoalHoles") ∈ lw_tbl := List.mem_of_getElem? (i := 426) rfl
set_option maxRecDepth 100000 in
theorem q427 : (Jvm.Cond.fieldLinkNest "CoalHoles$Terrace" (155 : Nat) "CoalHoles" "BURNS" "[I" "CoalHoles") ∈ lw_tbl := List.mem_of_getElem? (i := 427) rfl
set_option maxRecDepth 100000 in
theorem q428 : (Jvm.Cond.laysStatic "CoalHoles" "BURNS" "[I") ∈ lw_tbl := List.mem_of_getElem? (i := 428) rfl
set_option maxRecDepth 100000 in
theorem q429 : (Jvm.Cond.methodLink "CoalHoles" (108 : Nat) ({ cls := "CoalHoles", name := "worth", desc := "(IIII)I" } : Jvm.MethodName)) ∈ gw := gw_mem 429 rfl rfl
set_option maxRecDepth 100000 in
theorem q430 : (Jvm.Cond.static ({ cls := "CoalHoles", name := "worth", desc := "(IIII)I" } : Jvm.MethodName)) ∈ gw := gw_mem 430 rfl rfl
set_option maxRecDepth 100000 in
theorem q432 : (Jvm.Cond.methodLink "CoalHolesLaw" (23 : Nat) ({ cls := "CoalHoles", name := "as", desc := "(II)I" } : Jvm.MethodName)) ∈ gw := gw_mem 432 rfl rfl
set_option maxRecDepth 100000 in
theorem q434 : (Jvm.Cond.selects "CoalHoles" ({ cls := "CoalHoles", name := "as", desc := "(II)I" } : Jvm.MethodName) ({ cls := "CoalHoles", name := "as", desc := "(II)I" } : Jvm.MethodName)) ∈ gw := gw_mem 434 rfl rfl
set_option maxRecDepth 100000 in
theorem q436 : (Jvm.Cond.methodLink "CoalHoles" (111 : Nat) ({ cls := "CoalHoles", name := "isOf", desc := "(II)Z" } : Jvm.MethodName)) ∈ gw := gw_mem 436 rfl rfl
set_option maxRecDepth 100000 in
theorem q437 : (Jvm.Cond.static ({ cls := "CoalHoles", name := "isOf", desc := "(II)Z" } : Jvm.MethodName)) ∈ gw := gw_mem 437 rfl rfl
set_option maxRecDepth 100000 in
theorem q439 : (Jvm.Cond.fieldLink "CoalHoles" (327 : Nat) "CoalHoles" "ABOVE" "[I") ∈ gw := gw_mem 439 rfl rfl
set_option maxRecDepth 100000 in
theorem q440 : (Jvm.Cond.laysStatic "CoalHoles" "ABOVE" "[I") ∈ lw_tbl := List.mem_of_getElem? (i := 440) rfl
set_option maxRecDepth 100000 in
theorem q441 : (Jvm.Cond.constant "CoalHoles" (114 : Nat) (-1000000012 : Int32)) ∈ gw := gw_mem 441 rfl rfl
set_option maxRecDepth 100000 in
theorem q442 : (Jvm.Cond.methodLink "CoalHolesLaw" (27 : Nat) ({ cls := "CoalHoles", name := "turns", desc := "(II)I" } : Jvm.MethodName)) ∈ gw := gw_mem 442 rfl rfl
set_option maxRecDepth 100000 in
theorem q444 : (Jvm.Cond.selects "CoalHoles" ({ cls := "CoalHoles", name := "turns", desc := "(II)I" } : Jvm.MethodName) ({ cls := "CoalHoles", name := "turns", desc := "(II)I" } : Jvm.MethodName)) ∈ gw := gw_mem 444 rfl rfl
set_option maxRecDepth 100000 in
theorem q446 : (Jvm.Cond.methodLink "CoalHolesLaw" (31 : Nat) ({ cls := "CoalHoles", name := "set", desc := "(III)I" } : Jvm.MethodName)) ∈ gw := gw_mem 446 rfl rfl
set_option maxRecDepth 100000 in
theorem q448 : (Jvm.Cond.selects "CoalHoles" ({ cls := "CoalHoles", name := "set", desc := "(III)I" } : Jvm.MethodName) ({ cls := "CoalHoles", name := "set", desc := "(III)I" } : Jvm.MethodName)) ∈ gw := gw_mem 448 rfl rfl
set_option maxRecDepth 100000 in
theorem q450 : (Jvm.Cond.methodLink "CoalHoles" (115 : Nat) ({ cls := "CoalHoles", name := "replaced", desc := "([III)I" } : Jvm.MethodName)) ∈ gw := gw_mem 450 rfl rfl
set_option maxRecDepth 100000 in
theorem q451 : (Jvm.Cond.static ({ cls := "CoalHoles", name := "replaced", desc := "([III)I" } : Jvm.MethodName)) ∈ gw := gw_mem 451 rfl rfl
set_option maxRecDepth 100000 in
theorem q453 : (Jvm.Cond.methodLink "CoalHolesLaw" (36 : Nat) ({ cls := "CoalHoles", name := "rule", desc := "(II)I" } : Jvm.MethodName)) ∈ gw := gw_mem 453 rfl rfl
set_option maxRecDepth 100000 in
theorem q455 : (Jvm.Cond.selects "CoalHoles" ({ cls := "CoalHoles", name := "rule", desc := "(II)I" } : Jvm.MethodName) ({ cls := "CoalHoles", name := "rule", desc := "(II)I" } : Jvm.MethodName)) ∈ gw := gw_mem 455 rfl rfl
set_option maxRecDepth 100000 in
theorem q457 : (Jvm.Cond.fieldLink "CoalHoles" (119 : Nat) "CoalHoles" "MOST_RULES" "[I") ∈ gw := gw_mem 457 rfl rfl
set_option maxRecDepth 100000 in
theorem q458 : (Jvm.Cond.laysStatic "CoalHoles" "MOST_RULES" "[I") ∈ lw_tbl := List.mem_of_getElem? (i := 458) rfl
set_option maxRecDepth 100000 in
theorem q459 : (Jvm.Cond.methodLink "CoalHolesLaw" (40 : Nat) ({ cls := "CoalHoles", name := "deal", desc := "(I)I" } : Jvm.MethodName)) ∈ gw := gw_mem 459 rfl rfl
set_option maxRecDepth 100000 in
theorem q461 : (Jvm.Cond.selects "CoalHoles" ({ cls := "CoalHoles", name := "deal", desc := "(I)I" } : Jvm.MethodName) ({ cls := "CoalHoles", name := "deal", desc := "(I)I" } : Jvm.MethodName)) ∈ gw := gw_mem 461 rfl rfl
set_option maxRecDepth 100000 in
theorem q463 : (Jvm.Cond.methodLinkNest "CoalHoles" (131 : Nat) ({ cls := "CoalHoles$Terrace", name := "buildByLot", desc := "()V" } : Jvm.MethodName) "CoalHoles") ∈ lw_tbl := List.mem_of_getElem? (i := 463) rfl
set_option maxRecDepth 100000 in
theorem q467 : (Jvm.Cond.methodLink "CoalHoles$Terrace" (75 : Nat) ({ cls := "CoalHoles$Terrace", name := "draw", desc := "()I" } : Jvm.MethodName)) ∈ gw := gw_mem 467 rfl rfl
set_option maxRecDepth 100000 in
theorem q471 : (Jvm.Cond.constant "CoalHoles$Terrace" (83 : Nat) (1103515245 : Int32)) ∈ gw := gw_mem 471 rfl rfl
set_option maxRecDepth 100000 in
theorem q472 : (Jvm.Cond.methodLink "CoalHoles$Terrace" (79 : Nat) ({ cls := "CoalHoles$Terrace", name := "build", desc := "(IIII)I" } : Jvm.MethodName)) ∈ gw := gw_mem 472 rfl rfl
set_option maxRecDepth 100000 in
theorem q473 : (Jvm.Cond.methodLink "CoalHolesLaw" (45 : Nat) ({ cls := "CoalHoles", name := "seed", desc := "(I)I" } : Jvm.MethodName)) ∈ gw := gw_mem 473 rfl rfl
set_option maxRecDepth 100000 in
theorem q475 : (Jvm.Cond.selects "CoalHoles" ({ cls := "CoalHoles", name := "seed", desc := "(I)I" } : Jvm.MethodName) ({ cls := "CoalHoles", name := "seed", desc := "(I)I" } : Jvm.MethodName)) ∈ gw := gw_mem 475 rfl rfl
set_option maxRecDepth 100000 in
theorem q477 : (Jvm.Cond.methodLink "CoalHolesLaw" (49 : Nat) ({ cls := "CoalHoles", name := "round", desc := "()I" } : Jvm.MethodName)) ∈ gw := gw_mem 477 rfl rfl
set_option maxRecDepth 100000 in
theorem q479 : (Jvm.Cond.selects "CoalHoles" ({ cls := "CoalHoles", name := "round", desc := "()I" } : Jvm.MethodName) ({ cls := "CoalHoles", name := "round", desc := "()I" } : Jvm.MethodName)) ∈ gw := gw_mem 479 rfl rfl
set_option maxRecDepth 100000 in
theorem q481 : (Jvm.Cond.methodLinkNest "CoalHoles" (137 : Nat) ({ cls := "CoalHoles$Terrace", name := "clank", desc := "()V" } : Jvm.MethodName) "CoalHoles") ∈ lw_tbl := List.mem_of_getElem? (i := 481) rfl
set_option maxRecDepth 100000 in
theorem q485 : (Jvm.Cond.methodLink "CoalHoles$Terrace" (97 : Nat) ({ cls := "CoalHoles$Terrace", name := "slack", desc := "(I)I" } : Jvm.MethodName)) ∈ gw := gw_mem 485 rfl rfl
set_option maxRecDepth 100000 in
theorem q486 : (Jvm.Cond.constant "CoalHoles$Terrace" (106 : Nat) (99999 : Int32)) ∈ gw := gw_mem 486 rfl rfl
set_option maxRecDepth 100000 in
theorem q487 : (Jvm.Cond.methodLink "CoalHolesLaw" (54 : Nat) ({ cls := "CoalHoles", name := "load", desc := "(I)I" } : Jvm.MethodName)) ∈ gw := gw_mem 487 rfl rfl
set_option maxRecDepth 100000 in
theorem q489 : (Jvm.Cond.selects "CoalHoles" ({ cls := "CoalHoles", name := "load", desc := "(I)I" } : Jvm.MethodName) ({ cls := "CoalHoles", name := "load", desc := "(I)I" } : Jvm.MethodName)) ∈ gw := gw_mem 489 rfl rfl
set_option maxRecDepth 100000 in
theorem q491 : (Jvm.Cond.methodLinkNest "CoalHoles" (143 : Nat) ({ cls := "CoalHoles$Terrace", name := "deliver", desc := "(I)I" } : Jvm.MethodName) "CoalHoles") ∈ lw_tbl := List.mem_of_getElem? (i := 491) rfl
set_option maxRecDepth 100000 in
theorem q495 : (Jvm.Cond.methodLink "CoalHolesLaw" (58 : Nat) ({ cls := "CoalHoles", name := "nights", desc := "(I)I" } : Jvm.MethodName)) ∈ gw := gw_mem 495 rfl rfl
set_option maxRecDepth 100000 in
theorem q497 : (Jvm.Cond.selects "CoalHoles" ({ cls := "CoalHoles", name := "nights", desc := "(I)I" } : Jvm.MethodName) ({ cls := "CoalHoles", name := "nights", desc := "(I)I" } : Jvm.MethodName)) ∈ gw := gw_mem 497 rfl rfl
set_option maxRecDepth 100000 in
theorem q499 : (Jvm.Cond.methodLinkNest "CoalHoles" (152 : Nat) ({ cls := "CoalHoles$Terrace", name := "pass", desc := "(I)V" } : Jvm.MethodName) "CoalHoles") ∈ lw_tbl := List.mem_of_getElem? (i := 499) rfl
set_option maxRecDepth 100000 in
theorem q503 : (Jvm.Cond.methodLink "CoalHoles$Terrace" (84 : Nat) ({ cls := "CoalHoles$Terrace", name := "clank", desc := "()V" } : Jvm.MethodName)) ∈ gw := gw_mem 503 rfl rfl
set_option maxRecDepth 100000 in
theorem q504 : (Jvm.Cond.methodLink "CoalHoles$Terrace" (87 : Nat) ({ cls := "CoalHoles$Terrace", name := "deliver", desc := "(I)I" } : Jvm.MethodName)) ∈ gw := gw_mem 504 rfl rfl
set_option maxRecDepth 100000 in
theorem q505 : (Jvm.Cond.methodLink "CoalHoles$Terrace" (91 : Nat) ({ cls := "CoalHoles$Terrace", name := "burnAndBend", desc := "()V" } : Jvm.MethodName)) ∈ gw := gw_mem 505 rfl rfl
set_option maxRecDepth 100000 in
theorem q509 : (Jvm.Cond.methodLink "CoalHoles$Terrace" (112 : Nat) ({ cls := "CoalHoles$Terrace", name := "bends", desc := "(I)I" } : Jvm.MethodName)) ∈ gw := gw_mem 509 rfl rfl
set_option maxRecDepth 100000 in
theorem q510 : (Jvm.Cond.methodLink "CoalHoles$Terrace" (115 : Nat) ({ cls := "CoalHoles$Terrace", name := "burns", desc := "(I)I" } : Jvm.MethodName)) ∈ gw := gw_mem 510 rfl rfl
set_option maxRecDepth 100000 in
theorem q511 : (Jvm.Cond.methodLink "CoalHoles$Terrace" (94 : Nat) ({ cls := "CoalHoles$Terrace", name := "tread", desc := "()V" } : Jvm.MethodName)) ∈ gw := gw_mem 511 rfl rfl
set_option maxRecDepth 100000 in
theorem q515 : (Jvm.Cond.methodLink "CoalHolesLaw" (62 : Nat) ({ cls := "CoalHoles", name := "terrace", desc := "(I)I" } : Jvm.MethodName)) ∈ gw := gw_mem 515 rfl rfl
set_option maxRecDepth 100000 in
theorem q517 : (Jvm.Cond.selects "CoalHoles" ({ cls := "CoalHoles", name := "terrace", desc := "(I)I" } : Jvm.MethodName) ({ cls := "CoalHoles", name := "terrace", desc := "(I)I" } : Jvm.MethodName)) ∈ gw := gw_mem 517 rfl rfl
set_option maxRecDepth 100000 in
theorem q519 : (Jvm.Cond.methodLinkNest "CoalHoles" (156 : Nat) ({ cls := "CoalHoles$Terrace", name := "loudest", desc := "()I" } : Jvm.MethodName) "CoalHoles") ∈ lw_tbl := List.mem_of_getElem? (i := 519) rfl
set_option maxRecDepth 100000 in
theorem q523 : (Jvm.Cond.methodLinkNest "CoalHoles" (160 : Nat) ({ cls := "CoalHoles$Terrace", name := "total", desc := "([I)I" } : Jvm.MethodName) "CoalHoles") ∈ lw_tbl := List.mem_of_getElem? (i := 523) rfl
set_option maxRecDepth 100000 in
theorem q527 : (Jvm.Cond.methodLinkNest "CoalHoles" (164 : Nat) ({ cls := "CoalHoles$Terrace", name := "reading", desc := "(I)I" } : Jvm.MethodName) "CoalHoles") ∈ lw_tbl := List.mem_of_getElem? (i := 527) rfl
set_option maxRecDepth 100000 in
theorem q531 : (Jvm.Cond.methodLink "CoalHoles$Terrace" (158 : Nat) ({ cls := "CoalHoles$Terrace", name := "coldOnes", desc := "()I" } : Jvm.MethodName)) ∈ gw := gw_mem 531 rfl rfl
set_option maxRecDepth 100000 in
theorem q535 : (Jvm.Cond.methodLink "CoalHoles$Terrace" (161 : Nat) ({ cls := "CoalHoles$Terrace", name := "total", desc := "([I)I" } : Jvm.MethodName)) ∈ gw := gw_mem 535 rfl rfl
set_option maxRecDepth 100000 in
theorem q536 : (Jvm.Cond.constant "CoalHoles$Terrace" (165 : Nat) (-1000000001 : Int32)) ∈ gw := gw_mem 536 rfl rfl
set_option maxRecDepth 100000 in
theorem q537 : (Jvm.Cond.methodLink "CoalHolesLaw" (66 : Nat) ({ cls := "CoalHoles", name := "behind", desc := "(II)I" } : Jvm.MethodName)) ∈ gw := gw_mem 537 rfl rfl
set_option maxRecDepth 100000 in
theorem q539 : (Jvm.Cond.selects "CoalHoles" ({ cls := "CoalHoles", name := "behind", desc := "(II)I" } : Jvm.MethodName) ({ cls := "CoalHoles", name := "behind", desc := "(II)I" } : Jvm.MethodName)) ∈ gw := gw_mem 539 rfl rfl
set_option maxRecDepth 100000 in
theorem q541 : (Jvm.Cond.methodLinkNest "CoalHoles" (167 : Nat) ({ cls := "CoalHoles$Terrace", name := "become", desc := "(LCoalHoles$Terrace;)V" } : Jvm.MethodName) "CoalHoles") ∈ lw_tbl := List.mem_of_getElem? (i := 541) rfl
set_option maxRecDepth 100000 in
theorem q545 : (Jvm.Cond.methodLink "CoalHoles$Terrace" (53 : Nat) ({ cls := "java/lang/System", name := "arraycopy", desc := "(Ljava/lang/Object;ILjava/lang/Object;II)V" } : Jvm.MethodName)) ∈ gw := gw_mem 545 rfl rfl
set_option maxRecDepth 100000 in
theorem q546 : (Jvm.Cond.static ({ cls := "java/lang/System", name := "arraycopy", desc := "(Ljava/lang/Object;ILjava/lang/Object;II)V" } : Jvm.MethodName)) ∈ gw := gw_mem 546 rfl rfl
set_option maxRecDepth 100000 in
theorem q547 : (Jvm.Cond.native ({ cls := "java/lang/System", name := "arraycopy", desc := "(Ljava/lang/Object;ILjava/lang/Object;II)V" } : Jvm.MethodName)) ∈ gw := gw_mem 547 rfl rfl
set_option maxRecDepth 100000 in
theorem q548 : (Jvm.Cond.methodLink "CoalHolesLaw" (70 : Nat) ({ cls := "CoalHoles", name := "cold", desc := "(I)I" } : Jvm.MethodName)) ∈ gw := gw_mem 548 rfl rfl
set_option maxRecDepth 100000 in
theorem q550 : (Jvm.Cond.selects "CoalHoles" ({ cls := "CoalHoles", name := "cold", desc := "(I)I" } : Jvm.MethodName) ({ cls := "CoalHoles", name := "cold", desc := "(I)I" } : Jvm.MethodName)) ∈ gw := gw_mem 550 rfl rfl
set_option maxRecDepth 100000 in
theorem q552 : (Jvm.Cond.constant "CoalHoles" (171 : Nat) (-1000000005 : Int32)) ∈ gw := gw_mem 552 rfl rfl
set_option maxRecDepth 100000 in
theorem q553 : (Jvm.Cond.methodLink "CoalHolesLaw" (74 : Nat) ({ cls := "CoalHoles", name := "shut", desc := "(I)I" } : Jvm.MethodName)) ∈ gw := gw_mem 553 rfl rfl
set_option maxRecDepth 100000 in
theorem q555 : (Jvm.Cond.selects "CoalHoles" ({ cls := "CoalHoles", name := "shut", desc := "(I)I" } : Jvm.MethodName) ({ cls := "CoalHoles", name := "shut", desc := "(I)I" } : Jvm.MethodName)) ∈ gw := gw_mem 555 rfl rfl
set_option maxRecDepth 100000 in
theorem q557 : (Jvm.Cond.methodLink "CoalHolesLaw" (78 : Nat) ({ cls := "CoalHoles", name := "cement", desc := "(I)I" } : Jvm.MethodName)) ∈ gw := gw_mem 557 rfl rfl
set_option maxRecDepth 100000 in
theorem q559 : (Jvm.Cond.selects "CoalHoles" ({ cls := "CoalHoles", name := "cement", desc := "(I)I" } : Jvm.MethodName) ({ cls := "CoalHoles", name := "cement", desc := "(I)I" } : Jvm.MethodName)) ∈ gw := gw_mem 559 rfl rfl
set_option maxRecDepth 100000 in
theorem q561 : (Jvm.Cond.methodLinkNest "CoalHoles" (172 : Nat) ({ cls := "CoalHoles$Terrace", name := "those", desc := "(I)I" } : Jvm.MethodName) "CoalHoles") ∈ lw_tbl := List.mem_of_getElem? (i := 561) rfl
set_option maxRecDepth 100000 in
theorem q565 : (Jvm.Cond.methodLinkNest "CoalHoles" (175 : Nat) ({ cls := "CoalHoles$Terrace", name := "misfits", desc := "()I" } : Jvm.MethodName) "CoalHoles") ∈ lw_tbl := List.mem_of_getElem? (i := 565) rfl
set_option maxRecDepth 100000 in
theorem q569 : (Jvm.Cond.methodLink "CoalHoles" (178 : Nat) ({ cls := "CoalHoles", name := "loudWith", desc := "(IIZ)I" } : Jvm.MethodName)) ∈ gw := gw_mem 569 rfl rfl
set_option maxRecDepth 100000 in
theorem q573 : (Jvm.Cond.methodLink "CoalHoles" (182 : Nat) ({ cls := "java/lang/Integer", name := "bitCount", desc := "(I)I" } : Jvm.MethodName)) ∈ gw := gw_mem 573 rfl rfl
set_option maxRecDepth 100000 in
theorem q574 : (Jvm.Cond.methodLink "CoalHolesLaw" (82 : Nat) ({ cls := "CoalHoles", name := "cast", desc := "(III)I" } : Jvm.MethodName)) ∈ gw := gw_mem 574 rfl rfl
set_option maxRecDepth 100000 in
theorem q576 : (Jvm.Cond.selects "CoalHoles" ({ cls := "CoalHoles", name := "cast", desc := "(III)I" } : Jvm.MethodName) ({ cls := "CoalHoles", name := "cast", desc := "(III)I" } : Jvm.MethodName)) ∈ gw := gw_mem 576 rfl rfl
set_option maxRecDepth 100000 in
theorem q578 : (Jvm.Cond.methodLinkNest "CoalHoles" (187 : Nat) ({ cls := "CoalHoles$Terrace", name := "mostCoal", desc := "(II)I" } : Jvm.MethodName) "CoalHoles") ∈ lw_tbl := List.mem_of_getElem? (i := 578) rfl
set_option maxRecDepth 100000 in
theorem q582 : (Jvm.Cond.methodLink "CoalHolesLaw" (86 : Nat) ({ cls := "CoalHoles", name := "becomes", desc := "(III)I" } : Jvm.MethodName)) ∈ gw := gw_mem 582 rfl rfl
set_option maxRecDepth 100000 in
theorem q584 : (Jvm.Cond.selects "CoalHoles" ({ cls := "CoalHoles", name := "becomes", desc := "(III)I" } : Jvm.MethodName) ({ cls := "CoalHoles", name := "becomes", desc := "(III)I" } : Jvm.MethodName)) ∈ gw := gw_mem 584 rfl rfl
set_option maxRecDepth 100000 in
theorem q586 : (Jvm.Cond.constant "CoalHoles" (190 : Nat) (100000 : Int32)) ∈ gw := gw_mem 586 rfl rfl
set_option maxRecDepth 100000 in
theorem q587 : (Jvm.Cond.methodLink "CoalHolesLaw" (90 : Nat) ({ cls := "CoalHoles", name := "ears", desc := "(II)I" } : Jvm.MethodName)) ∈ gw := gw_mem 587 rfl rfl
set_option maxRecDepth 100000 in
theorem q589 : (Jvm.Cond.selects "CoalHoles" ({ cls := "CoalHoles", name := "ears", desc := "(II)I" } : Jvm.MethodName) ({ cls := "CoalHoles", name := "ears", desc := "(II)I" } : Jvm.MethodName)) ∈ gw := gw_mem 589 rfl rfl
set_option maxRecDepth 100000 in
theorem q591 : (Jvm.Cond.constant "CoalHoles" (191 : Nat) (99999 : Int32)) ∈ gw := gw_mem 591 rfl rfl
set_option maxRecDepth 100000 in
theorem q592 : (Jvm.Cond.methodLink "CoalHolesLaw" (94 : Nat) ({ cls := "CoalHoles", name := "like", desc := "(II)I" } : Jvm.MethodName)) ∈ gw := gw_mem 592 rfl rfl
set_option maxRecDepth 100000 in
theorem q594 : (Jvm.Cond.selects "CoalHoles" ({ cls := "CoalHoles", name := "like", desc := "(II)I" } : Jvm.MethodName) ({ cls := "CoalHoles", name := "like", desc := "(II)I" } : Jvm.MethodName)) ∈ gw := gw_mem 594 rfl rfl
set_option maxRecDepth 100000 in
theorem q596 : (Jvm.Cond.methodLink "CoalHoles" (192 : Nat) ({ cls := "CoalHoles", name := "sheetAt", desc := "(I)LCoalHoles$Sheet;" } : Jvm.MethodName)) ∈ gw := gw_mem 596 rfl rfl
set_option maxRecDepth 100000 in
theorem q600 : (Jvm.Cond.constant "CoalHoles" (199 : Nat) (-1000000011 : Int32)) ∈ gw := gw_mem 600 rfl rfl
set_option maxRecDepth 100000 in
theorem q601 : (Jvm.Cond.methodLink "CoalHoles" (200 : Nat) ({ cls := "CoalHoles", name := "compare", desc := "(LCoalHoles$Sheet;)V" } : Jvm.MethodName)) ∈ gw := gw_mem 601 rfl rfl
set_option maxRecDepth 100000 in
theorem q605 : (Jvm.Cond.methodLink "CoalHoles" (315 : Nat) ({ cls := "java/util/Arrays", name := "fill", desc := "([II)V" } : Jvm.MethodName)) ∈ gw := gw_mem 605 rfl rfl
set_option maxRecDepth 100000 in
theorem q606 : (Jvm.Cond.static ({ cls := "java/util/Arrays", name := "fill", desc := "([II)V" } : Jvm.MethodName)) ∈ gw := gw_mem 606 rfl rfl
set_option maxRecDepth 100000 in
theorem q608 : (Jvm.Cond.methodLinkNest "CoalHoles" (260 : Nat) ({ cls := "CoalHoles$Sheet", name := "isNumber", desc := "(I)Z" } : Jvm.MethodName) "CoalHoles") ∈ lw_tbl := List.mem_of_getElem? (i := 608) rfl
set_option maxRecDepth 100000 in
theorem q612 : (Jvm.Cond.methodLink "CoalHoles$Sheet" (34 : Nat) ({ cls := "CoalHoles$Sheet", name := "has", desc := "(I)Z" } : Jvm.MethodName)) ∈ gw := gw_mem 612 rfl rfl
set_option maxRecDepth 100000 in
theorem q616 : (Jvm.Cond.constant "CoalHoles$Sheet" (38 : Nat) (-1000000005 : Int32)) ∈ gw := gw_mem 616 rfl rfl
set_option maxRecDepth 100000 in
theorem q617 : (Jvm.Cond.methodLink "CoalHoles" (321 : Nat) ({ cls := "java/lang/Math", name := "abs", desc := "(I)I" } : Jvm.MethodName)) ∈ gw := gw_mem 617 rfl rfl
set_option maxRecDepth 100000 in
theorem q618 : (Jvm.Cond.methodLink "CoalHolesLaw" (98 : Nat) ({ cls := "CoalHoles", name := "fee", desc := "()I" } : Jvm.MethodName)) ∈ gw := gw_mem 618 rfl rfl
set_option maxRecDepth 100000 in
theorem q620 : (Jvm.Cond.selects "CoalHoles" ({ cls := "CoalHoles", name := "fee", desc := "()I" } : Jvm.MethodName) ({ cls := "CoalHoles", name := "fee", desc := "()I" } : Jvm.MethodName)) ∈ gw := gw_mem 620 rfl rfl
set_option maxRecDepth 100000 in
theorem q622 : (Jvm.Cond.methodLinkNest "CoalHoles" (204 : Nat) ({ cls := "CoalHoles$Terrace", name := "feeNow", desc := "()I" } : Jvm.MethodName) "CoalHoles") ∈ lw_tbl := List.mem_of_getElem? (i := 622) rfl
set_option maxRecDepth 100000 in
theorem q626 : (Jvm.Cond.methodLink "CoalHolesLaw" (102 : Nat) ({ cls := "CoalHoles", name := "fine", desc := "(I)I" } : Jvm.MethodName)) ∈ gw := gw_mem 626 rfl rfl
set_option maxRecDepth 100000 in
theorem q628 : (Jvm.Cond.selects "CoalHoles" ({ cls := "CoalHoles", name := "fine", desc := "(I)I" } : Jvm.MethodName) ({ cls := "CoalHoles", name := "fine", desc := "(I)I" } : Jvm.MethodName)) ∈ gw := gw_mem 628 rfl rfl
set_option maxRecDepth 100000 in
theorem q630 : (Jvm.Cond.methodLinkNest "CoalHoles" (207 : Nat) ({ cls := "CoalHoles$Terrace", name := "fineOf", desc := "(I)I" } : Jvm.MethodName) "CoalHoles") ∈ lw_tbl := List.mem_of_getElem? (i := 630) rfl
set_option maxRecDepth 100000 in
theorem q634 : (Jvm.Cond.methodLink "CoalHolesLaw" (106 : Nat) ({ cls := "CoalHoles", name := "feed", desc := "(III)I" } : Jvm.MethodName)) ∈ gw := gw_mem 634 rfl rfl
set_option maxRecDepth 100000 in
theorem q636 : (Jvm.Cond.selects "CoalHoles" ({ cls := "CoalHoles", name := "feed", desc := "(III)I" } : Jvm.MethodName) ({ cls := "CoalHoles", name := "feed", desc := "(III)I" } : Jvm.MethodName)) ∈ gw := gw_mem 636 rfl rfl
set_option maxRecDepth 100000 in
theorem q638 : (Jvm.Cond.methodLink "CoalHoles" (213 : Nat) ({ cls := "CoalHoles", name := "feedOne", desc := "(I)V" } : Jvm.MethodName)) ∈ gw := gw_mem 638 rfl rfl
set_option maxRecDepth 100000 in
theorem q642 : (Jvm.Cond.methodLink "CoalHolesLaw" (110 : Nat) ({ cls := "CoalHoles", name := "trim", desc := "(I)I" } : Jvm.MethodName)) ∈ gw := gw_mem 642 rfl rfl
set_option maxRecDepth 100000 in
theorem q644 : (Jvm.Cond.selects "CoalHoles" ({ cls := "CoalHoles", name := "trim", desc := "(I)I" } : Jvm.MethodName) ({ cls := "CoalHoles", name := "trim", desc := "(I)I" } : Jvm.MethodName)) ∈ gw := gw_mem 644 rfl rfl
set_option maxRecDepth 100000 in
theorem q646 : (Jvm.Cond.methodLink "CoalHolesLaw" (114 : Nat) ({ cls := "CoalHoles", name := "text", desc := "()I" } : Jvm.MethodName)) ∈ gw := gw_mem 646 rfl rfl
set_option maxRecDepth 100000 in
theorem q648 : (Jvm.Cond.selects "CoalHoles" ({ cls := "CoalHoles", name := "text", desc := "()I" } : Jvm.MethodName) ({ cls := "CoalHoles", name := "text", desc := "()I" } : Jvm.MethodName)) ∈ gw := gw_mem 648 rfl rfl
set_option maxRecDepth 100000 in
theorem q650 : (Jvm.Cond.methodLinkNest "CoalHoles" (216 : Nat) ({ cls := "CoalHoles$Reader", name := "faultOf", desc := "([II)I" } : Jvm.MethodName) "CoalHoles") ∈ lw_tbl := List.mem_of_getElem? (i := 650) rfl
set_option maxRecDepth 100000 in
theorem q654 : (Jvm.Cond.methodLink "CoalHoles$Reader" (34 : Nat) ({ cls := "CoalHoles$Reader", name := "pastBlanks", desc := "([III)I" } : Jvm.MethodName)) ∈ gw := gw_mem 654 rfl rfl
set_option maxRecDepth 100000 in
theorem q655 : (Jvm.Cond.static ({ cls := "CoalHoles$Reader", name := "pastBlanks", desc := "([III)I" } : Jvm.MethodName)) ∈ gw := gw_mem 655 rfl rfl
set_option maxRecDepth 100000 in
theorem q657 : (Jvm.Cond.methodLink "CoalHoles$Reader" (38 : Nat) ({ cls := "CoalHoles$Reader", name := "endOf", desc := "([III)I" } : Jvm.MethodName)) ∈ gw := gw_mem 657 rfl rfl
set_option maxRecDepth 100000 in
theorem q658 : (Jvm.Cond.static ({ cls := "CoalHoles$Reader", name := "endOf", desc := "([III)I" } : Jvm.MethodName)) ∈ gw := gw_mem 658 rfl rfl
set_option maxRecDepth 100000 in
theorem q660 : (Jvm.Cond.methodLink "CoalHoles$Reader" (73 : Nat) ({ cls := "CoalHoles$Reader", name := "isLetter", desc := "(I)Z" } : Jvm.MethodName)) ∈ gw := gw_mem 660 rfl rfl
set_option maxRecDepth 100000 in
theorem q661 : (Jvm.Cond.static ({ cls := "CoalHoles$Reader", name := "isLetter", desc := "(I)Z" } : Jvm.MethodName)) ∈ gw := gw_mem 661 rfl rfl
set_option maxRecDepth 100000 in
theorem q663 : (Jvm.Cond.methodLink "CoalHoles$Reader" (76 : Nat) ({ cls := "CoalHoles$Reader", name := "isDigit", desc := "(I)Z" } : Jvm.MethodName)) ∈ gw := gw_mem 663 rfl rfl
set_option maxRecDepth 100000 in
theorem q664 : (Jvm.Cond.static ({ cls := "CoalHoles$Reader", name := "isDigit", desc := "(I)Z" } : Jvm.MethodName)) ∈ gw := gw_mem 664 rfl rfl
set_option maxRecDepth 100000 in
theorem q666 : (Jvm.Cond.methodLink "CoalHoles$Reader" (79 : Nat) ({ cls := "java/lang/Math", name := "min", desc := "(II)I" } : Jvm.MethodName)) ∈ gw := gw_mem 666 rfl rfl
set_option maxRecDepth 100000 in
theorem q667 : (Jvm.Cond.methodLink "CoalHoles$Reader" (41 : Nat) ({ cls := "CoalHoles$Reader", name := "keyOf", desc := "([III)I" } : Jvm.MethodName)) ∈ gw := gw_mem 667 rfl rfl
set_option maxRecDepth 100000 in
theorem q668 : (Jvm.Cond.static ({ cls := "CoalHoles$Reader", name := "keyOf", desc := "([III)I" } : Jvm.MethodName)) ∈ gw := gw_mem 668 rfl rfl
set_option maxRecDepth 100000 in
theorem q670 : (Jvm.Cond.methodLink "CoalHoles$Reader" (47 : Nat) ({ cls := "CoalHoles$Reader", name := "isWord", desc := "(I)Z" } : Jvm.MethodName)) ∈ gw := gw_mem 670 rfl rfl
set_option maxRecDepth 100000 in
theorem q671 : (Jvm.Cond.static ({ cls := "CoalHoles$Reader", name := "isWord", desc := "(I)Z" } : Jvm.MethodName)) ∈ gw := gw_mem 671 rfl rfl
set_option maxRecDepth 100000 in
theorem q673 : (Jvm.Cond.methodLink "CoalHoles$Reader" (51 : Nat) ({ cls := "CoalHoles$Reader", name := "takePiece", desc := "([III)I" } : Jvm.MethodName)) ∈ gw := gw_mem 673 rfl rfl
set_option maxRecDepth 100000 in
theorem q677 : (Jvm.Cond.methodLink "CoalHoles$Reader" (85 : Nat) ({ cls := "CoalHoles$Reader", name := "namesOf", desc := "(I)Ljava/lang/String;" } : Jvm.MethodName)) ∈ gw := gw_mem 677 rfl rfl
set_option maxRecDepth 100000 in
theorem q678 : (Jvm.Cond.static ({ cls := "CoalHoles$Reader", name := "namesOf", desc := "(I)Ljava/lang/String;" } : Jvm.MethodName)) ∈ gw := gw_mem 678 rfl rfl
set_option maxRecDepth 100000 in
theorem q680 : (Jvm.Cond.stringRef "CoalHoles$Reader" (121 : Nat) "spcn") ∈ lw_tbl := List.mem_of_getElem? (i := 680) rfl
set_option maxRecDepth 100000 in
theorem q681 : (Jvm.Cond.stringRef "CoalHoles$Reader" (123 : Nat) "ok") ∈ lw_tbl := List.mem_of_getElem? (i := 681) rfl
set_option maxRecDepth 100000 in
theorem q682 : (Jvm.Cond.stringRef "CoalHoles$Reader" (125 : Nat) "sc") ∈ lw_tbl := List.mem_of_getElem? (i := 682) rfl
set_option maxRecDepth 100000 in
theorem q683 : (Jvm.Cond.methodLink "CoalHoles$Reader" (89 : Nat) ({ cls := "java/lang/String", name := "indexOf", desc := "(I)I" } : Jvm.MethodName)) ∈ gw := gw_mem 683 rfl rfl
set_option maxRecDepth 100000 in
theorem q685 : (Jvm.Cond.selects "java/lang/String" ({ cls := "java/lang/String", name := "indexOf", desc := "(I)I" } : Jvm.MethodName) ({ cls := "java/lang/String", name := "indexOf", desc := "(I)I" } : Jvm.MethodName)) ∈ gw := gw_mem 685 rfl rfl
set_option maxRecDepth 100000 in
theorem q687 : (Jvm.Cond.methodLink "java/lang/String" (633 : Nat) ({ cls := "java/lang/String", name := "indexOf", desc := "(II)I" } : Jvm.MethodName)) ∈ gw := gw_mem 687 rfl rfl
set_option maxRecDepth 100000 in
theorem q689 : (Jvm.Cond.selects "java/lang/String" ({ cls := "java/lang/String", name := "indexOf", desc := "(II)I" } : Jvm.MethodName) ({ cls := "java/lang/String", name := "indexOf", desc := "(II)I" } : Jvm.MethodName)) ∈ gw := gw_mem 689 rfl rfl
set_option maxRecDepth 100000 in
theorem q691 : (Jvm.Cond.methodLink "java/lang/String" (492 : Nat) ({ cls := "java/lang/String", name := "isLatin1", desc := "()Z" } : Jvm.MethodName)) ∈ gw := gw_mem 691 rfl rfl
set_option maxRecDepth 100000 in
theorem q693 : (Jvm.Cond.selects "java/lang/String" ({ cls := "java/lang/String", name := "isLatin1", desc := "()Z" } : Jvm.MethodName) ({ cls := "java/lang/String", name := "isLatin1", desc := "()Z" } : Jvm.MethodName)) ∈ gw := gw_mem 693 rfl rfl
set_option maxRecDepth 100000 in
theorem q695 : (Jvm.Cond.methodLink "java/lang/String" (505 : Nat) ({ cls := "java/lang/String", name := "length", desc := "()I" } : Jvm.MethodName)) ∈ gw := gw_mem 695 rfl rfl
set_option maxRecDepth 100000 in
theorem q696 : (Jvm.Cond.methodLink "java/lang/String" (637 : Nat) ({ cls := "java/lang/StringLatin1", name := "indexOf", desc := "([BIII)I" } : Jvm.MethodName)) ∈ gw := gw_mem 696 rfl rfl
set_option maxRecDepth 100000 in
theorem q697 : (Jvm.Cond.static ({ cls := "java/lang/StringLatin1", name := "indexOf", desc := "([BIII)I" } : Jvm.MethodName)) ∈ gw := gw_mem 697 rfl rfl
set_option maxRecDepth 100000 in
theorem q699 : (Jvm.Cond.methodLink "java/lang/StringLatin1" (88 : Nat) ({ cls := "java/lang/StringLatin1", name := "canEncode", desc := "(I)Z" } : Jvm.MethodName)) ∈ gw := gw_mem 699 rfl rfl
set_option maxRecDepth 100000 in
theorem q700 : (Jvm.Cond.static ({ cls := "java/lang/StringLatin1", name := "canEncode", desc := "(I)Z" } : Jvm.MethodName)) ∈ gw := gw_mem 700 rfl rfl
set_option maxRecDepth 100000 in
theorem q702 : (Jvm.Cond.methodLink "java/lang/StringLatin1" (92 : Nat) ({ cls := "java/lang/Math", name := "max", desc := "(II)I" } : Jvm.MethodName)) ∈ gw := gw_mem 702 rfl rfl
set_option maxRecDepth 100000 in
theorem q703 : (Jvm.Cond.methodLink "java/lang/StringLatin1" (38 : Nat) ({ cls := "java/lang/Math", name := "min", desc := "(II)I" } : Jvm.MethodName)) ∈ gw := gw_mem 703 rfl rfl
set_option maxRecDepth 100000 in
theorem q704 : (Jvm.Cond.methodLink "java/lang/StringLatin1" (95 : Nat) ({ cls := "java/lang/StringLatin1", name := "indexOfChar", desc := "([BIII)I" } : Jvm.MethodName)) ∈ gw := gw_mem 704 rfl rfl
set_option maxRecDepth 100000 in
theorem q705 : (Jvm.Cond.static ({ cls := "java/lang/StringLatin1", name := "indexOfChar", desc := "([BIII)I" } : Jvm.MethodName)) ∈ gw := gw_mem 705 rfl rfl
set_option maxRecDepth 100000 in
theorem q707 : (Jvm.Cond.methodLink "java/lang/String" (640 : Nat) ({ cls := "java/lang/StringUTF16", name := "indexOf", desc := "([BIII)I" } : Jvm.MethodName)) ∈ gw := gw_mem 707 rfl rfl
set_option maxRecDepth 100000 in
theorem q708 : (Jvm.Cond.static ({ cls := "java/lang/StringUTF16", name := "indexOf", desc := "([BIII)I" } : Jvm.MethodName)) ∈ gw := gw_mem 708 rfl rfl
set_option maxRecDepth 100000 in
theorem q710 : (Jvm.Cond.methodLink "java/lang/StringUTF16" (224 : Nat) ({ cls := "java/lang/Math", name := "max", desc := "(II)I" } : Jvm.MethodName)) ∈ gw := gw_mem 710 rfl rfl
set_option maxRecDepth 100000 in
theorem q711 : (Jvm.Cond.methodLink "java/lang/StringUTF16" (183 : Nat) ({ cls := "java/lang/Math", name := "min", desc := "(II)I" } : Jvm.MethodName)) ∈ gw := gw_mem 711 rfl rfl
set_option maxRecDepth 100000 in
theorem q712 : (Jvm.Cond.constant "java/lang/StringUTF16" (227 : Nat) (65536 : Int32)) ∈ gw := gw_mem 712 rfl rfl
set_option maxRecDepth 100000 in
theorem q713 : (Jvm.Cond.methodLink "java/lang/StringUTF16" (228 : Nat) ({ cls := "java/lang/StringUTF16", name := "indexOfChar", desc := "([BIII)I" } : Jvm.MethodName)) ∈ gw := gw_mem 713 rfl rfl
set_option maxRecDepth 100000 in
theorem q714 : (Jvm.Cond.static ({ cls := "java/lang/StringUTF16", name := "indexOfChar", desc := "([BIII)I" } : Jvm.MethodName)) ∈ gw := gw_mem 714 rfl rfl
set_option maxRecDepth 100000 in
theorem q716 : (Jvm.Cond.methodLink "java/lang/StringUTF16" (96 : Nat) ({ cls := "java/lang/StringUTF16", name := "checkBoundsBeginEnd", desc := "(II[B)V" } : Jvm.MethodName)) ∈ gw := gw_mem 716 rfl rfl
set_option maxRecDepth 100000 in
theorem q717 : (Jvm.Cond.static ({ cls := "java/lang/StringUTF16", name := "checkBoundsBeginEnd", desc := "(II[B)V" } : Jvm.MethodName)) ∈ gw := gw_mem 717 rfl rfl
set_option maxRecDepth 100000 in
theorem q719 : (Jvm.Cond.methodLink "java/lang/StringUTF16" (48 : Nat) ({ cls := "java/lang/StringUTF16", name := "length", desc := "([B)I" } : Jvm.MethodName)) ∈ gw := gw_mem 719 rfl rfl
set_option maxRecDepth 100000 in
theorem q720 : (Jvm.Cond.static ({ cls := "java/lang/StringUTF16", name := "length", desc := "([B)I" } : Jvm.MethodName)) ∈ gw := gw_mem 720 rfl rfl
set_option maxRecDepth 100000 in
theorem q722 : (Jvm.Cond.methodLink "java/lang/StringUTF16" (241 : Nat) ({ cls := "java/lang/String", name := "checkBoundsBeginEnd", desc := "(III)V" } : Jvm.MethodName)) ∈ gw := gw_mem 722 rfl rfl
set_option maxRecDepth 100000 in
theorem q723 : (Jvm.Cond.static ({ cls := "java/lang/String", name := "checkBoundsBeginEnd", desc := "(III)V" } : Jvm.MethodName)) ∈ gw := gw_mem 723 rfl rfl
set_option maxRecDepth 100000 in
theorem q725 : (Jvm.Cond.fieldLink "java/lang/String" (1053 : Nat) "jdk/internal/util/Preconditions" "SIOOBE_FORMATTER" "Ljava/util/function/BiFunction;") ∈ gw := gw_mem 725 rfl rfl
set_option maxRecDepth 100000 in
theorem q726 : (Jvm.Cond.laysStatic "jdk/internal/util/Preconditions" "SIOOBE_FORMATTER" "Ljava/util/function/BiFunction;") ∈ lw_tbl := List.mem_of_getElem? (i := 726) rfl
set_option maxRecDepth 100000 in
theorem q727 : (Jvm.Cond.methodLink "java/lang/String" (1062 : Nat) ({ cls := "jdk/internal/util/Preconditions", name := "checkFromToIndex", desc := "(IIILjava/util/function/BiFunction;)I" } : Jvm.MethodName)) ∈ gw := gw_mem 727 rfl rfl
set_option maxRecDepth 100000 in
theorem q728 : (Jvm.Cond.static ({ cls := "jdk/internal/util/Preconditions", name := "checkFromToIndex", desc := "(IIILjava/util/function/BiFunction;)I" } : Jvm.MethodName)) ∈ gw := gw_mem 728 rfl rfl
set_option maxRecDepth 100000 in
theorem q730 : (Jvm.Cond.methodLink "java/lang/StringUTF16" (244 : Nat) ({ cls := "java/lang/StringUTF16", name := "indexOfCharUnsafe", desc := "([BIII)I" } : Jvm.MethodName)) ∈ gw := gw_mem 730 rfl rfl
set_option maxRecDepth 100000 in
theorem q731 : (Jvm.Cond.static ({ cls := "java/lang/StringUTF16", name := "indexOfCharUnsafe", desc := "([BIII)I" } : Jvm.MethodName)) ∈ gw := gw_mem 731 rfl rfl
set_option maxRecDepth 100000 in
theorem q733 : (Jvm.Cond.methodLink "java/lang/StringUTF16" (71 : Nat) ({ cls := "java/lang/StringUTF16", name := "getChar", desc := "([BI)C" } : Jvm.MethodName)) ∈ gw := gw_mem 733 rfl rfl
set_option maxRecDepth 100000 in
theorem q734 : (Jvm.Cond.static ({ cls := "java/lang/StringUTF16", name := "getChar", desc := "([BI)C" } : Jvm.MethodName)) ∈ gw := gw_mem 734 rfl rfl
set_option maxRecDepth 100000 in
theorem q736 : (Jvm.Cond.fieldLink "java/lang/StringUTF16" (44 : Nat) "java/lang/StringUTF16" "$assertionsDisabled" "Z") ∈ gw := gw_mem 736 rfl rfl
set_option maxRecDepth 100000 in
theorem q737 : (Jvm.Cond.laysStatic "java/lang/StringUTF16" "$assertionsDisabled" "Z") ∈ lw_tbl := List.mem_of_getElem? (i := 737) rfl
set_option maxRecDepth 100000 in
theorem q738 : (Jvm.Cond.fieldLink "java/lang/StringUTF16" (59 : Nat) "java/lang/StringUTF16" "HI_BYTE_SHIFT" "I") ∈ gw := gw_mem 738 rfl rfl
set_option maxRecDepth 100000 in
theorem q739 : (Jvm.Cond.laysStatic "java/lang/StringUTF16" "HI_BYTE_SHIFT" "I") ∈ lw_tbl := List.mem_of_getElem? (i := 739) rfl
set_option maxRecDepth 100000 in
theorem q740 : (Jvm.Cond.fieldLink "java/lang/StringUTF16" (63 : Nat) "java/lang/StringUTF16" "LO_BYTE_SHIFT" "I") ∈ gw := gw_mem 740 rfl rfl
set_option maxRecDepth 100000 in
theorem q741 : (Jvm.Cond.laysStatic "java/lang/StringUTF16" "LO_BYTE_SHIFT" "I") ∈ lw_tbl := List.mem_of_getElem? (i := 741) rfl
set_option maxRecDepth 100000 in
theorem q742 : (Jvm.Cond.methodLink "java/lang/StringUTF16" (232 : Nat) ({ cls := "java/lang/StringUTF16", name := "indexOfSupplementary", desc := "([BIII)I" } : Jvm.MethodName)) ∈ gw := gw_mem 742 rfl rfl
set_option maxRecDepth 100000 in
theorem q743 : (Jvm.Cond.static ({ cls := "java/lang/StringUTF16", name := "indexOfSupplementary", desc := "([BIII)I" } : Jvm.MethodName)) ∈ gw := gw_mem 743 rfl rfl
set_option maxRecDepth 100000 in
theorem q745 : (Jvm.Cond.methodLink "java/lang/StringUTF16" (164 : Nat) ({ cls := "java/lang/Character", name := "isValidCodePoint", desc := "(I)Z" } : Jvm.MethodName)) ∈ gw := gw_mem 745 rfl rfl
set_option maxRecDepth 100000 in
theorem q746 : (Jvm.Cond.static ({ cls := "java/lang/Character", name := "isValidCodePoint", desc := "(I)Z" } : Jvm.MethodName)) ∈ gw := gw_mem 746 rfl rfl
set_option maxRecDepth 100000 in
theorem q748 : (Jvm.Cond.methodLink "java/lang/StringUTF16" (157 : Nat) ({ cls := "java/lang/Character", name := "highSurrogate", desc := "(I)C" } : Jvm.MethodName)) ∈ gw := gw_mem 748 rfl rfl
set_option maxRecDepth 100000 in
theorem q749 : (Jvm.Cond.static ({ cls := "java/lang/Character", name := "highSurrogate", desc := "(I)C" } : Jvm.MethodName)) ∈ gw := gw_mem 749 rfl rfl
set_option maxRecDepth 100000 in
theorem q751 : (Jvm.Cond.constant "java/lang/Character" (110 : Nat) (55232 : Int32)) ∈ gw := gw_mem 751 rfl rfl
set_option maxRecDepth 100000 in
theorem q752 : (Jvm.Cond.methodLink "java/lang/StringUTF16" (161 : Nat) ({ cls := "java/lang/Character", name := "lowSurrogate", desc := "(I)C" } : Jvm.MethodName)) ∈ gw := gw_mem 752 rfl rfl
set_option maxRecDepth 100000 in
theorem q753 : (Jvm.Cond.static ({ cls := "java/lang/Character", name := "lowSurrogate", desc := "(I)C" } : Jvm.MethodName)) ∈ gw := gw_mem 753 rfl rfl
set_option maxRecDepth 100000 in
theorem q755 : (Jvm.Cond.constant "java/lang/Character" (76 : Nat) (56320 : Int32)) ∈ gw := gw_mem 755 rfl rfl
set_option maxRecDepth 100000 in
theorem q756 : (Jvm.Cond.stringRef "CoalHoles$Reader" (94 : Nat) "spcnok") ∈ lw_tbl := List.mem_of_getElem? (i := 756) rfl
set_option maxRecDepth 100000 in
theorem q757 : (Jvm.Cond.methodLink "CoalHoles$Reader" (96 : Nat) ({ cls := "CoalHoles$Reader", name := "takeValue", desc := "(I)I" } : Jvm.MethodName)) ∈ gw := gw_mem 757 rfl rfl
set_option maxRecDepth 100000 in
theorem q761 : (Jvm.Cond.methodLink "CoalHoles$Reader" (105 : Nat) ({ cls := "CoalHoles$Reader", name := "write", desc := "(I)V" } : Jvm.MethodName)) ∈ gw := gw_mem 761 rfl rfl
set_option maxRecDepth 100000 in
theorem q765 : (Jvm.Cond.methodLink "CoalHoles$Reader" (108 : Nat) ({ cls := "CoalHoles$Reader", name := "closeNots", desc := "()V" } : Jvm.MethodName)) ∈ gw := gw_mem 765 rfl rfl
set_option maxRecDepth 100000 in
theorem q769 : (Jvm.Cond.methodLink "CoalHoles$Reader" (99 : Nat) ({ cls := "CoalHoles$Reader", name := "numberOf", desc := "([III)I" } : Jvm.MethodName)) ∈ gw := gw_mem 769 rfl rfl
set_option maxRecDepth 100000 in
theorem q770 : (Jvm.Cond.static ({ cls := "CoalHoles$Reader", name := "numberOf", desc := "([III)I" } : Jvm.MethodName)) ∈ gw := gw_mem 770 rfl rfl
set_option maxRecDepth 100000 in
theorem q772 : (Jvm.Cond.methodLink "CoalHoles$Reader" (102 : Nat) ({ cls := "CoalHoles$Reader", name := "leaveOpen", desc := "(I)V" } : Jvm.MethodName)) ∈ gw := gw_mem 772 rfl rfl
set_option maxRecDepth 100000 in
theorem q776 : (Jvm.Cond.methodLink "CoalHoles$Reader" (54 : Nat) ({ cls := "CoalHoles$Reader", name := "takeSign", desc := "(I)I" } : Jvm.MethodName)) ∈ gw := gw_mem 776 rfl rfl
set_option maxRecDepth 100000 in
theorem q780 : (Jvm.Cond.methodLink "CoalHoles$Reader" (111 : Nat) ({ cls := "CoalHoles$Reader", name := "takeBracket", desc := "()I" } : Jvm.MethodName)) ∈ gw := gw_mem 780 rfl rfl
set_option maxRecDepth 100000 in
theorem q784 : (Jvm.Cond.methodLink "CoalHoles$Reader" (58 : Nat) ({ cls := "CoalHoles$Reader", name := "closeDownTo", desc := "(I)V" } : Jvm.MethodName)) ∈ gw := gw_mem 784 rfl rfl
set_option maxRecDepth 100000 in
theorem q788 : (Jvm.Cond.methodLink "CoalHoles$Reader" (115 : Nat) ({ cls := "CoalHoles$Reader", name := "rankOf", desc := "(I)I" } : Jvm.MethodName)) ∈ gw := gw_mem 788 rfl rfl
set_option maxRecDepth 100000 in
theorem q789 : (Jvm.Cond.static ({ cls := "CoalHoles$Reader", name := "rankOf", desc := "(I)I" } : Jvm.MethodName)) ∈ gw := gw_mem 789 rfl rfl
set_option maxRecDepth 100000 in
theorem q791 : (Jvm.Cond.methodLink "CoalHoles$Reader" (118 : Nat) ({ cls := "java/lang/Math", name := "max", desc := "(II)I" } : Jvm.MethodName)) ∈ gw := gw_mem 791 rfl rfl
set_option maxRecDepth 100000 in
theorem q792 : (Jvm.Cond.methodLinkNest "CoalHoles" (226 : Nat) ({ cls := "CoalHoles$Reader", name := "asText", desc := "()LCoalHoles$Text;" } : Jvm.MethodName) "CoalHoles") ∈ lw_tbl := List.mem_of_getElem? (i := 792) rfl
set_option maxRecDepth 100000 in
theorem q796 : (Jvm.Cond.classLink "CoalHoles$Reader" (62 : Nat) "CoalHoles$Text") ∈ gw := gw_mem 796 rfl rfl
set_option maxRecDepth 100000 in
theorem q797 : (Jvm.Cond.methodLink "CoalHoles$Reader" (64 : Nat) ({ cls := "java/util/Arrays", name := "copyOf", desc := "([II)[I" } : Jvm.MethodName)) ∈ gw := gw_mem 797 rfl rfl
set_option maxRecDepth 100000 in
theorem q798 : (Jvm.Cond.static ({ cls := "java/util/Arrays", name := "copyOf", desc := "([II)[I" } : Jvm.MethodName)) ∈ gw := gw_mem 798 rfl rfl
set_option maxRecDepth 100000 in
theorem q800 : (Jvm.Cond.methodLink "java/util/Arrays" (316 : Nat) ({ cls := "[I", name := "clone", desc := "()Ljava/lang/Object;" } : Jvm.MethodName)) ∈ gw := gw_mem 800 rfl rfl
set_option maxRecDepth 100000 in
theorem q801 : (Jvm.Cond.classLink "java/util/Arrays" (317 : Nat) "[I") ∈ gw := gw_mem 801 rfl rfl
set_option maxRecDepth 100000 in
theorem q802 : (Jvm.Cond.methodLink "java/util/Arrays" (304 : Nat) ({ cls := "java/lang/Math", name := "min", desc := "(II)I" } : Jvm.MethodName)) ∈ gw := gw_mem 802 rfl rfl
set_option maxRecDepth 100000 in
theorem q803 : (Jvm.Cond.methodLink "java/util/Arrays" (150 : Nat) ({ cls := "java/lang/System", name := "arraycopy", desc := "(Ljava/lang/Object;ILjava/lang/Object;II)V" } : Jvm.MethodName)) ∈ gw := gw_mem 803 rfl rfl
set_option maxRecDepth 100000 in
theorem q804 : (Jvm.Cond.methodLinkNest "CoalHoles$Reader" (70 : Nat) ({ cls := "CoalHoles$Text", name := "<init>", desc := "(II[I)V" } : Jvm.MethodName) "CoalHoles") ∈ lw_tbl := List.mem_of_getElem? (i := 804) rfl
set_option maxRecDepth 100000 in
theorem q807 : (Jvm.Cond.methodLink "CoalHoles$Text" (1 : Nat) ({ cls := "java/lang/Object", name := "<init>", desc := "()V" } : Jvm.MethodName)) ∈ gw := gw_mem 807 rfl rfl
set_option maxRecDepth 100000 in
theorem q808 : (Jvm.Cond.fieldLink "CoalHoles$Text" (7 : Nat) "CoalHoles$Text" "key" "I") ∈ gw := gw_mem 808 rfl rfl
set_option maxRecDepth 100000 in
theorem q809 : (Jvm.Cond.fieldLinkNest "CoalHoles" (240 : Nat) "CoalHoles$Text" "key" "I" "CoalHoles") ∈ lw_tbl := List.mem_of_getElem? (i := 809) rfl
set_option maxRecDepth 100000 in
theorem q810 : (Jvm.Cond.fieldLink "CoalHoles$Text" (13 : Nat) "CoalHoles$Text" "pieces" "I") ∈ gw := gw_mem 810 rfl rfl
set_option maxRecDepth 100000 in
theorem q811 : (Jvm.Cond.fieldLinkNest "CoalHoles" (243 : Nat) "CoalHoles$Text" "pieces" "I" "CoalHoles") ∈ lw_tbl := List.mem_of_getElem? (i := 811) rfl
set_option maxRecDepth 100000 in
theorem q812 : (Jvm.Cond.fieldLink "CoalHoles$Text" (16 : Nat) "CoalHoles$Text" "codes" "[I") ∈ gw := gw_mem 812 rfl rfl
set_option maxRecDepth 100000 in
theorem q820 : (Jvm.Cond.methodLink "CoalHolesLaw" (118 : Nat) ({ cls := "CoalHoles", name := "textTold", desc := "(II)I" } : Jvm.MethodName)) ∈ gw := gw_mem 820 rfl rfl
set_option maxRecDepth 100000 in
theorem q822 : (Jvm.Cond.selects "CoalHoles" ({ cls := "CoalHoles", name := "textTold", desc := "(II)I" } : Jvm.MethodName) ({ cls := "CoalHoles", name := "textTold", desc := "(II)I" } : Jvm.MethodName)) ∈ gw := gw_mem 822 rfl rfl
set_option maxRecDepth 100000 in
theorem q824 : (Jvm.Cond.methodLinkNest "CoalHoles" (236 : Nat) ({ cls := "CoalHoles$Laws", name := "at", desc := "(I)LCoalHoles$Text;" } : Jvm.MethodName) "CoalHoles") ∈ lw_tbl := List.mem_of_getElem? (i := 824) rfl
set_option maxRecDepth 100000 in
theorem q825 : (Jvm.Cond.methodLink "CoalHolesLaw" (122 : Nat) ({ cls := "CoalHoles", name := "why", desc := "(I)I" } : Jvm.MethodName)) ∈ gw := gw_mem 825 rfl rfl
set_option maxRecDepth 100000 in
theorem q827 : (Jvm.Cond.selects "CoalHoles" ({ cls := "CoalHoles", name := "why", desc := "(I)I" } : Jvm.MethodName) ({ cls := "CoalHoles", name := "why", desc := "(I)I" } : Jvm.MethodName)) ∈ gw := gw_mem 827 rfl rfl
set_option maxRecDepth 100000 in
theorem q829 : (Jvm.Cond.methodLink "CoalHolesLaw" (126 : Nat) ({ cls := "CoalHoles", name := "sheet", desc := "(III)I" } : Jvm.MethodName)) ∈ gw := gw_mem 829 rfl rfl
set_option maxRecDepth 100000 in
theorem q831 : (Jvm.Cond.selects "CoalHoles" ({ cls := "CoalHoles", name := "sheet", desc := "(III)I" } : Jvm.MethodName) ({ cls := "CoalHoles", name := "sheet", desc := "(III)I" } : Jvm.MethodName)) ∈ gw := gw_mem 831 rfl rfl
set_option maxRecDepth 100000 in
theorem q833 : (Jvm.Cond.constant "CoalHoles" (246 : Nat) (-1000000014 : Int32)) ∈ gw := gw_mem 833 rfl rfl
set_option maxRecDepth 100000 in
theorem q834 : (Jvm.Cond.methodLinkNest "CoalHoles" (247 : Nat) ({ cls := "CoalHoles$Sheet", name := "clear", desc := "(II)V" } : Jvm.MethodName) "CoalHoles") ∈ lw_tbl := List.mem_of_getElem? (i := 834) rfl
set_option maxRecDepth 100000 in
theorem q838 : (Jvm.Cond.methodLink "CoalHoles$Sheet" (22 : Nat) ({ cls := "java/util/Arrays", name := "fill", desc := "([II)V" } : Jvm.MethodName)) ∈ gw := gw_mem 838 rfl rfl
set_option maxRecDepth 100000 in
theorem q839 : (Jvm.Cond.methodLink "CoalHolesLaw" (130 : Nat) ({ cls := "CoalHoles", name := "mark", desc := "(III)I" } : Jvm.MethodName)) ∈ gw := gw_mem 839 rfl rfl
set_option maxRecDepth 100000 in
theorem q841 : (Jvm.Cond.selects "CoalHoles" ({ cls := "CoalHoles", name := "mark", desc := "(III)I" } : Jvm.MethodName) ({ cls := "CoalHoles", name := "mark", desc := "(III)I" } : Jvm.MethodName)) ∈ gw := gw_mem 841 rfl rfl
set_option maxRecDepth 100000 in
theorem q843 : (Jvm.Cond.methodLinkNest "CoalHoles" (251 : Nat) ({ cls := "CoalHoles$Sheet", name := "has", desc := "(I)Z" } : Jvm.MethodName) "CoalHoles") ∈ lw_tbl := List.mem_of_getElem? (i := 843) rfl
set_option maxRecDepth 100000 in
theorem q844 : (Jvm.Cond.constant "CoalHoles" (252 : Nat) (-1000000013 : Int32)) ∈ gw := gw_mem 844 rfl rfl
set_option maxRecDepth 100000 in
theorem q845 : (Jvm.Cond.constant "CoalHoles" (256 : Nat) (-99999 : Int32)) ∈ gw := gw_mem 845 rfl rfl
set_option maxRecDepth 100000 in
theorem q846 : (Jvm.Cond.methodLink "CoalHolesLaw" (134 : Nat) ({ cls := "CoalHoles", name := "pour", desc := "(I)I" } : Jvm.MethodName)) ∈ gw := gw_mem 846 rfl rfl
set_option maxRecDepth 100000 in
theorem q848 : (Jvm.Cond.selects "CoalHoles" ({ cls := "CoalHoles", name := "pour", desc := "(I)I" } : Jvm.MethodName) ({ cls := "CoalHoles", name := "pour", desc := "(I)I" } : Jvm.MethodName)) ∈ gw := gw_mem 848 rfl rfl
set_option maxRecDepth 100000 in
theorem q850 : (Jvm.Cond.methodLink "CoalHoles" (263 : Nat) ({ cls := "CoalHoles", name := "heldWithin", desc := "(I)I" } : Jvm.MethodName)) ∈ gw := gw_mem 850 rfl rfl
set_option maxRecDepth 100000 in
theorem q851 : (Jvm.Cond.methodLink "CoalHolesLaw" (138 : Nat) ({ cls := "CoalHoles", name := "reads", desc := "(I)I" } : Jvm.MethodName)) ∈ gw := gw_mem 851 rfl rfl
set_option maxRecDepth 100000 in
theorem q853 : (Jvm.Cond.selects "CoalHoles" ({ cls := "CoalHoles", name := "reads", desc := "(I)I" } : Jvm.MethodName) ({ cls := "CoalHoles", name := "reads", desc := "(I)I" } : Jvm.MethodName)) ∈ gw := gw_mem 853 rfl rfl
set_option maxRecDepth 100000 in
theorem q855 : (Jvm.Cond.methodLink "CoalHolesLaw" (142 : Nat) ({ cls := "CoalHoles", name := "copy", desc := "(IIIII)I" } : Jvm.MethodName)) ∈ gw := gw_mem 855 rfl rfl
set_option maxRecDepth 100000 in
theorem q857 : (Jvm.Cond.selects "CoalHoles" ({ cls := "CoalHoles", name := "copy", desc := "(IIIII)I" } : Jvm.MethodName) ({ cls := "CoalHoles", name := "copy", desc := "(IIIII)I" } : Jvm.MethodName)) ∈ gw := gw_mem 857 rfl rfl
set_option maxRecDepth 100000 in
theorem q859 : (Jvm.Cond.methodLinkNest "CoalHoles" (266 : Nat) ({ cls := "CoalHoles$Sheet", name := "hasMany", desc := "(II)Z" } : Jvm.MethodName) "CoalHoles") ∈ lw_tbl := List.mem_of_getElem? (i := 859) rfl
set_option maxRecDepth 100000 in
theorem q863 : (Jvm.Cond.methodLink "CoalHoles" (269 : Nat) ({ cls := "java/lang/System", name := "arraycopy", desc := "(Ljava/lang/Object;ILjava/lang/Object;II)V" } : Jvm.MethodName)) ∈ gw := gw_mem 863 rfl rfl
set_option maxRecDepth 100000 in
theorem q864 : (Jvm.Cond.methodLink "CoalHolesLaw" (147 : Nat) ({ cls := "CoalHoles", name := "lay", desc := "(III)I" } : Jvm.MethodName)) ∈ gw := gw_mem 864 rfl rfl
set_option maxRecDepth 100000 in
theorem q866 : (Jvm.Cond.selects "CoalHoles" ({ cls := "CoalHoles", name := "lay", desc := "(III)I" } : Jvm.MethodName) ({ cls := "CoalHoles", name := "lay", desc := "(III)I" } : Jvm.MethodName)) ∈ gw := gw_mem 866 rfl rfl
set_option maxRecDepth 100000 in
theorem q868 : (Jvm.Cond.methodLink "CoalHoles" (275 : Nat) ({ cls := "CoalHoles", name := "slotAt", desc := "(I)LCoalHoles$Slot;" } : Jvm.MethodName)) ∈ gw := gw_mem 868 rfl rfl
set_option maxRecDepth 100000 in
theorem q872 : (Jvm.Cond.methodLinkNest "CoalHoles" (282 : Nat) ({ cls := "CoalHoles$Slot", name := "takeHouse", desc := "(LCoalHoles$Terrace;I)V" } : Jvm.MethodName) "CoalHoles") ∈ lw_tbl := List.mem_of_getElem? (i := 872) rfl
set_option maxRecDepth 100000 in
theorem q876 : (Jvm.Cond.methodLinkNest "CoalHoles$Slot" (22 : Nat) ({ cls := "CoalHoles$Terrace", name := "has", desc := "(I)Z" } : Jvm.MethodName) "CoalHoles") ∈ lw_tbl := List.mem_of_getElem? (i := 876) rfl
set_option maxRecDepth 100000 in
theorem q877 : (Jvm.Cond.methodLinkNest "CoalHoles" (290 : Nat) ({ cls := "CoalHoles$Sheet", name := "become", desc := "(LCoalHoles$Sheet;)V" } : Jvm.MethodName) "CoalHoles") ∈ lw_tbl := List.mem_of_getElem? (i := 877) rfl
set_option maxRecDepth 100000 in
theorem q881 : (Jvm.Cond.methodLink "CoalHoles$Sheet" (28 : Nat) ({ cls := "java/lang/System", name := "arraycopy", desc := "(Ljava/lang/Object;ILjava/lang/Object;II)V" } : Jvm.MethodName)) ∈ gw := gw_mem 881 rfl rfl
set_option maxRecDepth 100000 in
theorem q882 : (Jvm.Cond.methodLink "CoalHolesLaw" (151 : Nat) ({ cls := "CoalHoles", name := "ask", desc := "(II)I" } : Jvm.MethodName)) ∈ gw := gw_mem 882 rfl rfl
set_option maxRecDepth 100000 in
theorem q884 : (Jvm.Cond.selects "CoalHoles" ({ cls := "CoalHoles", name := "ask", desc := "(II)I" } : Jvm.MethodName) ({ cls := "CoalHoles", name := "ask", desc := "(II)I" } : Jvm.MethodName)) ∈ gw := gw_mem 884 rfl rfl
set_option maxRecDepth 100000 in
theorem q886 : (Jvm.Cond.methodLink "CoalHolesLaw" (155 : Nat) ({ cls := "CoalHoles", name := "item", desc := "(II)I" } : Jvm.MethodName)) ∈ gw := gw_mem 886 rfl rfl
set_option maxRecDepth 100000 in
theorem q888 : (Jvm.Cond.selects "CoalHoles" ({ cls := "CoalHoles", name := "item", desc := "(II)I" } : Jvm.MethodName) ({ cls := "CoalHoles", name := "item", desc := "(II)I" } : Jvm.MethodName)) ∈ gw := gw_mem 888 rfl rfl
set_option maxRecDepth 100000 in
theorem q890 : (Jvm.Cond.methodLink "CoalHolesLaw" (159 : Nat) ({ cls := "CoalHoles", name := "rest", desc := "(II)I" } : Jvm.MethodName)) ∈ gw := gw_mem 890 rfl rfl
set_option maxRecDepth 100000 in
theorem q892 : (Jvm.Cond.selects "CoalHoles" ({ cls := "CoalHoles", name := "rest", desc := "(II)I" } : Jvm.MethodName) ({ cls := "CoalHoles", name := "rest", desc := "(II)I" } : Jvm.MethodName)) ∈ gw := gw_mem 892 rfl rfl
set_option maxRecDepth 100000 in
theorem q894 : (Jvm.Cond.constant "CoalHoles" (307 : Nat) (-1000000002 : Int32)) ∈ gw := gw_mem 894 rfl rfl
set_option maxRecDepth 100000 in
theorem q895 : (Jvm.Cond.methodLink "CoalHolesLaw" (163 : Nat) ({ cls := "CoalHoles", name := "tell", desc := "(I)I" } : Jvm.MethodName)) ∈ gw := gw_mem 895 rfl rfl
set_option maxRecDepth 100000 in
theorem q897 : (Jvm.Cond.selects "CoalHoles" ({ cls := "CoalHoles", name := "tell", desc := "(I)I" } : Jvm.MethodName) ({ cls := "CoalHoles", name := "tell", desc := "(I)I" } : Jvm.MethodName)) ∈ gw := gw_mem 897 rfl rfl
set_option maxRecDepth 100000 in
theorem q899 : (Jvm.Cond.methodLink "CoalHolesLaw" (167 : Nat) ({ cls := "CoalHoles", name := "check", desc := "(I)I" } : Jvm.MethodName)) ∈ gw := gw_mem 899 rfl rfl
set_option maxRecDepth 100000 in
theorem q901 : (Jvm.Cond.selects "CoalHoles" ({ cls := "CoalHoles", name := "check", desc := "(I)I" } : Jvm.MethodName) ({ cls := "CoalHoles", name := "check", desc := "(I)I" } : Jvm.MethodName)) ∈ gw := gw_mem 901 rfl rfl
set_option maxRecDepth 100000 in
theorem q903 : (Jvm.Cond.methodLink "CoalHolesLaw" (171 : Nat) ({ cls := "CoalHoles", name := "keep", desc := "()I" } : Jvm.MethodName)) ∈ gw := gw_mem 903 rfl rfl
set_option maxRecDepth 100000 in
theorem q905 : (Jvm.Cond.selects "CoalHoles" ({ cls := "CoalHoles", name := "keep", desc := "()I" } : Jvm.MethodName) ({ cls := "CoalHoles", name := "keep", desc := "()I" } : Jvm.MethodName)) ∈ gw := gw_mem 905 rfl rfl
set_option maxRecDepth 100000 in
theorem q907 : (Jvm.Cond.methodLink "CoalHolesLaw" (175 : Nat) ({ cls := "CoalHoles", name := "back", desc := "()I" } : Jvm.MethodName)) ∈ gw := gw_mem 907 rfl rfl
set_option maxRecDepth 100000 in
theorem q909 : (Jvm.Cond.selects "CoalHoles" ({ cls := "CoalHoles", name := "back", desc := "()I" } : Jvm.MethodName) ({ cls := "CoalHoles", name := "back", desc := "()I" } : Jvm.MethodName)) ∈ gw := gw_mem 909 rfl rfl
set_option maxRecDepth 100000 in
theorem q911 : (Jvm.Cond.methodLink "CoalHolesLaw" (179 : Nat) ({ cls := "CoalHoles", name := "count", desc := "(I)I" } : Jvm.MethodName)) ∈ gw := gw_mem 911 rfl rfl
set_option maxRecDepth 100000 in
theorem q913 : (Jvm.Cond.selects "CoalHoles" ({ cls := "CoalHoles", name := "count", desc := "(I)I" } : Jvm.MethodName) ({ cls := "CoalHoles", name := "count", desc := "(I)I" } : Jvm.MethodName)) ∈ gw := gw_mem 913 rfl rfl
set_option maxRecDepth 100000 in
theorem q915 : (Jvm.Cond.classLink "CoalHolesLaw" (10 : Nat) "CoalHolesModel") ∈ gw := gw_mem 915 rfl rfl
set_option maxRecDepth 100000 in
theorem q916 : (Jvm.Cond.instantiable "CoalHolesModel" (39 : Nat)) ∈ gw := gw_mem 916 rfl rfl
set_option maxRecDepth 100000 in
theorem q917 : (Jvm.Cond.methodLink "CoalHolesLaw" (12 : Nat) ({ cls := "CoalHolesModel", name := "<init>", desc := "()V" } : Jvm.MethodName)) ∈ gw := gw_mem 917 rfl rfl
set_option maxRecDepth 100000 in
theorem q920 : (Jvm.Cond.methodLink "CoalHolesModel" (1 : Nat) ({ cls := "java/lang/Object", name := "<init>", desc := "()V" } : Jvm.MethodName)) ∈ gw := gw_mem 920 rfl rfl
set_option maxRecDepth 100000 in
theorem q921 : (Jvm.Cond.fieldLink "CoalHolesModel" (7 : Nat) "CoalHolesModel" "d" "[I") ∈ gw := gw_mem 921 rfl rfl
set_option maxRecDepth 100000 in
theorem q922 : (Jvm.Cond.fieldLink "CoalHolesModel" (13 : Nat) "CoalHolesModel" "kept" "[I") ∈ gw := gw_mem 922 rfl rfl
set_option maxRecDepth 100000 in
theorem q923 : (Jvm.Cond.fieldLink "CoalHolesModel" (16 : Nat) "CoalHolesModel" "aside" "[I") ∈ gw := gw_mem 923 rfl rfl
set_option maxRecDepth 100000 in
theorem q924 : (Jvm.Cond.fieldLink "CoalHolesModel" (19 : Nat) "CoalHolesModel" "over" "[I") ∈ gw := gw_mem 924 rfl rfl
set_option maxRecDepth 100000 in
theorem q925 : (Jvm.Cond.fieldLink "CoalHolesModel" (330 : Nat) "CoalHolesModel" "isKept" "Z") ∈ gw := gw_mem 925 rfl rfl
set_option maxRecDepth 100000 in
theorem q926 : (Jvm.Cond.fieldLink "CoalHolesModel" (22 : Nat) "CoalHolesModel" "code" "[I") ∈ gw := gw_mem 926 rfl rfl
set_option maxRecDepth 100000 in
theorem q927 : (Jvm.Cond.fieldLink "CoalHolesModel" (25 : Nat) "CoalHolesModel" "keyOf" "[I") ∈ gw := gw_mem 927 rfl rfl
set_option maxRecDepth 100000 in
theorem q928 : (Jvm.Cond.fieldLink "CoalHolesModel" (28 : Nat) "CoalHolesModel" "stepsOf" "[I") ∈ gw := gw_mem 928 rfl rfl
set_option maxRecDepth 100000 in
theorem q929 : (Jvm.Cond.fieldLink "CoalHolesModel" (31 : Nat) "CoalHolesModel" "wordsOf" "[I") ∈ gw := gw_mem 929 rfl rfl
set_option maxRecDepth 100000 in
theorem q930 : (Jvm.Cond.fieldLink "CoalHolesModel" (34 : Nat) "CoalHolesModel" "pile" "[I") ∈ gw := gw_mem 930 rfl rfl
set_option maxRecDepth 100000 in
theorem q931 : (Jvm.Cond.fieldLink "CoalHolesModel" (37 : Nat) "CoalHolesModel" "tape" "[I") ∈ gw := gw_mem 931 rfl rfl
set_option maxRecDepth 100000 in
theorem q932 : (Jvm.Cond.fieldLink "CoalHolesModel" (222 : Nat) "CoalHolesModel" "taped" "I") ∈ gw := gw_mem 932 rfl rfl
set_option maxRecDepth 100000 in
theorem q933 : (Jvm.Cond.fieldLink "CoalHolesModel" (226 : Nat) "CoalHolesModel" "at" "I") ∈ gw := gw_mem 933 rfl rfl
set_option maxRecDepth 100000 in
theorem q934 : (Jvm.Cond.fieldLink "CoalHolesModel" (229 : Nat) "CoalHolesModel" "begun" "I") ∈ gw := gw_mem 934 rfl rfl
set_option maxRecDepth 100000 in
theorem q935 : (Jvm.Cond.fieldLink "CoalHolesModel" (236 : Nat) "CoalHolesModel" "token" "I") ∈ gw := gw_mem 935 rfl rfl
set_option maxRecDepth 100000 in
theorem q936 : (Jvm.Cond.fieldLink "CoalHolesModel" (232 : Nat) "CoalHolesModel" "value" "J") ∈ gw := gw_mem 936 rfl rfl
set_option maxRecDepth 100000 in
theorem q937 : (Jvm.Cond.fieldLink "CoalHolesModel" (263 : Nat) "CoalHolesModel" "coded" "I") ∈ gw := gw_mem 937 rfl rfl
set_option maxRecDepth 100000 in
theorem q938 : (Jvm.Cond.fieldLink "CoalHolesModel" (297 : Nat) "CoalHolesModel" "words" "I") ∈ gw := gw_mem 938 rfl rfl
set_option maxRecDepth 100000 in
theorem q939 : (Jvm.Cond.fieldLink "CoalHolesModel" (268 : Nat) "CoalHolesModel" "key" "I") ∈ gw := gw_mem 939 rfl rfl
set_option maxRecDepth 100000 in
theorem q940 : (Jvm.Cond.fieldLink "CoalHolesModel" (288 : Nat) "CoalHolesModel" "open" "I") ∈ gw := gw_mem 940 rfl rfl
set_option maxRecDepth 100000 in
theorem q941 : (Jvm.Cond.fieldLink "CoalHolesModel" (275 : Nat) "CoalHolesModel" "nots" "I") ∈ gw := gw_mem 941 rfl rfl
set_option maxRecDepth 100000 in
theorem q942 : (Jvm.Cond.fieldLink "CoalHolesModel" (256 : Nat) "CoalHolesModel" "isWrong" "Z") ∈ gw := gw_mem 942 rfl rfl
set_option maxRecDepth 100000 in
theorem q943 : (Jvm.Cond.fieldLink "CoalHolesModel" (253 : Nat) "CoalHolesModel" "behindWord" "I") ∈ gw := gw_mem 943 rfl rfl
set_option maxRecDepth 100000 in
theorem q944 : (Jvm.Cond.fieldLink "CoalHolesModel" (40 : Nat) "CoalHolesModel" "codes" "[I") ∈ gw := gw_mem 944 rfl rfl
set_option maxRecDepth 100000 in
theorem q945 : (Jvm.Cond.fieldLink "CoalHolesModel" (43 : Nat) "CoalHolesModel" "sortOf" "[I") ∈ gw := gw_mem 945 rfl rfl
set_option maxRecDepth 100000 in
theorem q946 : (Jvm.Cond.fieldLink "CoalHolesModel" (46 : Nat) "CoalHolesModel" "sizeOf" "[I") ∈ gw := gw_mem 946 rfl rfl
set_option maxRecDepth 100000 in
theorem q947 : (Jvm.Cond.fieldLink "CoalHolesModel" (49 : Nat) "CoalHolesModel" "number" "[I") ∈ gw := gw_mem 947 rfl rfl
set_option maxRecDepth 100000 in
theorem q948 : (Jvm.Cond.fieldLink "CoalHolesModel" (52 : Nat) "CoalHolesModel" "isNumber" "[Z") ∈ gw := gw_mem 948 rfl rfl
set_option maxRecDepth 100000 in
theorem q949 : (Jvm.Cond.fieldLink "CoalHolesModel" (56 : Nat) "CoalHolesModel" "apart" "[I") ∈ gw := gw_mem 949 rfl rfl
set_option maxRecDepth 100000 in
theorem q950 : (Jvm.Cond.fieldLink "CoalHolesModel" (59 : Nat) "CoalHolesModel" "carried" "[I") ∈ gw := gw_mem 950 rfl rfl
set_option maxRecDepth 100000 in
theorem q951 : (Jvm.Cond.fieldLink "CoalHolesModel" (62 : Nat) "CoalHolesModel" "areNumbers" "[Z") ∈ gw := gw_mem 951 rfl rfl
set_option maxRecDepth 100000 in
theorem q952 : (Jvm.Cond.fieldLink "CoalHolesModel" (65 : Nat) "CoalHolesModel" "slotHas" "[I") ∈ gw := gw_mem 952 rfl rfl
set_option maxRecDepth 100000 in
theorem q953 : (Jvm.Cond.fieldLink "CoalHolesModel" (68 : Nat) "CoalHolesModel" "slotIs" "[I") ∈ gw := gw_mem 953 rfl rfl
set_option maxRecDepth 100000 in
theorem q954 : (Jvm.Cond.fieldLink "CoalHolesModel" (71 : Nat) "CoalHolesModel" "slotKind" "[I") ∈ gw := gw_mem 954 rfl rfl
set_option maxRecDepth 100000 in
theorem q955 : (Jvm.Cond.fieldLink "CoalHolesModel" (74 : Nat) "CoalHolesModel" "slotSize" "[I") ∈ gw := gw_mem 955 rfl rfl
set_option maxRecDepth 100000 in
theorem q956 : (Jvm.Cond.fieldLink "CoalHolesModel" (77 : Nat) "CoalHolesModel" "slotNumber" "[I") ∈ gw := gw_mem 956 rfl rfl
set_option maxRecDepth 100000 in
theorem q957 : (Jvm.Cond.fieldLink "CoalHolesModel" (80 : Nat) "CoalHolesModel" "slotIsNumber" "[Z") ∈ gw := gw_mem 957 rfl rfl
set_option maxRecDepth 100000 in
theorem q958 : (Jvm.Cond.fieldLink "CoalHolesModel" (83 : Nat) "CoalHolesModel" "waits" "[I") ∈ gw := gw_mem 958 rfl rfl
set_option maxRecDepth 100000 in
theorem q959 : (Jvm.Cond.fieldLink "CoalHolesModel" (325 : Nat) "CoalHolesModel" "waiting" "I") ∈ gw := gw_mem 959 rfl rfl
set_option maxRecDepth 100000 in
theorem q1039 : (Jvm.Cond.arrayClass Jvm.ClassFile.FieldType.boolean) ∈ gw := gw_mem 1039 rfl rfl
set_option maxRecDepth 100000 in
theorem q1040 : (Jvm.Cond.methodLink "CoalHolesLaw" (17 : Nat) ({ cls := "CoalHolesModel", name := "house", desc := "(IIII)I" } : Jvm.MethodName)) ∈ gw := gw_mem 1040 rfl rfl
set_option maxRecDepth 100000 in
theorem q1042 : (Jvm.Cond.selects "CoalHolesModel" ({ cls := "CoalHolesModel", name := "house", desc := "(IIII)I" } : Jvm.MethodName) ({ cls := "CoalHolesModel", name := "house", desc := "(IIII)I" } : Jvm.MethodName)) ∈ gw := gw_mem 1042 rfl rfl
set_option maxRecDepth 100000 in
theorem q1044 : (Jvm.Cond.constantLong "CoalHolesModel" (151 : Nat) (5 : Int64)) ∈ gw := gw_mem 1044 rfl rfl
set_option maxRecDepth 100000 in
theorem q1045 : (Jvm.Cond.methodLink "CoalHolesModel" (86 : Nat) ({ cls := "CoalHolesModel", name := "in", desc := "(JJJ)Z" } : Jvm.MethodName)) ∈ gw := gw_mem 1045 rfl rfl
set_option maxRecDepth 100000 in
theorem q1046 : (Jvm.Cond.static ({ cls := "CoalHolesModel", name := "in", desc := "(JJJ)Z" } : Jvm.MethodName)) ∈ gw := gw_mem 1046 rfl rfl
set_option maxRecDepth 100000 in
theorem q1048 : (Jvm.Cond.constantLong "CoalHolesModel" (153 : Nat) (99 : Int64)) ∈ gw := gw_mem 1048 rfl rfl
set_option maxRecDepth 100000 in
theorem q1049 : (Jvm.Cond.constant "CoalHolesModel" (155 : Nat) (-1000000001 : Int32)) ∈ gw := gw_mem 1049 rfl rfl
set_option maxRecDepth 100000 in
theorem q1050 : (Jvm.Cond.constant "CoalHolesModel" (156 : Nat) (-1000000003 : Int32)) ∈ gw := gw_mem 1050 rfl rfl
set_option maxRecDepth 100000 in
theorem q1051 : (Jvm.Cond.methodLink "CoalHolesModel" (125 : Nat) ({ cls := "CoalHolesModel", name := "sets", desc := "(III)V" } : Jvm.MethodName)) ∈ gw := gw_mem 1051 rfl rfl
set_option maxRecDepth 100000 in
theorem q1055 : (Jvm.Cond.methodLink "CoalHolesLaw" (22 : Nat) ({ cls := "CoalHolesModel", name := "told", desc := "(II)I" } : Jvm.MethodName)) ∈ gw := gw_mem 1055 rfl rfl
set_option maxRecDepth 100000 in
theorem q1057 : (Jvm.Cond.selects "CoalHolesModel" ({ cls := "CoalHolesModel", name := "told", desc := "(II)I" } : Jvm.MethodName) ({ cls := "CoalHolesModel", name := "told", desc := "(II)I" } : Jvm.MethodName)) ∈ gw := gw_mem 1057 rfl rfl
set_option maxRecDepth 100000 in
theorem q1059 : (Jvm.Cond.methodLink "CoalHolesModel" (157 : Nat) ({ cls := "CoalHolesModel", name := "isHouse", desc := "(I)Z" } : Jvm.MethodName)) ∈ gw := gw_mem 1059 rfl rfl
set_option maxRecDepth 100000 in
theorem q1063 : (Jvm.Cond.constantLong "CoalHolesModel" (161 : Nat) (8 : Int64)) ∈ gw := gw_mem 1063 rfl rfl
set_option maxRecDepth 100000 in
theorem q1064 : (Jvm.Cond.methodLink "CoalHolesModel" (122 : Nat) ({ cls := "CoalHolesModel", name := "slack", desc := "(I)I" } : Jvm.MethodName)) ∈ gw := gw_mem 1064 rfl rfl
set_option maxRecDepth 100000 in
theorem q1068 : (Jvm.Cond.methodLink "CoalHolesModel" (115 : Nat) ({ cls := "CoalHolesModel", name := "plain", desc := "(I)I" } : Jvm.MethodName)) ∈ gw := gw_mem 1068 rfl rfl
set_option maxRecDepth 100000 in
theorem q1072 : (Jvm.Cond.methodLink "CoalHolesModel" (98 : Nat) ({ cls := "CoalHolesModel", name := "counts", desc := "(I)I" } : Jvm.MethodName)) ∈ gw := gw_mem 1072 rfl rfl
set_option maxRecDepth 100000 in
theorem q1076 : (Jvm.Cond.methodLink "CoalHolesModel" (101 : Nat) ({ cls := "CoalHolesModel", name := "of", desc := "(II)I" } : Jvm.MethodName)) ∈ gw := gw_mem 1076 rfl rfl
set_option maxRecDepth 100000 in
theorem q1080 : (Jvm.Cond.methodLink "CoalHolesModel" (105 : Nat) ({ cls := "CoalHolesModel", name := "size", desc := "(I)I" } : Jvm.MethodName)) ∈ gw := gw_mem 1080 rfl rfl
set_option maxRecDepth 100000 in
theorem q1081 : (Jvm.Cond.static ({ cls := "CoalHolesModel", name := "size", desc := "(I)I" } : Jvm.MethodName)) ∈ gw := gw_mem 1081 rfl rfl
set_option maxRecDepth 100000 in
theorem q1083 : (Jvm.Cond.methodLink "CoalHolesModel" (108 : Nat) ({ cls := "CoalHolesModel", name := "gives", desc := "(IIIII)I" } : Jvm.MethodName)) ∈ gw := gw_mem 1083 rfl rfl
set_option maxRecDepth 100000 in
theorem q1087 : (Jvm.Cond.methodLink "CoalHolesModel" (94 : Nat) ({ cls := "CoalHolesModel", name := "done", desc := "(III)I" } : Jvm.MethodName)) ∈ gw := gw_mem 1087 rfl rfl
set_option maxRecDepth 100000 in
theorem q1088 : (Jvm.Cond.static ({ cls := "CoalHolesModel", name := "done", desc := "(III)I" } : Jvm.MethodName)) ∈ gw := gw_mem 1088 rfl rfl
set_option maxRecDepth 100000 in
theorem q1090 : (Jvm.Cond.methodLink "CoalHolesModel" (112 : Nat) ({ cls := "CoalHolesModel", name := "held", desc := "(III)I" } : Jvm.MethodName)) ∈ gw := gw_mem 1090 rfl rfl
set_option maxRecDepth 100000 in
theorem q1091 : (Jvm.Cond.static ({ cls := "CoalHolesModel", name := "held", desc := "(III)I" } : Jvm.MethodName)) ∈ gw := gw_mem 1091 rfl rfl
set_option maxRecDepth 100000 in
theorem q1093 : (Jvm.Cond.methodLink "CoalHolesModel" (118 : Nat) ({ cls := "CoalHolesModel", name := "ones", desc := "(I)I" } : Jvm.MethodName)) ∈ gw := gw_mem 1093 rfl rfl
set_option maxRecDepth 100000 in
theorem q1094 : (Jvm.Cond.static ({ cls := "CoalHolesModel", name := "ones", desc := "(I)I" } : Jvm.MethodName)) ∈ gw := gw_mem 1094 rfl rfl
set_option maxRecDepth 100000 in
theorem q1096 : (Jvm.Cond.methodLink "CoalHolesModel" (137 : Nat) ({ cls := "CoalHolesModel", name := "bends", desc := "(I)I" } : Jvm.MethodName)) ∈ gw := gw_mem 1096 rfl rfl
set_option maxRecDepth 100000 in
theorem q1100 : (Jvm.Cond.methodLink "CoalHolesModel" (140 : Nat) ({ cls := "CoalHolesModel", name := "burns", desc := "(I)I" } : Jvm.MethodName)) ∈ gw := gw_mem 1100 rfl rfl
set_option maxRecDepth 100000 in
theorem q1104 : (Jvm.Cond.methodLink "CoalHolesModel" (163 : Nat) ({ cls := "CoalHolesModel", name := "worthOf", desc := "(IIII)I" } : Jvm.MethodName)) ∈ gw := gw_mem 1104 rfl rfl
set_option maxRecDepth 100000 in
theorem q1105 : (Jvm.Cond.static ({ cls := "CoalHolesModel", name := "worthOf", desc := "(IIII)I" } : Jvm.MethodName)) ∈ gw := gw_mem 1105 rfl rfl
set_option maxRecDepth 100000 in
theorem q1107 : (Jvm.Cond.methodLink "CoalHolesLaw" (26 : Nat) ({ cls := "CoalHolesModel", name := "as", desc := "(II)I" } : Jvm.MethodName)) ∈ gw := gw_mem 1107 rfl rfl
set_option maxRecDepth 100000 in
theorem q1109 : (Jvm.Cond.selects "CoalHolesModel" ({ cls := "CoalHolesModel", name := "as", desc := "(II)I" } : Jvm.MethodName) ({ cls := "CoalHolesModel", name := "as", desc := "(II)I" } : Jvm.MethodName)) ∈ gw := gw_mem 1109 rfl rfl
set_option maxRecDepth 100000 in
theorem q1111 : (Jvm.Cond.methodLink "CoalHolesModel" (167 : Nat) ({ cls := "CoalHolesModel", name := "isUnder", desc := "(II)Z" } : Jvm.MethodName)) ∈ gw := gw_mem 1111 rfl rfl
set_option maxRecDepth 100000 in
theorem q1112 : (Jvm.Cond.static ({ cls := "CoalHolesModel", name := "isUnder", desc := "(II)Z" } : Jvm.MethodName)) ∈ gw := gw_mem 1112 rfl rfl
set_option maxRecDepth 100000 in
theorem q1114 : (Jvm.Cond.methodLink "CoalHolesModel" (90 : Nat) ({ cls := "CoalHolesModel", name := "above", desc := "(I)I" } : Jvm.MethodName)) ∈ gw := gw_mem 1114 rfl rfl
set_option maxRecDepth 100000 in
theorem q1115 : (Jvm.Cond.static ({ cls := "CoalHolesModel", name := "above", desc := "(I)I" } : Jvm.MethodName)) ∈ gw := gw_mem 1115 rfl rfl
set_option maxRecDepth 100000 in
theorem q1117 : (Jvm.Cond.constant "CoalHolesModel" (171 : Nat) (-1000000012 : Int32)) ∈ gw := gw_mem 1117 rfl rfl
set_option maxRecDepth 100000 in
theorem q1118 : (Jvm.Cond.methodLink "CoalHolesLaw" (30 : Nat) ({ cls := "CoalHolesModel", name := "turns", desc := "(II)I" } : Jvm.MethodName)) ∈ gw := gw_mem 1118 rfl rfl
set_option maxRecDepth 100000 in
theorem q1120 : (Jvm.Cond.selects "CoalHolesModel" ({ cls := "CoalHolesModel", name := "turns", desc := "(II)I" } : Jvm.MethodName) ({ cls := "CoalHolesModel", name := "turns", desc := "(II)I" } : Jvm.MethodName)) ∈ gw := gw_mem 1120 rfl rfl
set_option maxRecDepth 100000 in
theorem q1122 : (Jvm.Cond.methodLink "CoalHolesModel" (172 : Nat) ({ cls := "CoalHolesModel", name := "becomesAt", desc := "(II)I" } : Jvm.MethodName)) ∈ gw := gw_mem 1122 rfl rfl
set_option maxRecDepth 100000 in
theorem q1126 : (Jvm.Cond.methodLink "CoalHolesLaw" (35 : Nat) ({ cls := "CoalHolesModel", name := "set", desc := "(III)I" } : Jvm.MethodName)) ∈ gw := gw_mem 1126 rfl rfl
set_option maxRecDepth 100000 in
theorem q1128 : (Jvm.Cond.selects "CoalHolesModel" ({ cls := "CoalHolesModel", name := "set", desc := "(III)I" } : Jvm.MethodName) ({ cls := "CoalHolesModel", name := "set", desc := "(III)I" } : Jvm.MethodName)) ∈ gw := gw_mem 1128 rfl rfl
set_option maxRecDepth 100000 in
theorem q1130 : (Jvm.Cond.constantLong "CoalHolesModel" (175 : Nat) (4 : Int64)) ∈ gw := gw_mem 1130 rfl rfl
set_option maxRecDepth 100000 in
theorem q1131 : (Jvm.Cond.constantLong "CoalHolesModel" (177 : Nat) (9999 : Int64)) ∈ gw := gw_mem 1131 rfl rfl
set_option maxRecDepth 100000 in
theorem q1132 : (Jvm.Cond.methodLink "CoalHolesLaw" (39 : Nat) ({ cls := "CoalHolesModel", name := "rule", desc := "(II)I" } : Jvm.MethodName)) ∈ gw := gw_mem 1132 rfl rfl
set_option maxRecDepth 100000 in
theorem q1134 : (Jvm.Cond.selects "CoalHolesModel" ({ cls := "CoalHolesModel", name := "rule", desc := "(II)I" } : Jvm.MethodName) ({ cls := "CoalHolesModel", name := "rule", desc := "(II)I" } : Jvm.MethodName)) ∈ gw := gw_mem 1134 rfl rfl
set_option maxRecDepth 100000 in
theorem q1136 : (Jvm.Cond.constantLong "CoalHolesModel" (179 : Nat) (2 : Int64)) ∈ gw := gw_mem 1136 rfl rfl
set_option maxRecDepth 100000 in
theorem q1137 : (Jvm.Cond.constantLong "CoalHolesModel" (181 : Nat) (100 : Int64)) ∈ gw := gw_mem 1137 rfl rfl
set_option maxRecDepth 100000 in
theorem q1138 : (Jvm.Cond.methodLink "CoalHolesLaw" (44 : Nat) ({ cls := "CoalHolesModel", name := "deal", desc := "(I)I" } : Jvm.MethodName)) ∈ gw := gw_mem 1138 rfl rfl
set_option maxRecDepth 100000 in
theorem q1140 : (Jvm.Cond.selects "CoalHolesModel" ({ cls := "CoalHolesModel", name := "deal", desc := "(I)I" } : Jvm.MethodName) ({ cls := "CoalHolesModel", name := "deal", desc := "(I)I" } : Jvm.MethodName)) ∈ gw := gw_mem 1140 rfl rfl
set_option maxRecDepth 100000 in
theorem q1142 : (Jvm.Cond.constantLong "CoalHolesModel" (183 : Nat) (10 : Int64)) ∈ gw := gw_mem 1142 rfl rfl
set_option maxRecDepth 100000 in
theorem q1143 : (Jvm.Cond.methodLink "CoalHolesModel" (143 : Nat) ({ cls := "CoalHolesModel", name := "draw", desc := "()I" } : Jvm.MethodName)) ∈ gw := gw_mem 1143 rfl rfl
set_option maxRecDepth 100000 in
theorem q1147 : (Jvm.Cond.constant "CoalHolesModel" (121 : Nat) (1103515245 : Int32)) ∈ gw := gw_mem 1147 rfl rfl
set_option maxRecDepth 100000 in
theorem q1148 : (Jvm.Cond.methodLink "CoalHolesModel" (185 : Nat) ({ cls := "CoalHolesModel", name := "house", desc := "(IIII)I" } : Jvm.MethodName)) ∈ gw := gw_mem 1148 rfl rfl
set_option maxRecDepth 100000 in
theorem q1149 : (Jvm.Cond.methodLink "CoalHolesLaw" (48 : Nat) ({ cls := "CoalHolesModel", name := "seed", desc := "(I)I" } : Jvm.MethodName)) ∈ gw := gw_mem 1149 rfl rfl
set_option maxRecDepth 100000 in
theorem q1151 : (Jvm.Cond.selects "CoalHolesModel" ({ cls := "CoalHolesModel", name := "seed", desc := "(I)I" } : Jvm.MethodName) ({ cls := "CoalHolesModel", name := "seed", desc := "(I)I" } : Jvm.MethodName)) ∈ gw := gw_mem 1151 rfl rfl
set_option maxRecDepth 100000 in
theorem q1153 : (Jvm.Cond.methodLink "CoalHolesLaw" (53 : Nat) ({ cls := "CoalHolesModel", name := "round", desc := "()I" } : Jvm.MethodName)) ∈ gw := gw_mem 1153 rfl rfl
set_option maxRecDepth 100000 in
theorem q1155 : (Jvm.Cond.selects "CoalHolesModel" ({ cls := "CoalHolesModel", name := "round", desc := "()I" } : Jvm.MethodName) ({ cls := "CoalHolesModel", name := "round", desc := "()I" } : Jvm.MethodName)) ∈ gw := gw_mem 1155 rfl rfl
set_option maxRecDepth 100000 in
theorem q1157 : (Jvm.Cond.methodLink "CoalHolesModel" (130 : Nat) ({ cls := "CoalHolesModel", name := "roundGoes", desc := "()V" } : Jvm.MethodName)) ∈ gw := gw_mem 1157 rfl rfl
set_option maxRecDepth 100000 in
theorem q1161 : (Jvm.Cond.constant "CoalHolesModel" (129 : Nat) (99999 : Int32)) ∈ gw := gw_mem 1161 rfl rfl
set_option maxRecDepth 100000 in
theorem q1162 : (Jvm.Cond.methodLink "CoalHolesLaw" (57 : Nat) ({ cls := "CoalHolesModel", name := "load", desc := "(I)I" } : Jvm.MethodName)) ∈ gw := gw_mem 1162 rfl rfl
set_option maxRecDepth 100000 in
theorem q1164 : (Jvm.Cond.selects "CoalHolesModel" ({ cls := "CoalHolesModel", name := "load", desc := "(I)I" } : Jvm.MethodName) ({ cls := "CoalHolesModel", name := "load", desc := "(I)I" } : Jvm.MethodName)) ∈ gw := gw_mem 1164 rfl rfl
set_option maxRecDepth 100000 in
theorem q1166 : (Jvm.Cond.methodLink "CoalHolesModel" (133 : Nat) ({ cls := "CoalHolesModel", name := "delivers", desc := "(I)V" } : Jvm.MethodName)) ∈ gw := gw_mem 1166 rfl rfl
set_option maxRecDepth 100000 in
theorem q1170 : (Jvm.Cond.methodLink "CoalHolesLaw" (61 : Nat) ({ cls := "CoalHolesModel", name := "nights", desc := "(I)I" } : Jvm.MethodName)) ∈ gw := gw_mem 1170 rfl rfl
set_option maxRecDepth 100000 in
theorem q1172 : (Jvm.Cond.selects "CoalHolesModel" ({ cls := "CoalHolesModel", name := "nights", desc := "(I)I" } : Jvm.MethodName) ({ cls := "CoalHolesModel", name := "nights", desc := "(I)I" } : Jvm.MethodName)) ∈ gw := gw_mem 1172 rfl rfl
set_option maxRecDepth 100000 in
theorem q1174 : (Jvm.Cond.methodLink "CoalHolesModel" (188 : Nat) ({ cls := "CoalHolesModel", name := "nightsGo", desc := "(I)V" } : Jvm.MethodName)) ∈ gw := gw_mem 1174 rfl rfl
set_option maxRecDepth 100000 in
theorem q1178 : (Jvm.Cond.methodLink "CoalHolesModel" (147 : Nat) ({ cls := "CoalHolesModel", name := "nightGoes", desc := "()V" } : Jvm.MethodName)) ∈ gw := gw_mem 1178 rfl rfl
set_option maxRecDepth 100000 in
theorem q1182 : (Jvm.Cond.methodLink "CoalHolesLaw" (65 : Nat) ({ cls := "CoalHolesModel", name := "terrace", desc := "(I)I" } : Jvm.MethodName)) ∈ gw := gw_mem 1182 rfl rfl
set_option maxRecDepth 100000 in
theorem q1184 : (Jvm.Cond.selects "CoalHolesModel" ({ cls := "CoalHolesModel", name := "terrace", desc := "(I)I" } : Jvm.MethodName) ({ cls := "CoalHolesModel", name := "terrace", desc := "(I)I" } : Jvm.MethodName)) ∈ gw := gw_mem 1184 rfl rfl
set_option maxRecDepth 100000 in
theorem q1186 : (Jvm.Cond.methodLink "CoalHolesModel" (191 : Nat) ({ cls := "CoalHolesModel", name := "coldOnes", desc := "()I" } : Jvm.MethodName)) ∈ gw := gw_mem 1186 rfl rfl
set_option maxRecDepth 100000 in
theorem q1190 : (Jvm.Cond.methodLink "CoalHolesModel" (194 : Nat) ({ cls := "CoalHolesModel", name := "sumOf", desc := "(I)I" } : Jvm.MethodName)) ∈ gw := gw_mem 1190 rfl rfl
set_option maxRecDepth 100000 in
theorem q1194 : (Jvm.Cond.methodLink "CoalHolesModel" (197 : Nat) ({ cls := "CoalHolesModel", name := "loudest", desc := "()I" } : Jvm.MethodName)) ∈ gw := gw_mem 1194 rfl rfl
set_option maxRecDepth 100000 in
theorem q1198 : (Jvm.Cond.constant "CoalHolesModel" (150 : Nat) (-1000000005 : Int32)) ∈ gw := gw_mem 1198 rfl rfl
set_option maxRecDepth 100000 in
theorem q1199 : (Jvm.Cond.methodLink "CoalHolesLaw" (69 : Nat) ({ cls := "CoalHolesModel", name := "behind", desc := "(II)I" } : Jvm.MethodName)) ∈ gw := gw_mem 1199 rfl rfl
set_option maxRecDepth 100000 in
theorem q1201 : (Jvm.Cond.selects "CoalHolesModel" ({ cls := "CoalHolesModel", name := "behind", desc := "(II)I" } : Jvm.MethodName) ({ cls := "CoalHolesModel", name := "behind", desc := "(II)I" } : Jvm.MethodName)) ∈ gw := gw_mem 1201 rfl rfl
set_option maxRecDepth 100000 in
theorem q1203 : (Jvm.Cond.methodLink "CoalHolesModel" (200 : Nat) ({ cls := "CoalHolesModel", name := "copies", desc := "([I[I)V" } : Jvm.MethodName)) ∈ gw := gw_mem 1203 rfl rfl
set_option maxRecDepth 100000 in
theorem q1204 : (Jvm.Cond.static ({ cls := "CoalHolesModel", name := "copies", desc := "([I[I)V" } : Jvm.MethodName)) ∈ gw := gw_mem 1204 rfl rfl
set_option maxRecDepth 100000 in
theorem q1206 : (Jvm.Cond.methodLink "CoalHolesModel" (204 : Nat) ({ cls := "CoalHolesModel", name := "terrace", desc := "(I)I" } : Jvm.MethodName)) ∈ gw := gw_mem 1206 rfl rfl
set_option maxRecDepth 100000 in
theorem q1207 : (Jvm.Cond.methodLink "CoalHolesLaw" (73 : Nat) ({ cls := "CoalHolesModel", name := "cold", desc := "(I)I" } : Jvm.MethodName)) ∈ gw := gw_mem 1207 rfl rfl
set_option maxRecDepth 100000 in
theorem q1209 : (Jvm.Cond.selects "CoalHolesModel" ({ cls := "CoalHolesModel", name := "cold", desc := "(I)I" } : Jvm.MethodName) ({ cls := "CoalHolesModel", name := "cold", desc := "(I)I" } : Jvm.MethodName)) ∈ gw := gw_mem 1209 rfl rfl
set_option maxRecDepth 100000 in
theorem q1211 : (Jvm.Cond.methodLink "CoalHolesLaw" (77 : Nat) ({ cls := "CoalHolesModel", name := "shut", desc := "(I)I" } : Jvm.MethodName)) ∈ gw := gw_mem 1211 rfl rfl
set_option maxRecDepth 100000 in
theorem q1213 : (Jvm.Cond.selects "CoalHolesModel" ({ cls := "CoalHolesModel", name := "shut", desc := "(I)I" } : Jvm.MethodName) ({ cls := "CoalHolesModel", name := "shut", desc := "(I)I" } : Jvm.MethodName)) ∈ gw := gw_mem 1213 rfl rfl
set_option maxRecDepth 100000 in
theorem q1215 : (Jvm.Cond.methodLink "CoalHolesLaw" (81 : Nat) ({ cls := "CoalHolesModel", name := "cement", desc := "(I)I" } : Jvm.MethodName)) ∈ gw := gw_mem 1215 rfl rfl
set_option maxRecDepth 100000 in
theorem q1217 : (Jvm.Cond.selects "CoalHolesModel" ({ cls := "CoalHolesModel", name := "cement", desc := "(I)I" } : Jvm.MethodName) ({ cls := "CoalHolesModel", name := "cement", desc := "(I)I" } : Jvm.MethodName)) ∈ gw := gw_mem 1217 rfl rfl
set_option maxRecDepth 100000 in
theorem q1219 : (Jvm.Cond.constantLong "CoalHolesModel" (207 : Nat) (20 : Int64)) ∈ gw := gw_mem 1219 rfl rfl
set_option maxRecDepth 100000 in
theorem q1220 : (Jvm.Cond.methodLink "CoalHolesModel" (209 : Nat) ({ cls := "CoalHolesModel", name := "areStill", desc := "()Z" } : Jvm.MethodName)) ∈ gw := gw_mem 1220 rfl rfl
set_option maxRecDepth 100000 in
theorem q1224 : (Jvm.Cond.methodLink "CoalHolesLaw" (85 : Nat) ({ cls := "CoalHolesModel", name := "cast", desc := "(III)I" } : Jvm.MethodName)) ∈ gw := gw_mem 1224 rfl rfl
set_option maxRecDepth 100000 in
theorem q1226 : (Jvm.Cond.selects "CoalHolesModel" ({ cls := "CoalHolesModel", name := "cast", desc := "(III)I" } : Jvm.MethodName) ({ cls := "CoalHolesModel", name := "cast", desc := "(III)I" } : Jvm.MethodName)) ∈ gw := gw_mem 1226 rfl rfl
set_option maxRecDepth 100000 in
theorem q1228 : (Jvm.Cond.constantLong "CoalHolesModel" (213 : Nat) (60 : Int64)) ∈ gw := gw_mem 1228 rfl rfl
set_option maxRecDepth 100000 in
theorem q1229 : (Jvm.Cond.methodLink "CoalHolesLaw" (89 : Nat) ({ cls := "CoalHolesModel", name := "becomes", desc := "(III)I" } : Jvm.MethodName)) ∈ gw := gw_mem 1229 rfl rfl
set_option maxRecDepth 100000 in
theorem q1231 : (Jvm.Cond.selects "CoalHolesModel" ({ cls := "CoalHolesModel", name := "becomes", desc := "(III)I" } : Jvm.MethodName) ({ cls := "CoalHolesModel", name := "becomes", desc := "(III)I" } : Jvm.MethodName)) ∈ gw := gw_mem 1231 rfl rfl
set_option maxRecDepth 100000 in
theorem q1233 : (Jvm.Cond.constant "CoalHolesModel" (215 : Nat) (100000 : Int32)) ∈ gw := gw_mem 1233 rfl rfl
set_option maxRecDepth 100000 in
theorem q1234 : (Jvm.Cond.methodLink "CoalHolesLaw" (93 : Nat) ({ cls := "CoalHolesModel", name := "ears", desc := "(II)I" } : Jvm.MethodName)) ∈ gw := gw_mem 1234 rfl rfl
set_option maxRecDepth 100000 in
theorem q1236 : (Jvm.Cond.selects "CoalHolesModel" ({ cls := "CoalHolesModel", name := "ears", desc := "(II)I" } : Jvm.MethodName) ({ cls := "CoalHolesModel", name := "ears", desc := "(II)I" } : Jvm.MethodName)) ∈ gw := gw_mem 1236 rfl rfl
set_option maxRecDepth 100000 in
theorem q1238 : (Jvm.Cond.constantLong "CoalHolesModel" (216 : Nat) (99999 : Int64)) ∈ gw := gw_mem 1238 rfl rfl
set_option maxRecDepth 100000 in
theorem q1239 : (Jvm.Cond.methodLink "CoalHolesLaw" (97 : Nat) ({ cls := "CoalHolesModel", name := "like", desc := "(II)I" } : Jvm.MethodName)) ∈ gw := gw_mem 1239 rfl rfl
set_option maxRecDepth 100000 in
theorem q1241 : (Jvm.Cond.selects "CoalHolesModel" ({ cls := "CoalHolesModel", name := "like", desc := "(II)I" } : Jvm.MethodName) ({ cls := "CoalHolesModel", name := "like", desc := "(II)I" } : Jvm.MethodName)) ∈ gw := gw_mem 1241 rfl rfl
set_option maxRecDepth 100000 in
theorem q1243 : (Jvm.Cond.methodLink "CoalHolesModel" (218 : Nat) ({ cls := "CoalHolesModel", name := "isSheet", desc := "(I)Z" } : Jvm.MethodName)) ∈ gw := gw_mem 1243 rfl rfl
set_option maxRecDepth 100000 in
theorem q1244 : (Jvm.Cond.static ({ cls := "CoalHolesModel", name := "isSheet", desc := "(I)Z" } : Jvm.MethodName)) ∈ gw := gw_mem 1244 rfl rfl
set_option maxRecDepth 100000 in
theorem q1246 : (Jvm.Cond.constantLong "CoalHolesModel" (318 : Nat) (3 : Int64)) ∈ gw := gw_mem 1246 rfl rfl
set_option maxRecDepth 100000 in
theorem q1247 : (Jvm.Cond.constant "CoalHolesModel" (221 : Nat) (-1000000011 : Int32)) ∈ gw := gw_mem 1247 rfl rfl
set_option maxRecDepth 100000 in
theorem q1248 : (Jvm.Cond.methodLink "CoalHolesLaw" (101 : Nat) ({ cls := "CoalHolesModel", name := "fee", desc := "()I" } : Jvm.MethodName)) ∈ gw := gw_mem 1248 rfl rfl
set_option maxRecDepth 100000 in
theorem q1250 : (Jvm.Cond.selects "CoalHolesModel" ({ cls := "CoalHolesModel", name := "fee", desc := "()I" } : Jvm.MethodName) ({ cls := "CoalHolesModel", name := "fee", desc := "()I" } : Jvm.MethodName)) ∈ gw := gw_mem 1250 rfl rfl
set_option maxRecDepth 100000 in
theorem q1252 : (Jvm.Cond.methodLink "CoalHolesLaw" (105 : Nat) ({ cls := "CoalHolesModel", name := "fine", desc := "(I)I" } : Jvm.MethodName)) ∈ gw := gw_mem 1252 rfl rfl
set_option maxRecDepth 100000 in
theorem q1254 : (Jvm.Cond.selects "CoalHolesModel" ({ cls := "CoalHolesModel", name := "fine", desc := "(I)I" } : Jvm.MethodName) ({ cls := "CoalHolesModel", name := "fine", desc := "(I)I" } : Jvm.MethodName)) ∈ gw := gw_mem 1254 rfl rfl
set_option maxRecDepth 100000 in
theorem q1256 : (Jvm.Cond.methodLink "CoalHolesLaw" (109 : Nat) ({ cls := "CoalHolesModel", name := "feed", desc := "(III)I" } : Jvm.MethodName)) ∈ gw := gw_mem 1256 rfl rfl
set_option maxRecDepth 100000 in
theorem q1258 : (Jvm.Cond.selects "CoalHolesModel" ({ cls := "CoalHolesModel", name := "feed", desc := "(III)I" } : Jvm.MethodName) ({ cls := "CoalHolesModel", name := "feed", desc := "(III)I" } : Jvm.MethodName)) ∈ gw := gw_mem 1258 rfl rfl
set_option maxRecDepth 100000 in
theorem q1260 : (Jvm.Cond.methodLink "CoalHolesLaw" (113 : Nat) ({ cls := "CoalHolesModel", name := "trim", desc := "(I)I" } : Jvm.MethodName)) ∈ gw := gw_mem 1260 rfl rfl
set_option maxRecDepth 100000 in
theorem q1262 : (Jvm.Cond.selects "CoalHolesModel" ({ cls := "CoalHolesModel", name := "trim", desc := "(I)I" } : Jvm.MethodName) ({ cls := "CoalHolesModel", name := "trim", desc := "(I)I" } : Jvm.MethodName)) ∈ gw := gw_mem 1262 rfl rfl
set_option maxRecDepth 100000 in
theorem q1264 : (Jvm.Cond.methodLink "CoalHolesLaw" (117 : Nat) ({ cls := "CoalHolesModel", name := "text", desc := "()I" } : Jvm.MethodName)) ∈ gw := gw_mem 1264 rfl rfl
set_option maxRecDepth 100000 in
theorem q1266 : (Jvm.Cond.selects "CoalHolesModel" ({ cls := "CoalHolesModel", name := "text", desc := "()I" } : Jvm.MethodName) ({ cls := "CoalHolesModel", name := "text", desc := "()I" } : Jvm.MethodName)) ∈ gw := gw_mem 1266 rfl rfl
set_option maxRecDepth 100000 in
theorem q1268 : (Jvm.Cond.methodLink "CoalHolesModel" (260 : Nat) ({ cls := "CoalHolesModel", name := "next", desc := "()V" } : Jvm.MethodName)) ∈ gw := gw_mem 1268 rfl rfl
set_option maxRecDepth 100000 in
theorem q1272 : (Jvm.Cond.methodLink "CoalHolesModel" (239 : Nat) ({ cls := "CoalHolesModel", name := "isRow", desc := "(CC)Z" } : Jvm.MethodName)) ∈ gw := gw_mem 1272 rfl rfl
set_option maxRecDepth 100000 in
theorem q1276 : (Jvm.Cond.constantLong "CoalHolesModel" (243 : Nat) (27 : Int64)) ∈ gw := gw_mem 1276 rfl rfl
set_option maxRecDepth 100000 in
theorem q1277 : (Jvm.Cond.constantLong "CoalHolesModel" (245 : Nat) (97 : Int64)) ∈ gw := gw_mem 1277 rfl rfl
set_option maxRecDepth 100000 in
theorem q1278 : (Jvm.Cond.constantLong "CoalHolesModel" (247 : Nat) (-1 : Int64)) ∈ gw := gw_mem 1278 rfl rfl
set_option maxRecDepth 100000 in
theorem q1279 : (Jvm.Cond.constantLong "CoalHolesModel" (249 : Nat) (48 : Int64)) ∈ gw := gw_mem 1279 rfl rfl
set_option maxRecDepth 100000 in
theorem q1280 : (Jvm.Cond.constantLong "CoalHolesModel" (251 : Nat) (10000 : Int64)) ∈ gw := gw_mem 1280 rfl rfl
set_option maxRecDepth 100000 in
theorem q1281 : (Jvm.Cond.constantLong "CoalHolesModel" (312 : Nat) (4637 : Int64)) ∈ gw := gw_mem 1281 rfl rfl
set_option maxRecDepth 100000 in
theorem q1282 : (Jvm.Cond.constantLong "CoalHolesModel" (314 : Nat) (4514 : Int64)) ∈ gw := gw_mem 1282 rfl rfl
set_option maxRecDepth 100000 in
theorem q1283 : (Jvm.Cond.constantLong "CoalHolesModel" (316 : Nat) (125042 : Int64)) ∈ gw := gw_mem 1283 rfl rfl
set_option maxRecDepth 100000 in
theorem q1284 : (Jvm.Cond.methodLink "CoalHolesModel" (278 : Nat) ({ cls := "CoalHolesModel", name := "goesBy", desc := "(Z)V" } : Jvm.MethodName)) ∈ gw := gw_mem 1284 rfl rfl
set_option maxRecDepth 100000 in
theorem q1288 : (Jvm.Cond.methodLink "CoalHolesModel" (291 : Nat) ({ cls := "CoalHolesModel", name := "whole", desc := "()V" } : Jvm.MethodName)) ∈ gw := gw_mem 1288 rfl rfl
set_option maxRecDepth 100000 in
theorem q1292 : (Jvm.Cond.methodLink "CoalHolesModel" (309 : Nat) ({ cls := "CoalHolesModel", name := "both", desc := "()V" } : Jvm.MethodName)) ∈ gw := gw_mem 1292 rfl rfl
set_option maxRecDepth 100000 in
theorem q1296 : (Jvm.Cond.methodLink "CoalHolesModel" (306 : Nat) ({ cls := "CoalHolesModel", name := "test", desc := "()V" } : Jvm.MethodName)) ∈ gw := gw_mem 1296 rfl rfl
set_option maxRecDepth 100000 in
theorem q1300 : (Jvm.Cond.methodLink "CoalHolesModel" (303 : Nat) ({ cls := "CoalHolesModel", name := "sum", desc := "()V" } : Jvm.MethodName)) ∈ gw := gw_mem 1300 rfl rfl
set_option maxRecDepth 100000 in
theorem q1304 : (Jvm.Cond.methodLink "CoalHolesModel" (300 : Nat) ({ cls := "CoalHolesModel", name := "term", desc := "()V" } : Jvm.MethodName)) ∈ gw := gw_mem 1304 rfl rfl
set_option maxRecDepth 100000 in
theorem q1308 : (Jvm.Cond.methodLink "CoalHolesModel" (282 : Nat) ({ cls := "CoalHolesModel", name := "piece", desc := "()V" } : Jvm.MethodName)) ∈ gw := gw_mem 1308 rfl rfl
set_option maxRecDepth 100000 in
theorem q1312 : (Jvm.Cond.methodLink "CoalHolesModel" (271 : Nat) ({ cls := "CoalHolesModel", name := "isSign", desc := "(C)Z" } : Jvm.MethodName)) ∈ gw := gw_mem 1312 rfl rfl
set_option maxRecDepth 100000 in
theorem q1316 : (Jvm.Cond.methodLink "CoalHolesModel" (285 : Nat) ({ cls := "CoalHolesModel", name := "lays", desc := "(I)V" } : Jvm.MethodName)) ∈ gw := gw_mem 1316 rfl rfl
set_option maxRecDepth 100000 in
theorem q1320 : (Jvm.Cond.methodLink "CoalHolesModel" (294 : Nat) ({ cls := "CoalHolesModel", name := "nameHere", desc := "()I" } : Jvm.MethodName)) ∈ gw := gw_mem 1320 rfl rfl
set_option maxRecDepth 100000 in
theorem q1324 : (Jvm.Cond.constantLong "CoalHolesModel" (266 : Nat) (26 : Int64)) ∈ gw := gw_mem 1324 rfl rfl
set_option maxRecDepth 100000 in
theorem q1325 : (Jvm.Cond.methodLink "CoalHolesLaw" (121 : Nat) ({ cls := "CoalHolesModel", name := "textTold", desc := "(II)I" } : Jvm.MethodName)) ∈ gw := gw_mem 1325 rfl rfl
set_option maxRecDepth 100000 in
theorem q1327 : (Jvm.Cond.selects "CoalHolesModel" ({ cls := "CoalHolesModel", name := "textTold", desc := "(II)I" } : Jvm.MethodName) ({ cls := "CoalHolesModel", name := "textTold", desc := "(II)I" } : Jvm.MethodName)) ∈ gw := gw_mem 1327 rfl rfl
set_option maxRecDepth 100000 in
theorem q1329 : (Jvm.Cond.methodLink "CoalHolesLaw" (125 : Nat) ({ cls := "CoalHolesModel", name := "why", desc := "(I)I" } : Jvm.MethodName)) ∈ gw := gw_mem 1329 rfl rfl
set_option maxRecDepth 100000 in
theorem q1331 : (Jvm.Cond.selects "CoalHolesModel" ({ cls := "CoalHolesModel", name := "why", desc := "(I)I" } : Jvm.MethodName) ({ cls := "CoalHolesModel", name := "why", desc := "(I)I" } : Jvm.MethodName)) ∈ gw := gw_mem 1331 rfl rfl
set_option maxRecDepth 100000 in
theorem q1333 : (Jvm.Cond.methodLink "CoalHolesLaw" (129 : Nat) ({ cls := "CoalHolesModel", name := "sheet", desc := "(III)I" } : Jvm.MethodName)) ∈ gw := gw_mem 1333 rfl rfl
set_option maxRecDepth 100000 in
theorem q1335 : (Jvm.Cond.selects "CoalHolesModel" ({ cls := "CoalHolesModel", name := "sheet", desc := "(III)I" } : Jvm.MethodName) ({ cls := "CoalHolesModel", name := "sheet", desc := "(III)I" } : Jvm.MethodName)) ∈ gw := gw_mem 1335 rfl rfl
set_option maxRecDepth 100000 in
theorem q1337 : (Jvm.Cond.constant "CoalHolesModel" (320 : Nat) (-1000000014 : Int32)) ∈ gw := gw_mem 1337 rfl rfl
set_option maxRecDepth 100000 in
theorem q1338 : (Jvm.Cond.methodLink "CoalHolesLaw" (133 : Nat) ({ cls := "CoalHolesModel", name := "mark", desc := "(III)I" } : Jvm.MethodName)) ∈ gw := gw_mem 1338 rfl rfl
set_option maxRecDepth 100000 in
theorem q1340 : (Jvm.Cond.selects "CoalHolesModel" ({ cls := "CoalHolesModel", name := "mark", desc := "(III)I" } : Jvm.MethodName) ({ cls := "CoalHolesModel", name := "mark", desc := "(III)I" } : Jvm.MethodName)) ∈ gw := gw_mem 1340 rfl rfl
set_option maxRecDepth 100000 in
theorem q1342 : (Jvm.Cond.constant "CoalHolesModel" (321 : Nat) (-1000000013 : Int32)) ∈ gw := gw_mem 1342 rfl rfl
set_option maxRecDepth 100000 in
theorem q1343 : (Jvm.Cond.constantLong "CoalHolesModel" (322 : Nat) (-99999 : Int64)) ∈ gw := gw_mem 1343 rfl rfl
set_option maxRecDepth 100000 in
theorem q1344 : (Jvm.Cond.methodLink "CoalHolesLaw" (137 : Nat) ({ cls := "CoalHolesModel", name := "pour", desc := "(I)I" } : Jvm.MethodName)) ∈ gw := gw_mem 1344 rfl rfl
set_option maxRecDepth 100000 in
theorem q1346 : (Jvm.Cond.selects "CoalHolesModel" ({ cls := "CoalHolesModel", name := "pour", desc := "(I)I" } : Jvm.MethodName) ({ cls := "CoalHolesModel", name := "pour", desc := "(I)I" } : Jvm.MethodName)) ∈ gw := gw_mem 1346 rfl rfl
set_option maxRecDepth 100000 in
theorem q1348 : (Jvm.Cond.methodLink "CoalHolesLaw" (141 : Nat) ({ cls := "CoalHolesModel", name := "reads", desc := "(I)I" } : Jvm.MethodName)) ∈ gw := gw_mem 1348 rfl rfl
set_option maxRecDepth 100000 in
theorem q1350 : (Jvm.Cond.selects "CoalHolesModel" ({ cls := "CoalHolesModel", name := "reads", desc := "(I)I" } : Jvm.MethodName) ({ cls := "CoalHolesModel", name := "reads", desc := "(I)I" } : Jvm.MethodName)) ∈ gw := gw_mem 1350 rfl rfl
set_option maxRecDepth 100000 in
theorem q1352 : (Jvm.Cond.methodLink "CoalHolesLaw" (146 : Nat) ({ cls := "CoalHolesModel", name := "copy", desc := "(IIIII)I" } : Jvm.MethodName)) ∈ gw := gw_mem 1352 rfl rfl
set_option maxRecDepth 100000 in
theorem q1354 : (Jvm.Cond.selects "CoalHolesModel" ({ cls := "CoalHolesModel", name := "copy", desc := "(IIIII)I" } : Jvm.MethodName) ({ cls := "CoalHolesModel", name := "copy", desc := "(IIIII)I" } : Jvm.MethodName)) ∈ gw := gw_mem 1354 rfl rfl
set_option maxRecDepth 100000 in
theorem q1356 : (Jvm.Cond.methodLink "CoalHolesLaw" (150 : Nat) ({ cls := "CoalHolesModel", name := "lay", desc := "(III)I" } : Jvm.MethodName)) ∈ gw := gw_mem 1356 rfl rfl
set_option maxRecDepth 100000 in
theorem q1358 : (Jvm.Cond.selects "CoalHolesModel" ({ cls := "CoalHolesModel", name := "lay", desc := "(III)I" } : Jvm.MethodName) ({ cls := "CoalHolesModel", name := "lay", desc := "(III)I" } : Jvm.MethodName)) ∈ gw := gw_mem 1358 rfl rfl
set_option maxRecDepth 100000 in
theorem q1360 : (Jvm.Cond.methodLink "CoalHolesLaw" (154 : Nat) ({ cls := "CoalHolesModel", name := "ask", desc := "(II)I" } : Jvm.MethodName)) ∈ gw := gw_mem 1360 rfl rfl
set_option maxRecDepth 100000 in
theorem q1362 : (Jvm.Cond.selects "CoalHolesModel" ({ cls := "CoalHolesModel", name := "ask", desc := "(II)I" } : Jvm.MethodName) ({ cls := "CoalHolesModel", name := "ask", desc := "(II)I" } : Jvm.MethodName)) ∈ gw := gw_mem 1362 rfl rfl
set_option maxRecDepth 100000 in
theorem q1364 : (Jvm.Cond.methodLink "CoalHolesLaw" (158 : Nat) ({ cls := "CoalHolesModel", name := "item", desc := "(II)I" } : Jvm.MethodName)) ∈ gw := gw_mem 1364 rfl rfl
set_option maxRecDepth 100000 in
theorem q1366 : (Jvm.Cond.selects "CoalHolesModel" ({ cls := "CoalHolesModel", name := "item", desc := "(II)I" } : Jvm.MethodName) ({ cls := "CoalHolesModel", name := "item", desc := "(II)I" } : Jvm.MethodName)) ∈ gw := gw_mem 1366 rfl rfl
set_option maxRecDepth 100000 in
theorem q1368 : (Jvm.Cond.methodLink "CoalHolesLaw" (162 : Nat) ({ cls := "CoalHolesModel", name := "rest", desc := "(II)I" } : Jvm.MethodName)) ∈ gw := gw_mem 1368 rfl rfl
set_option maxRecDepth 100000 in
theorem q1370 : (Jvm.Cond.selects "CoalHolesModel" ({ cls := "CoalHolesModel", name := "rest", desc := "(II)I" } : Jvm.MethodName) ({ cls := "CoalHolesModel", name := "rest", desc := "(II)I" } : Jvm.MethodName)) ∈ gw := gw_mem 1370 rfl rfl
set_option maxRecDepth 100000 in
theorem q1372 : (Jvm.Cond.constant "CoalHolesModel" (324 : Nat) (-1000000002 : Int32)) ∈ gw := gw_mem 1372 rfl rfl
set_option maxRecDepth 100000 in
theorem q1373 : (Jvm.Cond.methodLink "CoalHolesLaw" (166 : Nat) ({ cls := "CoalHolesModel", name := "tell", desc := "(I)I" } : Jvm.MethodName)) ∈ gw := gw_mem 1373 rfl rfl
set_option maxRecDepth 100000 in
theorem q1375 : (Jvm.Cond.selects "CoalHolesModel" ({ cls := "CoalHolesModel", name := "tell", desc := "(I)I" } : Jvm.MethodName) ({ cls := "CoalHolesModel", name := "tell", desc := "(I)I" } : Jvm.MethodName)) ∈ gw := gw_mem 1375 rfl rfl
set_option maxRecDepth 100000 in
theorem q1377 : (Jvm.Cond.methodLink "CoalHolesLaw" (170 : Nat) ({ cls := "CoalHolesModel", name := "check", desc := "(I)I" } : Jvm.MethodName)) ∈ gw := gw_mem 1377 rfl rfl
set_option maxRecDepth 100000 in
theorem q1379 : (Jvm.Cond.selects "CoalHolesModel" ({ cls := "CoalHolesModel", name := "check", desc := "(I)I" } : Jvm.MethodName) ({ cls := "CoalHolesModel", name := "check", desc := "(I)I" } : Jvm.MethodName)) ∈ gw := gw_mem 1379 rfl rfl
set_option maxRecDepth 100000 in
theorem q1381 : (Jvm.Cond.constantLong "CoalHolesModel" (328 : Nat) (30 : Int64)) ∈ gw := gw_mem 1381 rfl rfl
set_option maxRecDepth 100000 in
theorem q1382 : (Jvm.Cond.methodLink "CoalHolesLaw" (174 : Nat) ({ cls := "CoalHolesModel", name := "keep", desc := "()I" } : Jvm.MethodName)) ∈ gw := gw_mem 1382 rfl rfl
set_option maxRecDepth 100000 in
theorem q1384 : (Jvm.Cond.selects "CoalHolesModel" ({ cls := "CoalHolesModel", name := "keep", desc := "()I" } : Jvm.MethodName) ({ cls := "CoalHolesModel", name := "keep", desc := "()I" } : Jvm.MethodName)) ∈ gw := gw_mem 1384 rfl rfl
set_option maxRecDepth 100000 in
theorem q1386 : (Jvm.Cond.methodLink "CoalHolesLaw" (178 : Nat) ({ cls := "CoalHolesModel", name := "back", desc := "()I" } : Jvm.MethodName)) ∈ gw := gw_mem 1386 rfl rfl
set_option maxRecDepth 100000 in
theorem q1388 : (Jvm.Cond.selects "CoalHolesModel" ({ cls := "CoalHolesModel", name := "back", desc := "()I" } : Jvm.MethodName) ({ cls := "CoalHolesModel", name := "back", desc := "()I" } : Jvm.MethodName)) ∈ gw := gw_mem 1388 rfl rfl
set_option maxRecDepth 100000 in
theorem q1390 : (Jvm.Cond.methodLink "CoalHolesLaw" (182 : Nat) ({ cls := "CoalHolesModel", name := "count", desc := "(I)I" } : Jvm.MethodName)) ∈ gw := gw_mem 1390 rfl rfl
set_option maxRecDepth 100000 in
theorem q1392 : (Jvm.Cond.selects "CoalHolesModel" ({ cls := "CoalHolesModel", name := "count", desc := "(I)I" } : Jvm.MethodName) ({ cls := "CoalHolesModel", name := "count", desc := "(I)I" } : Jvm.MethodName)) ∈ gw := gw_mem 1392 rfl rfl
set_option maxRecDepth 100000 in
theorem q1394 : (Jvm.Cond.fieldLink "java/lang/String" (9 : Nat) "java/lang/String" "value" "[B") ∈ gw := gw_mem 1394 rfl rfl
set_option maxRecDepth 100000 in
theorem q1395 : (Jvm.Cond.fieldLink "java/lang/String" (15 : Nat) "java/lang/String" "coder" "B") ∈ gw := gw_mem 1395 rfl rfl
set_option maxRecDepth 100000 in
theorem km_X0_init : KM yX0_init cX0_init 1 (Option.none : Option Jvm.ClassFile.FieldType) 0 := ⟨gw_mem 80 rfl rfl, gw_mem 108 rfl rfl, by decide, by decide, rfl⟩
set_option maxRecDepth 100000 in
theorem ki_X0_init : Cond.instanceMethod yX0_init ∈ gw := gw_mem 107 rfl rfl
set_option maxRecDepth 100000 in
theorem km_X0_at : KM yX0_at cX0_at 2 (Option.some (Jvm.ClassFile.FieldType.object "CoalHoles$Text")) 1 := ⟨gw_mem 80 rfl rfl, gw_mem 382 rfl rfl, by decide, by decide, rfl⟩
set_option maxRecDepth 100000 in
theorem ki_X0_at : KI yX0_at := ⟨gw_mem 381 rfl rfl, gw_mem 4 rfl rfl⟩
set_option maxRecDepth 100000 in
theorem km_X1_init : KM yX1_init cX1_init 1 (Option.none : Option Jvm.ClassFile.FieldType) 0 := ⟨gw_mem 83 rfl rfl, gw_mem 221 rfl rfl, by decide, by decide, rfl⟩
set_option maxRecDepth 100000 in
theorem ki_X1_init : Cond.instanceMethod yX1_init ∈ gw := gw_mem 220 rfl rfl
set_option maxRecDepth 100000 in
theorem km_X1_faultOf : KM yX1_faultOf cX1_faultOf 8 (Option.some Jvm.ClassFile.FieldType.int) 2 := ⟨gw_mem 83 rfl rfl, gw_mem 653 rfl rfl, by decide, by decide, rfl⟩
set_option maxRecDepth 100000 in
theorem ki_X1_faultOf : KI yX1_faultOf := ⟨gw_mem 652 rfl rfl, gw_mem 32 rfl rfl⟩
set_option maxRecDepth 100000 in
theorem km_X1_asText : KM yX1_asText cX1_asText 1 (Option.some (Jvm.ClassFile.FieldType.object "CoalHoles$Text")) 0 := ⟨gw_mem 83 rfl rfl, gw_mem 795 rfl rfl, by decide, by decide, rfl⟩
set_option maxRecDepth 100000 in
theorem ki_X1_asText : KI yX1_asText := ⟨gw_mem 794 rfl rfl, gw_mem 41 rfl rfl⟩
set_option maxRecDepth 100000 in
theorem km_X1_pastBlanks : KM yX1_pastBlanks cX1_pastBlanks 4 (Option.some Jvm.ClassFile.FieldType.int) 3 := ⟨gw_mem 83 rfl rfl, gw_mem 656 rfl rfl, by decide, by decide, rfl⟩
set_option maxRecDepth 100000 in
theorem ks_X1_pastBlanks : Cond.static yX1_pastBlanks ∈ gw := gw_mem 655 rfl rfl
set_option maxRecDepth 100000 in
theorem km_X1_endOf : KM yX1_endOf cX1_endOf 4 (Option.some Jvm.ClassFile.FieldType.int) 3 := ⟨gw_mem 83 rfl rfl, gw_mem 659 rfl rfl, by decide, by decide, rfl⟩
set_option maxRecDepth 100000 in
theorem ks_X1_endOf : Cond.static yX1_endOf ∈ gw := gw_mem 658 rfl rfl
set_option maxRecDepth 100000 in
theorem km_X1_keyOf : KM yX1_keyOf cX1_keyOf 5 (Option.some Jvm.ClassFile.FieldType.int) 3 := ⟨gw_mem 83 rfl rfl, gw_mem 669 rfl rfl, by decide, by decide, rfl⟩
set_option maxRecDepth 100000 in
theorem ks_X1_keyOf : Cond.static yX1_keyOf ∈ gw := gw_mem 668 rfl rfl
set_option maxRecDepth 100000 in
theorem km_X1_takePiece : KM yX1_takePiece cX1_takePiece 5 (Option.some Jvm.ClassFile.FieldType.int) 3 := ⟨gw_mem 83 rfl rfl, gw_mem 676 rfl rfl, by decide, by decide, rfl⟩
set_option maxRecDepth 100000 in
theorem ki_X1_takePiece : KI yX1_takePiece := ⟨gw_mem 675 rfl rfl, gw_mem 33 rfl rfl⟩
set_option maxRecDepth 100000 in
theorem km_X1_takeValue : KM yX1_takeValue cX1_takeValue 2 (Option.some Jvm.ClassFile.FieldType.int) 1 := ⟨gw_mem 83 rfl rfl, gw_mem 760 rfl rfl, by decide, by decide, rfl⟩
set_option maxRecDepth 100000 in
theorem ki_X1_takeValue : KI yX1_takeValue := ⟨gw_mem 759 rfl rfl, gw_mem 34 rfl rfl⟩
set_option maxRecDepth 100000 in
theorem km_X1_takeSign : KM yX1_takeSign cX1_takeSign 3 (Option.some Jvm.ClassFile.FieldType.int) 1 := ⟨gw_mem 83 rfl rfl, gw_mem 779 rfl rfl, by decide, by decide, rfl⟩
set_option maxRecDepth 100000 in
theorem ki_X1_takeSign : KI yX1_takeSign := ⟨gw_mem 778 rfl rfl, gw_mem 38 rfl rfl⟩
set_option maxRecDepth 100000 in
theorem km_X1_takeBracket : KM yX1_takeBracket cX1_takeBracket 1 (Option.some Jvm.ClassFile.FieldType.int) 0 := ⟨gw_mem 83 rfl rfl, gw_mem 783 rfl rfl, by decide, by decide, rfl⟩
set_option maxRecDepth 100000 in
theorem ki_X1_takeBracket : KI yX1_takeBracket := ⟨gw_mem 782 rfl rfl, gw_mem 39 rfl rfl⟩
set_option maxRecDepth 100000 in
theorem km_X1_closeDownTo : KM yX1_closeDownTo cX1_closeDownTo 2 (Option.none : Option Jvm.ClassFile.FieldType) 1 := ⟨gw_mem 83 rfl rfl, gw_mem 787 rfl rfl, by decide, by decide, rfl⟩
set_option maxRecDepth 100000 in
theorem ki_X1_closeDownTo : KI yX1_closeDownTo := ⟨gw_mem 786 rfl rfl, gw_mem 40 rfl rfl⟩
set_option maxRecDepth 100000 in
theorem km_X1_closeNots : KM yX1_closeNots cX1_closeNots 1 (Option.none : Option Jvm.ClassFile.FieldType) 0 := ⟨gw_mem 83 rfl rfl, gw_mem 768 rfl rfl, by decide, by decide, rfl⟩
set_option maxRecDepth 100000 in
theorem ki_X1_closeNots : KI yX1_closeNots := ⟨gw_mem 767 rfl rfl, gw_mem 36 rfl rfl⟩
set_option maxRecDepth 100000 in
theorem km_X1_leaveOpen : KM yX1_leaveOpen cX1_leaveOpen 2 (Option.none : Option Jvm.ClassFile.FieldType) 1 := ⟨gw_mem 83 rfl rfl, gw_mem 775 rfl rfl, by decide, by decide, rfl⟩
set_option maxRecDepth 100000 in
theorem ki_X1_leaveOpen : KI yX1_leaveOpen := ⟨gw_mem 774 rfl rfl, gw_mem 37 rfl rfl⟩
set_option maxRecDepth 100000 in
theorem km_X1_write : KM yX1_write cX1_write 2 (Option.none : Option Jvm.ClassFile.FieldType) 1 := ⟨gw_mem 83 rfl rfl, gw_mem 764 rfl rfl, by decide, by decide, rfl⟩
set_option maxRecDepth 100000 in
theorem ki_X1_write : KI yX1_write := ⟨gw_mem 763 rfl rfl, gw_mem 35 rfl rfl⟩
set_option maxRecDepth 100000 in
theorem km_X1_rankOf : KM yX1_rankOf cX1_rankOf 1 (Option.some Jvm.ClassFile.FieldType.int) 1 := ⟨gw_mem 83 rfl rfl, gw_mem 790 rfl rfl, by decide, by decide, rfl⟩
set_option maxRecDepth 100000 in
theorem ks_X1_rankOf : Cond.static yX1_rankOf ∈ gw := gw_mem 789 rfl rfl
set_option maxRecDepth 100000 in
theorem km_X1_namesOf : KM yX1_namesOf cX1_namesOf 1 (Option.some (Jvm.ClassFile.FieldType.object "java/lang/String")) 1 := ⟨gw_mem 83 rfl rfl, gw_mem 679 rfl rfl, by decide, by decide, rfl⟩
set_option maxRecDepth 100000 in
theorem ks_X1_namesOf : Cond.static yX1_namesOf ∈ gw := gw_mem 678 rfl rfl
set_option maxRecDepth 100000 in
theorem km_X1_numberOf : KM yX1_numberOf cX1_numberOf 5 (Option.some Jvm.ClassFile.FieldType.int) 3 := ⟨gw_mem 83 rfl rfl, gw_mem 771 rfl rfl, by decide, by decide, rfl⟩
set_option maxRecDepth 100000 in
theorem ks_X1_numberOf : Cond.static yX1_numberOf ∈ gw := gw_mem 770 rfl rfl
set_option maxRecDepth 100000 in
theorem km_X1_isLetter : KM yX1_isLetter cX1_isLetter 1 (Option.some Jvm.ClassFile.FieldType.boolean) 1 := ⟨gw_mem 83 rfl rfl, gw_mem 662 rfl rfl, by decide, by decide, rfl⟩
set_option maxRecDepth 100000 in
theorem ks_X1_isLetter : Cond.static yX1_isLetter ∈ gw := gw_mem 661 rfl rfl
set_option maxRecDepth 100000 in
theorem km_X1_isDigit : KM yX1_isDigit cX1_isDigit 1 (Option.some Jvm.ClassFile.FieldType.boolean) 1 := ⟨gw_mem 83 rfl rfl, gw_mem 665 rfl rfl, by decide, by decide, rfl⟩
set_option maxRecDepth 100000 in
theorem ks_X1_isDigit : Cond.static yX1_isDigit ∈ gw := gw_mem 664 rfl rfl
set_option maxRecDepth 100000 in
theorem km_X1_isWord : KM yX1_isWord cX1_isWord 1 (Option.some Jvm.ClassFile.FieldType.boolean) 1 := ⟨gw_mem 83 rfl rfl, gw_mem 672 rfl rfl, by decide, by decide, rfl⟩
set_option maxRecDepth 100000 in
theorem ks_X1_isWord : Cond.static yX1_isWord ∈ gw := gw_mem 671 rfl rfl
set_option maxRecDepth 100000 in
theorem km_X2_init : KM yX2_init cX2_init 1 (Option.none : Option Jvm.ClassFile.FieldType) 0 := ⟨gw_mem 84 rfl rfl, gw_mem 256 rfl rfl, by decide, by decide, rfl⟩
set_option maxRecDepth 100000 in
theorem ki_X2_init : Cond.instanceMethod yX2_init ∈ gw := gw_mem 255 rfl rfl
set_option maxRecDepth 100000 in
theorem km_X2_clear : KM yX2_clear cX2_clear 3 (Option.none : Option Jvm.ClassFile.FieldType) 2 := ⟨gw_mem 84 rfl rfl, gw_mem 837 rfl rfl, by decide, by decide, rfl⟩
set_option maxRecDepth 100000 in
theorem ki_X2_clear : KI yX2_clear := ⟨gw_mem 836 rfl rfl, gw_mem 42 rfl rfl⟩
set_option maxRecDepth 100000 in
theorem km_X2_become : KM yX2_become cX2_become 2 (Option.none : Option Jvm.ClassFile.FieldType) 1 := ⟨gw_mem 84 rfl rfl, gw_mem 880 rfl rfl, by decide, by decide, rfl⟩
set_option maxRecDepth 100000 in
theorem ki_X2_become : KI yX2_become := ⟨gw_mem 879 rfl rfl, gw_mem 46 rfl rfl⟩
set_option maxRecDepth 100000 in
theorem km_X2_has : KM yX2_has cX2_has 2 (Option.some Jvm.ClassFile.FieldType.boolean) 1 := ⟨gw_mem 84 rfl rfl, gw_mem 615 rfl rfl, by decide, by decide, rfl⟩
set_option maxRecDepth 100000 in
theorem ki_X2_has : KI yX2_has := ⟨gw_mem 614 rfl rfl, gw_mem 28 rfl rfl⟩
set_option maxRecDepth 100000 in
theorem km_X2_hasMany : KM yX2_hasMany cX2_hasMany 3 (Option.some Jvm.ClassFile.FieldType.boolean) 2 := ⟨gw_mem 84 rfl rfl, gw_mem 862 rfl rfl, by decide, by decide, rfl⟩
set_option maxRecDepth 100000 in
theorem ki_X2_hasMany : KI yX2_hasMany := ⟨gw_mem 861 rfl rfl, gw_mem 43 rfl rfl⟩
set_option maxRecDepth 100000 in
theorem km_X2_isNumber : KM yX2_isNumber cX2_isNumber 2 (Option.some Jvm.ClassFile.FieldType.boolean) 1 := ⟨gw_mem 84 rfl rfl, gw_mem 611 rfl rfl, by decide, by decide, rfl⟩
set_option maxRecDepth 100000 in
theorem ki_X2_isNumber : KI yX2_isNumber := ⟨gw_mem 610 rfl rfl, gw_mem 27 rfl rfl⟩
set_option maxRecDepth 100000 in
theorem km_X3_init : KM yX3_init cX3_init 1 (Option.none : Option Jvm.ClassFile.FieldType) 0 := ⟨gw_mem 85 rfl rfl, gw_mem 274 rfl rfl, by decide, by decide, rfl⟩
set_option maxRecDepth 100000 in
theorem ki_X3_init : Cond.instanceMethod yX3_init ∈ gw := gw_mem 273 rfl rfl
set_option maxRecDepth 100000 in
theorem km_X3_takeHouse : KM yX3_takeHouse cX3_takeHouse 3 (Option.none : Option Jvm.ClassFile.FieldType) 2 := ⟨gw_mem 85 rfl rfl, gw_mem 875 rfl rfl, by decide, by decide, rfl⟩
set_option maxRecDepth 100000 in
theorem ki_X3_takeHouse : KI yX3_takeHouse := ⟨gw_mem 874 rfl rfl, gw_mem 45 rfl rfl⟩
set_option maxRecDepth 100000 in
theorem km_X4_init : KM yX4_init cX4_init 2 (Option.none : Option Jvm.ClassFile.FieldType) 1 := ⟨gw_mem 82 rfl rfl, gw_mem 142 rfl rfl, by decide, by decide, rfl⟩
set_option maxRecDepth 100000 in
theorem ki_X4_init : Cond.instanceMethod yX4_init ∈ gw := gw_mem 141 rfl rfl
set_option maxRecDepth 100000 in
theorem km_X4_become : KM yX4_become cX4_become 2 (Option.none : Option Jvm.ClassFile.FieldType) 1 := ⟨gw_mem 82 rfl rfl, gw_mem 544 rfl rfl, by decide, by decide, rfl⟩
set_option maxRecDepth 100000 in
theorem ki_X4_become : KI yX4_become := ⟨gw_mem 543 rfl rfl, gw_mem 20 rfl rfl⟩
set_option maxRecDepth 100000 in
theorem km_X4_has : KM yX4_has cX4_has 2 (Option.some Jvm.ClassFile.FieldType.boolean) 1 := ⟨gw_mem 82 rfl rfl, gw_mem 370 rfl rfl, by decide, by decide, rfl⟩
set_option maxRecDepth 100000 in
theorem ki_X4_has : KI yX4_has := ⟨gw_mem 369 rfl rfl, gw_mem 1 rfl rfl⟩
set_option maxRecDepth 100000 in
theorem km_X4_build : KM yX4_build cX4_build 6 (Option.some Jvm.ClassFile.FieldType.int) 4 := ⟨gw_mem 82 rfl rfl, gw_mem 360 rfl rfl, by decide, by decide, rfl⟩
set_option maxRecDepth 100000 in
theorem ki_X4_build : KI yX4_build := ⟨gw_mem 359 rfl rfl, gw_mem 0 rfl rfl⟩
set_option maxRecDepth 100000 in
theorem km_X4_buildByLot : KM yX4_buildByLot cX4_buildByLot 5 (Option.none : Option Jvm.ClassFile.FieldType) 0 := ⟨gw_mem 82 rfl rfl, gw_mem 466 rfl rfl, by decide, by decide, rfl⟩
set_option maxRecDepth 100000 in
theorem ki_X4_buildByLot : KI yX4_buildByLot := ⟨gw_mem 465 rfl rfl, gw_mem 9 rfl rfl⟩
set_option maxRecDepth 100000 in
theorem km_X4_draw : KM yX4_draw cX4_draw 1 (Option.some Jvm.ClassFile.FieldType.int) 0 := ⟨gw_mem 82 rfl rfl, gw_mem 470 rfl rfl, by decide, by decide, rfl⟩
set_option maxRecDepth 100000 in
theorem ki_X4_draw : KI yX4_draw := ⟨gw_mem 469 rfl rfl, gw_mem 10 rfl rfl⟩
set_option maxRecDepth 100000 in
theorem km_X4_pass : KM yX4_pass cX4_pass 3 (Option.none : Option Jvm.ClassFile.FieldType) 1 := ⟨gw_mem 82 rfl rfl, gw_mem 502 rfl rfl, by decide, by decide, rfl⟩
set_option maxRecDepth 100000 in
theorem ki_X4_pass : KI yX4_pass := ⟨gw_mem 501 rfl rfl, gw_mem 13 rfl rfl⟩
set_option maxRecDepth 100000 in
theorem km_X4_clank : KM yX4_clank cX4_clank 3 (Option.none : Option Jvm.ClassFile.FieldType) 0 := ⟨gw_mem 82 rfl rfl, gw_mem 484 rfl rfl, by decide, by decide, rfl⟩
set_option maxRecDepth 100000 in
theorem ki_X4_clank : KI yX4_clank := ⟨gw_mem 483 rfl rfl, gw_mem 11 rfl rfl⟩
set_option maxRecDepth 100000 in
theorem km_X4_deliver : KM yX4_deliver cX4_deliver 3 (Option.some Jvm.ClassFile.FieldType.int) 1 := ⟨gw_mem 82 rfl rfl, gw_mem 494 rfl rfl, by decide, by decide, rfl⟩
set_option maxRecDepth 100000 in
theorem ki_X4_deliver : KI yX4_deliver := ⟨gw_mem 493 rfl rfl, gw_mem 12 rfl rfl⟩
set_option maxRecDepth 100000 in
theorem km_X4_burnAndBend : KM yX4_burnAndBend cX4_burnAndBend 3 (Option.none : Option Jvm.ClassFile.FieldType) 0 := ⟨gw_mem 82 rfl rfl, gw_mem 508 rfl rfl, by decide, by decide, rfl⟩
set_option maxRecDepth 100000 in
theorem ki_X4_burnAndBend : KI yX4_burnAndBend := ⟨gw_mem 507 rfl rfl, gw_mem 14 rfl rfl⟩
set_option maxRecDepth 100000 in
theorem km_X4_tread : KM yX4_tread cX4_tread 2 (Option.none : Option Jvm.ClassFile.FieldType) 0 := ⟨gw_mem 82 rfl rfl, gw_mem 514 rfl rfl, by decide, by decide, rfl⟩
set_option maxRecDepth 100000 in
theorem ki_X4_tread : KI yX4_tread := ⟨gw_mem 513 rfl rfl, gw_mem 15 rfl rfl⟩
set_option maxRecDepth 100000 in
theorem km_X4_slack : KM yX4_slack cX4_slack 2 (Option.some Jvm.ClassFile.FieldType.int) 1 := ⟨gw_mem 82 rfl rfl, gw_mem 374 rfl rfl, by decide, by decide, rfl⟩
set_option maxRecDepth 100000 in
theorem ki_X4_slack : KI yX4_slack := ⟨gw_mem 373 rfl rfl, gw_mem 2 rfl rfl⟩
set_option maxRecDepth 100000 in
theorem km_X4_tuneBeside : KM yX4_tuneBeside cX4_tuneBeside 2 (Option.some Jvm.ClassFile.FieldType.int) 1 := ⟨gw_mem 82 rfl rfl, gw_mem 410 rfl rfl, by decide, by decide, rfl⟩
set_option maxRecDepth 100000 in
theorem ki_X4_tuneBeside : KI yX4_tuneBeside := ⟨gw_mem 409 rfl rfl, gw_mem 6 rfl rfl⟩
set_option maxRecDepth 100000 in
theorem km_X4_plain : KM yX4_plain cX4_plain 4 (Option.some Jvm.ClassFile.FieldType.int) 1 := ⟨gw_mem 82 rfl rfl, gw_mem 378 rfl rfl, by decide, by decide, rfl⟩
set_option maxRecDepth 100000 in
theorem ki_X4_plain : KI yX4_plain := ⟨gw_mem 377 rfl rfl, gw_mem 3 rfl rfl⟩
set_option maxRecDepth 100000 in
theorem km_X4_bends : KM yX4_bends cX4_bends 2 (Option.some Jvm.ClassFile.FieldType.int) 1 := ⟨gw_mem 82 rfl rfl, gw_mem 421 rfl rfl, by decide, by decide, rfl⟩
set_option maxRecDepth 100000 in
theorem ki_X4_bends : KI yX4_bends := ⟨gw_mem 420 rfl rfl, gw_mem 7 rfl rfl⟩
set_option maxRecDepth 100000 in
theorem km_X4_burns : KM yX4_burns cX4_burns 2 (Option.some Jvm.ClassFile.FieldType.int) 1 := ⟨gw_mem 82 rfl rfl, gw_mem 425 rfl rfl, by decide, by decide, rfl⟩
set_option maxRecDepth 100000 in
theorem ki_X4_burns : KI yX4_burns := ⟨gw_mem 424 rfl rfl, gw_mem 8 rfl rfl⟩
set_option maxRecDepth 100000 in
theorem km_X4_feeNow : KM yX4_feeNow cX4_feeNow 2 (Option.some Jvm.ClassFile.FieldType.int) 0 := ⟨gw_mem 82 rfl rfl, gw_mem 625 rfl rfl, by decide, by decide, rfl⟩
set_option maxRecDepth 100000 in
theorem ki_X4_feeNow : KI yX4_feeNow := ⟨gw_mem 624 rfl rfl, gw_mem 29 rfl rfl⟩
set_option maxRecDepth 100000 in
theorem km_X4_fineOf : KM yX4_fineOf cX4_fineOf 3 (Option.some Jvm.ClassFile.FieldType.int) 1 := ⟨gw_mem 82 rfl rfl, gw_mem 633 rfl rfl, by decide, by decide, rfl⟩
set_option maxRecDepth 100000 in
theorem ki_X4_fineOf : KI yX4_fineOf := ⟨gw_mem 632 rfl rfl, gw_mem 30 rfl rfl⟩
set_option maxRecDepth 100000 in
theorem km_X4_reading : KM yX4_reading cX4_reading 2 (Option.some Jvm.ClassFile.FieldType.int) 1 := ⟨gw_mem 82 rfl rfl, gw_mem 530 rfl rfl, by decide, by decide, rfl⟩
set_option maxRecDepth 100000 in
theorem ki_X4_reading : KI yX4_reading := ⟨gw_mem 529 rfl rfl, gw_mem 18 rfl rfl⟩
set_option maxRecDepth 100000 in
theorem km_X4_coldOnes : KM yX4_coldOnes cX4_coldOnes 3 (Option.some Jvm.ClassFile.FieldType.int) 0 := ⟨gw_mem 82 rfl rfl, gw_mem 534 rfl rfl, by decide, by decide, rfl⟩
set_option maxRecDepth 100000 in
theorem ki_X4_coldOnes : KI yX4_coldOnes := ⟨gw_mem 533 rfl rfl, gw_mem 19 rfl rfl⟩
set_option maxRecDepth 100000 in
theorem km_X4_total : KM yX4_total cX4_total 4 (Option.some Jvm.ClassFile.FieldType.int) 1 := ⟨gw_mem 82 rfl rfl, gw_mem 526 rfl rfl, by decide, by decide, rfl⟩
set_option maxRecDepth 100000 in
theorem ki_X4_total : KI yX4_total := ⟨gw_mem 525 rfl rfl, gw_mem 17 rfl rfl⟩
set_option maxRecDepth 100000 in
theorem km_X4_loudest : KM yX4_loudest cX4_loudest 4 (Option.some Jvm.ClassFile.FieldType.int) 0 := ⟨gw_mem 82 rfl rfl, gw_mem 522 rfl rfl, by decide, by decide, rfl⟩
set_option maxRecDepth 100000 in
theorem ki_X4_loudest : KI yX4_loudest := ⟨gw_mem 521 rfl rfl, gw_mem 16 rfl rfl⟩
set_option maxRecDepth 100000 in
theorem km_X4_those : KM yX4_those cX4_those 4 (Option.some Jvm.ClassFile.FieldType.int) 1 := ⟨gw_mem 82 rfl rfl, gw_mem 564 rfl rfl, by decide, by decide, rfl⟩
set_option maxRecDepth 100000 in
theorem ki_X4_those : KI yX4_those := ⟨gw_mem 563 rfl rfl, gw_mem 21 rfl rfl⟩
set_option maxRecDepth 100000 in
theorem km_X4_mostCoal : KM yX4_mostCoal cX4_mostCoal 5 (Option.some Jvm.ClassFile.FieldType.int) 2 := ⟨gw_mem 82 rfl rfl, gw_mem 581 rfl rfl, by decide, by decide, rfl⟩
set_option maxRecDepth 100000 in
theorem ki_X4_mostCoal : KI yX4_mostCoal := ⟨gw_mem 580 rfl rfl, gw_mem 24 rfl rfl⟩
set_option maxRecDepth 100000 in
theorem km_X4_misfits : KM yX4_misfits cX4_misfits 3 (Option.some Jvm.ClassFile.FieldType.int) 0 := ⟨gw_mem 82 rfl rfl, gw_mem 568 rfl rfl, by decide, by decide, rfl⟩
set_option maxRecDepth 100000 in
theorem ki_X4_misfits : KI yX4_misfits := ⟨gw_mem 567 rfl rfl, gw_mem 22 rfl rfl⟩
set_option maxRecDepth 100000 in
theorem km_X5_init : KM yX5_init cX5_init 4 (Option.none : Option Jvm.ClassFile.FieldType) 3 := ⟨gw_mem 88 rfl rfl, gw_mem 806 rfl rfl, by decide, by decide, rfl⟩
set_option maxRecDepth 100000 in
theorem ki_X5_init : Cond.instanceMethod yX5_init ∈ gw := gw_mem 805 rfl rfl
set_option maxRecDepth 100000 in
theorem km_X5_value : KM yX5_value cX5_value 6 (Option.some Jvm.ClassFile.FieldType.int) 2 := ⟨gw_mem 88 rfl rfl, gw_mem 390 rfl rfl, by decide, by decide, rfl⟩
set_option maxRecDepth 100000 in
theorem ki_X5_value : KI yX5_value := ⟨gw_mem 388 rfl rfl, gw_mem 5 rfl rfl⟩
set_option maxRecDepth 100000 in
theorem km_X5_named : KM yX5_named cX5_named 2 (Option.some Jvm.ClassFile.FieldType.int) 2 := ⟨gw_mem 88 rfl rfl, gw_mem 393 rfl rfl, by decide, by decide, rfl⟩
set_option maxRecDepth 100000 in
theorem ks_X5_named : Cond.static yX5_named ∈ gw := gw_mem 392 rfl rfl
set_option maxRecDepth 100000 in
theorem km_X5_joined : KM yX5_joined cX5_joined 3 (Option.some Jvm.ClassFile.FieldType.int) 3 := ⟨gw_mem 88 rfl rfl, gw_mem 396 rfl rfl, by decide, by decide, rfl⟩
set_option maxRecDepth 100000 in
theorem ks_X5_joined : Cond.static yX5_joined ∈ gw := gw_mem 395 rfl rfl
set_option maxRecDepth 100000 in
theorem km_X6_init : KM yX6_init cX6_init 2 (Option.none : Option Jvm.ClassFile.FieldType) 0 := ⟨gw_mem 79 rfl rfl, gw_mem 100 rfl rfl, by decide, by decide, rfl⟩
set_option maxRecDepth 100000 in
theorem ki_X6_init : Cond.instanceMethod yX6_init ∈ gw := gw_mem 99 rfl rfl
set_option maxRecDepth 100000 in
theorem km_X6_house : KM yX6_house cX6_house 5 (Option.some Jvm.ClassFile.FieldType.int) 4 := ⟨gw_mem 79 rfl rfl, gw_mem 349 rfl rfl, by decide, by decide, rfl⟩
set_option maxRecDepth 100000 in
theorem ki_X6_house : KI yX6_house := ⟨gw_mem 347 rfl rfl, gw_mem 348 rfl rfl⟩
set_option maxRecDepth 100000 in
theorem km_X6_told : KM yX6_told cX6_told 3 (Option.some Jvm.ClassFile.FieldType.int) 2 := ⟨gw_mem 79 rfl rfl, gw_mem 366 rfl rfl, by decide, by decide, rfl⟩
set_option maxRecDepth 100000 in
theorem ki_X6_told : KI yX6_told := ⟨gw_mem 364 rfl rfl, gw_mem 365 rfl rfl⟩
set_option maxRecDepth 100000 in
theorem km_X6_as : KM yX6_as cX6_as 3 (Option.some Jvm.ClassFile.FieldType.int) 2 := ⟨gw_mem 79 rfl rfl, gw_mem 435 rfl rfl, by decide, by decide, rfl⟩
set_option maxRecDepth 100000 in
theorem ki_X6_as : KI yX6_as := ⟨gw_mem 433 rfl rfl, gw_mem 434 rfl rfl⟩
set_option maxRecDepth 100000 in
theorem km_X6_turns : KM yX6_turns cX6_turns 4 (Option.some Jvm.ClassFile.FieldType.int) 2 := ⟨gw_mem 79 rfl rfl, gw_mem 445 rfl rfl, by decide, by decide, rfl⟩
set_option maxRecDepth 100000 in
theorem ki_X6_turns : KI yX6_turns := ⟨gw_mem 443 rfl rfl, gw_mem 444 rfl rfl⟩
set_option maxRecDepth 100000 in
theorem km_X6_set : KM yX6_set cX6_set 4 (Option.some Jvm.ClassFile.FieldType.int) 3 := ⟨gw_mem 79 rfl rfl, gw_mem 449 rfl rfl, by decide, by decide, rfl⟩
set_option maxRecDepth 100000 in
theorem ki_X6_set : KI yX6_set := ⟨gw_mem 447 rfl rfl, gw_mem 448 rfl rfl⟩
set_option maxRecDepth 100000 in
theorem km_X6_rule : KM yX6_rule cX6_rule 3 (Option.some Jvm.ClassFile.FieldType.int) 2 := ⟨gw_mem 79 rfl rfl, gw_mem 456 rfl rfl, by decide, by decide, rfl⟩
set_option maxRecDepth 100000 in
theorem ki_X6_rule : KI yX6_rule := ⟨gw_mem 454 rfl rfl, gw_mem 455 rfl rfl⟩
set_option maxRecDepth 100000 in
theorem km_X6_deal : KM yX6_deal cX6_deal 4 (Option.some Jvm.ClassFile.FieldType.int) 1 := ⟨gw_mem 79 rfl rfl, gw_mem 462 rfl rfl, by decide, by decide, rfl⟩
set_option maxRecDepth 100000 in
theorem ki_X6_deal : KI yX6_deal := ⟨gw_mem 460 rfl rfl, gw_mem 461 rfl rfl⟩
set_option maxRecDepth 100000 in
theorem km_X6_seed : KM yX6_seed cX6_seed 3 (Option.some Jvm.ClassFile.FieldType.int) 1 := ⟨gw_mem 79 rfl rfl, gw_mem 476 rfl rfl, by decide, by decide, rfl⟩
set_option maxRecDepth 100000 in
theorem ki_X6_seed : KI yX6_seed := ⟨gw_mem 474 rfl rfl, gw_mem 475 rfl rfl⟩
set_option maxRecDepth 100000 in
theorem km_X6_round : KM yX6_round cX6_round 1 (Option.some Jvm.ClassFile.FieldType.int) 0 := ⟨gw_mem 79 rfl rfl, gw_mem 480 rfl rfl, by decide, by decide, rfl⟩
set_option maxRecDepth 100000 in
theorem ki_X6_round : KI yX6_round := ⟨gw_mem 478 rfl rfl, gw_mem 479 rfl rfl⟩
set_option maxRecDepth 100000 in
theorem km_X6_load : KM yX6_load cX6_load 2 (Option.some Jvm.ClassFile.FieldType.int) 1 := ⟨gw_mem 79 rfl rfl, gw_mem 490 rfl rfl, by decide, by decide, rfl⟩
set_option maxRecDepth 100000 in
theorem ki_X6_load : KI yX6_load := ⟨gw_mem 488 rfl rfl, gw_mem 489 rfl rfl⟩
set_option maxRecDepth 100000 in
theorem km_X6_nights : KM yX6_nights cX6_nights 3 (Option.some Jvm.ClassFile.FieldType.int) 1 := ⟨gw_mem 79 rfl rfl, gw_mem 498 rfl rfl, by decide, by decide, rfl⟩
set_option maxRecDepth 100000 in
theorem ki_X6_nights : KI yX6_nights := ⟨gw_mem 496 rfl rfl, gw_mem 497 rfl rfl⟩
set_option maxRecDepth 100000 in
theorem km_X6_terrace : KM yX6_terrace cX6_terrace 2 (Option.some Jvm.ClassFile.FieldType.int) 1 := ⟨gw_mem 79 rfl rfl, gw_mem 518 rfl rfl, by decide, by decide, rfl⟩
set_option maxRecDepth 100000 in
theorem ki_X6_terrace : KI yX6_terrace := ⟨gw_mem 516 rfl rfl, gw_mem 517 rfl rfl⟩
set_option maxRecDepth 100000 in
theorem km_X6_behind : KM yX6_behind cX6_behind 3 (Option.some Jvm.ClassFile.FieldType.int) 2 := ⟨gw_mem 79 rfl rfl, gw_mem 540 rfl rfl, by decide, by decide, rfl⟩
set_option maxRecDepth 100000 in
theorem ki_X6_behind : KI yX6_behind := ⟨gw_mem 538 rfl rfl, gw_mem 539 rfl rfl⟩
set_option maxRecDepth 100000 in
theorem km_X6_cold : KM yX6_cold cX6_cold 3 (Option.some Jvm.ClassFile.FieldType.int) 1 := ⟨gw_mem 79 rfl rfl, gw_mem 551 rfl rfl, by decide, by decide, rfl⟩
set_option maxRecDepth 100000 in
theorem ki_X6_cold : KI yX6_cold := ⟨gw_mem 549 rfl rfl, gw_mem 550 rfl rfl⟩
set_option maxRecDepth 100000 in
theorem km_X6_shut : KM yX6_shut cX6_shut 3 (Option.some Jvm.ClassFile.FieldType.int) 1 := ⟨gw_mem 79 rfl rfl, gw_mem 556 rfl rfl, by decide, by decide, rfl⟩
set_option maxRecDepth 100000 in
theorem ki_X6_shut : KI yX6_shut := ⟨gw_mem 554 rfl rfl, gw_mem 555 rfl rfl⟩
set_option maxRecDepth 100000 in
theorem km_X6_cement : KM yX6_cement cX6_cement 10 (Option.some Jvm.ClassFile.FieldType.int) 1 := ⟨gw_mem 79 rfl rfl, gw_mem 560 rfl rfl, by decide, by decide, rfl⟩
set_option maxRecDepth 100000 in
theorem ki_X6_cement : KI yX6_cement := ⟨gw_mem 558 rfl rfl, gw_mem 559 rfl rfl⟩
set_option maxRecDepth 100000 in
theorem km_X6_cast : KM yX6_cast cX6_cast 8 (Option.some Jvm.ClassFile.FieldType.int) 3 := ⟨gw_mem 79 rfl rfl, gw_mem 577 rfl rfl, by decide, by decide, rfl⟩
set_option maxRecDepth 100000 in
theorem ki_X6_cast : KI yX6_cast := ⟨gw_mem 575 rfl rfl, gw_mem 576 rfl rfl⟩
set_option maxRecDepth 100000 in
theorem km_X6_becomes : KM yX6_becomes cX6_becomes 7 (Option.some Jvm.ClassFile.FieldType.int) 3 := ⟨gw_mem 79 rfl rfl, gw_mem 585 rfl rfl, by decide, by decide, rfl⟩
set_option maxRecDepth 100000 in
theorem ki_X6_becomes : KI yX6_becomes := ⟨gw_mem 583 rfl rfl, gw_mem 584 rfl rfl⟩
set_option maxRecDepth 100000 in
theorem km_X6_ears : KM yX6_ears cX6_ears 5 (Option.some Jvm.ClassFile.FieldType.int) 2 := ⟨gw_mem 79 rfl rfl, gw_mem 590 rfl rfl, by decide, by decide, rfl⟩
set_option maxRecDepth 100000 in
theorem ki_X6_ears : KI yX6_ears := ⟨gw_mem 588 rfl rfl, gw_mem 589 rfl rfl⟩
set_option maxRecDepth 100000 in
theorem km_X6_like : KM yX6_like cX6_like 6 (Option.some Jvm.ClassFile.FieldType.int) 2 := ⟨gw_mem 79 rfl rfl, gw_mem 595 rfl rfl, by decide, by decide, rfl⟩
set_option maxRecDepth 100000 in
theorem ki_X6_like : KI yX6_like := ⟨gw_mem 593 rfl rfl, gw_mem 594 rfl rfl⟩
set_option maxRecDepth 100000 in
theorem km_X6_fee : KM yX6_fee cX6_fee 1 (Option.some Jvm.ClassFile.FieldType.int) 0 := ⟨gw_mem 79 rfl rfl, gw_mem 621 rfl rfl, by decide, by decide, rfl⟩
set_option maxRecDepth 100000 in
theorem ki_X6_fee : KI yX6_fee := ⟨gw_mem 619 rfl rfl, gw_mem 620 rfl rfl⟩
set_option maxRecDepth 100000 in
theorem km_X6_fine : KM yX6_fine cX6_fine 2 (Option.some Jvm.ClassFile.FieldType.int) 1 := ⟨gw_mem 79 rfl rfl, gw_mem 629 rfl rfl, by decide, by decide, rfl⟩
set_option maxRecDepth 100000 in
theorem ki_X6_fine : KI yX6_fine := ⟨gw_mem 627 rfl rfl, gw_mem 628 rfl rfl⟩
set_option maxRecDepth 100000 in
theorem km_X6_feed : KM yX6_feed cX6_feed 4 (Option.some Jvm.ClassFile.FieldType.int) 3 := ⟨gw_mem 79 rfl rfl, gw_mem 637 rfl rfl, by decide, by decide, rfl⟩
set_option maxRecDepth 100000 in
theorem ki_X6_feed : KI yX6_feed := ⟨gw_mem 635 rfl rfl, gw_mem 636 rfl rfl⟩
set_option maxRecDepth 100000 in
theorem km_X6_trim : KM yX6_trim cX6_trim 2 (Option.some Jvm.ClassFile.FieldType.int) 1 := ⟨gw_mem 79 rfl rfl, gw_mem 645 rfl rfl, by decide, by decide, rfl⟩
set_option maxRecDepth 100000 in
theorem ki_X6_trim : KI yX6_trim := ⟨gw_mem 643 rfl rfl, gw_mem 644 rfl rfl⟩
set_option maxRecDepth 100000 in
theorem km_X6_text : KM yX6_text cX6_text 3 (Option.some Jvm.ClassFile.FieldType.int) 0 := ⟨gw_mem 79 rfl rfl, gw_mem 649 rfl rfl, by decide, by decide, rfl⟩
set_option maxRecDepth 100000 in
theorem ki_X6_text : KI yX6_text := ⟨gw_mem 647 rfl rfl, gw_mem 648 rfl rfl⟩
set_option maxRecDepth 100000 in
theorem km_X6_textTold : KM yX6_textTold cX6_textTold 4 (Option.some Jvm.ClassFile.FieldType.int) 2 := ⟨gw_mem 79 rfl rfl, gw_mem 823 rfl rfl, by decide, by decide, rfl⟩
set_option maxRecDepth 100000 in
theorem ki_X6_textTold : KI yX6_textTold := ⟨gw_mem 821 rfl rfl, gw_mem 822 rfl rfl⟩
set_option maxRecDepth 100000 in
theorem km_X6_why : KM yX6_why cX6_why 2 (Option.some Jvm.ClassFile.FieldType.int) 1 := ⟨gw_mem 79 rfl rfl, gw_mem 828 rfl rfl, by decide, by decide, rfl⟩
set_option maxRecDepth 100000 in
theorem ki_X6_why : KI yX6_why := ⟨gw_mem 826 rfl rfl, gw_mem 827 rfl rfl⟩
set_option maxRecDepth 100000 in
theorem km_X6_sheet : KM yX6_sheet cX6_sheet 6 (Option.some Jvm.ClassFile.FieldType.int) 3 := ⟨gw_mem 79 rfl rfl, gw_mem 832 rfl rfl, by decide, by decide, rfl⟩
set_option maxRecDepth 100000 in
theorem ki_X6_sheet : KI yX6_sheet := ⟨gw_mem 830 rfl rfl, gw_mem 831 rfl rfl⟩
set_option maxRecDepth 100000 in
theorem km_X6_mark : KM yX6_mark cX6_mark 5 (Option.some Jvm.ClassFile.FieldType.int) 3 := ⟨gw_mem 79 rfl rfl, gw_mem 842 rfl rfl, by decide, by decide, rfl⟩
set_option maxRecDepth 100000 in
theorem ki_X6_mark : KI yX6_mark := ⟨gw_mem 840 rfl rfl, gw_mem 841 rfl rfl⟩
set_option maxRecDepth 100000 in
theorem km_X6_pour : KM yX6_pour cX6_pour 6 (Option.some Jvm.ClassFile.FieldType.int) 1 := ⟨gw_mem 79 rfl rfl, gw_mem 849 rfl rfl, by decide, by decide, rfl⟩
set_option maxRecDepth 100000 in
theorem ki_X6_pour : KI yX6_pour := ⟨gw_mem 847 rfl rfl, gw_mem 848 rfl rfl⟩
set_option maxRecDepth 100000 in
theorem km_X6_reads : KM yX6_reads cX6_reads 4 (Option.some Jvm.ClassFile.FieldType.int) 1 := ⟨gw_mem 79 rfl rfl, gw_mem 854 rfl rfl, by decide, by decide, rfl⟩
set_option maxRecDepth 100000 in
theorem ki_X6_reads : KI yX6_reads := ⟨gw_mem 852 rfl rfl, gw_mem 853 rfl rfl⟩
set_option maxRecDepth 100000 in
theorem km_X6_copy : KM yX6_copy cX6_copy 8 (Option.some Jvm.ClassFile.FieldType.int) 5 := ⟨gw_mem 79 rfl rfl, gw_mem 858 rfl rfl, by decide, by decide, rfl⟩
set_option maxRecDepth 100000 in
theorem ki_X6_copy : KI yX6_copy := ⟨gw_mem 856 rfl rfl, gw_mem 857 rfl rfl⟩
set_option maxRecDepth 100000 in
theorem km_X6_lay : KM yX6_lay cX6_lay 7 (Option.some Jvm.ClassFile.FieldType.int) 3 := ⟨gw_mem 79 rfl rfl, gw_mem 867 rfl rfl, by decide, by decide, rfl⟩
set_option maxRecDepth 100000 in
theorem ki_X6_lay : KI yX6_lay := ⟨gw_mem 865 rfl rfl, gw_mem 866 rfl rfl⟩
set_option maxRecDepth 100000 in
theorem km_X6_ask : KM yX6_ask cX6_ask 4 (Option.some Jvm.ClassFile.FieldType.int) 2 := ⟨gw_mem 79 rfl rfl, gw_mem 885 rfl rfl, by decide, by decide, rfl⟩
set_option maxRecDepth 100000 in
theorem ki_X6_ask : KI yX6_ask := ⟨gw_mem 883 rfl rfl, gw_mem 884 rfl rfl⟩
set_option maxRecDepth 100000 in
theorem km_X6_item : KM yX6_item cX6_item 4 (Option.some Jvm.ClassFile.FieldType.int) 2 := ⟨gw_mem 79 rfl rfl, gw_mem 889 rfl rfl, by decide, by decide, rfl⟩
set_option maxRecDepth 100000 in
theorem ki_X6_item : KI yX6_item := ⟨gw_mem 887 rfl rfl, gw_mem 888 rfl rfl⟩
set_option maxRecDepth 100000 in
theorem km_X6_rest : KM yX6_rest cX6_rest 4 (Option.some Jvm.ClassFile.FieldType.int) 2 := ⟨gw_mem 79 rfl rfl, gw_mem 893 rfl rfl, by decide, by decide, rfl⟩
set_option maxRecDepth 100000 in
theorem ki_X6_rest : KI yX6_rest := ⟨gw_mem 891 rfl rfl, gw_mem 892 rfl rfl⟩
set_option maxRecDepth 100000 in
theorem km_X6_tell : KM yX6_tell cX6_tell 2 (Option.some Jvm.ClassFile.FieldType.int) 1 := ⟨gw_mem 79 rfl rfl, gw_mem 898 rfl rfl, by decide, by decide, rfl⟩
set_option maxRecDepth 100000 in
theorem ki_X6_tell : KI yX6_tell := ⟨gw_mem 896 rfl rfl, gw_mem 897 rfl rfl⟩
set_option maxRecDepth 100000 in
theorem km_X6_check : KM yX6_check cX6_check 6 (Option.some Jvm.ClassFile.FieldType.int) 1 := ⟨gw_mem 79 rfl rfl, gw_mem 902 rfl rfl, by decide, by decide, rfl⟩
set_option maxRecDepth 100000 in
theorem ki_X6_check : KI yX6_check := ⟨gw_mem 900 rfl rfl, gw_mem 901 rfl rfl⟩
set_option maxRecDepth 100000 in
theorem km_X6_keep : KM yX6_keep cX6_keep 1 (Option.some Jvm.ClassFile.FieldType.int) 0 := ⟨gw_mem 79 rfl rfl, gw_mem 906 rfl rfl, by decide, by decide, rfl⟩
set_option maxRecDepth 100000 in
theorem ki_X6_keep : KI yX6_keep := ⟨gw_mem 904 rfl rfl, gw_mem 905 rfl rfl⟩
set_option maxRecDepth 100000 in
theorem km_X6_back : KM yX6_back cX6_back 1 (Option.some Jvm.ClassFile.FieldType.int) 0 := ⟨gw_mem 79 rfl rfl, gw_mem 910 rfl rfl, by decide, by decide, rfl⟩
set_option maxRecDepth 100000 in
theorem ki_X6_back : KI yX6_back := ⟨gw_mem 908 rfl rfl, gw_mem 909 rfl rfl⟩
set_option maxRecDepth 100000 in
theorem km_X6_count : KM yX6_count cX6_count 2 (Option.some Jvm.ClassFile.FieldType.int) 1 := ⟨gw_mem 79 rfl rfl, gw_mem 914 rfl rfl, by decide, by decide, rfl⟩
set_option maxRecDepth 100000 in
theorem ki_X6_count : KI yX6_count := ⟨gw_mem 912 rfl rfl, gw_mem 913 rfl rfl⟩
set_option maxRecDepth 100000 in
theorem km_X6_loudWith : KM yX6_loudWith cX6_loudWith 5 (Option.some Jvm.ClassFile.FieldType.int) 3 := ⟨gw_mem 79 rfl rfl, gw_mem 572 rfl rfl, by decide, by decide, rfl⟩
set_option maxRecDepth 100000 in
theorem ki_X6_loudWith : KI yX6_loudWith := ⟨gw_mem 571 rfl rfl, gw_mem 23 rfl rfl⟩
set_option maxRecDepth 100000 in
theorem km_X6_compare : KM yX6_compare cX6_compare 4 (Option.none : Option Jvm.ClassFile.FieldType) 1 := ⟨gw_mem 79 rfl rfl, gw_mem 604 rfl rfl, by decide, by decide, rfl⟩
set_option maxRecDepth 100000 in
theorem ki_X6_compare : KI yX6_compare := ⟨gw_mem 603 rfl rfl, gw_mem 26 rfl rfl⟩
set_option maxRecDepth 100000 in
theorem km_X6_feedOne : KM yX6_feedOne cX6_feedOne 3 (Option.none : Option Jvm.ClassFile.FieldType) 1 := ⟨gw_mem 79 rfl rfl, gw_mem 641 rfl rfl, by decide, by decide, rfl⟩
set_option maxRecDepth 100000 in
theorem ki_X6_feedOne : KI yX6_feedOne := ⟨gw_mem 640 rfl rfl, gw_mem 31 rfl rfl⟩
set_option maxRecDepth 100000 in
theorem km_X6_sheetAt : KM yX6_sheetAt cX6_sheetAt 2 (Option.some (Jvm.ClassFile.FieldType.object "CoalHoles$Sheet")) 1 := ⟨gw_mem 79 rfl rfl, gw_mem 599 rfl rfl, by decide, by decide, rfl⟩
set_option maxRecDepth 100000 in
theorem ki_X6_sheetAt : KI yX6_sheetAt := ⟨gw_mem 598 rfl rfl, gw_mem 25 rfl rfl⟩
set_option maxRecDepth 100000 in
theorem km_X6_slotAt : KM yX6_slotAt cX6_slotAt 2 (Option.some (Jvm.ClassFile.FieldType.object "CoalHoles$Slot")) 1 := ⟨gw_mem 79 rfl rfl, gw_mem 871 rfl rfl, by decide, by decide, rfl⟩
set_option maxRecDepth 100000 in
theorem ki_X6_slotAt : KI yX6_slotAt := ⟨gw_mem 870 rfl rfl, gw_mem 44 rfl rfl⟩
set_option maxRecDepth 100000 in
theorem km_X6_isKind : KM yX6_isKind cX6_isKind 1 (Option.some Jvm.ClassFile.FieldType.boolean) 1 := ⟨gw_mem 79 rfl rfl, gw_mem 352 rfl rfl, by decide, by decide, rfl⟩
set_option maxRecDepth 100000 in
theorem ks_X6_isKind : Cond.static yX6_isKind ∈ gw := gw_mem 351 rfl rfl
set_option maxRecDepth 100000 in
theorem km_X6_isWithin : KM yX6_isWithin cX6_isWithin 2 (Option.some Jvm.ClassFile.FieldType.boolean) 2 := ⟨gw_mem 79 rfl rfl, gw_mem 355 rfl rfl, by decide, by decide, rfl⟩
set_option maxRecDepth 100000 in
theorem ks_X6_isWithin : Cond.static yX6_isWithin ∈ gw := gw_mem 354 rfl rfl
set_option maxRecDepth 100000 in
theorem km_X6_heldWithin : KM yX6_heldWithin cX6_heldWithin 1 (Option.some Jvm.ClassFile.FieldType.int) 1 := ⟨gw_mem 79 rfl rfl, gw_mem 399 rfl rfl, by decide, by decide, rfl⟩
set_option maxRecDepth 100000 in
theorem ks_X6_heldWithin : Cond.static yX6_heldWithin ∈ gw := gw_mem 398 rfl rfl
set_option maxRecDepth 100000 in
theorem km_X6_replaced : KM yX6_replaced cX6_replaced 4 (Option.some Jvm.ClassFile.FieldType.int) 3 := ⟨gw_mem 79 rfl rfl, gw_mem 452 rfl rfl, by decide, by decide, rfl⟩
set_option maxRecDepth 100000 in
theorem ks_X6_replaced : Cond.static yX6_replaced ∈ gw := gw_mem 451 rfl rfl
set_option maxRecDepth 100000 in
theorem km_X6_isOf : KM yX6_isOf cX6_isOf 4 (Option.some Jvm.ClassFile.FieldType.boolean) 2 := ⟨gw_mem 79 rfl rfl, gw_mem 438 rfl rfl, by decide, by decide, rfl⟩
set_option maxRecDepth 100000 in
theorem ks_X6_isOf : Cond.static yX6_isOf ∈ gw := gw_mem 437 rfl rfl
set_option maxRecDepth 100000 in
theorem km_X6_worth : KM yX6_worth cX6_worth 4 (Option.some Jvm.ClassFile.FieldType.int) 4 := ⟨gw_mem 79 rfl rfl, gw_mem 431 rfl rfl, by decide, by decide, rfl⟩
set_option maxRecDepth 100000 in
theorem ks_X6_worth : Cond.static yX6_worth ∈ gw := gw_mem 430 rfl rfl
set_option maxRecDepth 100000 in
theorem km_X7_init : KM yX7_init cX7_init 1 (Option.none : Option Jvm.ClassFile.FieldType) 0 := ⟨gw_mem 86 rfl rfl, gw_mem 919 rfl rfl, by decide, by decide, rfl⟩
set_option maxRecDepth 100000 in
theorem ki_X7_init : Cond.instanceMethod yX7_init ∈ gw := gw_mem 918 rfl rfl
set_option maxRecDepth 100000 in
theorem km_X7_in : KM yX7_in cX7_in 6 (Option.some Jvm.ClassFile.FieldType.boolean) 3 := ⟨gw_mem 86 rfl rfl, gw_mem 1047 rfl rfl, by decide, by decide, rfl⟩
set_option maxRecDepth 100000 in
theorem ks_X7_in : Cond.static yX7_in ∈ gw := gw_mem 1046 rfl rfl
set_option maxRecDepth 100000 in
theorem km_X7_held : KM yX7_held cX7_held 3 (Option.some Jvm.ClassFile.FieldType.int) 3 := ⟨gw_mem 86 rfl rfl, gw_mem 1092 rfl rfl, by decide, by decide, rfl⟩
set_option maxRecDepth 100000 in
theorem ks_X7_held : Cond.static yX7_held ∈ gw := gw_mem 1091 rfl rfl
set_option maxRecDepth 100000 in
theorem km_X7_size : KM yX7_size cX7_size 1 (Option.some Jvm.ClassFile.FieldType.int) 1 := ⟨gw_mem 86 rfl rfl, gw_mem 1082 rfl rfl, by decide, by decide, rfl⟩
set_option maxRecDepth 100000 in
theorem ks_X7_size : Cond.static yX7_size ∈ gw := gw_mem 1081 rfl rfl
set_option maxRecDepth 100000 in
theorem km_X7_copies : KM yX7_copies cX7_copies 3 (Option.none : Option Jvm.ClassFile.FieldType) 2 := ⟨gw_mem 86 rfl rfl, gw_mem 1205 rfl rfl, by decide, by decide, rfl⟩
set_option maxRecDepth 100000 in
theorem ks_X7_copies : Cond.static yX7_copies ∈ gw := gw_mem 1204 rfl rfl
set_option maxRecDepth 100000 in
theorem km_X7_isHouse : KM yX7_isHouse cX7_isHouse 2 (Option.some Jvm.ClassFile.FieldType.boolean) 1 := ⟨gw_mem 86 rfl rfl, gw_mem 1062 rfl rfl, by decide, by decide, rfl⟩
set_option maxRecDepth 100000 in
theorem ki_X7_isHouse : KI yX7_isHouse := ⟨gw_mem 1061 rfl rfl, gw_mem 48 rfl rfl⟩
set_option maxRecDepth 100000 in
theorem km_X7_of : KM yX7_of cX7_of 3 (Option.some Jvm.ClassFile.FieldType.int) 2 := ⟨gw_mem 86 rfl rfl, gw_mem 1079 rfl rfl, by decide, by decide, rfl⟩
set_option maxRecDepth 100000 in
theorem ki_X7_of : KI yX7_of := ⟨gw_mem 1078 rfl rfl, gw_mem 52 rfl rfl⟩
set_option maxRecDepth 100000 in
theorem km_X7_sets : KM yX7_sets cX7_sets 4 (Option.none : Option Jvm.ClassFile.FieldType) 3 := ⟨gw_mem 86 rfl rfl, gw_mem 1054 rfl rfl, by decide, by decide, rfl⟩
set_option maxRecDepth 100000 in
theorem ki_X7_sets : KI yX7_sets := ⟨gw_mem 1053 rfl rfl, gw_mem 47 rfl rfl⟩
set_option maxRecDepth 100000 in
theorem km_X7_becomesAt : KM yX7_becomesAt cX7_becomesAt 4 (Option.some Jvm.ClassFile.FieldType.int) 2 := ⟨gw_mem 86 rfl rfl, gw_mem 1125 rfl rfl, by decide, by decide, rfl⟩
set_option maxRecDepth 100000 in
theorem ki_X7_becomesAt : KI yX7_becomesAt := ⟨gw_mem 1124 rfl rfl, gw_mem 56 rfl rfl⟩
set_option maxRecDepth 100000 in
theorem km_X7_ones : KM yX7_ones cX7_ones 3 (Option.some Jvm.ClassFile.FieldType.int) 1 := ⟨gw_mem 86 rfl rfl, gw_mem 1095 rfl rfl, by decide, by decide, rfl⟩
set_option maxRecDepth 100000 in
theorem ks_X7_ones : Cond.static yX7_ones ∈ gw := gw_mem 1094 rfl rfl
set_option maxRecDepth 100000 in
theorem km_X7_above : KM yX7_above cX7_above 1 (Option.some Jvm.ClassFile.FieldType.int) 1 := ⟨gw_mem 86 rfl rfl, gw_mem 1116 rfl rfl, by decide, by decide, rfl⟩
set_option maxRecDepth 100000 in
theorem ks_X7_above : Cond.static yX7_above ∈ gw := gw_mem 1115 rfl rfl
set_option maxRecDepth 100000 in
theorem km_X7_isUnder : KM yX7_isUnder cX7_isUnder 2 (Option.some Jvm.ClassFile.FieldType.boolean) 2 := ⟨gw_mem 86 rfl rfl, gw_mem 1113 rfl rfl, by decide, by decide, rfl⟩
set_option maxRecDepth 100000 in
theorem ks_X7_isUnder : Cond.static yX7_isUnder ∈ gw := gw_mem 1112 rfl rfl
set_option maxRecDepth 100000 in
theorem km_X7_counts : KM yX7_counts cX7_counts 3 (Option.some Jvm.ClassFile.FieldType.int) 1 := ⟨gw_mem 86 rfl rfl, gw_mem 1075 rfl rfl, by decide, by decide, rfl⟩
set_option maxRecDepth 100000 in
theorem ki_X7_counts : KI yX7_counts := ⟨gw_mem 1074 rfl rfl, gw_mem 51 rfl rfl⟩
set_option maxRecDepth 100000 in
theorem km_X7_done : KM yX7_done cX7_done 3 (Option.some Jvm.ClassFile.FieldType.int) 3 := ⟨gw_mem 86 rfl rfl, gw_mem 1089 rfl rfl, by decide, by decide, rfl⟩
set_option maxRecDepth 100000 in
theorem ks_X7_done : Cond.static yX7_done ∈ gw := gw_mem 1088 rfl rfl
set_option maxRecDepth 100000 in
theorem km_X7_gives : KM yX7_gives cX7_gives 9 (Option.some Jvm.ClassFile.FieldType.int) 5 := ⟨gw_mem 86 rfl rfl, gw_mem 1086 rfl rfl, by decide, by decide, rfl⟩
set_option maxRecDepth 100000 in
theorem ki_X7_gives : KI yX7_gives := ⟨gw_mem 1085 rfl rfl, gw_mem 53 rfl rfl⟩
set_option maxRecDepth 100000 in
theorem km_X7_plain : KM yX7_plain cX7_plain 3 (Option.some Jvm.ClassFile.FieldType.int) 1 := ⟨gw_mem 86 rfl rfl, gw_mem 1071 rfl rfl, by decide, by decide, rfl⟩
set_option maxRecDepth 100000 in
theorem ki_X7_plain : KI yX7_plain := ⟨gw_mem 1070 rfl rfl, gw_mem 50 rfl rfl⟩
set_option maxRecDepth 100000 in
theorem km_X7_slack : KM yX7_slack cX7_slack 4 (Option.some Jvm.ClassFile.FieldType.int) 1 := ⟨gw_mem 86 rfl rfl, gw_mem 1067 rfl rfl, by decide, by decide, rfl⟩
set_option maxRecDepth 100000 in
theorem ki_X7_slack : KI yX7_slack := ⟨gw_mem 1066 rfl rfl, gw_mem 49 rfl rfl⟩
set_option maxRecDepth 100000 in
theorem km_X7_bends : KM yX7_bends cX7_bends 3 (Option.some Jvm.ClassFile.FieldType.int) 1 := ⟨gw_mem 86 rfl rfl, gw_mem 1099 rfl rfl, by decide, by decide, rfl⟩
set_option maxRecDepth 100000 in
theorem ki_X7_bends : KI yX7_bends := ⟨gw_mem 1098 rfl rfl, gw_mem 54 rfl rfl⟩
set_option maxRecDepth 100000 in
theorem km_X7_burns : KM yX7_burns cX7_burns 2 (Option.some Jvm.ClassFile.FieldType.int) 1 := ⟨gw_mem 86 rfl rfl, gw_mem 1103 rfl rfl, by decide, by decide, rfl⟩
set_option maxRecDepth 100000 in
theorem ki_X7_burns : KI yX7_burns := ⟨gw_mem 1102 rfl rfl, gw_mem 55 rfl rfl⟩
set_option maxRecDepth 100000 in
theorem km_X7_worthOf : KM yX7_worthOf cX7_worthOf 4 (Option.some Jvm.ClassFile.FieldType.int) 4 := ⟨gw_mem 86 rfl rfl, gw_mem 1106 rfl rfl, by decide, by decide, rfl⟩
set_option maxRecDepth 100000 in
theorem ks_X7_worthOf : Cond.static yX7_worthOf ∈ gw := gw_mem 1105 rfl rfl
set_option maxRecDepth 100000 in
theorem km_X7_draw : KM yX7_draw cX7_draw 1 (Option.some Jvm.ClassFile.FieldType.int) 0 := ⟨gw_mem 86 rfl rfl, gw_mem 1146 rfl rfl, by decide, by decide, rfl⟩
set_option maxRecDepth 100000 in
theorem ki_X7_draw : KI yX7_draw := ⟨gw_mem 1145 rfl rfl, gw_mem 57 rfl rfl⟩
set_option maxRecDepth 100000 in
theorem km_X7_roundGoes : KM yX7_roundGoes cX7_roundGoes 3 (Option.none : Option Jvm.ClassFile.FieldType) 0 := ⟨gw_mem 86 rfl rfl, gw_mem 1160 rfl rfl, by decide, by decide, rfl⟩
set_option maxRecDepth 100000 in
theorem ki_X7_roundGoes : KI yX7_roundGoes := ⟨gw_mem 1159 rfl rfl, gw_mem 58 rfl rfl⟩
set_option maxRecDepth 100000 in
theorem km_X7_delivers : KM yX7_delivers cX7_delivers 2 (Option.none : Option Jvm.ClassFile.FieldType) 1 := ⟨gw_mem 86 rfl rfl, gw_mem 1169 rfl rfl, by decide, by decide, rfl⟩
set_option maxRecDepth 100000 in
theorem ki_X7_delivers : KI yX7_delivers := ⟨gw_mem 1168 rfl rfl, gw_mem 59 rfl rfl⟩
set_option maxRecDepth 100000 in
theorem km_X7_nightGoes : KM yX7_nightGoes cX7_nightGoes 3 (Option.none : Option Jvm.ClassFile.FieldType) 0 := ⟨gw_mem 86 rfl rfl, gw_mem 1181 rfl rfl, by decide, by decide, rfl⟩
set_option maxRecDepth 100000 in
theorem ki_X7_nightGoes : KI yX7_nightGoes := ⟨gw_mem 1180 rfl rfl, gw_mem 61 rfl rfl⟩
set_option maxRecDepth 100000 in
theorem km_X7_nightsGo : KM yX7_nightsGo cX7_nightsGo 3 (Option.none : Option Jvm.ClassFile.FieldType) 1 := ⟨gw_mem 86 rfl rfl, gw_mem 1177 rfl rfl, by decide, by decide, rfl⟩
set_option maxRecDepth 100000 in
theorem ki_X7_nightsGo : KI yX7_nightsGo := ⟨gw_mem 1176 rfl rfl, gw_mem 60 rfl rfl⟩
set_option maxRecDepth 100000 in
theorem km_X7_sumOf : KM yX7_sumOf cX7_sumOf 4 (Option.some Jvm.ClassFile.FieldType.int) 1 := ⟨gw_mem 86 rfl rfl, gw_mem 1193 rfl rfl, by decide, by decide, rfl⟩
set_option maxRecDepth 100000 in
theorem ki_X7_sumOf : KI yX7_sumOf := ⟨gw_mem 1192 rfl rfl, gw_mem 63 rfl rfl⟩
set_option maxRecDepth 100000 in
theorem km_X7_coldOnes : KM yX7_coldOnes cX7_coldOnes 3 (Option.some Jvm.ClassFile.FieldType.int) 0 := ⟨gw_mem 86 rfl rfl, gw_mem 1189 rfl rfl, by decide, by decide, rfl⟩
set_option maxRecDepth 100000 in
theorem ki_X7_coldOnes : KI yX7_coldOnes := ⟨gw_mem 1188 rfl rfl, gw_mem 62 rfl rfl⟩
set_option maxRecDepth 100000 in
theorem km_X7_loudest : KM yX7_loudest cX7_loudest 3 (Option.some Jvm.ClassFile.FieldType.int) 0 := ⟨gw_mem 86 rfl rfl, gw_mem 1197 rfl rfl, by decide, by decide, rfl⟩
set_option maxRecDepth 100000 in
theorem ki_X7_loudest : KI yX7_loudest := ⟨gw_mem 1196 rfl rfl, gw_mem 64 rfl rfl⟩
set_option maxRecDepth 100000 in
theorem km_X7_house : KM yX7_house cX7_house 6 (Option.some Jvm.ClassFile.FieldType.int) 4 := ⟨gw_mem 86 rfl rfl, gw_mem 1043 rfl rfl, by decide, by decide, rfl⟩
set_option maxRecDepth 100000 in
theorem ki_X7_house : KI yX7_house := ⟨gw_mem 1041 rfl rfl, gw_mem 1042 rfl rfl⟩
set_option maxRecDepth 100000 in
theorem km_X7_told : KM yX7_told cX7_told 3 (Option.some Jvm.ClassFile.FieldType.int) 2 := ⟨gw_mem 86 rfl rfl, gw_mem 1058 rfl rfl, by decide, by decide, rfl⟩
set_option maxRecDepth 100000 in
theorem ki_X7_told : KI yX7_told := ⟨gw_mem 1056 rfl rfl, gw_mem 1057 rfl rfl⟩
set_option maxRecDepth 100000 in
theorem km_X7_as : KM yX7_as cX7_as 3 (Option.some Jvm.ClassFile.FieldType.int) 2 := ⟨gw_mem 86 rfl rfl, gw_mem 1110 rfl rfl, by decide, by decide, rfl⟩
set_option maxRecDepth 100000 in
theorem ki_X7_as : KI yX7_as := ⟨gw_mem 1108 rfl rfl, gw_mem 1109 rfl rfl⟩
set_option maxRecDepth 100000 in
theorem km_X7_turns : KM yX7_turns cX7_turns 3 (Option.some Jvm.ClassFile.FieldType.int) 2 := ⟨gw_mem 86 rfl rfl, gw_mem 1121 rfl rfl, by decide, by decide, rfl⟩
set_option maxRecDepth 100000 in
theorem ki_X7_turns : KI yX7_turns := ⟨gw_mem 1119 rfl rfl, gw_mem 1120 rfl rfl⟩
set_option maxRecDepth 100000 in
theorem km_X7_set : KM yX7_set cX7_set 4 (Option.some Jvm.ClassFile.FieldType.int) 3 := ⟨gw_mem 86 rfl rfl, gw_mem 1129 rfl rfl, by decide, by decide, rfl⟩
set_option maxRecDepth 100000 in
theorem ki_X7_set : KI yX7_set := ⟨gw_mem 1127 rfl rfl, gw_mem 1128 rfl rfl⟩
set_option maxRecDepth 100000 in
theorem km_X7_rule : KM yX7_rule cX7_rule 3 (Option.some Jvm.ClassFile.FieldType.int) 2 := ⟨gw_mem 86 rfl rfl, gw_mem 1135 rfl rfl, by decide, by decide, rfl⟩
set_option maxRecDepth 100000 in
theorem ki_X7_rule : KI yX7_rule := ⟨gw_mem 1133 rfl rfl, gw_mem 1134 rfl rfl⟩
set_option maxRecDepth 100000 in
theorem km_X7_deal : KM yX7_deal cX7_deal 7 (Option.some Jvm.ClassFile.FieldType.int) 1 := ⟨gw_mem 86 rfl rfl, gw_mem 1141 rfl rfl, by decide, by decide, rfl⟩
set_option maxRecDepth 100000 in
theorem ki_X7_deal : KI yX7_deal := ⟨gw_mem 1139 rfl rfl, gw_mem 1140 rfl rfl⟩
set_option maxRecDepth 100000 in
theorem km_X7_seed : KM yX7_seed cX7_seed 2 (Option.some Jvm.ClassFile.FieldType.int) 1 := ⟨gw_mem 86 rfl rfl, gw_mem 1152 rfl rfl, by decide, by decide, rfl⟩
set_option maxRecDepth 100000 in
theorem ki_X7_seed : KI yX7_seed := ⟨gw_mem 1150 rfl rfl, gw_mem 1151 rfl rfl⟩
set_option maxRecDepth 100000 in
theorem km_X7_round : KM yX7_round cX7_round 1 (Option.some Jvm.ClassFile.FieldType.int) 0 := ⟨gw_mem 86 rfl rfl, gw_mem 1156 rfl rfl, by decide, by decide, rfl⟩
set_option maxRecDepth 100000 in
theorem ki_X7_round : KI yX7_round := ⟨gw_mem 1154 rfl rfl, gw_mem 1155 rfl rfl⟩
set_option maxRecDepth 100000 in
theorem km_X7_load : KM yX7_load cX7_load 3 (Option.some Jvm.ClassFile.FieldType.int) 1 := ⟨gw_mem 86 rfl rfl, gw_mem 1165 rfl rfl, by decide, by decide, rfl⟩
set_option maxRecDepth 100000 in
theorem ki_X7_load : KI yX7_load := ⟨gw_mem 1163 rfl rfl, gw_mem 1164 rfl rfl⟩
set_option maxRecDepth 100000 in
theorem km_X7_nights : KM yX7_nights cX7_nights 3 (Option.some Jvm.ClassFile.FieldType.int) 1 := ⟨gw_mem 86 rfl rfl, gw_mem 1173 rfl rfl, by decide, by decide, rfl⟩
set_option maxRecDepth 100000 in
theorem ki_X7_nights : KI yX7_nights := ⟨gw_mem 1171 rfl rfl, gw_mem 1172 rfl rfl⟩
set_option maxRecDepth 100000 in
theorem km_X7_terrace : KM yX7_terrace cX7_terrace 2 (Option.some Jvm.ClassFile.FieldType.int) 1 := ⟨gw_mem 86 rfl rfl, gw_mem 1185 rfl rfl, by decide, by decide, rfl⟩
set_option maxRecDepth 100000 in
theorem ki_X7_terrace : KI yX7_terrace := ⟨gw_mem 1183 rfl rfl, gw_mem 1184 rfl rfl⟩
set_option maxRecDepth 100000 in
theorem km_X7_behind : KM yX7_behind cX7_behind 4 (Option.some Jvm.ClassFile.FieldType.int) 2 := ⟨gw_mem 86 rfl rfl, gw_mem 1202 rfl rfl, by decide, by decide, rfl⟩
set_option maxRecDepth 100000 in
theorem ki_X7_behind : KI yX7_behind := ⟨gw_mem 1200 rfl rfl, gw_mem 1201 rfl rfl⟩
set_option maxRecDepth 100000 in
theorem km_X7_cold : KM yX7_cold cX7_cold 4 (Option.some Jvm.ClassFile.FieldType.int) 1 := ⟨gw_mem 86 rfl rfl, gw_mem 1210 rfl rfl, by decide, by decide, rfl⟩
set_option maxRecDepth 100000 in
theorem ki_X7_cold : KI yX7_cold := ⟨gw_mem 1208 rfl rfl, gw_mem 1209 rfl rfl⟩
set_option maxRecDepth 100000 in
theorem km_X7_shut : KM yX7_shut cX7_shut 4 (Option.some Jvm.ClassFile.FieldType.int) 1 := ⟨gw_mem 86 rfl rfl, gw_mem 1214 rfl rfl, by decide, by decide, rfl⟩
set_option maxRecDepth 100000 in
theorem ki_X7_shut : KI yX7_shut := ⟨gw_mem 1212 rfl rfl, gw_mem 1213 rfl rfl⟩
set_option maxRecDepth 100000 in
theorem km_X7_areStill : KM yX7_areStill cX7_areStill 2 (Option.some Jvm.ClassFile.FieldType.boolean) 0 := ⟨gw_mem 86 rfl rfl, gw_mem 1223 rfl rfl, by decide, by decide, rfl⟩
set_option maxRecDepth 100000 in
theorem ki_X7_areStill : KI yX7_areStill := ⟨gw_mem 1222 rfl rfl, gw_mem 65 rfl rfl⟩
set_option maxRecDepth 100000 in
theorem km_X7_cement : KM yX7_cement cX7_cement 5 (Option.some Jvm.ClassFile.FieldType.int) 1 := ⟨gw_mem 86 rfl rfl, gw_mem 1218 rfl rfl, by decide, by decide, rfl⟩
set_option maxRecDepth 100000 in
theorem ki_X7_cement : KI yX7_cement := ⟨gw_mem 1216 rfl rfl, gw_mem 1217 rfl rfl⟩
set_option maxRecDepth 100000 in
theorem km_X7_cast : KM yX7_cast cX7_cast 7 (Option.some Jvm.ClassFile.FieldType.int) 3 := ⟨gw_mem 86 rfl rfl, gw_mem 1227 rfl rfl, by decide, by decide, rfl⟩
set_option maxRecDepth 100000 in
theorem ki_X7_cast : KI yX7_cast := ⟨gw_mem 1225 rfl rfl, gw_mem 1226 rfl rfl⟩
set_option maxRecDepth 100000 in
theorem km_X7_becomes : KM yX7_becomes cX7_becomes 7 (Option.some Jvm.ClassFile.FieldType.int) 3 := ⟨gw_mem 86 rfl rfl, gw_mem 1232 rfl rfl, by decide, by decide, rfl⟩
set_option maxRecDepth 100000 in
theorem ki_X7_becomes : KI yX7_becomes := ⟨gw_mem 1230 rfl rfl, gw_mem 1231 rfl rfl⟩
set_option maxRecDepth 100000 in
theorem km_X7_ears : KM yX7_ears cX7_ears 5 (Option.some Jvm.ClassFile.FieldType.int) 2 := ⟨gw_mem 86 rfl rfl, gw_mem 1237 rfl rfl, by decide, by decide, rfl⟩
set_option maxRecDepth 100000 in
theorem ki_X7_ears : KI yX7_ears := ⟨gw_mem 1235 rfl rfl, gw_mem 1236 rfl rfl⟩
set_option maxRecDepth 100000 in
theorem km_X7_like : KM yX7_like cX7_like 5 (Option.some Jvm.ClassFile.FieldType.int) 2 := ⟨gw_mem 86 rfl rfl, gw_mem 1242 rfl rfl, by decide, by decide, rfl⟩
set_option maxRecDepth 100000 in
theorem ki_X7_like : KI yX7_like := ⟨gw_mem 1240 rfl rfl, gw_mem 1241 rfl rfl⟩
set_option maxRecDepth 100000 in
theorem km_X7_fee : KM yX7_fee cX7_fee 2 (Option.some Jvm.ClassFile.FieldType.int) 0 := ⟨gw_mem 86 rfl rfl, gw_mem 1251 rfl rfl, by decide, by decide, rfl⟩
set_option maxRecDepth 100000 in
theorem ki_X7_fee : KI yX7_fee := ⟨gw_mem 1249 rfl rfl, gw_mem 1250 rfl rfl⟩
set_option maxRecDepth 100000 in
theorem km_X7_fine : KM yX7_fine cX7_fine 3 (Option.some Jvm.ClassFile.FieldType.int) 1 := ⟨gw_mem 86 rfl rfl, gw_mem 1255 rfl rfl, by decide, by decide, rfl⟩
set_option maxRecDepth 100000 in
theorem ki_X7_fine : KI yX7_fine := ⟨gw_mem 1253 rfl rfl, gw_mem 1254 rfl rfl⟩
set_option maxRecDepth 100000 in
theorem km_X7_feed : KM yX7_feed cX7_feed 6 (Option.some Jvm.ClassFile.FieldType.int) 3 := ⟨gw_mem 86 rfl rfl, gw_mem 1259 rfl rfl, by decide, by decide, rfl⟩
set_option maxRecDepth 100000 in
theorem ki_X7_feed : KI yX7_feed := ⟨gw_mem 1257 rfl rfl, gw_mem 1258 rfl rfl⟩
set_option maxRecDepth 100000 in
theorem km_X7_trim : KM yX7_trim cX7_trim 2 (Option.some Jvm.ClassFile.FieldType.int) 1 := ⟨gw_mem 86 rfl rfl, gw_mem 1263 rfl rfl, by decide, by decide, rfl⟩
set_option maxRecDepth 100000 in
theorem ki_X7_trim : KI yX7_trim := ⟨gw_mem 1261 rfl rfl, gw_mem 1262 rfl rfl⟩
set_option maxRecDepth 100000 in
theorem km_X7_isRow : KM yX7_isRow cX7_isRow 3 (Option.some Jvm.ClassFile.FieldType.boolean) 2 := ⟨gw_mem 86 rfl rfl, gw_mem 1275 rfl rfl, by decide, by decide, rfl⟩
set_option maxRecDepth 100000 in
theorem ki_X7_isRow : KI yX7_isRow := ⟨gw_mem 1274 rfl rfl, gw_mem 67 rfl rfl⟩
set_option maxRecDepth 100000 in
theorem km_X7_next : KM yX7_next cX7_next 3 (Option.none : Option Jvm.ClassFile.FieldType) 0 := ⟨gw_mem 86 rfl rfl, gw_mem 1271 rfl rfl, by decide, by decide, rfl⟩
set_option maxRecDepth 100000 in
theorem ki_X7_next : KI yX7_next := ⟨gw_mem 1270 rfl rfl, gw_mem 66 rfl rfl⟩
set_option maxRecDepth 100000 in
theorem km_X7_isSign : KM yX7_isSign cX7_isSign 2 (Option.some Jvm.ClassFile.FieldType.boolean) 1 := ⟨gw_mem 86 rfl rfl, gw_mem 1315 rfl rfl, by decide, by decide, rfl⟩
set_option maxRecDepth 100000 in
theorem ki_X7_isSign : KI yX7_isSign := ⟨gw_mem 1314 rfl rfl, gw_mem 75 rfl rfl⟩
set_option maxRecDepth 100000 in
theorem km_X7_goesBy : KM yX7_goesBy cX7_goesBy 2 (Option.none : Option Jvm.ClassFile.FieldType) 1 := ⟨gw_mem 86 rfl rfl, gw_mem 1287 rfl rfl, by decide, by decide, rfl⟩
set_option maxRecDepth 100000 in
theorem ki_X7_goesBy : KI yX7_goesBy := ⟨gw_mem 1286 rfl rfl, gw_mem 68 rfl rfl⟩
set_option maxRecDepth 100000 in
theorem km_X7_lays : KM yX7_lays cX7_lays 2 (Option.none : Option Jvm.ClassFile.FieldType) 1 := ⟨gw_mem 86 rfl rfl, gw_mem 1319 rfl rfl, by decide, by decide, rfl⟩
set_option maxRecDepth 100000 in
theorem ki_X7_lays : KI yX7_lays := ⟨gw_mem 1318 rfl rfl, gw_mem 76 rfl rfl⟩
set_option maxRecDepth 100000 in
theorem km_X7_nameHere : KM yX7_nameHere cX7_nameHere 2 (Option.some Jvm.ClassFile.FieldType.int) 0 := ⟨gw_mem 86 rfl rfl, gw_mem 1323 rfl rfl, by decide, by decide, rfl⟩
set_option maxRecDepth 100000 in
theorem ki_X7_nameHere : KI yX7_nameHere := ⟨gw_mem 1322 rfl rfl, gw_mem 77 rfl rfl⟩
set_option maxRecDepth 100000 in
theorem km_X7_piece : KM yX7_piece cX7_piece 3 (Option.none : Option Jvm.ClassFile.FieldType) 0 := ⟨gw_mem 86 rfl rfl, gw_mem 1311 rfl rfl, by decide, by decide, rfl⟩
set_option maxRecDepth 100000 in
theorem ki_X7_piece : KI yX7_piece := ⟨gw_mem 1310 rfl rfl, gw_mem 74 rfl rfl⟩
set_option maxRecDepth 100000 in
theorem km_X7_term : KM yX7_term cX7_term 2 (Option.none : Option Jvm.ClassFile.FieldType) 0 := ⟨gw_mem 86 rfl rfl, gw_mem 1307 rfl rfl, by decide, by decide, rfl⟩
set_option maxRecDepth 100000 in
theorem ki_X7_term : KI yX7_term := ⟨gw_mem 1306 rfl rfl, gw_mem 73 rfl rfl⟩
set_option maxRecDepth 100000 in
theorem km_X7_sum : KM yX7_sum cX7_sum 2 (Option.none : Option Jvm.ClassFile.FieldType) 0 := ⟨gw_mem 86 rfl rfl, gw_mem 1303 rfl rfl, by decide, by decide, rfl⟩
set_option maxRecDepth 100000 in
theorem ki_X7_sum : KI yX7_sum := ⟨gw_mem 1302 rfl rfl, gw_mem 72 rfl rfl⟩
set_option maxRecDepth 100000 in
theorem km_X7_test : KM yX7_test cX7_test 2 (Option.none : Option Jvm.ClassFile.FieldType) 0 := ⟨gw_mem 86 rfl rfl, gw_mem 1299 rfl rfl, by decide, by decide, rfl⟩
set_option maxRecDepth 100000 in
theorem ki_X7_test : KI yX7_test := ⟨gw_mem 1298 rfl rfl, gw_mem 71 rfl rfl⟩
set_option maxRecDepth 100000 in
theorem km_X7_both : KM yX7_both cX7_both 1 (Option.none : Option Jvm.ClassFile.FieldType) 0 := ⟨gw_mem 86 rfl rfl, gw_mem 1295 rfl rfl, by decide, by decide, rfl⟩
set_option maxRecDepth 100000 in
theorem ki_X7_both : KI yX7_both := ⟨gw_mem 1294 rfl rfl, gw_mem 70 rfl rfl⟩
set_option maxRecDepth 100000 in
theorem km_X7_whole : KM yX7_whole cX7_whole 1 (Option.none : Option Jvm.ClassFile.FieldType) 0 := ⟨gw_mem 86 rfl rfl, gw_mem 1291 rfl rfl, by decide, by decide, rfl⟩
set_option maxRecDepth 100000 in
theorem ki_X7_whole : KI yX7_whole := ⟨gw_mem 1290 rfl rfl, gw_mem 69 rfl rfl⟩
set_option maxRecDepth 100000 in
theorem km_X7_text : KM yX7_text cX7_text 3 (Option.some Jvm.ClassFile.FieldType.int) 0 := ⟨gw_mem 86 rfl rfl, gw_mem 1267 rfl rfl, by decide, by decide, rfl⟩
set_option maxRecDepth 100000 in
theorem ki_X7_text : KI yX7_text := ⟨gw_mem 1265 rfl rfl, gw_mem 1266 rfl rfl⟩
set_option maxRecDepth 100000 in
theorem km_X7_textTold : KM yX7_textTold cX7_textTold 3 (Option.some Jvm.ClassFile.FieldType.int) 2 := ⟨gw_mem 86 rfl rfl, gw_mem 1328 rfl rfl, by decide, by decide, rfl⟩
set_option maxRecDepth 100000 in
theorem ki_X7_textTold : KI yX7_textTold := ⟨gw_mem 1326 rfl rfl, gw_mem 1327 rfl rfl⟩
set_option maxRecDepth 100000 in
theorem km_X7_why : KM yX7_why cX7_why 3 (Option.some Jvm.ClassFile.FieldType.int) 1 := ⟨gw_mem 86 rfl rfl, gw_mem 1332 rfl rfl, by decide, by decide, rfl⟩
set_option maxRecDepth 100000 in
theorem ki_X7_why : KI yX7_why := ⟨gw_mem 1330 rfl rfl, gw_mem 1331 rfl rfl⟩
set_option maxRecDepth 100000 in
theorem km_X7_isSheet : KM yX7_isSheet cX7_isSheet 1 (Option.some Jvm.ClassFile.FieldType.boolean) 1 := ⟨gw_mem 86 rfl rfl, gw_mem 1245 rfl rfl, by decide, by decide, rfl⟩
set_option maxRecDepth 100000 in
theorem ks_X7_isSheet : Cond.static yX7_isSheet ∈ gw := gw_mem 1244 rfl rfl
set_option maxRecDepth 100000 in
theorem km_X7_sheet : KM yX7_sheet cX7_sheet 5 (Option.some Jvm.ClassFile.FieldType.int) 3 := ⟨gw_mem 86 rfl rfl, gw_mem 1336 rfl rfl, by decide, by decide, rfl⟩
set_option maxRecDepth 100000 in
theorem ki_X7_sheet : KI yX7_sheet := ⟨gw_mem 1334 rfl rfl, gw_mem 1335 rfl rfl⟩
set_option maxRecDepth 100000 in
theorem km_X7_mark : KM yX7_mark cX7_mark 4 (Option.some Jvm.ClassFile.FieldType.int) 3 := ⟨gw_mem 86 rfl rfl, gw_mem 1341 rfl rfl, by decide, by decide, rfl⟩
set_option maxRecDepth 100000 in
theorem ki_X7_mark : KI yX7_mark := ⟨gw_mem 1339 rfl rfl, gw_mem 1340 rfl rfl⟩
set_option maxRecDepth 100000 in
theorem km_X7_pour : KM yX7_pour cX7_pour 6 (Option.some Jvm.ClassFile.FieldType.int) 1 := ⟨gw_mem 86 rfl rfl, gw_mem 1347 rfl rfl, by decide, by decide, rfl⟩
set_option maxRecDepth 100000 in
theorem ki_X7_pour : KI yX7_pour := ⟨gw_mem 1345 rfl rfl, gw_mem 1346 rfl rfl⟩
set_option maxRecDepth 100000 in
theorem km_X7_reads : KM yX7_reads cX7_reads 3 (Option.some Jvm.ClassFile.FieldType.int) 1 := ⟨gw_mem 86 rfl rfl, gw_mem 1351 rfl rfl, by decide, by decide, rfl⟩
set_option maxRecDepth 100000 in
theorem ki_X7_reads : KI yX7_reads := ⟨gw_mem 1349 rfl rfl, gw_mem 1350 rfl rfl⟩
set_option maxRecDepth 100000 in
theorem km_X7_copy : KM yX7_copy cX7_copy 7 (Option.some Jvm.ClassFile.FieldType.int) 5 := ⟨gw_mem 86 rfl rfl, gw_mem 1355 rfl rfl, by decide, by decide, rfl⟩
set_option maxRecDepth 100000 in
theorem ki_X7_copy : KI yX7_copy := ⟨gw_mem 1353 rfl rfl, gw_mem 1354 rfl rfl⟩
set_option maxRecDepth 100000 in
theorem km_X7_lay : KM yX7_lay cX7_lay 6 (Option.some Jvm.ClassFile.FieldType.int) 3 := ⟨gw_mem 86 rfl rfl, gw_mem 1359 rfl rfl, by decide, by decide, rfl⟩
set_option maxRecDepth 100000 in
theorem ki_X7_lay : KI yX7_lay := ⟨gw_mem 1357 rfl rfl, gw_mem 1358 rfl rfl⟩
set_option maxRecDepth 100000 in
theorem km_X7_ask : KM yX7_ask cX7_ask 3 (Option.some Jvm.ClassFile.FieldType.int) 2 := ⟨gw_mem 86 rfl rfl, gw_mem 1363 rfl rfl, by decide, by decide, rfl⟩
set_option maxRecDepth 100000 in
theorem ki_X7_ask : KI yX7_ask := ⟨gw_mem 1361 rfl rfl, gw_mem 1362 rfl rfl⟩
set_option maxRecDepth 100000 in
theorem km_X7_item : KM yX7_item cX7_item 3 (Option.some Jvm.ClassFile.FieldType.int) 2 := ⟨gw_mem 86 rfl rfl, gw_mem 1367 rfl rfl, by decide, by decide, rfl⟩
set_option maxRecDepth 100000 in
theorem ki_X7_item : KI yX7_item := ⟨gw_mem 1365 rfl rfl, gw_mem 1366 rfl rfl⟩
set_option maxRecDepth 100000 in
theorem km_X7_rest : KM yX7_rest cX7_rest 3 (Option.some Jvm.ClassFile.FieldType.int) 2 := ⟨gw_mem 86 rfl rfl, gw_mem 1371 rfl rfl, by decide, by decide, rfl⟩
set_option maxRecDepth 100000 in
theorem ki_X7_rest : KI yX7_rest := ⟨gw_mem 1369 rfl rfl, gw_mem 1370 rfl rfl⟩
set_option maxRecDepth 100000 in
theorem km_X7_tell : KM yX7_tell cX7_tell 2 (Option.some Jvm.ClassFile.FieldType.int) 1 := ⟨gw_mem 86 rfl rfl, gw_mem 1376 rfl rfl, by decide, by decide, rfl⟩
set_option maxRecDepth 100000 in
theorem ki_X7_tell : KI yX7_tell := ⟨gw_mem 1374 rfl rfl, gw_mem 1375 rfl rfl⟩
set_option maxRecDepth 100000 in
theorem km_X7_check : KM yX7_check cX7_check 7 (Option.some Jvm.ClassFile.FieldType.int) 1 := ⟨gw_mem 86 rfl rfl, gw_mem 1380 rfl rfl, by decide, by decide, rfl⟩
set_option maxRecDepth 100000 in
theorem ki_X7_check : KI yX7_check := ⟨gw_mem 1378 rfl rfl, gw_mem 1379 rfl rfl⟩
set_option maxRecDepth 100000 in
theorem km_X7_keep : KM yX7_keep cX7_keep 1 (Option.some Jvm.ClassFile.FieldType.int) 0 := ⟨gw_mem 86 rfl rfl, gw_mem 1385 rfl rfl, by decide, by decide, rfl⟩
set_option maxRecDepth 100000 in
theorem ki_X7_keep : KI yX7_keep := ⟨gw_mem 1383 rfl rfl, gw_mem 1384 rfl rfl⟩
set_option maxRecDepth 100000 in
theorem km_X7_back : KM yX7_back cX7_back 1 (Option.some Jvm.ClassFile.FieldType.int) 0 := ⟨gw_mem 86 rfl rfl, gw_mem 1389 rfl rfl, by decide, by decide, rfl⟩
set_option maxRecDepth 100000 in
theorem ki_X7_back : KI yX7_back := ⟨gw_mem 1387 rfl rfl, gw_mem 1388 rfl rfl⟩
set_option maxRecDepth 100000 in
theorem km_X7_count : KM yX7_count cX7_count 2 (Option.some Jvm.ClassFile.FieldType.int) 1 := ⟨gw_mem 86 rfl rfl, gw_mem 1393 rfl rfl, by decide, by decide, rfl⟩
set_option maxRecDepth 100000 in
theorem ki_X7_count : KI yX7_count := ⟨gw_mem 1391 rfl rfl, gw_mem 1392 rfl rfl⟩
set_option maxRecDepth 100000 in
theorem km_J11_isValidCodePoint_9a6ad : KM yJ11_isValidCodePoint_9a6ad cJ11_isValidCodePoint_9a6ad 2 (Option.some Jvm.ClassFile.FieldType.boolean) 1 := ⟨gw_mem 95 rfl rfl, gw_mem 747 rfl rfl, by decide, by decide, rfl⟩
set_option maxRecDepth 100000 in
theorem ks_J11_isValidCodePoint_9a6ad : Cond.static yJ11_isValidCodePoint_9a6ad ∈ gw := gw_mem 746 rfl rfl
set_option maxRecDepth 100000 in
theorem km_J11_highSurrogate_5068e : KM yJ11_highSurrogate_5068e cJ11_highSurrogate_5068e 1 (Option.some Jvm.ClassFile.FieldType.char) 1 := ⟨gw_mem 95 rfl rfl, gw_mem 750 rfl rfl, by decide, by decide, rfl⟩
set_option maxRecDepth 100000 in
theorem ks_J11_highSurrogate_5068e : Cond.static yJ11_highSurrogate_5068e ∈ gw := gw_mem 749 rfl rfl
set_option maxRecDepth 100000 in
theorem km_J11_lowSurrogate_5068e : KM yJ11_lowSurrogate_5068e cJ11_lowSurrogate_5068e 1 (Option.some Jvm.ClassFile.FieldType.char) 1 := ⟨gw_mem 95 rfl rfl, gw_mem 754 rfl rfl, by decide, by decide, rfl⟩
set_option maxRecDepth 100000 in
theorem ks_J11_lowSurrogate_5068e : Cond.static yJ11_lowSurrogate_5068e ∈ gw := gw_mem 753 rfl rfl
set_option maxRecDepth 100000 in
theorem km_J6_bitCount_0f7a4 : KM yJ6_bitCount_0f7a4 cJ6_bitCount_0f7a4 1 (Option.some Jvm.ClassFile.FieldType.int) 1 := ⟨gw_mem 89 rfl rfl, gw_mem 413 rfl rfl, by decide, by decide, rfl⟩
set_option maxRecDepth 100000 in
theorem ks_J6_bitCount_0f7a4 : Cond.static yJ6_bitCount_0f7a4 ∈ gw := gw_mem 412 rfl rfl
set_option maxRecDepth 100000 in
theorem km_J9_abs_0f7a4 : KM yJ9_abs_0f7a4 cJ9_abs_0f7a4 1 (Option.some Jvm.ClassFile.FieldType.int) 1 := ⟨gw_mem 87 rfl rfl, gw_mem 385 rfl rfl, by decide, by decide, rfl⟩
set_option maxRecDepth 100000 in
theorem ks_J9_abs_0f7a4 : Cond.static yJ9_abs_0f7a4 ∈ gw := gw_mem 384 rfl rfl
set_option maxRecDepth 100000 in
theorem km_J9_max_7cf53 : KM yJ9_max_7cf53 cJ9_max_7cf53 2 (Option.some Jvm.ClassFile.FieldType.int) 2 := ⟨gw_mem 87 rfl rfl, gw_mem 405 rfl rfl, by decide, by decide, rfl⟩
set_option maxRecDepth 100000 in
theorem ks_J9_max_7cf53 : Cond.static yJ9_max_7cf53 ∈ gw := gw_mem 404 rfl rfl
set_option maxRecDepth 100000 in
theorem km_J9_min_7cf53 : KM yJ9_min_7cf53 cJ9_min_7cf53 2 (Option.some Jvm.ClassFile.FieldType.int) 2 := ⟨gw_mem 87 rfl rfl, gw_mem 402 rfl rfl, by decide, by decide, rfl⟩
set_option maxRecDepth 100000 in
theorem ks_J9_min_7cf53 : Cond.static yJ9_min_7cf53 ∈ gw := gw_mem 401 rfl rfl
set_option maxRecDepth 100000 in
theorem km_J0_length_8abf5 : KM yJ0_length_8abf5 cJ0_length_8abf5 1 (Option.some Jvm.ClassFile.FieldType.int) 0 := ⟨gw_mem 81 rfl rfl, gw_mem 116 rfl rfl, by decide, by decide, rfl⟩
set_option maxRecDepth 100000 in
theorem ki_J0_length_8abf5 : KI yJ0_length_8abf5 := ⟨gw_mem 114 rfl rfl, gw_mem 115 rfl rfl⟩
set_option maxRecDepth 100000 in
theorem km_J0_indexOf_0f7a4 : KM yJ0_indexOf_0f7a4 cJ0_indexOf_0f7a4 2 (Option.some Jvm.ClassFile.FieldType.int) 1 := ⟨gw_mem 81 rfl rfl, gw_mem 686 rfl rfl, by decide, by decide, rfl⟩
set_option maxRecDepth 100000 in
theorem ki_J0_indexOf_0f7a4 : KI yJ0_indexOf_0f7a4 := ⟨gw_mem 684 rfl rfl, gw_mem 685 rfl rfl⟩
set_option maxRecDepth 100000 in
theorem km_J0_indexOf_7cf53 : KM yJ0_indexOf_7cf53 cJ0_indexOf_7cf53 3 (Option.some Jvm.ClassFile.FieldType.int) 2 := ⟨gw_mem 81 rfl rfl, gw_mem 690 rfl rfl, by decide, by decide, rfl⟩
set_option maxRecDepth 100000 in
theorem ki_J0_indexOf_7cf53 : KI yJ0_indexOf_7cf53 := ⟨gw_mem 688 rfl rfl, gw_mem 689 rfl rfl⟩
set_option maxRecDepth 100000 in
theorem km_J0_coder_7d493 : KM yJ0_coder_7d493 cJ0_coder_7d493 1 (Option.some Jvm.ClassFile.FieldType.byte) 0 := ⟨gw_mem 81 rfl rfl, gw_mem 120 rfl rfl, by decide, by decide, rfl⟩
set_option maxRecDepth 100000 in
theorem ki_J0_coder_7d493 : KI yJ0_coder_7d493 := ⟨gw_mem 118 rfl rfl, gw_mem 119 rfl rfl⟩
set_option maxRecDepth 100000 in
theorem km_J0_isLatin1_aae02 : KM yJ0_isLatin1_aae02 cJ0_isLatin1_aae02 1 (Option.some Jvm.ClassFile.FieldType.boolean) 0 := ⟨gw_mem 81 rfl rfl, gw_mem 694 rfl rfl, by decide, by decide, rfl⟩
set_option maxRecDepth 100000 in
theorem ki_J0_isLatin1_aae02 : KI yJ0_isLatin1_aae02 := ⟨gw_mem 692 rfl rfl, gw_mem 693 rfl rfl⟩
set_option maxRecDepth 100000 in
theorem km_J0_checkBoundsBeginEnd_23922 : KM yJ0_checkBoundsBeginEnd_23922 cJ0_checkBoundsBeginEnd_23922 3 (Option.none : Option Jvm.ClassFile.FieldType) 3 := ⟨gw_mem 81 rfl rfl, gw_mem 724 rfl rfl, by decide, by decide, rfl⟩
set_option maxRecDepth 100000 in
theorem ks_J0_checkBoundsBeginEnd_23922 : Cond.static yJ0_checkBoundsBeginEnd_23922 ∈ gw := gw_mem 723 rfl rfl
set_option maxRecDepth 100000 in
theorem km_J1_canEncode_9a6ad : KM yJ1_canEncode_9a6ad cJ1_canEncode_9a6ad 1 (Option.some Jvm.ClassFile.FieldType.boolean) 1 := ⟨gw_mem 92 rfl rfl, gw_mem 701 rfl rfl, by decide, by decide, rfl⟩
set_option maxRecDepth 100000 in
theorem ks_J1_canEncode_9a6ad : Cond.static yJ1_canEncode_9a6ad ∈ gw := gw_mem 700 rfl rfl
set_option maxRecDepth 100000 in
theorem km_J1_indexOf_4cfef : KM yJ1_indexOf_4cfef cJ1_indexOf_4cfef 4 (Option.some Jvm.ClassFile.FieldType.int) 4 := ⟨gw_mem 92 rfl rfl, gw_mem 698 rfl rfl, by decide, by decide, rfl⟩
set_option maxRecDepth 100000 in
theorem ks_J1_indexOf_4cfef : Cond.static yJ1_indexOf_4cfef ∈ gw := gw_mem 697 rfl rfl
set_option maxRecDepth 100000 in
theorem km_J1_indexOfChar_4cfef : KM yJ1_indexOfChar_4cfef cJ1_indexOfChar_4cfef 6 (Option.some Jvm.ClassFile.FieldType.int) 4 := ⟨gw_mem 92 rfl rfl, gw_mem 706 rfl rfl, by decide, by decide, rfl⟩
set_option maxRecDepth 100000 in
theorem ks_J1_indexOfChar_4cfef : Cond.static yJ1_indexOfChar_4cfef ∈ gw := gw_mem 705 rfl rfl
set_option maxRecDepth 100000 in
theorem km_J2_getChar_3b067 : KM yJ2_getChar_3b067 cJ2_getChar_3b067 2 (Option.some Jvm.ClassFile.FieldType.char) 2 := ⟨gw_mem 93 rfl rfl, gw_mem 735 rfl rfl, by decide, by decide, rfl⟩
set_option maxRecDepth 100000 in
theorem ks_J2_getChar_3b067 : Cond.static yJ2_getChar_3b067 ∈ gw := gw_mem 734 rfl rfl
set_option maxRecDepth 100000 in
theorem km_J2_length_9d52b : KM yJ2_length_9d52b cJ2_length_9d52b 1 (Option.some Jvm.ClassFile.FieldType.int) 1 := ⟨gw_mem 93 rfl rfl, gw_mem 721 rfl rfl, by decide, by decide, rfl⟩
set_option maxRecDepth 100000 in
theorem ks_J2_length_9d52b : Cond.static yJ2_length_9d52b ∈ gw := gw_mem 720 rfl rfl
set_option maxRecDepth 100000 in
theorem km_J2_indexOf_4cfef : KM yJ2_indexOf_4cfef cJ2_indexOf_4cfef 4 (Option.some Jvm.ClassFile.FieldType.int) 4 := ⟨gw_mem 93 rfl rfl, gw_mem 709 rfl rfl, by decide, by decide, rfl⟩
set_option maxRecDepth 100000 in
theorem ks_J2_indexOf_4cfef : Cond.static yJ2_indexOf_4cfef ∈ gw := gw_mem 708 rfl rfl
set_option maxRecDepth 100000 in
theorem km_J2_indexOfChar_4cfef : KM yJ2_indexOfChar_4cfef cJ2_indexOfChar_4cfef 4 (Option.some Jvm.ClassFile.FieldType.int) 4 := ⟨gw_mem 93 rfl rfl, gw_mem 715 rfl rfl, by decide, by decide, rfl⟩
set_option maxRecDepth 100000 in
theorem ks_J2_indexOfChar_4cfef : Cond.static yJ2_indexOfChar_4cfef ∈ gw := gw_mem 714 rfl rfl
set_option maxRecDepth 100000 in
theorem km_J2_indexOfCharUnsafe_4cfef : KM yJ2_indexOfCharUnsafe_4cfef cJ2_indexOfCharUnsafe_4cfef 5 (Option.some Jvm.ClassFile.FieldType.int) 4 := ⟨gw_mem 93 rfl rfl, gw_mem 732 rfl rfl, by decide, by decide, rfl⟩
set_option maxRecDepth 100000 in
theorem ks_J2_indexOfCharUnsafe_4cfef : Cond.static yJ2_indexOfCharUnsafe_4cfef ∈ gw := gw_mem 731 rfl rfl
set_option maxRecDepth 100000 in
theorem km_J2_indexOfSupplementary_4cfef : KM yJ2_indexOfSupplementary_4cfef cJ2_indexOfSupplementary_4cfef 7 (Option.some Jvm.ClassFile.FieldType.int) 4 := ⟨gw_mem 93 rfl rfl, gw_mem 744 rfl rfl, by decide, by decide, rfl⟩
set_option maxRecDepth 100000 in
theorem ks_J2_indexOfSupplementary_4cfef : Cond.static yJ2_indexOfSupplementary_4cfef ∈ gw := gw_mem 743 rfl rfl
set_option maxRecDepth 100000 in
theorem km_J2_checkBoundsBeginEnd_d044e : KM yJ2_checkBoundsBeginEnd_d044e cJ2_checkBoundsBeginEnd_d044e 3 (Option.none : Option Jvm.ClassFile.FieldType) 3 := ⟨gw_mem 93 rfl rfl, gw_mem 718 rfl rfl, by decide, by decide, rfl⟩
set_option maxRecDepth 100000 in
theorem ks_J2_checkBoundsBeginEnd_d044e : Cond.static yJ2_checkBoundsBeginEnd_d044e ∈ gw := gw_mem 717 rfl rfl
set_option maxRecDepth 100000 in
theorem km_J7_fill_53178 : KM yJ7_fill_53178 cJ7_fill_53178 4 (Option.none : Option Jvm.ClassFile.FieldType) 2 := ⟨gw_mem 91 rfl rfl, gw_mem 607 rfl rfl, by decide, by decide, rfl⟩
set_option maxRecDepth 100000 in
theorem ks_J7_fill_53178 : Cond.static yJ7_fill_53178 ∈ gw := gw_mem 606 rfl rfl
set_option maxRecDepth 100000 in
theorem km_J7_copyOf_59c91 : KM yJ7_copyOf_59c91 cJ7_copyOf_59c91 3 (Option.some (Jvm.ClassFile.FieldType.array Jvm.ClassFile.FieldType.int)) 2 := ⟨gw_mem 91 rfl rfl, gw_mem 799 rfl rfl, by decide, by decide, rfl⟩
set_option maxRecDepth 100000 in
theorem ks_J7_copyOf_59c91 : Cond.static yJ7_copyOf_59c91 ∈ gw := gw_mem 798 rfl rfl
set_option maxRecDepth 100000 in
theorem km_J3_checkFromToIndex_8c36e : KM yJ3_checkFromToIndex_8c36e cJ3_checkFromToIndex_8c36e 4 (Option.some Jvm.ClassFile.FieldType.int) 4 := ⟨gw_mem 94 rfl rfl, gw_mem 729 rfl rfl, by decide, by decide, rfl⟩
set_option maxRecDepth 100000 in
theorem ks_J3_checkFromToIndex_8c36e : Cond.static yJ3_checkFromToIndex_8c36e ∈ gw := gw_mem 728 rfl rfl
set_option maxRecDepth 100000 in
theorem fb0 : FB 0 RX0 TX0 3 tyX0 := ⟨rfl, by decide +kernel, tyX0_ok, nmX0⟩
set_option maxRecDepth 100000 in
theorem fb1 : FB 1 RX1 TX1 8 tyX1 := ⟨rfl, by decide +kernel, tyX1_ok, nmX1⟩
set_option maxRecDepth 100000 in
theorem fb2 : FB 2 RX2 TX2 3 tyX2 := ⟨rfl, by decide +kernel, tyX2_ok, nmX2⟩
set_option maxRecDepth 100000 in
theorem fb3 : FB 3 RX3 TX3 7 tyX3 := ⟨rfl, by decide +kernel, tyX3_ok, nmX3⟩
set_option maxRecDepth 100000 in
theorem fb4 : FB 4 RX4 TX4 15 tyX4 := ⟨rfl, by decide +kernel, tyX4_ok, nmX4⟩
set_option maxRecDepth 100000 in
theorem fb5 : FB 5 RX5 TX5 3 tyX5 := ⟨rfl, by decide +kernel, tyX5_ok, nmX5⟩
set_option maxRecDepth 100000 in
theorem fb6 : FB 6 RX6 TX6 13 tyX6 := ⟨rfl, by decide +kernel, tyX6_ok, nmX6⟩
set_option maxRecDepth 100000 in
theorem fb7 : FB 7 RX7 TX7 39 tyX7 := ⟨rfl, by decide +kernel, tyX7_ok, nmX7⟩
