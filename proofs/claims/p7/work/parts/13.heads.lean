theorem mt0 : mm_tab[0]? = some ((⟨"MendedWithTheWord", "<init>", "()V"⟩ : MethodName), prog_1_method_1_code, 2, none, 0, 0, 2) := by rfl
theorem cl0 : mm_cl 0 = 0 := by unfold mm_cl; rw [mt0]
theorem mt1 : mm_tab[1]? = some ((⟨"MendedWithTheWord", "set", "(III)I"⟩ : MethodName), prog_1_method_2_code, 5, (some .int), 0, 3, 0) := by rfl
theorem cl1 : mm_cl 1 = 0 := by unfold mm_cl; rw [mt1]
theorem mt2 : mm_tab[2]? = some ((⟨"MendedWithTheWord", "person", "(II)I"⟩ : MethodName), prog_1_method_3_code, 3, (some .int), 0, 2, 0) := by rfl
theorem cl2 : mm_cl 2 = 0 := by unfold mm_cl; rw [mt2]
theorem mt3 : mm_tab[3]? = some ((⟨"MendedWithTheWord", "seam", "(III)I"⟩ : MethodName), prog_1_method_4_code, 4, (some .int), 0, 3, 0) := by rfl
theorem cl3 : mm_cl 3 = 0 := by unfold mm_cl; rw [mt3]
theorem mt4 : mm_tab[4]? = some ((⟨"MendedWithTheWord", "told", "(II)I"⟩ : MethodName), prog_1_method_5_code, 3, (some .int), 0, 2, 0) := by rfl
theorem cl4 : mm_cl 4 = 0 := by unfold mm_cl; rw [mt4]
theorem mt5 : mm_tab[5]? = some ((⟨"MendedWithTheWord", "feed", "(I)I"⟩ : MethodName), prog_1_method_6_code, 2, (some .int), 0, 1, 0) := by rfl
theorem cl5 : mm_cl 5 = 0 := by unfold mm_cl; rw [mt5]
theorem mt6 : mm_tab[6]? = some ((⟨"MendedWithTheWord", "text", "()I"⟩ : MethodName), prog_1_method_7_code, 2, (some .int), 0, 0, 0) := by rfl
theorem cl6 : mm_cl 6 = 0 := by unfold mm_cl; rw [mt6]
theorem mt7 : mm_tab[7]? = some ((⟨"MendedWithTheWord", "force", "(I)I"⟩ : MethodName), prog_1_method_8_code, 3, (some .int), 0, 1, 0) := by rfl
theorem cl7 : mm_cl 7 = 0 := by unfold mm_cl; rw [mt7]
theorem mt8 : mm_tab[8]? = some ((⟨"MendedWithTheWord", "call", "(I)I"⟩ : MethodName), prog_1_method_9_code, 2, (some .int), 0, 1, 0) := by rfl
theorem cl8 : mm_cl 8 = 0 := by unfold mm_cl; rw [mt8]
theorem mt9 : mm_tab[9]? = some ((⟨"MendedWithTheWord", "vase", "(I)I"⟩ : MethodName), prog_1_method_10_code, 2, (some .int), 0, 1, 0) := by rfl
theorem cl9 : mm_cl 9 = 0 := by unfold mm_cl; rw [mt9]
theorem mt10 : mm_tab[10]? = some ((⟨"MendedWithTheWord", "part", "(I)I"⟩ : MethodName), prog_1_method_11_code, 2, (some .int), 0, 1, 0) := by rfl
theorem cl10 : mm_cl 10 = 0 := by unfold mm_cl; rw [mt10]
theorem mt11 : mm_tab[11]? = some ((⟨"MendedWithTheWord", "when", "(I)I"⟩ : MethodName), prog_1_method_12_code, 4, (some .int), 0, 1, 0) := by rfl
theorem cl11 : mm_cl 11 = 0 := by unfold mm_cl; rw [mt11]
theorem mt12 : mm_tab[12]? = some ((⟨"MendedWithTheWord", "fewest", "(I)I"⟩ : MethodName), prog_1_method_13_code, 4, (some .int), 0, 1, 0) := by rfl
theorem cl12 : mm_cl 12 = 0 := by unfold mm_cl; rw [mt12]
theorem mt13 : mm_tab[13]? = some ((⟨"MendedWithTheWord", "wanted", "(I)I"⟩ : MethodName), prog_1_method_14_code, 6, (some .int), 0, 1, 0) := by rfl
theorem cl13 : mm_cl 13 = 0 := by unfold mm_cl; rw [mt13]
theorem mt14 : mm_tab[14]? = some ((⟨"MendedWithTheWord", "soon", "()I"⟩ : MethodName), prog_1_method_15_code, 2, (some .int), 0, 0, 0) := by rfl
theorem cl14 : mm_cl 14 = 0 := by unfold mm_cl; rw [mt14]
theorem mt15 : mm_tab[15]? = some ((⟨"MendedWithTheWord", "gentle\x72", "()I"⟩ : MethodName), prog_1_method_16_code, 2, (some .int), 0, 0, 0) := by rfl
theorem cl15 : mm_cl 15 = 0 := by unfold mm_cl; rw [mt15]
theorem mt16 : mm_tab[16]? = some ((⟨"MendedWithTheWord", "tells", "(IIII)I"⟩ : MethodName), prog_1_method_17_code, 6, (some .int), 0, 4, 0) := by rfl
theorem cl16 : mm_cl 16 = 0 := by unfold mm_cl; rw [mt16]
theorem mt17 : mm_tab[17]? = some ((⟨"MendedWithTheWord", "film", "(IIII)I"⟩ : MethodName), prog_1_method_18_code, 6, (some .int), 0, 4, 0) := by rfl
theorem cl17 : mm_cl 17 = 0 := by unfold mm_cl; rw [mt17]
theorem mt18 : mm_tab[18]? = some ((⟨"MendedWithTheWord", "drawn", "(I)I"⟩ : MethodName), prog_1_method_19_code, 2, (some .int), 0, 1, 0) := by rfl
theorem cl18 : mm_cl 18 = 0 := by unfold mm_cl; rw [mt18]
theorem mt19 : mm_tab[19]? = some ((⟨"MendedWithTheWord", "chance", "(III)J"⟩ : MethodName), prog_1_method_20_code, 6, (some .long), 0, 3, 0) := by rfl
theorem cl19 : mm_cl 19 = 0 := by unfold mm_cl; rw [mt19]
theorem mt20 : mm_tab[20]? = some ((⟨"MendedWithTheWord", "image", "()I"⟩ : MethodName), prog_1_method_21_code, 1, (some .int), 0, 0, 0) := by rfl
theorem cl20 : mm_cl 20 = 0 := by unfold mm_cl; rw [mt20]
theorem mt21 : mm_tab[21]? = some ((⟨"MendedWithTheWord", "back", "()I"⟩ : MethodName), prog_1_method_22_code, 1, (some .int), 0, 0, 0) := by rfl
theorem cl21 : mm_cl 21 = 0 := by unfold mm_cl; rw [mt21]
theorem mt22 : mm_tab[22]? = some ((⟨"MendedWithTheWord", "count", "(I)I"⟩ : MethodName), prog_1_method_23_code, 2, (some .int), 0, 1, 0) := by rfl
theorem cl22 : mm_cl 22 = 0 := by unfold mm_cl; rw [mt22]
theorem mt23 : mm_tab[23]? = some ((⟨"MendedWithTheWord", "sheet", "(III)I"⟩ : MethodName), prog_1_method_24_code, 4, (some .int), 0, 3, 0) := by rfl
theorem cl23 : mm_cl 23 = 0 := by unfold mm_cl; rw [mt23]
theorem mt24 : mm_tab[24]? = some ((⟨"MendedWithTheWord", "cell", "(III)I"⟩ : MethodName), prog_1_method_25_code, 4, (some .int), 0, 3, 0) := by rfl
theorem cl24 : mm_cl 24 = 0 := by unfold mm_cl; rw [mt24]
theorem mt25 : mm_tab[25]? = some ((⟨"MendedWithTheWord", "copy", "(IIIII)I"⟩ : MethodName), prog_1_method_26_code, 8, (some .int), 0, 5, 0) := by rfl
theorem cl25 : mm_cl 25 = 0 := by unfold mm_cl; rw [mt25]
theorem mt26 : mm_tab[26]? = some ((⟨"MendedWithTheWord", "people", "(IIII)I"⟩ : MethodName), prog_1_method_27_code, 9, (some .int), 0, 4, 0) := by rfl
theorem cl26 : mm_cl 26 = 0 := by unfold mm_cl; rw [mt26]
theorem mt27 : mm_tab[27]? = some ((⟨"MendedWithTheWord", "taken", "(II)I"⟩ : MethodName), prog_1_method_28_code, 3, (some .int), 0, 2, 0) := by rfl
theorem cl27 : mm_cl 27 = 0 := by unfold mm_cl; rw [mt27]
theorem mt28 : mm_tab[28]? = some ((⟨"MendedWithTheWord", "least", "(I)I"⟩ : MethodName), prog_1_method_29_code, 2, (some .int), 0, 1, 0) := by rfl
theorem cl28 : mm_cl 28 = 0 := by unfold mm_cl; rw [mt28]
theorem mt29 : mm_tab[29]? = some ((⟨"MendedWithTheWord", "most", "(I)I"⟩ : MethodName), prog_1_method_30_code, 2, (some .int), 0, 1, 0) := by rfl
theorem cl29 : mm_cl 29 = 0 := by unfold mm_cl; rw [mt29]
theorem mt30 : mm_tab[30]? = some ((⟨"MendedWithTheWord", "isTwoPieces", "(I)Z"⟩ : MethodName), prog_1_method_31_code, 1, (some .boolean), 0, 1, 1) := by rfl
theorem cl30 : mm_cl 30 = 0 := by unfold mm_cl; rw [mt30]
theorem mt31 : mm_tab[31]? = some ((⟨"MendedWithTheWord", "isSheet", "(I)Z"⟩ : MethodName), prog_1_method_32_code, 1, (some .boolean), 0, 1, 1) := by rfl
theorem cl31 : mm_cl 31 = 0 := by unfold mm_cl; rw [mt31]
theorem mt32 : mm_tab[32]? = some ((⟨"MendedWithTheWord", "isSort", "(I)Z"⟩ : MethodName), prog_1_method_33_code, 1, (some .boolean), 0, 1, 1) := by rfl
theorem cl32 : mm_cl 32 = 0 := by unfold mm_cl; rw [mt32]
theorem mt33 : mm_tab[33]? = some ((⟨"MendedWithTheWord", "bound", "(I)I"⟩ : MethodName), prog_1_method_34_code, 1, (some .int), 0, 1, 1) := by rfl
theorem cl33 : mm_cl 33 = 0 := by unfold mm_cl; rw [mt33]
theorem mt34 : mm_tab[34]? = some ((⟨"MendedWithTheWord", "greatestDiviso\x72", "(II)I"⟩ : MethodName), prog_1_method_35_code, 6, (some .int), 0, 2, 1) := by rfl
theorem cl34 : mm_cl 34 = 0 := by unfold mm_cl; rw [mt34]
theorem mt35 : mm_tab[35]? = some ((⟨"MendedWithTheWord$Kinds", "says", "(IIII)I"⟩ : MethodName), prog_2_method_2_code, 4, (some .int), 1, 4, 1) := by rfl
theorem cl35 : mm_cl 35 = 1 := by unfold mm_cl; rw [mt35]
theorem mt36 : mm_tab[36]? = some ((⟨"MendedWithTheWord$Kinds", "slack", "(IIII)I"⟩ : MethodName), prog_2_method_3_code, 4, (some .int), 1, 4, 1) := by rfl
theorem cl36 : mm_cl 36 = 1 := by unfold mm_cl; rw [mt36]
theorem mt37 : mm_tab[37]? = some ((⟨"MendedWithTheWord$Kinds", "holds", "(II)I"⟩ : MethodName), prog_2_method_4_code, 2, (some .int), 1, 2, 1) := by rfl
theorem cl37 : mm_cl 37 = 1 := by unfold mm_cl; rw [mt37]
theorem mt38 : mm_tab[38]? = some ((⟨"MendedWithTheWord$Kinds", "isUnde\x72", "(II)Z"⟩ : MethodName), prog_2_method_5_code, 4, (some .boolean), 1, 2, 1) := by rfl
theorem cl38 : mm_cl 38 = 1 := by unfold mm_cl; rw [mt38]
theorem mt39 : mm_tab[39]? = some ((⟨"MendedWithTheWord$Kinds", "nextAbove", "(I)I"⟩ : MethodName), prog_2_method_6_code, 1, (some .int), 1, 1, 1) := by rfl
theorem cl39 : mm_cl 39 = 1 := by unfold mm_cl; rw [mt39]
theorem mt40 : mm_tab[40]? = some ((⟨"MendedWithTheWord$Kinds", "loverSays", "(III)I"⟩ : MethodName), prog_2_method_7_code, 3, (some .int), 1, 3, 1) := by rfl
theorem cl40 : mm_cl 40 = 1 := by unfold mm_cl; rw [mt40]
theorem mt41 : mm_tab[41]? = some ((⟨"MendedWithTheWord$Reade\x72", "<init>", "()V"⟩ : MethodName), prog_3_method_1_code, 1, none, 2, 0, 2) := by rfl
theorem cl41 : mm_cl 41 = 2 := by unfold mm_cl; rw [mt41]
theorem mt42 : mm_tab[42]? = some ((⟨"MendedWithTheWord$Reade\x72", "add", "(I)I"⟩ : MethodName), prog_3_method_2_code, 2, (some .int), 2, 1, 0) := by rfl
theorem cl42 : mm_cl 42 = 2 := by unfold mm_cl; rw [mt42]
theorem mt43 : mm_tab[43]? = some ((⟨"MendedWithTheWord$Reade\x72", "empty", "()V"⟩ : MethodName), prog_3_method_3_code, 1, none, 2, 0, 0) := by rfl
theorem cl43 : mm_cl 43 = 2 := by unfold mm_cl; rw [mt43]
theorem mt44 : mm_tab[44]? = some ((⟨"MendedWithTheWord$Reade\x72", "fault", "()I"⟩ : MethodName), prog_3_method_4_code, 1, (some .int), 2, 0, 0) := by rfl
theorem cl44 : mm_cl 44 = 2 := by unfold mm_cl; rw [mt44]
theorem mt45 : mm_tab[45]? = some ((⟨"MendedWithTheWord$Reade\x72", "read", "()LMendedWithTheWord$Text;"⟩ : MethodName), prog_3_method_5_code, 2, (some (.object "MendedWithTheWord$Text")), 2, 0, 0) := by rfl
theorem cl45 : mm_cl 45 = 2 := by unfold mm_cl; rw [mt45]
theorem mt46 : mm_tab[46]? = some ((⟨"MendedWithTheWord$Reade\x72", "readOrs", "()Z"⟩ : MethodName), prog_3_method_6_code, 3, (some .boolean), 2, 0, 0) := by rfl
theorem cl46 : mm_cl 46 = 2 := by unfold mm_cl; rw [mt46]
theorem mt47 : mm_tab[47]? = some ((⟨"MendedWithTheWord$Reade\x72", "readAnds", "()Z"⟩ : MethodName), prog_3_method_7_code, 3, (some .boolean), 2, 0, 0) := by rfl
theorem cl47 : mm_cl 47 = 2 := by unfold mm_cl; rw [mt47]
theorem mt48 : mm_tab[48]? = some ((⟨"MendedWithTheWord$Reade\x72", "readNot", "()Z"⟩ : MethodName), prog_3_method_8_code, 2, (some .boolean), 2, 0, 0) := by rfl
theorem cl48 : mm_cl 48 = 2 := by unfold mm_cl; rw [mt48]
theorem mt49 : mm_tab[49]? = some ((⟨"MendedWithTheWord$Reade\x72", "readCompared", "()Z"⟩ : MethodName), prog_3_method_9_code, 3, (some .boolean), 2, 0, 0) := by rfl
theorem cl49 : mm_cl 49 = 2 := by unfold mm_cl; rw [mt49]
theorem mt50 : mm_tab[50]? = some ((⟨"MendedWithTheWord$Reade\x72", "readSum", "()Z"⟩ : MethodName), prog_3_method_10_code, 4, (some .boolean), 2, 0, 0) := by rfl
theorem cl50 : mm_cl 50 = 2 := by unfold mm_cl; rw [mt50]
theorem mt51 : mm_tab[51]? = some ((⟨"MendedWithTheWord$Reade\x72", "readTerm", "()Z"⟩ : MethodName), prog_3_method_11_code, 3, (some .boolean), 2, 0, 0) := by rfl
theorem cl51 : mm_cl 51 = 2 := by unfold mm_cl; rw [mt51]
theorem mt52 : mm_tab[52]? = some ((⟨"MendedWithTheWord$Reade\x72", "readOne", "()Z"⟩ : MethodName), prog_3_method_12_code, 3, (some .boolean), 2, 0, 0) := by rfl
theorem cl52 : mm_cl 52 = 2 := by unfold mm_cl; rw [mt52]
theorem mt53 : mm_tab[53]? = some ((⟨"MendedWithTheWord$Reade\x72", "readInside", "()Z"⟩ : MethodName), prog_3_method_13_code, 1, (some .boolean), 2, 0, 0) := by rfl
theorem cl53 : mm_cl 53 = 2 := by unfold mm_cl; rw [mt53]
theorem mt54 : mm_tab[54]? = some ((⟨"MendedWithTheWord$Reade\x72", "write", "(I)V"⟩ : MethodName), prog_3_method_14_code, 2, none, 2, 1, 0) := by rfl
theorem cl54 : mm_cl 54 = 2 := by unfold mm_cl; rw [mt54]
theorem mt55 : mm_tab[55]? = some ((⟨"MendedWithTheWord$Reade\x72", "look", "()V"⟩ : MethodName), prog_3_method_15_code, 1, none, 2, 0, 0) := by rfl
theorem cl55 : mm_cl 55 = 2 := by unfold mm_cl; rw [mt55]
theorem mt56 : mm_tab[56]? = some ((⟨"MendedWithTheWord$Reade\x72", "lookAtDigits", "()V"⟩ : MethodName), prog_3_method_16_code, 1, none, 2, 0, 0) := by rfl
theorem cl56 : mm_cl 56 = 2 := by unfold mm_cl; rw [mt56]
theorem mt57 : mm_tab[57]? = some ((⟨"MendedWithTheWord$Reade\x72", "lookAtWord", "()V"⟩ : MethodName), prog_3_method_17_code, 1, none, 2, 0, 0) := by rfl
theorem cl57 : mm_cl 57 = 2 := by unfold mm_cl; rw [mt57]
theorem mt58 : mm_tab[58]? = some ((⟨"MendedWithTheWord$Reade\x72", "isWord", "(Ljava/lang/String;)Z"⟩ : MethodName), prog_3_method_18_code, 3, (some .boolean), 2, 1, 0) := by rfl
theorem cl58 : mm_cl 58 = 2 := by unfold mm_cl; rw [mt58]
theorem mt59 : mm_tab[59]? = some ((⟨"MendedWithTheWord$Reade\x72", "isLette\x72", "(I)Z"⟩ : MethodName), prog_3_method_19_code, 1, (some .boolean), 2, 1, 1) := by rfl
theorem cl59 : mm_cl 59 = 2 := by unfold mm_cl; rw [mt59]
theorem mt60 : mm_tab[60]? = some ((⟨"MendedWithTheWord$Reade\x72", "isDigit", "(I)Z"⟩ : MethodName), prog_3_method_20_code, 1, (some .boolean), 2, 1, 1) := by rfl
theorem cl60 : mm_cl 60 = 2 := by unfold mm_cl; rw [mt60]
theorem mt61 : mm_tab[61]? = some ((⟨"MendedWithTheWord$Rules", "<init>", "()V"⟩ : MethodName), prog_4_method_1_code, 1, none, 3, 0, 2) := by rfl
theorem cl61 : mm_cl 61 = 3 := by unfold mm_cl; rw [mt61]
theorem mt62 : mm_tab[62]? = some ((⟨"MendedWithTheWord$Rules", "add", "(LMendedWithTheWord$Text;)I"⟩ : MethodName), prog_4_method_2_code, 2, (some .int), 3, 1, 0) := by rfl
theorem cl62 : mm_cl 62 = 3 := by unfold mm_cl; rw [mt62]
theorem mt63 : mm_tab[63]? = some ((⟨"MendedWithTheWord$Rules", "name", "(IIIIII)V"⟩ : MethodName), prog_4_method_3_code, 7, none, 3, 6, 0) := by rfl
theorem cl63 : mm_cl 63 = 3 := by unfold mm_cl; rw [mt63]
theorem mt64 : mm_tab[64]? = some ((⟨"MendedWithTheWord$Rules", "tell", "(II)I"⟩ : MethodName), prog_4_method_4_code, 11, (some .int), 3, 2, 0) := by rfl
theorem cl64 : mm_cl 64 = 3 := by unfold mm_cl; rw [mt64]
theorem mt65 : mm_tab[65]? = some ((⟨"MendedWithTheWord$Rules", "worth", "(III)I"⟩ : MethodName), prog_4_method_5_code, 5, (some .int), 3, 3, 0) := by rfl
theorem cl65 : mm_cl 65 = 3 := by unfold mm_cl; rw [mt65]
theorem mt66 : mm_tab[66]? = some ((⟨"MendedWithTheWord$Sheet", "<init>", "()V"⟩ : MethodName), prog_5_method_1_code, 1, none, 4, 0, 2) := by rfl
theorem cl66 : mm_cl 66 = 4 := by unfold mm_cl; rw [mt66]
theorem mt67 : mm_tab[67]? = some ((⟨"MendedWithTheWord$Sheet", "isMissing", "()Z"⟩ : MethodName), prog_5_method_2_code, 1, (some .boolean), 4, 0, 0) := by rfl
theorem cl67 : mm_cl 67 = 4 := by unfold mm_cl; rw [mt67]
theorem mt68 : mm_tab[68]? = some ((⟨"MendedWithTheWord$Sheet", "become", "(II)V"⟩ : MethodName), prog_5_method_3_code, 3, none, 4, 2, 0) := by rfl
theorem cl68 : mm_cl 68 = 4 := by unfold mm_cl; rw [mt68]
theorem mt69 : mm_tab[69]? = some ((⟨"MendedWithTheWord$Sheet", "hasItems", "(II)Z"⟩ : MethodName), prog_5_method_4_code, 3, (some .boolean), 4, 2, 0) := by rfl
theorem cl69 : mm_cl 69 = 4 := by unfold mm_cl; rw [mt69]
theorem mt70 : mm_tab[70]? = some ((⟨"MendedWithTheWord$Sheet", "put", "(II)V"⟩ : MethodName), prog_5_method_5_code, 3, none, 4, 2, 0) := by rfl
theorem cl70 : mm_cl 70 = 4 := by unfold mm_cl; rw [mt70]
theorem mt71 : mm_tab[71]? = some ((⟨"MendedWithTheWord$Text", "<init>", "([III)V"⟩ : MethodName), prog_6_method_1_code, 4, none, 5, 3, 2) := by rfl
theorem cl71 : mm_cl 71 = 5 := by unfold mm_cl; rw [mt71]
theorem mt72 : mm_tab[72]? = some ((⟨"MendedWithTheWord$Text", "start", "(I)I"⟩ : MethodName), prog_6_method_2_code, 2, (some .int), 5, 1, 0) := by rfl
theorem cl72 : mm_cl 72 = 5 := by unfold mm_cl; rw [mt72]
theorem mt73 : mm_tab[73]? = some ((⟨"MendedWithTheWord$Text", "end", "(I)I"⟩ : MethodName), prog_6_method_3_code, 2, (some .int), 5, 1, 0) := by rfl
theorem cl73 : mm_cl 73 = 5 := by unfold mm_cl; rw [mt73]
theorem mt74 : mm_tab[74]? = some ((⟨"MendedWithTheWord$Token", "isName", "(I)Z"⟩ : MethodName), prog_7_method_2_code, 1, (some .boolean), 6, 1, 1) := by rfl
theorem cl74 : mm_cl 74 = 6 := by unfold mm_cl; rw [mt74]
theorem mt75 : mm_tab[75]? = some ((⟨"MendedWithTheWord$Token", "isSign", "(I)Z"⟩ : MethodName), prog_7_method_3_code, 1, (some .boolean), 6, 1, 1) := by rfl
theorem cl75 : mm_cl 75 = 6 := by unfold mm_cl; rw [mt75]
theorem mt76 : mm_tab[76]? = some ((⟨"MendedWithTheWord$Token", "joins", "(I)I"⟩ : MethodName), prog_7_method_4_code, 1, (some .int), 6, 1, 1) := by rfl
theorem cl76 : mm_cl 76 = 6 := by unfold mm_cl; rw [mt76]
theorem mt77 : mm_tab[77]? = some ((⟨"MendedWithTheWord$Vase", "<init>", "(LMendedWithTheWord$Rules;)V"⟩ : MethodName), prog_8_method_1_code, 2, none, 7, 1, 2) := by rfl
theorem cl77 : mm_cl 77 = 7 := by unfold mm_cl; rw [mt77]
theorem mt78 : mm_tab[78]? = some ((⟨"MendedWithTheWord$Vase", "become", "(LMendedWithTheWord$Vase;)V"⟩ : MethodName), prog_8_method_2_code, 2, none, 7, 1, 0) := by rfl
theorem cl78 : mm_cl 78 = 7 := by unfold mm_cl; rw [mt78]
theorem mt79 : mm_tab[79]? = some ((⟨"MendedWithTheWord$Vase", "isPerson", "(I)Z"⟩ : MethodName), prog_8_method_3_code, 2, (some .boolean), 7, 1, 0) := by rfl
theorem cl79 : mm_cl 79 = 7 := by unfold mm_cl; rw [mt79]
theorem mt80 : mm_tab[80]? = some ((⟨"MendedWithTheWord$Vase", "isSeam", "(I)Z"⟩ : MethodName), prog_8_method_4_code, 2, (some .boolean), 7, 1, 0) := by rfl
theorem cl80 : mm_cl 80 = 7 := by unfold mm_cl; rw [mt80]
theorem mt81 : mm_tab[81]? = some ((⟨"MendedWithTheWord$Vase", "everybody", "()I"⟩ : MethodName), prog_8_method_5_code, 1, (some .int), 7, 0, 0) := by rfl
theorem cl81 : mm_cl 81 = 7 := by unfold mm_cl; rw [mt81]
theorem mt82 : mm_tab[82]? = some ((⟨"MendedWithTheWord$Vase", "addPerson", "(II)I"⟩ : MethodName), prog_8_method_6_code, 3, (some .int), 7, 2, 0) := by rfl
theorem cl82 : mm_cl 82 = 7 := by unfold mm_cl; rw [mt82]
theorem mt83 : mm_tab[83]? = some ((⟨"MendedWithTheWord$Vase", "addSeam", "(IIII)I"⟩ : MethodName), prog_8_method_7_code, 5, (some .int), 7, 4, 0) := by rfl
theorem cl83 : mm_cl 83 = 7 := by unfold mm_cl; rw [mt83]
theorem mt84 : mm_tab[84]? = some ((⟨"MendedWithTheWord$Vase", "has", "(II)Z"⟩ : MethodName), prog_8_method_8_code, 3, (some .boolean), 7, 2, 0) := by rfl
theorem cl84 : mm_cl 84 = 7 := by unfold mm_cl; rw [mt84]
theorem mt85 : mm_tab[85]? = some ((⟨"MendedWithTheWord$Vase", "get", "(II)I"⟩ : MethodName), prog_8_method_9_code, 3, (some .int), 7, 2, 0) := by rfl
theorem cl85 : mm_cl 85 = 7 := by unfold mm_cl; rw [mt85]
theorem mt86 : mm_tab[86]? = some ((⟨"MendedWithTheWord$Vase", "put", "(III)V"⟩ : MethodName), prog_8_method_10_code, 4, none, 7, 3, 0) := by rfl
theorem cl86 : mm_cl 86 = 7 := by unfold mm_cl; rw [mt86]
theorem mt87 : mm_tab[87]? = some ((⟨"MendedWithTheWord$Vase", "mended", "()I"⟩ : MethodName), prog_8_method_11_code, 3, (some .int), 7, 0, 0) := by rfl
theorem cl87 : mm_cl 87 = 7 := by unfold mm_cl; rw [mt87]
theorem mt88 : mm_tab[88]? = some ((⟨"MendedWithTheWord$Vase", "says", "(I)I"⟩ : MethodName), prog_8_method_12_code, 2, (some .int), 7, 1, 0) := by rfl
theorem cl88 : mm_cl 88 = 7 := by unfold mm_cl; rw [mt88]
theorem mt89 : mm_tab[89]? = some ((⟨"MendedWithTheWord$Vase", "slack", "(I)I"⟩ : MethodName), prog_8_method_13_code, 2, (some .int), 7, 1, 0) := by rfl
theorem cl89 : mm_cl 89 = 7 := by unfold mm_cl; rw [mt89]
theorem mt90 : mm_tab[90]? = some ((⟨"MendedWithTheWord$Vase", "takes", "(I)Z"⟩ : MethodName), prog_8_method_14_code, 2, (some .boolean), 7, 1, 0) := by rfl
theorem cl90 : mm_cl 90 = 7 := by unfold mm_cl; rw [mt90]
theorem mt91 : mm_tab[91]? = some ((⟨"MendedWithTheWord$Vase", "holds", "(I)Z"⟩ : MethodName), prog_8_method_15_code, 2, (some .boolean), 7, 1, 0) := by rfl
theorem cl91 : mm_cl 91 = 7 := by unfold mm_cl; rw [mt91]
theorem mt92 : mm_tab[92]? = some ((⟨"MendedWithTheWord$Vase", "holdsFo\x72", "(I)I"⟩ : MethodName), prog_8_method_16_code, 2, (some .int), 7, 1, 0) := by rfl
theorem cl92 : mm_cl 92 = 7 := by unfold mm_cl; rw [mt92]
theorem mt93 : mm_tab[93]? = some ((⟨"MendedWithTheWord$Vase", "telling", "(II)I"⟩ : MethodName), prog_8_method_17_code, 3, (some .int), 7, 2, 0) := by rfl
theorem cl93 : mm_cl 93 = 7 := by unfold mm_cl; rw [mt93]
theorem mt94 : mm_tab[94]? = some ((⟨"MendedWithTheWord$Vase", "holding", "()I"⟩ : MethodName), prog_8_method_18_code, 3, (some .int), 7, 0, 0) := by rfl
theorem cl94 : mm_cl 94 = 7 := by unfold mm_cl; rw [mt94]
theorem mt95 : mm_tab[95]? = some ((⟨"MendedWithTheWord$Vase", "taking", "()I"⟩ : MethodName), prog_8_method_19_code, 3, (some .int), 7, 0, 0) := by rfl
theorem cl95 : mm_cl 95 = 7 := by unfold mm_cl; rw [mt95]
theorem mt96 : mm_tab[96]? = some ((⟨"MendedWithTheWord$Vase", "brokenBy", "(I)I"⟩ : MethodName), prog_8_method_20_code, 4, (some .int), 7, 1, 0) := by rfl
theorem cl96 : mm_cl 96 = 7 := by unfold mm_cl; rw [mt96]
theorem mt97 : mm_tab[97]? = some ((⟨"MendedWithTheWord$Vase", "callPeople", "(I)I"⟩ : MethodName), prog_8_method_21_code, 5, (some .int), 7, 1, 0) := by rfl
theorem cl97 : mm_cl 97 = 7 := by unfold mm_cl; rw [mt97]
theorem mt98 : mm_tab[98]? = some ((⟨"MendedWithTheWord$Vase", "hasItsPieces", "(I)Z"⟩ : MethodName), prog_8_method_22_code, 2, (some .boolean), 7, 1, 0) := by rfl
theorem cl98 : mm_cl 98 = 7 := by unfold mm_cl; rw [mt98]
theorem mt99 : mm_tab[99]? = some ((⟨"MendedWithTheWord$Vase", "hanging", "(II)I"⟩ : MethodName), prog_8_method_23_code, 7, (some .int), 7, 2, 0) := by rfl
theorem cl99 : mm_cl 99 = 7 := by unfold mm_cl; rw [mt99]
theorem mt100 : mm_tab[100]? = some ((⟨"MendedWithTheWord$Vase", "parts", "(I)I"⟩ : MethodName), prog_8_method_24_code, 5, (some .int), 7, 1, 0) := by rfl
theorem cl100 : mm_cl 100 = 7 := by unfold mm_cl; rw [mt100]
theorem mt101 : mm_tab[101]? = some ((⟨"MendedWithTheWord$Vase", "isWhole", "()Z"⟩ : MethodName), prog_8_method_25_code, 1, (some .boolean), 7, 0, 0) := by rfl
theorem cl101 : mm_cl 101 = 7 := by unfold mm_cl; rw [mt101]
theorem mt102 : mm_tab[102]? = some ((⟨"MendedWithTheWord$Vase", "lastSeams", "()I"⟩ : MethodName), prog_8_method_26_code, 5, (some .int), 7, 0, 0) := by rfl
theorem cl102 : mm_cl 102 = 7 := by unfold mm_cl; rw [mt102]
theorem mt103 : mm_tab[103]? = some ((⟨"MendedWithTheWord$Vase", "firstOtherwise", "(ILMendedWithTheWord$Sheet;)I"⟩ : MethodName), prog_8_method_27_code, 4, (some .int), 7, 2, 0) := by rfl
theorem cl103 : mm_cl 103 = 7 := by unfold mm_cl; rw [mt103]
theorem mt104 : mm_tab[104]? = some ((⟨"MendedWithTheWord$Vase", "fitting", "(IIILMendedWithTheWord$Sheet;)I"⟩ : MethodName), prog_8_method_28_code, 8, (some .int), 7, 4, 0) := by rfl
theorem cl104 : mm_cl 104 = 7 := by unfold mm_cl; rw [mt104]
theorem mt105 : mm_tab[105]? = some ((⟨"MendedWithTheWord$Vase", "fittingTones", "(ILMendedWithTheWord$Sheet;)I"⟩ : MethodName), prog_8_method_29_code, 5, (some .int), 7, 2, 0) := by rfl
theorem cl105 : mm_cl 105 = 7 := by unfold mm_cl; rw [mt105]
theorem mt106 : mm_tab[106]? = some ((⟨"MendedWithTheWord$Vase", "leastFittingTone", "(ILMendedWithTheWord$Sheet;)I"⟩ : MethodName), prog_8_method_30_code, 4, (some .int), 7, 2, 0) := by rfl
theorem cl106 : mm_cl 106 = 7 := by unfold mm_cl; rw [mt106]
theorem mt107 : mm_tab[107]? = some ((⟨"MendedWithTheWord$Vase", "drawTones", "(I)V"⟩ : MethodName), prog_8_method_31_code, 4, none, 7, 1, 0) := by rfl
theorem cl107 : mm_cl 107 = 7 := by unfold mm_cl; rw [mt107]
theorem mt108 : mm_tab[108]? = some ((⟨"MendedWithTheWordModel", "in", "(JJJ)Z"⟩ : MethodName), prog_10_method_2_code, 6, (some .boolean), 8, 3, 1) := by rfl
theorem cl108 : mm_cl 108 = 8 := by unfold mm_cl; rw [mt108]
theorem mt109 : mm_tab[109]? = some ((⟨"MendedWithTheWordModel", "within", "(III)I"⟩ : MethodName), prog_10_method_3_code, 3, (some .int), 8, 3, 1) := by rfl
theorem cl109 : mm_cl 109 = 8 := by unfold mm_cl; rw [mt109]
theorem mt110 : mm_tab[110]? = some ((⟨"MendedWithTheWordModel", "<init>", "()V"⟩ : MethodName), prog_10_method_4_code, 1, none, 8, 0, 2) := by rfl
theorem cl110 : mm_cl 110 = 8 := by unfold mm_cl; rw [mt110]
theorem mt111 : mm_tab[111]? = some ((⟨"MendedWithTheWordModel", "spell", "(IIIIIIIII)V"⟩ : MethodName), prog_10_method_5_code, 10, none, 8, 9, 0) := by rfl
theorem cl111 : mm_cl 111 = 8 := by unfold mm_cl; rw [mt111]
theorem mt112 : mm_tab[112]? = some ((⟨"MendedWithTheWordModel", "isOne", "(I)Z"⟩ : MethodName), prog_10_method_6_code, 2, (some .boolean), 8, 1, 0) := by rfl
theorem cl112 : mm_cl 112 = 8 := by unfold mm_cl; rw [mt112]
theorem mt113 : mm_tab[113]? = some ((⟨"MendedWithTheWordModel", "isSeam", "(I)Z"⟩ : MethodName), prog_10_method_7_code, 2, (some .boolean), 8, 1, 0) := by rfl
theorem cl113 : mm_cl 113 = 8 := by unfold mm_cl; rw [mt113]
theorem mt114 : mm_tab[114]? = some ((⟨"MendedWithTheWordModel", "isOf", "(II)Z"⟩ : MethodName), prog_10_method_8_code, 3, (some .boolean), 8, 2, 0) := by rfl
theorem cl114 : mm_cl 114 = 8 := by unfold mm_cl; rw [mt114]
theorem mt115 : mm_tab[115]? = some ((⟨"MendedWithTheWordModel", "isValue", "(II)Z"⟩ : MethodName), prog_10_method_9_code, 3, (some .boolean), 8, 2, 0) := by rfl
theorem cl115 : mm_cl 115 = 8 := by unfold mm_cl; rw [mt115]
theorem mt116 : mm_tab[116]? = some ((⟨"MendedWithTheWordModel", "set", "(III)I"⟩ : MethodName), prog_10_method_10_code, 5, (some .int), 8, 3, 0) := by rfl
theorem cl116 : mm_cl 116 = 8 := by unfold mm_cl; rw [mt116]
theorem mt117 : mm_tab[117]? = some ((⟨"MendedWithTheWordModel", "lays", "(III)V"⟩ : MethodName), prog_10_method_11_code, 4, none, 8, 3, 0) := by rfl
theorem cl117 : mm_cl 117 = 8 := by unfold mm_cl; rw [mt117]
theorem mt118 : mm_tab[118]? = some ((⟨"MendedWithTheWordModel", "person", "(II)I"⟩ : MethodName), prog_10_method_12_code, 3, (some .int), 8, 2, 0) := by rfl
theorem cl118 : mm_cl 118 = 8 := by unfold mm_cl; rw [mt118]
theorem mt119 : mm_tab[119]? = some ((⟨"MendedWithTheWordModel", "seam", "(III)I"⟩ : MethodName), prog_10_method_13_code, 4, (some .int), 8, 3, 0) := by rfl
theorem cl119 : mm_cl 119 = 8 := by unfold mm_cl; rw [mt119]
theorem mt120 : mm_tab[120]? = some ((⟨"MendedWithTheWordModel", "told", "(II)I"⟩ : MethodName), prog_10_method_14_code, 3, (some .int), 8, 2, 0) := by rfl
theorem cl120 : mm_cl 120 = 8 := by unfold mm_cl; rw [mt120]
theorem mt121 : mm_tab[121]? = some ((⟨"MendedWithTheWordModel", "feed", "(I)I"⟩ : MethodName), prog_10_method_15_code, 2, (some .int), 8, 1, 0) := by rfl
theorem cl121 : mm_cl 121 = 8 := by unfold mm_cl; rw [mt121]
theorem mt122 : mm_tab[122]? = some ((⟨"MendedWithTheWordModel", "byteAt", "(I)I"⟩ : MethodName), prog_10_method_16_code, 2, (some .int), 8, 1, 0) := by rfl
theorem cl122 : mm_cl 122 = 8 := by unfold mm_cl; rw [mt122]
theorem mt123 : mm_tab[123]? = some ((⟨"MendedWithTheWordModel", "next", "()V"⟩ : MethodName), prog_10_method_17_code, 3, none, 8, 0, 0) := by rfl
theorem cl123 : mm_cl 123 = 8 := by unfold mm_cl; rw [mt123]
theorem mt124 : mm_tab[124]? = some ((⟨"MendedWithTheWordModel", "fail", "()V"⟩ : MethodName), prog_10_method_18_code, 1, none, 8, 0, 0) := by rfl
theorem cl124 : mm_cl 124 = 8 := by unfold mm_cl; rw [mt124]
theorem mt125 : mm_tab[125]? = some ((⟨"MendedWithTheWordModel", "isLette\x72", "(II)Z"⟩ : MethodName), prog_10_method_19_code, 3, (some .boolean), 8, 2, 0) := by rfl
theorem cl125 : mm_cl 125 = 8 := by unfold mm_cl; rw [mt125]
theorem mt126 : mm_tab[126]? = some ((⟨"MendedWithTheWordModel", "isWord", "(IIIIIIII)Z"⟩ : MethodName), prog_10_method_20_code, 9, (some .boolean), 8, 8, 0) := by rfl
theorem cl126 : mm_cl 126 = 8 := by unfold mm_cl; rw [mt126]
theorem mt127 : mm_tab[127]? = some ((⟨"MendedWithTheWordModel", "isSign", "(I)Z"⟩ : MethodName), prog_10_method_21_code, 2, (some .boolean), 8, 1, 0) := by rfl
theorem cl127 : mm_cl 127 = 8 := by unfold mm_cl; rw [mt127]
theorem mt128 : mm_tab[128]? = some ((⟨"MendedWithTheWordModel", "opens", "()Z"⟩ : MethodName), prog_10_method_22_code, 1, (some .boolean), 8, 0, 0) := by rfl
theorem cl128 : mm_cl 128 = 8 := by unfold mm_cl; rw [mt128]
theorem mt129 : mm_tab[129]? = some ((⟨"MendedWithTheWordModel", "name", "()I"⟩ : MethodName), prog_10_method_23_code, 1, (some .int), 8, 0, 0) := by rfl
theorem cl129 : mm_cl 129 = 8 := by unfold mm_cl; rw [mt129]
theorem mt130 : mm_tab[130]? = some ((⟨"MendedWithTheWordModel", "atom5", "()I"⟩ : MethodName), prog_10_method_24_code, 2, (some .int), 8, 0, 0) := by rfl
theorem cl130 : mm_cl 130 = 8 := by unfold mm_cl; rw [mt130]
theorem mt131 : mm_tab[131]? = some ((⟨"MendedWithTheWordModel", "term5", "()I"⟩ : MethodName), prog_10_method_25_code, 2, (some .int), 8, 0, 0) := by rfl
theorem cl131 : mm_cl 131 = 8 := by unfold mm_cl; rw [mt131]
theorem mt132 : mm_tab[132]? = some ((⟨"MendedWithTheWordModel", "added5", "()I"⟩ : MethodName), prog_10_method_26_code, 4, (some .int), 8, 0, 0) := by rfl
theorem cl132 : mm_cl 132 = 8 := by unfold mm_cl; rw [mt132]
theorem mt133 : mm_tab[133]? = some ((⟨"MendedWithTheWordModel", "not5", "()I"⟩ : MethodName), prog_10_method_27_code, 4, (some .int), 8, 0, 0) := by rfl
theorem cl133 : mm_cl 133 = 8 := by unfold mm_cl; rw [mt133]
theorem mt134 : mm_tab[134]? = some ((⟨"MendedWithTheWordModel", "both5", "()I"⟩ : MethodName), prog_10_method_28_code, 3, (some .int), 8, 0, 0) := by rfl
theorem cl134 : mm_cl 134 = 8 := by unfold mm_cl; rw [mt134]
theorem mt135 : mm_tab[135]? = some ((⟨"MendedWithTheWordModel", "either5", "()I"⟩ : MethodName), prog_10_method_29_code, 3, (some .int), 8, 0, 0) := by rfl
theorem cl135 : mm_cl 135 = 8 := by unfold mm_cl; rw [mt135]
theorem mt136 : mm_tab[136]? = some ((⟨"MendedWithTheWordModel", "atom4", "()I"⟩ : MethodName), prog_10_method_30_code, 2, (some .int), 8, 0, 0) := by rfl
theorem cl136 : mm_cl 136 = 8 := by unfold mm_cl; rw [mt136]
theorem mt137 : mm_tab[137]? = some ((⟨"MendedWithTheWordModel", "term4", "()I"⟩ : MethodName), prog_10_method_31_code, 2, (some .int), 8, 0, 0) := by rfl
theorem cl137 : mm_cl 137 = 8 := by unfold mm_cl; rw [mt137]
theorem mt138 : mm_tab[138]? = some ((⟨"MendedWithTheWordModel", "added4", "()I"⟩ : MethodName), prog_10_method_32_code, 4, (some .int), 8, 0, 0) := by rfl
theorem cl138 : mm_cl 138 = 8 := by unfold mm_cl; rw [mt138]
theorem mt139 : mm_tab[139]? = some ((⟨"MendedWithTheWordModel", "not4", "()I"⟩ : MethodName), prog_10_method_33_code, 4, (some .int), 8, 0, 0) := by rfl
theorem cl139 : mm_cl 139 = 8 := by unfold mm_cl; rw [mt139]
theorem mt140 : mm_tab[140]? = some ((⟨"MendedWithTheWordModel", "both4", "()I"⟩ : MethodName), prog_10_method_34_code, 3, (some .int), 8, 0, 0) := by rfl
theorem cl140 : mm_cl 140 = 8 := by unfold mm_cl; rw [mt140]
theorem mt141 : mm_tab[141]? = some ((⟨"MendedWithTheWordModel", "either4", "()I"⟩ : MethodName), prog_10_method_35_code, 3, (some .int), 8, 0, 0) := by rfl
theorem cl141 : mm_cl 141 = 8 := by unfold mm_cl; rw [mt141]
theorem mt142 : mm_tab[142]? = some ((⟨"MendedWithTheWordModel", "atom3", "()I"⟩ : MethodName), prog_10_method_36_code, 2, (some .int), 8, 0, 0) := by rfl
theorem cl142 : mm_cl 142 = 8 := by unfold mm_cl; rw [mt142]
theorem mt143 : mm_tab[143]? = some ((⟨"MendedWithTheWordModel", "term3", "()I"⟩ : MethodName), prog_10_method_37_code, 2, (some .int), 8, 0, 0) := by rfl
theorem cl143 : mm_cl 143 = 8 := by unfold mm_cl; rw [mt143]
theorem mt144 : mm_tab[144]? = some ((⟨"MendedWithTheWordModel", "added3", "()I"⟩ : MethodName), prog_10_method_38_code, 4, (some .int), 8, 0, 0) := by rfl
theorem cl144 : mm_cl 144 = 8 := by unfold mm_cl; rw [mt144]
theorem mt145 : mm_tab[145]? = some ((⟨"MendedWithTheWordModel", "not3", "()I"⟩ : MethodName), prog_10_method_39_code, 4, (some .int), 8, 0, 0) := by rfl
theorem cl145 : mm_cl 145 = 8 := by unfold mm_cl; rw [mt145]
theorem mt146 : mm_tab[146]? = some ((⟨"MendedWithTheWordModel", "both3", "()I"⟩ : MethodName), prog_10_method_40_code, 3, (some .int), 8, 0, 0) := by rfl
theorem cl146 : mm_cl 146 = 8 := by unfold mm_cl; rw [mt146]
theorem mt147 : mm_tab[147]? = some ((⟨"MendedWithTheWordModel", "either3", "()I"⟩ : MethodName), prog_10_method_41_code, 3, (some .int), 8, 0, 0) := by rfl
theorem cl147 : mm_cl 147 = 8 := by unfold mm_cl; rw [mt147]
theorem mt148 : mm_tab[148]? = some ((⟨"MendedWithTheWordModel", "atom2", "()I"⟩ : MethodName), prog_10_method_42_code, 2, (some .int), 8, 0, 0) := by rfl
theorem cl148 : mm_cl 148 = 8 := by unfold mm_cl; rw [mt148]
theorem mt149 : mm_tab[149]? = some ((⟨"MendedWithTheWordModel", "term2", "()I"⟩ : MethodName), prog_10_method_43_code, 2, (some .int), 8, 0, 0) := by rfl
theorem cl149 : mm_cl 149 = 8 := by unfold mm_cl; rw [mt149]
theorem mt150 : mm_tab[150]? = some ((⟨"MendedWithTheWordModel", "added2", "()I"⟩ : MethodName), prog_10_method_44_code, 4, (some .int), 8, 0, 0) := by rfl
theorem cl150 : mm_cl 150 = 8 := by unfold mm_cl; rw [mt150]
theorem mt151 : mm_tab[151]? = some ((⟨"MendedWithTheWordModel", "not2", "()I"⟩ : MethodName), prog_10_method_45_code, 4, (some .int), 8, 0, 0) := by rfl
theorem cl151 : mm_cl 151 = 8 := by unfold mm_cl; rw [mt151]
theorem mt152 : mm_tab[152]? = some ((⟨"MendedWithTheWordModel", "both2", "()I"⟩ : MethodName), prog_10_method_46_code, 3, (some .int), 8, 0, 0) := by rfl
theorem cl152 : mm_cl 152 = 8 := by unfold mm_cl; rw [mt152]
theorem mt153 : mm_tab[153]? = some ((⟨"MendedWithTheWordModel", "either2", "()I"⟩ : MethodName), prog_10_method_47_code, 3, (some .int), 8, 0, 0) := by rfl
theorem cl153 : mm_cl 153 = 8 := by unfold mm_cl; rw [mt153]
theorem mt154 : mm_tab[154]? = some ((⟨"MendedWithTheWordModel", "atom1", "()I"⟩ : MethodName), prog_10_method_48_code, 2, (some .int), 8, 0, 0) := by rfl
theorem cl154 : mm_cl 154 = 8 := by unfold mm_cl; rw [mt154]
theorem mt155 : mm_tab[155]? = some ((⟨"MendedWithTheWordModel", "term1", "()I"⟩ : MethodName), prog_10_method_49_code, 2, (some .int), 8, 0, 0) := by rfl
theorem cl155 : mm_cl 155 = 8 := by unfold mm_cl; rw [mt155]
theorem mt156 : mm_tab[156]? = some ((⟨"MendedWithTheWordModel", "added1", "()I"⟩ : MethodName), prog_10_method_50_code, 4, (some .int), 8, 0, 0) := by rfl
theorem cl156 : mm_cl 156 = 8 := by unfold mm_cl; rw [mt156]
theorem mt157 : mm_tab[157]? = some ((⟨"MendedWithTheWordModel", "not1", "()I"⟩ : MethodName), prog_10_method_51_code, 4, (some .int), 8, 0, 0) := by rfl
theorem cl157 : mm_cl 157 = 8 := by unfold mm_cl; rw [mt157]
theorem mt158 : mm_tab[158]? = some ((⟨"MendedWithTheWordModel", "both1", "()I"⟩ : MethodName), prog_10_method_52_code, 3, (some .int), 8, 0, 0) := by rfl
theorem cl158 : mm_cl 158 = 8 := by unfold mm_cl; rw [mt158]
theorem mt159 : mm_tab[159]? = some ((⟨"MendedWithTheWordModel", "either1", "()I"⟩ : MethodName), prog_10_method_53_code, 3, (some .int), 8, 0, 0) := by rfl
theorem cl159 : mm_cl 159 = 8 := by unfold mm_cl; rw [mt159]
theorem mt160 : mm_tab[160]? = some ((⟨"MendedWithTheWordModel", "atom0", "()I"⟩ : MethodName), prog_10_method_54_code, 2, (some .int), 8, 0, 0) := by rfl
theorem cl160 : mm_cl 160 = 8 := by unfold mm_cl; rw [mt160]
theorem mt161 : mm_tab[161]? = some ((⟨"MendedWithTheWordModel", "term0", "()I"⟩ : MethodName), prog_10_method_55_code, 2, (some .int), 8, 0, 0) := by rfl
theorem cl161 : mm_cl 161 = 8 := by unfold mm_cl; rw [mt161]
theorem mt162 : mm_tab[162]? = some ((⟨"MendedWithTheWordModel", "added0", "()I"⟩ : MethodName), prog_10_method_56_code, 4, (some .int), 8, 0, 0) := by rfl
theorem cl162 : mm_cl 162 = 8 := by unfold mm_cl; rw [mt162]
theorem mt163 : mm_tab[163]? = some ((⟨"MendedWithTheWordModel", "not0", "()I"⟩ : MethodName), prog_10_method_57_code, 4, (some .int), 8, 0, 0) := by rfl
theorem cl163 : mm_cl 163 = 8 := by unfold mm_cl; rw [mt163]
theorem mt164 : mm_tab[164]? = some ((⟨"MendedWithTheWordModel", "both0", "()I"⟩ : MethodName), prog_10_method_58_code, 3, (some .int), 8, 0, 0) := by rfl
theorem cl164 : mm_cl 164 = 8 := by unfold mm_cl; rw [mt164]
theorem mt165 : mm_tab[165]? = some ((⟨"MendedWithTheWordModel", "either0", "()I"⟩ : MethodName), prog_10_method_59_code, 3, (some .int), 8, 0, 0) := by rfl
theorem cl165 : mm_cl 165 = 8 := by unfold mm_cl; rw [mt165]
theorem mt166 : mm_tab[166]? = some ((⟨"MendedWithTheWordModel", "part", "(Z)I"⟩ : MethodName), prog_10_method_60_code, 3, (some .int), 8, 1, 0) := by rfl
theorem cl166 : mm_cl 166 = 8 := by unfold mm_cl; rw [mt166]
theorem mt167 : mm_tab[167]? = some ((⟨"MendedWithTheWordModel", "read", "(II)I"⟩ : MethodName), prog_10_method_61_code, 6, (some .int), 8, 2, 0) := by rfl
theorem cl167 : mm_cl 167 = 8 := by unfold mm_cl; rw [mt167]
theorem mt168 : mm_tab[168]? = some ((⟨"MendedWithTheWordModel", "text", "()I"⟩ : MethodName), prog_10_method_62_code, 2, (some .int), 8, 0, 0) := by rfl
theorem cl168 : mm_cl 168 = 8 := by unfold mm_cl; rw [mt168]
theorem mt169 : mm_tab[169]? = some ((⟨"MendedWithTheWordModel", "force", "(I)I"⟩ : MethodName), prog_10_method_63_code, 3, (some .int), 8, 1, 0) := by rfl
theorem cl169 : mm_cl 169 = 8 := by unfold mm_cl; rw [mt169]
theorem mt170 : mm_tab[170]? = some ((⟨"MendedWithTheWordModel", "mendedMany", "()I"⟩ : MethodName), prog_10_method_64_code, 3, (some .int), 8, 0, 0) := by rfl
theorem cl170 : mm_cl 170 = 8 := by unfold mm_cl; rw [mt170]
theorem mt171 : mm_tab[171]? = some ((⟨"MendedWithTheWordModel", "asks", "(IIII)I"⟩ : MethodName), prog_10_method_65_code, 5, (some .int), 8, 4, 0) := by rfl
theorem cl171 : mm_cl 171 = 8 := by unfold mm_cl; rw [mt171]
theorem mt172 : mm_tab[172]? = some ((⟨"MendedWithTheWordModel", "saysOf", "(III)I"⟩ : MethodName), prog_10_method_66_code, 9, (some .int), 8, 3, 0) := by rfl
theorem cl172 : mm_cl 172 = 8 := by unfold mm_cl; rw [mt172]
theorem mt173 : mm_tab[173]? = some ((⟨"MendedWithTheWordModel", "slackOf", "(II)I"⟩ : MethodName), prog_10_method_67_code, 8, (some .int), 8, 2, 0) := by rfl
theorem cl173 : mm_cl 173 = 8 := by unfold mm_cl; rw [mt173]
theorem mt174 : mm_tab[174]? = some ((⟨"MendedWithTheWordModel", "holdsFo\x72", "(I)I"⟩ : MethodName), prog_10_method_68_code, 5, (some .int), 8, 1, 0) := by rfl
theorem cl174 : mm_cl 174 = 8 := by unfold mm_cl; rw [mt174]
theorem mt175 : mm_tab[175]? = some ((⟨"MendedWithTheWordModel", "takesOn", "(II)Z"⟩ : MethodName), prog_10_method_69_code, 5, (some .boolean), 8, 2, 0) := by rfl
theorem cl175 : mm_cl 175 = 8 := by unfold mm_cl; rw [mt175]
theorem mt176 : mm_tab[176]? = some ((⟨"MendedWithTheWordModel", "isHeld", "(I)Z"⟩ : MethodName), prog_10_method_70_code, 2, (some .boolean), 8, 1, 0) := by rfl
theorem cl176 : mm_cl 176 = 8 := by unfold mm_cl; rw [mt176]
theorem mt177 : mm_tab[177]? = some ((⟨"MendedWithTheWordModel", "heldSet", "()I"⟩ : MethodName), prog_10_method_71_code, 3, (some .int), 8, 0, 0) := by rfl
theorem cl177 : mm_cl 177 = 8 := by unfold mm_cl; rw [mt177]
theorem mt178 : mm_tab[178]? = some ((⟨"MendedWithTheWordModel", "takenSet", "()I"⟩ : MethodName), prog_10_method_72_code, 3, (some .int), 8, 0, 0) := by rfl
theorem cl178 : mm_cl 178 = 8 := by unfold mm_cl; rw [mt178]
theorem mt179 : mm_tab[179]? = some ((⟨"MendedWithTheWordModel", "bitsOf", "(I)I"⟩ : MethodName), prog_10_method_73_code, 3, (some .int), 8, 1, 1) := by rfl
theorem cl179 : mm_cl 179 = 8 := by unfold mm_cl; rw [mt179]
theorem mt180 : mm_tab[180]? = some ((⟨"MendedWithTheWordModel", "partBy", "(II)I"⟩ : MethodName), prog_10_method_74_code, 8, (some .int), 8, 2, 0) := by rfl
theorem cl180 : mm_cl 180 = 8 := by unfold mm_cl; rw [mt180]
theorem mt181 : mm_tab[181]? = some ((⟨"MendedWithTheWordModel", "partsBy", "(I)I"⟩ : MethodName), prog_10_method_75_code, 5, (some .int), 8, 1, 0) := by rfl
theorem cl181 : mm_cl 181 = 8 := by unfold mm_cl; rw [mt181]
theorem mt182 : mm_tab[182]? = some ((⟨"MendedWithTheWordModel", "partsNow", "()I"⟩ : MethodName), prog_10_method_76_code, 1, (some .int), 8, 0, 0) := by rfl
theorem cl182 : mm_cl 182 = 8 := by unfold mm_cl; rw [mt182]
theorem mt183 : mm_tab[183]? = some ((⟨"MendedWithTheWordModel", "calls", "(I)I"⟩ : MethodName), prog_10_method_77_code, 5, (some .int), 8, 1, 0) := by rfl
theorem cl183 : mm_cl 183 = 8 := by unfold mm_cl; rw [mt183]
theorem mt184 : mm_tab[184]? = some ((⟨"MendedWithTheWordModel", "call", "(I)I"⟩ : MethodName), prog_10_method_78_code, 2, (some .int), 8, 1, 0) := by rfl
theorem cl184 : mm_cl 184 = 8 := by unfold mm_cl; rw [mt184]
theorem mt185 : mm_tab[185]? = some ((⟨"MendedWithTheWordModel", "lastSet", "()I"⟩ : MethodName), prog_10_method_79_code, 5, (some .int), 8, 0, 0) := by rfl
theorem cl185 : mm_cl 185 = 8 := by unfold mm_cl; rw [mt185]
theorem mt186 : mm_tab[186]? = some ((⟨"MendedWithTheWordModel", "vase", "(I)I"⟩ : MethodName), prog_10_method_80_code, 2, (some .int), 8, 1, 0) := by rfl
theorem cl186 : mm_cl 186 = 8 := by unfold mm_cl; rw [mt186]
theorem mt187 : mm_tab[187]? = some ((⟨"MendedWithTheWordModel", "part", "(I)I"⟩ : MethodName), prog_10_method_81_code, 2, (some .int), 8, 1, 0) := by rfl
theorem cl187 : mm_cl 187 = 8 := by unfold mm_cl; rw [mt187]
theorem mt188 : mm_tab[188]? = some ((⟨"MendedWithTheWordModel", "when", "(I)I"⟩ : MethodName), prog_10_method_82_code, 6, (some .int), 8, 1, 0) := by rfl
theorem cl188 : mm_cl 188 = 8 := by unfold mm_cl; rw [mt188]
theorem mt189 : mm_tab[189]? = some ((⟨"MendedWithTheWordModel", "laysAside", "()V"⟩ : MethodName), prog_10_method_83_code, 2, none, 8, 0, 0) := by rfl
theorem cl189 : mm_cl 189 = 8 := by unfold mm_cl; rw [mt189]
theorem mt190 : mm_tab[190]? = some ((⟨"MendedWithTheWordModel", "laysBack", "()V"⟩ : MethodName), prog_10_method_84_code, 2, none, 8, 0, 0) := by rfl
theorem cl190 : mm_cl 190 = 8 := by unfold mm_cl; rw [mt190]
theorem mt191 : mm_tab[191]? = some ((⟨"MendedWithTheWordModel", "partsIf", "(I)I"⟩ : MethodName), prog_10_method_85_code, 3, (some .int), 8, 1, 0) := by rfl
theorem cl191 : mm_cl 191 = 8 := by unfold mm_cl; rw [mt191]
theorem mt192 : mm_tab[192]? = some ((⟨"MendedWithTheWordModel", "fewest", "(I)I"⟩ : MethodName), prog_10_method_86_code, 4, (some .int), 8, 1, 0) := by rfl
theorem cl192 : mm_cl 192 = 8 := by unfold mm_cl; rw [mt192]
theorem mt193 : mm_tab[193]? = some ((⟨"MendedWithTheWordModel", "everybody", "()I"⟩ : MethodName), prog_10_method_87_code, 1, (some .int), 8, 0, 0) := by rfl
theorem cl193 : mm_cl 193 = 8 := by unfold mm_cl; rw [mt193]
theorem mt194 : mm_tab[194]? = some ((⟨"MendedWithTheWordModel", "wanted", "(I)I"⟩ : MethodName), prog_10_method_88_code, 6, (some .int), 8, 1, 0) := by rfl
theorem cl194 : mm_cl 194 = 8 := by unfold mm_cl; rw [mt194]
theorem mt195 : mm_tab[195]? = some ((⟨"MendedWithTheWordModel", "soon", "()I"⟩ : MethodName), prog_10_method_89_code, 4, (some .int), 8, 0, 0) := by rfl
theorem cl195 : mm_cl 195 = 8 := by unfold mm_cl; rw [mt195]
theorem mt196 : mm_tab[196]? = some ((⟨"MendedWithTheWordModel", "gentle\x72", "()I"⟩ : MethodName), prog_10_method_90_code, 3, (some .int), 8, 0, 0) := by rfl
theorem cl196 : mm_cl 196 = 8 := by unfold mm_cl; rw [mt196]
theorem mt197 : mm_tab[197]? = some ((⟨"MendedWithTheWordModel", "firstOthe\x72", "(III)I"⟩ : MethodName), prog_10_method_91_code, 5, (some .int), 8, 3, 0) := by rfl
theorem cl197 : mm_cl 197 = 8 := by unfold mm_cl; rw [mt197]
theorem mt198 : mm_tab[198]? = some ((⟨"MendedWithTheWordModel", "tells", "(IIII)I"⟩ : MethodName), prog_10_method_92_code, 13, (some .int), 8, 4, 0) := by rfl
theorem cl198 : mm_cl 198 = 8 := by unfold mm_cl; rw [mt198]
theorem mt199 : mm_tab[199]? = some ((⟨"MendedWithTheWordModel", "film", "(IIII)I"⟩ : MethodName), prog_10_method_93_code, 6, (some .int), 8, 4, 0) := by rfl
theorem cl199 : mm_cl 199 = 8 := by unfold mm_cl; rw [mt199]
theorem mt200 : mm_tab[200]? = some ((⟨"MendedWithTheWordModel", "draws", "(I)V"⟩ : MethodName), prog_10_method_94_code, 4, none, 8, 1, 0) := by rfl
theorem cl200 : mm_cl 200 = 8 := by unfold mm_cl; rw [mt200]
theorem mt201 : mm_tab[201]? = some ((⟨"MendedWithTheWordModel", "tonesAgain", "()V"⟩ : MethodName), prog_10_method_95_code, 2, none, 8, 0, 0) := by rfl
theorem cl201 : mm_cl 201 = 8 := by unfold mm_cl; rw [mt201]
theorem mt202 : mm_tab[202]? = some ((⟨"MendedWithTheWordModel", "drawn", "(I)I"⟩ : MethodName), prog_10_method_96_code, 3, (some .int), 8, 1, 0) := by rfl
theorem cl202 : mm_cl 202 = 8 := by unfold mm_cl; rw [mt202]
theorem mt203 : mm_tab[203]? = some ((⟨"MendedWithTheWordModel", "chance", "(III)J"⟩ : MethodName), prog_10_method_97_code, 12, (some .long), 8, 3, 0) := by rfl
theorem cl203 : mm_cl 203 = 8 := by unfold mm_cl; rw [mt203]
theorem mt204 : mm_tab[204]? = some ((⟨"MendedWithTheWordModel", "image", "()I"⟩ : MethodName), prog_10_method_98_code, 2, (some .int), 8, 0, 0) := by rfl
theorem cl204 : mm_cl 204 = 8 := by unfold mm_cl; rw [mt204]
theorem mt205 : mm_tab[205]? = some ((⟨"MendedWithTheWordModel", "back", "()I"⟩ : MethodName), prog_10_method_99_code, 2, (some .int), 8, 0, 0) := by rfl
theorem cl205 : mm_cl 205 = 8 := by unfold mm_cl; rw [mt205]
theorem mt206 : mm_tab[206]? = some ((⟨"MendedWithTheWordModel", "count", "(I)I"⟩ : MethodName), prog_10_method_100_code, 2, (some .int), 8, 1, 0) := by rfl
theorem cl206 : mm_cl 206 = 8 := by unfold mm_cl; rw [mt206]
theorem mt207 : mm_tab[207]? = some ((⟨"MendedWithTheWordModel", "isSheet", "(I)Z"⟩ : MethodName), prog_10_method_101_code, 1, (some .boolean), 8, 1, 1) := by rfl
theorem cl207 : mm_cl 207 = 8 := by unfold mm_cl; rw [mt207]
theorem mt208 : mm_tab[208]? = some ((⟨"MendedWithTheWordModel", "sheet", "(III)I"⟩ : MethodName), prog_10_method_102_code, 5, (some .int), 8, 3, 0) := by rfl
theorem cl208 : mm_cl 208 = 8 := by unfold mm_cl; rw [mt208]
theorem mt209 : mm_tab[209]? = some ((⟨"MendedWithTheWordModel", "cell", "(III)I"⟩ : MethodName), prog_10_method_103_code, 4, (some .int), 8, 3, 0) := by rfl
theorem cl209 : mm_cl 209 = 8 := by unfold mm_cl; rw [mt209]
theorem mt210 : mm_tab[210]? = some ((⟨"MendedWithTheWordModel", "copy", "(IIIII)I"⟩ : MethodName), prog_10_method_104_code, 9, (some .int), 8, 5, 0) := by rfl
theorem cl210 : mm_cl 210 = 8 := by unfold mm_cl; rw [mt210]
theorem mt211 : mm_tab[211]? = some ((⟨"MendedWithTheWordModel", "people", "(IIII)I"⟩ : MethodName), prog_10_method_105_code, 8, (some .int), 8, 4, 0) := by rfl
theorem cl211 : mm_cl 211 = 8 := by unfold mm_cl; rw [mt211]
theorem mt212 : mm_tab[212]? = some ((⟨"MendedWithTheWordModel", "ove\x72", "(I)I"⟩ : MethodName), prog_10_method_106_code, 1, (some .int), 8, 1, 1) := by rfl
theorem cl212 : mm_cl 212 = 8 := by unfold mm_cl; rw [mt212]
theorem mt213 : mm_tab[213]? = some ((⟨"MendedWithTheWordModel", "taken", "(II)I"⟩ : MethodName), prog_10_method_107_code, 4, (some .int), 8, 2, 0) := by rfl
theorem cl213 : mm_cl 213 = 8 := by unfold mm_cl; rw [mt213]
theorem mt214 : mm_tab[214]? = some ((⟨"java/lang/Intege\x72", "bitCount", "(I)I"⟩ : MethodName), prog_12_method_49_code, 1, (some .int), 10, 1, 1) := by rfl
theorem cl214 : mm_cl 214 = 10 := by unfold mm_cl; rw [mt214]
theorem mt215 : mm_tab[215]? = some ((⟨"java/lang/String", "length", "()I"⟩ : MethodName), prog_14_method_54_code, 1, (some .int), 12, 0, 0) := by rfl
theorem cl215 : mm_cl 215 = 12 := by unfold mm_cl; rw [mt215]
theorem mt216 : mm_tab[216]? = some ((⟨"java/lang/String", "charAt", "(I)C"⟩ : MethodName), prog_14_method_56_code, 2, (some .char), 12, 1, 0) := by rfl
theorem cl216 : mm_cl 216 = 12 := by unfold mm_cl; rw [mt216]
theorem mt217 : mm_tab[217]? = some ((⟨"java/lang/String", "code\x72", "()B"⟩ : MethodName), prog_14_method_152_code, 1, (some .byte), 12, 0, 0) := by rfl
theorem cl217 : mm_cl 217 = 12 := by unfold mm_cl; rw [mt217]
theorem mt218 : mm_tab[218]? = some ((⟨"java/lang/String", "isLatin1", "()Z"⟩ : MethodName), prog_14_method_154_code, 1, (some .boolean), 12, 0, 0) := by rfl
theorem cl218 : mm_cl 218 = 12 := by unfold mm_cl; rw [mt218]
theorem mt219 : mm_tab[219]? = some ((⟨"java/lang/String", "checkIndex", "(II)V"⟩ : MethodName), prog_14_method_155_code, 2, none, 12, 2, 1) := by rfl
theorem cl219 : mm_cl 219 = 12 := by unfold mm_cl; rw [mt219]
theorem mt220 : mm_tab[220]? = some ((⟨"java/lang/StringLatin1", "charAt", "([BI)C"⟩ : MethodName), prog_15_method_2_code, 2, (some .char), 13, 2, 1) := by rfl
theorem cl220 : mm_cl 220 = 13 := by unfold mm_cl; rw [mt220]
theorem mt221 : mm_tab[221]? = some ((⟨"java/util/Arrays", "fill", "([II)V"⟩ : MethodName), prog_18_method_103_code, 4, none, 14, 2, 1) := by rfl
theorem cl221 : mm_cl 221 = 14 := by unfold mm_cl; rw [mt221]
theorem mt222 : mm_tab[222]? = some ((⟨"java/util/Arrays", "copyOf", "([II)[I"⟩ : MethodName), prog_18_method_123_code, 3, (some (.array .int)), 14, 2, 1) := by rfl
theorem cl222 : mm_cl 222 = 14 := by unfold mm_cl; rw [mt222]
theorem mt223 : mm_tab[223]? = some ((⟨"jdk/internal/util/Preconditions", "checkIndex", "(IILjava/util/function/BiFunction;)I"⟩ : MethodName), prog_19_method_11_code, 3, (some .int), 15, 3, 1) := by rfl
theorem cl223 : mm_cl 223 = 15 := by unfold mm_cl; rw [mt223]
theorem mt224 : mm_tab[224]? = some ((⟨"MendedWithTheWordLaw", "law", "([I)Z"⟩ : MethodName), code, 4, (some .boolean), 9, 1, 1) := by rfl
theorem cl224 : mm_cl 224 = 9 := by unfold mm_cl; rw [mt224]
