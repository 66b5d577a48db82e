/-! names, bytes and types of the methods; the classes; what is checked of each entry of the code by the kernel (written by gen.py) -/
def az_ys0 : List (MethodName × ByteArray × Option FieldType) := [(⟨"LastSun$Beach", "<init>", "()V"⟩, prog_3_method_1_code, none),
  (⟨"LastSun$Tape", "<init>", "()V"⟩, prog_8_method_1_code, none),
  (⟨"LastSun$Past", "<init>", "()V"⟩, prog_6_method_1_code, none),
  (⟨"LastSun$Day", "<init>", "()V"⟩, prog_4_method_1_code, none),
  (⟨"LastSun$Foretold", "<init>", "()V"⟩, prog_5_method_1_code, none),
  (⟨"LastSun$Asks", "<init>", "()V"⟩, prog_2_method_1_code, none),
  (⟨"LastSun$Row", "<init>", "()V"⟩, prog_7_method_1_code, none),
  (⟨"LastSun", "<init>", "()V"⟩, prog_1_method_1_code, none),
  (⟨"LastSunModel", "<init>", "()V"⟩, prog_10_method_1_code, none),
  (⟨"LastSun", "isOneOf", "(II)Z"⟩, prog_1_method_43_code, some .boolean),
  (⟨"LastSun", "isRow", "(I)Z"⟩, prog_1_method_41_code, some .boolean),
  (⟨"LastSun", "find", "(I)I"⟩, prog_1_method_36_code, some .int),
  (⟨"LastSun$Row", "make", "(II)V"⟩, prog_7_method_3_code, none),
  (⟨"LastSun", "answer", "(I)I"⟩, prog_1_method_37_code, some .int),
  (⟨"LastSun", "row", "(III)I"⟩, prog_1_method_2_code, some .int),
  (⟨"LastSunModel", "in", "(JJJ)Z"⟩, prog_10_method_3_code, some .boolean),
  (⟨"LastSunModel", "isRow", "(I)Z"⟩, prog_10_method_6_code, some .boolean),
  (⟨"LastSunModel", "found", "(I)I"⟩, prog_10_method_4_code, some .int),
  (⟨"LastSunModel", "well", "(I)I"⟩, prog_10_method_5_code, some .int),
  (⟨"LastSunModel", "row", "(III)I"⟩, prog_10_method_7_code, some .int),
  (⟨"LastSun$Row", "isMissing", "()Z"⟩, prog_7_method_2_code, some .boolean),
  (⟨"LastSun$Row", "hasPlaces", "(II)Z"⟩, prog_7_method_5_code, some .boolean),
  (⟨"LastSun$Row", "put", "(II)I"⟩, prog_7_method_6_code, some .int),
  (⟨"LastSun", "set", "(III)I"⟩, prog_1_method_3_code, some .int),
  (⟨"LastSunModel", "set", "(III)I"⟩, prog_10_method_8_code, some .int),
  (⟨"LastSun", "copy", "(IIIII)I"⟩, prog_1_method_4_code, some .int),
  (⟨"LastSunModel", "copy", "(IIIII)I"⟩, prog_10_method_9_code, some .int),
  (⟨"LastSun$Row", "lose", "()V"⟩, prog_7_method_4_code, none),
  (⟨"LastSun", "drop", "(I)I"⟩, prog_1_method_5_code, some .int),
  (⟨"LastSunModel", "drop", "(I)I"⟩, prog_10_method_10_code, some .int),
  (⟨"LastSun$Tape", "hasRoomFor", "(I)Z"⟩, prog_8_method_2_code, some .boolean),
  (⟨"LastSun$Tape", "append", "(JI)V"⟩, prog_8_method_3_code, none),
  (⟨"LastSun", "feed", "(JI)I"⟩, prog_1_method_6_code, some .int),
  (⟨"LastSunModel", "feed", "(JI)I"⟩, prog_10_method_11_code, some .int),
  (⟨"LastSun$Tape", "isBetween", "(ICC)Z"⟩, prog_8_method_18_code, some .boolean),
  (⟨"LastSun$Tape", "pass", "(CC)V"⟩, prog_8_method_17_code, none),
  (⟨"LastSun$Tape", "advance", "()V"⟩, prog_8_method_16_code, none),
  (⟨"LastSun$Beach", "clear", "()V"⟩, prog_3_method_3_code, none),
  (⟨"java/lang/String", "coder", "()B"⟩, prog_13_method_152_code, some .byte),
  (⟨"java/lang/String", "length", "()I"⟩, prog_13_method_54_code, some .int)]
def az_ys1 : List (MethodName × ByteArray × Option FieldType) := [(⟨"java/lang/String", "isLatin1", "()Z"⟩, prog_13_method_154_code, some .boolean),
  (⟨"jdk/internal/util/Preconditions", "checkIndex", "(IILjava/util/function/BiFunction;)I"⟩, prog_17_method_11_code, some .int),
  (⟨"java/lang/String", "checkIndex", "(II)V"⟩, prog_13_method_155_code, none),
  (⟨"java/lang/StringLatin1", "charAt", "([BI)C"⟩, prog_14_method_2_code, some .char),
  (⟨"java/lang/StringUTF16", "length", "([B)I"⟩, prog_15_method_6_code, some .int),
  (⟨"java/lang/StringUTF16", "checkIndex", "(I[B)V"⟩, prog_15_method_91_code, none),
  (⟨"java/lang/StringUTF16", "getChar", "([BI)C"⟩, prog_15_method_5_code, some .char),
  (⟨"java/lang/StringUTF16", "charAt", "([BI)C"⟩, prog_15_method_83_code, some .char),
  (⟨"java/lang/String", "charAt", "(I)C"⟩, prog_13_method_56_code, some .char),
  (⟨"LastSun$Tape", "isWord", "(Ljava/lang/String;)Z"⟩, prog_8_method_14_code, some .boolean),
  (⟨"LastSun$Tape", "fail", "(I)Z"⟩, prog_8_method_13_code, some .boolean),
  (⟨"LastSun$Tape", "takeWord", "(Ljava/lang/String;)Z"⟩, prog_8_method_9_code, some .boolean),
  (⟨"LastSun$Tape", "figuresRead", "()I"⟩, prog_8_method_15_code, some .int),
  (⟨"LastSun$Tape", "takeNumber", "(II)Z"⟩, prog_8_method_11_code, some .boolean),
  (⟨"LastSun$Tape", "takeSign", "()Z"⟩, prog_8_method_12_code, some .boolean),
  (⟨"LastSun$Tape", "readLaw", "(LLastSun$Beach;)Z"⟩, prog_8_method_5_code, some .boolean),
  (⟨"LastSun$Tape", "readSun", "(LLastSun$Beach;)Z"⟩, prog_8_method_6_code, some .boolean),
  (⟨"LastSun$Tape", "sortOf", "(I)Ljava/lang/String;"⟩, prog_8_method_19_code, some (.object "java/lang/String")),
  (⟨"LastSun$Tape", "takeSort", "()Z"⟩, prog_8_method_10_code, some .boolean),
  (⟨"LastSun$Tape", "readGuest", "(LLastSun$Beach;I)Z"⟩, prog_8_method_8_code, some .boolean),
  (⟨"LastSun$Tape", "readGuests", "(LLastSun$Beach;)Z"⟩, prog_8_method_7_code, some .boolean),
  (⟨"LastSun$Beach", "dawn", "()V"⟩, prog_3_method_4_code, none),
  (⟨"LastSun$Tape", "readBeach", "(LLastSun$Beach;)Z"⟩, prog_8_method_4_code, some .boolean),
  (⟨"LastSun$Beach", "become", "(LLastSun$Beach;)V"⟩, prog_3_method_2_code, none),
  (⟨"LastSun$Past", "forget", "()V"⟩, prog_6_method_4_code, none),
  (⟨"LastSun", "beach", "()I"⟩, prog_1_method_7_code, some .int),
  (⟨"LastSunModel", "sort", "(I)I"⟩, prog_10_method_12_code, some .int),
  (⟨"LastSunModel", "next", "()V"⟩, prog_10_method_13_code, none),
  (⟨"LastSunModel", "mustBe", "(Z)Z"⟩, prog_10_method_15_code, some .boolean),
  (⟨"LastSunModel", "isWord", "(J)Z"⟩, prog_10_method_17_code, some .boolean),
  (⟨"LastSunModel", "number", "(III)Z"⟩, prog_10_method_14_code, some .boolean),
  (⟨"LastSunModel", "ends", "()Z"⟩, prog_10_method_16_code, some .boolean),
  (⟨"LastSunModel", "kindHere", "()I"⟩, prog_10_method_18_code, some .int),
  (⟨"LastSunModel", "readsGuest", "()Z"⟩, prog_10_method_19_code, some .boolean),
  (⟨"LastSunModel", "reads", "()Z"⟩, prog_10_method_20_code, some .boolean),
  (⟨"LastSunModel", "copies", "([II[II)V"⟩, prog_10_method_23_code, none),
  (⟨"LastSunModel", "beach", "()I"⟩, prog_10_method_21_code, some .int),
  (⟨"LastSun", "fault", "()I"⟩, prog_1_method_8_code, some .int),
  (⟨"LastSunModel", "fault", "()I"⟩, prog_10_method_22_code, some .int),
  (⟨"LastSun$Past", "keep", "(LLastSun$Beach;)V"⟩, prog_6_method_2_code, none)]
def az_ys2 : List (MethodName × ByteArray × Option FieldType) := [(⟨"LastSun", "bit", "(II)I"⟩, prog_1_method_45_code, some .int),
  (⟨"LastSun", "isIn", "(II)Z"⟩, prog_1_method_44_code, some .boolean),
  (⟨"LastSun$Beach", "priceOf", "(I)I"⟩, prog_3_method_6_code, some .int),
  (⟨"LastSun", "hour", "()I"⟩, prog_1_method_9_code, some .int),
  (⟨"LastSunModel", "remember", "()V"⟩, prog_10_method_26_code, none),
  (⟨"LastSunModel", "priceOf", "(I)I"⟩, prog_10_method_25_code, some .int),
  (⟨"LastSunModel", "hour", "()I"⟩, prog_10_method_39_code, some .int),
  (⟨"LastSun$Beach", "has", "(I)Z"⟩, prog_3_method_5_code, some .boolean),
  (⟨"LastSun", "leave", "(I)I"⟩, prog_1_method_10_code, some .int),
  (⟨"LastSunModel", "isGuest", "(I)Z"⟩, prog_10_method_24_code, some .boolean),
  (⟨"LastSunModel", "leave", "(I)I"⟩, prog_10_method_40_code, some .int),
  (⟨"LastSun", "isHour", "(I)Z"⟩, prog_1_method_42_code, some .boolean),
  (⟨"LastSun", "cloud", "(I)I"⟩, prog_1_method_11_code, some .int),
  (⟨"LastSunModel", "cloud", "(I)I"⟩, prog_10_method_41_code, some .int),
  (⟨"LastSun", "shade", "(II)I"⟩, prog_1_method_12_code, some .int),
  (⟨"LastSunModel", "shade", "(II)I"⟩, prog_10_method_42_code, some .int),
  (⟨"LastSun", "gift", "(II)I"⟩, prog_1_method_13_code, some .int),
  (⟨"LastSunModel", "gift", "(II)I"⟩, prog_10_method_43_code, some .int),
  (⟨"LastSun$Beach", "hoursOf", "(I)I"⟩, prog_3_method_7_code, some .int),
  (⟨"LastSun$Beach", "joyAlone", "(II)I"⟩, prog_3_method_11_code, some .int),
  (⟨"LastSun$Day", "open", "(LLastSun$Beach;)V"⟩, prog_4_method_2_code, none),
  (⟨"LastSun$Day", "longest", "()I"⟩, prog_4_method_10_code, some .int),
  (⟨"LastSun$Day", "bill", "(I)I"⟩, prog_4_method_11_code, some .int),
  (⟨"LastSun$Day", "alike", "(III)I"⟩, prog_4_method_9_code, some .int),
  (⟨"LastSun$Day", "byWeight", "(III)I"⟩, prog_4_method_7_code, some .int),
  (⟨"LastSun$Day", "byHours", "(I)I"⟩, prog_4_method_8_code, some .int),
  (⟨"LastSun$Day", "share", "(I)I"⟩, prog_4_method_6_code, some .int),
  (⟨"LastSun$Day", "pay", "(I)I"⟩, prog_4_method_5_code, some .int),
  (⟨"LastSun$Beach", "grown", "(I)I"⟩, prog_3_method_10_code, some .int),
  (⟨"LastSun$Beach", "charge", "(II)V"⟩, prog_3_method_9_code, none),
  (⟨"LastSun$Day", "sum", "()I"⟩, prog_4_method_12_code, some .int),
  (⟨"LastSun", "sunset", "()I"⟩, prog_1_method_14_code, some .int),
  (⟨"LastSunModel", "layNow", "()V"⟩, prog_10_method_27_code, none),
  (⟨"LastSunModel", "longest", "()I"⟩, prog_10_method_29_code, some .int),
  (⟨"LastSunModel", "sum", "()I"⟩, prog_10_method_30_code, some .int),
  (⟨"LastSunModel", "heads", "(I)I"⟩, prog_10_method_28_code, some .int),
  (⟨"LastSunModel", "parts", "(II)V"⟩, prog_10_method_31_code, none),
  (⟨"LastSunModel", "share", "()V"⟩, prog_10_method_32_code, none),
  (⟨"LastSunModel", "payOf", "(I)I"⟩, prog_10_method_33_code, some .int),
  (⟨"LastSunModel", "least", "(I)I"⟩, prog_10_method_44_code, some .int)]
def az_ys3 : List (MethodName × ByteArray × Option FieldType) := [(⟨"LastSunModel", "sunset", "()I"⟩, prog_10_method_45_code, some .int),
  (⟨"LastSun$Past", "undoInto", "(LLastSun$Beach;)V"⟩, prog_6_method_3_code, none),
  (⟨"LastSun", "undo", "()I"⟩, prog_1_method_15_code, some .int),
  (⟨"LastSunModel", "undo", "()I"⟩, prog_10_method_46_code, some .int),
  (⟨"LastSun", "guest", "(II)I"⟩, prog_1_method_16_code, some .int),
  (⟨"LastSunModel", "guest", "(II)I"⟩, prog_10_method_47_code, some .int),
  (⟨"LastSun", "price", "(I)I"⟩, prog_1_method_17_code, some .int),
  (⟨"LastSunModel", "price", "(I)I"⟩, prog_10_method_48_code, some .int),
  (⟨"LastSun", "look", "(IZI)I"⟩, prog_1_method_38_code, some .int),
  (⟨"LastSun", "hear", "(IZ)I"⟩, prog_1_method_39_code, some .int),
  (⟨"LastSun$Day", "joyIn", "(II)I"⟩, prog_4_method_4_code, some .int),
  (⟨"LastSun$Day", "worthOf", "(I)I"⟩, prog_4_method_3_code, some .int),
  (⟨"LastSun", "worth", "(III)I"⟩, prog_1_method_18_code, some .int),
  (⟨"LastSunModel", "tells", "(IZI)I"⟩, prog_10_method_49_code, some .int),
  (⟨"LastSunModel", "joyOf", "(II)I"⟩, prog_10_method_34_code, some .int),
  (⟨"LastSunModel", "worthOf", "(I)I"⟩, prog_10_method_35_code, some .int),
  (⟨"LastSunModel", "worth", "(III)I"⟩, prog_10_method_50_code, some .int),
  (⟨"LastSun$Foretold", "bestOf", "(I)I"⟩, prog_5_method_2_code, some .int),
  (⟨"LastSun", "best", "(II)I"⟩, prog_1_method_19_code, some .int),
  (⟨"LastSunModel", "bestOf", "(I)I"⟩, prog_10_method_36_code, some .int),
  (⟨"LastSunModel", "best", "(II)I"⟩, prog_10_method_51_code, some .int),
  (⟨"LastSun$Foretold", "turns", "()I"⟩, prog_5_method_5_code, some .int),
  (⟨"LastSun", "rounds", "(II)I"⟩, prog_1_method_20_code, some .int),
  (⟨"LastSunModel", "turns", "()I"⟩, prog_10_method_38_code, some .int),
  (⟨"LastSunModel", "rounds", "(II)I"⟩, prog_10_method_52_code, some .int),
  (⟨"LastSun$Foretold", "forgetCommon", "()V"⟩, prog_5_method_9_code, none),
  (⟨"LastSun$Foretold", "countChoices", "()I"⟩, prog_5_method_11_code, some .int),
  (⟨"LastSun$Foretold", "choose", "(I)V"⟩, prog_5_method_12_code, none),
  (⟨"LastSun$Foretold", "isContent", "(I)Z"⟩, prog_5_method_3_code, some .boolean),
  (⟨"LastSun$Foretold", "isRest", "()Z"⟩, prog_5_method_4_code, some .boolean),
  (⟨"LastSun$Foretold", "countRests", "()I"⟩, prog_5_method_6_code, some .int),
  (⟨"LastSun", "rests", "(I)I"⟩, prog_1_method_21_code, some .int),
  (⟨"LastSunModel", "rows", "()I"⟩, prog_10_method_54_code, some .int),
  (⟨"LastSunModel", "tellBy", "(I)V"⟩, prog_10_method_53_code, none),
  (⟨"LastSunModel", "isRest", "()Z"⟩, prog_10_method_37_code, some .boolean),
  (⟨"LastSunModel", "rests", "(I)I"⟩, prog_10_method_55_code, some .int),
  (⟨"LastSun$Foretold", "agree", "(II)I"⟩, prog_5_method_13_code, some .int),
  (⟨"LastSun", "pact", "(IIII)I"⟩, prog_1_method_22_code, some .int),
  (⟨"LastSunModel", "pact", "(IIII)I"⟩, prog_10_method_56_code, some .int),
  (⟨"LastSun$Foretold", "meanAlone", "(LLastSun$Beach;II)J"⟩, prog_5_method_14_code, some .long)]
def az_ys4 : List (MethodName × ByteArray × Option FieldType) := [(⟨"LastSun$Foretold", "commonDivisor", "(JJ)J"⟩, prog_5_method_15_code, some .long),
  (⟨"LastSun", "alone", "(III)I"⟩, prog_1_method_23_code, some .int),
  (⟨"LastSunModel", "alone", "(III)I"⟩, prog_10_method_57_code, some .int),
  (⟨"LastSun$Foretold", "isPaid", "([I)Z"⟩, prog_5_method_8_code, some .boolean),
  (⟨"LastSun$Foretold", "meetCommon", "(Z)V"⟩, prog_5_method_10_code, none),
  (⟨"LastSun$Foretold", "explain", "([I)I"⟩, prog_5_method_7_code, some .int),
  (⟨"LastSun", "explained", "(II)I"⟩, prog_1_method_24_code, some .int),
  (⟨"LastSunModel", "explained", "(II)I"⟩, prog_10_method_58_code, some .int),
  (⟨"LastSun$Foretold", "gapOfWorths", "()I"⟩, prog_5_method_17_code, some .int),
  (⟨"LastSun$Foretold", "fairestSplit", "()I"⟩, prog_5_method_16_code, some .int),
  (⟨"LastSun$Foretold", "restingSplits", "()I"⟩, prog_5_method_18_code, some .int),
  (⟨"LastSun", "laws", "(II)I"⟩, prog_1_method_25_code, some .int),
  (⟨"LastSunModel", "laws", "(II)I"⟩, prog_10_method_59_code, some .int),
  (⟨"LastSun$Foretold", "ownersPrice", "()I"⟩, prog_5_method_19_code, some .int),
  (⟨"LastSun", "owner", "(II)I"⟩, prog_1_method_26_code, some .int),
  (⟨"LastSunModel", "owner", "(II)I"⟩, prog_10_method_60_code, some .int),
  (⟨"LastSun", "owes", "(II)I"⟩, prog_1_method_27_code, some .int),
  (⟨"LastSunModel", "owes", "(II)I"⟩, prog_10_method_61_code, some .int),
  (⟨"LastSun", "image", "(I)I"⟩, prog_1_method_28_code, some .int),
  (⟨"LastSunModel", "image", "(I)I"⟩, prog_10_method_62_code, some .int),
  (⟨"LastSun", "restore", "(I)I"⟩, prog_1_method_29_code, some .int),
  (⟨"LastSunModel", "restore", "(I)I"⟩, prog_10_method_63_code, some .int),
  (⟨"LastSun", "kind", "(I)I"⟩, prog_1_method_30_code, some .int),
  (⟨"LastSunModel", "kind", "(I)I"⟩, prog_10_method_64_code, some .int),
  (⟨"LastSun$Asks", "isKindOf", "(II)Z"⟩, prog_2_method_2_code, some .boolean),
  (⟨"LastSun", "as", "(II)I"⟩, prog_1_method_31_code, some .int),
  (⟨"LastSunModel", "isOf", "(II)Z"⟩, prog_10_method_65_code, some .boolean),
  (⟨"LastSunModel", "as", "(II)I"⟩, prog_10_method_66_code, some .int),
  (⟨"LastSun$Asks", "note", "(I)V"⟩, prog_2_method_6_code, none),
  (⟨"LastSun$Asks", "markAs", "(LLastSun$Beach;III)I"⟩, prog_2_method_5_code, some .int),
  (⟨"LastSun$Asks", "sizeAs", "(LLastSun$Beach;III)I"⟩, prog_2_method_4_code, some .int),
  (⟨"LastSun$Asks", "markAs", "(LLastSun$Beach;III)I"⟩, prog_2_method_5_code, some .int),
  (⟨"LastSun$Asks", "sizeAs", "(LLastSun$Beach;III)I"⟩, prog_2_method_4_code, some .int),
  (⟨"LastSun$Asks", "markAs", "(LLastSun$Beach;III)I"⟩, prog_2_method_5_code, some .int),
  (⟨"LastSun$Asks", "sizeAs", "(LLastSun$Beach;III)I"⟩, prog_2_method_4_code, some .int),
  (⟨"LastSun$Asks", "markAs", "(LLastSun$Beach;III)I"⟩, prog_2_method_5_code, some .int),
  (⟨"LastSun$Asks", "sizeAs", "(LLastSun$Beach;III)I"⟩, prog_2_method_4_code, some .int),
  (⟨"LastSun$Asks", "markAs", "(LLastSun$Beach;III)I"⟩, prog_2_method_5_code, some .int),
  (⟨"LastSun$Asks", "sizeAs", "(LLastSun$Beach;III)I"⟩, prog_2_method_4_code, some .int),
  (⟨"LastSun$Asks", "markAs", "(LLastSun$Beach;III)I"⟩, prog_2_method_5_code, some .int)]
def az_ys5 : List (MethodName × ByteArray × Option FieldType) := [(⟨"LastSun$Asks", "sizeAs", "(LLastSun$Beach;III)I"⟩, prog_2_method_4_code, some .int),
  (⟨"LastSun$Asks", "markAs", "(LLastSun$Beach;III)I"⟩, prog_2_method_5_code, some .int),
  (⟨"LastSun$Asks", "sizeAs", "(LLastSun$Beach;III)I"⟩, prog_2_method_4_code, some .int),
  (⟨"LastSun$Asks", "begin", "(LLastSun$Beach;II)I"⟩, prog_2_method_3_code, some .int),
  (⟨"LastSun", "ask", "(II)I"⟩, prog_1_method_32_code, some .int),
  (⟨"LastSunModel", "leave", "(J)V"⟩, prog_10_method_67_code, none),
  (⟨"LastSunModel", "mark", "(I)I"⟩, prog_10_method_68_code, some .int),
  (⟨"LastSunModel", "sizeOf", "(I)I"⟩, prog_10_method_69_code, some .int),
  (⟨"LastSunModel", "ask", "(II)I"⟩, prog_10_method_70_code, some .int),
  (⟨"LastSun", "trace", "(I)I"⟩, prog_1_method_33_code, some .int),
  (⟨"LastSunModel", "trace", "(I)I"⟩, prog_10_method_71_code, some .int),
  (⟨"LastSun", "countRows", "()I"⟩, prog_1_method_40_code, some .int),
  (⟨"java/lang/Integer", "bitCount", "(I)I"⟩, prog_11_method_49_code, some .int),
  (⟨"LastSun$Beach", "debtOfAll", "()I"⟩, prog_3_method_8_code, some .int),
  (⟨"LastSun", "count", "(I)I"⟩, prog_1_method_34_code, some .int),
  (⟨"LastSunModel", "count", "(I)I"⟩, prog_10_method_72_code, some .int),
  (⟨"LastSun", "status", "()I"⟩, prog_1_method_35_code, some .int),
  (⟨"LastSunModel", "status", "()I"⟩, prog_10_method_73_code, some .int),
  (⟨"LastSunLaw", "law", "([I)Z"⟩, code, some .boolean)]
def az_ys : List (MethodName × ByteArray × Option FieldType) := az_ys0 ++ az_ys1 ++ az_ys2 ++ az_ys3 ++ az_ys4 ++ az_ys5
def az_cps : List Nat := [97, 185, 217, 242, 236, 299, 313, 86, 923, 368, 365, 373, 378, 382, 362, 1012, 1008, 1018, 1023, 1005, 390, 394, 398, 386, 1027, 402, 1031, 413, 409, 1035, 421, 426, 417, 1039, 442, 446, 438, 450, 471, 467, 481, 492, 487, 484, 501, 498, 505, 495, 477, 463, 515, 459, 523, 519, 527, 454, 531, 548, 545, 540, 536, 557, 434, 562, 567, 430, 1062, 1059, 1074, 1055, 1078, 1082, 1092, 1087, 1050, 1101, 1046, 571, 1105, 580, 594, 591, 588, 575, 1114, 1118, 1109, 602, 598, 1126, 1122, 611, 608, 1130, 615, 1135, 619, 1139, 634, 638, 628, 650, 654, 658, 662, 667, 646, 642, 675, 671, 680, 624, 1148, 1156, 1160, 1168, 1164, 1152, 1173, 1176, 1144, 688, 684, 1180, 692, 1184, 697, 1189, 709, 705, 717, 713, 701, 1197, 1205, 1201, 1193, 727, 723, 1213, 1209, 737, 733, 1221, 1217, 751, 755, 759, 767, 763, 747, 743, 1229, 1233, 1237, 1225, 776, 772, 1241, 787, 796, 783, 1245, 809, 814, 805, 800, 1249, 827, 822, 835, 818, 1254, 843, 839, 1258, 849, 1262, 854, 1267, 858, 1271, 862, 1275, 869, 866, 1282, 1279, 888, 892, 884, 892, 884, 892, 884, 892, 884, 892, 884, 892, 884, 892, 884, 880, 876, 1297, 1290, 1304, 1286, 896, 1311, 904, 907, 914, 900, 1315, 918, 1319, 0]
def az_y (M : Nat) : MethodName := (az_ys.getD M (⟨"", "", ""⟩, code, none)).1
def az_by (M : Nat) : ByteArray := (az_ys.getD M (⟨"", "", ""⟩, code, none)).2.1
def az_re (M : Nat) : Option FieldType := (az_ys.getD M (⟨"", "", ""⟩, code, none)).2.2
def az_Fl : List (List (String × String × String × Bool)) := [[("LastSun$Asks", "numbers", "[I", true), ("LastSun$Asks", "length", "I", false)],
  [("LastSun$Beach", "prices", "[I", true), ("LastSun$Beach", "kinds", "[I", true), ("LastSun$Beach", "warmths", "[I", true), ("LastSun$Beach", "burns", "[I", true), ("LastSun$Beach", "purses", "[I", true), ("LastSun$Beach", "debts", "[I", true), ("LastSun$Beach", "stays", "[I", true), ("LastSun$Beach", "stands", "Z", false), ("LastSun$Beach", "split", "I", false), ("LastSun$Beach", "fee", "I", false), ("LastSun$Beach", "guests", "I", false), ("LastSun$Beach", "hours", "I", false), ("LastSun$Beach", "days", "I", false), ("LastSun$Beach", "there", "I", false), ("LastSun$Beach", "shaded", "I", false), ("LastSun$Beach", "clouds", "I", false)],
  [("LastSun$Day", "prices", "[I", true), ("LastSun$Day", "heads", "[I", true), ("LastSun$Day", "fees", "[I", true), ("LastSun$Day", "company", "[I", true), ("LastSun$Day", "joys", "[I", true), ("LastSun$Day", "stays", "[I", true), ("LastSun$Day", "guests", "I", false), ("LastSun$Day", "split", "I", false)],
  [("LastSun$Foretold", "day", "LLastSun$Day;", true), ("LastSun$Foretold", "worths", "[I", true), ("LastSun$Foretold", "told", "[I", true), ("LastSun$Foretold", "common", "[I", true), ("LastSun$Foretold", "ownersSum", "I", false)],
  [("LastSun$Past", "kept", "[LLastSun$Beach;", true), ("LastSun$Past", "next", "I", false), ("LastSun$Past", "acts", "I", false)],
  [("LastSun$Row", "items", "[I", true), ("LastSun$Row", "lane", "I", false), ("LastSun$Row", "size", "I", false)],
  [("LastSun$Tape", "bytes", "[B", true), ("LastSun$Tape", "length", "I", false), ("LastSun$Tape", "token", "I", false), ("LastSun$Tape", "from", "I", false), ("LastSun$Tape", "to", "I", false), ("LastSun$Tape", "value", "I", false), ("LastSun$Tape", "fault", "I", false)],
  [("LastSun", "rows", "[LLastSun$Row;", true), ("LastSun", "images", "[LLastSun$Beach;", true), ("LastSun", "beach", "LLastSun$Beach;", true), ("LastSun", "draft", "LLastSun$Beach;", true), ("LastSun", "tape", "LLastSun$Tape;", true), ("LastSun", "past", "LLastSun$Past;", true), ("LastSun", "foretold", "LLastSun$Foretold;", true), ("LastSun", "day", "LLastSun$Day;", true), ("LastSun", "asks", "LLastSun$Asks;", true), ("LastSun", "status", "I", false)],
  [("LastSunModel", "lanes", "[I", true), ("LastSunModel", "sizes", "[I", true), ("LastSunModel", "items", "[I", true), ("LastSunModel", "status", "I", false), ("LastSunModel", "tape", "[I", true), ("LastSunModel", "taped", "I", false), ("LastSunModel", "fault", "I", false), ("LastSunModel", "isBeach", "Z", false), ("LastSunModel", "now", "[I", true), ("LastSunModel", "acts", "I", false), ("LastSunModel", "before", "[I", true), ("LastSunModel", "images", "[I", true), ("LastSunModel", "kept", "[Z", true), ("LastSunModel", "traced", "I", false), ("LastSunModel", "trace", "[I", true), ("LastSunModel", "at", "I", false), ("LastSunModel", "begin", "I", false), ("LastSunModel", "token", "I", false), ("LastSunModel", "value", "J", false), ("LastSunModel", "size", "I", false), ("LastSunModel", "read", "[I", true), ("LastSunModel", "told", "[I", true), ("LastSunModel", "costs", "[I", true), ("LastSunModel", "split", "I", false), ("LastSunModel", "shares", "[I", true)]]
def az_Ty : List (List FieldType) := [[.array .int, .int],
  [.array .int, .array .int, .array .int, .array .int, .array .int, .array .int, .array .int, .boolean, .int, .int, .int, .int, .int, .int, .int, .int],
  [.array .int, .array .int, .array .int, .array .int, .array .int, .array .int, .int, .int],
  [.object "LastSun$Day", .array .int, .array .int, .array .int, .int],
  [.array (.object "LastSun$Beach"), .int, .int],
  [.array .int, .int, .int],
  [.array .byte, .int, .int, .int, .int, .int, .int],
  [.array (.object "LastSun$Row"), .array (.object "LastSun$Beach"), .object "LastSun$Beach", .object "LastSun$Beach", .object "LastSun$Tape", .object "LastSun$Past", .object "LastSun$Foretold", .object "LastSun$Day", .object "LastSun$Asks", .int],
  [.array .int, .array .int, .array .int, .int, .array .int, .int, .int, .boolean, .array .int, .int, .array .int, .array .int, .array .boolean, .int, .array .int, .int, .int, .int, .long, .int, .array .int, .array .int, .array .int, .int, .array .int]]
def az_Tc : List (List Nat) := [[2, 0], [2, 2, 2, 2, 2, 2, 2, 3, 0, 0, 0, 0, 0, 0, 0, 0], [2, 2, 2, 2, 2, 2, 0, 0], [2, 2, 2, 2, 0], [2, 0, 0], [2, 0, 0], [2, 0, 0, 0, 0, 0, 0], [2, 2, 2, 2, 2, 2, 2, 2, 2, 0], [2, 2, 2, 0, 2, 0, 0, 3, 2, 0, 2, 2, 2, 0, 2, 0, 0, 0, 1, 0, 2, 2, 2, 0, 2]]
def az_Rn : List String := ["LastSun$Asks", "LastSun$Beach", "LastSun$Day", "LastSun$Foretold", "LastSun$Past", "LastSun$Row", "LastSun$Tape", "LastSun", "LastSunModel"]
def az_R (c : Nat) : String := az_Rn.getD c "java/lang/String"
def az_T (c : Nat) : u_T := fun k => (az_Fl.getD c []).getD k ("", "", "", false)
def az_t (c : Nat) : Nat → FieldType := fun k => (az_Ty.getD c []).getD k .int
def az_tc (c k : Nat) : Nat := (az_Tc.getD c []).getD k 0
def az_N (c : Nat) : Nat := (az_Fl.getD c []).length
def az_cls : List vw_C := (List.range 9).map fun c => (az_R c, az_T c, az_N c)
def az_lps : List (List Nat) := [[305, 307], [147, 149, 151, 153, 155, 157, 159, 161, 163, 165, 167, 169, 171, 173, 175, 177], [259, 261, 263, 265, 267, 269, 271, 273], [284, 286, 288, 290, 292], [225, 227, 229], [321, 323, 325], [197, 199, 201, 203, 205, 207, 209], [338, 340, 342, 344, 346, 348, 350, 352, 354, 356], [950, 952, 954, 956, 958, 960, 962, 964, 966, 968, 970, 972, 974, 976, 978, 980, 982, 984, 986, 988, 990, 992, 994, 996, 998]]
def az_ips : List Nat := [296, 94, 239, 233, 214, 310, 182, 83, 920]
def az_nests : List (String × Nat × MethodName) := [("LastSun", 21, ⟨"LastSun$Beach", "<init>", "()V"⟩), ("LastSun", 31, ⟨"LastSun$Tape", "<init>", "()V"⟩), ("LastSun$Past", 15, ⟨"LastSun$Beach", "<init>", "()V"⟩), ("LastSun", 45, ⟨"LastSun$Foretold", "<init>", "()V"⟩), ("LastSun$Foretold", 11, ⟨"LastSun$Day", "<init>", "()V"⟩), ("LastSun", 57, ⟨"LastSun$Asks", "<init>", "()V"⟩), ("LastSun", 62, ⟨"LastSun$Row", "<init>", "()V"⟩), ("LastSun$Beach", 72, ⟨"LastSun", "isIn", "(II)Z"⟩), ("LastSun$Beach", 68, ⟨"LastSun", "isOneOf", "(II)Z"⟩), ("LastSun$Day", 51, ⟨"LastSun", "isIn", "(II)Z"⟩)]

def az_good : List Cond := lw_tbl.filter goodWord
def az_hw (k : Int) (w : Cond) : Bool := decide (lw_tbl[k.toNat]? = some w) && goodWord w
theorem az_hw_in {k : Int} {w : Cond} (h : az_hw k w = true) : w ∈ az_good := by
  simp only [az_hw, Bool.and_eq_true, decide_eq_true_eq] at h
  exact List.mem_filter.mpr ⟨List.mem_of_getElem? h.1, h.2⟩
theorem az_good_ok : ∀ w ∈ az_good, (w.onTables && w.keeps) = true ∨ ∃ ty, w = .arrayClass ty := fun _ h => good_of_word (List.mem_filter.mp h).2
def az_len (i : Instr) : Nat := match i with
  | .bipush _ => 2
  | .ldc _ => 2
  | .newarray _ => 2
  | .iload _ => 2
  | .lload _ => 2
  | .aload _ => 2
  | .istore _ => 2
  | .lstore _ => 2
  | .astore _ => 2
  | .sipush _ => 3
  | .ldc_w _ => 3
  | .ldc2_w _ => 3
  | .iinc _ _ => 3
  | .if_icmp _ _ => 3
  | .ifCond _ _ => 3
  | .goto _ => 3
  | .getfield _ => 3
  | .putfield _ => 3
  | .getstatic _ => 3
  | .new _ => 3
  | .anewarray _ => 3
  | .invokevirtual _ => 3
  | .invokestatic _ => 3
  | .invokespecial _ => 3
  | .tableswitch _ _ _ _ => 0
  | .lookupswitch _ _ => 0
  | _ => 1
def az_dec (b : ByteArray) (pc : Nat) (i : Instr) : Bool := match decode b pc with
  | .ok q => decide (q.1 = i) && (decide (az_len i = 0) || decide (q.2 = az_len i))
  | .error _ => false
def az_r32 (v : Int) : Bool := decide (-2147483648 ≤ v ∧ v < 2147483648)
def az_r64 (v : Int) : Bool := decide (-9223372036854775808 ≤ v ∧ v < 9223372036854775808)
def az_six : List (Nat × String) := [(47, "law"), (70, "sun"), (86, "guest"), (143, "lone"), (145, "aunt"), (147, "child"), (149, "band"), (151, "clan")]
def az_flat (pc : Nat) (ps : List (Int × Int)) : List Int := ps.flatMap fun q => [q.1, (pc : Int) + q.2]
def az_fld (o : String) (x : Nat) (f : List Int) : Bool := match f with
  | [] => true
  | [c, k, t, q] =>
    if c = 9 then (decide (k = 0 ∧ t = 2) && az_hw q (.fieldLink o x "java/lang/String" "value" "[B")) || (decide (k = 1 ∧ t = 0) && az_hw q (.fieldLink o x "java/lang/String" "coder" "B"))
    else decide (0 ≤ c ∧ c < 9 ∧ 0 ≤ k ∧ k.toNat < az_N c.toNat ∧ t = (az_tc c.toNat k.toNat : Int)) && az_hw q (.fieldLink o x (az_R c.toNat) (az_T c.toNat k.toNat).2.1 (az_T c.toNat k.toNat).2.2.1) && decide ((az_T c.toNat k.toNat).1 = az_R c.toNat)
  | _ => false
def az_invc (M : Nat) (o : String) (x : Nat) (v : Nat) (kd M' n c q1 q2 q3 q4 : Int) : Bool :=
    decide (0 ≤ M' ∧ M' < (M : Int) ∧ 0 ≤ n) && (let y := az_y M'.toNat
      decide (y.cls ≠ "java/lang/invoke/MethodHandle" ∧ y.cls ≠ "java/lang/invoke/VarHandle") && az_hw q4 (.initialized y.cls) &&
      (match v with
        | 1 => decide (0 ≤ c ∧ az_R c.toNat = y.cls ∧ c ≤ 9 ∧ 1 ≤ n ∧ (parseMethodDescriptor y.desc).map (fun d => d.parameters.length) = some (n.toNat - 1)) && decide (kd = 1) && az_hw q1 (.methodLink o x y) && az_hw q2 (.instanceMethod y) && az_hw q3 (.selects y.cls y y)
        | 2 => decide ((parseMethodDescriptor y.desc).map (fun d => d.parameters.length) = some n.toNat) && ((decide (kd = 2) && az_hw q1 (.methodLink o x y)) || (decide (kd = 5) && decide ((o, x, y) ∈ az_nests))) && az_hw q2 (.static y)
        | _ => decide (0 ≤ c ∧ az_R c.toNat = y.cls ∧ c ≤ 8 ∧ 1 ≤ n ∧ (parseMethodDescriptor y.desc).map (fun d => d.parameters.length) = some (n.toNat - 1)) && ((decide (kd = 3) && az_hw q1 (.methodLink o x y)) || (decide (kd = 6) && decide ((o, x, y) ∈ az_nests))) && az_hw q2 (.instanceMethod y) && decide (y.name = "<init>" ∧ az_re M'.toNat = none)))
def az_invk (M : Nat) (o : String) (x : Nat) (v : Nat) (f : List Int) : Bool := match f with
  | [] => true
  | [0, q1, q2] => decide (v = 3) && az_hw q1 (.methodLink o x Lib.objectInit) && az_hw q2 (.instanceMethod Lib.objectInit)
  | [9, q1, q2, q3, q4] => decide (v = 2) && az_hw q1 (.methodLink o x arraycopyName) && az_hw q2 (.native arraycopyName) && az_hw q3 (.static arraycopyName) && az_hw q4 (.initialized "java/lang/System")
  | [7, k, q1, q2, q3, q4] => decide (v = 2) && az_hw q3 (.initialized "java/lang/Math") &&
      (if k = 0 then az_hw q1 (.methodLink o x Lib.Math.max.name) && az_hw q2 (.static Lib.Math.max.name) && az_hw q4 (.code Lib.Math.max.name Lib.Math.max.code 2 (some .int))
       else if k = 1 then az_hw q1 (.methodLink o x Lib.Math.min.name) && az_hw q2 (.static Lib.Math.min.name) && az_hw q4 (.code Lib.Math.min.name Lib.Math.min.code 2 (some .int))
       else decide (k = 2) && az_hw q1 (.methodLink o x Lib.MathLoose.max_long.x) && az_hw q2 (.static Lib.MathLoose.max_long.x) && az_hw q4 (.code Lib.MathLoose.max_long.x Lib.MathLoose.max_long.code 4 (some .long)))
  | [kd, M', n, c, q1, q2, q3, q4] => az_invc M o x v kd M' n c q1 q2 q3 q4
  | _ => false
def az_res (M pc : Nat) (i : Instr) (f : List Int) : Bool := match i with
  | .iconst n => decide (-1 ≤ n ∧ n ≤ 5)
  | .bipush n => decide (-128 ≤ n ∧ n < 128)
  | .sipush n => decide (-32768 ≤ n ∧ n < 32768)
  | .iinc _ c => decide (-128 ≤ c ∧ c < 128)
  | .ldc x => (match f with
      | [] => true
      | [0, v, q] => az_r32 v && az_hw q (.constant (az_y M).cls x (Int32.ofInt v))
      | [1, k, _] => decide ((az_y M).cls = "LastSun$Tape" ∧ 3 ≤ k ∧ k < 11 ∧ (az_six.map (·.1))[k.toNat - 3]? = some x)
      | _ => false)
  | .ldc_w x => (match f with
      | [] => true
      | [0, v, q] => az_r32 v && az_hw q (.constant (az_y M).cls x (Int32.ofInt v))
      | _ => false)
  | .ldc2_w x => (match f with
      | [] => true
      | [0, v, q] => az_r64 v && az_hw q (.constantLong (az_y M).cls x (Int64.ofInt v))
      | _ => false)
  | .if_icmp _ off => decide (f = [(pc : Int) + off] ∧ 0 ≤ (pc : Int) + off)
  | .ifCond _ off => decide (f = [(pc : Int) + off] ∧ 0 ≤ (pc : Int) + off)
  | .goto off => decide (f = [(pc : Int) + off] ∧ 0 ≤ (pc : Int) + off)
  | .tableswitch d lo hi os => decide (f = ((pc : Int) + d) :: os.toList.map (fun o => (pc : Int) + o) ∧ 0 ≤ (pc : Int) + d ∧ os.toList.all (fun o => decide (0 ≤ (pc : Int) + o)) = true ∧ hi - lo + 1 = (os.size : Int))
  | .lookupswitch d ps => decide (f = ((pc : Int) + d) :: az_flat pc ps.toList ∧ 0 ≤ (pc : Int) + d ∧ ps.toList.all (fun q => decide (0 ≤ (pc : Int) + q.2)) = true ∧ (ps.toList.zip (ps.toList.drop 1)).all (fun (a, next) => a.1 < next.1) = true)
  | .getfield x => az_fld (az_y M).cls x f
  | .putfield x => az_fld (az_y M).cls x f && (match f with
      | c :: k :: _ => decide (c ≠ 9) && (!(az_T c.toNat k.toNat).2.2.2 || decide ((az_y M).name = "<init>" ∧ (az_T c.toNat k.toNat).1 = (az_y M).cls))
      | _ => true)
  | .getstatic x => (match f with
      | [] => true
      | [0, q] => az_hw q (.fieldLink (az_y M).cls x "LastSun$Asks" "ABOVE" "[I")
      | [1, q] => az_hw q (.fieldLink (az_y M).cls x "java/lang/String" "COMPACT_STRINGS" "Z")
      | [2, q] => az_hw q (.fieldLink (az_y M).cls x "jdk/internal/util/Preconditions" "SIOOBE_FORMATTER" "Ljava/util/function/BiFunction;")
      | _ => false)
  | .new x => (match f with
      | [] => true
      | [c, n, q1, q2, q3] => decide (0 ≤ c ∧ c < 9 ∧ n = (az_N c.toNat : Int)) && az_hw q1 (.classLink (az_y M).cls x (az_R c.toNat)) && az_hw q2 (.instantiable (az_R c.toNat) (az_N c.toNat)) && az_hw q3 (.initialized (az_R c.toNat))
      | _ => false)
  | .newarray t => (match f with
      | [] => true
      | [k, q] => ((decide (k = 20 ∧ t = .int) && az_hw q (.arrayClass .int)) || (decide (k = 21 ∧ t = .byte) && az_hw q (.arrayClass .byte)) || (decide (k = 22 ∧ t = .boolean) && az_hw q (.arrayClass .boolean)))
      | _ => false)
  | .anewarray x => (match f with
      | [] => true
      | [k, q1, q2] => (decide (k = 23) && az_hw q1 (.classLink (az_y M).cls x "LastSun$Row") && decide (q2 = q2)) || (decide (k = 24) && az_hw q1 (.classLink (az_y M).cls x "LastSun$Beach") && decide (q2 = q2))
      | _ => false)
  | .invokevirtual x => az_invk M (az_y M).cls x 1 f
  | .invokestatic x => az_invk M (az_y M).cls x 2 f
  | .invokespecial x => az_invk M (az_y M).cls x 3 f
  | _ => true
def az_okc (M : Nat) : aC → Bool
  | [] => true
  | e :: l => az_dec (az_by M) e.1 e.2.1 && az_res M e.1 e.2.1 e.2.2 && (match l with
      | [] => true
      | e2 :: _ => decide (az_len e.2.1 = 0) || decide (e2.1 = e.1 + az_len e.2.1)) && az_okc M l
theorem az_lay_ok : (List.range 9).all (fun c => decide ((u_ws (az_R c) (az_T c) (az_N c)).length = (az_lps.getD c []).length) && ((u_ws (az_R c) (az_T c) (az_N c)).zip (az_lps.getD c [])).all (fun q => az_hw q.2 q.1)) = true := by decide +kernel
theorem az_lay_in {c : Nat} (hc : c < 9) : ∀ w ∈ u_ws (az_R c) (az_T c) (az_N c), w ∈ az_good := by
  intro w hw
  have h := List.all_eq_true.mp az_lay_ok c (List.mem_range.mpr hc)
  simp only [Bool.and_eq_true, decide_eq_true_eq] at h
  obtain ⟨i, hi⟩ := List.getElem?_of_mem hw
  have hl : i < (az_lps.getD c []).length := by rw [← h.1]; exact (List.getElem?_eq_some_iff.mp hi).1
  have h2 := List.all_eq_true.mp h.2 (w, (az_lps.getD c [])[i]) (List.mem_of_getElem? (i := i) (by rw [List.getElem?_zip_eq_some]; exact ⟨hi, List.getElem?_eq_getElem hl⟩))
  exact az_hw_in h2
theorem az_cls_at {c : Nat} (hc : c < 9) : az_cls[c]? = some (az_R c, az_T c, az_N c) := by
  unfold az_cls
  rw [List.getElem?_map, List.getElem?_range hc]
  rfl
theorem az_ty_ok : (List.range 9).all (fun c => (List.range (az_N c)).all (fun k => decide (parseFieldDescriptor (az_T c k).2.2.1 = some (az_t c k)) && (List.range (az_N c)).all (fun j => decide (k = j) || decide ((az_T c k).2.1 ≠ (az_T c j).2.1)))) = true := by decide +kernel
theorem az_ty_at {c k : Nat} (hc : c < 9) (hk : k < az_N c) : parseFieldDescriptor (az_T c k).2.2.1 = some (az_t c k) := by
  have h := List.all_eq_true.mp (List.all_eq_true.mp az_ty_ok c (List.mem_range.mpr hc)) k (List.mem_range.mpr hk)
  simp only [Bool.and_eq_true, decide_eq_true_eq] at h
  exact h.1
theorem az_nm_at {c : Nat} (hc : c < 9) : ∀ a, a < az_N c → ∀ b, b < az_N c → a ≠ b → (az_T c a).2.1 ≠ (az_T c b).2.1 := by
  intro a ha b hb hne
  have h := List.all_eq_true.mp (List.all_eq_true.mp az_ty_ok c (List.mem_range.mpr hc)) a (List.mem_range.mpr ha)
  simp only [Bool.and_eq_true] at h
  have h2 := List.all_eq_true.mp h.2 b (List.mem_range.mpr hb)
  simp only [Bool.or_eq_true, decide_eq_true_eq] at h2
  exact h2.resolve_left hne
/-- the first n entries alone -/
def az_okp (M : Nat) : Nat → aC → Bool
  | 0, _ => true
  | _ + 1, [] => true
  | n + 1, e :: l => az_dec (az_by M) e.1 e.2.1 && az_res M e.1 e.2.1 e.2.2 && (match l with
      | [] => true
      | e2 :: _ => decide (az_len e.2.1 = 0) || decide (e2.1 = e.1 + az_len e.2.1)) && az_okp M n l
theorem az_okp_ok (M : Nat) : ∀ (n : Nat) (c : aC), az_okp M n c = true → az_okc M (c.drop n) = true → az_okc M c = true
  | 0, c, _, h => h
  | n + 1, [], _, _ => rfl
  | n + 1, e :: l, h, h2 => by
    simp only [az_okp, Bool.and_eq_true] at h
    simp only [az_okc, Bool.and_eq_true]
    exact ⟨h.1, az_okp_ok M n l h.2 h2⟩
/-- of a method: its name, its return type, its locals -/
def az_okm (M : Nat) : Bool := plainName (az_y M).cls && decide (az_ml M ≤ 40 ∧ (az_cd M).head?.map (·.1) = some 0) &&
  (match az_rt M with
    | 0 => decide (az_re M = none)
    | 1 => decide (az_re M = some .int)
    | 2 => decide (az_re M = some .boolean)
    | 3 => decide (az_re M = some .long)
    | 4 => decide (az_re M = some (.object "java/lang/String"))
    | 5 => decide (az_re M = some .char)
    | _ => decide (az_re M = some .byte))
def az_cw (M : Nat) : Prop := Cond.code (az_y M) (az_by M) (az_ml M) (az_re M) ∈ az_good
theorem az_cw_of {M : Nat} (k : Nat) (h : lw_tbl[k]? = some (Cond.code (az_y M) (az_by M) (az_ml M) (az_re M))) : az_cw M := List.mem_filter.mpr ⟨List.mem_of_getElem? h, rfl⟩
