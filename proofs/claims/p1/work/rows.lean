section
-- ===== PART A: goes FIRST, ahead of the names: the tables' words, and 'selects' of the private methods out of them =====
/-- a private method of a class that the tables say can be made, by its rows of tables_1 -/
def lw_okq (q : MethodName × Nat) : Prop := (q.1.cls ≠ "java/lang/invoke/MethodHandle" ∧ q.1.cls ≠ "java/lang/invoke/VarHandle") ∧ Cond.instantiable q.1.cls q.2 ∈ tables_1 ∧ Cond.privateMethod q.1 ∈ tables_1 ∧ Cond.instanceMethod q.1 ∈ tables_1
theorem lw_p0 : lw_okq (⟨"FormulaVoice$Page", "addPart", "(II)V"⟩, 13) := ⟨⟨by decide +kernel, by decide +kernel⟩, List.mem_of_getElem? (i := 26) (by decide +kernel), List.mem_of_getElem? (i := 237) (by decide +kernel), List.mem_of_getElem? (i := 238) (by decide +kernel)⟩
theorem lw_p1 : lw_okq (⟨"FormulaVoice$Page", "firstAlike", "(I)I"⟩, 13) := ⟨⟨by decide +kernel, by decide +kernel⟩, List.mem_of_getElem? (i := 26) (by decide +kernel), List.mem_of_getElem? (i := 248) (by decide +kernel), List.mem_of_getElem? (i := 249) (by decide +kernel)⟩
theorem lw_p2 : lw_okq (⟨"FormulaVoice$Page", "shapeOf", "(I)I"⟩, 13) := ⟨⟨by decide +kernel, by decide +kernel⟩, List.mem_of_getElem? (i := 26) (by decide +kernel), List.mem_of_getElem? (i := 256) (by decide +kernel), List.mem_of_getElem? (i := 257) (by decide +kernel)⟩
theorem lw_p3 : lw_okq (⟨"FormulaVoice$Page", "tallyOf", "(I)I"⟩, 13) := ⟨⟨by decide +kernel, by decide +kernel⟩, List.mem_of_getElem? (i := 26) (by decide +kernel), List.mem_of_getElem? (i := 322) (by decide +kernel), List.mem_of_getElem? (i := 323) (by decide +kernel)⟩
theorem lw_p4 : lw_okq (⟨"FormulaVoice$Speech", "tell", "(LFormulaVoice$Page;IZI)V"⟩, 4) := ⟨⟨by decide +kernel, by decide +kernel⟩, List.mem_of_getElem? (i := 90) (by decide +kernel), List.mem_of_getElem? (i := 343) (by decide +kernel), List.mem_of_getElem? (i := 344) (by decide +kernel)⟩
theorem lw_p5 : lw_okq (⟨"FormulaVoice$Speech", "add", "(I)V"⟩, 4) := ⟨⟨by decide +kernel, by decide +kernel⟩, List.mem_of_getElem? (i := 90) (by decide +kernel), List.mem_of_getElem? (i := 348) (by decide +kernel), List.mem_of_getElem? (i := 349) (by decide +kernel)⟩
theorem lw_p6 : lw_okq (⟨"FormulaVoice$Speech", "tellBare", "(LFormulaVoice$Page;II)V"⟩, 4) := ⟨⟨by decide +kernel, by decide +kernel⟩, List.mem_of_getElem? (i := 90) (by decide +kernel), List.mem_of_getElem? (i := 352) (by decide +kernel), List.mem_of_getElem? (i := 353) (by decide +kernel)⟩
theorem lw_p7 : lw_okq (⟨"FormulaVoice$Speech", "isPartKept", "(LFormulaVoice$Page;IIZ)Z"⟩, 4) := ⟨⟨by decide +kernel, by decide +kernel⟩, List.mem_of_getElem? (i := 90) (by decide +kernel), List.mem_of_getElem? (i := 356) (by decide +kernel), List.mem_of_getElem? (i := 357) (by decide +kernel)⟩
theorem lw_p8 : lw_okq (⟨"FormulaVoice$Speech", "addDigits", "(I)V"⟩, 4) := ⟨⟨by decide +kernel, by decide +kernel⟩, List.mem_of_getElem? (i := 90) (by decide +kernel), List.mem_of_getElem? (i := 367) (by decide +kernel), List.mem_of_getElem? (i := 368) (by decide +kernel)⟩
theorem lw_p9 : lw_okq (⟨"FormulaVoice", "hearSpeech", "()I"⟩, 9) := ⟨⟨by decide +kernel, by decide +kernel⟩, List.mem_of_getElem? (i := 18) (by decide +kernel), List.mem_of_getElem? (i := 408) (by decide +kernel), List.mem_of_getElem? (i := 409) (by decide +kernel)⟩
theorem lw_p10 : lw_okq (⟨"FormulaVoice", "tallyIn", "(I)J"⟩, 9) := ⟨⟨by decide +kernel, by decide +kernel⟩, List.mem_of_getElem? (i := 18) (by decide +kernel), List.mem_of_getElem? (i := 427) (by decide +kernel), List.mem_of_getElem? (i := 428) (by decide +kernel)⟩
theorem lw_p11 : lw_okq (⟨"FormulaVoice$Hearing", "waysOf", "(III)J"⟩, 6) := ⟨⟨by decide +kernel, by decide +kernel⟩, List.mem_of_getElem? (i := 111) (by decide +kernel), List.mem_of_getElem? (i := 435) (by decide +kernel), List.mem_of_getElem? (i := 436) (by decide +kernel)⟩
theorem lw_p12 : lw_okq (⟨"FormulaVoice$Hearing", "bareWays", "(III)J"⟩, 6) := ⟨⟨by decide +kernel, by decide +kernel⟩, List.mem_of_getElem? (i := 111) (by decide +kernel), List.mem_of_getElem? (i := 439) (by decide +kernel), List.mem_of_getElem? (i := 440) (by decide +kernel)⟩
theorem lw_p13 : lw_okq (⟨"FormulaVoice$Hearing", "kindByEnds", "(II)I"⟩, 6) := ⟨⟨by decide +kernel, by decide +kernel⟩, List.mem_of_getElem? (i := 111) (by decide +kernel), List.mem_of_getElem? (i := 445) (by decide +kernel), List.mem_of_getElem? (i := 446) (by decide +kernel)⟩
theorem lw_p14 : lw_okq (⟨"FormulaVoice$Hearing", "numberIn", "(II)I"⟩, 6) := ⟨⟨by decide +kernel, by decide +kernel⟩, List.mem_of_getElem? (i := 111) (by decide +kernel), List.mem_of_getElem? (i := 449) (by decide +kernel), List.mem_of_getElem? (i := 450) (by decide +kernel)⟩
theorem lw_p15 : lw_okq (⟨"FormulaVoice$Hearing", "isBracketed", "(II)Z"⟩, 6) := ⟨⟨by decide +kernel, by decide +kernel⟩, List.mem_of_getElem? (i := 111) (by decide +kernel), List.mem_of_getElem? (i := 459) (by decide +kernel), List.mem_of_getElem? (i := 460) (by decide +kernel)⟩
def lw_privs_1 : List (MethodName × Nat) := [(⟨"FormulaVoice$Page", "addPart", "(II)V"⟩, 13), (⟨"FormulaVoice$Page", "firstAlike", "(I)I"⟩, 13), (⟨"FormulaVoice$Page", "shapeOf", "(I)I"⟩, 13), (⟨"FormulaVoice$Page", "tallyOf", "(I)I"⟩, 13), (⟨"FormulaVoice$Speech", "tell", "(LFormulaVoice$Page;IZI)V"⟩, 4), (⟨"FormulaVoice$Speech", "add", "(I)V"⟩, 4), (⟨"FormulaVoice$Speech", "tellBare", "(LFormulaVoice$Page;II)V"⟩, 4), (⟨"FormulaVoice$Speech", "isPartKept", "(LFormulaVoice$Page;IIZ)Z"⟩, 4), (⟨"FormulaVoice$Speech", "addDigits", "(I)V"⟩, 4), (⟨"FormulaVoice", "hearSpeech", "()I"⟩, 9), (⟨"FormulaVoice", "tallyIn", "(I)J"⟩, 9), (⟨"FormulaVoice$Hearing", "waysOf", "(III)J"⟩, 6), (⟨"FormulaVoice$Hearing", "bareWays", "(III)J"⟩, 6), (⟨"FormulaVoice$Hearing", "kindByEnds", "(II)I"⟩, 6), (⟨"FormulaVoice$Hearing", "numberIn", "(II)I"⟩, 6), (⟨"FormulaVoice$Hearing", "isBracketed", "(II)Z"⟩, 6)]
theorem lw_r1 : ∀ q ∈ lw_privs_1, lw_okq q := List.forall_mem_cons.mpr ⟨lw_p0, List.forall_mem_cons.mpr ⟨lw_p1, List.forall_mem_cons.mpr ⟨lw_p2, List.forall_mem_cons.mpr ⟨lw_p3, List.forall_mem_cons.mpr ⟨lw_p4, List.forall_mem_cons.mpr ⟨lw_p5, List.forall_mem_cons.mpr ⟨lw_p6, List.forall_mem_cons.mpr ⟨lw_p7, List.forall_mem_cons.mpr ⟨lw_p8, List.forall_mem_cons.mpr ⟨lw_p9, List.forall_mem_cons.mpr ⟨lw_p10, List.forall_mem_cons.mpr ⟨lw_p11, List.forall_mem_cons.mpr ⟨lw_p12, List.forall_mem_cons.mpr ⟨lw_p13, List.forall_mem_cons.mpr ⟨lw_p14, List.forall_mem_cons.mpr ⟨lw_p15, fun _ h => absurd h List.not_mem_nil⟩⟩⟩⟩⟩⟩⟩⟩⟩⟩⟩⟩⟩⟩⟩⟩
theorem lw_p16 : lw_okq (⟨"FormulaVoice$Hearing", "buildSpan", "(LFormulaVoice$Page;IIJ)I"⟩, 6) := ⟨⟨by decide +kernel, by decide +kernel⟩, List.mem_of_getElem? (i := 111) (by decide +kernel), List.mem_of_getElem? (i := 471) (by decide +kernel), List.mem_of_getElem? (i := 472) (by decide +kernel)⟩
theorem lw_p17 : lw_okq (⟨"FormulaVoice$Hearing", "buildBare", "(LFormulaVoice$Page;IIIJ)I"⟩, 6) := ⟨⟨by decide +kernel, by decide +kernel⟩, List.mem_of_getElem? (i := 111) (by decide +kernel), List.mem_of_getElem? (i := 475) (by decide +kernel), List.mem_of_getElem? (i := 476) (by decide +kernel)⟩
theorem lw_p18 : lw_okq (⟨"FormulaVoice$Hearing", "buildPair", "(LFormulaVoice$Page;IIIJ)I"⟩, 6) := ⟨⟨by decide +kernel, by decide +kernel⟩, List.mem_of_getElem? (i := 111) (by decide +kernel), List.mem_of_getElem? (i := 479) (by decide +kernel), List.mem_of_getElem? (i := 480) (by decide +kernel)⟩
theorem lw_p19 : lw_okq (⟨"FormulaVoice$Hearing", "placeIn", "(LFormulaVoice$Page;III)J"⟩, 6) := ⟨⟨by decide +kernel, by decide +kernel⟩, List.mem_of_getElem? (i := 111) (by decide +kernel), List.mem_of_getElem? (i := 494) (by decide +kernel), List.mem_of_getElem? (i := 495) (by decide +kernel)⟩
theorem lw_p20 : lw_okq (⟨"FormulaVoice$Hearing", "placeBare", "(LFormulaVoice$Page;III)J"⟩, 6) := ⟨⟨by decide +kernel, by decide +kernel⟩, List.mem_of_getElem? (i := 111) (by decide +kernel), List.mem_of_getElem? (i := 500) (by decide +kernel), List.mem_of_getElem? (i := 501) (by decide +kernel)⟩
theorem lw_p21 : lw_okq (⟨"FormulaVoice$Hearing", "placePair", "(LFormulaVoice$Page;III)J"⟩, 6) := ⟨⟨by decide +kernel, by decide +kernel⟩, List.mem_of_getElem? (i := 111) (by decide +kernel), List.mem_of_getElem? (i := 504) (by decide +kernel), List.mem_of_getElem? (i := 505) (by decide +kernel)⟩
theorem lw_p22 : lw_okq (⟨"FormulaVoice$Walk", "leadsSomewhere", "(LFormulaVoice$Page;I)Z"⟩, 4) := ⟨⟨by decide +kernel, by decide +kernel⟩, List.mem_of_getElem? (i := 141) (by decide +kernel), List.mem_of_getElem? (i := 566) (by decide +kernel), List.mem_of_getElem? (i := 567) (by decide +kernel)⟩
theorem lw_p23 : lw_okq (⟨"FormulaVoice$Page", "difference", "(III)I"⟩, 13) := ⟨⟨by decide +kernel, by decide +kernel⟩, List.mem_of_getElem? (i := 26) (by decide +kernel), List.mem_of_getElem? (i := 583) (by decide +kernel), List.mem_of_getElem? (i := 584) (by decide +kernel)⟩
theorem lw_p24 : lw_okq (⟨"FormulaVoice$Page", "exchanges", "(III)I"⟩, 13) := ⟨⟨by decide +kernel, by decide +kernel⟩, List.mem_of_getElem? (i := 26) (by decide +kernel), List.mem_of_getElem? (i := 595) (by decide +kernel), List.mem_of_getElem? (i := 596) (by decide +kernel)⟩
theorem lw_p25 : lw_okq (⟨"FormulaVoice", "keepNode", "(LFormulaVoice$Shelf;II)I"⟩, 9) := ⟨⟨by decide +kernel, by decide +kernel⟩, List.mem_of_getElem? (i := 18) (by decide +kernel), List.mem_of_getElem? (i := 624) (by decide +kernel), List.mem_of_getElem? (i := 625) (by decide +kernel)⟩
theorem lw_p26 : lw_okq (⟨"FormulaVoice$Page", "layKindsFrom", "(I[III)I"⟩, 13) := ⟨⟨by decide +kernel, by decide +kernel⟩, List.mem_of_getElem? (i := 26) (by decide +kernel), List.mem_of_getElem? (i := 640) (by decide +kernel), List.mem_of_getElem? (i := 641) (by decide +kernel)⟩
theorem lw_p27 : lw_okq (⟨"FormulaVoice", "nodeRefusal", "(I)I"⟩, 9) := ⟨⟨by decide +kernel, by decide +kernel⟩, List.mem_of_getElem? (i := 18) (by decide +kernel), List.mem_of_getElem? (i := 667) (by decide +kernel), List.mem_of_getElem? (i := 668) (by decide +kernel)⟩
theorem lw_p28 : lw_okq (⟨"java/lang/Throwable", "fillInStackTrace", "(I)Ljava/lang/Throwable;"⟩, 6) := ⟨⟨by decide +kernel, by decide +kernel⟩, List.mem_of_getElem? (i := 724) (by decide +kernel), List.mem_of_getElem? (i := 722) (by decide +kernel), List.mem_of_getElem? (i := 723) (by decide +kernel)⟩
theorem lw_p29 : lw_okq (⟨"FormulaVoiceModel", "sets", "(IIIII)V"⟩, 35) := ⟨⟨by decide +kernel, by decide +kernel⟩, List.mem_of_getElem? (i := 795) (by decide +kernel), List.mem_of_getElem? (i := 921) (by decide +kernel), List.mem_of_getElem? (i := 922) (by decide +kernel)⟩
theorem lw_p30 : lw_okq (⟨"FormulaVoiceModel", "isNode", "(I)Z"⟩, 35) := ⟨⟨by decide +kernel, by decide +kernel⟩, List.mem_of_getElem? (i := 795) (by decide +kernel), List.mem_of_getElem? (i := 930) (by decide +kernel), List.mem_of_getElem? (i := 931) (by decide +kernel)⟩
theorem lw_p31 : lw_okq (⟨"FormulaVoiceModel", "isRight", "(I)Z"⟩, 35) := ⟨⟨by decide +kernel, by decide +kernel⟩, List.mem_of_getElem? (i := 795) (by decide +kernel), List.mem_of_getElem? (i := 950) (by decide +kernel), List.mem_of_getElem? (i := 951) (by decide +kernel)⟩
def lw_privs_2 : List (MethodName × Nat) := [(⟨"FormulaVoice$Hearing", "buildSpan", "(LFormulaVoice$Page;IIJ)I"⟩, 6), (⟨"FormulaVoice$Hearing", "buildBare", "(LFormulaVoice$Page;IIIJ)I"⟩, 6), (⟨"FormulaVoice$Hearing", "buildPair", "(LFormulaVoice$Page;IIIJ)I"⟩, 6), (⟨"FormulaVoice$Hearing", "placeIn", "(LFormulaVoice$Page;III)J"⟩, 6), (⟨"FormulaVoice$Hearing", "placeBare", "(LFormulaVoice$Page;III)J"⟩, 6), (⟨"FormulaVoice$Hearing", "placePair", "(LFormulaVoice$Page;III)J"⟩, 6), (⟨"FormulaVoice$Walk", "leadsSomewhere", "(LFormulaVoice$Page;I)Z"⟩, 4), (⟨"FormulaVoice$Page", "difference", "(III)I"⟩, 13), (⟨"FormulaVoice$Page", "exchanges", "(III)I"⟩, 13), (⟨"FormulaVoice", "keepNode", "(LFormulaVoice$Shelf;II)I"⟩, 9), (⟨"FormulaVoice$Page", "layKindsFrom", "(I[III)I"⟩, 13), (⟨"FormulaVoice", "nodeRefusal", "(I)I"⟩, 9), (⟨"java/lang/Throwable", "fillInStackTrace", "(I)Ljava/lang/Throwable;"⟩, 6), (⟨"FormulaVoiceModel", "sets", "(IIIII)V"⟩, 35), (⟨"FormulaVoiceModel", "isNode", "(I)Z"⟩, 35), (⟨"FormulaVoiceModel", "isRight", "(I)Z"⟩, 35)]
theorem lw_r2 : ∀ q ∈ lw_privs_2, lw_okq q := List.forall_mem_cons.mpr ⟨lw_p16, List.forall_mem_cons.mpr ⟨lw_p17, List.forall_mem_cons.mpr ⟨lw_p18, List.forall_mem_cons.mpr ⟨lw_p19, List.forall_mem_cons.mpr ⟨lw_p20, List.forall_mem_cons.mpr ⟨lw_p21, List.forall_mem_cons.mpr ⟨lw_p22, List.forall_mem_cons.mpr ⟨lw_p23, List.forall_mem_cons.mpr ⟨lw_p24, List.forall_mem_cons.mpr ⟨lw_p25, List.forall_mem_cons.mpr ⟨lw_p26, List.forall_mem_cons.mpr ⟨lw_p27, List.forall_mem_cons.mpr ⟨lw_p28, List.forall_mem_cons.mpr ⟨lw_p29, List.forall_mem_cons.mpr ⟨lw_p30, List.forall_mem_cons.mpr ⟨lw_p31, fun _ h => absurd h List.not_mem_nil⟩⟩⟩⟩⟩⟩⟩⟩⟩⟩⟩⟩⟩⟩⟩⟩
theorem lw_p32 : lw_okq (⟨"FormulaVoiceModel", "areAlike", "(II)Z"⟩, 35) := ⟨⟨by decide +kernel, by decide +kernel⟩, List.mem_of_getElem? (i := 795) (by decide +kernel), List.mem_of_getElem? (i := 958) (by decide +kernel), List.mem_of_getElem? (i := 959) (by decide +kernel)⟩
theorem lw_p33 : lw_okq (⟨"FormulaVoiceModel", "has", "(II)I"⟩, 35) := ⟨⟨by decide +kernel, by decide +kernel⟩, List.mem_of_getElem? (i := 795) (by decide +kernel), List.mem_of_getElem? (i := 966) (by decide +kernel), List.mem_of_getElem? (i := 967) (by decide +kernel)⟩
theorem lw_p34 : lw_okq (⟨"FormulaVoiceModel", "length", "(II)I"⟩, 35) := ⟨⟨by decide +kernel, by decide +kernel⟩, List.mem_of_getElem? (i := 795) (by decide +kernel), List.mem_of_getElem? (i := 985) (by decide +kernel), List.mem_of_getElem? (i := 986) (by decide +kernel)⟩
theorem lw_p35 : lw_okq (⟨"FormulaVoiceModel", "own", "(I)I"⟩, 35) := ⟨⟨by decide +kernel, by decide +kernel⟩, List.mem_of_getElem? (i := 795) (by decide +kernel), List.mem_of_getElem? (i := 989) (by decide +kernel), List.mem_of_getElem? (i := 990) (by decide +kernel)⟩
theorem lw_p36 : lw_okq (⟨"FormulaVoiceModel", "sayAll", "(II)V"⟩, 35) := ⟨⟨by decide +kernel, by decide +kernel⟩, List.mem_of_getElem? (i := 795) (by decide +kernel), List.mem_of_getElem? (i := 1000) (by decide +kernel), List.mem_of_getElem? (i := 1001) (by decide +kernel)⟩
theorem lw_p37 : lw_okq (⟨"FormulaVoiceModel", "say", "(II)V"⟩, 35) := ⟨⟨by decide +kernel, by decide +kernel⟩, List.mem_of_getElem? (i := 795) (by decide +kernel), List.mem_of_getElem? (i := 1004) (by decide +kernel), List.mem_of_getElem? (i := 1005) (by decide +kernel)⟩
theorem lw_p38 : lw_okq (⟨"FormulaVoiceModel", "keepsIt", "(II)Z"⟩, 35) := ⟨⟨by decide +kernel, by decide +kernel⟩, List.mem_of_getElem? (i := 795) (by decide +kernel), List.mem_of_getElem? (i := 1008) (by decide +kernel), List.mem_of_getElem? (i := 1009) (by decide +kernel)⟩
theorem lw_p39 : lw_okq (⟨"FormulaVoiceModel", "says", "(I)V"⟩, 35) := ⟨⟨by decide +kernel, by decide +kernel⟩, List.mem_of_getElem? (i := 795) (by decide +kernel), List.mem_of_getElem? (i := 1012) (by decide +kernel), List.mem_of_getElem? (i := 1013) (by decide +kernel)⟩
theorem lw_p40 : lw_okq (⟨"FormulaVoiceModel", "adds", "(IIII)V"⟩, 35) := ⟨⟨by decide +kernel, by decide +kernel⟩, List.mem_of_getElem? (i := 795) (by decide +kernel), List.mem_of_getElem? (i := 1025) (by decide +kernel), List.mem_of_getElem? (i := 1026) (by decide +kernel)⟩
theorem lw_p41 : lw_okq (⟨"FormulaVoiceModel", "grows", "(I)V"⟩, 35) := ⟨⟨by decide +kernel, by decide +kernel⟩, List.mem_of_getElem? (i := 795) (by decide +kernel), List.mem_of_getElem? (i := 1029) (by decide +kernel), List.mem_of_getElem? (i := 1030) (by decide +kernel)⟩
theorem lw_p42 : lw_okq (⟨"FormulaVoiceModel", "isSame", "(II)Z"⟩, 35) := ⟨⟨by decide +kernel, by decide +kernel⟩, List.mem_of_getElem? (i := 795) (by decide +kernel), List.mem_of_getElem? (i := 1033) (by decide +kernel), List.mem_of_getElem? (i := 1034) (by decide +kernel)⟩
theorem lw_p43 : lw_okq (⟨"FormulaVoiceModel", "hears", "()V"⟩, 35) := ⟨⟨by decide +kernel, by decide +kernel⟩, List.mem_of_getElem? (i := 795) (by decide +kernel), List.mem_of_getElem? (i := 1046) (by decide +kernel), List.mem_of_getElem? (i := 1047) (by decide +kernel)⟩
theorem lw_p44 : lw_okq (⟨"FormulaVoiceModel", "counted", "(I)J"⟩, 35) := ⟨⟨by decide +kernel, by decide +kernel⟩, List.mem_of_getElem? (i := 795) (by decide +kernel), List.mem_of_getElem? (i := 1063) (by decide +kernel), List.mem_of_getElem? (i := 1064) (by decide +kernel)⟩
theorem lw_p45 : lw_okq (⟨"FormulaVoiceModel", "reckons", "(I)V"⟩, 35) := ⟨⟨by decide +kernel, by decide +kernel⟩, List.mem_of_getElem? (i := 795) (by decide +kernel), List.mem_of_getElem? (i := 1067) (by decide +kernel), List.mem_of_getElem? (i := 1068) (by decide +kernel)⟩
theorem lw_p46 : lw_okq (⟨"FormulaVoiceModel", "isLet", "(IZ)Z"⟩, 35) := ⟨⟨by decide +kernel, by decide +kernel⟩, List.mem_of_getElem? (i := 795) (by decide +kernel), List.mem_of_getElem? (i := 1071) (by decide +kernel), List.mem_of_getElem? (i := 1072) (by decide +kernel)⟩
theorem lw_p47 : lw_okq (⟨"FormulaVoiceModel", "within", "(III)J"⟩, 35) := ⟨⟨by decide +kernel, by decide +kernel⟩, List.mem_of_getElem? (i := 795) (by decide +kernel), List.mem_of_getElem? (i := 1075) (by decide +kernel), List.mem_of_getElem? (i := 1076) (by decide +kernel)⟩
def lw_privs_3 : List (MethodName × Nat) := [(⟨"FormulaVoiceModel", "areAlike", "(II)Z"⟩, 35), (⟨"FormulaVoiceModel", "has", "(II)I"⟩, 35), (⟨"FormulaVoiceModel", "length", "(II)I"⟩, 35), (⟨"FormulaVoiceModel", "own", "(I)I"⟩, 35), (⟨"FormulaVoiceModel", "sayAll", "(II)V"⟩, 35), (⟨"FormulaVoiceModel", "say", "(II)V"⟩, 35), (⟨"FormulaVoiceModel", "keepsIt", "(II)Z"⟩, 35), (⟨"FormulaVoiceModel", "says", "(I)V"⟩, 35), (⟨"FormulaVoiceModel", "adds", "(IIII)V"⟩, 35), (⟨"FormulaVoiceModel", "grows", "(I)V"⟩, 35), (⟨"FormulaVoiceModel", "isSame", "(II)Z"⟩, 35), (⟨"FormulaVoiceModel", "hears", "()V"⟩, 35), (⟨"FormulaVoiceModel", "counted", "(I)J"⟩, 35), (⟨"FormulaVoiceModel", "reckons", "(I)V"⟩, 35), (⟨"FormulaVoiceModel", "isLet", "(IZ)Z"⟩, 35), (⟨"FormulaVoiceModel", "within", "(III)J"⟩, 35)]
theorem lw_r3 : ∀ q ∈ lw_privs_3, lw_okq q := List.forall_mem_cons.mpr ⟨lw_p32, List.forall_mem_cons.mpr ⟨lw_p33, List.forall_mem_cons.mpr ⟨lw_p34, List.forall_mem_cons.mpr ⟨lw_p35, List.forall_mem_cons.mpr ⟨lw_p36, List.forall_mem_cons.mpr ⟨lw_p37, List.forall_mem_cons.mpr ⟨lw_p38, List.forall_mem_cons.mpr ⟨lw_p39, List.forall_mem_cons.mpr ⟨lw_p40, List.forall_mem_cons.mpr ⟨lw_p41, List.forall_mem_cons.mpr ⟨lw_p42, List.forall_mem_cons.mpr ⟨lw_p43, List.forall_mem_cons.mpr ⟨lw_p44, List.forall_mem_cons.mpr ⟨lw_p45, List.forall_mem_cons.mpr ⟨lw_p46, List.forall_mem_cons.mpr ⟨lw_p47, fun _ h => absurd h List.not_mem_nil⟩⟩⟩⟩⟩⟩⟩⟩⟩⟩⟩⟩⟩⟩⟩⟩
theorem lw_p48 : lw_okq (⟨"FormulaVoiceModel", "isNumber", "(II)Z"⟩, 35) := ⟨⟨by decide +kernel, by decide +kernel⟩, List.mem_of_getElem? (i := 795) (by decide +kernel), List.mem_of_getElem? (i := 1079) (by decide +kernel), List.mem_of_getElem? (i := 1080) (by decide +kernel)⟩
theorem lw_p49 : lw_okq (⟨"FormulaVoiceModel", "takes", "(IIJ)I"⟩, 35) := ⟨⟨by decide +kernel, by decide +kernel⟩, List.mem_of_getElem? (i := 795) (by decide +kernel), List.mem_of_getElem? (i := 1096) (by decide +kernel), List.mem_of_getElem? (i := 1097) (by decide +kernel)⟩
theorem lw_p50 : lw_okq (⟨"FormulaVoiceModel", "makes", "(IIII)I"⟩, 35) := ⟨⟨by decide +kernel, by decide +kernel⟩, List.mem_of_getElem? (i := 795) (by decide +kernel), List.mem_of_getElem? (i := 1100) (by decide +kernel), List.mem_of_getElem? (i := 1101) (by decide +kernel)⟩
theorem lw_p51 : lw_okq (⟨"FormulaVoiceModel", "takesTwo", "(IIIJ)I"⟩, 35) := ⟨⟨by decide +kernel, by decide +kernel⟩, List.mem_of_getElem? (i := 795) (by decide +kernel), List.mem_of_getElem? (i := 1104) (by decide +kernel), List.mem_of_getElem? (i := 1105) (by decide +kernel)⟩
theorem lw_p52 : lw_okq (⟨"FormulaVoiceModel", "copies", "(I)I"⟩, 35) := ⟨⟨by decide +kernel, by decide +kernel⟩, List.mem_of_getElem? (i := 795) (by decide +kernel), List.mem_of_getElem? (i := 1108) (by decide +kernel), List.mem_of_getElem? (i := 1109) (by decide +kernel)⟩
theorem lw_p53 : lw_okq (⟨"FormulaVoiceModel", "rank", "(III)J"⟩, 35) := ⟨⟨by decide +kernel, by decide +kernel⟩, List.mem_of_getElem? (i := 795) (by decide +kernel), List.mem_of_getElem? (i := 1118) (by decide +kernel), List.mem_of_getElem? (i := 1119) (by decide +kernel)⟩
theorem lw_p54 : lw_okq (⟨"FormulaVoiceModel", "inner", "(III)J"⟩, 35) := ⟨⟨by decide +kernel, by decide +kernel⟩, List.mem_of_getElem? (i := 795) (by decide +kernel), List.mem_of_getElem? (i := 1122) (by decide +kernel), List.mem_of_getElem? (i := 1123) (by decide +kernel)⟩
theorem lw_p55 : lw_okq (⟨"FormulaVoiceModel", "innerTwo", "(III)J"⟩, 35) := ⟨⟨by decide +kernel, by decide +kernel⟩, List.mem_of_getElem? (i := 795) (by decide +kernel), List.mem_of_getElem? (i := 1126) (by decide +kernel), List.mem_of_getElem? (i := 1127) (by decide +kernel)⟩
theorem lw_p56 : lw_okq (⟨"FormulaVoiceModel", "keepable", "(I)I"⟩, 35) := ⟨⟨by decide +kernel, by decide +kernel⟩, List.mem_of_getElem? (i := 795) (by decide +kernel), List.mem_of_getElem? (i := 1138) (by decide +kernel), List.mem_of_getElem? (i := 1139) (by decide +kernel)⟩
theorem lw_p57 : lw_okq (⟨"FormulaVoiceModel", "isOnly", "(III)Z"⟩, 35) := ⟨⟨by decide +kernel, by decide +kernel⟩, List.mem_of_getElem? (i := 795) (by decide +kernel), List.mem_of_getElem? (i := 1145) (by decide +kernel), List.mem_of_getElem? (i := 1146) (by decide +kernel)⟩
theorem lw_p58 : lw_okq (⟨"FormulaVoiceModel", "down", "(I)Z"⟩, 35) := ⟨⟨by decide +kernel, by decide +kernel⟩, List.mem_of_getElem? (i := 795) (by decide +kernel), List.mem_of_getElem? (i := 1158) (by decide +kernel), List.mem_of_getElem? (i := 1159) (by decide +kernel)⟩
theorem lw_p59 : lw_okq (⟨"FormulaVoiceModel", "glanced", "(III)I"⟩, 35) := ⟨⟨by decide +kernel, by decide +kernel⟩, List.mem_of_getElem? (i := 795) (by decide +kernel), List.mem_of_getElem? (i := 1174) (by decide +kernel), List.mem_of_getElem? (i := 1175) (by decide +kernel)⟩
theorem lw_p60 : lw_okq (⟨"FormulaVoiceModel", "difference", "(II)I"⟩, 35) := ⟨⟨by decide +kernel, by decide +kernel⟩, List.mem_of_getElem? (i := 795) (by decide +kernel), List.mem_of_getElem? (i := 1182) (by decide +kernel), List.mem_of_getElem? (i := 1183) (by decide +kernel)⟩
theorem lw_p61 : lw_okq (⟨"FormulaVoiceModel", "inside", "(II)I"⟩, 35) := ⟨⟨by decide +kernel, by decide +kernel⟩, List.mem_of_getElem? (i := 795) (by decide +kernel), List.mem_of_getElem? (i := 1186) (by decide +kernel), List.mem_of_getElem? (i := 1187) (by decide +kernel)⟩
theorem lw_p62 : lw_okq (⟨"FormulaVoiceModel", "wholes", "(II)I"⟩, 35) := ⟨⟨by decide +kernel, by decide +kernel⟩, List.mem_of_getElem? (i := 795) (by decide +kernel), List.mem_of_getElem? (i := 1194) (by decide +kernel), List.mem_of_getElem? (i := 1195) (by decide +kernel)⟩
theorem lw_p63 : lw_okq (⟨"FormulaVoiceModel", "functions", "()I"⟩, 35) := ⟨⟨by decide +kernel, by decide +kernel⟩, List.mem_of_getElem? (i := 795) (by decide +kernel), List.mem_of_getElem? (i := 1202) (by decide +kernel), List.mem_of_getElem? (i := 1203) (by decide +kernel)⟩
def lw_privs_4 : List (MethodName × Nat) := [(⟨"FormulaVoiceModel", "isNumber", "(II)Z"⟩, 35), (⟨"FormulaVoiceModel", "takes", "(IIJ)I"⟩, 35), (⟨"FormulaVoiceModel", "makes", "(IIII)I"⟩, 35), (⟨"FormulaVoiceModel", "takesTwo", "(IIIJ)I"⟩, 35), (⟨"FormulaVoiceModel", "copies", "(I)I"⟩, 35), (⟨"FormulaVoiceModel", "rank", "(III)J"⟩, 35), (⟨"FormulaVoiceModel", "inner", "(III)J"⟩, 35), (⟨"FormulaVoiceModel", "innerTwo", "(III)J"⟩, 35), (⟨"FormulaVoiceModel", "keepable", "(I)I"⟩, 35), (⟨"FormulaVoiceModel", "isOnly", "(III)Z"⟩, 35), (⟨"FormulaVoiceModel", "down", "(I)Z"⟩, 35), (⟨"FormulaVoiceModel", "glanced", "(III)I"⟩, 35), (⟨"FormulaVoiceModel", "difference", "(II)I"⟩, 35), (⟨"FormulaVoiceModel", "inside", "(II)I"⟩, 35), (⟨"FormulaVoiceModel", "wholes", "(II)I"⟩, 35), (⟨"FormulaVoiceModel", "functions", "()I"⟩, 35)]
theorem lw_r4 : ∀ q ∈ lw_privs_4, lw_okq q := List.forall_mem_cons.mpr ⟨lw_p48, List.forall_mem_cons.mpr ⟨lw_p49, List.forall_mem_cons.mpr ⟨lw_p50, List.forall_mem_cons.mpr ⟨lw_p51, List.forall_mem_cons.mpr ⟨lw_p52, List.forall_mem_cons.mpr ⟨lw_p53, List.forall_mem_cons.mpr ⟨lw_p54, List.forall_mem_cons.mpr ⟨lw_p55, List.forall_mem_cons.mpr ⟨lw_p56, List.forall_mem_cons.mpr ⟨lw_p57, List.forall_mem_cons.mpr ⟨lw_p58, List.forall_mem_cons.mpr ⟨lw_p59, List.forall_mem_cons.mpr ⟨lw_p60, List.forall_mem_cons.mpr ⟨lw_p61, List.forall_mem_cons.mpr ⟨lw_p62, List.forall_mem_cons.mpr ⟨lw_p63, fun _ h => absurd h List.not_mem_nil⟩⟩⟩⟩⟩⟩⟩⟩⟩⟩⟩⟩⟩⟩⟩⟩
theorem lw_p64 : lw_okq (⟨"FormulaVoiceModel", "kinds", "(II)V"⟩, 35) := ⟨⟨by decide +kernel, by decide +kernel⟩, List.mem_of_getElem? (i := 795) (by decide +kernel), List.mem_of_getElem? (i := 1213) (by decide +kernel), List.mem_of_getElem? (i := 1214) (by decide +kernel)⟩
theorem lw_p65 : lw_okq (⟨"FormulaVoiceModel", "held", "(I)I"⟩, 35) := ⟨⟨by decide +kernel, by decide +kernel⟩, List.mem_of_getElem? (i := 795) (by decide +kernel), List.mem_of_getElem? (i := 1233) (by decide +kernel), List.mem_of_getElem? (i := 1234) (by decide +kernel)⟩
def lw_privs_5 : List (MethodName × Nat) := [(⟨"FormulaVoiceModel", "kinds", "(II)V"⟩, 35), (⟨"FormulaVoiceModel", "held", "(I)I"⟩, 35)]
theorem lw_r5 : ∀ q ∈ lw_privs_5, lw_okq q := List.forall_mem_cons.mpr ⟨lw_p64, List.forall_mem_cons.mpr ⟨lw_p65, fun _ h => absurd h List.not_mem_nil⟩⟩
def lw_privs : List (MethodName × Nat) := lw_privs_1 ++ (lw_privs_2 ++ (lw_privs_3 ++ (lw_privs_4 ++ (lw_privs_5))))
def lw_tbl : List Cond := k2_sels lw_privs ++ tables_1
theorem lw_privs_ok : ∀ q ∈ lw_privs, lw_okq q := by
  show ∀ q ∈ lw_privs_1 ++ (lw_privs_2 ++ (lw_privs_3 ++ (lw_privs_4 ++ (lw_privs_5)))), lw_okq q
  exact List.forall_mem_append.mpr ⟨lw_r1, List.forall_mem_append.mpr ⟨lw_r2, List.forall_mem_append.mpr ⟨lw_r3, List.forall_mem_append.mpr ⟨lw_r4, lw_r5⟩⟩⟩⟩
end
section
/-! ===== BEGIN printed: names, fields, word lists, decode rows ===== -/
def RX0 : String := "FormulaVoice$Hearing"
def TX0 : u_T := fun k => match k with
  | 0 => ("FormulaVoice$Hearing", "row", "[I", true)
  | 1 => ("FormulaVoice$Hearing", "length", "I", false)
  | 2 => ("FormulaVoice$Hearing", "ways", "[[J", true)
  | 3 => ("FormulaVoice$Hearing", "bareKinds", "I", false)
  | 4 => ("FormulaVoice$Hearing", "keptKinds", "I", false)
  | _ => ("FormulaVoice$Hearing", "functions", "I", false)
def tyX0 : Nat → FieldType := fun k => match k with
  | 0 => .array .int
  | 1 => .int
  | 2 => .array (.array .long)
  | 3 => .int
  | 4 => .int
  | _ => .int
abbrev wsX00 : List Cond := u_ws RX0 TX0 6
theorem nmX0 : ∀ a, a < 6 → ∀ b, b < 6 → a ≠ b → (TX0 a).2.1 ≠ (TX0 b).2.1 := by decide +kernel
theorem tyX0_ok : ∀ k, k < 6 → parseFieldDescriptor (TX0 k).2.2.1 = some (tyX0 k) := by decide +kernel
abbrev cX0_init : ByteArray := prog_2_method_1_code
def yX0_init : MethodName := ⟨RX0, "<init>", "()V"⟩
abbrev cX0_add : ByteArray := prog_2_method_2_code
def yX0_add : MethodName := ⟨RX0, "add", "(I)V"⟩
abbrev cX0_tally : ByteArray := prog_2_method_3_code
def yX0_tally : MethodName := ⟨RX0, "tally", "(III)J"⟩
abbrev cX0_waysOf : ByteArray := prog_2_method_4_code
def yX0_waysOf : MethodName := ⟨RX0, "waysOf", "(III)J"⟩
abbrev cX0_isBracketed : ByteArray := prog_2_method_5_code
def yX0_isBracketed : MethodName := ⟨RX0, "isBracketed", "(II)Z"⟩
abbrev cX0_bareWays : ByteArray := prog_2_method_6_code
def yX0_bareWays : MethodName := ⟨RX0, "bareWays", "(III)J"⟩
abbrev cX0_kindByEnds : ByteArray := prog_2_method_7_code
def yX0_kindByEnds : MethodName := ⟨RX0, "kindByEnds", "(II)I"⟩
abbrev cX0_partFrom : ByteArray := prog_2_method_8_code
def yX0_partFrom : MethodName := ⟨RX0, "partFrom", "(II)I"⟩
abbrev cX0_partTo : ByteArray := prog_2_method_9_code
def yX0_partTo : MethodName := ⟨RX0, "partTo", "(II)I"⟩
abbrev cX0_numberIn : ByteArray := prog_2_method_10_code
def yX0_numberIn : MethodName := ⟨RX0, "numberIn", "(II)I"⟩
abbrev cX0_build : ByteArray := prog_2_method_11_code
def yX0_build : MethodName := ⟨RX0, "build", "(LFormulaVoice$Page;J)I"⟩
abbrev cX0_buildSpan : ByteArray := prog_2_method_12_code
def yX0_buildSpan : MethodName := ⟨RX0, "buildSpan", "(LFormulaVoice$Page;IIJ)I"⟩
abbrev cX0_buildBare : ByteArray := prog_2_method_13_code
def yX0_buildBare : MethodName := ⟨RX0, "buildBare", "(LFormulaVoice$Page;IIIJ)I"⟩
abbrev cX0_buildPair : ByteArray := prog_2_method_14_code
def yX0_buildPair : MethodName := ⟨RX0, "buildPair", "(LFormulaVoice$Page;IIIJ)I"⟩
abbrev cX0_placeOf : ByteArray := prog_2_method_15_code
def yX0_placeOf : MethodName := ⟨RX0, "placeOf", "(LFormulaVoice$Page;I)J"⟩
abbrev cX0_placeIn : ByteArray := prog_2_method_16_code
def yX0_placeIn : MethodName := ⟨RX0, "placeIn", "(LFormulaVoice$Page;III)J"⟩
abbrev cX0_placeBare : ByteArray := prog_2_method_17_code
def yX0_placeBare : MethodName := ⟨RX0, "placeBare", "(LFormulaVoice$Page;III)J"⟩
abbrev cX0_placePair : ByteArray := prog_2_method_18_code
def yX0_placePair : MethodName := ⟨RX0, "placePair", "(LFormulaVoice$Page;III)J"⟩
def RX1 : String := "FormulaVoice$Kinds"
def TX1 : u_T := fun k => match k with
  | _ => ("", "", "", false)
def tyX1 : Nat → FieldType := fun k => match k with
  | _ => .int
abbrev wsX10 : List Cond := u_ws RX1 TX1 0
theorem nmX1 : ∀ a, a < 0 → ∀ b, b < 0 → a ≠ b → (TX1 a).2.1 ≠ (TX1 b).2.1 := by decide +kernel
theorem tyX1_ok : ∀ k, k < 0 → parseFieldDescriptor (TX1 k).2.2.1 = some (tyX1 k) := by decide +kernel
abbrev cX1_isPair : ByteArray := prog_3_method_2_code
def yX1_isPair : MethodName := ⟨RX1, "isPair", "(I)Z"⟩
abbrev cX1_isPrefix : ByteArray := prog_3_method_3_code
def yX1_isPrefix : MethodName := ⟨RX1, "isPrefix", "(I)Z"⟩
abbrev cX1_hasBit : ByteArray := prog_3_method_4_code
def yX1_hasBit : MethodName := ⟨RX1, "hasBit", "(II)Z"⟩
abbrev cX1_withBit : ByteArray := prog_3_method_5_code
def yX1_withBit : MethodName := ⟨RX1, "withBit", "(IIZ)I"⟩
abbrev cX1_isDoubtful : ByteArray := prog_3_method_6_code
def yX1_isDoubtful : MethodName := ⟨RX1, "isDoubtful", "(IIZ)Z"⟩
def RX2 : String := "FormulaVoice$Page"
def TX2 : u_T := fun k => match k with
  | 0 => ("FormulaVoice$Page", "kinds", "[I", true)
  | 1 => ("FormulaVoice$Page", "values", "[I", true)
  | 2 => ("FormulaVoice$Page", "xs", "[I", true)
  | 3 => ("FormulaVoice$Page", "ys", "[I", true)
  | 4 => ("FormulaVoice$Page", "sizes", "[I", true)
  | 5 => ("FormulaVoice$Page", "depths", "[I", true)
  | 6 => ("FormulaVoice$Page", "bareWords", "[I", true)
  | 7 => ("FormulaVoice$Page", "choices", "[I", true)
  | 8 => ("FormulaVoice$Page", "letters", "[I", true)
  | 9 => ("FormulaVoice$Page", "calls", "[I", true)
  | 10 => ("FormulaVoice$Page", "shapes", "[I", true)
  | 11 => ("FormulaVoice$Page", "tallies", "[I", true)
  | _ => ("FormulaVoice$Page", "used", "I", false)
def tyX2 : Nat → FieldType := fun k => match k with
  | 0 => .array .int
  | 1 => .array .int
  | 2 => .array .int
  | 3 => .array .int
  | 4 => .array .int
  | 5 => .array .int
  | 6 => .array .int
  | 7 => .array .int
  | 8 => .array .int
  | 9 => .array .int
  | 10 => .array .int
  | 11 => .array .int
  | _ => .int
abbrev wsX20 : List Cond := u_ws RX2 TX2 13
theorem nmX2 : ∀ a, a < 13 → ∀ b, b < 13 → a ≠ b → (TX2 a).2.1 ≠ (TX2 b).2.1 := by decide +kernel
theorem tyX2_ok : ∀ k, k < 13 → parseFieldDescriptor (TX2 k).2.2.1 = some (tyX2 k) := by decide +kernel
abbrev cX2_init : ByteArray := prog_4_method_1_code
def yX2_init : MethodName := ⟨RX2, "<init>", "()V"⟩
abbrev cX2_has : ByteArray := prog_4_method_2_code
def yX2_has : MethodName := ⟨RX2, "has", "(I)Z"⟩
abbrev cX2_isFull : ByteArray := prog_4_method_3_code
def yX2_isFull : MethodName := ⟨RX2, "isFull", "()Z"⟩
abbrev cX2_sizeOf : ByteArray := prog_4_method_4_code
def yX2_sizeOf : MethodName := ⟨RX2, "sizeOf", "(I)I"⟩
abbrev cX2_partOf : ByteArray := prog_4_method_5_code
def yX2_partOf : MethodName := ⟨RX2, "partOf", "(II)I"⟩
abbrev cX2_put : ByteArray := prog_4_method_6_code
def yX2_put : MethodName := ⟨RX2, "put", "(IIII)I"⟩
abbrev cX2_addPart : ByteArray := prog_4_method_7_code
def yX2_addPart : MethodName := ⟨RX2, "addPart", "(II)V"⟩
abbrev cX2_ownWords : ByteArray := prog_4_method_8_code
def yX2_ownWords : MethodName := ⟨RX2, "ownWords", "(II)I"⟩
abbrev cX2_firstAlike : ByteArray := prog_4_method_9_code
def yX2_firstAlike : MethodName := ⟨RX2, "firstAlike", "(I)I"⟩
abbrev cX2_shapeOf : ByteArray := prog_4_method_10_code
def yX2_shapeOf : MethodName := ⟨RX2, "shapeOf", "(I)I"⟩
abbrev cX2_isSameTop : ByteArray := prog_4_method_11_code
def yX2_isSameTop : MethodName := ⟨RX2, "isSameTop", "(II)Z"⟩
abbrev cX2_isAlike : ByteArray := prog_4_method_12_code
def yX2_isAlike : MethodName := ⟨RX2, "isAlike", "(II)Z"⟩
abbrev cX2_isRight : ByteArray := prog_4_method_13_code
def yX2_isRight : MethodName := ⟨RX2, "isRight", "(II)Z"⟩
abbrev cX2_timesWithin : ByteArray := prog_4_method_14_code
def yX2_timesWithin : MethodName := ⟨RX2, "timesWithin", "(II)I"⟩
abbrev cX2_tallyOf : ByteArray := prog_4_method_15_code
def yX2_tallyOf : MethodName := ⟨RX2, "tallyOf", "(I)I"⟩
abbrev cX2_firstUnlike : ByteArray := prog_4_method_16_code
def yX2_firstUnlike : MethodName := ⟨RX2, "firstUnlike", "(II)I"⟩
abbrev cX2_differenceOf : ByteArray := prog_4_method_17_code
def yX2_differenceOf : MethodName := ⟨RX2, "differenceOf", "(II)I"⟩
abbrev cX2_exchangesOf : ByteArray := prog_4_method_18_code
def yX2_exchangesOf : MethodName := ⟨RX2, "exchangesOf", "(II)I"⟩
abbrev cX2_layKinds : ByteArray := prog_4_method_19_code
def yX2_layKinds : MethodName := ⟨RX2, "layKinds", "(I[I)V"⟩
abbrev cX2_difference : ByteArray := prog_4_method_20_code
def yX2_difference : MethodName := ⟨RX2, "difference", "(III)I"⟩
abbrev cX2_exchanges : ByteArray := prog_4_method_21_code
def yX2_exchanges : MethodName := ⟨RX2, "exchanges", "(III)I"⟩
abbrev cX2_layKindsFrom : ByteArray := prog_4_method_22_code
def yX2_layKindsFrom : MethodName := ⟨RX2, "layKindsFrom", "(I[III)I"⟩
def RX3 : String := "FormulaVoice$Shelf"
def TX3 : u_T := fun k => match k with
  | 0 => ("FormulaVoice$Shelf", "held", "I", false)
  | 1 => ("FormulaVoice$Shelf", "value", "I", false)
  | 2 => ("FormulaVoice$Shelf", "kind", "I", false)
  | 3 => ("FormulaVoice$Shelf", "size", "I", false)
  | 4 => ("FormulaVoice$Shelf", "row", "[I", true)
  | _ => ("FormulaVoice$Shelf", "length", "I", false)
def tyX3 : Nat → FieldType := fun k => match k with
  | 0 => .int
  | 1 => .int
  | 2 => .int
  | 3 => .int
  | 4 => .array .int
  | _ => .int
abbrev wsX30 : List Cond := u_ws RX3 TX3 6
theorem nmX3 : ∀ a, a < 6 → ∀ b, b < 6 → a ≠ b → (TX3 a).2.1 ≠ (TX3 b).2.1 := by decide +kernel
theorem tyX3_ok : ∀ k, k < 6 → parseFieldDescriptor (TX3 k).2.2.1 = some (tyX3 k) := by decide +kernel
abbrev cX3_init : ByteArray := prog_5_method_1_code
def yX3_init : MethodName := ⟨RX3, "<init>", "()V"⟩
abbrev cX3_drop : ByteArray := prog_5_method_2_code
def yX3_drop : MethodName := ⟨RX3, "drop", "()V"⟩
abbrev cX3_holdNode : ByteArray := prog_5_method_3_code
def yX3_holdNode : MethodName := ⟨RX3, "holdNode", "(III)V"⟩
abbrev cX3_holdNoughts : ByteArray := prog_5_method_4_code
def yX3_holdNoughts : MethodName := ⟨RX3, "holdNoughts", "(II)V"⟩
abbrev cX3_holdRow : ByteArray := prog_5_method_5_code
def yX3_holdRow : MethodName := ⟨RX3, "holdRow", "(I[II)V"⟩
abbrev cX3_hasRow : ByteArray := prog_5_method_6_code
def yX3_hasRow : MethodName := ⟨RX3, "hasRow", "()Z"⟩
abbrev cX3_hasSpan : ByteArray := prog_5_method_7_code
def yX3_hasSpan : MethodName := ⟨RX3, "hasSpan", "(II)Z"⟩
abbrev cX3_weighNode : ByteArray := prog_5_method_8_code
def yX3_weighNode : MethodName := ⟨RX3, "weighNode", "()I"⟩
def RX4 : String := "FormulaVoice$Speech"
def TX4 : u_T := fun k => match k with
  | 0 => ("FormulaVoice$Speech", "row", "[I", true)
  | 1 => ("FormulaVoice$Speech", "length", "I", false)
  | 2 => ("FormulaVoice$Speech", "keptKinds", "I", false)
  | _ => ("FormulaVoice$Speech", "sparing", "Z", false)
def tyX4 : Nat → FieldType := fun k => match k with
  | 0 => .array .int
  | 1 => .int
  | 2 => .int
  | _ => .boolean
abbrev wsX40 : List Cond := u_ws RX4 TX4 4
theorem nmX4 : ∀ a, a < 4 → ∀ b, b < 4 → a ≠ b → (TX4 a).2.1 ≠ (TX4 b).2.1 := by decide +kernel
theorem tyX4_ok : ∀ k, k < 4 → parseFieldDescriptor (TX4 k).2.2.1 = some (tyX4 k) := by decide +kernel
abbrev cX4_init : ByteArray := prog_6_method_1_code
def yX4_init : MethodName := ⟨RX4, "<init>", "()V"⟩
abbrev cX4_isTooLong : ByteArray := prog_6_method_2_code
def yX4_isTooLong : MethodName := ⟨RX4, "isTooLong", "()Z"⟩
abbrev cX4_sayInStyle : ByteArray := prog_6_method_3_code
def yX4_sayInStyle : MethodName := ⟨RX4, "sayInStyle", "(LFormulaVoice$Page;III)V"⟩
abbrev cX4_saySparingly : ByteArray := prog_6_method_4_code
def yX4_saySparingly : MethodName := ⟨RX4, "saySparingly", "(LFormulaVoice$Page;I)V"⟩
abbrev cX4_isSameAs : ByteArray := prog_6_method_5_code
def yX4_isSameAs : MethodName := ⟨RX4, "isSameAs", "(LFormulaVoice$Speech;)Z"⟩
abbrev cX4_tell : ByteArray := prog_6_method_6_code
def yX4_tell : MethodName := ⟨RX4, "tell", "(LFormulaVoice$Page;IZI)V"⟩
abbrev cX4_tellBare : ByteArray := prog_6_method_7_code
def yX4_tellBare : MethodName := ⟨RX4, "tellBare", "(LFormulaVoice$Page;II)V"⟩
abbrev cX4_isPartKept : ByteArray := prog_6_method_8_code
def yX4_isPartKept : MethodName := ⟨RX4, "isPartKept", "(LFormulaVoice$Page;IIZ)Z"⟩
abbrev cX4_addDigits : ByteArray := prog_6_method_9_code
def yX4_addDigits : MethodName := ⟨RX4, "addDigits", "(I)V"⟩
abbrev cX4_add : ByteArray := prog_6_method_10_code
def yX4_add : MethodName := ⟨RX4, "add", "(I)V"⟩
def RX5 : String := "FormulaVoice$Walk"
def TX5 : u_T := fun k => match k with
  | 0 => ("FormulaVoice$Walk", "nodes", "[I", true)
  | 1 => ("FormulaVoice$Walk", "digits", "[I", true)
  | 2 => ("FormulaVoice$Walk", "begun", "Z", false)
  | _ => ("FormulaVoice$Walk", "depth", "I", false)
def tyX5 : Nat → FieldType := fun k => match k with
  | 0 => .array .int
  | 1 => .array .int
  | 2 => .boolean
  | _ => .int
abbrev wsX50 : List Cond := u_ws RX5 TX5 4
theorem nmX5 : ∀ a, a < 4 → ∀ b, b < 4 → a ≠ b → (TX5 a).2.1 ≠ (TX5 b).2.1 := by decide +kernel
theorem tyX5_ok : ∀ k, k < 4 → parseFieldDescriptor (TX5 k).2.2.1 = some (tyX5 k) := by decide +kernel
abbrev cX5_init : ByteArray := prog_7_method_1_code
def yX5_init : MethodName := ⟨RX5, "<init>", "()V"⟩
abbrev cX5_isBegun : ByteArray := prog_7_method_2_code
def yX5_isBegun : MethodName := ⟨RX5, "isBegun", "()Z"⟩
abbrev cX5_top : ByteArray := prog_7_method_3_code
def yX5_top : MethodName := ⟨RX5, "top", "()I"⟩
abbrev cX5_here : ByteArray := prog_7_method_4_code
def yX5_here : MethodName := ⟨RX5, "here", "()I"⟩
abbrev cX5_beginAt : ByteArray := prog_7_method_5_code
def yX5_beginAt : MethodName := ⟨RX5, "beginAt", "(I)V"⟩
abbrev cX5_stepDown : ByteArray := prog_7_method_6_code
def yX5_stepDown : MethodName := ⟨RX5, "stepDown", "(LFormulaVoice$Page;I)Z"⟩
abbrev cX5_stepUp : ByteArray := prog_7_method_7_code
def yX5_stepUp : MethodName := ⟨RX5, "stepUp", "()Z"⟩
abbrev cX5_stepBeside : ByteArray := prog_7_method_8_code
def yX5_stepBeside : MethodName := ⟨RX5, "stepBeside", "(LFormulaVoice$Page;)Z"⟩
abbrev cX5_asNumber : ByteArray := prog_7_method_9_code
def yX5_asNumber : MethodName := ⟨RX5, "asNumber", "()I"⟩
abbrev cX5_follow : ByteArray := prog_7_method_10_code
def yX5_follow : MethodName := ⟨RX5, "follow", "(LFormulaVoice$Page;I)Z"⟩
abbrev cX5_leadsSomewhere : ByteArray := prog_7_method_11_code
def yX5_leadsSomewhere : MethodName := ⟨RX5, "leadsSomewhere", "(LFormulaVoice$Page;I)Z"⟩
def RX6 : String := "FormulaVoice"
def TX6 : u_T := fun k => match k with
  | 0 => ("FormulaVoice", "page", "LFormulaVoice$Page;", true)
  | 1 => ("FormulaVoice", "draft", "LFormulaVoice$Page;", true)
  | 2 => ("FormulaVoice", "speech", "LFormulaVoice$Speech;", true)
  | 3 => ("FormulaVoice", "otherSpeech", "LFormulaVoice$Speech;", true)
  | 4 => ("FormulaVoice", "hearing", "LFormulaVoice$Hearing;", true)
  | 5 => ("FormulaVoice", "route", "LFormulaVoice$Walk;", true)
  | 6 => ("FormulaVoice", "shelves", "[LFormulaVoice$Shelf;", true)
  | 7 => ("FormulaVoice", "styles", "[I", true)
  | _ => ("FormulaVoice", "functions", "I", false)
def tyX6 : Nat → FieldType := fun k => match k with
  | 0 => .object "FormulaVoice$Page"
  | 1 => .object "FormulaVoice$Page"
  | 2 => .object "FormulaVoice$Speech"
  | 3 => .object "FormulaVoice$Speech"
  | 4 => .object "FormulaVoice$Hearing"
  | 5 => .object "FormulaVoice$Walk"
  | 6 => .array (.object "FormulaVoice$Shelf")
  | 7 => .array .int
  | _ => .int
abbrev wsX60 : List Cond := u_ws RX6 TX6 9
theorem nmX6 : ∀ a, a < 9 → ∀ b, b < 9 → a ≠ b → (TX6 a).2.1 ≠ (TX6 b).2.1 := by decide +kernel
theorem tyX6_ok : ∀ k, k < 9 → parseFieldDescriptor (TX6 k).2.2.1 = some (tyX6 k) := by decide +kernel
abbrev cX6_init : ByteArray := prog_1_method_1_code
def yX6_init : MethodName := ⟨RX6, "<init>", "()V"⟩
abbrev cX6_leaf : ByteArray := prog_1_method_2_code
def yX6_leaf : MethodName := ⟨RX6, "leaf", "(II)I"⟩
abbrev cX6_node : ByteArray := prog_1_method_3_code
def yX6_node : MethodName := ⟨RX6, "node", "(III)I"⟩
abbrev cX6_undo : ByteArray := prog_1_method_4_code
def yX6_undo : MethodName := ⟨RX6, "undo", "()I"⟩
abbrev cX6_means : ByteArray := prog_1_method_5_code
def yX6_means : MethodName := ⟨RX6, "means", "(IZ)I"⟩
abbrev cX6_look : ByteArray := prog_1_method_6_code
def yX6_look : MethodName := ⟨RX6, "look", "(II)I"⟩
abbrev cX6_alike : ByteArray := prog_1_method_7_code
def yX6_alike : MethodName := ⟨RX6, "alike", "(II)I"⟩
abbrev cX6_times : ByteArray := prog_1_method_8_code
def yX6_times : MethodName := ⟨RX6, "times", "(II)I"⟩
abbrev cX6_keeps : ByteArray := prog_1_method_9_code
def yX6_keeps : MethodName := ⟨RX6, "keeps", "(IIZ)I"⟩
abbrev cX6_words : ByteArray := prog_1_method_10_code
def yX6_words : MethodName := ⟨RX6, "words", "(II)I"⟩
abbrev cX6_word : ByteArray := prog_1_method_11_code
def yX6_word : MethodName := ⟨RX6, "word", "(III)I"⟩
abbrev cX6_sound : ByteArray := prog_1_method_12_code
def yX6_sound : MethodName := ⟨RX6, "sound", "(III)I"⟩
abbrev cX6_clear : ByteArray := prog_1_method_13_code
def yX6_clear : MethodName := ⟨RX6, "clear", "(II)I"⟩
abbrev cX6_hear : ByteArray := prog_1_method_14_code
def yX6_hear : MethodName := ⟨RX6, "hear", "(II)I"⟩
abbrev cX6_listen : ByteArray := prog_1_method_15_code
def yX6_listen : MethodName := ⟨RX6, "listen", "(II)I"⟩
abbrev cX6_hush : ByteArray := prog_1_method_16_code
def yX6_hush : MethodName := ⟨RX6, "hush", "()I"⟩
abbrev cX6_ear : ByteArray := prog_1_method_17_code
def yX6_ear : MethodName := ⟨RX6, "ear", "(I)I"⟩
abbrev cX6_readings : ByteArray := prog_1_method_18_code
def yX6_readings : MethodName := ⟨RX6, "readings", "(I)J"⟩
abbrev cX6_write : ByteArray := prog_1_method_19_code
def yX6_write : MethodName := ⟨RX6, "write", "(IJ)I"⟩
abbrev cX6_place : ByteArray := prog_1_method_20_code
def yX6_place : MethodName := ⟨RX6, "place", "(II)J"⟩
abbrev cX6_doubt : ByteArray := prog_1_method_21_code
def yX6_doubt : MethodName := ⟨RX6, "doubt", "(IJJ)I"⟩
abbrev cX6_fewest : ByteArray := prog_1_method_22_code
def yX6_fewest : MethodName := ⟨RX6, "fewest", "(I)I"⟩
abbrev cX6_walk : ByteArray := prog_1_method_23_code
def yX6_walk : MethodName := ⟨RX6, "walk", "(I)I"⟩
abbrev cX6_go : ByteArray := prog_1_method_24_code
def yX6_go : MethodName := ⟨RX6, "go", "(I)I"⟩
abbrev cX6_where : ByteArray := prog_1_method_25_code
def yX6_where : MethodName := ⟨RX6, "where", "(I)I"⟩
abbrev cX6_lead : ByteArray := prog_1_method_26_code
def yX6_lead : MethodName := ⟨RX6, "lead", "(I)I"⟩
abbrev cX6_glance : ByteArray := prog_1_method_27_code
def yX6_glance : MethodName := ⟨RX6, "glance", "(II)I"⟩
abbrev cX6_changed : ByteArray := prog_1_method_28_code
def yX6_changed : MethodName := ⟨RX6, "changed", "(II)I"⟩
abbrev cX6_exchanged : ByteArray := prog_1_method_29_code
def yX6_exchanged : MethodName := ⟨RX6, "exchanged", "(II)I"⟩
abbrev cX6_count : ByteArray := prog_1_method_30_code
def yX6_count : MethodName := ⟨RX6, "count", "(I)I"⟩
abbrev cX6_keep : ByteArray := prog_1_method_31_code
def yX6_keep : MethodName := ⟨RX6, "keep", "(III)I"⟩
abbrev cX6_make : ByteArray := prog_1_method_32_code
def yX6_make : MethodName := ⟨RX6, "make", "(III)I"⟩
abbrev cX6_element : ByteArray := prog_1_method_33_code
def yX6_element : MethodName := ⟨RX6, "element", "(II)J"⟩
abbrev cX6_copy : ByteArray := prog_1_method_34_code
def yX6_copy : MethodName := ⟨RX6, "copy", "(IIIII)I"⟩
abbrev cX6_weight : ByteArray := prog_1_method_35_code
def yX6_weight : MethodName := ⟨RX6, "weight", "(I)I"⟩
abbrev cX6_toss : ByteArray := prog_1_method_36_code
def yX6_toss : MethodName := ⟨RX6, "toss", "(I)I"⟩
abbrev cX6_isLetter : ByteArray := prog_1_method_37_code
def yX6_isLetter : MethodName := ⟨RX6, "isLetter", "(I)Z"⟩
abbrev cX6_isStyle : ByteArray := prog_1_method_38_code
def yX6_isStyle : MethodName := ⟨RX6, "isStyle", "(I)Z"⟩
abbrev cX6_isStyleOrFree : ByteArray := prog_1_method_39_code
def yX6_isStyleOrFree : MethodName := ⟨RX6, "isStyleOrFree", "(I)Z"⟩
abbrev cX6_isShelf : ByteArray := prog_1_method_40_code
def yX6_isShelf : MethodName := ⟨RX6, "isShelf", "(I)Z"⟩
abbrev cX6_orMissing : ByteArray := prog_1_method_41_code
def yX6_orMissing : MethodName := ⟨RX6, "orMissing", "(I)I"⟩
abbrev cX6_digitOf : ByteArray := prog_1_method_42_code
def yX6_digitOf : MethodName := ⟨RX6, "digitOf", "(II)I"⟩
abbrev cX6_hearSpeech : ByteArray := prog_1_method_43_code
def yX6_hearSpeech : MethodName := ⟨RX6, "hearSpeech", "()I"⟩
abbrev cX6_tallyIn : ByteArray := prog_1_method_44_code
def yX6_tallyIn : MethodName := ⟨RX6, "tallyIn", "(I)J"⟩
abbrev cX6_keepNode : ByteArray := prog_1_method_45_code
def yX6_keepNode : MethodName := ⟨RX6, "keepNode", "(LFormulaVoice$Shelf;II)I"⟩
abbrev cX6_nodeRefusal : ByteArray := prog_1_method_46_code
def yX6_nodeRefusal : MethodName := ⟨RX6, "nodeRefusal", "(I)I"⟩
def RX7 : String := "FormulaVoiceModel"
def TX7 : u_T := fun k => match k with
  | 0 => ("FormulaVoiceModel", "nodes", "I", false)
  | 1 => ("FormulaVoiceModel", "kind", "[I", true)
  | 2 => ("FormulaVoiceModel", "value", "[I", true)
  | 3 => ("FormulaVoiceModel", "first", "[I", true)
  | 4 => ("FormulaVoiceModel", "second", "[I", true)
  | 5 => ("FormulaVoiceModel", "size", "[I", true)
  | 6 => ("FormulaVoiceModel", "depth", "[I", true)
  | 7 => ("FormulaVoiceModel", "isFunction", "[Z", true)
  | 8 => ("FormulaVoiceModel", "isKept", "[Z", true)
  | 9 => ("FormulaVoiceModel", "ear", "[I", true)
  | 10 => ("FormulaVoiceModel", "heard", "I", false)
  | 11 => ("FormulaVoiceModel", "shelf", "[I", true)
  | 12 => ("FormulaVoiceModel", "shelfKind", "[I", true)
  | 13 => ("FormulaVoiceModel", "shelfValue", "[I", true)
  | 14 => ("FormulaVoiceModel", "shelfSize", "[I", true)
  | 15 => ("FormulaVoiceModel", "rows", "[I", true)
  | 16 => ("FormulaVoiceModel", "thrown", "I", false)
  | 17 => ("FormulaVoiceModel", "said", "[I", true)
  | 18 => ("FormulaVoiceModel", "saidMany", "I", false)
  | 19 => ("FormulaVoiceModel", "mask", "I", false)
  | 20 => ("FormulaVoiceModel", "masked", "I", false)
  | 21 => ("FormulaVoiceModel", "maskMany", "I", false)
  | 22 => ("FormulaVoiceModel", "kept", "[I", true)
  | 23 => ("FormulaVoiceModel", "small", "I", false)
  | 24 => ("FormulaVoiceModel", "smallWords", "[I", true)
  | 25 => ("FormulaVoiceModel", "smallMany", "[I", true)
  | 26 => ("FormulaVoiceModel", "many", "[J", true)
  | 27 => ("FormulaVoiceModel", "all", "[J", true)
  | 28 => ("FormulaVoiceModel", "style", "I", false)
  | 29 => ("FormulaVoiceModel", "made", "I", false)
  | 30 => ("FormulaVoiceModel", "isWalk", "Z", false)
  | 31 => ("FormulaVoiceModel", "path", "[I", true)
  | 32 => ("FormulaVoiceModel", "step", "[I", true)
  | 33 => ("FormulaVoiceModel", "deep", "I", false)
  | _ => ("FormulaVoiceModel", "kindsMany", "I", false)
def tyX7 : Nat → FieldType := fun k => match k with
  | 0 => .int
  | 1 => .array .int
  | 2 => .array .int
  | 3 => .array .int
  | 4 => .array .int
  | 5 => .array .int
  | 6 => .array .int
  | 7 => .array .boolean
  | 8 => .array .boolean
  | 9 => .array .int
  | 10 => .int
  | 11 => .array .int
  | 12 => .array .int
  | 13 => .array .int
  | 14 => .array .int
  | 15 => .array .int
  | 16 => .int
  | 17 => .array .int
  | 18 => .int
  | 19 => .int
  | 20 => .int
  | 21 => .int
  | 22 => .array .int
  | 23 => .int
  | 24 => .array .int
  | 25 => .array .int
  | 26 => .array .long
  | 27 => .array .long
  | 28 => .int
  | 29 => .int
  | 30 => .boolean
  | 31 => .array .int
  | 32 => .array .int
  | 33 => .int
  | _ => .int
abbrev wsX70 : List Cond := u_ws RX7 TX7 35
theorem nmX7 : ∀ a, a < 35 → ∀ b, b < 35 → a ≠ b → (TX7 a).2.1 ≠ (TX7 b).2.1 := by decide +kernel
theorem tyX7_ok : ∀ k, k < 35 → parseFieldDescriptor (TX7 k).2.2.1 = some (tyX7 k) := by decide +kernel
abbrev cX7_init : ByteArray := prog_9_method_1_code
def yX7_init : MethodName := ⟨RX7, "<init>", "()V"⟩
abbrev cX7_thrown : ByteArray := prog_9_method_2_code
def yX7_thrown : MethodName := ⟨RX7, "thrown", "()I"⟩
abbrev cX7_in : ByteArray := prog_9_method_3_code
def yX7_in : MethodName := ⟨RX7, "in", "(JJJ)Z"⟩
abbrev cX7_isNode : ByteArray := prog_9_method_4_code
def yX7_isNode : MethodName := ⟨RX7, "isNode", "(I)Z"⟩
abbrev cX7_isTwo : ByteArray := prog_9_method_5_code
def yX7_isTwo : MethodName := ⟨RX7, "isTwo", "(I)Z"⟩
abbrev cX7_mayKeep : ByteArray := prog_9_method_6_code
def yX7_mayKeep : MethodName := ⟨RX7, "mayKeep", "(I)Z"⟩
abbrev cX7_isStyle : ByteArray := prog_9_method_7_code
def yX7_isStyle : MethodName := ⟨RX7, "isStyle", "(I)Z"⟩
abbrev cX7_sets : ByteArray := prog_9_method_8_code
def yX7_sets : MethodName := ⟨RX7, "sets", "(IIIII)V"⟩
abbrev cX7_leaf : ByteArray := prog_9_method_9_code
def yX7_leaf : MethodName := ⟨RX7, "leaf", "(II)I"⟩
abbrev cX7_node : ByteArray := prog_9_method_10_code
def yX7_node : MethodName := ⟨RX7, "node", "(III)I"⟩
abbrev cX7_undo : ByteArray := prog_9_method_11_code
def yX7_undo : MethodName := ⟨RX7, "undo", "()I"⟩
abbrev cX7_means : ByteArray := prog_9_method_12_code
def yX7_means : MethodName := ⟨RX7, "means", "(IZ)I"⟩
abbrev cX7_isRight : ByteArray := prog_9_method_13_code
def yX7_isRight : MethodName := ⟨RX7, "isRight", "(I)Z"⟩
abbrev cX7_look : ByteArray := prog_9_method_14_code
def yX7_look : MethodName := ⟨RX7, "look", "(II)I"⟩
abbrev cX7_areAlike : ByteArray := prog_9_method_15_code
def yX7_areAlike : MethodName := ⟨RX7, "areAlike", "(II)Z"⟩
abbrev cX7_alike : ByteArray := prog_9_method_16_code
def yX7_alike : MethodName := ⟨RX7, "alike", "(II)I"⟩
abbrev cX7_has : ByteArray := prog_9_method_17_code
def yX7_has : MethodName := ⟨RX7, "has", "(II)I"⟩
abbrev cX7_times : ByteArray := prog_9_method_18_code
def yX7_times : MethodName := ⟨RX7, "times", "(II)I"⟩
abbrev cX7_keeps : ByteArray := prog_9_method_19_code
def yX7_keeps : MethodName := ⟨RX7, "keeps", "(IIZ)I"⟩
abbrev cX7_digits : ByteArray := prog_9_method_20_code
def yX7_digits : MethodName := ⟨RX7, "digits", "(I)I"⟩
abbrev cX7_own : ByteArray := prog_9_method_21_code
def yX7_own : MethodName := ⟨RX7, "own", "(I)I"⟩
abbrev cX7_length : ByteArray := prog_9_method_22_code
def yX7_length : MethodName := ⟨RX7, "length", "(II)I"⟩
abbrev cX7_says : ByteArray := prog_9_method_23_code
def yX7_says : MethodName := ⟨RX7, "says", "(I)V"⟩
abbrev cX7_keepsIt : ByteArray := prog_9_method_24_code
def yX7_keepsIt : MethodName := ⟨RX7, "keepsIt", "(II)Z"⟩
abbrev cX7_say : ByteArray := prog_9_method_25_code
def yX7_say : MethodName := ⟨RX7, "say", "(II)V"⟩
abbrev cX7_sayAll : ByteArray := prog_9_method_26_code
def yX7_sayAll : MethodName := ⟨RX7, "sayAll", "(II)V"⟩
abbrev cX7_words : ByteArray := prog_9_method_27_code
def yX7_words : MethodName := ⟨RX7, "words", "(II)I"⟩
abbrev cX7_word : ByteArray := prog_9_method_28_code
def yX7_word : MethodName := ⟨RX7, "word", "(III)I"⟩
abbrev cX7_sound : ByteArray := prog_9_method_29_code
def yX7_sound : MethodName := ⟨RX7, "sound", "(III)I"⟩
abbrev cX7_adds : ByteArray := prog_9_method_30_code
def yX7_adds : MethodName := ⟨RX7, "adds", "(IIII)V"⟩
abbrev cX7_grows : ByteArray := prog_9_method_31_code
def yX7_grows : MethodName := ⟨RX7, "grows", "(I)V"⟩
abbrev cX7_isSame : ByteArray := prog_9_method_32_code
def yX7_isSame : MethodName := ⟨RX7, "isSame", "(II)Z"⟩
abbrev cX7_clear : ByteArray := prog_9_method_33_code
def yX7_clear : MethodName := ⟨RX7, "clear", "(II)I"⟩
abbrev cX7_hear : ByteArray := prog_9_method_34_code
def yX7_hear : MethodName := ⟨RX7, "hear", "(II)I"⟩
abbrev cX7_listen : ByteArray := prog_9_method_35_code
def yX7_listen : MethodName := ⟨RX7, "listen", "(II)I"⟩
abbrev cX7_hears : ByteArray := prog_9_method_36_code
def yX7_hears : MethodName := ⟨RX7, "hears", "()V"⟩
abbrev cX7_hush : ByteArray := prog_9_method_37_code
def yX7_hush : MethodName := ⟨RX7, "hush", "()I"⟩
abbrev cX7_ear : ByteArray := prog_9_method_38_code
def yX7_ear : MethodName := ⟨RX7, "ear", "(I)I"⟩
abbrev cX7_times_ : ByteArray := prog_9_method_39_code
def yX7_times_ : MethodName := ⟨RX7, "times", "(JJ)J"⟩
abbrev cX7_plus : ByteArray := prog_9_method_40_code
def yX7_plus : MethodName := ⟨RX7, "plus", "(JJ)J"⟩
abbrev cX7_isLet : ByteArray := prog_9_method_41_code
def yX7_isLet : MethodName := ⟨RX7, "isLet", "(IZ)Z"⟩
abbrev cX7_isNumber : ByteArray := prog_9_method_42_code
def yX7_isNumber : MethodName := ⟨RX7, "isNumber", "(II)Z"⟩
abbrev cX7_within : ByteArray := prog_9_method_43_code
def yX7_within : MethodName := ⟨RX7, "within", "(III)J"⟩
abbrev cX7_reckons : ByteArray := prog_9_method_44_code
def yX7_reckons : MethodName := ⟨RX7, "reckons", "(I)V"⟩
abbrev cX7_counted : ByteArray := prog_9_method_45_code
def yX7_counted : MethodName := ⟨RX7, "counted", "(I)J"⟩
abbrev cX7_readings : ByteArray := prog_9_method_46_code
def yX7_readings : MethodName := ⟨RX7, "readings", "(I)J"⟩
abbrev cX7_makes : ByteArray := prog_9_method_47_code
def yX7_makes : MethodName := ⟨RX7, "makes", "(IIII)I"⟩
abbrev cX7_takes : ByteArray := prog_9_method_48_code
def yX7_takes : MethodName := ⟨RX7, "takes", "(IIJ)I"⟩
abbrev cX7_takesTwo : ByteArray := prog_9_method_49_code
def yX7_takesTwo : MethodName := ⟨RX7, "takesTwo", "(IIIJ)I"⟩
abbrev cX7_write : ByteArray := prog_9_method_50_code
def yX7_write : MethodName := ⟨RX7, "write", "(IJ)I"⟩
abbrev cX7_copies : ByteArray := prog_9_method_51_code
def yX7_copies : MethodName := ⟨RX7, "copies", "(I)I"⟩
abbrev cX7_rank : ByteArray := prog_9_method_52_code
def yX7_rank : MethodName := ⟨RX7, "rank", "(III)J"⟩
abbrev cX7_inner : ByteArray := prog_9_method_53_code
def yX7_inner : MethodName := ⟨RX7, "inner", "(III)J"⟩
abbrev cX7_innerTwo : ByteArray := prog_9_method_54_code
def yX7_innerTwo : MethodName := ⟨RX7, "innerTwo", "(III)J"⟩
abbrev cX7_place : ByteArray := prog_9_method_55_code
def yX7_place : MethodName := ⟨RX7, "place", "(II)J"⟩
abbrev cX7_doubt : ByteArray := prog_9_method_56_code
def yX7_doubt : MethodName := ⟨RX7, "doubt", "(IJJ)I"⟩
abbrev cX7_keepable : ByteArray := prog_9_method_57_code
def yX7_keepable : MethodName := ⟨RX7, "keepable", "(I)I"⟩
abbrev cX7_bits : ByteArray := prog_9_method_58_code
def yX7_bits : MethodName := ⟨RX7, "bits", "(I)I"⟩
abbrev cX7_fewest : ByteArray := prog_9_method_59_code
def yX7_fewest : MethodName := ⟨RX7, "fewest", "(I)I"⟩
abbrev cX7_isOnly : ByteArray := prog_9_method_60_code
def yX7_isOnly : MethodName := ⟨RX7, "isOnly", "(III)Z"⟩
abbrev cX7_walk : ByteArray := prog_9_method_61_code
def yX7_walk : MethodName := ⟨RX7, "walk", "(I)I"⟩
abbrev cX7_down : ByteArray := prog_9_method_62_code
def yX7_down : MethodName := ⟨RX7, "down", "(I)Z"⟩
abbrev cX7_go : ByteArray := prog_9_method_63_code
def yX7_go : MethodName := ⟨RX7, "go", "(I)I"⟩
abbrev cX7_where : ByteArray := prog_9_method_64_code
def yX7_where : MethodName := ⟨RX7, "where", "(I)I"⟩
abbrev cX7_lead : ByteArray := prog_9_method_65_code
def yX7_lead : MethodName := ⟨RX7, "lead", "(I)I"⟩
abbrev cX7_glanced : ByteArray := prog_9_method_66_code
def yX7_glanced : MethodName := ⟨RX7, "glanced", "(III)I"⟩
abbrev cX7_glance : ByteArray := prog_9_method_67_code
def yX7_glance : MethodName := ⟨RX7, "glance", "(II)I"⟩
abbrev cX7_inside : ByteArray := prog_9_method_68_code
def yX7_inside : MethodName := ⟨RX7, "inside", "(II)I"⟩
abbrev cX7_difference : ByteArray := prog_9_method_69_code
def yX7_difference : MethodName := ⟨RX7, "difference", "(II)I"⟩
abbrev cX7_wholes : ByteArray := prog_9_method_70_code
def yX7_wholes : MethodName := ⟨RX7, "wholes", "(II)I"⟩
abbrev cX7_changed : ByteArray := prog_9_method_71_code
def yX7_changed : MethodName := ⟨RX7, "changed", "(II)I"⟩
abbrev cX7_exchanged : ByteArray := prog_9_method_72_code
def yX7_exchanged : MethodName := ⟨RX7, "exchanged", "(II)I"⟩
abbrev cX7_functions : ByteArray := prog_9_method_73_code
def yX7_functions : MethodName := ⟨RX7, "functions", "()I"⟩
abbrev cX7_count : ByteArray := prog_9_method_74_code
def yX7_count : MethodName := ⟨RX7, "count", "(I)I"⟩
abbrev cX7_isShelf : ByteArray := prog_9_method_75_code
def yX7_isShelf : MethodName := ⟨RX7, "isShelf", "(I)Z"⟩
abbrev cX7_kinds : ByteArray := prog_9_method_76_code
def yX7_kinds : MethodName := ⟨RX7, "kinds", "(II)V"⟩
abbrev cX7_keep : ByteArray := prog_9_method_77_code
def yX7_keep : MethodName := ⟨RX7, "keep", "(III)I"⟩
abbrev cX7_make : ByteArray := prog_9_method_78_code
def yX7_make : MethodName := ⟨RX7, "make", "(III)I"⟩
abbrev cX7_element : ByteArray := prog_9_method_79_code
def yX7_element : MethodName := ⟨RX7, "element", "(II)J"⟩
abbrev cX7_copy : ByteArray := prog_9_method_80_code
def yX7_copy : MethodName := ⟨RX7, "copy", "(IIIII)I"⟩
abbrev cX7_held : ByteArray := prog_9_method_81_code
def yX7_held : MethodName := ⟨RX7, "held", "(I)I"⟩
abbrev cX7_weight : ByteArray := prog_9_method_82_code
def yX7_weight : MethodName := ⟨RX7, "weight", "(I)I"⟩
abbrev cX7_toss : ByteArray := prog_9_method_83_code
def yX7_toss : MethodName := ⟨RX7, "toss", "(I)I"⟩
def RJ6 : String := "java/lang/Integer"
def TJ6 : u_T := fun k => match k with
  | _ => ("", "", "", false)
def tyJ6 : Nat → FieldType := fun k => match k with
  | _ => .int
abbrev wsJ60 : List Cond := u_ws RJ6 TJ6 0
theorem nmJ6 : ∀ a, a < 0 → ∀ b, b < 0 → a ≠ b → (TJ6 a).2.1 ≠ (TJ6 b).2.1 := by decide +kernel
theorem tyJ6_ok : ∀ k, k < 0 → parseFieldDescriptor (TJ6 k).2.2.1 = some (tyJ6 k) := by decide +kernel
abbrev cJ6_bitCount_0f7a4 : ByteArray := prog_13_method_49_code
def yJ6_bitCount_0f7a4 : MethodName := ⟨RJ6, "bitCount", "(I)I"⟩
def RJ9 : String := "java/lang/Math"
def TJ9 : u_T := fun k => match k with
  | _ => ("", "", "", false)
def tyJ9 : Nat → FieldType := fun k => match k with
  | _ => .int
abbrev wsJ90 : List Cond := u_ws RJ9 TJ9 0
theorem nmJ9 : ∀ a, a < 0 → ∀ b, b < 0 → a ≠ b → (TJ9 a).2.1 ≠ (TJ9 b).2.1 := by decide +kernel
theorem tyJ9_ok : ∀ k, k < 0 → parseFieldDescriptor (TJ9 k).2.2.1 = some (tyJ9 k) := by decide +kernel
abbrev cJ9_max_7cf53 : ByteArray := prog_14_method_65_code
def yJ9_max_7cf53 : MethodName := ⟨RJ9, "max", "(II)I"⟩
abbrev cJ9_min_7cf53 : ByteArray := prog_14_method_69_code
def yJ9_min_7cf53 : MethodName := ⟨RJ9, "min", "(II)I"⟩
abbrev cJ9_min_f86c9 : ByteArray := prog_14_method_70_code
def yJ9_min_f86c9 : MethodName := ⟨RJ9, "min", "(JJ)J"⟩
def RJ0 : String := "java/lang/String"
def TJ0 : u_T := fun k => match k with
  | _ => ("", "", "", false)
def tyJ0 : Nat → FieldType := fun k => match k with
  | _ => .int
abbrev wsJ00 : List Cond := u_ws RJ0 TJ0 0
theorem nmJ0 : ∀ a, a < 0 → ∀ b, b < 0 → a ≠ b → (TJ0 a).2.1 ≠ (TJ0 b).2.1 := by decide +kernel
theorem tyJ0_ok : ∀ k, k < 0 → parseFieldDescriptor (TJ0 k).2.2.1 = some (tyJ0 k) := by decide +kernel
def RJ10 : String := "java/lang/System"
def TJ10 : u_T := fun k => match k with
  | _ => ("", "", "", false)
def tyJ10 : Nat → FieldType := fun k => match k with
  | _ => .int
abbrev wsJ100 : List Cond := u_ws RJ10 TJ10 0
theorem nmJ10 : ∀ a, a < 0 → ∀ b, b < 0 → a ≠ b → (TJ10 a).2.1 ≠ (TJ10 b).2.1 := by decide +kernel
theorem tyJ10_ok : ∀ k, k < 0 → parseFieldDescriptor (TJ10 k).2.2.1 = some (tyJ10 k) := by decide +kernel
def RL : String := "FormulaVoiceLaw"
abbrev cL_readings : ByteArray := method_3_code
def yL_readings : MethodName := ⟨RL, "readings", "(LFormulaVoice;I[J)I"⟩
abbrev cL_where : ByteArray := method_4_code
def yL_where : MethodName := ⟨RL, "where", "(LFormulaVoice;I[J)I"⟩
abbrev cL_element : ByteArray := method_5_code
def yL_element : MethodName := ⟨RL, "element", "(LFormulaVoice;II[J)I"⟩
abbrev cL_law : ByteArray := code
def yL_law : MethodName := ⟨RL, "law", "([I)Z"⟩
abbrev vwCl : List vw_C := [(RX0, TX0, 6), (RX2, TX2, 13), (RX3, TX3, 6), (RX4, TX4, 4), (RX5, TX5, 4), (RX6, TX6, 9), (RX7, TX7, 35)]
end
section
/-! A pure machine over the kit's rows: worlds whose cells are numbered 0, 1, 2 .. in the order of their making; a value '.ref k' means cell k; 'ad k' is its address -/
abbrev zC : Type := (Nat × Nat × (Nat → Int32)) ⊕ ((Nat × (Nat → Int64)) ⊕ ((Nat × List (Option Nat)) ⊕ (Nat × List Value)))
abbrev zW : Type := List zC
abbrev zL : Type := List (Nat × Value)
/-- an array of ints (t = 0) or booleans (t = 1) -/
abbrev zI (t n : Nat) (f : Nat → Int32) : zC := .inl (t, n, f)
/-- an array of longs -/
abbrev zJ (n : Nat) (f : Nat → Int64) : zC := .inr (.inl (n, f))
/-- an array of references (t = 3: of Shelf, t = 4: of long rows) -/
abbrev zR (t : Nat) (es : List (Option Nat)) : zC := .inr (.inr (.inl (t, es)))
/-- an object of class number ci of vwCl -/
abbrev zO (ci : Nat) (fs : List Value) : zC := .inr (.inr (.inr (ci, fs)))
def zv (ad : Nat → Nat) : Value → Value
  | .ref k => .ref (ad k)
  | .int x => .int x
  | .long x => .long x
  | .float x => .float x
  | .double x => .double x
  | .null => .null
  | .retAddr x => .retAddr x
def zc (dA : Nat → ClassId) (ad : Nat → Nat) : zC → va_E
  | .inl (t, n, f) => .inl (dA t, n, .inl f)
  | .inr (.inl (n, f)) => .inl (dA 2, n, .inr (.inl f))
  | .inr (.inr (.inl (t, es))) => .inl (dA t, es.length, .inr (.inr (.inr (.inr (fun i => (es.getD i none).map ad)))))
  | .inr (.inr (.inr (ci, fs))) => .inr (ci, fs.map (zv ad))
def zw (dA : Nat → ClassId) (ad : Nat → Nat) (w : zW) : va_W := w.mapIdx (fun k c => (ad k, zc dA ad c))
def zl (ad : Nat → Nat) (l : zL) : zL := l.map (fun q => (q.1, zv ad q.2))
def ztys (dA : Nat → ClassId) : List (ClassId × FieldType) := [(dA 0, .int), (dA 1, .boolean), (dA 2, .long), (dA 3, .object RX3), (dA 4, .array .long)]
theorem zw_at {dA : Nat → ClassId} {ad : Nat → Nat} {w : zW} {k : Nat} {c : zC} (h : w[k]? = some c) : (zw dA ad w)[k]? = some (ad k, zc dA ad c) := by
  unfold zw
  rw [List.getElem?_mapIdx, h]
  rfl
theorem zw_len (dA : Nat → ClassId) (ad : Nat → Nat) (w : zW) : (zw dA ad w).length = w.length := by
  unfold zw; rw [List.length_mapIdx]
theorem zw_set (dA : Nat → ClassId) (ad : Nat → Nat) (w : zW) (k : Nat) (c : zC) : (zw dA ad w).set k (ad k, zc dA ad c) = zw dA ad (w.set k c) := by
  apply List.ext_getElem?
  intro i
  unfold zw
  rw [List.getElem?_mapIdx]
  by_cases hi : k = i
  · subst hi
    by_cases hl : k < w.length
    · rw [List.getElem?_set_self (by rw [List.length_mapIdx]; exact hl), List.getElem?_set_self hl]; rfl
    · rw [List.getElem?_eq_none (by rw [List.length_set, List.length_mapIdx]; omega), List.getElem?_eq_none (by rw [List.length_set]; omega)]; rfl
  · rw [List.getElem?_set_ne hi, List.getElem?_set_ne hi, List.getElem?_mapIdx]
theorem zv_cat (ad : Nat → Nat) (v : Value) : (zv ad v).category = v.category := by cases v <;> rfl
theorem zl_filter (ad : Nat → Nat) (f : Nat → Nat → Bool) : ∀ l : zL, (zl ad l).filter (fun q => f q.1 q.2.category) = zl ad (l.filter (fun q => f q.1 q.2.category))
  | [] => rfl
  | q :: l => by
    have ih := zl_filter ad f l
    unfold zl at ih ⊢
    rw [List.map_cons, List.filter_cons, List.filter_cons]
    dsimp only
    rw [zv_cat]
    split
    · rw [List.map_cons, ih]
    · exact ih
/-- a local's value -/
def zget : zL → Nat → Option Value
  | [], _ => none
  | q :: l, i => bif Nat.beq q.1 i then some q.2 else zget l i
theorem zget_mem {i : Nat} {v : Value} : ∀ {l : zL}, zget l i = some v → (i, v) ∈ l
  | [], h => by cases h
  | q :: l, h => by
    unfold zget at h
    cases hb : Nat.beq q.1 i with
    | true =>
      rw [hb] at h
      have e := Nat.eq_of_beq_eq_true hb
      have h2 : q.2 = v := Option.some.inj h
      rw [← e, ← h2]
      exact List.mem_cons_self
    | false =>
      rw [hb] at h
      exact List.mem_cons_of_mem _ (zget_mem h)
theorem zl_at {ad : Nat → Nat} {ls : Array Slot} {nL i : Nat} {v : Value} {l : zL} (h : lv_has ls nL (zl ad l)) (hg : zget l i = some v) : ls[i]? = some (.val (zv ad v)) :=
  h.2.2 (i, zv ad v) (List.mem_map.mpr ⟨(i, v), zget_mem hg, rfl⟩)
def zset1 (l : zL) (i : Nat) (v : Value) : zL := (i, v) :: l.filter (fun q => !(q.1 == i) && !(q.1 + 1 == i && q.2.category == 2))
def zset2 (l : zL) (i : Nat) (v : Value) : zL := (i, v) :: l.filter (fun q => !(q.1 == i) && (!(q.1 == i + 1) && !(q.1 + 1 == i && q.2.category == 2)))
theorem zl_set1 (ad : Nat → Nat) (l : zL) (i : Nat) (v : Value) : (i, zv ad v) :: (zl ad l).filter (fun q => !(q.1 == i) && !(q.1 + 1 == i && q.2.category == 2)) = zl ad (zset1 l i v) := by
  rw [zl_filter ad (fun a b => !(a == i) && !(a + 1 == i && b == 2)) l]; rfl
theorem zl_set2 (ad : Nat → Nat) (l : zL) (i : Nat) (v : Value) : (i, zv ad v) :: (zl ad l).filter (fun q => !(q.1 == i) && (!(q.1 == i + 1) && !(q.1 + 1 == i && q.2.category == 2))) = zl ad (zset2 l i v) := by
  rw [zl_filter ad (fun a b => !(a == i) && (!(a == i + 1) && !(a + 1 == i && b == 2))) l]; rfl
/-- the words that every method is given beside its own code -/
def zG : List Cond := lw_tbl.filter goodWord
theorem zG_good {w : Cond} (h : w ∈ zG) : goodWord w = true := (List.mem_filter.mp h).2
/-- the tables of the classes -/
def zty (ci : Nat) : Nat → FieldType := match ci with
  | 0 => tyX0
  | 1 => tyX2
  | 2 => tyX3
  | 3 => tyX4
  | 4 => tyX5
  | 5 => tyX6
  | _ => tyX7
theorem zty_ok : ∀ ci, ci < 7 → ∀ r, vwCl[ci]? = some r → ∀ k, k < r.2.2 → parseFieldDescriptor (r.2.1 k).2.2.1 = some (zty ci k) := by
  intro ci h r hr
  match ci, h, hr with
  | 0, _, hr => cases hr; exact tyX0_ok
  | 1, _, hr => cases hr; exact tyX2_ok
  | 2, _, hr => cases hr; exact tyX3_ok
  | 3, _, hr => cases hr; exact tyX4_ok
  | 4, _, hr => cases hr; exact tyX5_ok
  | 5, _, hr => cases hr; exact tyX6_ok
  | 6, _, hr => cases hr; exact tyX7_ok
theorem znm_ok : ∀ ci, ci < 7 → ∀ r, vwCl[ci]? = some r → ∀ a, a < r.2.2 → ∀ b, b < r.2.2 → a ≠ b → (r.2.1 a).2.1 ≠ (r.2.1 b).2.1 := by
  intro ci h r hr
  match ci, h, hr with
  | 0, _, hr => cases hr; exact nmX0
  | 1, _, hr => cases hr; exact nmX2
  | 2, _, hr => cases hr; exact nmX3
  | 3, _, hr => cases hr; exact nmX4
  | 4, _, hr => cases hr; exact nmX5
  | 5, _, hr => cases hr; exact nmX6
  | 6, _, hr => cases hr; exact nmX7
theorem zin0 : ∀ w ∈ wsX00, w ∈ zG := by decide +kernel
theorem zin1 : ∀ w ∈ wsX20, w ∈ zG := by decide +kernel
theorem zin2 : ∀ w ∈ wsX30, w ∈ zG := by decide +kernel
theorem zin3 : ∀ w ∈ wsX40, w ∈ zG := by decide +kernel
theorem zin4 : ∀ w ∈ wsX50, w ∈ zG := by decide +kernel
theorem zin5 : ∀ w ∈ wsX60, w ∈ zG := by decide +kernel
theorem zin6 : ∀ w ∈ wsX70, w ∈ zG := by decide +kernel
theorem zlt7 {ci : Nat} {r : vw_C} (h : vwCl[ci]? = some r) : ci < 7 := (List.getElem?_eq_some_iff.mp h).1
theorem zin_ok {ci : Nat} {r : vw_C} (hr : vwCl[ci]? = some r) : ∀ w ∈ u_ws r.1 r.2.1 r.2.2, w ∈ zG := by
  have h := zlt7 hr
  match ci, h, hr with
  | 0, _, hr => cases hr; exact zin0
  | 1, _, hr => cases hr; exact zin1
  | 2, _, hr => cases hr; exact zin2
  | 3, _, hr => cases hr; exact zin3
  | 4, _, hr => cases hr; exact zin4
  | 5, _, hr => cases hr; exact zin5
  | 6, _, hr => cases hr; exact zin6
end
section
/-! one step of the pure machine -/
abbrev zE : Type := Nat × Instr × Nat × Nat × Nat × Int
abbrev zN : Type := Prop × Nat × zL × List Value × zW
def zlook : List zE → Nat → Option (Instr × Nat × Nat × Nat × Int)
  | [], _ => none
  | e :: t, pc => bif Nat.beq e.1 pc then some e.2 else zlook t pc
theorem zlook_mem {pc : Nat} {x : Instr × Nat × Nat × Nat × Int} : ∀ {t : List zE}, zlook t pc = some x → (pc, x) ∈ t
  | [], h => by cases h
  | q :: l, h => by
    unfold zlook at h
    cases hb : Nat.beq q.1 pc with
    | true =>
      rw [hb] at h
      have e := Nat.eq_of_beq_eq_true hb
      have h2 : q.2 = x := Option.some.inj h
      rw [← e, ← h2]
      exact List.mem_cons_self
    | false =>
      rw [hb] at h
      exact List.mem_cons_of_mem _ (zlook_mem h)
def zlen : Instr → Nat
  | .iload _ => 2
  | .aload _ => 2
  | .lload _ => 2
  | .istore _ => 2
  | .astore _ => 2
  | .lstore _ => 2
  | .bipush _ => 2
  | .newarray _ => 2
  | .ldc _ => 2
  | .iinc _ _ => 3
  | .sipush _ => 3
  | .ldc_w _ => 3
  | .ldc2_w _ => 3
  | .ifCond _ _ => 3
  | .if_icmp _ _ => 3
  | .goto _ => 3
  | .getfield _ => 3
  | .putfield _ => 3
  | .invokevirtual _ => 3
  | .invokestatic _ => 3
  | .invokespecial _ => 3
  | .new _ => 3
  | .anewarray _ => 3
  | .multianewarray _ _ => 4
  | _ => 1
def zfit : FieldType → Value → Bool
  | .int, .int _ => true
  | .long, .long _ => true
  | .boolean, .int x => (x == 0 || x == 1)
  | .array _, .ref _ => true
  | .object _, .ref _ => true
  | _, _ => false
theorem zfit_ok (ad : Nat → Nat) {ty : FieldType} {v : Value} (h : zfit ty v = true) : narrow ty (zv ad v) = zv ad v ∧ fits ty (zv ad v) = true := by
  cases ty <;> cases v <;> first | exact ⟨rfl, rfl⟩ | (cases h; done) | skip
  rename_i x
  have h2 : x = 0 ∨ x = 1 := by simpa [zfit] using h
  rcases h2 with rfl | rfl
  · exact ⟨(by decide +kernel : narrow FieldType.boolean (Value.int 0) = Value.int 0), (by decide +kernel : fits FieldType.boolean (Value.int 0) = true)⟩
  · exact ⟨(by decide +kernel : narrow FieldType.boolean (Value.int 1) = Value.int 1), (by decide +kernel : fits FieldType.boolean (Value.int 1) = true)⟩
/-- what a row of a method's table must keep, beside being the decoded instruction -/
def zgd (own : String) (nL : Nat) (ini : Bool) (pc : Nat) (ins : Instr) (a b : Nat) (c : Int) : Bool := match ins with
  | .ifCond _ off => decide ((pc : Int) + off = (a : Int))
  | .if_icmp _ off => decide ((pc : Int) + off = (a : Int))
  | .goto off => decide ((pc : Int) + off = (a : Int))
  | .istore i => decide (i < nL)
  | .istore_n i => decide ((i : Nat) < nL)
  | .astore i => decide (i < nL)
  | .astore_n i => decide ((i : Nat) < nL)
  | .lstore i => decide (i + 1 < nL)
  | .lstore_n i => decide ((i : Nat) + 1 < nL)
  | .iinc i _ => decide (i < nL)
  | .ldc i => decide (Cond.constant own i (Int32.ofInt c) ∈ zG)
  | .ldc_w i => decide (Cond.constant own i (Int32.ofInt c) ∈ zG)
  | .ldc2_w i => decide (Cond.constantLong own i (Int64.ofInt c) ∈ zG)
  | .getfield i => match vwCl[a]? with
    | some r => decide (b < r.2.2) && decide (Cond.fieldLink own i (r.2.1 b).1 (r.2.1 b).2.1 (r.2.1 b).2.2.1 ∈ zG)
    | none => false
  | .putfield i => match vwCl[a]? with
    | some r => decide (b < r.2.2) && (decide (Cond.fieldLink own i (r.2.1 b).1 (r.2.1 b).2.1 (r.2.1 b).2.2.1 ∈ zG) && (!(r.2.1 b).2.2.2 || (ini && decide ((r.2.1 b).1 = own))))
    | none => false
  | _ => true
def zlenok (ins : Instr) (pc nxt : Nat) : Bool := match ins with
  | .tableswitch _ _ _ _ => true
  | .lookupswitch _ _ => true
  | i => decide (nxt = pc + zlen i)
def zgood (own : String) (cc : ByteArray) (nL : Nat) (ini : Bool) (e : zE) : Bool :=
  decide (decode cc e.1 = .ok (e.2.1, e.2.2.1 - e.1)) && zlenok e.2.1 e.1 e.2.2.1 && zgd own nL ini e.1 e.2.1 e.2.2.2.1 e.2.2.2.2.1 e.2.2.2.2.2
def zldI (v : Option Value) (nxt : Nat) (l : zL) (st : List Value) (w : zW) : Option zN := match v with
  | some (.int x) => some (True, nxt, l, .int x :: st, w)
  | _ => none
def zldJ (v : Option Value) (nxt : Nat) (l : zL) (st : List Value) (w : zW) : Option zN := match v with
  | some (.long x) => some (True, nxt, l, .long x :: st, w)
  | _ => none
def zldA (v : Option Value) (nxt : Nat) (l : zL) (st : List Value) (w : zW) : Option zN := match v with
  | some (.ref x) => some (True, nxt, l, .ref x :: st, w)
  | _ => none
def zstI (i nxt : Nat) (l : zL) (st : List Value) (w : zW) : Option zN := match st with
  | .int x :: r => some (True, nxt, zset1 l i (.int x), r, w)
  | _ => none
def zstA (i nxt : Nat) (l : zL) (st : List Value) (w : zW) : Option zN := match st with
  | .ref x :: r => some (True, nxt, zset1 l i (.ref x), r, w)
  | _ => none
def zstJ (i nxt : Nat) (l : zL) (st : List Value) (w : zW) : Option zN := match st with
  | .long x :: r => some (True, nxt, zset2 l i (.long x), r, w)
  | _ => none
def zbI (P : Int32 → Int32 → Prop) (f : Int32 → Int32 → Int32) (nxt : Nat) (l : zL) (st : List Value) (w : zW) : Option zN := match st with
  | .int y :: .int x :: r => some (P x y, nxt, l, .int (f x y) :: r, w)
  | _ => none
def zbJ (P : Int64 → Int64 → Prop) (f : Int64 → Int64 → Int64) (nxt : Nat) (l : zL) (st : List Value) (w : zW) : Option zN := match st with
  | .long y :: .long x :: r => some (P x y, nxt, l, .long (f x y) :: r, w)
  | _ => none
def zbr1 (f : Int32 → Nat) (l : zL) (st : List Value) (w : zW) : Option zN := match st with
  | .int x :: r => some (True, f x, l, r, w)
  | _ => none
def zbr2 (f : Int32 → Int32 → Nat) (l : zL) (st : List Value) (w : zW) : Option zN := match st with
  | .int y :: .int x :: r => some (True, f x y, l, r, w)
  | _ => none
def zstep (ins : Instr) (pc nxt a b : Nat) (c : Int) (l : zL) (st : List Value) (w : zW) : Option zN := match ins with
  | .iload_n i => zldI (zget l i) nxt l st w
  | .iload i => zldI (zget l i) nxt l st w
  | .lload_n i => zldJ (zget l i) nxt l st w
  | .lload i => zldJ (zget l i) nxt l st w
  | .aload_n i => zldA (zget l i) nxt l st w
  | .aload i => zldA (zget l i) nxt l st w
  | .istore_n i => zstI i nxt l st w
  | .istore i => zstI i nxt l st w
  | .astore_n i => zstA i nxt l st w
  | .astore i => zstA i nxt l st w
  | .lstore_n i => zstJ i nxt l st w
  | .lstore i => zstJ i nxt l st w
  | .iinc i n => match zget l i with
    | some (.int x) => some (True, nxt, zset1 l i (.int (x + Int32.ofInt n)), st, w)
    | _ => none
  | .iconst n => some (True, nxt, l, .int (Int32.ofInt n) :: st, w)
  | .bipush n => some (True, nxt, l, .int (Int8.ofInt n).toInt32 :: st, w)
  | .sipush n => some (True, nxt, l, .int (Int16.ofInt n).toInt32 :: st, w)
  | .lconst n => some (True, nxt, l, .long (Int64.ofNat (n : Nat)) :: st, w)
  | .ldc _ => some (True, nxt, l, .int (Int32.ofInt c) :: st, w)
  | .ldc_w _ => some (True, nxt, l, .int (Int32.ofInt c) :: st, w)
  | .ldc2_w _ => some (True, nxt, l, .long (Int64.ofInt c) :: st, w)
  | .iadd => zbI (fun _ _ => True) (fun x y => x + y) nxt l st w
  | .isub => zbI (fun _ _ => True) (fun x y => x - y) nxt l st w
  | .imul => zbI (fun _ _ => True) (fun x y => x * y) nxt l st w
  | .idiv => zbI (fun _ y => ¬ y = 0) (fun x y => x / y) nxt l st w
  | .irem => zbI (fun _ y => ¬ y = 0) (fun x y => x - x / y * y) nxt l st w
  | .iand => zbI (fun _ _ => True) (fun x y => x &&& y) nxt l st w
  | .ior => zbI (fun _ _ => True) (fun x y => x ||| y) nxt l st w
  | .ixor => zbI (fun _ _ => True) (fun x y => x ^^^ y) nxt l st w
  | .ishl => zbI (fun _ _ => True) (fun x y => x <<< (y &&& 31)) nxt l st w
  | .ishr => zbI (fun _ _ => True) (fun x y => x >>> (y &&& 31)) nxt l st w
  | .iushr => zbI (fun _ _ => True) (fun x y => (x.toUInt32 >>> (y.toUInt32 &&& Int32.toUInt32 31)).toInt32) nxt l st w
  | .ladd => zbJ (fun _ _ => True) (fun x y => x + y) nxt l st w
  | .lsub => zbJ (fun _ _ => True) (fun x y => x - y) nxt l st w
  | .lmul => zbJ (fun _ _ => True) (fun x y => x * y) nxt l st w
  | .ldiv => zbJ (fun _ y => ¬ y = 0) (fun x y => x / y) nxt l st w
  | .lrem => zbJ (fun _ y => ¬ y = 0) (fun x y => x - x / y * y) nxt l st w
  | .land => zbJ (fun _ _ => True) (fun x y => x &&& y) nxt l st w
  | .lor => zbJ (fun _ _ => True) (fun x y => x ||| y) nxt l st w
  | .lshl => match st with
    | .int y :: .long x :: r => some (True, nxt, l, .long (x <<< (y.toInt64 &&& 63)) :: r, w)
    | _ => none
  | .i2l => match st with
    | .int x :: r => some (True, nxt, l, .long x.toInt64 :: r, w)
    | _ => none
  | .lcmp => match st with
    | .long y :: .long x :: r => some (True, nxt, l, .int (lg_cmp x y) :: r, w)
    | _ => none
  | .dup => match st with
    | v :: r => bif Nat.beq v.category 1 then some (True, nxt, l, v :: v :: r, w) else none
    | _ => none
  | .dup2 => match st with
    | .long x :: r => some (True, nxt, l, .long x :: .long x :: r, w)
    | .int y :: .ref x :: r => some (True, nxt, l, .int y :: .ref x :: .int y :: .ref x :: r, w)
    | .int y :: .int x :: r => some (True, nxt, l, .int y :: .int x :: .int y :: .int x :: r, w)
    | _ => none
  | .pop => match st with
    | v :: r => bif Nat.beq v.category 1 then some (True, nxt, l, r, w) else none
    | _ => none
  | .pop2 => match st with
    | .long _ :: r => some (True, nxt, l, r, w)
    | _ => none
  | .ifCond .eq _ => zbr1 (fun x => if x = 0 then a else nxt) l st w
  | .ifCond .ne _ => zbr1 (fun x => if ¬ x = 0 then a else nxt) l st w
  | .ifCond .lt _ => zbr1 (fun x => if x < 0 then a else nxt) l st w
  | .ifCond .ge _ => zbr1 (fun x => if 0 ≤ x then a else nxt) l st w
  | .ifCond .gt _ => zbr1 (fun x => if 0 < x then a else nxt) l st w
  | .ifCond .le _ => zbr1 (fun x => if x ≤ 0 then a else nxt) l st w
  | .if_icmp .eq _ => zbr2 (fun x y => if x = y then a else nxt) l st w
  | .if_icmp .ne _ => zbr2 (fun x y => if ¬ x = y then a else nxt) l st w
  | .if_icmp .lt _ => zbr2 (fun x y => if x < y then a else nxt) l st w
  | .if_icmp .ge _ => zbr2 (fun x y => if y ≤ x then a else nxt) l st w
  | .if_icmp .gt _ => zbr2 (fun x y => if y < x then a else nxt) l st w
  | .if_icmp .le _ => zbr2 (fun x y => if x ≤ y then a else nxt) l st w
  | .goto _ => some (True, a, l, st, w)
  | .tableswitch dflt lo hi offs => match st with
    | .int x :: r => some ((0 ≤ (pc : Int) + dflt ∧ ∀ o ∈ offs.toList, 0 ≤ (pc : Int) + o) ∧ (hi - lo).toNat < offs.size, (((pc : Int) + (if x.toInt < lo ∨ hi < x.toInt then dflt else offs.getD (x.toInt - lo).toNat 0)).toNat), l, r, w)
    | _ => none
  | .lookupswitch dflt ps => match st with
    | .int x :: r => some ((ps.toList.zip (ps.toList.drop 1)).all (fun (a, next) => a.1 < next.1) = true ∧ 0 ≤ (pc : Int) + Op.lookupswitch.offset ps.toList dflt x.toInt, ((pc : Int) + Op.lookupswitch.offset ps.toList dflt x.toInt).toNat, l, r, w)
    | _ => none
  | .getfield _ => match st with
    | .ref k :: r => match w[k]? with
      | some (.inr (.inr (.inr (ci, fs)))) => bif Nat.beq ci a then (match fs[b]? with
        | some v => some (True, nxt, l, v :: r, w)
        | none => none) else none
      | _ => none
    | _ => none
  | .putfield _ => match st with
    | v :: .ref k :: r => match w[k]? with
      | some (.inr (.inr (.inr (ci, fs)))) => bif (Nat.beq ci a && (Nat.blt b fs.length && zfit (zty a b) v)) then some (True, nxt, l, r, w.set k (.inr (.inr (.inr (ci, fs.set b v))))) else none
      | _ => none
    | _ => none
  | .iaload => match st with
    | .int i :: .ref k :: r => match w[k]? with
      | some (.inl (0, n, f)) => some (vp_in i n, nxt, l, .int (f i.toNatClampNeg) :: r, w)
      | _ => none
    | _ => none
  | .baload => match st with
    | .int i :: .ref k :: r => match w[k]? with
      | some (.inl (1, n, f)) => some (vp_in i n, nxt, l, .int (f i.toNatClampNeg) :: r, w)
      | _ => none
    | _ => none
  | .laload => match st with
    | .int i :: .ref k :: r => match w[k]? with
      | some (.inr (.inl (n, f))) => some (vp_in i n, nxt, l, .long (f i.toNatClampNeg) :: r, w)
      | _ => none
    | _ => none
  | .iastore => match st with
    | .int x :: .int i :: .ref k :: r => match w[k]? with
      | some (.inl (0, n, f)) => some (vp_in i n, nxt, l, r, w.set k (.inl (0, n, upd f i.toNatClampNeg x)))
      | _ => none
    | _ => none
  | .bastore => match st with
    | .int x :: .int i :: .ref k :: r => match w[k]? with
      | some (.inl (1, n, f)) => some (vp_in i n, nxt, l, r, w.set k (.inl (1, n, upd f i.toNatClampNeg (vp_nar .boolean x))))
      | _ => none
    | _ => none
  | .lastore => match st with
    | .long x :: .int i :: .ref k :: r => match w[k]? with
      | some (.inr (.inl (n, f))) => some (vp_in i n, nxt, l, r, w.set k (.inr (.inl (n, vp_updL f i.toNatClampNeg x))))
      | _ => none
    | _ => none
  | .arraylength => match st with
    | .ref k :: r => match w[k]? with
      | some (.inl (0, n, _)) => some (True, nxt, l, .int (Int32.ofNat n) :: r, w)
      | _ => none
    | _ => none
  | _ => none
/-! the judgement: from this point of a method, whatever the machine around it, the method comes to a return with an answer and a world that Q takes -/
def zsent : Nat := 1000000
abbrev zM : Type := String × ByteArray × Nat × Bool × Room × Option FieldType
def zctx (M : zM) (p : Program) (s : State) (m : MethodId) (args : Array Value) (meth : Method) (c : Code) (dC : Nat → ClassId) (dI : Nat → Nat → Nat) (dA : Nat → ClassId) (A : Nat → Prop) : Prop :=
  p.tables.exec = Jvm.exec ∧ c.code = M.2.1 ∧ c.maxLocals = M.2.2.1 ∧ s.vm.findClass M.1 = some m.cls ∧ (∀ w ∈ zG, w.before args s = true) ∧ va_K (dC, dI) vwCl (ztys dA) s ∧ (∀ q, s.heap.size ≤ q → A q) ∧ (M.2.2.2.1 = true → meth.name = "<init>")
def zrel (dC : Nat → ClassId) (dI : Nat → Nat → Nat) (dA : Nat → ClassId) (ad0 ad : Nat → Nat) (A : Nat → Prop) (n0 : Nat) (al : Bool) (H0 H : Heap) (locs : List Loc) (w : zW) : Prop :=
  (al = false → ad = ad0) ∧ (∀ k, (k < n0 ∨ zsent ≤ k) → ad k = ad0 k) ∧ va_P (dC, dI) vwCl (zw dA ad w) H ∧ va_D A (zw dA ad w) ∧ va_S A H0 H locs
def zrt (cc : ByteArray) (ret : Option FieldType) (pc : Nat) : Option Value → Prop
  | none => ret = none ∧ decode cc pc = .ok (.return_, 1)
  | some (.int x) => ((ret = some .int) ∨ (ret = some .boolean ∧ (x = 0 ∨ x = 1))) ∧ decode cc pc = .ok (.ireturn, 1)
  | some (.long _) => ret = some .long ∧ decode cc pc = .ok (.lreturn, 1)
  | _ => False
def zV (M : zM) (al : Bool) (n0 kc ks pc : Nat) (l : zL) (st : List Value) (w : zW) (Q : Option Value → zW → Prop) : Prop :=
  ∀ (p : Program) (l0 : Launch) (e : Env) (s : State) (m : MethodId) (args : Array Value) (below : List Frame) (meth : Method) (c : Code) (dC : Nat → ClassId) (dI : Nat → Nat → Nat) (dA : Nat → ClassId) (ad0 : Nat → Nat) (A : Nat → Prop) (Z : State → Prop),
    zctx M p s m args meth c dC dI dA A →
    (∀ (ad : Nat → Nat) (H : Heap) (locs : List Loc) (kc ks pc : Nat) (ls : Array Slot) (v : Option Value) (w : zW), zrel dC dI dA ad0 ad A n0 al s.heap H locs w → Q v w → kc ≤ M.2.2.2.2.1.cells → ks ≤ M.2.2.2.2.1.slots → zrt M.2.1 M.2.2.2.2.2 pc v → W p l0 e M.2.2.2.2.1 s m args below meth c H locs kc ks Z (F0 m pc ls (v.map (zv ad)).toList)) →
    ∀ (ad : Nat → Nat) (H : Heap) (locs : List Loc) (ls : Array Slot), zrel dC dI dA ad0 ad A n0 al s.heap H locs w → lv_has ls M.2.2.1 (zl ad l) → W p l0 e M.2.2.2.2.1 s m args below meth c H locs kc ks Z (F0 m pc ls (st.map (zv ad)))
end
section
section ZS
variable {M : zM} {al : Bool} {n0 kc ks pc nxt a b : Nat} {c0 : Int} {l l' : zL} {st st' : List Value} {w w' : zW} {Q : Option Value → zW → Prop} {P : Prop} {pc' : Nat} {ins : Instr}
theorem zldI_inv {v : Option Value} (h : zldI v nxt l st w = some (P, pc', l', st', w')) : ∃ x, v = some (.int x) ∧ True = P ∧ nxt = pc' ∧ l = l' ∧ .int x :: st = st' ∧ w = w' := by
  unfold zldI at h; split at h
  · rename_i x; cases h; exact ⟨x, rfl, rfl, rfl, rfl, rfl, rfl⟩
  · cases h
theorem zldJ_inv {v : Option Value} (h : zldJ v nxt l st w = some (P, pc', l', st', w')) : ∃ x, v = some (.long x) ∧ True = P ∧ nxt = pc' ∧ l = l' ∧ .long x :: st = st' ∧ w = w' := by
  unfold zldJ at h; split at h
  · rename_i x; cases h; exact ⟨x, rfl, rfl, rfl, rfl, rfl, rfl⟩
  · cases h
theorem zldA_inv {v : Option Value} (h : zldA v nxt l st w = some (P, pc', l', st', w')) : ∃ x, v = some (.ref x) ∧ True = P ∧ nxt = pc' ∧ l = l' ∧ .ref x :: st = st' ∧ w = w' := by
  unfold zldA at h; split at h
  · rename_i x; cases h; exact ⟨x, rfl, rfl, rfl, rfl, rfl, rfl⟩
  · cases h
theorem zstI_inv {i : Nat} (h : zstI i nxt l st w = some (P, pc', l', st', w')) : ∃ x, st = .int x :: st' ∧ True = P ∧ nxt = pc' ∧ zset1 l i (.int x) = l' ∧ w = w' := by
  unfold zstI at h; split at h
  · rename_i x r; cases h; exact ⟨x, rfl, rfl, rfl, rfl, rfl⟩
  · cases h
theorem zstA_inv {i : Nat} (h : zstA i nxt l st w = some (P, pc', l', st', w')) : ∃ x, st = .ref x :: st' ∧ True = P ∧ nxt = pc' ∧ zset1 l i (.ref x) = l' ∧ w = w' := by
  unfold zstA at h; split at h
  · rename_i x r; cases h; exact ⟨x, rfl, rfl, rfl, rfl, rfl⟩
  · cases h
theorem zstJ_inv {i : Nat} (h : zstJ i nxt l st w = some (P, pc', l', st', w')) : ∃ x, st = .long x :: st' ∧ True = P ∧ nxt = pc' ∧ zset2 l i (.long x) = l' ∧ w = w' := by
  unfold zstJ at h; split at h
  · rename_i x r; cases h; exact ⟨x, rfl, rfl, rfl, rfl, rfl⟩
  · cases h
theorem zbI_inv {Pf : Int32 → Int32 → Prop} {f : Int32 → Int32 → Int32} (h : zbI Pf f nxt l st w = some (P, pc', l', st', w')) : ∃ x y r, st = .int y :: .int x :: r ∧ Pf x y = P ∧ nxt = pc' ∧ l = l' ∧ .int (f x y) :: r = st' ∧ w = w' := by
  unfold zbI at h; split at h
  · rename_i y x r; cases h; exact ⟨x, y, r, rfl, rfl, rfl, rfl, rfl, rfl⟩
  · cases h
theorem zbJ_inv {Pf : Int64 → Int64 → Prop} {f : Int64 → Int64 → Int64} (h : zbJ Pf f nxt l st w = some (P, pc', l', st', w')) : ∃ x y r, st = .long y :: .long x :: r ∧ Pf x y = P ∧ nxt = pc' ∧ l = l' ∧ .long (f x y) :: r = st' ∧ w = w' := by
  unfold zbJ at h; split at h
  · rename_i y x r; cases h; exact ⟨x, y, r, rfl, rfl, rfl, rfl, rfl, rfl⟩
  · cases h
theorem zbr1_inv {f : Int32 → Nat} (h : zbr1 f l st w = some (P, pc', l', st', w')) : ∃ x, st = .int x :: st' ∧ True = P ∧ f x = pc' ∧ l = l' ∧ w = w' := by
  unfold zbr1 at h; split at h
  · rename_i x r; cases h; exact ⟨x, rfl, rfl, rfl, rfl, rfl⟩
  · cases h
theorem zbr2_inv {f : Int32 → Int32 → Nat} (h : zbr2 f l st w = some (P, pc', l', st', w')) : ∃ x y, st = .int y :: .int x :: st' ∧ True = P ∧ f x y = pc' ∧ l = l' ∧ w = w' := by
  unfold zbr2 at h; split at h
  · rename_i y x r; cases h; exact ⟨x, y, rfl, rfl, rfl, rfl, rfl⟩
  · cases h
set_option maxHeartbeats 4000000 in
/-- one step, sound -/
theorem zv_st (hd : decode M.2.1 pc = .ok (ins, nxt - pc)) (hn : zlenok ins pc nxt = true) (hg : zgd M.1 M.2.2.1 M.2.2.2.1 pc ins a b c0 = true)
    (h : zstep ins pc nxt a b c0 l st w = some (P, pc', l', st', w')) (hp : P) (k : zV M al n0 kc ks pc' l' st' w' Q) : zV M al n0 kc ks pc l st w Q := by
  intro p l0 e s m args below meth c dC dI dA ad0 A Z hctx hfin ad H locs ls hrel hl
  have kk := k p l0 e s m args below meth c dC dI dA ad0 A Z hctx hfin ad
  obtain ⟨hx, hb, hml, hown, hts, hK, hA, hin⟩ := hctx
  cases ins with
  | iload_n i =>
    have hnx : nxt = pc + 1 := of_decide_eq_true hn
    subst hnx
    rw [Nat.add_sub_cancel_left] at hd
    obtain ⟨x, hv, rfl, rfl, rfl, rfl, rfl⟩ := zldI_inv h
    exact lv_iload_n hx hb hd rfl (zl_at hl hv) (kk H locs ls hrel hl)
  | iload i =>
    have hnx : nxt = pc + 2 := of_decide_eq_true hn
    subst hnx
    rw [Nat.add_sub_cancel_left] at hd
    obtain ⟨x, hv, rfl, rfl, rfl, rfl, rfl⟩ := zldI_inv h
    exact lv_iload hx hb hd (zl_at hl hv) (kk H locs ls hrel hl)
  | lload_n i =>
    have hnx : nxt = pc + 1 := of_decide_eq_true hn
    subst hnx
    rw [Nat.add_sub_cancel_left] at hd
    obtain ⟨x, hv, rfl, rfl, rfl, rfl, rfl⟩ := zldJ_inv h
    exact lv_lload_n hx hb hd rfl (zl_at hl hv) (kk H locs ls hrel hl)
  | lload i =>
    have hnx : nxt = pc + 2 := of_decide_eq_true hn
    subst hnx
    rw [Nat.add_sub_cancel_left] at hd
    obtain ⟨x, hv, rfl, rfl, rfl, rfl, rfl⟩ := zldJ_inv h
    exact lv_lload hx hb hd (zl_at hl hv) (kk H locs ls hrel hl)
  | aload_n i =>
    have hnx : nxt = pc + 1 := of_decide_eq_true hn
    subst hnx
    rw [Nat.add_sub_cancel_left] at hd
    obtain ⟨x, hv, rfl, rfl, rfl, rfl, rfl⟩ := zldA_inv h
    exact lv_aload_n hx hb hd rfl (zl_at hl hv) (kk H locs ls hrel hl)
  | aload i =>
    have hnx : nxt = pc + 2 := of_decide_eq_true hn
    subst hnx
    rw [Nat.add_sub_cancel_left] at hd
    obtain ⟨x, hv, rfl, rfl, rfl, rfl, rfl⟩ := zldA_inv h
    exact lv_aload hx hb hd (zl_at hl hv) (kk H locs ls hrel hl)
  | istore_n i =>
    have hnx : nxt = pc + 1 := of_decide_eq_true hn
    subst hnx
    rw [Nat.add_sub_cancel_left] at hd
    obtain ⟨x, rfl, rfl, rfl, rfl, rfl⟩ := zstI_inv h
    exact lv_istore_n hx hb hd rfl hl (of_decide_eq_true hg) (zl_set1 ad l _ (.int x)) (fun ls' hl' => kk H locs ls' hrel hl')
  | istore i =>
    have hnx : nxt = pc + 2 := of_decide_eq_true hn
    subst hnx
    rw [Nat.add_sub_cancel_left] at hd
    obtain ⟨x, rfl, rfl, rfl, rfl, rfl⟩ := zstI_inv h
    exact lv_istore hx hb hd hl (of_decide_eq_true hg) (zl_set1 ad l _ (.int x)) (fun ls' hl' => kk H locs ls' hrel hl')
  | astore_n i =>
    have hnx : nxt = pc + 1 := of_decide_eq_true hn
    subst hnx
    rw [Nat.add_sub_cancel_left] at hd
    obtain ⟨x, rfl, rfl, rfl, rfl, rfl⟩ := zstA_inv h
    exact lv_astore_n hx hb hd rfl hl (of_decide_eq_true hg) (zl_set1 ad l _ (.ref x)) (fun ls' hl' => kk H locs ls' hrel hl')
  | astore i =>
    have hnx : nxt = pc + 2 := of_decide_eq_true hn
    subst hnx
    rw [Nat.add_sub_cancel_left] at hd
    obtain ⟨x, rfl, rfl, rfl, rfl, rfl⟩ := zstA_inv h
    exact lv_astore hx hb hd hl (of_decide_eq_true hg) (zl_set1 ad l _ (.ref x)) (fun ls' hl' => kk H locs ls' hrel hl')
  | lstore_n i =>
    have hnx : nxt = pc + 1 := of_decide_eq_true hn
    subst hnx
    rw [Nat.add_sub_cancel_left] at hd
    obtain ⟨x, rfl, rfl, rfl, rfl, rfl⟩ := zstJ_inv h
    exact lv_lstore_n hx hb hd rfl hl (of_decide_eq_true hg) (zl_set2 ad l _ (.long x)) (fun ls' hl' => kk H locs ls' hrel hl')
  | lstore i =>
    have hnx : nxt = pc + 2 := of_decide_eq_true hn
    subst hnx
    rw [Nat.add_sub_cancel_left] at hd
    obtain ⟨x, rfl, rfl, rfl, rfl, rfl⟩ := zstJ_inv h
    exact lv_lstore hx hb hd hl (of_decide_eq_true hg) (zl_set2 ad l _ (.long x)) (fun ls' hl' => kk H locs ls' hrel hl')
  | iinc i n =>
    have hnx : nxt = pc + 3 := of_decide_eq_true hn
    subst hnx
    rw [Nat.add_sub_cancel_left] at hd
    simp only [zstep] at h
    split at h
    · rename_i x hv
      cases h
      obtain ⟨j, hj⟩ := List.getElem?_of_mem (List.mem_map.mpr ⟨(i, Value.int x), zget_mem hv, rfl⟩ : ((i, zv ad (.int x)) : Nat × Value) ∈ zl ad l)
      exact lv_iinc hx hb hd hl hj rfl (of_decide_eq_true hg) (zl_set1 ad l i (.int (x + Int32.ofInt n))) (fun ls' hl' => kk H locs ls' hrel hl')
    · cases h
  | iconst n =>
    have hnx : nxt = pc + 1 := of_decide_eq_true hn
    subst hnx
    rw [Nat.add_sub_cancel_left] at hd
    cases h
    exact lv_iconst hx hb hd rfl (kk H locs ls hrel hl)
  | bipush n =>
    have hnx : nxt = pc + 2 := of_decide_eq_true hn
    subst hnx
    rw [Nat.add_sub_cancel_left] at hd
    cases h
    exact lv_bipush hx hb hd rfl (kk H locs ls hrel hl)
  | sipush n =>
    have hnx : nxt = pc + 3 := of_decide_eq_true hn
    subst hnx
    rw [Nat.add_sub_cancel_left] at hd
    cases h
    exact lv_sipush hx hb hd rfl (kk H locs ls hrel hl)
  | lconst n =>
    have hnx : nxt = pc + 1 := of_decide_eq_true hn
    subst hnx
    rw [Nat.add_sub_cancel_left] at hd
    cases h
    exact lv_lconst hx hb hd rfl (kk H locs ls hrel hl)
  | ldc i =>
    have hnx : nxt = pc + 2 := of_decide_eq_true hn
    subst hnx
    rw [Nat.add_sub_cancel_left] at hd
    cases h
    exact lv_ldc hx hb hown (hts (Cond.constant M.1 i (Int32.ofInt c0)) (by simpa only [zgd, decide_eq_true_eq] using hg)) hd (kk H locs ls hrel hl)
  | ldc_w i =>
    have hnx : nxt = pc + 3 := of_decide_eq_true hn
    subst hnx
    rw [Nat.add_sub_cancel_left] at hd
    cases h
    exact lv_ldcw hx hb hown (hts (Cond.constant M.1 i (Int32.ofInt c0)) (by simpa only [zgd, decide_eq_true_eq] using hg)) hd (kk H locs ls hrel hl)
  | ldc2_w i =>
    have hnx : nxt = pc + 3 := of_decide_eq_true hn
    subst hnx
    rw [Nat.add_sub_cancel_left] at hd
    cases h
    exact lv_ldc2 hx hb hown (hts (Cond.constantLong M.1 i (Int64.ofInt c0)) (by simpa only [zgd, decide_eq_true_eq] using hg)) hd (kk H locs ls hrel hl)
  | iadd =>
    have hnx : nxt = pc + 1 := of_decide_eq_true hn
    subst hnx
    rw [Nat.add_sub_cancel_left] at hd
    obtain ⟨x, y, r, rfl, rfl, rfl, rfl, rfl, rfl⟩ := zbI_inv h
    exact lv_iadd hx hb hd (kk H locs ls hrel hl)
  | isub =>
    have hnx : nxt = pc + 1 := of_decide_eq_true hn
    subst hnx
    rw [Nat.add_sub_cancel_left] at hd
    obtain ⟨x, y, r, rfl, rfl, rfl, rfl, rfl, rfl⟩ := zbI_inv h
    exact lv_isub hx hb hd (kk H locs ls hrel hl)
  | imul =>
    have hnx : nxt = pc + 1 := of_decide_eq_true hn
    subst hnx
    rw [Nat.add_sub_cancel_left] at hd
    obtain ⟨x, y, r, rfl, rfl, rfl, rfl, rfl, rfl⟩ := zbI_inv h
    exact lv_imul hx hb hd (kk H locs ls hrel hl)
  | iand =>
    have hnx : nxt = pc + 1 := of_decide_eq_true hn
    subst hnx
    rw [Nat.add_sub_cancel_left] at hd
    obtain ⟨x, y, r, rfl, rfl, rfl, rfl, rfl, rfl⟩ := zbI_inv h
    exact lv_iand hx hb hd (kk H locs ls hrel hl)
  | ior =>
    have hnx : nxt = pc + 1 := of_decide_eq_true hn
    subst hnx
    rw [Nat.add_sub_cancel_left] at hd
    obtain ⟨x, y, r, rfl, rfl, rfl, rfl, rfl, rfl⟩ := zbI_inv h
    exact lv_ior hx hb hd (kk H locs ls hrel hl)
  | ixor =>
    have hnx : nxt = pc + 1 := of_decide_eq_true hn
    subst hnx
    rw [Nat.add_sub_cancel_left] at hd
    obtain ⟨x, y, r, rfl, rfl, rfl, rfl, rfl, rfl⟩ := zbI_inv h
    exact lv_ixor hx hb hd (kk H locs ls hrel hl)
  | ishl =>
    have hnx : nxt = pc + 1 := of_decide_eq_true hn
    subst hnx
    rw [Nat.add_sub_cancel_left] at hd
    obtain ⟨x, y, r, rfl, rfl, rfl, rfl, rfl, rfl⟩ := zbI_inv h
    exact lv_ishl hx hb hd (kk H locs ls hrel hl)
  | ishr =>
    have hnx : nxt = pc + 1 := of_decide_eq_true hn
    subst hnx
    rw [Nat.add_sub_cancel_left] at hd
    obtain ⟨x, y, r, rfl, rfl, rfl, rfl, rfl, rfl⟩ := zbI_inv h
    exact lv_ishr hx hb hd (kk H locs ls hrel hl)
  | iushr =>
    have hnx : nxt = pc + 1 := of_decide_eq_true hn
    subst hnx
    rw [Nat.add_sub_cancel_left] at hd
    obtain ⟨x, y, r, rfl, rfl, rfl, rfl, rfl, rfl⟩ := zbI_inv h
    exact lv_iushr hx hb hd rfl (kk H locs ls hrel hl)
  | idiv =>
    have hnx : nxt = pc + 1 := of_decide_eq_true hn
    subst hnx
    rw [Nat.add_sub_cancel_left] at hd
    obtain ⟨x, y, r, rfl, rfl, rfl, rfl, rfl, rfl⟩ := zbI_inv h
    exact lv_idiv hx hb hd hp (kk H locs ls hrel hl)
  | irem =>
    have hnx : nxt = pc + 1 := of_decide_eq_true hn
    subst hnx
    rw [Nat.add_sub_cancel_left] at hd
    obtain ⟨x, y, r, rfl, rfl, rfl, rfl, rfl, rfl⟩ := zbI_inv h
    exact lv_irem hx hb hd hp (kk H locs ls hrel hl)
  | ladd =>
    have hnx : nxt = pc + 1 := of_decide_eq_true hn
    subst hnx
    rw [Nat.add_sub_cancel_left] at hd
    obtain ⟨x, y, r, rfl, rfl, rfl, rfl, rfl, rfl⟩ := zbJ_inv h
    exact lv_ladd hx hb hd (kk H locs ls hrel hl)
  | lsub =>
    have hnx : nxt = pc + 1 := of_decide_eq_true hn
    subst hnx
    rw [Nat.add_sub_cancel_left] at hd
    obtain ⟨x, y, r, rfl, rfl, rfl, rfl, rfl, rfl⟩ := zbJ_inv h
    exact lv_lsub hx hb hd (kk H locs ls hrel hl)
  | lmul =>
    have hnx : nxt = pc + 1 := of_decide_eq_true hn
    subst hnx
    rw [Nat.add_sub_cancel_left] at hd
    obtain ⟨x, y, r, rfl, rfl, rfl, rfl, rfl, rfl⟩ := zbJ_inv h
    exact lv_lmul hx hb hd (kk H locs ls hrel hl)
  | land =>
    have hnx : nxt = pc + 1 := of_decide_eq_true hn
    subst hnx
    rw [Nat.add_sub_cancel_left] at hd
    obtain ⟨x, y, r, rfl, rfl, rfl, rfl, rfl, rfl⟩ := zbJ_inv h
    exact lv_land hx hb hd (kk H locs ls hrel hl)
  | lor =>
    have hnx : nxt = pc + 1 := of_decide_eq_true hn
    subst hnx
    rw [Nat.add_sub_cancel_left] at hd
    obtain ⟨x, y, r, rfl, rfl, rfl, rfl, rfl, rfl⟩ := zbJ_inv h
    exact lv_lor hx hb hd (kk H locs ls hrel hl)
  | ldiv =>
    have hnx : nxt = pc + 1 := of_decide_eq_true hn
    subst hnx
    rw [Nat.add_sub_cancel_left] at hd
    obtain ⟨x, y, r, rfl, rfl, rfl, rfl, rfl, rfl⟩ := zbJ_inv h
    exact lv_ldiv hx hb hd hp (kk H locs ls hrel hl)
  | lrem =>
    have hnx : nxt = pc + 1 := of_decide_eq_true hn
    subst hnx
    rw [Nat.add_sub_cancel_left] at hd
    obtain ⟨x, y, r, rfl, rfl, rfl, rfl, rfl, rfl⟩ := zbJ_inv h
    exact lv_lrem hx hb hd hp (kk H locs ls hrel hl)
  | lshl =>
    have hnx : nxt = pc + 1 := of_decide_eq_true hn
    subst hnx
    rw [Nat.add_sub_cancel_left] at hd
    simp only [zstep] at h
    split at h
    · cases h
      exact lv_lshl hx hb hd rfl (kk H locs ls hrel hl)
    · cases h
  | i2l =>
    have hnx : nxt = pc + 1 := of_decide_eq_true hn
    subst hnx
    rw [Nat.add_sub_cancel_left] at hd
    simp only [zstep] at h
    split at h
    · cases h
      exact lv_i2l hx hb hd rfl (kk H locs ls hrel hl)
    · cases h
  | lcmp =>
    have hnx : nxt = pc + 1 := of_decide_eq_true hn
    subst hnx
    rw [Nat.add_sub_cancel_left] at hd
    simp only [zstep] at h
    split at h
    · cases h
      exact W.lcmp hx hb hd (kk H locs ls hrel hl)
    · cases h
  | dup =>
    have hnx : nxt = pc + 1 := of_decide_eq_true hn
    subst hnx
    rw [Nat.add_sub_cancel_left] at hd
    simp only [zstep] at h
    split at h
    · rename_i v r
      cases hc : Nat.beq v.category 1 with
      | true =>
        rw [hc] at h; cases h
        exact lv_dup hx hb hd ((zv_cat ad v).trans (Nat.eq_of_beq_eq_true hc)) (kk H locs ls hrel hl)
      | false => rw [hc] at h; cases h
    · cases h
  | pop =>
    have hnx : nxt = pc + 1 := of_decide_eq_true hn
    subst hnx
    rw [Nat.add_sub_cancel_left] at hd
    simp only [zstep] at h
    split at h
    · rename_i v r
      cases hc : Nat.beq v.category 1 with
      | true =>
        rw [hc] at h; cases h
        exact lv_pop hx hb hd ((zv_cat ad v).trans (Nat.eq_of_beq_eq_true hc)) (kk H locs ls hrel hl)
      | false => rw [hc] at h; cases h
    · cases h
  | dup2 =>
    have hnx : nxt = pc + 1 := of_decide_eq_true hn
    subst hnx
    rw [Nat.add_sub_cancel_left] at hd
    simp only [zstep] at h
    split at h
    · cases h
      exact lv_dup2_2 (va := .long _) hx hb hd rfl (kk H locs ls hrel hl)
    · cases h
      exact lv_dup2_11 (va := .int _) (vb := .ref _) hx hb hd rfl rfl (kk H locs ls hrel hl)
    · cases h
      exact lv_dup2_11 (va := .int _) (vb := .int _) hx hb hd rfl rfl (kk H locs ls hrel hl)
    · cases h
  | pop2 =>
    have hnx : nxt = pc + 1 := of_decide_eq_true hn
    subst hnx
    rw [Nat.add_sub_cancel_left] at hd
    simp only [zstep] at h
    split at h
    · cases h
      exact lv_pop2_2 (va := .long _) hx hb hd rfl (kk H locs ls hrel hl)
    · cases h
  | ifCond cd off =>
    have hnx : nxt = pc + 3 := of_decide_eq_true hn
    subst hnx
    rw [Nat.add_sub_cancel_left] at hd
    have ht : (pc : Int) + off = (a : Int) := of_decide_eq_true hg
    cases cd with
    | eq =>
      obtain ⟨x, rfl, rfl, rfl, rfl, rfl⟩ := zbr1_inv h
      exact lv_if_eq hx hb hd ht (fun q => by have k2 := kk H locs ls hrel hl; rw [if_pos q] at k2; exact k2) (fun q => by have k2 := kk H locs ls hrel hl; rw [if_neg q] at k2; exact k2)
    | ne =>
      obtain ⟨x, rfl, rfl, rfl, rfl, rfl⟩ := zbr1_inv h
      exact lv_if_ne hx hb hd ht (fun q => by have k2 := kk H locs ls hrel hl; rw [if_pos q] at k2; exact k2) (fun q => by have k2 := kk H locs ls hrel hl; rw [if_neg (fun z => z q)] at k2; exact k2)
    | lt =>
      obtain ⟨x, rfl, rfl, rfl, rfl, rfl⟩ := zbr1_inv h
      exact lv_if_lt hx hb hd ht (fun q => by have k2 := kk H locs ls hrel hl; rw [if_pos q] at k2; exact k2) (fun q => by have k2 := kk H locs ls hrel hl; rw [if_neg q] at k2; exact k2)
    | ge =>
      obtain ⟨x, rfl, rfl, rfl, rfl, rfl⟩ := zbr1_inv h
      exact lv_if_ge hx hb hd ht (fun q => by have k2 := kk H locs ls hrel hl; rw [if_pos q] at k2; exact k2) (fun q => by have k2 := kk H locs ls hrel hl; rw [if_neg q] at k2; exact k2)
    | gt =>
      obtain ⟨x, rfl, rfl, rfl, rfl, rfl⟩ := zbr1_inv h
      exact lv_if_gt hx hb hd ht (fun q => by have k2 := kk H locs ls hrel hl; rw [if_pos q] at k2; exact k2) (fun q => by have k2 := kk H locs ls hrel hl; rw [if_neg q] at k2; exact k2)
    | le =>
      obtain ⟨x, rfl, rfl, rfl, rfl, rfl⟩ := zbr1_inv h
      exact lv_if_le hx hb hd ht (fun q => by have k2 := kk H locs ls hrel hl; rw [if_pos q] at k2; exact k2) (fun q => by have k2 := kk H locs ls hrel hl; rw [if_neg q] at k2; exact k2)
  | if_icmp cd off =>
    have hnx : nxt = pc + 3 := of_decide_eq_true hn
    subst hnx
    rw [Nat.add_sub_cancel_left] at hd
    have ht : (pc : Int) + off = (a : Int) := of_decide_eq_true hg
    cases cd with
    | eq =>
      obtain ⟨x, y, rfl, rfl, rfl, rfl, rfl⟩ := zbr2_inv h
      exact lv_icmp_eq hx hb hd ht (fun q => by have k2 := kk H locs ls hrel hl; rw [if_pos q] at k2; exact k2) (fun q => by have k2 := kk H locs ls hrel hl; rw [if_neg q] at k2; exact k2)
    | ne =>
      obtain ⟨x, y, rfl, rfl, rfl, rfl, rfl⟩ := zbr2_inv h
      exact lv_icmp_ne hx hb hd ht (fun q => by have k2 := kk H locs ls hrel hl; rw [if_pos q] at k2; exact k2) (fun q => by have k2 := kk H locs ls hrel hl; rw [if_neg (fun z => z q)] at k2; exact k2)
    | lt =>
      obtain ⟨x, y, rfl, rfl, rfl, rfl, rfl⟩ := zbr2_inv h
      exact lv_icmp_lt hx hb hd ht (fun q => by have k2 := kk H locs ls hrel hl; rw [if_pos q] at k2; exact k2) (fun q => by have k2 := kk H locs ls hrel hl; rw [if_neg q] at k2; exact k2)
    | ge =>
      obtain ⟨x, y, rfl, rfl, rfl, rfl, rfl⟩ := zbr2_inv h
      exact lv_icmp_ge hx hb hd ht (fun q => by have k2 := kk H locs ls hrel hl; rw [if_pos q] at k2; exact k2) (fun q => by have k2 := kk H locs ls hrel hl; rw [if_neg q] at k2; exact k2)
    | gt =>
      obtain ⟨x, y, rfl, rfl, rfl, rfl, rfl⟩ := zbr2_inv h
      exact lv_icmp_gt hx hb hd ht (fun q => by have k2 := kk H locs ls hrel hl; rw [if_pos q] at k2; exact k2) (fun q => by have k2 := kk H locs ls hrel hl; rw [if_neg q] at k2; exact k2)
    | le =>
      obtain ⟨x, y, rfl, rfl, rfl, rfl, rfl⟩ := zbr2_inv h
      exact lv_icmp_le hx hb hd ht (fun q => by have k2 := kk H locs ls hrel hl; rw [if_pos q] at k2; exact k2) (fun q => by have k2 := kk H locs ls hrel hl; rw [if_neg q] at k2; exact k2)
  | goto off =>
    have hnx : nxt = pc + 3 := of_decide_eq_true hn
    subst hnx
    rw [Nat.add_sub_cancel_left] at hd
    cases h
    exact lv_goto hx hb hd (of_decide_eq_true hg) (kk H locs ls hrel hl)
  | tableswitch dflt lo hi offs =>
    simp only [zstep] at h
    split at h
    · rename_i x r
      cases h
      obtain ⟨⟨p1, p2⟩, p3⟩ := hp
      by_cases hq : x.toInt < lo ∨ hi < x.toInt
      · have k2 := kk H locs ls hrel hl
        rw [if_pos hq] at k2
        exact lv_tableOut hx hb hd hq (Int.toNat_of_nonneg p1).symm k2
      · have k2 := kk H locs ls hrel hl
        rw [if_neg hq] at k2
        have h1 : ¬ x.toInt < lo := fun z => hq (Or.inl z)
        have h2 : ¬ hi < x.toInt := fun z => hq (Or.inr z)
        have h3 : (x.toInt - lo).toNat < offs.size := by omega
        have h4 : offs[(x.toInt - lo).toNat]? = some (offs.getD (x.toInt - lo).toNat 0) := by simp [Array.getD, h3]
        have h5 : 0 ≤ (pc : Int) + offs.getD (x.toInt - lo).toNat 0 := p2 _ (Array.mem_toList_iff.mpr (Array.mem_of_getElem? h4))
        exact lv_tableIn hx hb hd h1 h2 h4 (Int.toNat_of_nonneg h5).symm k2
    · cases h
  | lookupswitch dflt ps =>
    simp only [zstep] at h
    split at h
    · rename_i x r
      cases h
      exact lv_lookup hx hb hd hp.1 rfl (Int.toNat_of_nonneg hp.2).symm (kk H locs ls hrel hl)
    · cases h
  | getfield i =>
    have hnx : nxt = pc + 3 := of_decide_eq_true hn
    subst hnx
    rw [Nat.add_sub_cancel_left] at hd
    simp only [zstep] at h
    split at h
    · rename_i q r
      split at h
      · rename_i ci fs hw
        cases hc : Nat.beq ci a with
        | false => rw [hc] at h; cases h
        | true =>
          rw [hc] at h
          have e0 := Nat.eq_of_beq_eq_true hc
          subst e0
          dsimp only [cond] at h
          split at h
          · rename_i v hv
            cases h
            simp only [zgd] at hg
            split at hg
            · rename_i r0 hr0
              simp only [Bool.and_eq_true, decide_eq_true_eq] at hg
              exact va_get (D := (dC, dI)) (ci := ci) (v := zv ad v) hx hb hts (zin_ok hr0) hown hK hrel.2.2.1 q (zw_at hw) hr0 b hg.1 (hts _ hg.2) (fun _ h9 => h9) (by rw [List.getElem?_map, hv]; rfl) hd (kk H locs ls hrel hl)
            · cases hg
          · cases h
      · cases h
    · cases h
  | putfield i =>
    have hnx : nxt = pc + 3 := of_decide_eq_true hn
    subst hnx
    rw [Nat.add_sub_cancel_left] at hd
    simp only [zstep] at h
    split at h
    · rename_i v q r
      split at h
      · rename_i ci fs hw
        cases hc : (Nat.beq ci a && (Nat.blt b fs.length && zfit (zty a b) v)) with
        | false => rw [hc] at h; cases h
        | true =>
          rw [hc] at h
          dsimp only [cond] at h
          simp only [Bool.and_eq_true] at hc
          obtain ⟨c1, c2, c3⟩ := hc
          have e0 := Nat.eq_of_beq_eq_true c1
          subst e0
          have hbl : b < (fs.map (zv ad)).length := by rw [List.length_map]; exact Nat.le_of_ble_eq_true c2
          cases h
          simp only [zgd] at hg
          split at hg
          · rename_i r0 hr0
            simp only [Bool.and_eq_true, decide_eq_true_eq, Bool.or_eq_true, Bool.not_eq_true'] at hg
            obtain ⟨g1, g2, g3⟩ := hg
            obtain ⟨f1, f2⟩ := zfit_ok ad c3
            have hlt := zlt7 hr0
            have fin : ∀ (H1 : Heap) (locs1 : List Loc), va_P (dC, dI) vwCl ((zw dA ad w).set q (ad q, .inr (ci, (fs.map (zv ad)).set b (zv ad v)))) H1 → va_D A ((zw dA ad w).set q (ad q, .inr (ci, (fs.map (zv ad)).set b (zv ad v)))) → va_S A s.heap H1 locs1 → W p l0 e M.2.2.2.2.1 s m args below meth c H1 locs1 kc ks Z (F0 m (pc + 3) ls (st'.map (zv ad))) := by
              intro H1 locs1 hP1 hD1 hS1
              have ew : (zw dA ad w).set q (ad q, .inr (ci, (fs.map (zv ad)).set b (zv ad v))) = zw dA ad (w.set q (.inr (.inr (.inr (ci, fs.set b v))))) := by rw [← zw_set, ← List.map_set]; rfl
              rw [ew] at hP1 hD1
              exact kk H1 locs1 ls ⟨hrel.1, hrel.2.1, hP1, hD1, hS1⟩ hl
            cases hz : (r0.2.1 b).2.2.2 with
            | false => exact va_put (D := (dC, dI)) (ci := ci) (v := zv ad v) (ty := zty ci b) hx hb hts (zin_ok hr0) (zty ci) (zty_ok ci hlt r0 hr0) (znm_ok ci hlt r0 hr0) hown hK hrel.2.2.1 hrel.2.2.2.1 hrel.2.2.2.2 q (zw_at hw) hr0 b g1 (hts _ g2) (fun _ h9 => h9) hz (zty_ok ci hlt r0 hr0 b g1) f1 f2 hbl hd fin
            | true =>
              rcases g3 with g3 | g3
              · rw [hz] at g3; cases g3
              · exact va_putF (D := (dC, dI)) (ci := ci) (v := zv ad v) (ty := zty ci b) hx hb hts (zin_ok hr0) (zty ci) (zty_ok ci hlt r0 hr0) (znm_ok ci hlt r0 hr0) hown hK hrel.2.2.1 hrel.2.2.2.1 hrel.2.2.2.2 q (zw_at hw) hr0 b g1 (hts _ g2) (fun _ h9 => h9) hz (hin g3.1) g3.2 (zty_ok ci hlt r0 hr0 b g1) f1 f2 hbl hd fin
          · cases hg
      · cases h
    · cases h
  | iaload =>
    have hnx : nxt = pc + 1 := of_decide_eq_true hn
    subst hnx
    rw [Nat.add_sub_cancel_left] at hd
    simp only [zstep] at h
    split at h
    · rename_i i q r
      split at h
      · rename_i n f hw
        cases h
        exact va_iald hx hb hK hrel.2.2.1 q 0 (zw_at hw) rfl hp hd (kk H locs ls hrel hl)
      · cases h
    · cases h
  | baload =>
    have hnx : nxt = pc + 1 := of_decide_eq_true hn
    subst hnx
    rw [Nat.add_sub_cancel_left] at hd
    simp only [zstep] at h
    split at h
    · rename_i i q r
      split at h
      · rename_i n f hw
        cases h
        exact va_zald hx hb hK hrel.2.2.1 q 1 (zw_at hw) rfl hp hd (kk H locs ls hrel hl)
      · cases h
    · cases h
  | laload =>
    have hnx : nxt = pc + 1 := of_decide_eq_true hn
    subst hnx
    rw [Nat.add_sub_cancel_left] at hd
    simp only [zstep] at h
    split at h
    · rename_i i q r
      split at h
      · rename_i n f hw
        cases h
        exact va_lald hx hb hK hrel.2.2.1 q 2 (zw_at hw) rfl hp hd (kk H locs ls hrel hl)
      · cases h
    · cases h
  | iastore =>
    have hnx : nxt = pc + 1 := of_decide_eq_true hn
    subst hnx
    rw [Nat.add_sub_cancel_left] at hd
    simp only [zstep] at h
    split at h
    · rename_i x i q r
      split at h
      · rename_i n f hw
        cases h
        exact va_iast hx hb hK hrel.2.2.1 hrel.2.2.2.1 hrel.2.2.2.2 q 0 (zw_at hw) rfl hp hd (fun H1 locs1 hP1 hD1 hS1 => kk H1 locs1 ls ⟨hrel.1, hrel.2.1, (zw_set dA ad w q _) ▸ hP1, (zw_set dA ad w q _) ▸ hD1, hS1⟩ hl)
      · cases h
    · cases h
  | bastore =>
    have hnx : nxt = pc + 1 := of_decide_eq_true hn
    subst hnx
    rw [Nat.add_sub_cancel_left] at hd
    simp only [zstep] at h
    split at h
    · rename_i x i q r
      split at h
      · rename_i n f hw
        cases h
        exact va_zast hx hb hK hrel.2.2.1 hrel.2.2.2.1 hrel.2.2.2.2 q 1 (zw_at hw) rfl hp hd (fun H1 locs1 hP1 hD1 hS1 => kk H1 locs1 ls ⟨hrel.1, hrel.2.1, (zw_set dA ad w q _) ▸ hP1, (zw_set dA ad w q _) ▸ hD1, hS1⟩ hl)
      · cases h
    · cases h
  | lastore =>
    have hnx : nxt = pc + 1 := of_decide_eq_true hn
    subst hnx
    rw [Nat.add_sub_cancel_left] at hd
    simp only [zstep] at h
    split at h
    · rename_i x i q r
      split at h
      · rename_i n f hw
        cases h
        exact va_last hx hb hK hrel.2.2.1 hrel.2.2.2.1 hrel.2.2.2.2 q 2 (zw_at hw) rfl hp hd (fun H1 locs1 hP1 hD1 hS1 => kk H1 locs1 ls ⟨hrel.1, hrel.2.1, (zw_set dA ad w q _) ▸ hP1, (zw_set dA ad w q _) ▸ hD1, hS1⟩ hl)
      · cases h
    · cases h
  | arraylength =>
    have hnx : nxt = pc + 1 := of_decide_eq_true hn
    subst hnx
    rw [Nat.add_sub_cancel_left] at hd
    simp only [zstep] at h
    split at h
    · rename_i q r
      split at h
      · rename_i n f hw
        cases h
        exact va_alen hx hb hK hrel.2.2.1 q 0 (zw_at hw) rfl rfl hd (kk H locs ls hrel hl)
      · cases h
    · cases h
  | _ => cases h
theorem zv_step {tb : List zE} (ok : ∀ e ∈ tb, zgood M.1 M.2.1 M.2.2.1 M.2.2.2.1 e = true) (hl : zlook tb pc = some (ins, nxt, a, b, c0)) (h : zstep ins pc nxt a b c0 l st w = some (P, pc', l', st', w')) (hp : P) (k : zV M al n0 kc ks pc' l' st' w' Q) : zV M al n0 kc ks pc l st w Q := by
  have h1 := ok _ (zlook_mem hl)
  simp only [zgood, Bool.and_eq_true, decide_eq_true_eq] at h1
  exact zv_st h1.1.1 h1.1.2 h1.2 h hp k
/-- n steps -/
def zrun (tb : List zE) : Nat → Nat → zL → List Value → zW → Option zN
  | 0, pc, l, st, w => some (True, pc, l, st, w)
  | n + 1, pc, l, st, w => match zlook tb pc with
    | some (ins, nxt, a, b, c) => match zstep ins pc nxt a b c l st w with
      | some (P, pc1, l1, st1, w1) => match zrun tb n pc1 l1 st1 w1 with
        | some (P2, r) => some (P ∧ P2, r)
        | none => none
      | none => none
    | none => none
theorem zv_run {tb : List zE} (ok : ∀ e ∈ tb, zgood M.1 M.2.1 M.2.2.1 M.2.2.2.1 e = true) : ∀ (n : Nat) {pc pc' : Nat} {l l' : zL} {st st' : List Value} {w w' : zW} {P : Prop} (h : zrun tb n pc l st w = some (P, pc', l', st', w')) (hp : P) (k : zV M al n0 kc ks pc' l' st' w' Q), zV M al n0 kc ks pc l st w Q := by
  intro n
  induction n with
  | zero => intro pc pc' l l' st st' w w' P h hp k; cases h; exact k
  | succ n ih =>
    intro pc pc' l l' st st' w w' P h hp k
    simp only [zrun] at h
    split at h
    · rename_i ins nxt a b c hlk
      split at h
      · rename_i P1 pc1 l1 st1 w1 hst
        split at h
        · rename_i P2 r hr
          cases h
          exact zv_step ok hlk hst hp.1 (ih hr hp.2 k)
        · cases h
      · cases h
    · cases h
end ZS
end
section
/-! the methods by their numbers: name, bytes, locals, answer, makes cells?, cells and slots that it may make -/
abbrev zMt : Type := MethodName × ByteArray × Nat × Option FieldType × Bool × Nat × Nat
abbrev zX0_init : zMt := (yX0_init, cX0_init, 1, none, true, 30, 700)
abbrev zX0_add : zMt := (yX0_add, cX0_add, 2, none, false, 0, 0)
abbrev zX0_tally : zMt := (yX0_tally, cX0_tally, 6, (some .long), false, 0, 0)
abbrev zX0_waysOf : zMt := (yX0_waysOf, cX0_waysOf, 6, (some .long), false, 0, 0)
abbrev zX0_isBracketed : zMt := (yX0_isBracketed, cX0_isBracketed, 3, (some .boolean), false, 0, 0)
abbrev zX0_bareWays : zMt := (yX0_bareWays, cX0_bareWays, 8, (some .long), false, 0, 0)
abbrev zX0_kindByEnds : zMt := (yX0_kindByEnds, cX0_kindByEnds, 5, (some .int), false, 0, 0)
abbrev zX0_partFrom : zMt := (yX0_partFrom, cX0_partFrom, 2, (some .int), false, 0, 0)
abbrev zX0_partTo : zMt := (yX0_partTo, cX0_partTo, 2, (some .int), false, 0, 0)
abbrev zX0_numberIn : zMt := (yX0_numberIn, cX0_numberIn, 6, (some .int), false, 0, 0)
abbrev zX0_build : zMt := (yX0_build, cX0_build, 4, (some .int), false, 0, 0)
abbrev zX0_buildSpan : zMt := (yX0_buildSpan, cX0_buildSpan, 14, (some .int), false, 0, 0)
abbrev zX0_buildBare : zMt := (yX0_buildBare, cX0_buildBare, 8, (some .int), false, 0, 0)
abbrev zX0_buildPair : zMt := (yX0_buildPair, cX0_buildPair, 16, (some .int), false, 0, 0)
abbrev zX0_placeOf : zMt := (yX0_placeOf, cX0_placeOf, 3, (some .long), false, 0, 0)
abbrev zX0_placeIn : zMt := (yX0_placeIn, cX0_placeIn, 10, (some .long), false, 0, 0)
abbrev zX0_placeBare : zMt := (yX0_placeBare, cX0_placeBare, 6, (some .long), false, 0, 0)
abbrev zX0_placePair : zMt := (yX0_placePair, cX0_placePair, 15, (some .long), false, 0, 0)
abbrev zX1_isPair : zMt := (yX1_isPair, cX1_isPair, 1, (some .boolean), false, 0, 0)
abbrev zX1_isPrefix : zMt := (yX1_isPrefix, cX1_isPrefix, 1, (some .boolean), false, 0, 0)
abbrev zX1_hasBit : zMt := (yX1_hasBit, cX1_hasBit, 2, (some .boolean), false, 0, 0)
abbrev zX1_withBit : zMt := (yX1_withBit, cX1_withBit, 3, (some .int), false, 0, 0)
abbrev zX1_isDoubtful : zMt := (yX1_isDoubtful, cX1_isDoubtful, 3, (some .boolean), false, 0, 0)
abbrev zX2_init : zMt := (yX2_init, cX2_init, 1, none, true, 20, 3000)
abbrev zX2_has : zMt := (yX2_has, cX2_has, 2, (some .boolean), false, 0, 0)
abbrev zX2_isFull : zMt := (yX2_isFull, cX2_isFull, 1, (some .boolean), false, 0, 0)
abbrev zX2_sizeOf : zMt := (yX2_sizeOf, cX2_sizeOf, 2, (some .int), false, 0, 0)
abbrev zX2_partOf : zMt := (yX2_partOf, cX2_partOf, 3, (some .int), false, 0, 0)
abbrev zX2_put : zMt := (yX2_put, cX2_put, 6, (some .int), false, 0, 0)
abbrev zX2_addPart : zMt := (yX2_addPart, cX2_addPart, 3, none, false, 0, 0)
abbrev zX2_ownWords : zMt := (yX2_ownWords, cX2_ownWords, 2, (some .int), false, 0, 0)
abbrev zX2_firstAlike : zMt := (yX2_firstAlike, cX2_firstAlike, 3, (some .int), false, 0, 0)
abbrev zX2_shapeOf : zMt := (yX2_shapeOf, cX2_shapeOf, 2, (some .int), false, 0, 0)
abbrev zX2_isSameTop : zMt := (yX2_isSameTop, cX2_isSameTop, 3, (some .boolean), false, 0, 0)
abbrev zX2_isAlike : zMt := (yX2_isAlike, cX2_isAlike, 3, (some .boolean), false, 0, 0)
abbrev zX2_isRight : zMt := (yX2_isRight, cX2_isRight, 3, (some .boolean), false, 0, 0)
abbrev zX2_timesWithin : zMt := (yX2_timesWithin, cX2_timesWithin, 4, (some .int), false, 0, 0)
abbrev zX2_tallyOf : zMt := (yX2_tallyOf, cX2_tallyOf, 2, (some .int), false, 0, 0)
abbrev zX2_firstUnlike : zMt := (yX2_firstUnlike, cX2_firstUnlike, 9, (some .int), false, 0, 0)
abbrev zX2_differenceOf : zMt := (yX2_differenceOf, cX2_differenceOf, 3, (some .int), false, 0, 0)
abbrev zX2_exchangesOf : zMt := (yX2_exchangesOf, cX2_exchangesOf, 3, (some .int), false, 0, 0)
abbrev zX2_layKinds : zMt := (yX2_layKinds, cX2_layKinds, 3, none, false, 0, 0)
abbrev zX2_difference : zMt := (yX2_difference, cX2_difference, 4, (some .int), false, 0, 0)
abbrev zX2_exchanges : zMt := (yX2_exchanges, cX2_exchanges, 4, (some .int), false, 0, 0)
abbrev zX2_layKindsFrom : zMt := (yX2_layKindsFrom, cX2_layKindsFrom, 6, (some .int), false, 0, 0)
abbrev zX3_init : zMt := (yX3_init, cX3_init, 1, none, true, 2, 100)
abbrev zX3_drop : zMt := (yX3_drop, cX3_drop, 1, none, false, 0, 0)
abbrev zX3_holdNode : zMt := (yX3_holdNode, cX3_holdNode, 4, none, false, 0, 0)
abbrev zX3_holdNoughts : zMt := (yX3_holdNoughts, cX3_holdNoughts, 4, none, false, 0, 0)
abbrev zX3_holdRow : zMt := (yX3_holdRow, cX3_holdRow, 5, none, false, 0, 0)
abbrev zX3_hasRow : zMt := (yX3_hasRow, cX3_hasRow, 1, (some .boolean), false, 0, 0)
abbrev zX3_hasSpan : zMt := (yX3_hasSpan, cX3_hasSpan, 3, (some .boolean), false, 0, 0)
abbrev zX3_weighNode : zMt := (yX3_weighNode, cX3_weighNode, 2, (some .int), false, 0, 0)
abbrev zX4_init : zMt := (yX4_init, cX4_init, 1, none, true, 2, 200)
abbrev zX4_isTooLong : zMt := (yX4_isTooLong, cX4_isTooLong, 1, (some .boolean), false, 0, 0)
abbrev zX4_sayInStyle : zMt := (yX4_sayInStyle, cX4_sayInStyle, 5, none, false, 0, 0)
abbrev zX4_saySparingly : zMt := (yX4_saySparingly, cX4_saySparingly, 3, none, false, 0, 0)
abbrev zX4_isSameAs : zMt := (yX4_isSameAs, cX4_isSameAs, 3, (some .boolean), false, 0, 0)
abbrev zX4_tell : zMt := (yX4_tell, cX4_tell, 5, none, false, 0, 0)
abbrev zX4_tellBare : zMt := (yX4_tellBare, cX4_tellBare, 8, none, false, 0, 0)
abbrev zX4_isPartKept : zMt := (yX4_isPartKept, cX4_isPartKept, 6, (some .boolean), false, 0, 0)
abbrev zX4_addDigits : zMt := (yX4_addDigits, cX4_addDigits, 4, none, false, 0, 0)
abbrev zX4_add : zMt := (yX4_add, cX4_add, 2, none, false, 0, 0)
abbrev zX5_init : zMt := (yX5_init, cX5_init, 1, none, true, 4, 200)
abbrev zX5_isBegun : zMt := (yX5_isBegun, cX5_isBegun, 1, (some .boolean), false, 0, 0)
abbrev zX5_top : zMt := (yX5_top, cX5_top, 1, (some .int), false, 0, 0)
abbrev zX5_here : zMt := (yX5_here, cX5_here, 1, (some .int), false, 0, 0)
abbrev zX5_beginAt : zMt := (yX5_beginAt, cX5_beginAt, 2, none, false, 0, 0)
abbrev zX5_stepDown : zMt := (yX5_stepDown, cX5_stepDown, 4, (some .boolean), false, 0, 0)
abbrev zX5_stepUp : zMt := (yX5_stepUp, cX5_stepUp, 1, (some .boolean), false, 0, 0)
abbrev zX5_stepBeside : zMt := (yX5_stepBeside, cX5_stepBeside, 4, (some .boolean), false, 0, 0)
abbrev zX5_asNumber : zMt := (yX5_asNumber, cX5_asNumber, 3, (some .int), false, 0, 0)
abbrev zX5_follow : zMt := (yX5_follow, cX5_follow, 5, (some .boolean), false, 0, 0)
abbrev zX5_leadsSomewhere : zMt := (yX5_leadsSomewhere, cX5_leadsSomewhere, 6, (some .boolean), false, 0, 0)
abbrev zX6_init : zMt := (yX6_init, cX6_init, 2, none, true, 200, 10000)
abbrev zX6_leaf : zMt := (yX6_leaf, cX6_leaf, 3, (some .int), false, 0, 0)
abbrev zX6_node : zMt := (yX6_node, cX6_node, 6, (some .int), false, 0, 0)
abbrev zX6_undo : zMt := (yX6_undo, cX6_undo, 1, (some .int), false, 0, 0)
abbrev zX6_means : zMt := (yX6_means, cX6_means, 4, (some .int), false, 0, 0)
abbrev zX6_look : zMt := (yX6_look, cX6_look, 3, (some .int), false, 0, 0)
abbrev zX6_alike : zMt := (yX6_alike, cX6_alike, 3, (some .int), false, 0, 0)
abbrev zX6_times : zMt := (yX6_times, cX6_times, 3, (some .int), false, 0, 0)
abbrev zX6_keeps : zMt := (yX6_keeps, cX6_keeps, 5, (some .int), false, 0, 0)
abbrev zX6_words : zMt := (yX6_words, cX6_words, 3, (some .int), false, 0, 0)
abbrev zX6_word : zMt := (yX6_word, cX6_word, 4, (some .int), false, 0, 0)
abbrev zX6_sound : zMt := (yX6_sound, cX6_sound, 4, (some .int), false, 0, 0)
abbrev zX6_clear : zMt := (yX6_clear, cX6_clear, 7, (some .int), false, 0, 0)
abbrev zX6_hear : zMt := (yX6_hear, cX6_hear, 4, (some .int), false, 0, 0)
abbrev zX6_listen : zMt := (yX6_listen, cX6_listen, 3, (some .int), false, 0, 0)
abbrev zX6_hush : zMt := (yX6_hush, cX6_hush, 2, (some .int), false, 0, 0)
abbrev zX6_ear : zMt := (yX6_ear, cX6_ear, 2, (some .int), false, 0, 0)
abbrev zX6_readings : zMt := (yX6_readings, cX6_readings, 2, (some .long), false, 0, 0)
abbrev zX6_write : zMt := (yX6_write, cX6_write, 4, (some .int), false, 0, 0)
abbrev zX6_place : zMt := (yX6_place, cX6_place, 5, (some .long), false, 0, 0)
abbrev zX6_doubt : zMt := (yX6_doubt, cX6_doubt, 10, (some .int), false, 0, 0)
abbrev zX6_fewest : zMt := (yX6_fewest, cX6_fewest, 2, (some .int), false, 0, 0)
abbrev zX6_walk : zMt := (yX6_walk, cX6_walk, 2, (some .int), false, 0, 0)
abbrev zX6_go : zMt := (yX6_go, cX6_go, 3, (some .int), false, 0, 0)
abbrev zX6_where : zMt := (yX6_where, cX6_where, 2, (some .int), false, 0, 0)
abbrev zX6_lead : zMt := (yX6_lead, cX6_lead, 2, (some .int), false, 0, 0)
abbrev zX6_glance : zMt := (yX6_glance, cX6_glance, 3, (some .int), false, 0, 0)
abbrev zX6_changed : zMt := (yX6_changed, cX6_changed, 3, (some .int), false, 0, 0)
abbrev zX6_exchanged : zMt := (yX6_exchanged, cX6_exchanged, 3, (some .int), false, 0, 0)
abbrev zX6_count : zMt := (yX6_count, cX6_count, 2, (some .int), false, 0, 0)
abbrev zX6_keep : zMt := (yX6_keep, cX6_keep, 4, (some .int), false, 0, 0)
abbrev zX6_make : zMt := (yX6_make, cX6_make, 4, (some .int), false, 0, 0)
abbrev zX6_element : zMt := (yX6_element, cX6_element, 4, (some .long), false, 0, 0)
abbrev zX6_copy : zMt := (yX6_copy, cX6_copy, 8, (some .int), false, 0, 0)
abbrev zX6_weight : zMt := (yX6_weight, cX6_weight, 3, (some .int), false, 0, 0)
abbrev zX6_toss : zMt := (yX6_toss, cX6_toss, 3, (some .int), false, 0, 0)
abbrev zX6_isLetter : zMt := (yX6_isLetter, cX6_isLetter, 1, (some .boolean), false, 0, 0)
abbrev zX6_isStyle : zMt := (yX6_isStyle, cX6_isStyle, 1, (some .boolean), false, 0, 0)
abbrev zX6_isStyleOrFree : zMt := (yX6_isStyleOrFree, cX6_isStyleOrFree, 1, (some .boolean), false, 0, 0)
abbrev zX6_isShelf : zMt := (yX6_isShelf, cX6_isShelf, 1, (some .boolean), false, 0, 0)
abbrev zX6_orMissing : zMt := (yX6_orMissing, cX6_orMissing, 1, (some .int), false, 0, 0)
abbrev zX6_digitOf : zMt := (yX6_digitOf, cX6_digitOf, 2, (some .int), false, 0, 0)
abbrev zX6_hearSpeech : zMt := (yX6_hearSpeech, cX6_hearSpeech, 2, (some .int), false, 0, 0)
abbrev zX6_tallyIn : zMt := (yX6_tallyIn, cX6_tallyIn, 4, (some .long), false, 0, 0)
abbrev zX6_keepNode : zMt := (yX6_keepNode, cX6_keepNode, 4, (some .int), false, 0, 0)
abbrev zX6_nodeRefusal : zMt := (yX6_nodeRefusal, cX6_nodeRefusal, 2, (some .int), false, 0, 0)
abbrev zX7_init : zMt := (yX7_init, cX7_init, 2, none, true, 100, 40000)
abbrev zX7_thrown : zMt := (yX7_thrown, cX7_thrown, 1, (some .int), false, 0, 0)
abbrev zX7_in : zMt := (yX7_in, cX7_in, 6, (some .boolean), false, 0, 0)
abbrev zX7_isNode : zMt := (yX7_isNode, cX7_isNode, 2, (some .boolean), false, 0, 0)
abbrev zX7_isTwo : zMt := (yX7_isTwo, cX7_isTwo, 1, (some .boolean), false, 0, 0)
abbrev zX7_mayKeep : zMt := (yX7_mayKeep, cX7_mayKeep, 1, (some .boolean), false, 0, 0)
abbrev zX7_isStyle : zMt := (yX7_isStyle, cX7_isStyle, 1, (some .boolean), false, 0, 0)
abbrev zX7_sets : zMt := (yX7_sets, cX7_sets, 8, none, false, 0, 0)
abbrev zX7_leaf : zMt := (yX7_leaf, cX7_leaf, 3, (some .int), false, 0, 0)
abbrev zX7_node : zMt := (yX7_node, cX7_node, 5, (some .int), false, 0, 0)
abbrev zX7_undo : zMt := (yX7_undo, cX7_undo, 1, (some .int), false, 0, 0)
abbrev zX7_means : zMt := (yX7_means, cX7_means, 4, (some .int), false, 0, 0)
abbrev zX7_isRight : zMt := (yX7_isRight, cX7_isRight, 3, (some .boolean), false, 0, 0)
abbrev zX7_look : zMt := (yX7_look, cX7_look, 3, (some .int), false, 0, 0)
abbrev zX7_areAlike : zMt := (yX7_areAlike, cX7_areAlike, 3, (some .boolean), false, 0, 0)
abbrev zX7_alike : zMt := (yX7_alike, cX7_alike, 3, (some .int), false, 0, 0)
abbrev zX7_has : zMt := (yX7_has, cX7_has, 3, (some .int), false, 0, 0)
abbrev zX7_times : zMt := (yX7_times, cX7_times, 3, (some .int), false, 0, 0)
abbrev zX7_keeps : zMt := (yX7_keeps, cX7_keeps, 5, (some .int), false, 0, 0)
abbrev zX7_digits : zMt := (yX7_digits, cX7_digits, 1, (some .int), false, 0, 0)
abbrev zX7_own : zMt := (yX7_own, cX7_own, 2, (some .int), false, 0, 0)
abbrev zX7_length : zMt := (yX7_length, cX7_length, 3, (some .int), false, 0, 0)
abbrev zX7_says : zMt := (yX7_says, cX7_says, 2, none, false, 0, 0)
abbrev zX7_keepsIt : zMt := (yX7_keepsIt, cX7_keepsIt, 3, (some .boolean), false, 0, 0)
abbrev zX7_say : zMt := (yX7_say, cX7_say, 6, none, false, 0, 0)
abbrev zX7_sayAll : zMt := (yX7_sayAll, cX7_sayAll, 3, none, false, 0, 0)
abbrev zX7_words : zMt := (yX7_words, cX7_words, 4, (some .int), false, 0, 0)
abbrev zX7_word : zMt := (yX7_word, cX7_word, 5, (some .int), false, 0, 0)
abbrev zX7_sound : zMt := (yX7_sound, cX7_sound, 8, (some .int), false, 0, 0)
abbrev zX7_adds : zMt := (yX7_adds, cX7_adds, 5, none, false, 0, 0)
abbrev zX7_grows : zMt := (yX7_grows, cX7_grows, 6, none, false, 0, 0)
abbrev zX7_isSame : zMt := (yX7_isSame, cX7_isSame, 5, (some .boolean), false, 0, 0)
abbrev zX7_clear : zMt := (yX7_clear, cX7_clear, 5, (some .int), false, 0, 0)
abbrev zX7_hear : zMt := (yX7_hear, cX7_hear, 4, (some .int), false, 0, 0)
abbrev zX7_listen : zMt := (yX7_listen, cX7_listen, 4, (some .int), false, 0, 0)
abbrev zX7_hears : zMt := (yX7_hears, cX7_hears, 2, none, false, 0, 0)
abbrev zX7_hush : zMt := (yX7_hush, cX7_hush, 2, (some .int), false, 0, 0)
abbrev zX7_ear : zMt := (yX7_ear, cX7_ear, 2, (some .int), false, 0, 0)
abbrev zX7_times_ : zMt := (yX7_times_, cX7_times_, 4, (some .long), false, 0, 0)
abbrev zX7_plus : zMt := (yX7_plus, cX7_plus, 4, (some .long), false, 0, 0)
abbrev zX7_isLet : zMt := (yX7_isLet, cX7_isLet, 3, (some .boolean), false, 0, 0)
abbrev zX7_isNumber : zMt := (yX7_isNumber, cX7_isNumber, 5, (some .boolean), false, 0, 0)
abbrev zX7_within : zMt := (yX7_within, cX7_within, 7, (some .long), false, 0, 0)
abbrev zX7_reckons : zMt := (yX7_reckons, cX7_reckons, 12, none, false, 0, 0)
abbrev zX7_counted : zMt := (yX7_counted, cX7_counted, 2, (some .long), false, 0, 0)
abbrev zX7_readings : zMt := (yX7_readings, cX7_readings, 2, (some .long), false, 0, 0)
abbrev zX7_makes : zMt := (yX7_makes, cX7_makes, 5, (some .int), false, 0, 0)
abbrev zX7_takes : zMt := (yX7_takes, cX7_takes, 12, (some .int), false, 0, 0)
abbrev zX7_takesTwo : zMt := (yX7_takesTwo, cX7_takesTwo, 12, (some .int), false, 0, 0)
abbrev zX7_write : zMt := (yX7_write, cX7_write, 5, (some .int), false, 0, 0)
abbrev zX7_copies : zMt := (yX7_copies, cX7_copies, 4, (some .int), false, 0, 0)
abbrev zX7_rank : zMt := (yX7_rank, cX7_rank, 8, (some .long), false, 0, 0)
abbrev zX7_inner : zMt := (yX7_inner, cX7_inner, 6, (some .long), false, 0, 0)
abbrev zX7_innerTwo : zMt := (yX7_innerTwo, cX7_innerTwo, 13, (some .long), false, 0, 0)
abbrev zX7_place : zMt := (yX7_place, cX7_place, 5, (some .long), false, 0, 0)
abbrev zX7_doubt : zMt := (yX7_doubt, cX7_doubt, 11, (some .int), false, 0, 0)
abbrev zX7_keepable : zMt := (yX7_keepable, cX7_keepable, 2, (some .int), false, 0, 0)
abbrev zX7_bits : zMt := (yX7_bits, cX7_bits, 3, (some .int), false, 0, 0)
abbrev zX7_fewest : zMt := (yX7_fewest, cX7_fewest, 6, (some .int), false, 0, 0)
abbrev zX7_isOnly : zMt := (yX7_isOnly, cX7_isOnly, 4, (some .boolean), false, 0, 0)
abbrev zX7_walk : zMt := (yX7_walk, cX7_walk, 2, (some .int), false, 0, 0)
abbrev zX7_down : zMt := (yX7_down, cX7_down, 3, (some .boolean), false, 0, 0)
abbrev zX7_go : zMt := (yX7_go, cX7_go, 3, (some .int), false, 0, 0)
abbrev zX7_where : zMt := (yX7_where, cX7_where, 4, (some .int), false, 0, 0)
abbrev zX7_lead : zMt := (yX7_lead, cX7_lead, 6, (some .int), false, 0, 0)
abbrev zX7_glanced : zMt := (yX7_glanced, cX7_glanced, 4, (some .int), false, 0, 0)
abbrev zX7_glance : zMt := (yX7_glance, cX7_glance, 4, (some .int), false, 0, 0)
abbrev zX7_inside : zMt := (yX7_inside, cX7_inside, 4, (some .int), false, 0, 0)
abbrev zX7_difference : zMt := (yX7_difference, cX7_difference, 5, (some .int), false, 0, 0)
abbrev zX7_wholes : zMt := (yX7_wholes, cX7_wholes, 3, (some .int), false, 0, 0)
abbrev zX7_changed : zMt := (yX7_changed, cX7_changed, 3, (some .int), false, 0, 0)
abbrev zX7_exchanged : zMt := (yX7_exchanged, cX7_exchanged, 3, (some .int), false, 0, 0)
abbrev zX7_functions : zMt := (yX7_functions, cX7_functions, 3, (some .int), false, 0, 0)
abbrev zX7_count : zMt := (yX7_count, cX7_count, 2, (some .int), false, 0, 0)
abbrev zX7_isShelf : zMt := (yX7_isShelf, cX7_isShelf, 1, (some .boolean), false, 0, 0)
abbrev zX7_kinds : zMt := (yX7_kinds, cX7_kinds, 3, none, false, 0, 0)
abbrev zX7_keep : zMt := (yX7_keep, cX7_keep, 6, (some .int), false, 0, 0)
abbrev zX7_make : zMt := (yX7_make, cX7_make, 5, (some .int), false, 0, 0)
abbrev zX7_element : zMt := (yX7_element, cX7_element, 3, (some .long), false, 0, 0)
abbrev zX7_copy : zMt := (yX7_copy, cX7_copy, 7, (some .int), false, 0, 0)
abbrev zX7_held : zMt := (yX7_held, cX7_held, 2, (some .int), false, 0, 0)
abbrev zX7_weight : zMt := (yX7_weight, cX7_weight, 4, (some .int), false, 0, 0)
abbrev zX7_toss : zMt := (yX7_toss, cX7_toss, 3, (some .int), false, 0, 0)
abbrev zJ6_bitCount_0f7a4 : zMt := (yJ6_bitCount_0f7a4, cJ6_bitCount_0f7a4, 1, (some .int), false, 0, 0)
abbrev zJ9_max_7cf53 : zMt := (yJ9_max_7cf53, cJ9_max_7cf53, 2, (some .int), false, 0, 0)
abbrev zJ9_min_7cf53 : zMt := (yJ9_min_7cf53, cJ9_min_7cf53, 2, (some .int), false, 0, 0)
abbrev zJ9_min_f86c9 : zMt := (yJ9_min_f86c9, cJ9_min_f86c9, 4, (some .long), false, 0, 0)
def zms : List zMt := [zX0_init, zX0_add, zX0_tally, zX0_waysOf, zX0_isBracketed, zX0_bareWays, zX0_kindByEnds, zX0_partFrom, zX0_partTo, zX0_numberIn, zX0_build, zX0_buildSpan, zX0_buildBare, zX0_buildPair, zX0_placeOf, zX0_placeIn, zX0_placeBare, zX0_placePair, zX1_isPair, zX1_isPrefix, zX1_hasBit, zX1_withBit, zX1_isDoubtful, zX2_init, zX2_has, zX2_isFull, zX2_sizeOf, zX2_partOf, zX2_put, zX2_addPart, zX2_ownWords, zX2_firstAlike, zX2_shapeOf, zX2_isSameTop, zX2_isAlike, zX2_isRight, zX2_timesWithin, zX2_tallyOf, zX2_firstUnlike, zX2_differenceOf, zX2_exchangesOf, zX2_layKinds, zX2_difference, zX2_exchanges, zX2_layKindsFrom, zX3_init, zX3_drop, zX3_holdNode, zX3_holdNoughts, zX3_holdRow, zX3_hasRow, zX3_hasSpan, zX3_weighNode, zX4_init, zX4_isTooLong, zX4_sayInStyle, zX4_saySparingly, zX4_isSameAs, zX4_tell, zX4_tellBare, zX4_isPartKept, zX4_addDigits, zX4_add, zX5_init, zX5_isBegun, zX5_top, zX5_here, zX5_beginAt, zX5_stepDown, zX5_stepUp, zX5_stepBeside, zX5_asNumber, zX5_follow, zX5_leadsSomewhere, zX6_init, zX6_leaf, zX6_node, zX6_undo, zX6_means, zX6_look, zX6_alike, zX6_times, zX6_keeps, zX6_words, zX6_word, zX6_sound, zX6_clear, zX6_hear, zX6_listen, zX6_hush, zX6_ear, zX6_readings, zX6_write, zX6_place, zX6_doubt, zX6_fewest, zX6_walk, zX6_go, zX6_where, zX6_lead, zX6_glance, zX6_changed, zX6_exchanged, zX6_count, zX6_keep, zX6_make, zX6_element, zX6_copy, zX6_weight, zX6_toss, zX6_isLetter, zX6_isStyle, zX6_isStyleOrFree, zX6_isShelf, zX6_orMissing, zX6_digitOf, zX6_hearSpeech, zX6_tallyIn, zX6_keepNode, zX6_nodeRefusal, zX7_init, zX7_thrown, zX7_in, zX7_isNode, zX7_isTwo, zX7_mayKeep, zX7_isStyle, zX7_sets, zX7_leaf, zX7_node, zX7_undo, zX7_means, zX7_isRight, zX7_look, zX7_areAlike, zX7_alike, zX7_has, zX7_times, zX7_keeps, zX7_digits, zX7_own, zX7_length, zX7_says, zX7_keepsIt, zX7_say, zX7_sayAll, zX7_words, zX7_word, zX7_sound, zX7_adds, zX7_grows, zX7_isSame, zX7_clear, zX7_hear, zX7_listen, zX7_hears, zX7_hush, zX7_ear, zX7_times_, zX7_plus, zX7_isLet, zX7_isNumber, zX7_within, zX7_reckons, zX7_counted, zX7_readings, zX7_makes, zX7_takes, zX7_takesTwo, zX7_write, zX7_copies, zX7_rank, zX7_inner, zX7_innerTwo, zX7_place, zX7_doubt, zX7_keepable, zX7_bits, zX7_fewest, zX7_isOnly, zX7_walk, zX7_down, zX7_go, zX7_where, zX7_lead, zX7_glanced, zX7_glance, zX7_inside, zX7_difference, zX7_wholes, zX7_changed, zX7_exchanged, zX7_functions, zX7_count, zX7_isShelf, zX7_kinds, zX7_keep, zX7_make, zX7_element, zX7_copy, zX7_held, zX7_weight, zX7_toss, zJ6_bitCount_0f7a4, zJ9_max_7cf53, zJ9_min_7cf53, zJ9_min_f86c9]
end
section
theorem zapp {a b : List zE} {f : zE → Bool} (h1 : ∀ e ∈ a, f e = true) (h2 : ∀ e ∈ b, f e = true) : ∀ e ∈ a ++ b, f e = true := List.forall_mem_append.mpr ⟨h1, h2⟩
def zrm (d : Nat) (z : zMt) : Room := { frames := d, cells := z.2.2.2.2.2.1, slots := z.2.2.2.2.2.2, locals := 64 * d }
def zws (z : zMt) : List Cond := Cond.code z.1 z.2.1 z.2.2.1 z.2.2.2.1 :: zG
abbrev zMo (d : Nat) (z : zMt) : zM := (z.1.cls, z.2.1, z.2.2.1, z.1.name == "<init>", zrm d z, z.2.2.2.1)
def zQc (dC : Nat → ClassId) (dI : Nat → Nat → Nat) (dA : Nat → ClassId) (ad : Nat → Nat) (A : Nat → Prop) (n0 : Nat) (al : Bool) (Q : Option Value → zW → Prop) : Array Value → State → Outcome → State → Prop := fun _ st oc t =>
  (∃ (r : Option Value) (w' : zW) (ad' : Nat → Nat), oc = .returned (r.map (zv ad')) ∧ Q r w' ∧ (al = false → ad' = ad) ∧ (∀ k, (k < n0 ∨ zsent ≤ k) → ad' k = ad k) ∧ va_P (dC, dI) vwCl (zw dA ad' w') t.heap ∧ va_K (dC, dI) vwCl (ztys dA) t ∧ va_D A (zw dA ad' w')) ∧ va_F A st t
def zPc (dC : Nat → ClassId) (dI : Nat → Nat → Nat) (dA : Nat → ClassId) (ad : Nat → Nat) (as : List Value) (w : zW) (sz : Nat) : Array Value → State → Prop := va_Pc (as.map (zv ad)) (fun U => U.heap.size = sz ∧ va_P (dC, dI) vwCl (zw dA ad w) U.heap ∧ va_K (dC, dI) vwCl (ztys dA) U ∧ va_D (fun _ => True) (zw dA ad w))
/-- a method's contract: called with these arguments in this world, with room for d frames, it returns, and Q takes answer and world -/
def zK (d : Nat) (z : zMt) (as : List Value) (w : zW) (Q : Option Value → zW → Prop) : Prop :=
  ∀ (l0 : Launch) (dC : Nat → ClassId) (dI : Nat → Nat → Nat) (dA : Nat → ClassId) (ad : Nat → Nat) (sz : Nat), Met l0 z.1 (zws z) (zrm d z) (zPc dC dI dA ad as w sz) (zQc dC dI dA ad (va_A (zw dA ad w) sz) w.length z.2.2.2.2.1 Q) z.2.2.2.2.2.1 z.2.2.2.2.2.2 (va_A (zw dA ad w) sz)
theorem zargs (ad : Nat → Nat) : ∀ (as : List Value) (i : Nat), lv_args i (as.map (zv ad)) = zl ad (lv_args i as)
  | [], _ => rfl
  | v :: vs, i => by
    simp only [List.map_cons, lv_args, zv_cat]
    rw [zargs ad vs]
    rfl
theorem zsl (ad : Nat → Nat) : ∀ as : List Value, (lg_sl (as.map (zv ad))).length = (lg_sl as).length
  | [] => rfl
  | v :: vs => by
    have ih := zsl ad vs
    unfold lg_sl at ih ⊢
    simp only [List.map_cons, List.flatMap_cons, List.length_append, zv_cat]
    rw [ih]
    split <;> rfl
set_option maxHeartbeats 1000000 in
theorem zK_of {d : Nat} {z : zMt} {as : List Value} {w : zW} {Q : Option Value → zW → Prop} (hy : plainName z.1.cls = true) (hn : Nat.ble (lg_sl as).length z.2.2.1 = true) (h : zV (zMo d z) z.2.2.2.2.1 w.length 0 0 0 (lv_args 0 as) [] w Q) : zK d z as w Q := by
  intro l0 dC dI dA ad sz
  refine Met.ofW (cc := z.2.1) (maxL := z.2.2.1) (ret := z.2.2.2.1) hy rfl ?_
  intro p e s m args below meth c s₁ B hml hv
  obtain ⟨rfl, hsz, hP, hK, hD0⟩ := hv
  have hts := atoms_spec (ws := zws z) B.pre
  have hown : s.vm.findClass z.1.cls = some m.cls := findClass_of_methodNamed B.named
  subst hsz
  have hD := hD0.self (sz := s.heap.size)
  have hA : ∀ q : Nat, s.heap.size ≤ q → va_A (zw dA ad w) s.heap.size q := fun q h => Or.inr h
  have hl := lv_entry (as.map (zv ad)) (n := z.2.2.1) (by rw [zsl]; exact Nat.le_of_ble_eq_true hn)
  rw [lg_entry_eq]
  generalize (lg_sl (as.map (zv ad)) ++ List.replicate (z.2.2.1 - (lg_sl (as.map (zv ad))).length) Slot.unset).toArray = ls at hl ⊢
  rw [zargs] at hl
  have hlk : meth.locks = false := B.notSynchronized
  have hr := B.returns
  refine h p l0 e s m (as.map (zv ad)).toArray below meth c dC dI dA ad (va_A (zw dA ad w) s.heap.size) (MQ below (zQc dC dI dA ad (va_A (zw dA ad w) s.heap.size) w.length z.2.2.2.2.1 Q) (as.map (zv ad)).toArray s z.2.2.2.2.2.1 z.2.2.2.2.2.2 (va_A (zw dA ad w) s.heap.size)) ⟨B.exec, B.bytes, hml, hown, fun x hx => hts x (List.mem_cons_of_mem _ hx), hK, hA, fun hi => ?_⟩ ?_ ad s.heap [] ls ⟨fun _ => rfl, fun _ _ => rfl, hP, hD, va_S.rf⟩ hl
  · have h1 := (name_of_methodNamed B.named B.method).1
    have h2 : z.1.name = "<init>" := by simpa using hi
    rw [h1, h2]
  · intro ad' H locs kc ks pc ls' v w' hrel hq hkc hks hrt
    refine W.widen (k := z.2.2.2.2.2.1) (n := z.2.2.2.2.2.2) hkc hks ?_
    have fin : ∀ t : State, t.heap = H → s.WarmedH t.vm → zQc dC dI dA ad (va_A (zw dA ad w) s.heap.size) w.length z.2.2.2.2.1 Q (as.map (zv ad)).toArray s (.returned (v.map (zv ad'))) t := fun t ht hW =>
      ⟨⟨v, w', ad', rfl, hq, hrel.1, hrel.2.1, by rw [ht]; exact hrel.2.2.1, va_K.moved hW.alike hK, hrel.2.2.2.1⟩, hrel.2.2.2.2.F ht⟩
    match v, hrt, fin with
    | none, hrt, fin => exact W.vret B.exec B.bytes (hr.trans hrt.1) fin hrel.2.2.2.2.2.2 hrt.2 hlk
    | some (.int x), hrt, fin =>
      rcases hrt with ⟨h1 | ⟨h1, h2⟩, h3⟩
      · exact W.iret B.exec B.bytes (hr.trans h1) fin hrel.2.2.2.2.2.2 h3 hlk
      · exact W.zret (ty := .boolean) B.exec B.bytes (hr.trans h1) (by rcases h2 with rfl | rfl <;> decide +kernel) fin hrel.2.2.2.2.2.2 h3 hlk
    | some (.long x), hrt, fin => exact W.lret B.exec B.bytes (hr.trans hrt.1) fin hrel.2.2.2.2.2.2 hrt.2 hlk
section ZC
variable {M : zM} {al : Bool} {n0 kc ks pc nxt a b : Nat} {c0 : Int} {l : zL} {st : List Value} {w : zW} {Q : Option Value → zW → Prop} {tb : List zE}
theorem zv_iret (ok : ∀ e ∈ tb, zgood M.1 M.2.1 M.2.2.1 M.2.2.2.1 e = true) {x : Int32} (hl : zlook tb pc = some (.ireturn, pc + 1, a, b, c0)) (hr : (M.2.2.2.2.2 = some .int) ∨ (M.2.2.2.2.2 = some .boolean ∧ (x = 0 ∨ x = 1))) (hk : kc ≤ M.2.2.2.2.1.cells) (hs : ks ≤ M.2.2.2.2.1.slots) (hq : Q (some (.int x)) w) : zV M al n0 kc ks pc l [.int x] w Q := by
  intro p l0 e s m args below meth c dC dI dA ad0 A Z hctx hfin ad H locs ls hrel hlv
  have h1 := ok _ (zlook_mem hl)
  simp only [zgood, Bool.and_eq_true, decide_eq_true_eq, Nat.add_sub_cancel_left] at h1
  exact hfin ad H locs kc ks pc ls (some (.int x)) w hrel hq hk hs ⟨hr, h1.1.1⟩
theorem zv_lret (ok : ∀ e ∈ tb, zgood M.1 M.2.1 M.2.2.1 M.2.2.2.1 e = true) {x : Int64} (hl : zlook tb pc = some (.lreturn, pc + 1, a, b, c0)) (hr : M.2.2.2.2.2 = some .long) (hk : kc ≤ M.2.2.2.2.1.cells) (hs : ks ≤ M.2.2.2.2.1.slots) (hq : Q (some (.long x)) w) : zV M al n0 kc ks pc l [.long x] w Q := by
  intro p l0 e s m args below meth c dC dI dA ad0 A Z hctx hfin ad H locs ls hrel hlv
  have h1 := ok _ (zlook_mem hl)
  simp only [zgood, Bool.and_eq_true, decide_eq_true_eq, Nat.add_sub_cancel_left] at h1
  exact hfin ad H locs kc ks pc ls (some (.long x)) w hrel hq hk hs ⟨hr, h1.1.1⟩
theorem zv_ret (ok : ∀ e ∈ tb, zgood M.1 M.2.1 M.2.2.1 M.2.2.2.1 e = true) (hl : zlook tb pc = some (.return_, pc + 1, a, b, c0)) (hr : M.2.2.2.2.2 = none) (hk : kc ≤ M.2.2.2.2.1.cells) (hs : ks ≤ M.2.2.2.2.1.slots) (hq : Q none w) : zV M al n0 kc ks pc l [] w Q := by
  intro p l0 e s m args below meth c dC dI dA ad0 A Z hctx hfin ad H locs ls hrel hlv
  have h1 := ok _ (zlook_mem hl)
  simp only [zgood, Bool.and_eq_true, decide_eq_true_eq, Nat.add_sub_cancel_left] at h1
  exact hfin ad H locs kc ks pc ls none w hrel hq hk hs ⟨hr, h1.1.1⟩
theorem zv_mono {Q' : Option Value → zW → Prop} (h : zV M al n0 kc ks pc l st w Q) (hq : ∀ r w', Q r w' → Q' r w') : zV M al n0 kc ks pc l st w Q' := by
  intro p l0 e s m args below meth c dC dI dA ad0 A Z hctx hfin
  exact h p l0 e s m args below meth c dC dI dA ad0 A Z hctx (fun ad H locs kc ks pc ls v w h1 h2 => hfin ad H locs kc ks pc ls v w h1 (hq v w h2))
end ZC
section ZA
variable {p : Program} {l0 : Launch} {e : Env} {R : Room} {s : State} {m : MethodId} {args : Array Value} {below : List Frame} {meth : Method} {c : Code} {H H0 : Heap} {locs : List Loc} {cells slots mc ms pc n : Nat} {Z : State → Prop} {ls : Array Slot} {st0 rest : List Value} {dC : Nat → ClassId} {dI : Nat → Nat → Nat} {dA : Nat → ClassId} {ad : Nat → Nat} {A : Nat → Prop} {w : zW} {al : Bool} {Qc : Option Value → zW → Prop} {a : Array Value}
theorem zafter (hr : va_Run p l0 e R s m args below meth c H locs cells slots mc ms (F0 m pc ls st0) rest (zQc dC dI dA ad (va_A (zw dA ad w) H.size) n al Qc a) (va_A (zw dA ad w) H.size)) (hD : va_D A (zw dA ad w)) (hS : va_S A H0 H locs) (hA : ∀ q, H0.size ≤ q → A q)
    (kk : ∀ (r : Option Value) (w' : zW) (ad' : Nat → Nat) (H1 : Heap) (locs1 : List Loc), Qc r w' → (al = false → ad' = ad) → (∀ k, (k < n ∨ zsent ≤ k) → ad' k = ad k) → va_P (dC, dI) vwCl (zw dA ad' w') H1 → va_D A (zw dA ad' w') → va_S A H0 H1 locs1 → W p l0 e R s m args below meth c H1 locs1 (cells + mc) (slots + ms) Z (F0 m (pc + 3) ls ((r.map (zv ad')).toList ++ rest))) : W p l0 e R s m args below meth c H locs cells slots Z (F0 m pc ls st0) := by
  have hF : ∀ q, va_A (zw dA ad w) H.size q → A q := fun q h => by
    rcases h with ⟨k, x, h⟩ | h
    · exact hD.2 k _ h
    · exact hA q (Nat.le_trans hS.1 h)
  intro T hT X
  obtain ⟨v, st₀, t, T', L, h0, X', hL, e1, e2, ⟨⟨r, w', ad', hv, hq, hal, had, hP, hK, hD'⟩, hz, hk⟩, st⟩ := hr T hT X
  cases hv
  rw [h0] at hz hk
  obtain ⟨t2, a1, b1⟩ := kk r w' ad' T'.heap (locs ++ L) hq hal had (by rw [e1]; exact hP) (hD'.weaken (fun _ _ _ h => hF _ h))
    ⟨Nat.le_trans hS.1 (by rw [e1]; exact hz), fun q h1 h2 => by rw [e1, hk q (Nat.lt_of_lt_of_le h1 hS.1) (fun z => h2 (hF q z))]; exact hS.2.1 q h1 h2, fun q hq => by
      rcases List.mem_append.mp hq with h | h
      · exact hS.2.2 q h
      · exact hF _ (hL q h)⟩ T' rfl X'
  exact ⟨t2, st t2 a1, b1⟩
end ZA
/-! links of calls -/
def zlk (own : String) (e : zE) : Bool := match e.2.1 with
  | .invokevirtual i => match zms[e.2.2.2.1]? with
    | some z => decide (Cond.methodLink own i z.1 ∈ zG) && (decide (Cond.instanceMethod z.1 ∈ zG) && (decide (Cond.selects z.1.cls z.1 z.1 ∈ zG) && (decide (Cond.initialized z.1.cls ∈ zG) && (decide (z.1.cls ≠ "java/lang/invoke/MethodHandle") && (decide (z.1.cls ≠ "java/lang/invoke/VarHandle") && decide ((parseMethodDescriptor z.1.desc).map (fun d => d.parameters.length) = some e.2.2.2.2.1))))))
    | none => true
  | .invokestatic i => match zms[e.2.2.2.1]? with
    | some z => decide (Cond.methodLink own i z.1 ∈ zG) && (decide (Cond.static z.1 ∈ zG) && (decide (Cond.initialized z.1.cls ∈ zG) && (decide (z.1.cls ≠ "java/lang/invoke/MethodHandle") && (decide (z.1.cls ≠ "java/lang/invoke/VarHandle") && decide ((parseMethodDescriptor z.1.desc).map (fun d => d.parameters.length) = some e.2.2.2.2.1)))))
    | none => true
  | .invokespecial i => match zms[e.2.2.2.1]? with
    | some z => decide (Cond.methodLink own i z.1 ∈ zG) && (decide (Cond.instanceMethod z.1 ∈ zG) && (decide (z.1.name = "<init>") && (decide (Cond.initialized z.1.cls ∈ zG) && (decide (z.1.cls ≠ "java/lang/invoke/MethodHandle") && (decide (z.1.cls ≠ "java/lang/invoke/VarHandle") && (decide ((parseMethodDescriptor z.1.desc).map (fun d => d.parameters.length) = some e.2.2.2.2.1) && decide (z.2.2.2.1 = none)))))))
    | none => bif Nat.beq e.2.2.2.1 9999 then (decide (Cond.methodLink own i Lib.objectInit ∈ zG) && (decide (Cond.instanceMethod Lib.objectInit ∈ zG) && decide (Cond.code Lib.objectInit ⟨#[0xb1]⟩ 1 none ∈ zG))) else true
  | _ => true
theorem zgoodIn (z : zMt) (h : Cond.code z.1 z.2.1 z.2.2.1 z.2.2.2.1 ∈ zG) : GoodIn zG (zws z) := fun x hx => by
  rcases List.mem_cons.mp hx with rfl | hx
  · exact ⟨h, good_of_word (zG_good h)⟩
  · exact ⟨hx, good_of_word (zG_good hx)⟩
theorem zblind (dC : Nat → ClassId) (dI : Nat → Nat → Nat) (dA : Nat → ClassId) (ad : Nat → Nat) (as : List Value) (w : zW) (sz : Nat) : FrameBlind (zPc dC dI dA ad as w sz) := fun a U g mk q => by
  obtain ⟨q0, q1, qP, qK, qD⟩ := q
  exact ⟨q0, q1, qP, va_K.moved (u := U) (U := U.calling g mk a) (Vm.Alike.refl U.vm) qK, qD⟩
theorem zcats (ad : Nat → Nat) : ∀ r : List Value, ((r.map (zv ad)).map fun v => v.category).sum = (r.map fun v => v.category).sum
  | [] => rfl
  | v :: r => by
    simp only [List.map_cons, List.sum_cons, zv_cat]
    have := zcats ad r
    simp only [List.map_map] at this ⊢
    rw [this]
end
section
theorem zmemT {x : Cond} (i : Nat) (h : tables_1[i]? = some x) (hg : goodWord x = true) : x ∈ zG := List.mem_filter.mpr ⟨List.mem_append_right _ (List.mem_of_getElem? h), hg⟩
set_option maxRecDepth 100000 in
theorem qX0_init : Cond.code zX0_init.1 zX0_init.2.1 zX0_init.2.2.1 zX0_init.2.2.2.1 ∈ zG := zmemT 114 rfl rfl
set_option maxRecDepth 100000 in
theorem qX0_add : Cond.code zX0_add.1 zX0_add.2.1 zX0_add.2.2.1 zX0_add.2.2.2.1 ∈ zG := zmemT 402 rfl rfl
set_option maxRecDepth 100000 in
theorem qX0_tally : Cond.code zX0_tally.1 zX0_tally.2.1 zX0_tally.2.2.1 zX0_tally.2.2.2.1 ∈ zG := zmemT 433 rfl rfl
set_option maxRecDepth 100000 in
theorem qX0_waysOf : Cond.code zX0_waysOf.1 zX0_waysOf.2.1 zX0_waysOf.2.2.1 zX0_waysOf.2.2.2.1 ∈ zG := zmemT 437 rfl rfl
set_option maxRecDepth 100000 in
theorem qX0_isBracketed : Cond.code zX0_isBracketed.1 zX0_isBracketed.2.1 zX0_isBracketed.2.2.1 zX0_isBracketed.2.2.2.1 ∈ zG := zmemT 461 rfl rfl
set_option maxRecDepth 100000 in
theorem qX0_bareWays : Cond.code zX0_bareWays.1 zX0_bareWays.2.1 zX0_bareWays.2.2.1 zX0_bareWays.2.2.2.1 ∈ zG := zmemT 441 rfl rfl
set_option maxRecDepth 100000 in
theorem qX0_kindByEnds : Cond.code zX0_kindByEnds.1 zX0_kindByEnds.2.1 zX0_kindByEnds.2.2.1 zX0_kindByEnds.2.2.2.1 ∈ zG := zmemT 447 rfl rfl
set_option maxRecDepth 100000 in
theorem qX0_partFrom : Cond.code zX0_partFrom.1 zX0_partFrom.2.1 zX0_partFrom.2.2.1 zX0_partFrom.2.2.2.1 ∈ zG := zmemT 454 rfl rfl
set_option maxRecDepth 100000 in
theorem qX0_partTo : Cond.code zX0_partTo.1 zX0_partTo.2.1 zX0_partTo.2.2.1 zX0_partTo.2.2.2.1 ∈ zG := zmemT 457 rfl rfl
set_option maxRecDepth 100000 in
theorem qX0_numberIn : Cond.code zX0_numberIn.1 zX0_numberIn.2.1 zX0_numberIn.2.2.1 zX0_numberIn.2.2.2.1 ∈ zG := zmemT 451 rfl rfl
set_option maxRecDepth 100000 in
theorem qX0_build : Cond.code zX0_build.1 zX0_build.2.1 zX0_build.2.2.1 zX0_build.2.2.2.1 ∈ zG := zmemT 469 rfl rfl
set_option maxRecDepth 100000 in
theorem qX0_buildSpan : Cond.code zX0_buildSpan.1 zX0_buildSpan.2.1 zX0_buildSpan.2.2.1 zX0_buildSpan.2.2.2.1 ∈ zG := zmemT 473 rfl rfl
set_option maxRecDepth 100000 in
theorem qX0_buildBare : Cond.code zX0_buildBare.1 zX0_buildBare.2.1 zX0_buildBare.2.2.1 zX0_buildBare.2.2.2.1 ∈ zG := zmemT 477 rfl rfl
set_option maxRecDepth 100000 in
theorem qX0_buildPair : Cond.code zX0_buildPair.1 zX0_buildPair.2.1 zX0_buildPair.2.2.1 zX0_buildPair.2.2.2.1 ∈ zG := zmemT 481 rfl rfl
set_option maxRecDepth 100000 in
theorem qX0_placeOf : Cond.code zX0_placeOf.1 zX0_placeOf.2.1 zX0_placeOf.2.2.1 zX0_placeOf.2.2.2.1 ∈ zG := zmemT 492 rfl rfl
set_option maxRecDepth 100000 in
theorem qX0_placeIn : Cond.code zX0_placeIn.1 zX0_placeIn.2.1 zX0_placeIn.2.2.1 zX0_placeIn.2.2.2.1 ∈ zG := zmemT 496 rfl rfl
set_option maxRecDepth 100000 in
theorem qX0_placeBare : Cond.code zX0_placeBare.1 zX0_placeBare.2.1 zX0_placeBare.2.2.1 zX0_placeBare.2.2.2.1 ∈ zG := zmemT 502 rfl rfl
set_option maxRecDepth 100000 in
theorem qX0_placePair : Cond.code zX0_placePair.1 zX0_placePair.2.1 zX0_placePair.2.2.1 zX0_placePair.2.2.2.1 ∈ zG := zmemT 506 rfl rfl
set_option maxRecDepth 100000 in
theorem qX1_isPair : Cond.code zX1_isPair.1 zX1_isPair.2.1 zX1_isPair.2.2.1 zX1_isPair.2.2.2.1 ∈ zG := zmemT 266 rfl rfl
set_option maxRecDepth 100000 in
theorem qX1_isPrefix : Cond.code zX1_isPrefix.1 zX1_isPrefix.2.1 zX1_isPrefix.2.2.1 zX1_isPrefix.2.2.2.1 ∈ zG := zmemT 365 rfl rfl
set_option maxRecDepth 100000 in
theorem qX1_hasBit : Cond.code zX1_hasBit.1 zX1_hasBit.2.1 zX1_hasBit.2.2.1 zX1_hasBit.2.2.2.1 ∈ zG := zmemT 235 rfl rfl
set_option maxRecDepth 100000 in
theorem qX1_withBit : Cond.code zX1_withBit.1 zX1_withBit.2.1 zX1_withBit.2.2.1 zX1_withBit.2.2.2.1 ∈ zG := zmemT 292 rfl rfl
set_option maxRecDepth 100000 in
theorem qX1_isDoubtful : Cond.code zX1_isDoubtful.1 zX1_isDoubtful.2.1 zX1_isDoubtful.2.2.1 zX1_isDoubtful.2.2.2.1 ∈ zG := zmemT 361 rfl rfl
set_option maxRecDepth 100000 in
theorem qX2_init : Cond.code zX2_init.1 zX2_init.2.1 zX2_init.2.2.1 zX2_init.2.2.2.1 ∈ zG := zmemT 29 rfl rfl
set_option maxRecDepth 100000 in
theorem qX2_has : Cond.code zX2_has.1 zX2_has.2.1 zX2_has.2.2.1 zX2_has.2.2.2.1 ∈ zG := zmemT 243 rfl rfl
set_option maxRecDepth 100000 in
theorem qX2_isFull : Cond.code zX2_isFull.1 zX2_isFull.2.1 zX2_isFull.2.2.1 zX2_isFull.2.2.2.1 ∈ zG := zmemT 224 rfl rfl
set_option maxRecDepth 100000 in
theorem qX2_sizeOf : Cond.code zX2_sizeOf.1 zX2_sizeOf.2.1 zX2_sizeOf.2.2.1 zX2_sizeOf.2.2.2.1 ∈ zG := zmemT 273 rfl rfl
set_option maxRecDepth 100000 in
theorem qX2_partOf : Cond.code zX2_partOf.1 zX2_partOf.2.1 zX2_partOf.2.2.1 zX2_partOf.2.2.2.1 ∈ zG := zmemT 518 rfl rfl
set_option maxRecDepth 100000 in
theorem qX2_put : Cond.code zX2_put.1 zX2_put.2.1 zX2_put.2.2.1 zX2_put.2.2.2.1 ∈ zG := zmemT 228 rfl rfl
set_option maxRecDepth 100000 in
theorem qX2_addPart : Cond.code zX2_addPart.1 zX2_addPart.2.1 zX2_addPart.2.2.1 zX2_addPart.2.2.2.1 ∈ zG := zmemT 239 rfl rfl
set_option maxRecDepth 100000 in
theorem qX2_ownWords : Cond.code zX2_ownWords.1 zX2_ownWords.2.1 zX2_ownWords.2.2.1 zX2_ownWords.2.2.2.1 ∈ zG := zmemT 232 rfl rfl
set_option maxRecDepth 100000 in
theorem qX2_firstAlike : Cond.code zX2_firstAlike.1 zX2_firstAlike.2.1 zX2_firstAlike.2.2.1 zX2_firstAlike.2.2.2.1 ∈ zG := zmemT 250 rfl rfl
set_option maxRecDepth 100000 in
theorem qX2_shapeOf : Cond.code zX2_shapeOf.1 zX2_shapeOf.2.1 zX2_shapeOf.2.2.1 zX2_shapeOf.2.2.2.1 ∈ zG := zmemT 258 rfl rfl
set_option maxRecDepth 100000 in
theorem qX2_isSameTop : Cond.code zX2_isSameTop.1 zX2_isSameTop.2.1 zX2_isSameTop.2.2.1 zX2_isSameTop.2.2.2.1 ∈ zG := zmemT 254 rfl rfl
set_option maxRecDepth 100000 in
theorem qX2_isAlike : Cond.code zX2_isAlike.1 zX2_isAlike.2.1 zX2_isAlike.2.2.1 zX2_isAlike.2.2.2.1 ∈ zG := zmemT 311 rfl rfl
set_option maxRecDepth 100000 in
theorem qX2_isRight : Cond.code zX2_isRight.1 zX2_isRight.2.1 zX2_isRight.2.2.1 zX2_isRight.2.2.2.1 ∈ zG := zmemT 303 rfl rfl
set_option maxRecDepth 100000 in
theorem qX2_timesWithin : Cond.code zX2_timesWithin.1 zX2_timesWithin.2.1 zX2_timesWithin.2.2.1 zX2_timesWithin.2.2.2.1 ∈ zG := zmemT 319 rfl rfl
set_option maxRecDepth 100000 in
theorem qX2_tallyOf : Cond.code zX2_tallyOf.1 zX2_tallyOf.2.1 zX2_tallyOf.2.2.1 zX2_tallyOf.2.2.2.1 ∈ zG := zmemT 324 rfl rfl
set_option maxRecDepth 100000 in
theorem qX2_firstUnlike : Cond.code zX2_firstUnlike.1 zX2_firstUnlike.2.1 zX2_firstUnlike.2.2.1 zX2_firstUnlike.2.2.2.1 ∈ zG := zmemT 514 rfl rfl
set_option maxRecDepth 100000 in
theorem qX2_differenceOf : Cond.code zX2_differenceOf.1 zX2_differenceOf.2.1 zX2_differenceOf.2.2.1 zX2_differenceOf.2.2.2.1 ∈ zG := zmemT 581 rfl rfl
set_option maxRecDepth 100000 in
theorem qX2_exchangesOf : Cond.code zX2_exchangesOf.1 zX2_exchangesOf.2.1 zX2_exchangesOf.2.2.1 zX2_exchangesOf.2.2.2.1 ∈ zG := zmemT 593 rfl rfl
set_option maxRecDepth 100000 in
theorem qX2_layKinds : Cond.code zX2_layKinds.1 zX2_layKinds.2.1 zX2_layKinds.2.2.1 zX2_layKinds.2.2.2.1 ∈ zG := zmemT 638 rfl rfl
set_option maxRecDepth 100000 in
theorem qX2_difference : Cond.code zX2_difference.1 zX2_difference.2.1 zX2_difference.2.2.1 zX2_difference.2.2.2.1 ∈ zG := zmemT 585 rfl rfl
set_option maxRecDepth 100000 in
theorem qX2_exchanges : Cond.code zX2_exchanges.1 zX2_exchanges.2.1 zX2_exchanges.2.2.1 zX2_exchanges.2.2.2.1 ∈ zG := zmemT 597 rfl rfl
set_option maxRecDepth 100000 in
theorem qX2_layKindsFrom : Cond.code zX2_layKindsFrom.1 zX2_layKindsFrom.2.1 zX2_layKindsFrom.2.2.1 zX2_layKindsFrom.2.2.2.1 ∈ zG := zmemT 642 rfl rfl
set_option maxRecDepth 100000 in
theorem qX3_init : Cond.code zX3_init.1 zX3_init.2.1 zX3_init.2.2.1 zX3_init.2.2.2.1 ∈ zG := zmemT 165 rfl rfl
set_option maxRecDepth 100000 in
theorem qX3_drop : Cond.code zX3_drop.1 zX3_drop.2.1 zX3_drop.2.2.1 zX3_drop.2.2.2.1 ∈ zG := zmemT 618 rfl rfl
set_option maxRecDepth 100000 in
theorem qX3_holdNode : Cond.code zX3_holdNode.1 zX3_holdNode.2.1 zX3_holdNode.2.2.1 zX3_holdNode.2.2.2.1 ∈ zG := zmemT 630 rfl rfl
set_option maxRecDepth 100000 in
theorem qX3_holdNoughts : Cond.code zX3_holdNoughts.1 zX3_holdNoughts.2.1 zX3_holdNoughts.2.2.1 zX3_holdNoughts.2.2.2.1 ∈ zG := zmemT 634 rfl rfl
set_option maxRecDepth 100000 in
theorem qX3_holdRow : Cond.code zX3_holdRow.1 zX3_holdRow.2.1 zX3_holdRow.2.2.1 zX3_holdRow.2.2.2.1 ∈ zG := zmemT 622 rfl rfl
set_option maxRecDepth 100000 in
theorem qX3_hasRow : Cond.code zX3_hasRow.1 zX3_hasRow.2.1 zX3_hasRow.2.2.1 zX3_hasRow.2.2.2.1 ∈ zG := zmemT 654 rfl rfl
set_option maxRecDepth 100000 in
theorem qX3_hasSpan : Cond.code zX3_hasSpan.1 zX3_hasSpan.2.1 zX3_hasSpan.2.2.1 zX3_hasSpan.2.2.2.1 ∈ zG := zmemT 658 rfl rfl
set_option maxRecDepth 100000 in
theorem qX3_weighNode : Cond.code zX3_weighNode.1 zX3_weighNode.2.1 zX3_weighNode.2.2.1 zX3_weighNode.2.2.2.1 ∈ zG := zmemT 673 rfl rfl
set_option maxRecDepth 100000 in
theorem qX4_init : Cond.code zX4_init.1 zX4_init.2.1 zX4_init.2.2.1 zX4_init.2.2.2.1 ∈ zG := zmemT 93 rfl rfl
set_option maxRecDepth 100000 in
theorem qX4_isTooLong : Cond.code zX4_isTooLong.1 zX4_isTooLong.2.1 zX4_isTooLong.2.2.1 zX4_isTooLong.2.2.2.1 ∈ zG := zmemT 373 rfl rfl
set_option maxRecDepth 100000 in
theorem qX4_sayInStyle : Cond.code zX4_sayInStyle.1 zX4_sayInStyle.2.1 zX4_sayInStyle.2.2.1 zX4_sayInStyle.2.2.2.1 ∈ zG := zmemT 340 rfl rfl
set_option maxRecDepth 100000 in
theorem qX4_saySparingly : Cond.code zX4_saySparingly.1 zX4_saySparingly.2.1 zX4_saySparingly.2.2.1 zX4_saySparingly.2.2.2.1 ∈ zG := zmemT 526 rfl rfl
set_option maxRecDepth 100000 in
theorem qX4_isSameAs : Cond.code zX4_isSameAs.1 zX4_isSameAs.2.1 zX4_isSameAs.2.2.1 zX4_isSameAs.2.2.2.1 ∈ zG := zmemT 385 rfl rfl
set_option maxRecDepth 100000 in
theorem qX4_tell : Cond.code zX4_tell.1 zX4_tell.2.1 zX4_tell.2.2.1 zX4_tell.2.2.2.1 ∈ zG := zmemT 345 rfl rfl
set_option maxRecDepth 100000 in
theorem qX4_tellBare : Cond.code zX4_tellBare.1 zX4_tellBare.2.1 zX4_tellBare.2.2.1 zX4_tellBare.2.2.2.1 ∈ zG := zmemT 354 rfl rfl
set_option maxRecDepth 100000 in
theorem qX4_isPartKept : Cond.code zX4_isPartKept.1 zX4_isPartKept.2.1 zX4_isPartKept.2.2.1 zX4_isPartKept.2.2.2.1 ∈ zG := zmemT 358 rfl rfl
set_option maxRecDepth 100000 in
theorem qX4_addDigits : Cond.code zX4_addDigits.1 zX4_addDigits.2.1 zX4_addDigits.2.2.1 zX4_addDigits.2.2.2.1 ∈ zG := zmemT 369 rfl rfl
set_option maxRecDepth 100000 in
theorem qX4_add : Cond.code zX4_add.1 zX4_add.2.1 zX4_add.2.2.1 zX4_add.2.2.2.1 ∈ zG := zmemT 350 rfl rfl
set_option maxRecDepth 100000 in
theorem qX5_init : Cond.code zX5_init.1 zX5_init.2.1 zX5_init.2.2.1 zX5_init.2.2.2.1 ∈ zG := zmemT 144 rfl rfl
set_option maxRecDepth 100000 in
theorem qX5_isBegun : Cond.code zX5_isBegun.1 zX5_isBegun.2.1 zX5_isBegun.2.2.1 zX5_isBegun.2.2.2.1 ∈ zG := zmemT 281 rfl rfl
set_option maxRecDepth 100000 in
theorem qX5_top : Cond.code zX5_top.1 zX5_top.2.1 zX5_top.2.2.1 zX5_top.2.2.2.1 ∈ zG := zmemT 285 rfl rfl
set_option maxRecDepth 100000 in
theorem qX5_here : Cond.code zX5_here.1 zX5_here.2.1 zX5_here.2.2.1 zX5_here.2.2.2.1 ∈ zG := zmemT 555 rfl rfl
set_option maxRecDepth 100000 in
theorem qX5_beginAt : Cond.code zX5_beginAt.1 zX5_beginAt.2.1 zX5_beginAt.2.2.1 zX5_beginAt.2.2.2.1 ∈ zG := zmemT 534 rfl rfl
set_option maxRecDepth 100000 in
theorem qX5_stepDown : Cond.code zX5_stepDown.1 zX5_stepDown.2.1 zX5_stepDown.2.2.1 zX5_stepDown.2.2.2.1 ∈ zG := zmemT 551 rfl rfl
set_option maxRecDepth 100000 in
theorem qX5_stepUp : Cond.code zX5_stepUp.1 zX5_stepUp.2.1 zX5_stepUp.2.2.1 zX5_stepUp.2.2.2.1 ∈ zG := zmemT 542 rfl rfl
set_option maxRecDepth 100000 in
theorem qX5_stepBeside : Cond.code zX5_stepBeside.1 zX5_stepBeside.2.1 zX5_stepBeside.2.2.1 zX5_stepBeside.2.2.2.1 ∈ zG := zmemT 546 rfl rfl
set_option maxRecDepth 100000 in
theorem qX5_asNumber : Cond.code zX5_asNumber.1 zX5_asNumber.2.1 zX5_asNumber.2.2.1 zX5_asNumber.2.2.2.1 ∈ zG := zmemT 780 rfl rfl
set_option maxRecDepth 100000 in
theorem qX5_follow : Cond.code zX5_follow.1 zX5_follow.2.1 zX5_follow.2.2.1 zX5_follow.2.2.2.1 ∈ zG := zmemT 564 rfl rfl
set_option maxRecDepth 100000 in
theorem qX5_leadsSomewhere : Cond.code zX5_leadsSomewhere.1 zX5_leadsSomewhere.2.1 zX5_leadsSomewhere.2.2.1 zX5_leadsSomewhere.2.2.2.1 ∈ zG := zmemT 568 rfl rfl
set_option maxRecDepth 100000 in
theorem qX6_init : Cond.code zX6_init.1 zX6_init.2.1 zX6_init.2.2.1 zX6_init.2.2.2.1 ∈ zG := zmemT 21 rfl rfl
set_option maxRecDepth 100000 in
theorem qX6_leaf : Cond.code zX6_leaf.1 zX6_leaf.2.1 zX6_leaf.2.2.1 zX6_leaf.2.2.2.1 ∈ zG := zmemT 220 rfl rfl
set_option maxRecDepth 100000 in
theorem qX6_node : Cond.code zX6_node.1 zX6_node.2.1 zX6_node.2.2.1 zX6_node.2.2.2.1 ∈ zG := zmemT 262 rfl rfl
set_option maxRecDepth 100000 in
theorem qX6_undo : Cond.code zX6_undo.1 zX6_undo.2.1 zX6_undo.2.2.1 zX6_undo.2.2.2.1 ∈ zG := zmemT 277 rfl rfl
set_option maxRecDepth 100000 in
theorem qX6_means : Cond.code zX6_means.1 zX6_means.2.1 zX6_means.2.2.1 zX6_means.2.2.2.1 ∈ zG := zmemT 289 rfl rfl
set_option maxRecDepth 100000 in
theorem qX6_look : Cond.code zX6_look.1 zX6_look.2.1 zX6_look.2.2.1 zX6_look.2.2.2.1 ∈ zG := zmemT 296 rfl rfl
set_option maxRecDepth 100000 in
theorem qX6_alike : Cond.code zX6_alike.1 zX6_alike.2.1 zX6_alike.2.2.1 zX6_alike.2.2.2.1 ∈ zG := zmemT 307 rfl rfl
set_option maxRecDepth 100000 in
theorem qX6_times : Cond.code zX6_times.1 zX6_times.2.1 zX6_times.2.2.1 zX6_times.2.2.2.1 ∈ zG := zmemT 315 rfl rfl
set_option maxRecDepth 100000 in
theorem qX6_keeps : Cond.code zX6_keeps.1 zX6_keeps.2.1 zX6_keeps.2.2.1 zX6_keeps.2.2.2.1 ∈ zG := zmemT 328 rfl rfl
set_option maxRecDepth 100000 in
theorem qX6_words : Cond.code zX6_words.1 zX6_words.2.1 zX6_words.2.2.1 zX6_words.2.2.2.1 ∈ zG := zmemT 336 rfl rfl
set_option maxRecDepth 100000 in
theorem qX6_word : Cond.code zX6_word.1 zX6_word.2.1 zX6_word.2.2.1 zX6_word.2.2.2.1 ∈ zG := zmemT 377 rfl rfl
set_option maxRecDepth 100000 in
theorem qX6_sound : Cond.code zX6_sound.1 zX6_sound.2.1 zX6_sound.2.2.1 zX6_sound.2.2.2.1 ∈ zG := zmemT 381 rfl rfl
set_option maxRecDepth 100000 in
theorem qX6_clear : Cond.code zX6_clear.1 zX6_clear.2.1 zX6_clear.2.2.1 zX6_clear.2.2.2.1 ∈ zG := zmemT 390 rfl rfl
set_option maxRecDepth 100000 in
theorem qX6_hear : Cond.code zX6_hear.1 zX6_hear.2.1 zX6_hear.2.2.1 zX6_hear.2.2.2.1 ∈ zG := zmemT 395 rfl rfl
set_option maxRecDepth 100000 in
theorem qX6_listen : Cond.code zX6_listen.1 zX6_listen.2.1 zX6_listen.2.2.1 zX6_listen.2.2.2.1 ∈ zG := zmemT 406 rfl rfl
set_option maxRecDepth 100000 in
theorem qX6_hush : Cond.code zX6_hush.1 zX6_hush.2.1 zX6_hush.2.2.1 zX6_hush.2.2.2.1 ∈ zG := zmemT 414 rfl rfl
set_option maxRecDepth 100000 in
theorem qX6_ear : Cond.code zX6_ear.1 zX6_ear.2.1 zX6_ear.2.2.1 zX6_ear.2.2.2.1 ∈ zG := zmemT 418 rfl rfl
set_option maxRecDepth 100000 in
theorem qX6_readings : Cond.code zX6_readings.1 zX6_readings.2.1 zX6_readings.2.2.1 zX6_readings.2.2.2.1 ∈ zG := zmemT 685 rfl rfl
set_option maxRecDepth 100000 in
theorem qX6_write : Cond.code zX6_write.1 zX6_write.2.1 zX6_write.2.2.1 zX6_write.2.2.2.1 ∈ zG := zmemT 422 rfl rfl
set_option maxRecDepth 100000 in
theorem qX6_place : Cond.code zX6_place.1 zX6_place.2.1 zX6_place.2.2.1 zX6_place.2.2.2.1 ∈ zG := zmemT 486 rfl rfl
set_option maxRecDepth 100000 in
theorem qX6_doubt : Cond.code zX6_doubt.1 zX6_doubt.2.1 zX6_doubt.2.2.1 zX6_doubt.2.2.2.1 ∈ zG := zmemT 510 rfl rfl
set_option maxRecDepth 100000 in
theorem qX6_fewest : Cond.code zX6_fewest.1 zX6_fewest.2.1 zX6_fewest.2.2.1 zX6_fewest.2.2.2.1 ∈ zG := zmemT 522 rfl rfl
set_option maxRecDepth 100000 in
theorem qX6_walk : Cond.code zX6_walk.1 zX6_walk.2.1 zX6_walk.2.2.1 zX6_walk.2.2.2.1 ∈ zG := zmemT 530 rfl rfl
set_option maxRecDepth 100000 in
theorem qX6_go : Cond.code zX6_go.1 zX6_go.2.1 zX6_go.2.2.1 zX6_go.2.2.2.1 ∈ zG := zmemT 538 rfl rfl
set_option maxRecDepth 100000 in
theorem qX6_where : Cond.code zX6_where.1 zX6_where.2.1 zX6_where.2.2.1 zX6_where.2.2.2.1 ∈ zG := zmemT 760 rfl rfl
set_option maxRecDepth 100000 in
theorem qX6_lead : Cond.code zX6_lead.1 zX6_lead.2.1 zX6_lead.2.2.1 zX6_lead.2.2.2.1 ∈ zG := zmemT 560 rfl rfl
set_option maxRecDepth 100000 in
theorem qX6_glance : Cond.code zX6_glance.1 zX6_glance.2.1 zX6_glance.2.2.1 zX6_glance.2.2.2.1 ∈ zG := zmemT 573 rfl rfl
set_option maxRecDepth 100000 in
theorem qX6_changed : Cond.code zX6_changed.1 zX6_changed.2.1 zX6_changed.2.2.1 zX6_changed.2.2.2.1 ∈ zG := zmemT 577 rfl rfl
set_option maxRecDepth 100000 in
theorem qX6_exchanged : Cond.code zX6_exchanged.1 zX6_exchanged.2.1 zX6_exchanged.2.2.1 zX6_exchanged.2.2.2.1 ∈ zG := zmemT 589 rfl rfl
set_option maxRecDepth 100000 in
theorem qX6_count : Cond.code zX6_count.1 zX6_count.2.1 zX6_count.2.2.1 zX6_count.2.2.2.1 ∈ zG := zmemT 601 rfl rfl
set_option maxRecDepth 100000 in
theorem qX6_keep : Cond.code zX6_keep.1 zX6_keep.2.1 zX6_keep.2.2.1 zX6_keep.2.2.2.1 ∈ zG := zmemT 611 rfl rfl
set_option maxRecDepth 100000 in
theorem qX6_make : Cond.code zX6_make.1 zX6_make.2.1 zX6_make.2.2.1 zX6_make.2.2.2.1 ∈ zG := zmemT 646 rfl rfl
set_option maxRecDepth 100000 in
theorem qX6_element : Cond.code zX6_element.1 zX6_element.2.1 zX6_element.2.2.1 zX6_element.2.2.2.1 ∈ zG := zmemT 790 rfl rfl
set_option maxRecDepth 100000 in
theorem qX6_copy : Cond.code zX6_copy.1 zX6_copy.2.1 zX6_copy.2.2.1 zX6_copy.2.2.2.1 ∈ zG := zmemT 650 rfl rfl
set_option maxRecDepth 100000 in
theorem qX6_weight : Cond.code zX6_weight.1 zX6_weight.2.1 zX6_weight.2.2.1 zX6_weight.2.2.2.1 ∈ zG := zmemT 665 rfl rfl
set_option maxRecDepth 100000 in
theorem qX6_toss : Cond.code zX6_toss.1 zX6_toss.2.1 zX6_toss.2.2.1 zX6_toss.2.2.2.1 ∈ zG := zmemT 677 rfl rfl
set_option maxRecDepth 100000 in
theorem qX6_isLetter : Cond.code zX6_isLetter.1 zX6_isLetter.2.1 zX6_isLetter.2.2.1 zX6_isLetter.2.2.2.1 ∈ zG := zmemT 269 rfl rfl
set_option maxRecDepth 100000 in
theorem qX6_isStyle : Cond.code zX6_isStyle.1 zX6_isStyle.2.1 zX6_isStyle.2.2.1 zX6_isStyle.2.2.2.1 ∈ zG := zmemT 331 rfl rfl
set_option maxRecDepth 100000 in
theorem qX6_isStyleOrFree : Cond.code zX6_isStyleOrFree.1 zX6_isStyleOrFree.2.1 zX6_isStyleOrFree.2.2.1 zX6_isStyleOrFree.2.2.2.1 ∈ zG := zmemT 425 rfl rfl
set_option maxRecDepth 100000 in
theorem qX6_isShelf : Cond.code zX6_isShelf.1 zX6_isShelf.2.1 zX6_isShelf.2.2.1 zX6_isShelf.2.2.2.1 ∈ zG := zmemT 614 rfl rfl
set_option maxRecDepth 100000 in
theorem qX6_orMissing : Cond.code zX6_orMissing.1 zX6_orMissing.2.1 zX6_orMissing.2.2.1 zX6_orMissing.2.2.2.1 ∈ zG := zmemT 299 rfl rfl
set_option maxRecDepth 100000 in
theorem qX6_digitOf : Cond.code zX6_digitOf.1 zX6_digitOf.2.1 zX6_digitOf.2.2.1 zX6_digitOf.2.2.2.1 ∈ zG := zmemT 398 rfl rfl
set_option maxRecDepth 100000 in
theorem qX6_hearSpeech : Cond.code zX6_hearSpeech.1 zX6_hearSpeech.2.1 zX6_hearSpeech.2.2.1 zX6_hearSpeech.2.2.2.1 ∈ zG := zmemT 410 rfl rfl
set_option maxRecDepth 100000 in
theorem qX6_tallyIn : Cond.code zX6_tallyIn.1 zX6_tallyIn.2.1 zX6_tallyIn.2.2.1 zX6_tallyIn.2.2.2.1 ∈ zG := zmemT 429 rfl rfl
set_option maxRecDepth 100000 in
theorem qX6_keepNode : Cond.code zX6_keepNode.1 zX6_keepNode.2.1 zX6_keepNode.2.2.1 zX6_keepNode.2.2.2.1 ∈ zG := zmemT 626 rfl rfl
set_option maxRecDepth 100000 in
theorem qX6_nodeRefusal : Cond.code zX6_nodeRefusal.1 zX6_nodeRefusal.2.1 zX6_nodeRefusal.2.2.1 zX6_nodeRefusal.2.2.2.1 ∈ zG := zmemT 669 rfl rfl
set_option maxRecDepth 100000 in
theorem qX7_init : Cond.code zX7_init.1 zX7_init.2.1 zX7_init.2.2.1 zX7_init.2.2.2.1 ∈ zG := zmemT 798 rfl rfl
set_option maxRecDepth 100000 in
theorem qX7_thrown : Cond.code zX7_thrown.1 zX7_thrown.2.1 zX7_thrown.2.2.1 zX7_thrown.2.2.2.1 ∈ zG := zmemT 910 rfl rfl
set_option maxRecDepth 100000 in
theorem qX7_in : Cond.code zX7_in.1 zX7_in.2.1 zX7_in.2.2.1 zX7_in.2.2.2.1 ∈ zG := zmemT 917 rfl rfl
set_option maxRecDepth 100000 in
theorem qX7_isNode : Cond.code zX7_isNode.1 zX7_isNode.2.1 zX7_isNode.2.2.1 zX7_isNode.2.2.2.1 ∈ zG := zmemT 932 rfl rfl
set_option maxRecDepth 100000 in
theorem qX7_isTwo : Cond.code zX7_isTwo.1 zX7_isTwo.2.1 zX7_isTwo.2.2.1 zX7_isTwo.2.2.2.1 ∈ zG := zmemT 935 rfl rfl
set_option maxRecDepth 100000 in
theorem qX7_mayKeep : Cond.code zX7_mayKeep.1 zX7_mayKeep.2.1 zX7_mayKeep.2.2.1 zX7_mayKeep.2.2.2.1 ∈ zG := zmemT 979 rfl rfl
set_option maxRecDepth 100000 in
theorem qX7_isStyle : Cond.code zX7_isStyle.1 zX7_isStyle.2.1 zX7_isStyle.2.2.1 zX7_isStyle.2.2.2.1 ∈ zG := zmemT 975 rfl rfl
set_option maxRecDepth 100000 in
theorem qX7_sets : Cond.code zX7_sets.1 zX7_sets.2.1 zX7_sets.2.2.1 zX7_sets.2.2.2.1 ∈ zG := zmemT 923 rfl rfl
set_option maxRecDepth 100000 in
theorem qX7_leaf : Cond.code zX7_leaf.1 zX7_leaf.2.1 zX7_leaf.2.2.1 zX7_leaf.2.2.2.1 ∈ zG := zmemT 914 rfl rfl
set_option maxRecDepth 100000 in
theorem qX7_node : Cond.code zX7_node.1 zX7_node.2.1 zX7_node.2.2.1 zX7_node.2.2.2.1 ∈ zG := zmemT 927 rfl rfl
set_option maxRecDepth 100000 in
theorem qX7_undo : Cond.code zX7_undo.1 zX7_undo.2.1 zX7_undo.2.2.1 zX7_undo.2.2.2.1 ∈ zG := zmemT 939 rfl rfl
set_option maxRecDepth 100000 in
theorem qX7_means : Cond.code zX7_means.1 zX7_means.2.1 zX7_means.2.2.1 zX7_means.2.2.2.1 ∈ zG := zmemT 943 rfl rfl
set_option maxRecDepth 100000 in
theorem qX7_isRight : Cond.code zX7_isRight.1 zX7_isRight.2.1 zX7_isRight.2.2.1 zX7_isRight.2.2.2.1 ∈ zG := zmemT 952 rfl rfl
set_option maxRecDepth 100000 in
theorem qX7_look : Cond.code zX7_look.1 zX7_look.2.1 zX7_look.2.2.1 zX7_look.2.2.2.1 ∈ zG := zmemT 947 rfl rfl
set_option maxRecDepth 100000 in
theorem qX7_areAlike : Cond.code zX7_areAlike.1 zX7_areAlike.2.1 zX7_areAlike.2.2.1 zX7_areAlike.2.2.2.1 ∈ zG := zmemT 960 rfl rfl
set_option maxRecDepth 100000 in
theorem qX7_alike : Cond.code zX7_alike.1 zX7_alike.2.1 zX7_alike.2.2.1 zX7_alike.2.2.2.1 ∈ zG := zmemT 956 rfl rfl
set_option maxRecDepth 100000 in
theorem qX7_has : Cond.code zX7_has.1 zX7_has.2.1 zX7_has.2.2.1 zX7_has.2.2.2.1 ∈ zG := zmemT 968 rfl rfl
set_option maxRecDepth 100000 in
theorem qX7_times : Cond.code zX7_times.1 zX7_times.2.1 zX7_times.2.2.1 zX7_times.2.2.2.1 ∈ zG := zmemT 964 rfl rfl
set_option maxRecDepth 100000 in
theorem qX7_keeps : Cond.code zX7_keeps.1 zX7_keeps.2.1 zX7_keeps.2.2.1 zX7_keeps.2.2.2.1 ∈ zG := zmemT 972 rfl rfl
set_option maxRecDepth 100000 in
theorem qX7_digits : Cond.code zX7_digits.1 zX7_digits.2.1 zX7_digits.2.2.1 zX7_digits.2.2.2.1 ∈ zG := zmemT 994 rfl rfl
set_option maxRecDepth 100000 in
theorem qX7_own : Cond.code zX7_own.1 zX7_own.2.1 zX7_own.2.2.1 zX7_own.2.2.2.1 ∈ zG := zmemT 991 rfl rfl
set_option maxRecDepth 100000 in
theorem qX7_length : Cond.code zX7_length.1 zX7_length.2.1 zX7_length.2.2.1 zX7_length.2.2.2.1 ∈ zG := zmemT 987 rfl rfl
set_option maxRecDepth 100000 in
theorem qX7_says : Cond.code zX7_says.1 zX7_says.2.1 zX7_says.2.2.1 zX7_says.2.2.2.1 ∈ zG := zmemT 1014 rfl rfl
set_option maxRecDepth 100000 in
theorem qX7_keepsIt : Cond.code zX7_keepsIt.1 zX7_keepsIt.2.1 zX7_keepsIt.2.2.1 zX7_keepsIt.2.2.2.1 ∈ zG := zmemT 1010 rfl rfl
set_option maxRecDepth 100000 in
theorem qX7_say : Cond.code zX7_say.1 zX7_say.2.1 zX7_say.2.2.1 zX7_say.2.2.2.1 ∈ zG := zmemT 1006 rfl rfl
set_option maxRecDepth 100000 in
theorem qX7_sayAll : Cond.code zX7_sayAll.1 zX7_sayAll.2.1 zX7_sayAll.2.2.1 zX7_sayAll.2.2.2.1 ∈ zG := zmemT 1002 rfl rfl
set_option maxRecDepth 100000 in
theorem qX7_words : Cond.code zX7_words.1 zX7_words.2.1 zX7_words.2.2.1 zX7_words.2.2.2.1 ∈ zG := zmemT 983 rfl rfl
set_option maxRecDepth 100000 in
theorem qX7_word : Cond.code zX7_word.1 zX7_word.2.1 zX7_word.2.2.1 zX7_word.2.2.2.1 ∈ zG := zmemT 998 rfl rfl
set_option maxRecDepth 100000 in
theorem qX7_sound : Cond.code zX7_sound.1 zX7_sound.2.1 zX7_sound.2.2.1 zX7_sound.2.2.2.1 ∈ zG := zmemT 1018 rfl rfl
set_option maxRecDepth 100000 in
theorem qX7_adds : Cond.code zX7_adds.1 zX7_adds.2.1 zX7_adds.2.2.1 zX7_adds.2.2.2.1 ∈ zG := zmemT 1027 rfl rfl
set_option maxRecDepth 100000 in
theorem qX7_grows : Cond.code zX7_grows.1 zX7_grows.2.1 zX7_grows.2.2.1 zX7_grows.2.2.2.1 ∈ zG := zmemT 1031 rfl rfl
set_option maxRecDepth 100000 in
theorem qX7_isSame : Cond.code zX7_isSame.1 zX7_isSame.2.1 zX7_isSame.2.2.1 zX7_isSame.2.2.2.1 ∈ zG := zmemT 1035 rfl rfl
set_option maxRecDepth 100000 in
theorem qX7_clear : Cond.code zX7_clear.1 zX7_clear.2.1 zX7_clear.2.2.1 zX7_clear.2.2.2.1 ∈ zG := zmemT 1022 rfl rfl
set_option maxRecDepth 100000 in
theorem qX7_hear : Cond.code zX7_hear.1 zX7_hear.2.1 zX7_hear.2.2.1 zX7_hear.2.2.2.1 ∈ zG := zmemT 1039 rfl rfl
set_option maxRecDepth 100000 in
theorem qX7_listen : Cond.code zX7_listen.1 zX7_listen.2.1 zX7_listen.2.2.1 zX7_listen.2.2.2.1 ∈ zG := zmemT 1044 rfl rfl
set_option maxRecDepth 100000 in
theorem qX7_hears : Cond.code zX7_hears.1 zX7_hears.2.1 zX7_hears.2.2.1 zX7_hears.2.2.2.1 ∈ zG := zmemT 1048 rfl rfl
set_option maxRecDepth 100000 in
theorem qX7_hush : Cond.code zX7_hush.1 zX7_hush.2.1 zX7_hush.2.2.1 zX7_hush.2.2.2.1 ∈ zG := zmemT 1052 rfl rfl
set_option maxRecDepth 100000 in
theorem qX7_ear : Cond.code zX7_ear.1 zX7_ear.2.1 zX7_ear.2.2.1 zX7_ear.2.2.2.1 ∈ zG := zmemT 1056 rfl rfl
set_option maxRecDepth 100000 in
theorem qX7_times_ : Cond.code zX7_times_.1 zX7_times_.2.1 zX7_times_.2.2.1 zX7_times_.2.2.2.1 ∈ zG := zmemT 1086 rfl rfl
set_option maxRecDepth 100000 in
theorem qX7_plus : Cond.code zX7_plus.1 zX7_plus.2.1 zX7_plus.2.2.1 zX7_plus.2.2.2.1 ∈ zG := zmemT 1090 rfl rfl
set_option maxRecDepth 100000 in
theorem qX7_isLet : Cond.code zX7_isLet.1 zX7_isLet.2.1 zX7_isLet.2.2.1 zX7_isLet.2.2.2.1 ∈ zG := zmemT 1073 rfl rfl
set_option maxRecDepth 100000 in
theorem qX7_isNumber : Cond.code zX7_isNumber.1 zX7_isNumber.2.1 zX7_isNumber.2.2.1 zX7_isNumber.2.2.2.1 ∈ zG := zmemT 1081 rfl rfl
set_option maxRecDepth 100000 in
theorem qX7_within : Cond.code zX7_within.1 zX7_within.2.1 zX7_within.2.2.1 zX7_within.2.2.2.1 ∈ zG := zmemT 1077 rfl rfl
set_option maxRecDepth 100000 in
theorem qX7_reckons : Cond.code zX7_reckons.1 zX7_reckons.2.1 zX7_reckons.2.2.1 zX7_reckons.2.2.2.1 ∈ zG := zmemT 1069 rfl rfl
set_option maxRecDepth 100000 in
theorem qX7_counted : Cond.code zX7_counted.1 zX7_counted.2.1 zX7_counted.2.2.1 zX7_counted.2.2.2.1 ∈ zG := zmemT 1065 rfl rfl
set_option maxRecDepth 100000 in
theorem qX7_readings : Cond.code zX7_readings.1 zX7_readings.2.1 zX7_readings.2.2.1 zX7_readings.2.2.2.1 ∈ zG := zmemT 1060 rfl rfl
set_option maxRecDepth 100000 in
theorem qX7_makes : Cond.code zX7_makes.1 zX7_makes.2.1 zX7_makes.2.2.1 zX7_makes.2.2.2.1 ∈ zG := zmemT 1102 rfl rfl
set_option maxRecDepth 100000 in
theorem qX7_takes : Cond.code zX7_takes.1 zX7_takes.2.1 zX7_takes.2.2.1 zX7_takes.2.2.2.1 ∈ zG := zmemT 1098 rfl rfl
set_option maxRecDepth 100000 in
theorem qX7_takesTwo : Cond.code zX7_takesTwo.1 zX7_takesTwo.2.1 zX7_takesTwo.2.2.1 zX7_takesTwo.2.2.2.1 ∈ zG := zmemT 1106 rfl rfl
set_option maxRecDepth 100000 in
theorem qX7_write : Cond.code zX7_write.1 zX7_write.2.1 zX7_write.2.2.1 zX7_write.2.2.2.1 ∈ zG := zmemT 1094 rfl rfl
set_option maxRecDepth 100000 in
theorem qX7_copies : Cond.code zX7_copies.1 zX7_copies.2.1 zX7_copies.2.2.1 zX7_copies.2.2.2.1 ∈ zG := zmemT 1110 rfl rfl
set_option maxRecDepth 100000 in
theorem qX7_rank : Cond.code zX7_rank.1 zX7_rank.2.1 zX7_rank.2.2.1 zX7_rank.2.2.2.1 ∈ zG := zmemT 1120 rfl rfl
set_option maxRecDepth 100000 in
theorem qX7_inner : Cond.code zX7_inner.1 zX7_inner.2.1 zX7_inner.2.2.1 zX7_inner.2.2.2.1 ∈ zG := zmemT 1124 rfl rfl
set_option maxRecDepth 100000 in
theorem qX7_innerTwo : Cond.code zX7_innerTwo.1 zX7_innerTwo.2.1 zX7_innerTwo.2.2.1 zX7_innerTwo.2.2.2.1 ∈ zG := zmemT 1128 rfl rfl
set_option maxRecDepth 100000 in
theorem qX7_place : Cond.code zX7_place.1 zX7_place.2.1 zX7_place.2.2.1 zX7_place.2.2.2.1 ∈ zG := zmemT 1114 rfl rfl
set_option maxRecDepth 100000 in
theorem qX7_doubt : Cond.code zX7_doubt.1 zX7_doubt.2.1 zX7_doubt.2.2.1 zX7_doubt.2.2.2.1 ∈ zG := zmemT 1132 rfl rfl
set_option maxRecDepth 100000 in
theorem qX7_keepable : Cond.code zX7_keepable.1 zX7_keepable.2.1 zX7_keepable.2.2.1 zX7_keepable.2.2.2.1 ∈ zG := zmemT 1140 rfl rfl
set_option maxRecDepth 100000 in
theorem qX7_bits : Cond.code zX7_bits.1 zX7_bits.2.1 zX7_bits.2.2.1 zX7_bits.2.2.2.1 ∈ zG := zmemT 1143 rfl rfl
set_option maxRecDepth 100000 in
theorem qX7_fewest : Cond.code zX7_fewest.1 zX7_fewest.2.1 zX7_fewest.2.2.1 zX7_fewest.2.2.2.1 ∈ zG := zmemT 1136 rfl rfl
set_option maxRecDepth 100000 in
theorem qX7_isOnly : Cond.code zX7_isOnly.1 zX7_isOnly.2.1 zX7_isOnly.2.2.1 zX7_isOnly.2.2.2.1 ∈ zG := zmemT 1147 rfl rfl
set_option maxRecDepth 100000 in
theorem qX7_walk : Cond.code zX7_walk.1 zX7_walk.2.1 zX7_walk.2.2.1 zX7_walk.2.2.2.1 ∈ zG := zmemT 1151 rfl rfl
set_option maxRecDepth 100000 in
theorem qX7_down : Cond.code zX7_down.1 zX7_down.2.1 zX7_down.2.2.1 zX7_down.2.2.2.1 ∈ zG := zmemT 1160 rfl rfl
set_option maxRecDepth 100000 in
theorem qX7_go : Cond.code zX7_go.1 zX7_go.2.1 zX7_go.2.2.1 zX7_go.2.2.2.1 ∈ zG := zmemT 1155 rfl rfl
set_option maxRecDepth 100000 in
theorem qX7_where : Cond.code zX7_where.1 zX7_where.2.1 zX7_where.2.2.1 zX7_where.2.2.2.1 ∈ zG := zmemT 1164 rfl rfl
set_option maxRecDepth 100000 in
theorem qX7_lead : Cond.code zX7_lead.1 zX7_lead.2.1 zX7_lead.2.2.1 zX7_lead.2.2.2.1 ∈ zG := zmemT 1168 rfl rfl
set_option maxRecDepth 100000 in
theorem qX7_glanced : Cond.code zX7_glanced.1 zX7_glanced.2.1 zX7_glanced.2.2.1 zX7_glanced.2.2.2.1 ∈ zG := zmemT 1176 rfl rfl
set_option maxRecDepth 100000 in
theorem qX7_glance : Cond.code zX7_glance.1 zX7_glance.2.1 zX7_glance.2.2.1 zX7_glance.2.2.2.1 ∈ zG := zmemT 1172 rfl rfl
set_option maxRecDepth 100000 in
theorem qX7_inside : Cond.code zX7_inside.1 zX7_inside.2.1 zX7_inside.2.2.1 zX7_inside.2.2.2.1 ∈ zG := zmemT 1188 rfl rfl
set_option maxRecDepth 100000 in
theorem qX7_difference : Cond.code zX7_difference.1 zX7_difference.2.1 zX7_difference.2.2.1 zX7_difference.2.2.2.1 ∈ zG := zmemT 1184 rfl rfl
set_option maxRecDepth 100000 in
theorem qX7_wholes : Cond.code zX7_wholes.1 zX7_wholes.2.1 zX7_wholes.2.2.1 zX7_wholes.2.2.2.1 ∈ zG := zmemT 1196 rfl rfl
set_option maxRecDepth 100000 in
theorem qX7_changed : Cond.code zX7_changed.1 zX7_changed.2.1 zX7_changed.2.2.1 zX7_changed.2.2.2.1 ∈ zG := zmemT 1180 rfl rfl
set_option maxRecDepth 100000 in
theorem qX7_exchanged : Cond.code zX7_exchanged.1 zX7_exchanged.2.1 zX7_exchanged.2.2.1 zX7_exchanged.2.2.2.1 ∈ zG := zmemT 1192 rfl rfl
set_option maxRecDepth 100000 in
theorem qX7_functions : Cond.code zX7_functions.1 zX7_functions.2.1 zX7_functions.2.2.1 zX7_functions.2.2.2.1 ∈ zG := zmemT 1204 rfl rfl
set_option maxRecDepth 100000 in
theorem qX7_count : Cond.code zX7_count.1 zX7_count.2.1 zX7_count.2.2.1 zX7_count.2.2.2.1 ∈ zG := zmemT 1200 rfl rfl
set_option maxRecDepth 100000 in
theorem qX7_isShelf : Cond.code zX7_isShelf.1 zX7_isShelf.2.1 zX7_isShelf.2.2.1 zX7_isShelf.2.2.2.1 ∈ zG := zmemT 1211 rfl rfl
set_option maxRecDepth 100000 in
theorem qX7_kinds : Cond.code zX7_kinds.1 zX7_kinds.2.1 zX7_kinds.2.2.1 zX7_kinds.2.2.2.1 ∈ zG := zmemT 1215 rfl rfl
set_option maxRecDepth 100000 in
theorem qX7_keep : Cond.code zX7_keep.1 zX7_keep.2.1 zX7_keep.2.2.1 zX7_keep.2.2.2.1 ∈ zG := zmemT 1208 rfl rfl
set_option maxRecDepth 100000 in
theorem qX7_make : Cond.code zX7_make.1 zX7_make.2.1 zX7_make.2.2.1 zX7_make.2.2.2.1 ∈ zG := zmemT 1219 rfl rfl
set_option maxRecDepth 100000 in
theorem qX7_element : Cond.code zX7_element.1 zX7_element.2.1 zX7_element.2.2.1 zX7_element.2.2.2.1 ∈ zG := zmemT 1223 rfl rfl
set_option maxRecDepth 100000 in
theorem qX7_copy : Cond.code zX7_copy.1 zX7_copy.2.1 zX7_copy.2.2.1 zX7_copy.2.2.2.1 ∈ zG := zmemT 1227 rfl rfl
set_option maxRecDepth 100000 in
theorem qX7_held : Cond.code zX7_held.1 zX7_held.2.1 zX7_held.2.2.1 zX7_held.2.2.2.1 ∈ zG := zmemT 1235 rfl rfl
set_option maxRecDepth 100000 in
theorem qX7_weight : Cond.code zX7_weight.1 zX7_weight.2.1 zX7_weight.2.2.1 zX7_weight.2.2.2.1 ∈ zG := zmemT 1231 rfl rfl
set_option maxRecDepth 100000 in
theorem qX7_toss : Cond.code zX7_toss.1 zX7_toss.2.1 zX7_toss.2.2.1 zX7_toss.2.2.2.1 ∈ zG := zmemT 1239 rfl rfl
set_option maxRecDepth 100000 in
theorem qJ6_bitCount_0f7a4 : Cond.code zJ6_bitCount_0f7a4.1 zJ6_bitCount_0f7a4.2.1 zJ6_bitCount_0f7a4.2.2.1 zJ6_bitCount_0f7a4.2.2.2.1 ∈ zG := zmemT 604 rfl rfl
set_option maxRecDepth 100000 in
theorem qJ9_max_7cf53 : Cond.code zJ9_max_7cf53.1 zJ9_max_7cf53.2.1 zJ9_max_7cf53.2.2.1 zJ9_max_7cf53.2.2.2.1 ∈ zG := zmemT 246 rfl rfl
set_option maxRecDepth 100000 in
theorem qJ9_min_7cf53 : Cond.code zJ9_min_7cf53.1 zJ9_min_7cf53.2.1 zJ9_min_7cf53.2.2.1 zJ9_min_7cf53.2.2.2.1 ∈ zG := zmemT 783 rfl rfl
set_option maxRecDepth 100000 in
theorem qJ9_min_f86c9 : Cond.code zJ9_min_f86c9.1 zJ9_min_f86c9.2.1 zJ9_min_f86c9.2.2.1 zJ9_min_f86c9.2.2.2.1 ∈ zG := zmemT 465 rfl rfl
theorem zms_ok0 : ∀ z ∈ ([zX0_init, zX0_add, zX0_tally, zX0_waysOf, zX0_isBracketed, zX0_bareWays, zX0_kindByEnds, zX0_partFrom, zX0_partTo, zX0_numberIn, zX0_build, zX0_buildSpan, zX0_buildBare, zX0_buildPair, zX0_placeOf, zX0_placeIn, zX0_placeBare, zX0_placePair, zX1_isPair, zX1_isPrefix, zX1_hasBit, zX1_withBit, zX1_isDoubtful, zX2_init, zX2_has, zX2_isFull, zX2_sizeOf, zX2_partOf, zX2_put, zX2_addPart] : List zMt), Cond.code z.1 z.2.1 z.2.2.1 z.2.2.2.1 ∈ zG := List.forall_mem_cons.mpr ⟨qX0_init, List.forall_mem_cons.mpr ⟨qX0_add, List.forall_mem_cons.mpr ⟨qX0_tally, List.forall_mem_cons.mpr ⟨qX0_waysOf, List.forall_mem_cons.mpr ⟨qX0_isBracketed, List.forall_mem_cons.mpr ⟨qX0_bareWays, List.forall_mem_cons.mpr ⟨qX0_kindByEnds, List.forall_mem_cons.mpr ⟨qX0_partFrom, List.forall_mem_cons.mpr ⟨qX0_partTo, List.forall_mem_cons.mpr ⟨qX0_numberIn, List.forall_mem_cons.mpr ⟨qX0_build, List.forall_mem_cons.mpr ⟨qX0_buildSpan, List.forall_mem_cons.mpr ⟨qX0_buildBare, List.forall_mem_cons.mpr ⟨qX0_buildPair, List.forall_mem_cons.mpr ⟨qX0_placeOf, List.forall_mem_cons.mpr ⟨qX0_placeIn, List.forall_mem_cons.mpr ⟨qX0_placeBare, List.forall_mem_cons.mpr ⟨qX0_placePair, List.forall_mem_cons.mpr ⟨qX1_isPair, List.forall_mem_cons.mpr ⟨qX1_isPrefix, List.forall_mem_cons.mpr ⟨qX1_hasBit, List.forall_mem_cons.mpr ⟨qX1_withBit, List.forall_mem_cons.mpr ⟨qX1_isDoubtful, List.forall_mem_cons.mpr ⟨qX2_init, List.forall_mem_cons.mpr ⟨qX2_has, List.forall_mem_cons.mpr ⟨qX2_isFull, List.forall_mem_cons.mpr ⟨qX2_sizeOf, List.forall_mem_cons.mpr ⟨qX2_partOf, List.forall_mem_cons.mpr ⟨qX2_put, List.forall_mem_cons.mpr ⟨qX2_addPart, fun _ h => absurd h List.not_mem_nil⟩⟩⟩⟩⟩⟩⟩⟩⟩⟩⟩⟩⟩⟩⟩⟩⟩⟩⟩⟩⟩⟩⟩⟩⟩⟩⟩⟩⟩⟩
theorem zms_ok1 : ∀ z ∈ ([zX2_ownWords, zX2_firstAlike, zX2_shapeOf, zX2_isSameTop, zX2_isAlike, zX2_isRight, zX2_timesWithin, zX2_tallyOf, zX2_firstUnlike, zX2_differenceOf, zX2_exchangesOf, zX2_layKinds, zX2_difference, zX2_exchanges, zX2_layKindsFrom, zX3_init, zX3_drop, zX3_holdNode, zX3_holdNoughts, zX3_holdRow, zX3_hasRow, zX3_hasSpan, zX3_weighNode, zX4_init, zX4_isTooLong, zX4_sayInStyle, zX4_saySparingly, zX4_isSameAs, zX4_tell, zX4_tellBare] : List zMt), Cond.code z.1 z.2.1 z.2.2.1 z.2.2.2.1 ∈ zG := List.forall_mem_cons.mpr ⟨qX2_ownWords, List.forall_mem_cons.mpr ⟨qX2_firstAlike, List.forall_mem_cons.mpr ⟨qX2_shapeOf, List.forall_mem_cons.mpr ⟨qX2_isSameTop, List.forall_mem_cons.mpr ⟨qX2_isAlike, List.forall_mem_cons.mpr ⟨qX2_isRight, List.forall_mem_cons.mpr ⟨qX2_timesWithin, List.forall_mem_cons.mpr ⟨qX2_tallyOf, List.forall_mem_cons.mpr ⟨qX2_firstUnlike, List.forall_mem_cons.mpr ⟨qX2_differenceOf, List.forall_mem_cons.mpr ⟨qX2_exchangesOf, List.forall_mem_cons.mpr ⟨qX2_layKinds, List.forall_mem_cons.mpr ⟨qX2_difference, List.forall_mem_cons.mpr ⟨qX2_exchanges, List.forall_mem_cons.mpr ⟨qX2_layKindsFrom, List.forall_mem_cons.mpr ⟨qX3_init, List.forall_mem_cons.mpr ⟨qX3_drop, List.forall_mem_cons.mpr ⟨qX3_holdNode, List.forall_mem_cons.mpr ⟨qX3_holdNoughts, List.forall_mem_cons.mpr ⟨qX3_holdRow, List.forall_mem_cons.mpr ⟨qX3_hasRow, List.forall_mem_cons.mpr ⟨qX3_hasSpan, List.forall_mem_cons.mpr ⟨qX3_weighNode, List.forall_mem_cons.mpr ⟨qX4_init, List.forall_mem_cons.mpr ⟨qX4_isTooLong, List.forall_mem_cons.mpr ⟨qX4_sayInStyle, List.forall_mem_cons.mpr ⟨qX4_saySparingly, List.forall_mem_cons.mpr ⟨qX4_isSameAs, List.forall_mem_cons.mpr ⟨qX4_tell, List.forall_mem_cons.mpr ⟨qX4_tellBare, fun _ h => absurd h List.not_mem_nil⟩⟩⟩⟩⟩⟩⟩⟩⟩⟩⟩⟩⟩⟩⟩⟩⟩⟩⟩⟩⟩⟩⟩⟩⟩⟩⟩⟩⟩⟩
theorem zms_ok2 : ∀ z ∈ ([zX4_isPartKept, zX4_addDigits, zX4_add, zX5_init, zX5_isBegun, zX5_top, zX5_here, zX5_beginAt, zX5_stepDown, zX5_stepUp, zX5_stepBeside, zX5_asNumber, zX5_follow, zX5_leadsSomewhere, zX6_init, zX6_leaf, zX6_node, zX6_undo, zX6_means, zX6_look, zX6_alike, zX6_times, zX6_keeps, zX6_words, zX6_word, zX6_sound, zX6_clear, zX6_hear, zX6_listen, zX6_hush] : List zMt), Cond.code z.1 z.2.1 z.2.2.1 z.2.2.2.1 ∈ zG := List.forall_mem_cons.mpr ⟨qX4_isPartKept, List.forall_mem_cons.mpr ⟨qX4_addDigits, List.forall_mem_cons.mpr ⟨qX4_add, List.forall_mem_cons.mpr ⟨qX5_init, List.forall_mem_cons.mpr ⟨qX5_isBegun, List.forall_mem_cons.mpr ⟨qX5_top, List.forall_mem_cons.mpr ⟨qX5_here, List.forall_mem_cons.mpr ⟨qX5_beginAt, List.forall_mem_cons.mpr ⟨qX5_stepDown, List.forall_mem_cons.mpr ⟨qX5_stepUp, List.forall_mem_cons.mpr ⟨qX5_stepBeside, List.forall_mem_cons.mpr ⟨qX5_asNumber, List.forall_mem_cons.mpr ⟨qX5_follow, List.forall_mem_cons.mpr ⟨qX5_leadsSomewhere, List.forall_mem_cons.mpr ⟨qX6_init, List.forall_mem_cons.mpr ⟨qX6_leaf, List.forall_mem_cons.mpr ⟨qX6_node, List.forall_mem_cons.mpr ⟨qX6_undo, List.forall_mem_cons.mpr ⟨qX6_means, List.forall_mem_cons.mpr ⟨qX6_look, List.forall_mem_cons.mpr ⟨qX6_alike, List.forall_mem_cons.mpr ⟨qX6_times, List.forall_mem_cons.mpr ⟨qX6_keeps, List.forall_mem_cons.mpr ⟨qX6_words, List.forall_mem_cons.mpr ⟨qX6_word, List.forall_mem_cons.mpr ⟨qX6_sound, List.forall_mem_cons.mpr ⟨qX6_clear, List.forall_mem_cons.mpr ⟨qX6_hear, List.forall_mem_cons.mpr ⟨qX6_listen, List.forall_mem_cons.mpr ⟨qX6_hush, fun _ h => absurd h List.not_mem_nil⟩⟩⟩⟩⟩⟩⟩⟩⟩⟩⟩⟩⟩⟩⟩⟩⟩⟩⟩⟩⟩⟩⟩⟩⟩⟩⟩⟩⟩⟩
theorem zms_ok3 : ∀ z ∈ ([zX6_ear, zX6_readings, zX6_write, zX6_place, zX6_doubt, zX6_fewest, zX6_walk, zX6_go, zX6_where, zX6_lead, zX6_glance, zX6_changed, zX6_exchanged, zX6_count, zX6_keep, zX6_make, zX6_element, zX6_copy, zX6_weight, zX6_toss, zX6_isLetter, zX6_isStyle, zX6_isStyleOrFree, zX6_isShelf, zX6_orMissing, zX6_digitOf, zX6_hearSpeech, zX6_tallyIn, zX6_keepNode, zX6_nodeRefusal] : List zMt), Cond.code z.1 z.2.1 z.2.2.1 z.2.2.2.1 ∈ zG := List.forall_mem_cons.mpr ⟨qX6_ear, List.forall_mem_cons.mpr ⟨qX6_readings, List.forall_mem_cons.mpr ⟨qX6_write, List.forall_mem_cons.mpr ⟨qX6_place, List.forall_mem_cons.mpr ⟨qX6_doubt, List.forall_mem_cons.mpr ⟨qX6_fewest, List.forall_mem_cons.mpr ⟨qX6_walk, List.forall_mem_cons.mpr ⟨qX6_go, List.forall_mem_cons.mpr ⟨qX6_where, List.forall_mem_cons.mpr ⟨qX6_lead, List.forall_mem_cons.mpr ⟨qX6_glance, List.forall_mem_cons.mpr ⟨qX6_changed, List.forall_mem_cons.mpr ⟨qX6_exchanged, List.forall_mem_cons.mpr ⟨qX6_count, List.forall_mem_cons.mpr ⟨qX6_keep, List.forall_mem_cons.mpr ⟨qX6_make, List.forall_mem_cons.mpr ⟨qX6_element, List.forall_mem_cons.mpr ⟨qX6_copy, List.forall_mem_cons.mpr ⟨qX6_weight, List.forall_mem_cons.mpr ⟨qX6_toss, List.forall_mem_cons.mpr ⟨qX6_isLetter, List.forall_mem_cons.mpr ⟨qX6_isStyle, List.forall_mem_cons.mpr ⟨qX6_isStyleOrFree, List.forall_mem_cons.mpr ⟨qX6_isShelf, List.forall_mem_cons.mpr ⟨qX6_orMissing, List.forall_mem_cons.mpr ⟨qX6_digitOf, List.forall_mem_cons.mpr ⟨qX6_hearSpeech, List.forall_mem_cons.mpr ⟨qX6_tallyIn, List.forall_mem_cons.mpr ⟨qX6_keepNode, List.forall_mem_cons.mpr ⟨qX6_nodeRefusal, fun _ h => absurd h List.not_mem_nil⟩⟩⟩⟩⟩⟩⟩⟩⟩⟩⟩⟩⟩⟩⟩⟩⟩⟩⟩⟩⟩⟩⟩⟩⟩⟩⟩⟩⟩⟩
theorem zms_ok4 : ∀ z ∈ ([zX7_init, zX7_thrown, zX7_in, zX7_isNode, zX7_isTwo, zX7_mayKeep, zX7_isStyle, zX7_sets, zX7_leaf, zX7_node, zX7_undo, zX7_means, zX7_isRight, zX7_look, zX7_areAlike, zX7_alike, zX7_has, zX7_times, zX7_keeps, zX7_digits, zX7_own, zX7_length, zX7_says, zX7_keepsIt, zX7_say, zX7_sayAll, zX7_words, zX7_word, zX7_sound, zX7_adds] : List zMt), Cond.code z.1 z.2.1 z.2.2.1 z.2.2.2.1 ∈ zG := List.forall_mem_cons.mpr ⟨qX7_init, List.forall_mem_cons.mpr ⟨qX7_thrown, List.forall_mem_cons.mpr ⟨qX7_in, List.forall_mem_cons.mpr ⟨qX7_isNode, List.forall_mem_cons.mpr ⟨qX7_isTwo, List.forall_mem_cons.mpr ⟨qX7_mayKeep, List.forall_mem_cons.mpr ⟨qX7_isStyle, List.forall_mem_cons.mpr ⟨qX7_sets, List.forall_mem_cons.mpr ⟨qX7_leaf, List.forall_mem_cons.mpr ⟨qX7_node, List.forall_mem_cons.mpr ⟨qX7_undo, List.forall_mem_cons.mpr ⟨qX7_means, List.forall_mem_cons.mpr ⟨qX7_isRight, List.forall_mem_cons.mpr ⟨qX7_look, List.forall_mem_cons.mpr ⟨qX7_areAlike, List.forall_mem_cons.mpr ⟨qX7_alike, List.forall_mem_cons.mpr ⟨qX7_has, List.forall_mem_cons.mpr ⟨qX7_times, List.forall_mem_cons.mpr ⟨qX7_keeps, List.forall_mem_cons.mpr ⟨qX7_digits, List.forall_mem_cons.mpr ⟨qX7_own, List.forall_mem_cons.mpr ⟨qX7_length, List.forall_mem_cons.mpr ⟨qX7_says, List.forall_mem_cons.mpr ⟨qX7_keepsIt, List.forall_mem_cons.mpr ⟨qX7_say, List.forall_mem_cons.mpr ⟨qX7_sayAll, List.forall_mem_cons.mpr ⟨qX7_words, List.forall_mem_cons.mpr ⟨qX7_word, List.forall_mem_cons.mpr ⟨qX7_sound, List.forall_mem_cons.mpr ⟨qX7_adds, fun _ h => absurd h List.not_mem_nil⟩⟩⟩⟩⟩⟩⟩⟩⟩⟩⟩⟩⟩⟩⟩⟩⟩⟩⟩⟩⟩⟩⟩⟩⟩⟩⟩⟩⟩⟩
theorem zms_ok5 : ∀ z ∈ ([zX7_grows, zX7_isSame, zX7_clear, zX7_hear, zX7_listen, zX7_hears, zX7_hush, zX7_ear, zX7_times_, zX7_plus, zX7_isLet, zX7_isNumber, zX7_within, zX7_reckons, zX7_counted, zX7_readings, zX7_makes, zX7_takes, zX7_takesTwo, zX7_write, zX7_copies, zX7_rank, zX7_inner, zX7_innerTwo, zX7_place, zX7_doubt, zX7_keepable, zX7_bits, zX7_fewest, zX7_isOnly] : List zMt), Cond.code z.1 z.2.1 z.2.2.1 z.2.2.2.1 ∈ zG := List.forall_mem_cons.mpr ⟨qX7_grows, List.forall_mem_cons.mpr ⟨qX7_isSame, List.forall_mem_cons.mpr ⟨qX7_clear, List.forall_mem_cons.mpr ⟨qX7_hear, List.forall_mem_cons.mpr ⟨qX7_listen, List.forall_mem_cons.mpr ⟨qX7_hears, List.forall_mem_cons.mpr ⟨qX7_hush, List.forall_mem_cons.mpr ⟨qX7_ear, List.forall_mem_cons.mpr ⟨qX7_times_, List.forall_mem_cons.mpr ⟨qX7_plus, List.forall_mem_cons.mpr ⟨qX7_isLet, List.forall_mem_cons.mpr ⟨qX7_isNumber, List.forall_mem_cons.mpr ⟨qX7_within, List.forall_mem_cons.mpr ⟨qX7_reckons, List.forall_mem_cons.mpr ⟨qX7_counted, List.forall_mem_cons.mpr ⟨qX7_readings, List.forall_mem_cons.mpr ⟨qX7_makes, List.forall_mem_cons.mpr ⟨qX7_takes, List.forall_mem_cons.mpr ⟨qX7_takesTwo, List.forall_mem_cons.mpr ⟨qX7_write, List.forall_mem_cons.mpr ⟨qX7_copies, List.forall_mem_cons.mpr ⟨qX7_rank, List.forall_mem_cons.mpr ⟨qX7_inner, List.forall_mem_cons.mpr ⟨qX7_innerTwo, List.forall_mem_cons.mpr ⟨qX7_place, List.forall_mem_cons.mpr ⟨qX7_doubt, List.forall_mem_cons.mpr ⟨qX7_keepable, List.forall_mem_cons.mpr ⟨qX7_bits, List.forall_mem_cons.mpr ⟨qX7_fewest, List.forall_mem_cons.mpr ⟨qX7_isOnly, fun _ h => absurd h List.not_mem_nil⟩⟩⟩⟩⟩⟩⟩⟩⟩⟩⟩⟩⟩⟩⟩⟩⟩⟩⟩⟩⟩⟩⟩⟩⟩⟩⟩⟩⟩⟩
theorem zms_ok6 : ∀ z ∈ ([zX7_walk, zX7_down, zX7_go, zX7_where, zX7_lead, zX7_glanced, zX7_glance, zX7_inside, zX7_difference, zX7_wholes, zX7_changed, zX7_exchanged, zX7_functions, zX7_count, zX7_isShelf, zX7_kinds, zX7_keep, zX7_make, zX7_element, zX7_copy, zX7_held, zX7_weight, zX7_toss, zJ6_bitCount_0f7a4, zJ9_max_7cf53, zJ9_min_7cf53, zJ9_min_f86c9] : List zMt), Cond.code z.1 z.2.1 z.2.2.1 z.2.2.2.1 ∈ zG := List.forall_mem_cons.mpr ⟨qX7_walk, List.forall_mem_cons.mpr ⟨qX7_down, List.forall_mem_cons.mpr ⟨qX7_go, List.forall_mem_cons.mpr ⟨qX7_where, List.forall_mem_cons.mpr ⟨qX7_lead, List.forall_mem_cons.mpr ⟨qX7_glanced, List.forall_mem_cons.mpr ⟨qX7_glance, List.forall_mem_cons.mpr ⟨qX7_inside, List.forall_mem_cons.mpr ⟨qX7_difference, List.forall_mem_cons.mpr ⟨qX7_wholes, List.forall_mem_cons.mpr ⟨qX7_changed, List.forall_mem_cons.mpr ⟨qX7_exchanged, List.forall_mem_cons.mpr ⟨qX7_functions, List.forall_mem_cons.mpr ⟨qX7_count, List.forall_mem_cons.mpr ⟨qX7_isShelf, List.forall_mem_cons.mpr ⟨qX7_kinds, List.forall_mem_cons.mpr ⟨qX7_keep, List.forall_mem_cons.mpr ⟨qX7_make, List.forall_mem_cons.mpr ⟨qX7_element, List.forall_mem_cons.mpr ⟨qX7_copy, List.forall_mem_cons.mpr ⟨qX7_held, List.forall_mem_cons.mpr ⟨qX7_weight, List.forall_mem_cons.mpr ⟨qX7_toss, List.forall_mem_cons.mpr ⟨qJ6_bitCount_0f7a4, List.forall_mem_cons.mpr ⟨qJ9_max_7cf53, List.forall_mem_cons.mpr ⟨qJ9_min_7cf53, List.forall_mem_cons.mpr ⟨qJ9_min_f86c9, fun _ h => absurd h List.not_mem_nil⟩⟩⟩⟩⟩⟩⟩⟩⟩⟩⟩⟩⟩⟩⟩⟩⟩⟩⟩⟩⟩⟩⟩⟩⟩⟩⟩
theorem zms_ok : ∀ z ∈ zms, Cond.code z.1 z.2.1 z.2.2.1 z.2.2.2.1 ∈ zG := by
  show ∀ z ∈ ([zX0_init, zX0_add, zX0_tally, zX0_waysOf, zX0_isBracketed, zX0_bareWays, zX0_kindByEnds, zX0_partFrom, zX0_partTo, zX0_numberIn, zX0_build, zX0_buildSpan, zX0_buildBare, zX0_buildPair, zX0_placeOf, zX0_placeIn, zX0_placeBare, zX0_placePair, zX1_isPair, zX1_isPrefix, zX1_hasBit, zX1_withBit, zX1_isDoubtful, zX2_init, zX2_has, zX2_isFull, zX2_sizeOf, zX2_partOf, zX2_put, zX2_addPart] : List zMt) ++ (([zX2_ownWords, zX2_firstAlike, zX2_shapeOf, zX2_isSameTop, zX2_isAlike, zX2_isRight, zX2_timesWithin, zX2_tallyOf, zX2_firstUnlike, zX2_differenceOf, zX2_exchangesOf, zX2_layKinds, zX2_difference, zX2_exchanges, zX2_layKindsFrom, zX3_init, zX3_drop, zX3_holdNode, zX3_holdNoughts, zX3_holdRow, zX3_hasRow, zX3_hasSpan, zX3_weighNode, zX4_init, zX4_isTooLong, zX4_sayInStyle, zX4_saySparingly, zX4_isSameAs, zX4_tell, zX4_tellBare] : List zMt) ++ (([zX4_isPartKept, zX4_addDigits, zX4_add, zX5_init, zX5_isBegun, zX5_top, zX5_here, zX5_beginAt, zX5_stepDown, zX5_stepUp, zX5_stepBeside, zX5_asNumber, zX5_follow, zX5_leadsSomewhere, zX6_init, zX6_leaf, zX6_node, zX6_undo, zX6_means, zX6_look, zX6_alike, zX6_times, zX6_keeps, zX6_words, zX6_word, zX6_sound, zX6_clear, zX6_hear, zX6_listen, zX6_hush] : List zMt) ++ (([zX6_ear, zX6_readings, zX6_write, zX6_place, zX6_doubt, zX6_fewest, zX6_walk, zX6_go, zX6_where, zX6_lead, zX6_glance, zX6_changed, zX6_exchanged, zX6_count, zX6_keep, zX6_make, zX6_element, zX6_copy, zX6_weight, zX6_toss, zX6_isLetter, zX6_isStyle, zX6_isStyleOrFree, zX6_isShelf, zX6_orMissing, zX6_digitOf, zX6_hearSpeech, zX6_tallyIn, zX6_keepNode, zX6_nodeRefusal] : List zMt) ++ (([zX7_init, zX7_thrown, zX7_in, zX7_isNode, zX7_isTwo, zX7_mayKeep, zX7_isStyle, zX7_sets, zX7_leaf, zX7_node, zX7_undo, zX7_means, zX7_isRight, zX7_look, zX7_areAlike, zX7_alike, zX7_has, zX7_times, zX7_keeps, zX7_digits, zX7_own, zX7_length, zX7_says, zX7_keepsIt, zX7_say, zX7_sayAll, zX7_words, zX7_word, zX7_sound, zX7_adds] : List zMt) ++ (([zX7_grows, zX7_isSame, zX7_clear, zX7_hear, zX7_listen, zX7_hears, zX7_hush, zX7_ear, zX7_times_, zX7_plus, zX7_isLet, zX7_isNumber, zX7_within, zX7_reckons, zX7_counted, zX7_readings, zX7_makes, zX7_takes, zX7_takesTwo, zX7_write, zX7_copies, zX7_rank, zX7_inner, zX7_innerTwo, zX7_place, zX7_doubt, zX7_keepable, zX7_bits, zX7_fewest, zX7_isOnly] : List zMt) ++ (([zX7_walk, zX7_down, zX7_go, zX7_where, zX7_lead, zX7_glanced, zX7_glance, zX7_inside, zX7_difference, zX7_wholes, zX7_changed, zX7_exchanged, zX7_functions, zX7_count, zX7_isShelf, zX7_kinds, zX7_keep, zX7_make, zX7_element, zX7_copy, zX7_held, zX7_weight, zX7_toss, zJ6_bitCount_0f7a4, zJ9_max_7cf53, zJ9_min_7cf53, zJ9_min_f86c9] : List zMt))))))), Cond.code z.1 z.2.1 z.2.2.1 z.2.2.2.1 ∈ zG
  exact List.forall_mem_append.mpr ⟨zms_ok0, List.forall_mem_append.mpr ⟨zms_ok1, List.forall_mem_append.mpr ⟨zms_ok2, List.forall_mem_append.mpr ⟨zms_ok3, List.forall_mem_append.mpr ⟨zms_ok4, List.forall_mem_append.mpr ⟨zms_ok5, zms_ok6⟩⟩⟩⟩⟩⟩
end
section
section ZI
variable {M : zM} {al : Bool} {n0 kc ks pc nxt a b : Nat} {c0 : Int} {l : zL} {st : List Value} {w : zW} {Q : Option Value → zW → Prop} {tb : List zE}
/-- what a value list keeps when cells come -/
def zokv (n : Nat) : Value → Bool
  | .ref k => Nat.blt k n || Nat.ble zsent k
  | _ => true
theorem zokv_eq {n : Nat} {ad ad' : Nat → Nat} (h : ∀ k, (k < n ∨ zsent ≤ k) → ad' k = ad k) {v : Value} (hv : zokv n v = true) : zv ad' v = zv ad v := by
  cases v with
  | ref k =>
    simp only [zokv, Bool.or_eq_true] at hv
    show Value.ref (ad' k) = Value.ref (ad k)
    rw [h k (hv.elim (fun q => Or.inl (Nat.le_of_ble_eq_true q)) (fun q => Or.inr (Nat.le_of_ble_eq_true q)))]
  | _ => rfl
theorem zokv_map {n : Nat} {ad ad' : Nat → Nat} (h : ∀ k, (k < n ∨ zsent ≤ k) → ad' k = ad k) {r : List Value} (hr : r.all (zokv n) = true) : r.map (zv ad') = r.map (zv ad) :=
  List.map_congr_left fun v hv => zokv_eq h (List.all_eq_true.mp hr v hv)
theorem zokv_l {n : Nat} {ad ad' : Nat → Nat} (h : ∀ k, (k < n ∨ zsent ≤ k) → ad' k = ad k) {l : zL} (hr : l.all (fun q => zokv n q.2) = true) : zl ad' l = zl ad l :=
  List.map_congr_left fun q hq => by rw [zokv_eq h (List.all_eq_true.mp hr q hq)]
/-- behind a call: the callee makes no cells, or all references that the caller holds are of cells that were there -/
theorem zjoin {dC : Nat → ClassId} {dI : Nat → Nat → Nat} {dA : Nat → ClassId} {ad0 ad ad' : Nat → Nat} {A : Nat → Prop} {H0 H H1 : Heap} {locs locs1 : List Loc} {w w' : zW} {al' : Bool} {rest : List Value} {ls : Array Slot} {nL : Nat}
    (hrel : zrel dC dI dA ad0 ad A n0 al H0 H locs w) (hl : lv_has ls nL (zl ad l)) (hc : al' = false ∨ (al = true ∧ n0 ≤ w.length ∧ rest.all (zokv w.length) = true ∧ l.all (fun q => zokv w.length q.2) = true)) (hal : al' = false → ad' = ad) (had : ∀ k, (k < w.length ∨ zsent ≤ k) → ad' k = ad k) (hP : va_P (dC, dI) vwCl (zw dA ad' w') H1) (hD : va_D A (zw dA ad' w')) (hS : va_S A H0 H1 locs1) :
    zrel dC dI dA ad0 ad' A n0 al H0 H1 locs1 w' ∧ lv_has ls nL (zl ad' l) ∧ rest.map (zv ad') = rest.map (zv ad) := by
  rcases hc with hc | ⟨h1, h2, h3, h4⟩
  · have e := hal hc
    subst e
    exact ⟨⟨hrel.1, hrel.2.1, hP, hD, hS⟩, hl, rfl⟩
  · refine ⟨⟨(fun q => by rw [h1] at q; cases q), fun k hk => (had k (hk.imp (fun q => Nat.lt_of_lt_of_le q h2) id)).trans (hrel.2.1 k hk), hP, hD, hS⟩, by rw [zokv_l had h4]; exact hl, zokv_map had h3⟩
set_option maxHeartbeats 1000000 in
theorem zv_callV (ok : ∀ e ∈ tb, zgood M.1 M.2.1 M.2.2.1 M.2.2.2.1 e = true) (lk : ∀ e ∈ tb, zlk M.1 e = true) {idx : Nat} (hlook : zlook tb pc = some (.invokevirtual idx, pc + 3, a, b, c0)) {z : zMt} (hz : zms[a]? = some z) {As rest : List Value} {o d : Nat} {Qc : Option Value → zW → Prop}
    (hst : st = As.reverse ++ .ref o :: rest) (hn : As.length = b) {ci : Nat} {fs : List Value} {r0 : vw_C} (ho : w[o]? = some (zO ci fs)) (hci : vwCl[ci]? = some r0) (hcl : r0.1 = z.1.cls) (hcat : (rest.map fun v => v.category).sum ≤ 8)
    (hal : z.2.2.2.2.1 = false ∨ (al = true ∧ n0 ≤ w.length ∧ rest.all (zokv w.length) = true ∧ l.all (fun q => zokv w.length q.2) = true)) (hR : d + 1 ≤ M.2.2.2.2.1.frames ∧ 8 + (z.2.2.1 + 11) + 64 * d ≤ M.2.2.2.2.1.locals) (hf : kc + z.2.2.2.2.2.1 ≤ M.2.2.2.2.1.cells ∧ ks + z.2.2.2.2.2.2 ≤ M.2.2.2.2.1.slots)
    (hK : zK d z (.ref o :: As) w Qc) (kk : ∀ (r : Option Value) (w' : zW), Qc r w' → zV M al n0 (kc + z.2.2.2.2.2.1) (ks + z.2.2.2.2.2.2) (pc + 3) l (r.toList ++ rest) w' Q) : zV M al n0 kc ks pc l st w Q := by
  intro p l0 e s m args below meth c dC dI dA ad0 A Z hctx hfin ad H locs ls hrel hl
  have h1 := ok _ (zlook_mem hlook)
  have h2 := lk _ (zlook_mem hlook)
  simp only [zgood, Bool.and_eq_true, decide_eq_true_eq, Nat.add_sub_cancel_left] at h1
  simp only [zlk, hz, Bool.and_eq_true, decide_eq_true_eq] at h2
  obtain ⟨k1, k2, k3, k4, k5, k6, k7⟩ := h2
  obtain ⟨hx, hb, hml, hown, hts, hKc, hA, hin⟩ := id hctx
  obtain ⟨e1, e2, hP, hD, hS⟩ := id hrel
  have hc := zms_ok z (List.mem_of_getElem? hz)
  have hM := hK l0 dC dI dA ad H.size
  subst hst
  subst hn
  have cw : CallW M.2.2.2.2.1 s args M.1 z.1.cls idx z.1 z.2.1 z.2.2.1 z.2.2.2.1 (zws z) (zrm d z) z.2.2.2.2.2.1 z.2.2.2.2.2.2 As.length :=
    ⟨callB_of As.length hts (zgoodIn z hc) rfl rfl rfl (hts _ k4) (hts _ k1) ⟨k5, k6, k7⟩ hR, hts _ k2, hts _ k3⟩
  have hp : PreV s H z.1.cls (ad o) (zPc dC dI dA ad (.ref o :: As) w H.size) (As.map (zv ad)) :=
    ⟨zblind dC dI dA ad _ w H.size, hcl ▸ va_recv hKc hP hci (zw_at ho), fun U hU hW => ⟨rfl, by rw [hU], by rw [hU]; exact hP, va_K.moved hW.alike hKc, hD.weaken (fun _ _ _ _ => trivial)⟩⟩
  have hr := va_runV (g := F0 m pc ls ((As.reverse ++ .ref o :: rest).map (zv ad))) (As := As.map (zv ad)) (rest := rest.map (zv ad)) (cells := kc) (slots := ks) (locs := locs) (e := e) (below := below) (meth := meth) ⟨hx, hb, hml, hown, hts⟩ hM cw hp rfl (by rw [List.length_map]) hl.1 (by show List.map (zv ad) (As.reverse ++ .ref o :: rest) = _; rw [List.map_append, List.map_reverse]; rfl) (lv_room (by rw [zcats]; exact hcat)) h1.1.1 hf
  refine zafter hr hD hS hA (fun r w' ad' H1 locs1 hq hal' had hP1 hD1 hS1 => ?_)
  obtain ⟨j1, j2, j3⟩ := zjoin hrel hl hal hal' had hP1 hD1 hS1
  have k9 := kk r w' hq p l0 e s m args below meth c dC dI dA ad0 A Z hctx hfin ad' H1 locs1 ls j1 j2
  rw [← j3]
  rw [List.map_append] at k9
  cases r <;> exact k9
set_option maxHeartbeats 1000000 in
theorem zv_callS (ok : ∀ e ∈ tb, zgood M.1 M.2.1 M.2.2.1 M.2.2.2.1 e = true) (lk : ∀ e ∈ tb, zlk M.1 e = true) {idx : Nat} (hlook : zlook tb pc = some (.invokestatic idx, pc + 3, a, b, c0)) {z : zMt} (hz : zms[a]? = some z) {As rest : List Value} {d : Nat} {Qc : Option Value → zW → Prop}
    (hst : st = As.reverse ++ rest) (hn : As.length = b) (hcat : (rest.map fun v => v.category).sum ≤ 8)
    (hal : z.2.2.2.2.1 = false ∨ (al = true ∧ n0 ≤ w.length ∧ rest.all (zokv w.length) = true ∧ l.all (fun q => zokv w.length q.2) = true)) (hR : d + 1 ≤ M.2.2.2.2.1.frames ∧ 8 + (z.2.2.1 + 11) + 64 * d ≤ M.2.2.2.2.1.locals) (hf : kc + z.2.2.2.2.2.1 ≤ M.2.2.2.2.1.cells ∧ ks + z.2.2.2.2.2.2 ≤ M.2.2.2.2.1.slots)
    (hK : zK d z As w Qc) (kk : ∀ (r : Option Value) (w' : zW), Qc r w' → zV M al n0 (kc + z.2.2.2.2.2.1) (ks + z.2.2.2.2.2.2) (pc + 3) l (r.toList ++ rest) w' Q) : zV M al n0 kc ks pc l st w Q := by
  intro p l0 e s m args below meth c dC dI dA ad0 A Z hctx hfin ad H locs ls hrel hl
  have h1 := ok _ (zlook_mem hlook)
  have h2 := lk _ (zlook_mem hlook)
  simp only [zgood, Bool.and_eq_true, decide_eq_true_eq, Nat.add_sub_cancel_left] at h1
  simp only [zlk, hz, Bool.and_eq_true, decide_eq_true_eq] at h2
  obtain ⟨k1, k2, k4, k5, k6, k7⟩ := h2
  obtain ⟨hx, hb, hml, hown, hts, hKc, hA, hin⟩ := id hctx
  obtain ⟨e1, e2, hP, hD, hS⟩ := id hrel
  have hc := zms_ok z (List.mem_of_getElem? hz)
  have hM := hK l0 dC dI dA ad H.size
  subst hst
  subst hn
  have cw : CallB M.2.2.2.2.1 s args M.1 idx z.1 z.2.1 z.2.2.1 z.2.2.2.1 (zws z) (zrm d z) z.2.2.2.2.2.1 z.2.2.2.2.2.2 As.length ∧ (Cond.static z.1).before args s = true :=
    ⟨callB_of As.length hts (zgoodIn z hc) rfl rfl rfl (hts _ k4) (hts _ k1) ⟨k5, k6, k7⟩ hR, hts _ k2⟩
  have hp : PreS s H (zPc dC dI dA ad As w H.size) (As.map (zv ad)) :=
    ⟨zblind dC dI dA ad _ w H.size, fun U hU hW => ⟨rfl, by rw [hU], by rw [hU]; exact hP, va_K.moved hW.alike hKc, hD.weaken (fun _ _ _ _ => trivial)⟩⟩
  have hr := va_runS (g := F0 m pc ls ((As.reverse ++ rest).map (zv ad))) (As := As.map (zv ad)) (rest := rest.map (zv ad)) (cells := kc) (slots := ks) (locs := locs) (e := e) (below := below) (meth := meth) ⟨hx, hb, hml, hown, hts⟩ hM cw hp rfl (by rw [List.length_map]) hl.1 (by show List.map (zv ad) (As.reverse ++ rest) = _; rw [List.map_append, List.map_reverse]) (lv_room (by rw [zcats]; exact hcat)) h1.1.1 hf
  refine zafter hr hD hS hA (fun r w' ad' H1 locs1 hq hal' had hP1 hD1 hS1 => ?_)
  obtain ⟨j1, j2, j3⟩ := zjoin hrel hl hal hal' had hP1 hD1 hS1
  have k9 := kk r w' hq p l0 e s m args below meth c dC dI dA ad0 A Z hctx hfin ad' H1 locs1 ls j1 j2
  rw [← j3]
  rw [List.map_append] at k9
  cases r <;> exact k9
set_option maxHeartbeats 1000000 in
theorem zv_callI (ok : ∀ e ∈ tb, zgood M.1 M.2.1 M.2.2.1 M.2.2.2.1 e = true) (lk : ∀ e ∈ tb, zlk M.1 e = true) {idx : Nat} (hlook : zlook tb pc = some (.invokespecial idx, pc + 3, a, b, c0)) {z : zMt} (hz : zms[a]? = some z) {As rest : List Value} {o d : Nat} {Qc : Option Value → zW → Prop}
    (hst : st = As.reverse ++ .ref o :: rest) (hn : As.length = b) (hcat : (rest.map fun v => v.category).sum ≤ 8)
    (hal : z.2.2.2.2.1 = false ∨ (al = true ∧ n0 ≤ w.length ∧ rest.all (zokv w.length) = true ∧ l.all (fun q => zokv w.length q.2) = true)) (hR : d + 1 ≤ M.2.2.2.2.1.frames ∧ 8 + (z.2.2.1 + 11) + 64 * d ≤ M.2.2.2.2.1.locals) (hf : kc + z.2.2.2.2.2.1 ≤ M.2.2.2.2.1.cells ∧ ks + z.2.2.2.2.2.2 ≤ M.2.2.2.2.1.slots)
    (hK : zK d z (.ref o :: As) w Qc) (kk : ∀ (r : Option Value) (w' : zW), Qc r w' → zV M al n0 (kc + z.2.2.2.2.2.1) (ks + z.2.2.2.2.2.2) (pc + 3) l (r.toList ++ rest) w' Q) : zV M al n0 kc ks pc l st w Q := by
  intro p l0 e s m args below meth c dC dI dA ad0 A Z hctx hfin ad H locs ls hrel hl
  have h1 := ok _ (zlook_mem hlook)
  have h2 := lk _ (zlook_mem hlook)
  simp only [zgood, Bool.and_eq_true, decide_eq_true_eq, Nat.add_sub_cancel_left] at h1
  simp only [zlk, hz, Bool.and_eq_true, decide_eq_true_eq] at h2
  obtain ⟨k1, k2, k3, k4, k5, k6, k7, k8⟩ := h2
  obtain ⟨hx, hb, hml, hown, hts, hKc, hA, hin⟩ := id hctx
  obtain ⟨e1, e2, hP, hD, hS⟩ := id hrel
  have hc := zms_ok z (List.mem_of_getElem? hz)
  have hM := hK l0 dC dI dA ad H.size
  subst hst
  subst hn
  have cw : CallB M.2.2.2.2.1 s args M.1 idx z.1 z.2.1 z.2.2.1 none (zws z) (zrm d z) z.2.2.2.2.2.1 z.2.2.2.2.2.2 As.length ∧ z.1.name = "<init>" ∧ (Cond.instanceMethod z.1).before args s = true :=
    ⟨k8 ▸ callB_of (ret := z.2.2.2.1) As.length hts (zgoodIn z hc) rfl rfl rfl (hts _ k4) (hts _ k1) ⟨k5, k6, k7⟩ hR, k3, hts _ k2⟩
  have hp : PreS s H (zPc dC dI dA ad (.ref o :: As) w H.size) (.ref (ad o) :: As.map (zv ad)) :=
    ⟨zblind dC dI dA ad _ w H.size, fun U hU hW => ⟨rfl, by rw [hU], by rw [hU]; exact hP, va_K.moved hW.alike hKc, hD.weaken (fun _ _ _ _ => trivial)⟩⟩
  have hr := va_runI (g := F0 m pc ls ((As.reverse ++ .ref o :: rest).map (zv ad))) (As := As.map (zv ad)) (rest := rest.map (zv ad)) (cells := kc) (slots := ks) (locs := locs) (e := e) (below := below) (meth := meth) ⟨hx, hb, hml, hown, hts⟩ hM cw hp rfl (by rw [List.length_map]) hl.1 (by show List.map (zv ad) (As.reverse ++ .ref o :: rest) = _; rw [List.map_append, List.map_reverse]; rfl) (lv_room (by rw [zcats]; exact hcat)) h1.1.1 hf
  refine zafter hr hD hS hA (fun r w' ad' H1 locs1 hq hal' had hP1 hD1 hS1 => ?_)
  obtain ⟨j1, j2, j3⟩ := zjoin hrel hl hal hal' had hP1 hD1 hS1
  have k9 := kk r w' hq p l0 e s m args below meth c dC dI dA ad0 A Z hctx hfin ad' H1 locs1 ls j1 j2
  rw [← j3]
  rw [List.map_append] at k9
  cases r <;> exact k9
/-- Object's own constructor -/
theorem zv_obj (ok : ∀ e ∈ tb, zgood M.1 M.2.1 M.2.2.1 M.2.2.2.1 e = true) (lk : ∀ e ∈ tb, zlk M.1 e = true) {idx : Nat} (hlook : zlook tb pc = some (.invokespecial idx, pc + 3, 9999, b, c0)) (h99 : zms[9999]? = none) {o : Nat} {rest : List Value} (hcat : (rest.map fun v => v.category).sum ≤ 8) (hR : 1 ≤ M.2.2.2.2.1.frames ∧ 20 ≤ M.2.2.2.2.1.locals)
    (kk : zV M al n0 kc ks (pc + 3) l rest w Q) : zV M al n0 kc ks pc l (.ref o :: rest) w Q := by
  intro p l0 e s m args below meth c dC dI dA ad0 A Z hctx hfin ad H locs ls hrel hl
  have h1 := ok _ (zlook_mem hlook)
  have h2 := lk _ (zlook_mem hlook)
  simp only [zgood, Bool.and_eq_true, decide_eq_true_eq, Nat.add_sub_cancel_left] at h1
  simp only [zlk, h99] at h2
  have h3 : (decide (Cond.methodLink M.1 idx Lib.objectInit ∈ zG) && (decide (Cond.instanceMethod Lib.objectInit ∈ zG) && decide (Cond.code Lib.objectInit ⟨#[0xb1]⟩ 1 none ∈ zG))) = true := h2
  simp only [Bool.and_eq_true, decide_eq_true_eq] at h3
  obtain ⟨hx, hb, hml, hown, hts, hKc, hA, hin⟩ := id hctx
  refine W.objInit (g := F0 m pc ls (.ref (ad o) :: rest.map (zv ad))) hx hb hown (hts _ h3.1) (hts _ h3.2.1) (hts _ h3.2.2) rfl (hl.1.trans hml.symm) rfl h1.1.1 hR.1 ?_ (kk p l0 e s m args below meth c dC dI dA ad0 A Z hctx hfin ad H locs ls hrel hl)
  have h4 : (((rest.map (zv ad)).map fun v => v.category).sum) ≤ 8 := by rw [zcats]; exact hcat
  have h5 := lv_room (m := m) (pc := pc) (ls := ls) (rest := .ref (ad o) :: rest.map (zv ad)) h4
  omega
end ZI
end
