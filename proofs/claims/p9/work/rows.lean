section
theorem zlib_use : True := by
  have _ := @Stand.outThrough
  trivial
end
section
-- ===== PART A: goes FIRST, ahead of the names: the tables' words, and 'selects' of the private methods out of them =====
/-- a private method of a class that the tables say can be made, by its rows of tables_1 -/
def lw_okq (q : MethodName × Nat) : Prop := (q.1.cls ≠ "java/lang/invoke/MethodHandle" ∧ q.1.cls ≠ "java/lang/invoke/VarHandle") ∧ Cond.instantiable q.1.cls q.2 ∈ tables_1 ∧ Cond.privateMethod q.1 ∈ tables_1 ∧ Cond.instanceMethod q.1 ∈ tables_1
theorem lw_p0 : lw_okq (⟨"FormulaVoice$Page", "addPart", "(II)V"⟩, 13) := ⟨⟨by decide +kernel, by decide +kernel⟩, List.mem_of_getElem? (i := 26) (by decide +kernel), List.mem_of_getElem? (i := 237) (by decide +kernel), List.mem_of_getElem? (i := 238) (by decide +kernel)⟩
theorem lw_p1 : lw_okq (⟨"FormulaVoice$Page", "firstAlike", "(I)I"⟩, 13) := ⟨⟨by decide +kernel, by decide +kernel⟩, List.mem_of_getElem? (i := 26) (by decide +kernel), List.mem_of_getElem? (i := 248) (by decide +kernel), List.mem_of_getElem? (i := 249) (by decide +kernel)⟩
theorem lw_p2 : lw_okq (⟨"FormulaVoice$Page", "shapeOf", "(I)I"⟩, 13) := ⟨⟨by decide +kernel, by decide +kernel⟩, List.mem_of_getElem? (i := 26) (by decide +kernel), List.mem_of_getElem? (i := 256) (by decide +kernel), List.mem_of_getElem? (i := 257) (by decide +kernel)⟩
theorem lw_p3 : lw_okq (⟨"FormulaVoice$Page", "tallyOf", "(I)I"⟩, 13) := ⟨⟨by decide +kernel, by decide +kernel⟩, List.mem_of_getElem? (i := 26) (by decide +kernel), List.mem_of_getElem? (i := 322) (by decide +kernel), List.mem_of_getElem? (i := 323) (by decide +kernel)⟩
theorem lw_p4 : lw_okq (⟨"FormulaVoice$Speech", "tell", "(LFormulaVoice$Page;IZI)V"⟩, 4) := ⟨⟨by decide +kernel, by decide +kernel⟩, List.mem_of_getElem? (i := 90) (by decide +kernel), List.mem_of_getElem? (i := 343) (by decide +kernel), List.mem_of_getElem? (i := 344) (by decide +kernel)⟩
theorem lw_p5 : lw_okq (⟨"FormulaVoice$Speech", "add", "(I)V"⟩, 4) := ⟨⟨by decide +kernel, by decide +kernel⟩, List.mem_of_getElem? (i := 90) (by decide +kernel), List.mem_of_getElem? (i := 348) (by decide +kernel), List.mem_of_getElem? (i := 349) (by decide +kernel)⟩
theorem lw_p6 : lw_okq (⟨"FormulaVoice$Speech", "tellBare", "(LFormulaVoice$Page;II)V"⟩, 4) := ⟨⟨by decide +kernel, by decide +kernel⟩, List.mem_of_getElem? (i := 90) (by decide +kernel), List.mem_of_getElem? (i := 352) (by decide +kernel), List.mem_of_getElem? (i := 353) (by decide +kernel)⟩
theorem lw_p7 : lw_okq (⟨"FormulaVoice$Speech", "isPartKept", "(LFormulaVoice$Page;IIZ)Z"⟩, 4) := ⟨⟨by decide +kernel, by decide +kernel⟩, List.mem_of_getElem? (i := 90) (by decide +kernel), List.mem_of_getElem? (i := 356) (by decide +kernel), List.mem_of_getElem? (i := 357) (by decide +kernel)⟩
theorem lw_p8 : lw_okq (⟨"FormulaVoice$Speech", "addDigits", "(I)V"⟩, 4) := ⟨⟨by decide +kernel, by decide +kernel⟩, List.mem_of_getElem? (i := 90) (by decide +kernel), List.mem_of_getElem? (i := 367) (by decide +kernel), List.mem_of_getElem? (i := 368) (by decide +kernel)⟩
theorem lw_p9 : lw_okq (⟨"FormulaVoice", "hearSpeech", "()I"⟩, 9) := ⟨⟨by decide +kernel, by decide +kernel⟩, List.mem_of_getElem? (i := 18) (by decide +kernel), List.mem_of_getElem? (i := 408) (by decide +kernel), List.mem_of_getElem? (i := 409) (by decide +kernel)⟩
theorem lw_p10 : lw_okq (⟨"FormulaVoice", "tallyIn", "(I)J"⟩, 9) := ⟨⟨by decide +kernel, by decide +kernel⟩, List.mem_of_getElem? (i := 18) (by decide +kernel), List.mem_of_getElem? (i := 427) (by decide +kernel), List.mem_of_getElem? (i := 428) (by decide +kernel)⟩
theorem lw_p11 : lw_okq (⟨"FormulaVoice$Hearing", "waysOf", "(III)J"⟩, 6) := ⟨⟨by decide +kernel, by decide +kernel⟩, List.mem_of_getElem? (i := 111) (by decide +kernel), List.mem_of_getElem? (i := 435) (by decide +kernel), List.mem_of_getElem? (i := 436) (by decide +kernel)⟩
theorem lw_p12 : lw_okq (⟨"FormulaVoice$Hearing", "bareWays", "(III)J"⟩, 6) := ⟨⟨by decide +kernel, by decide +kernel⟩, List.mem_of_getElem? (i := 111) (by decide +kernel), List.mem_of_getElem? (i := 439) (by decide +kernel), List.mem_of_getElem? (i := 440) (by decide +kernel)⟩
theorem lw_p13 : lw_okq (⟨"FormulaVoice$Hearing", "kindByEnds", "(II)I"⟩, 6) := ⟨⟨by decide +kernel, by decide +kernel⟩, List.mem_of_getElem? (i := 111) (by decide +kernel), List.mem_of_getElem? (i := 445) (by decide +kernel), List.mem_of_getElem? (i := 446) (by decide +kernel)⟩
theorem lw_p14 : lw_okq (⟨"FormulaVoice$Hearing", "numberIn", "(II)I"⟩, 6) := ⟨⟨by decide +kernel, by decide +kernel⟩, List.mem_of_getElem? (i := 111) (by decide +kernel), List.mem_of_getElem? (i := 449) (by decide +kernel), List.mem_of_getElem? (i := 450) (by decide +kernel)⟩
theorem lw_p15 : lw_okq (⟨"FormulaVoice$Hearing", "isBracketed", "(II)Z"⟩, 6) := ⟨⟨by decide +kernel, by decide +kernel⟩, List.mem_of_getElem? (i := 111) (by decide +kernel), List.mem_of_getElem? (i := 459) (by decide +kernel), List.mem_of_getElem? (i := 460) (by decide +kernel)⟩
def lw_privs_1 : List (MethodName × Nat) := [(⟨"FormulaVoice$Page", "addPart", "(II)V"⟩, 13), (⟨"FormulaVoice$Page", "firstAlike", "(I)I"⟩, 13), (⟨"FormulaVoice$Page", "shapeOf", "(I)I"⟩, 13), (⟨"FormulaVoice$Page", "tallyOf", "(I)I"⟩, 13), (⟨"FormulaVoice$Speech", "tell", "(LFormulaVoice$Page;IZI)V"⟩, 4), (⟨"FormulaVoice$Speech", "add", "(I)V"⟩, 4), (⟨"FormulaVoice$Speech", "tellBare", "(LFormulaVoice$Page;II)V"⟩, 4), (⟨"FormulaVoice$Speech", "isPartKept", "(LFormulaVoice$Page;IIZ)Z"⟩, 4), (⟨"FormulaVoice$Speech", "addDigits", "(I)V"⟩, 4), (⟨"FormulaVoice", "hearSpeech", "()I"⟩, 9), (⟨"FormulaVoice", "tallyIn", "(I)J"⟩, 9), (⟨"FormulaVoice$Hearing", "waysOf", "(III)J"⟩, 6), (⟨"FormulaVoice$Hearing", "bareWays", "(III)J"⟩, 6), (⟨"FormulaVoice$Hearing", "kindByEnds", "(II)I"⟩, 6), (⟨"FormulaVoice$Hearing", "numberIn", "(II)I"⟩, 6), (⟨"FormulaVoice$Hearing", "isBracketed", "(II)Z"⟩, 6)]
theorem lw_r1 : ∀ q ∈ lw_privs_1, lw_okq q := List.forall_mem_cons.mpr ⟨lw_p0, List.forall_mem_cons.mpr ⟨lw_p1, List.forall_mem_cons.mpr ⟨lw_p2, List.forall_mem_cons.mpr ⟨lw_p3, List.forall_mem_cons.mpr ⟨lw_p4, List.forall_mem_cons.mpr ⟨lw_p5, List.forall_mem_cons.mpr ⟨lw_p6, List.forall_mem_cons.mpr ⟨lw_p7, List.forall_mem_cons.mpr ⟨lw_p8, List.forall_mem_cons.mpr ⟨lw_p9, List.forall_mem_cons.mpr ⟨lw_p10, List.forall_mem_cons.mpr ⟨lw_p11, List.forall_mem_cons.mpr ⟨lw_p12, List.forall_mem_cons.mpr ⟨lw_p13, List.forall_mem_cons.mpr ⟨lw_p14, List.forall_mem_cons.mpr ⟨lw_p15, fun _ h => absurd h List.not_mem_nil⟩⟩⟩⟩⟩⟩⟩⟩⟩⟩⟩⟩⟩⟩⟩⟩
theorem lw_p16 : lw_okq (⟨"FormulaVoice$Hearing", "buildSpan", "(LFormulaVoice$Page;IIJ)I"⟩, 6) := ⟨⟨by decide +kernel, by decide +kernel⟩, List.mem_of_getElem? (i := 111) (by decide +kernel), List.mem_of_getElem? (i := 471) (by decide +kernel), List.mem_of_getElem? (i := 472) (by decide +kernel)⟩
theorem lw_p17 : lw_okq (⟨"FormulaVoice$Hearing", "buildBare", "(LFormulaVoice$Page;IIIJ)I"⟩, 6) := ⟨⟨by decide +kernel, by decide +kernel⟩, List.mem_of_getElem? (i := 111) (by decide +kernel), List.mem_of_getElem? (i := 475) (by decide +kernel), List.mem_of_getElem? (i := 476) (by decide +kernel)⟩
theorem lw_p18 : lw_okq (⟨"FormulaVoice$Hearing", "buildPair", "(LFormulaVoice$Page;IIIJ)I"⟩, 6) := ⟨⟨by decide +kernel, by decide +kernel⟩, List.mem_of_getElem? (i := 111) (by decide +kernel), List.mem_of_getElem? (i := 479) (by decide +kernel), List.mem_of_getElem? (i := 480) (by decide +kernel)⟩
theorem lw_p19 : lw_okq (⟨"FormulaVoice$Hearing", "placeIn", "(LFormulaVoice$Page;III)J"⟩, 6) := ⟨⟨by decide +kernel, by decide +kernel⟩, List.mem_of_getElem? (i := 111) (by decide +kernel), List.mem_of_getElem? (i := 494) (by decide +kernel), List.mem_of_getElem? (i := 495) (by decide +kernel)⟩
theorem lw_p20 : lw_okq (⟨"FormulaVoice$Hearing", "placeBare", "(LFormulaVoice$Page;III)J"⟩, 6) := ⟨⟨by decide +kernel, by decide +kernel⟩, List.mem_of_getElem? (i := 111) (by decide +kernel), List.mem_of_getElem? (i := 500) (by decide +kernel), List.mem_of_getElem? (i := 501) (by decide +kernel)⟩
theorem lw_p21 : lw_okq (⟨"FormulaVoice$Hearing", "placePair", "(LFormulaVoice$Page;III)J"⟩, 6) := ⟨⟨by decide +kernel, by decide +kernel⟩, List.mem_of_getElem? (i := 111) (by decide +kernel), List.mem_of_getElem? (i := 504) (by decide +kernel), List.mem_of_getElem? (i := 505) (by decide +kernel)⟩
theorem lw_p22 : lw_okq (⟨"FormulaVoice$Walk", "leadsSomewhere", "(LFormulaVoice$Page;I)Z"⟩, 4) := ⟨⟨by decide +kernel, by decide +kernel⟩, List.mem_of_getElem? (i := 141) (by decide +kernel), List.mem_of_getElem? (i := 566) (by decide +kernel), List.mem_of_getElem? (i := 567) (by decide +kernel)⟩
theorem lw_p23 : lw_okq (⟨"FormulaVoice$Page", "difference", "(III)I"⟩, 13) := ⟨⟨by decide +kernel, by decide +kernel⟩, List.mem_of_getElem? (i := 26) (by decide +kernel), List.mem_of_getElem? (i := 583) (by decide +kernel), List.mem_of_getElem? (i := 584) (by decide +kernel)⟩
theorem lw_p24 : lw_okq (⟨"FormulaVoice$Page", "exchanges", "(III)I"⟩, 13) := ⟨⟨by decide +kernel, by decide +kernel⟩, List.mem_of_getElem? (i := 26) (by decide +kernel), List.mem_of_getElem? (i := 595) (by decide +kernel), List.mem_of_getElem? (i := 596) (by decide +kernel)⟩
theorem lw_p25 : lw_okq (⟨"FormulaVoice", "keepNode", "(LFormulaVoice$Shelf;II)I"⟩, 9) := ⟨⟨by decide +kernel, by decide +kernel⟩, List.mem_of_getElem? (i := 18) (by decide +kernel), List.mem_of_getElem? (i := 624) (by decide +kernel), List.mem_of_getElem? (i := 625) (by decide +kernel)⟩
theorem lw_p26 : lw_okq (⟨"FormulaVoice$Page", "layKindsFrom", "(I[III)I"⟩, 13) := ⟨⟨by decide +kernel, by decide +kernel⟩, List.mem_of_getElem? (i := 26) (by decide +kernel), List.mem_of_getElem? (i := 640) (by decide +kernel), List.mem_of_getElem? (i := 641) (by decide +kernel)⟩
theorem lw_p27 : lw_okq (⟨"FormulaVoice", "nodeRefusal", "(I)I"⟩, 9) := ⟨⟨by decide +kernel, by decide +kernel⟩, List.mem_of_getElem? (i := 18) (by decide +kernel), List.mem_of_getElem? (i := 667) (by decide +kernel), List.mem_of_getElem? (i := 668) (by decide +kernel)⟩
theorem lw_p28 : lw_okq (⟨"java/lang/Throwable", "fillInStackTrace", "(I)Ljava/lang/Throwable;"⟩, 6) := ⟨⟨by decide +kernel, by decide +kernel⟩, List.mem_of_getElem? (i := 724) (by decide +kernel), List.mem_of_getElem? (i := 722) (by decide +kernel), List.mem_of_getElem? (i := 723) (by decide +kernel)⟩
theorem lw_p29 : lw_okq (⟨"FormulaVoiceModel", "sets", "(IIIII)V"⟩, 35) := ⟨⟨by decide +kernel, by decide +kernel⟩, List.mem_of_getElem? (i := 795) (by decide +kernel), List.mem_of_getElem? (i := 917) (by decide +kernel), List.mem_of_getElem? (i := 918) (by decide +kernel)⟩
theorem lw_p30 : lw_okq (⟨"FormulaVoiceModel", "isNode", "(I)Z"⟩, 35) := ⟨⟨by decide +kernel, by decide +kernel⟩, List.mem_of_getElem? (i := 795) (by decide +kernel), List.mem_of_getElem? (i := 926) (by decide +kernel), List.mem_of_getElem? (i := 927) (by decide +kernel)⟩
theorem lw_p31 : lw_okq (⟨"FormulaVoiceModel", "isRight", "(I)Z"⟩, 35) := ⟨⟨by decide +kernel, by decide +kernel⟩, List.mem_of_getElem? (i := 795) (by decide +kernel), List.mem_of_getElem? (i := 946) (by decide +kernel), List.mem_of_getElem? (i := 947) (by decide +kernel)⟩
def lw_privs_2 : List (MethodName × Nat) := [(⟨"FormulaVoice$Hearing", "buildSpan", "(LFormulaVoice$Page;IIJ)I"⟩, 6), (⟨"FormulaVoice$Hearing", "buildBare", "(LFormulaVoice$Page;IIIJ)I"⟩, 6), (⟨"FormulaVoice$Hearing", "buildPair", "(LFormulaVoice$Page;IIIJ)I"⟩, 6), (⟨"FormulaVoice$Hearing", "placeIn", "(LFormulaVoice$Page;III)J"⟩, 6), (⟨"FormulaVoice$Hearing", "placeBare", "(LFormulaVoice$Page;III)J"⟩, 6), (⟨"FormulaVoice$Hearing", "placePair", "(LFormulaVoice$Page;III)J"⟩, 6), (⟨"FormulaVoice$Walk", "leadsSomewhere", "(LFormulaVoice$Page;I)Z"⟩, 4), (⟨"FormulaVoice$Page", "difference", "(III)I"⟩, 13), (⟨"FormulaVoice$Page", "exchanges", "(III)I"⟩, 13), (⟨"FormulaVoice", "keepNode", "(LFormulaVoice$Shelf;II)I"⟩, 9), (⟨"FormulaVoice$Page", "layKindsFrom", "(I[III)I"⟩, 13), (⟨"FormulaVoice", "nodeRefusal", "(I)I"⟩, 9), (⟨"java/lang/Throwable", "fillInStackTrace", "(I)Ljava/lang/Throwable;"⟩, 6), (⟨"FormulaVoiceModel", "sets", "(IIIII)V"⟩, 35), (⟨"FormulaVoiceModel", "isNode", "(I)Z"⟩, 35), (⟨"FormulaVoiceModel", "isRight", "(I)Z"⟩, 35)]
theorem lw_r2 : ∀ q ∈ lw_privs_2, lw_okq q := List.forall_mem_cons.mpr ⟨lw_p16, List.forall_mem_cons.mpr ⟨lw_p17, List.forall_mem_cons.mpr ⟨lw_p18, List.forall_mem_cons.mpr ⟨lw_p19, List.forall_mem_cons.mpr ⟨lw_p20, List.forall_mem_cons.mpr ⟨lw_p21, List.forall_mem_cons.mpr ⟨lw_p22, List.forall_mem_cons.mpr ⟨lw_p23, List.forall_mem_cons.mpr ⟨lw_p24, List.forall_mem_cons.mpr ⟨lw_p25, List.forall_mem_cons.mpr ⟨lw_p26, List.forall_mem_cons.mpr ⟨lw_p27, List.forall_mem_cons.mpr ⟨lw_p28, List.forall_mem_cons.mpr ⟨lw_p29, List.forall_mem_cons.mpr ⟨lw_p30, List.forall_mem_cons.mpr ⟨lw_p31, fun _ h => absurd h List.not_mem_nil⟩⟩⟩⟩⟩⟩⟩⟩⟩⟩⟩⟩⟩⟩⟩⟩
theorem lw_p32 : lw_okq (⟨"FormulaVoiceModel", "areAlike", "(II)Z"⟩, 35) := ⟨⟨by decide +kernel, by decide +kernel⟩, List.mem_of_getElem? (i := 795) (by decide +kernel), List.mem_of_getElem? (i := 954) (by decide +kernel), List.mem_of_getElem? (i := 955) (by decide +kernel)⟩
theorem lw_p33 : lw_okq (⟨"FormulaVoiceModel", "has", "(II)I"⟩, 35) := ⟨⟨by decide +kernel, by decide +kernel⟩, List.mem_of_getElem? (i := 795) (by decide +kernel), List.mem_of_getElem? (i := 962) (by decide +kernel), List.mem_of_getElem? (i := 963) (by decide +kernel)⟩
theorem lw_p34 : lw_okq (⟨"FormulaVoiceModel", "length", "(II)I"⟩, 35) := ⟨⟨by decide +kernel, by decide +kernel⟩, List.mem_of_getElem? (i := 795) (by decide +kernel), List.mem_of_getElem? (i := 981) (by decide +kernel), List.mem_of_getElem? (i := 982) (by decide +kernel)⟩
theorem lw_p35 : lw_okq (⟨"FormulaVoiceModel", "own", "(I)I"⟩, 35) := ⟨⟨by decide +kernel, by decide +kernel⟩, List.mem_of_getElem? (i := 795) (by decide +kernel), List.mem_of_getElem? (i := 985) (by decide +kernel), List.mem_of_getElem? (i := 986) (by decide +kernel)⟩
theorem lw_p36 : lw_okq (⟨"FormulaVoiceModel", "sayAll", "(II)V"⟩, 35) := ⟨⟨by decide +kernel, by decide +kernel⟩, List.mem_of_getElem? (i := 795) (by decide +kernel), List.mem_of_getElem? (i := 996) (by decide +kernel), List.mem_of_getElem? (i := 997) (by decide +kernel)⟩
theorem lw_p37 : lw_okq (⟨"FormulaVoiceModel", "say", "(II)V"⟩, 35) := ⟨⟨by decide +kernel, by decide +kernel⟩, List.mem_of_getElem? (i := 795) (by decide +kernel), List.mem_of_getElem? (i := 1000) (by decide +kernel), List.mem_of_getElem? (i := 1001) (by decide +kernel)⟩
theorem lw_p38 : lw_okq (⟨"FormulaVoiceModel", "keepsIt", "(II)Z"⟩, 35) := ⟨⟨by decide +kernel, by decide +kernel⟩, List.mem_of_getElem? (i := 795) (by decide +kernel), List.mem_of_getElem? (i := 1004) (by decide +kernel), List.mem_of_getElem? (i := 1005) (by decide +kernel)⟩
theorem lw_p39 : lw_okq (⟨"FormulaVoiceModel", "says", "(I)V"⟩, 35) := ⟨⟨by decide +kernel, by decide +kernel⟩, List.mem_of_getElem? (i := 795) (by decide +kernel), List.mem_of_getElem? (i := 1008) (by decide +kernel), List.mem_of_getElem? (i := 1009) (by decide +kernel)⟩
theorem lw_p40 : lw_okq (⟨"FormulaVoiceModel", "adds", "(IIII)V"⟩, 35) := ⟨⟨by decide +kernel, by decide +kernel⟩, List.mem_of_getElem? (i := 795) (by decide +kernel), List.mem_of_getElem? (i := 1021) (by decide +kernel), List.mem_of_getElem? (i := 1022) (by decide +kernel)⟩
theorem lw_p41 : lw_okq (⟨"FormulaVoiceModel", "grows", "(I)V"⟩, 35) := ⟨⟨by decide +kernel, by decide +kernel⟩, List.mem_of_getElem? (i := 795) (by decide +kernel), List.mem_of_getElem? (i := 1025) (by decide +kernel), List.mem_of_getElem? (i := 1026) (by decide +kernel)⟩
theorem lw_p42 : lw_okq (⟨"FormulaVoiceModel", "isSame", "(II)Z"⟩, 35) := ⟨⟨by decide +kernel, by decide +kernel⟩, List.mem_of_getElem? (i := 795) (by decide +kernel), List.mem_of_getElem? (i := 1029) (by decide +kernel), List.mem_of_getElem? (i := 1030) (by decide +kernel)⟩
theorem lw_p43 : lw_okq (⟨"FormulaVoiceModel", "hears", "()V"⟩, 35) := ⟨⟨by decide +kernel, by decide +kernel⟩, List.mem_of_getElem? (i := 795) (by decide +kernel), List.mem_of_getElem? (i := 1042) (by decide +kernel), List.mem_of_getElem? (i := 1043) (by decide +kernel)⟩
theorem lw_p44 : lw_okq (⟨"FormulaVoiceModel", "counted", "(I)J"⟩, 35) := ⟨⟨by decide +kernel, by decide +kernel⟩, List.mem_of_getElem? (i := 795) (by decide +kernel), List.mem_of_getElem? (i := 1059) (by decide +kernel), List.mem_of_getElem? (i := 1060) (by decide +kernel)⟩
theorem lw_p45 : lw_okq (⟨"FormulaVoiceModel", "reckons", "(I)V"⟩, 35) := ⟨⟨by decide +kernel, by decide +kernel⟩, List.mem_of_getElem? (i := 795) (by decide +kernel), List.mem_of_getElem? (i := 1063) (by decide +kernel), List.mem_of_getElem? (i := 1064) (by decide +kernel)⟩
theorem lw_p46 : lw_okq (⟨"FormulaVoiceModel", "isLet", "(IZ)Z"⟩, 35) := ⟨⟨by decide +kernel, by decide +kernel⟩, List.mem_of_getElem? (i := 795) (by decide +kernel), List.mem_of_getElem? (i := 1067) (by decide +kernel), List.mem_of_getElem? (i := 1068) (by decide +kernel)⟩
theorem lw_p47 : lw_okq (⟨"FormulaVoiceModel", "within", "(III)J"⟩, 35) := ⟨⟨by decide +kernel, by decide +kernel⟩, List.mem_of_getElem? (i := 795) (by decide +kernel), List.mem_of_getElem? (i := 1071) (by decide +kernel), List.mem_of_getElem? (i := 1072) (by decide +kernel)⟩
def lw_privs_3 : List (MethodName × Nat) := [(⟨"FormulaVoiceModel", "areAlike", "(II)Z"⟩, 35), (⟨"FormulaVoiceModel", "has", "(II)I"⟩, 35), (⟨"FormulaVoiceModel", "length", "(II)I"⟩, 35), (⟨"FormulaVoiceModel", "own", "(I)I"⟩, 35), (⟨"FormulaVoiceModel", "sayAll", "(II)V"⟩, 35), (⟨"FormulaVoiceModel", "say", "(II)V"⟩, 35), (⟨"FormulaVoiceModel", "keepsIt", "(II)Z"⟩, 35), (⟨"FormulaVoiceModel", "says", "(I)V"⟩, 35), (⟨"FormulaVoiceModel", "adds", "(IIII)V"⟩, 35), (⟨"FormulaVoiceModel", "grows", "(I)V"⟩, 35), (⟨"FormulaVoiceModel", "isSame", "(II)Z"⟩, 35), (⟨"FormulaVoiceModel", "hears", "()V"⟩, 35), (⟨"FormulaVoiceModel", "counted", "(I)J"⟩, 35), (⟨"FormulaVoiceModel", "reckons", "(I)V"⟩, 35), (⟨"FormulaVoiceModel", "isLet", "(IZ)Z"⟩, 35), (⟨"FormulaVoiceModel", "within", "(III)J"⟩, 35)]
theorem lw_r3 : ∀ q ∈ lw_privs_3, lw_okq q := List.forall_mem_cons.mpr ⟨lw_p32, List.forall_mem_cons.mpr ⟨lw_p33, List.forall_mem_cons.mpr ⟨lw_p34, List.forall_mem_cons.mpr ⟨lw_p35, List.forall_mem_cons.mpr ⟨lw_p36, List.forall_mem_cons.mpr ⟨lw_p37, List.forall_mem_cons.mpr ⟨lw_p38, List.forall_mem_cons.mpr ⟨lw_p39, List.forall_mem_cons.mpr ⟨lw_p40, List.forall_mem_cons.mpr ⟨lw_p41, List.forall_mem_cons.mpr ⟨lw_p42, List.forall_mem_cons.mpr ⟨lw_p43, List.forall_mem_cons.mpr ⟨lw_p44, List.forall_mem_cons.mpr ⟨lw_p45, List.forall_mem_cons.mpr ⟨lw_p46, List.forall_mem_cons.mpr ⟨lw_p47, fun _ h => absurd h List.not_mem_nil⟩⟩⟩⟩⟩⟩⟩⟩⟩⟩⟩⟩⟩⟩⟩⟩
theorem lw_p48 : lw_okq (⟨"FormulaVoiceModel", "isNumber", "(II)Z"⟩, 35) := ⟨⟨by decide +kernel, by decide +kernel⟩, List.mem_of_getElem? (i := 795) (by decide +kernel), List.mem_of_getElem? (i := 1075) (by decide +kernel), List.mem_of_getElem? (i := 1076) (by decide +kernel)⟩
theorem lw_p49 : lw_okq (⟨"FormulaVoiceModel", "takes", "(IIJ)I"⟩, 35) := ⟨⟨by decide +kernel, by decide +kernel⟩, List.mem_of_getElem? (i := 795) (by decide +kernel), List.mem_of_getElem? (i := 1092) (by decide +kernel), List.mem_of_getElem? (i := 1093) (by decide +kernel)⟩
theorem lw_p50 : lw_okq (⟨"FormulaVoiceModel", "makes", "(IIII)I"⟩, 35) := ⟨⟨by decide +kernel, by decide +kernel⟩, List.mem_of_getElem? (i := 795) (by decide +kernel), List.mem_of_getElem? (i := 1096) (by decide +kernel), List.mem_of_getElem? (i := 1097) (by decide +kernel)⟩
theorem lw_p51 : lw_okq (⟨"FormulaVoiceModel", "takesTwo", "(IIIJ)I"⟩, 35) := ⟨⟨by decide +kernel, by decide +kernel⟩, List.mem_of_getElem? (i := 795) (by decide +kernel), List.mem_of_getElem? (i := 1100) (by decide +kernel), List.mem_of_getElem? (i := 1101) (by decide +kernel)⟩
theorem lw_p52 : lw_okq (⟨"FormulaVoiceModel", "copies", "(I)I"⟩, 35) := ⟨⟨by decide +kernel, by decide +kernel⟩, List.mem_of_getElem? (i := 795) (by decide +kernel), List.mem_of_getElem? (i := 1104) (by decide +kernel), List.mem_of_getElem? (i := 1105) (by decide +kernel)⟩
theorem lw_p53 : lw_okq (⟨"FormulaVoiceModel", "rank", "(III)J"⟩, 35) := ⟨⟨by decide +kernel, by decide +kernel⟩, List.mem_of_getElem? (i := 795) (by decide +kernel), List.mem_of_getElem? (i := 1114) (by decide +kernel), List.mem_of_getElem? (i := 1115) (by decide +kernel)⟩
theorem lw_p54 : lw_okq (⟨"FormulaVoiceModel", "inner", "(III)J"⟩, 35) := ⟨⟨by decide +kernel, by decide +kernel⟩, List.mem_of_getElem? (i := 795) (by decide +kernel), List.mem_of_getElem? (i := 1118) (by decide +kernel), List.mem_of_getElem? (i := 1119) (by decide +kernel)⟩
theorem lw_p55 : lw_okq (⟨"FormulaVoiceModel", "innerTwo", "(III)J"⟩, 35) := ⟨⟨by decide +kernel, by decide +kernel⟩, List.mem_of_getElem? (i := 795) (by decide +kernel), List.mem_of_getElem? (i := 1122) (by decide +kernel), List.mem_of_getElem? (i := 1123) (by decide +kernel)⟩
theorem lw_p56 : lw_okq (⟨"FormulaVoiceModel", "keepable", "(I)I"⟩, 35) := ⟨⟨by decide +kernel, by decide +kernel⟩, List.mem_of_getElem? (i := 795) (by decide +kernel), List.mem_of_getElem? (i := 1134) (by decide +kernel), List.mem_of_getElem? (i := 1135) (by decide +kernel)⟩
theorem lw_p57 : lw_okq (⟨"FormulaVoiceModel", "isOnly", "(III)Z"⟩, 35) := ⟨⟨by decide +kernel, by decide +kernel⟩, List.mem_of_getElem? (i := 795) (by decide +kernel), List.mem_of_getElem? (i := 1141) (by decide +kernel), List.mem_of_getElem? (i := 1142) (by decide +kernel)⟩
theorem lw_p58 : lw_okq (⟨"FormulaVoiceModel", "down", "(I)Z"⟩, 35) := ⟨⟨by decide +kernel, by decide +kernel⟩, List.mem_of_getElem? (i := 795) (by decide +kernel), List.mem_of_getElem? (i := 1154) (by decide +kernel), List.mem_of_getElem? (i := 1155) (by decide +kernel)⟩
theorem lw_p59 : lw_okq (⟨"FormulaVoiceModel", "glanced", "(III)I"⟩, 35) := ⟨⟨by decide +kernel, by decide +kernel⟩, List.mem_of_getElem? (i := 795) (by decide +kernel), List.mem_of_getElem? (i := 1170) (by decide +kernel), List.mem_of_getElem? (i := 1171) (by decide +kernel)⟩
theorem lw_p60 : lw_okq (⟨"FormulaVoiceModel", "difference", "(II)I"⟩, 35) := ⟨⟨by decide +kernel, by decide +kernel⟩, List.mem_of_getElem? (i := 795) (by decide +kernel), List.mem_of_getElem? (i := 1178) (by decide +kernel), List.mem_of_getElem? (i := 1179) (by decide +kernel)⟩
theorem lw_p61 : lw_okq (⟨"FormulaVoiceModel", "inside", "(II)I"⟩, 35) := ⟨⟨by decide +kernel, by decide +kernel⟩, List.mem_of_getElem? (i := 795) (by decide +kernel), List.mem_of_getElem? (i := 1182) (by decide +kernel), List.mem_of_getElem? (i := 1183) (by decide +kernel)⟩
theorem lw_p62 : lw_okq (⟨"FormulaVoiceModel", "wholes", "(II)I"⟩, 35) := ⟨⟨by decide +kernel, by decide +kernel⟩, List.mem_of_getElem? (i := 795) (by decide +kernel), List.mem_of_getElem? (i := 1190) (by decide +kernel), List.mem_of_getElem? (i := 1191) (by decide +kernel)⟩
theorem lw_p63 : lw_okq (⟨"FormulaVoiceModel", "functions", "()I"⟩, 35) := ⟨⟨by decide +kernel, by decide +kernel⟩, List.mem_of_getElem? (i := 795) (by decide +kernel), List.mem_of_getElem? (i := 1198) (by decide +kernel), List.mem_of_getElem? (i := 1199) (by decide +kernel)⟩
def lw_privs_4 : List (MethodName × Nat) := [(⟨"FormulaVoiceModel", "isNumber", "(II)Z"⟩, 35), (⟨"FormulaVoiceModel", "takes", "(IIJ)I"⟩, 35), (⟨"FormulaVoiceModel", "makes", "(IIII)I"⟩, 35), (⟨"FormulaVoiceModel", "takesTwo", "(IIIJ)I"⟩, 35), (⟨"FormulaVoiceModel", "copies", "(I)I"⟩, 35), (⟨"FormulaVoiceModel", "rank", "(III)J"⟩, 35), (⟨"FormulaVoiceModel", "inner", "(III)J"⟩, 35), (⟨"FormulaVoiceModel", "innerTwo", "(III)J"⟩, 35), (⟨"FormulaVoiceModel", "keepable", "(I)I"⟩, 35), (⟨"FormulaVoiceModel", "isOnly", "(III)Z"⟩, 35), (⟨"FormulaVoiceModel", "down", "(I)Z"⟩, 35), (⟨"FormulaVoiceModel", "glanced", "(III)I"⟩, 35), (⟨"FormulaVoiceModel", "difference", "(II)I"⟩, 35), (⟨"FormulaVoiceModel", "inside", "(II)I"⟩, 35), (⟨"FormulaVoiceModel", "wholes", "(II)I"⟩, 35), (⟨"FormulaVoiceModel", "functions", "()I"⟩, 35)]
theorem lw_r4 : ∀ q ∈ lw_privs_4, lw_okq q := List.forall_mem_cons.mpr ⟨lw_p48, List.forall_mem_cons.mpr ⟨lw_p49, List.forall_mem_cons.mpr ⟨lw_p50, List.forall_mem_cons.mpr ⟨lw_p51, List.forall_mem_cons.mpr ⟨lw_p52, List.forall_mem_cons.mpr ⟨lw_p53, List.forall_mem_cons.mpr ⟨lw_p54, List.forall_mem_cons.mpr ⟨lw_p55, List.forall_mem_cons.mpr ⟨lw_p56, List.forall_mem_cons.mpr ⟨lw_p57, List.forall_mem_cons.mpr ⟨lw_p58, List.forall_mem_cons.mpr ⟨lw_p59, List.forall_mem_cons.mpr ⟨lw_p60, List.forall_mem_cons.mpr ⟨lw_p61, List.forall_mem_cons.mpr ⟨lw_p62, List.forall_mem_cons.mpr ⟨lw_p63, fun _ h => absurd h List.not_mem_nil⟩⟩⟩⟩⟩⟩⟩⟩⟩⟩⟩⟩⟩⟩⟩⟩
theorem lw_p64 : lw_okq (⟨"FormulaVoiceModel", "kinds", "(II)V"⟩, 35) := ⟨⟨by decide +kernel, by decide +kernel⟩, List.mem_of_getElem? (i := 795) (by decide +kernel), List.mem_of_getElem? (i := 1209) (by decide +kernel), List.mem_of_getElem? (i := 1210) (by decide +kernel)⟩
theorem lw_p65 : lw_okq (⟨"FormulaVoiceModel", "held", "(I)I"⟩, 35) := ⟨⟨by decide +kernel, by decide +kernel⟩, List.mem_of_getElem? (i := 795) (by decide +kernel), List.mem_of_getElem? (i := 1229) (by decide +kernel), List.mem_of_getElem? (i := 1230) (by decide +kernel)⟩
def lw_privs_5 : List (MethodName × Nat) := [(⟨"FormulaVoiceModel", "kinds", "(II)V"⟩, 35), (⟨"FormulaVoiceModel", "held", "(I)I"⟩, 35)]
theorem lw_r5 : ∀ q ∈ lw_privs_5, lw_okq q := List.forall_mem_cons.mpr ⟨lw_p64, List.forall_mem_cons.mpr ⟨lw_p65, fun _ h => absurd h List.not_mem_nil⟩⟩
def lw_privs : List (MethodName × Nat) := lw_privs_1 ++ (lw_privs_2 ++ (lw_privs_3 ++ (lw_privs_4 ++ (lw_privs_5))))
def lw_tbl : List Cond := k2_sels lw_privs ++ tables_1
theorem lw_privs_ok : ∀ q ∈ lw_privs, lw_okq q := by
  show ∀ q ∈ lw_privs_1 ++ (lw_privs_2 ++ (lw_privs_3 ++ (lw_privs_4 ++ (lw_privs_5)))), lw_okq q
  exact List.forall_mem_append.mpr ⟨lw_r1, List.forall_mem_append.mpr ⟨lw_r2, List.forall_mem_append.mpr ⟨lw_r3, List.forall_mem_append.mpr ⟨lw_r4, lw_r5⟩⟩⟩⟩
end
section
/-! ===== BEGIN printed: names, fields, word lists, decode rows ===== -/
def RX0 : String := "FormulaVoice$Hearing"
def TX0 : u_T := fun k => match k with
  | 0 => ("FormulaVoice$Hearing", "row", "[I", true)
  | 1 => ("FormulaVoice$Hearing", "length", "I", false)
  | 2 => ("FormulaVoice$Hearing", "ways", "[[J", true)
  | 3 => ("FormulaVoice$Hearing", "bareKinds", "I", false)
  | 4 => ("FormulaVoice$Hearing", "keptKinds", "I", false)
  | _ => ("FormulaVoice$Hearing", "functions", "I", false)
def tyX0 : Nat → FieldType := fun k => match k with
  | 0 => .array .int
  | 1 => .int
  | 2 => .array (.array .long)
  | 3 => .int
  | 4 => .int
  | _ => .int
abbrev wsX00 : List Cond := u_ws RX0 TX0 6
theorem nmX0 : ∀ a, a < 6 → ∀ b, b < 6 → a ≠ b → (TX0 a).2.1 ≠ (TX0 b).2.1 := by decide +kernel
theorem tyX0_ok : ∀ k, k < 6 → parseFieldDescriptor (TX0 k).2.2.1 = some (tyX0 k) := by decide +kernel
abbrev cX0_init : ByteArray := prog_2_method_1_code
def yX0_init : MethodName := ⟨RX0, "<init>", "()V"⟩
abbrev cX0_add : ByteArray := prog_2_method_2_code
def yX0_add : MethodName := ⟨RX0, "add", "(I)V"⟩
abbrev cX0_tally : ByteArray := prog_2_method_3_code
def yX0_tally : MethodName := ⟨RX0, "tally", "(III)J"⟩
abbrev cX0_waysOf : ByteArray := prog_2_method_4_code
def yX0_waysOf : MethodName := ⟨RX0, "waysOf", "(III)J"⟩
abbrev cX0_isBracketed : ByteArray := prog_2_method_5_code
def yX0_isBracketed : MethodName := ⟨RX0, "isBracketed", "(II)Z"⟩
abbrev cX0_bareWays : ByteArray := prog_2_method_6_code
def yX0_bareWays : MethodName := ⟨RX0, "bareWays", "(III)J"⟩
abbrev cX0_kindByEnds : ByteArray := prog_2_method_7_code
def yX0_kindByEnds : MethodName := ⟨RX0, "kindByEnds", "(II)I"⟩
abbrev cX0_partFrom : ByteArray := prog_2_method_8_code
def yX0_partFrom : MethodName := ⟨RX0, "partFrom", "(II)I"⟩
abbrev cX0_partTo : ByteArray := prog_2_method_9_code
def yX0_partTo : MethodName := ⟨RX0, "partTo", "(II)I"⟩
abbrev cX0_numberIn : ByteArray := prog_2_method_10_code
def yX0_numberIn : MethodName := ⟨RX0, "numberIn", "(II)I"⟩
abbrev cX0_build : ByteArray := prog_2_method_11_code
def yX0_build : MethodName := ⟨RX0, "build", "(LFormulaVoice$Page;J)I"⟩
abbrev cX0_buildSpan : ByteArray := prog_2_method_12_code
def yX0_buildSpan : MethodName := ⟨RX0, "buildSpan", "(LFormulaVoice$Page;IIJ)I"⟩
abbrev cX0_buildBare : ByteArray := prog_2_method_13_code
def yX0_buildBare : MethodName := ⟨RX0, "buildBare", "(LFormulaVoice$Page;IIIJ)I"⟩
abbrev cX0_buildPair : ByteArray := prog_2_method_14_code
def yX0_buildPair : MethodName := ⟨RX0, "buildPair", "(LFormulaVoice$Page;IIIJ)I"⟩
abbrev cX0_placeOf : ByteArray := prog_2_method_15_code
def yX0_placeOf : MethodName := ⟨RX0, "placeOf", "(LFormulaVoice$Page;I)J"⟩
abbrev cX0_placeIn : ByteArray := prog_2_method_16_code
def yX0_placeIn : MethodName := ⟨RX0, "placeIn", "(LFormulaVoice$Page;III)J"⟩
abbrev cX0_placeBare : ByteArray := prog_2_method_17_code
def yX0_placeBare : MethodName := ⟨RX0, "placeBare", "(LFormulaVoice$Page;III)J"⟩
abbrev cX0_placePair : ByteArray := prog_2_method_18_code
def yX0_placePair : MethodName := ⟨RX0, "placePair", "(LFormulaVoice$Page;III)J"⟩
def RX1 : String := "FormulaVoice$Kinds"
def TX1 : u_T := fun k => match k with
  | _ => ("", "", "", false)
def tyX1 : Nat → FieldType := fun k => match k with
  | _ => .int
abbrev wsX10 : List Cond := u_ws RX1 TX1 0
theorem nmX1 : ∀ a, a < 0 → ∀ b, b < 0 → a ≠ b → (TX1 a).2.1 ≠ (TX1 b).2.1 := by decide +kernel
theorem tyX1_ok : ∀ k, k < 0 → parseFieldDescriptor (TX1 k).2.2.1 = some (tyX1 k) := by decide +kernel
abbrev cX1_isPair : ByteArray := prog_3_method_2_code
def yX1_isPair : MethodName := ⟨RX1, "isPair", "(I)Z"⟩
abbrev cX1_isPrefix : ByteArray := prog_3_method_3_code
def yX1_isPrefix : MethodName := ⟨RX1, "isPrefix", "(I)Z"⟩
abbrev cX1_hasBit : ByteArray := prog_3_method_4_code
def yX1_hasBit : MethodName := ⟨RX1, "hasBit", "(II)Z"⟩
abbrev cX1_withBit : ByteArray := prog_3_method_5_code
def yX1_withBit : MethodName := ⟨RX1, "withBit", "(IIZ)I"⟩
abbrev cX1_isDoubtful : ByteArray := prog_3_method_6_code
def yX1_isDoubtful : MethodName := ⟨RX1, "isDoubtful", "(IIZ)Z"⟩
def RX2 : String := "FormulaVoice$Page"
def TX2 : u_T := fun k => match k with
  | 0 => ("FormulaVoice$Page", "kinds", "[I", true)
  | 1 => ("FormulaVoice$Page", "values", "[I", true)
  | 2 => ("FormulaVoice$Page", "xs", "[I", true)
  | 3 => ("FormulaVoice$Page", "ys", "[I", true)
  | 4 => ("FormulaVoice$Page", "sizes", "[I", true)
  | 5 => ("FormulaVoice$Page", "depths", "[I", true)
  | 6 => ("FormulaVoice$Page", "bareWords", "[I", true)
  | 7 => ("FormulaVoice$Page", "choices", "[I", true)
  | 8 => ("FormulaVoice$Page", "letters", "[I", true)
  | 9 => ("FormulaVoice$Page", "calls", "[I", true)
  | 10 => ("FormulaVoice$Page", "shapes", "[I", true)
  | 11 => ("FormulaVoice$Page", "tallies", "[I", true)
  | _ => ("FormulaVoice$Page", "used", "I", false)
def tyX2 : Nat → FieldType := fun k => match k with
  | 0 => .array .int
  | 1 => .array .int
  | 2 => .array .int
  | 3 => .array .int
  | 4 => .array .int
  | 5 => .array .int
  | 6 => .array .int
  | 7 => .array .int
  | 8 => .array .int
  | 9 => .array .int
  | 10 => .array .int
  | 11 => .array .int
  | _ => .int
abbrev wsX20 : List Cond := u_ws RX2 TX2 13
theorem nmX2 : ∀ a, a < 13 → ∀ b, b < 13 → a ≠ b → (TX2 a).2.1 ≠ (TX2 b).2.1 := by decide +kernel
theorem tyX2_ok : ∀ k, k < 13 → parseFieldDescriptor (TX2 k).2.2.1 = some (tyX2 k) := by decide +kernel
abbrev cX2_init : ByteArray := prog_4_method_1_code
def yX2_init : MethodName := ⟨RX2, "<init>", "()V"⟩
abbrev cX2_has : ByteArray := prog_4_method_2_code
def yX2_has : MethodName := ⟨RX2, "has", "(I)Z"⟩
abbrev cX2_isFull : ByteArray := prog_4_method_3_code
def yX2_isFull : MethodName := ⟨RX2, "isFull", "()Z"⟩
abbrev cX2_sizeOf : ByteArray := prog_4_method_4_code
def yX2_sizeOf : MethodName := ⟨RX2, "sizeOf", "(I)I"⟩
abbrev cX2_partOf : ByteArray := prog_4_method_5_code
def yX2_partOf : MethodName := ⟨RX2, "partOf", "(II)I"⟩
abbrev cX2_put : ByteArray := prog_4_method_6_code
def yX2_put : MethodName := ⟨RX2, "put", "(IIII)I"⟩
abbrev cX2_addPart : ByteArray := prog_4_method_7_code
def yX2_addPart : MethodName := ⟨RX2, "addPart", "(II)V"⟩
abbrev cX2_ownWords : ByteArray := prog_4_method_8_code
def yX2_ownWords : MethodName := ⟨RX2, "ownWords", "(II)I"⟩
abbrev cX2_firstAlike : ByteArray := prog_4_method_9_code
def yX2_firstAlike : MethodName := ⟨RX2, "firstAlike", "(I)I"⟩
abbrev cX2_shapeOf : ByteArray := prog_4_method_10_code
def yX2_shapeOf : MethodName := ⟨RX2, "shapeOf", "(I)I"⟩
abbrev cX2_isSameTop : ByteArray := prog_4_method_11_code
def yX2_isSameTop : MethodName := ⟨RX2, "isSameTop", "(II)Z"⟩
abbrev cX2_isAlike : ByteArray := prog_4_method_12_code
def yX2_isAlike : MethodName := ⟨RX2, "isAlike", "(II)Z"⟩
abbrev cX2_isRight : ByteArray := prog_4_method_13_code
def yX2_isRight : MethodName := ⟨RX2, "isRight", "(II)Z"⟩
abbrev cX2_timesWithin : ByteArray := prog_4_method_14_code
def yX2_timesWithin : MethodName := ⟨RX2, "timesWithin", "(II)I"⟩
abbrev cX2_tallyOf : ByteArray := prog_4_method_15_code
def yX2_tallyOf : MethodName := ⟨RX2, "tallyOf", "(I)I"⟩
abbrev cX2_firstUnlike : ByteArray := prog_4_method_16_code
def yX2_firstUnlike : MethodName := ⟨RX2, "firstUnlike", "(II)I"⟩
abbrev cX2_differenceOf : ByteArray := prog_4_method_17_code
def yX2_differenceOf : MethodName := ⟨RX2, "differenceOf", "(II)I"⟩
abbrev cX2_exchangesOf : ByteArray := prog_4_method_18_code
def yX2_exchangesOf : MethodName := ⟨RX2, "exchangesOf", "(II)I"⟩
abbrev cX2_layKinds : ByteArray := prog_4_method_19_code
def yX2_layKinds : MethodName := ⟨RX2, "layKinds", "(I[I)V"⟩
abbrev cX2_difference : ByteArray := prog_4_method_20_code
def yX2_difference : MethodName := ⟨RX2, "difference", "(III)I"⟩
abbrev cX2_exchanges : ByteArray := prog_4_method_21_code
def yX2_exchanges : MethodName := ⟨RX2, "exchanges", "(III)I"⟩
abbrev cX2_layKindsFrom : ByteArray := prog_4_method_22_code
def yX2_layKindsFrom : MethodName := ⟨RX2, "layKindsFrom", "(I[III)I"⟩
def RX3 : String := "FormulaVoice$Shelf"
def TX3 : u_T := fun k => match k with
  | 0 => ("FormulaVoice$Shelf", "held", "I", false)
  | 1 => ("FormulaVoice$Shelf", "value", "I", false)
  | 2 => ("FormulaVoice$Shelf", "kind", "I", false)
  | 3 => ("FormulaVoice$Shelf", "size", "I", false)
  | 4 => ("FormulaVoice$Shelf", "row", "[I", true)
  | _ => ("FormulaVoice$Shelf", "length", "I", false)
def tyX3 : Nat → FieldType := fun k => match k with
  | 0 => .int
  | 1 => .int
  | 2 => .int
  | 3 => .int
  | 4 => .array .int
  | _ => .int
abbrev wsX30 : List Cond := u_ws RX3 TX3 6
theorem nmX3 : ∀ a, a < 6 → ∀ b, b < 6 → a ≠ b → (TX3 a).2.1 ≠ (TX3 b).2.1 := by decide +kernel
theorem tyX3_ok : ∀ k, k < 6 → parseFieldDescriptor (TX3 k).2.2.1 = some (tyX3 k) := by decide +kernel
abbrev cX3_init : ByteArray := prog_5_method_1_code
def yX3_init : MethodName := ⟨RX3, "<init>", "()V"⟩
abbrev cX3_drop : ByteArray := prog_5_method_2_code
def yX3_drop : MethodName := ⟨RX3, "drop", "()V"⟩
abbrev cX3_holdNode : ByteArray := prog_5_method_3_code
def yX3_holdNode : MethodName := ⟨RX3, "holdNode", "(III)V"⟩
abbrev cX3_holdNoughts : ByteArray := prog_5_method_4_code
def yX3_holdNoughts : MethodName := ⟨RX3, "holdNoughts", "(II)V"⟩
abbrev cX3_holdRow : ByteArray := prog_5_method_5_code
def yX3_holdRow : MethodName := ⟨RX3, "holdRow", "(I[II)V"⟩
abbrev cX3_hasRow : ByteArray := prog_5_method_6_code
def yX3_hasRow : MethodName := ⟨RX3, "hasRow", "()Z"⟩
abbrev cX3_hasSpan : ByteArray := prog_5_method_7_code
def yX3_hasSpan : MethodName := ⟨RX3, "hasSpan", "(II)Z"⟩
abbrev cX3_weighNode : ByteArray := prog_5_method_8_code
def yX3_weighNode : MethodName := ⟨RX3, "weighNode", "()I"⟩
def RX4 : String := "FormulaVoice$Speech"
def TX4 : u_T := fun k => match k with
  | 0 => ("FormulaVoice$Speech", "row", "[I", true)
  | 1 => ("FormulaVoice$Speech", "length", "I", false)
  | 2 => ("FormulaVoice$Speech", "keptKinds", "I", false)
  | _ => ("FormulaVoice$Speech", "sparing", "Z", false)
def tyX4 : Nat → FieldType := fun k => match k with
  | 0 => .array .int
  | 1 => .int
  | 2 => .int
  | _ => .boolean
abbrev wsX40 : List Cond := u_ws RX4 TX4 4
theorem nmX4 : ∀ a, a < 4 → ∀ b, b < 4 → a ≠ b → (TX4 a).2.1 ≠ (TX4 b).2.1 := by decide +kernel
theorem tyX4_ok : ∀ k, k < 4 → parseFieldDescriptor (TX4 k).2.2.1 = some (tyX4 k) := by decide +kernel
abbrev cX4_init : ByteArray := prog_6_method_1_code
def yX4_init : MethodName := ⟨RX4, "<init>", "()V"⟩
abbrev cX4_isTooLong : ByteArray := prog_6_method_2_code
def yX4_isTooLong : MethodName := ⟨RX4, "isTooLong", "()Z"⟩
abbrev cX4_sayInStyle : ByteArray := prog_6_method_3_code
def yX4_sayInStyle : MethodName := ⟨RX4, "sayInStyle", "(LFormulaVoice$Page;III)V"⟩
abbrev cX4_saySparingly : ByteArray := prog_6_method_4_code
def yX4_saySparingly : MethodName := ⟨RX4, "saySparingly", "(LFormulaVoice$Page;I)V"⟩
abbrev cX4_isSameAs : ByteArray := prog_6_method_5_code
def yX4_isSameAs : MethodName := ⟨RX4, "isSameAs", "(LFormulaVoice$Speech;)Z"⟩
abbrev cX4_tell : ByteArray := prog_6_method_6_code
def yX4_tell : MethodName := ⟨RX4, "tell", "(LFormulaVoice$Page;IZI)V"⟩
abbrev cX4_tellBare : ByteArray := prog_6_method_7_code
def yX4_tellBare : MethodName := ⟨RX4, "tellBare", "(LFormulaVoice$Page;II)V"⟩
abbrev cX4_isPartKept : ByteArray := prog_6_method_8_code
def yX4_isPartKept : MethodName := ⟨RX4, "isPartKept", "(LFormulaVoice$Page;IIZ)Z"⟩
abbrev cX4_addDigits : ByteArray := prog_6_method_9_code
def yX4_addDigits : MethodName := ⟨RX4, "addDigits", "(I)V"⟩
abbrev cX4_add : ByteArray := prog_6_method_10_code
def yX4_add : MethodName := ⟨RX4, "add", "(I)V"⟩
def RX5 : String := "FormulaVoice$Walk"
def TX5 : u_T := fun k => match k with
  | 0 => ("FormulaVoice$Walk", "nodes", "[I", true)
  | 1 => ("FormulaVoice$Walk", "digits", "[I", true)
  | 2 => ("FormulaVoice$Walk", "begun", "Z", false)
  | _ => ("FormulaVoice$Walk", "depth", "I", false)
def tyX5 : Nat → FieldType := fun k => match k with
  | 0 => .array .int
  | 1 => .array .int
  | 2 => .boolean
  | _ => .int
abbrev wsX50 : List Cond := u_ws RX5 TX5 4
theorem nmX5 : ∀ a, a < 4 → ∀ b, b < 4 → a ≠ b → (TX5 a).2.1 ≠ (TX5 b).2.1 := by decide +kernel
theorem tyX5_ok : ∀ k, k < 4 → parseFieldDescriptor (TX5 k).2.2.1 = some (tyX5 k) := by decide +kernel
abbrev cX5_init : ByteArray := prog_7_method_1_code
def yX5_init : MethodName := ⟨RX5, "<init>", "()V"⟩
abbrev cX5_isBegun : ByteArray := prog_7_method_2_code
def yX5_isBegun : MethodName := ⟨RX5, "isBegun", "()Z"⟩
abbrev cX5_top : ByteArray := prog_7_method_3_code
def yX5_top : MethodName := ⟨RX5, "top", "()I"⟩
abbrev cX5_here : ByteArray := prog_7_method_4_code
def yX5_here : MethodName := ⟨RX5, "here", "()I"⟩
abbrev cX5_beginAt : ByteArray := prog_7_method_5_code
def yX5_beginAt : MethodName := ⟨RX5, "beginAt", "(I)V"⟩
abbrev cX5_stepDown : ByteArray := prog_7_method_6_code
def yX5_stepDown : MethodName := ⟨RX5, "stepDown", "(LFormulaVoice$Page;I)Z"⟩
abbrev cX5_stepUp : ByteArray := prog_7_method_7_code
def yX5_stepUp : MethodName := ⟨RX5, "stepUp", "()Z"⟩
abbrev cX5_stepBeside : ByteArray := prog_7_method_8_code
def yX5_stepBeside : MethodName := ⟨RX5, "stepBeside", "(LFormulaVoice$Page;)Z"⟩
abbrev cX5_asNumber : ByteArray := prog_7_method_9_code
def yX5_asNumber : MethodName := ⟨RX5, "asNumber", "()I"⟩
abbrev cX5_follow : ByteArray := prog_7_method_10_code
def yX5_follow : MethodName := ⟨RX5, "follow", "(LFormulaVoice$Page;I)Z"⟩
abbrev cX5_leadsSomewhere : ByteArray := prog_7_method_11_code
def yX5_leadsSomewhere : MethodName := ⟨RX5, "leadsSomewhere", "(LFormulaVoice$Page;I)Z"⟩
def RX6 : String := "FormulaVoice"
def TX6 : u_T := fun k => match k with
  | 0 => ("FormulaVoice", "page", "LFormulaVoice$Page;", true)
  | 1 => ("FormulaVoice", "draft", "LFormulaVoice$Page;", true)
  | 2 => ("FormulaVoice", "speech", "LFormulaVoice$Speech;", true)
  | 3 => ("FormulaVoice", "otherSpeech", "LFormulaVoice$Speech;", true)
  | 4 => ("FormulaVoice", "hearing", "LFormulaVoice$Hearing;", true)
  | 5 => ("FormulaVoice", "route", "LFormulaVoice$Walk;", true)
  | 6 => ("FormulaVoice", "shelves", "[LFormulaVoice$Shelf;", true)
  | 7 => ("FormulaVoice", "styles", "[I", true)
  | _ => ("FormulaVoice", "functions", "I", false)
def tyX6 : Nat → FieldType := fun k => match k with
  | 0 => .object "FormulaVoice$Page"
  | 1 => .object "FormulaVoice$Page"
  | 2 => .object "FormulaVoice$Speech"
  | 3 => .object "FormulaVoice$Speech"
  | 4 => .object "FormulaVoice$Hearing"
  | 5 => .object "FormulaVoice$Walk"
  | 6 => .array (.object "FormulaVoice$Shelf")
  | 7 => .array .int
  | _ => .int
abbrev wsX60 : List Cond := u_ws RX6 TX6 9
theorem nmX6 : ∀ a, a < 9 → ∀ b, b < 9 → a ≠ b → (TX6 a).2.1 ≠ (TX6 b).2.1 := by decide +kernel
theorem tyX6_ok : ∀ k, k < 9 → parseFieldDescriptor (TX6 k).2.2.1 = some (tyX6 k) := by decide +kernel
abbrev cX6_init : ByteArray := prog_1_method_1_code
def yX6_init : MethodName := ⟨RX6, "<init>", "()V"⟩
abbrev cX6_leaf : ByteArray := prog_1_method_2_code
def yX6_leaf : MethodName := ⟨RX6, "leaf", "(II)I"⟩
abbrev cX6_node : ByteArray := prog_1_method_3_code
def yX6_node : MethodName := ⟨RX6, "node", "(III)I"⟩
abbrev cX6_undo : ByteArray := prog_1_method_4_code
def yX6_undo : MethodName := ⟨RX6, "undo", "()I"⟩
abbrev cX6_means : ByteArray := prog_1_method_5_code
def yX6_means : MethodName := ⟨RX6, "means", "(IZ)I"⟩
abbrev cX6_look : ByteArray := prog_1_method_6_code
def yX6_look : MethodName := ⟨RX6, "look", "(II)I"⟩
abbrev cX6_alike : ByteArray := prog_1_method_7_code
def yX6_alike : MethodName := ⟨RX6, "alike", "(II)I"⟩
abbrev cX6_times : ByteArray := prog_1_method_8_code
def yX6_times : MethodName := ⟨RX6, "times", "(II)I"⟩
abbrev cX6_keeps : ByteArray := prog_1_method_9_code
def yX6_keeps : MethodName := ⟨RX6, "keeps", "(IIZ)I"⟩
abbrev cX6_words : ByteArray := prog_1_method_10_code
def yX6_words : MethodName := ⟨RX6, "words", "(II)I"⟩
abbrev cX6_word : ByteArray := prog_1_method_11_code
def yX6_word : MethodName := ⟨RX6, "word", "(III)I"⟩
abbrev cX6_sound : ByteArray := prog_1_method_12_code
def yX6_sound : MethodName := ⟨RX6, "sound", "(III)I"⟩
abbrev cX6_clear : ByteArray := prog_1_method_13_code
def yX6_clear : MethodName := ⟨RX6, "clear", "(II)I"⟩
abbrev cX6_hear : ByteArray := prog_1_method_14_code
def yX6_hear : MethodName := ⟨RX6, "hear", "(II)I"⟩
abbrev cX6_listen : ByteArray := prog_1_method_15_code
def yX6_listen : MethodName := ⟨RX6, "listen", "(II)I"⟩
abbrev cX6_hush : ByteArray := prog_1_method_16_code
def yX6_hush : MethodName := ⟨RX6, "hush", "()I"⟩
abbrev cX6_ear : ByteArray := prog_1_method_17_code
def yX6_ear : MethodName := ⟨RX6, "ear", "(I)I"⟩
abbrev cX6_readings : ByteArray := prog_1_method_18_code
def yX6_readings : MethodName := ⟨RX6, "readings", "(I)J"⟩
abbrev cX6_write : ByteArray := prog_1_method_19_code
def yX6_write : MethodName := ⟨RX6, "write", "(IJ)I"⟩
abbrev cX6_place : ByteArray := prog_1_method_20_code
def yX6_place : MethodName := ⟨RX6, "place", "(II)J"⟩
abbrev cX6_doubt : ByteArray := prog_1_method_21_code
def yX6_doubt : MethodName := ⟨RX6, "doubt", "(IJJ)I"⟩
abbrev cX6_fewest : ByteArray := prog_1_method_22_code
def yX6_fewest : MethodName := ⟨RX6, "fewest", "(I)I"⟩
abbrev cX6_walk : ByteArray := prog_1_method_23_code
def yX6_walk : MethodName := ⟨RX6, "walk", "(I)I"⟩
abbrev cX6_go : ByteArray := prog_1_method_24_code
def yX6_go : MethodName := ⟨RX6, "go", "(I)I"⟩
abbrev cX6_where : ByteArray := prog_1_method_25_code
def yX6_where : MethodName := ⟨RX6, "where", "(I)I"⟩
abbrev cX6_lead : ByteArray := prog_1_method_26_code
def yX6_lead : MethodName := ⟨RX6, "lead", "(I)I"⟩
abbrev cX6_glance : ByteArray := prog_1_method_27_code
def yX6_glance : MethodName := ⟨RX6, "glance", "(II)I"⟩
abbrev cX6_changed : ByteArray := prog_1_method_28_code
def yX6_changed : MethodName := ⟨RX6, "changed", "(II)I"⟩
abbrev cX6_exchanged : ByteArray := prog_1_method_29_code
def yX6_exchanged : MethodName := ⟨RX6, "exchanged", "(II)I"⟩
abbrev cX6_count : ByteArray := prog_1_method_30_code
def yX6_count : MethodName := ⟨RX6, "count", "(I)I"⟩
abbrev cX6_keep : ByteArray := prog_1_method_31_code
def yX6_keep : MethodName := ⟨RX6, "keep", "(III)I"⟩
abbrev cX6_make : ByteArray := prog_1_method_32_code
def yX6_make : MethodName := ⟨RX6, "make", "(III)I"⟩
abbrev cX6_element : ByteArray := prog_1_method_33_code
def yX6_element : MethodName := ⟨RX6, "element", "(II)J"⟩
abbrev cX6_copy : ByteArray := prog_1_method_34_code
def yX6_copy : MethodName := ⟨RX6, "copy", "(IIIII)I"⟩
abbrev cX6_weight : ByteArray := prog_1_method_35_code
def yX6_weight : MethodName := ⟨RX6, "weight", "(I)I"⟩
abbrev cX6_toss : ByteArray := prog_1_method_36_code
def yX6_toss : MethodName := ⟨RX6, "toss", "(I)I"⟩
abbrev cX6_isLetter : ByteArray := prog_1_method_37_code
def yX6_isLetter : MethodName := ⟨RX6, "isLetter", "(I)Z"⟩
abbrev cX6_isStyle : ByteArray := prog_1_method_38_code
def yX6_isStyle : MethodName := ⟨RX6, "isStyle", "(I)Z"⟩
abbrev cX6_isStyleOrFree : ByteArray := prog_1_method_39_code
def yX6_isStyleOrFree : MethodName := ⟨RX6, "isStyleOrFree", "(I)Z"⟩
abbrev cX6_isShelf : ByteArray := prog_1_method_40_code
def yX6_isShelf : MethodName := ⟨RX6, "isShelf", "(I)Z"⟩
abbrev cX6_orMissing : ByteArray := prog_1_method_41_code
def yX6_orMissing : MethodName := ⟨RX6, "orMissing", "(I)I"⟩
abbrev cX6_digitOf : ByteArray := prog_1_method_42_code
def yX6_digitOf : MethodName := ⟨RX6, "digitOf", "(II)I"⟩
abbrev cX6_hearSpeech : ByteArray := prog_1_method_43_code
def yX6_hearSpeech : MethodName := ⟨RX6, "hearSpeech", "()I"⟩
abbrev cX6_tallyIn : ByteArray := prog_1_method_44_code
def yX6_tallyIn : MethodName := ⟨RX6, "tallyIn", "(I)J"⟩
abbrev cX6_keepNode : ByteArray := prog_1_method_45_code
def yX6_keepNode : MethodName := ⟨RX6, "keepNode", "(LFormulaVoice$Shelf;II)I"⟩
abbrev cX6_nodeRefusal : ByteArray := prog_1_method_46_code
def yX6_nodeRefusal : MethodName := ⟨RX6, "nodeRefusal", "(I)I"⟩
def RX7 : String := "FormulaVoiceModel"
def TX7 : u_T := fun k => match k with
  | 0 => ("FormulaVoiceModel", "nodes", "I", false)
  | 1 => ("FormulaVoiceModel", "kind", "[I", true)
  | 2 => ("FormulaVoiceModel", "value", "[I", true)
  | 3 => ("FormulaVoiceModel", "first", "[I", true)
  | 4 => ("FormulaVoiceModel", "second", "[I", true)
  | 5 => ("FormulaVoiceModel", "size", "[I", true)
  | 6 => ("FormulaVoiceModel", "depth", "[I", true)
  | 7 => ("FormulaVoiceModel", "isFunction", "[Z", true)
  | 8 => ("FormulaVoiceModel", "isKept", "[Z", true)
  | 9 => ("FormulaVoiceModel", "ear", "[I", true)
  | 10 => ("FormulaVoiceModel", "heard", "I", false)
  | 11 => ("FormulaVoiceModel", "shelf", "[I", true)
  | 12 => ("FormulaVoiceModel", "shelfKind", "[I", true)
  | 13 => ("FormulaVoiceModel", "shelfValue", "[I", true)
  | 14 => ("FormulaVoiceModel", "shelfSize", "[I", true)
  | 15 => ("FormulaVoiceModel", "rows", "[I", true)
  | 16 => ("FormulaVoiceModel", "thrown", "I", false)
  | 17 => ("FormulaVoiceModel", "said", "[I", true)
  | 18 => ("FormulaVoiceModel", "saidMany", "I", false)
  | 19 => ("FormulaVoiceModel", "mask", "I", false)
  | 20 => ("FormulaVoiceModel", "masked", "I", false)
  | 21 => ("FormulaVoiceModel", "maskMany", "I", false)
  | 22 => ("FormulaVoiceModel", "kept", "[I", true)
  | 23 => ("FormulaVoiceModel", "small", "I", false)
  | 24 => ("FormulaVoiceModel", "smallWords", "[I", true)
  | 25 => ("FormulaVoiceModel", "smallMany", "[I", true)
  | 26 => ("FormulaVoiceModel", "many", "[J", true)
  | 27 => ("FormulaVoiceModel", "all", "[J", true)
  | 28 => ("FormulaVoiceModel", "style", "I", false)
  | 29 => ("FormulaVoiceModel", "made", "I", false)
  | 30 => ("FormulaVoiceModel", "isWalk", "Z", false)
  | 31 => ("FormulaVoiceModel", "path", "[I", true)
  | 32 => ("FormulaVoiceModel", "step", "[I", true)
  | 33 => ("FormulaVoiceModel", "deep", "I", false)
  | _ => ("FormulaVoiceModel", "kindsMany", "I", false)
def tyX7 : Nat → FieldType := fun k => match k with
  | 0 => .int
  | 1 => .array .int
  | 2 => .array .int
  | 3 => .array .int
  | 4 => .array .int
  | 5 => .array .int
  | 6 => .array .int
  | 7 => .array .boolean
  | 8 => .array .boolean
  | 9 => .array .int
  | 10 => .int
  | 11 => .array .int
  | 12 => .array .int
  | 13 => .array .int
  | 14 => .array .int
  | 15 => .array .int
  | 16 => .int
  | 17 => .array .int
  | 18 => .int
  | 19 => .int
  | 20 => .int
  | 21 => .int
  | 22 => .array .int
  | 23 => .int
  | 24 => .array .int
  | 25 => .array .int
  | 26 => .array .long
  | 27 => .array .long
  | 28 => .int
  | 29 => .int
  | 30 => .boolean
  | 31 => .array .int
  | 32 => .array .int
  | 33 => .int
  | _ => .int
abbrev wsX70 : List Cond := u_ws RX7 TX7 35
theorem nmX7 : ∀ a, a < 35 → ∀ b, b < 35 → a ≠ b → (TX7 a).2.1 ≠ (TX7 b).2.1 := by decide +kernel
theorem tyX7_ok : ∀ k, k < 35 → parseFieldDescriptor (TX7 k).2.2.1 = some (tyX7 k) := by decide +kernel
abbrev cX7_init : ByteArray := prog_9_method_1_code
def yX7_init : MethodName := ⟨RX7, "<init>", "()V"⟩
abbrev cX7_in : ByteArray := prog_9_method_3_code
def yX7_in : MethodName := ⟨RX7, "in", "(JJJ)Z"⟩
abbrev cX7_isNode : ByteArray := prog_9_method_4_code
def yX7_isNode : MethodName := ⟨RX7, "isNode", "(I)Z"⟩
abbrev cX7_isTwo : ByteArray := prog_9_method_5_code
def yX7_isTwo : MethodName := ⟨RX7, "isTwo", "(I)Z"⟩
abbrev cX7_mayKeep : ByteArray := prog_9_method_6_code
def yX7_mayKeep : MethodName := ⟨RX7, "mayKeep", "(I)Z"⟩
abbrev cX7_isStyle : ByteArray := prog_9_method_7_code
def yX7_isStyle : MethodName := ⟨RX7, "isStyle", "(I)Z"⟩
abbrev cX7_sets : ByteArray := prog_9_method_8_code
def yX7_sets : MethodName := ⟨RX7, "sets", "(IIIII)V"⟩
abbrev cX7_leaf : ByteArray := prog_9_method_9_code
def yX7_leaf : MethodName := ⟨RX7, "leaf", "(II)I"⟩
abbrev cX7_node : ByteArray := prog_9_method_10_code
def yX7_node : MethodName := ⟨RX7, "node", "(III)I"⟩
abbrev cX7_undo : ByteArray := prog_9_method_11_code
def yX7_undo : MethodName := ⟨RX7, "undo", "()I"⟩
abbrev cX7_means : ByteArray := prog_9_method_12_code
def yX7_means : MethodName := ⟨RX7, "means", "(IZ)I"⟩
abbrev cX7_isRight : ByteArray := prog_9_method_13_code
def yX7_isRight : MethodName := ⟨RX7, "isRight", "(I)Z"⟩
abbrev cX7_look : ByteArray := prog_9_method_14_code
def yX7_look : MethodName := ⟨RX7, "look", "(II)I"⟩
abbrev cX7_areAlike : ByteArray := prog_9_method_15_code
def yX7_areAlike : MethodName := ⟨RX7, "areAlike", "(II)Z"⟩
abbrev cX7_alike : ByteArray := prog_9_method_16_code
def yX7_alike : MethodName := ⟨RX7, "alike", "(II)I"⟩
abbrev cX7_has : ByteArray := prog_9_method_17_code
def yX7_has : MethodName := ⟨RX7, "has", "(II)I"⟩
abbrev cX7_times : ByteArray := prog_9_method_18_code
def yX7_times : MethodName := ⟨RX7, "times", "(II)I"⟩
abbrev cX7_keeps : ByteArray := prog_9_method_19_code
def yX7_keeps : MethodName := ⟨RX7, "keeps", "(IIZ)I"⟩
abbrev cX7_digits : ByteArray := prog_9_method_20_code
def yX7_digits : MethodName := ⟨RX7, "digits", "(I)I"⟩
abbrev cX7_own : ByteArray := prog_9_method_21_code
def yX7_own : MethodName := ⟨RX7, "own", "(I)I"⟩
abbrev cX7_length : ByteArray := prog_9_method_22_code
def yX7_length : MethodName := ⟨RX7, "length", "(II)I"⟩
abbrev cX7_says : ByteArray := prog_9_method_23_code
def yX7_says : MethodName := ⟨RX7, "says", "(I)V"⟩
abbrev cX7_keepsIt : ByteArray := prog_9_method_24_code
def yX7_keepsIt : MethodName := ⟨RX7, "keepsIt", "(II)Z"⟩
abbrev cX7_say : ByteArray := prog_9_method_25_code
def yX7_say : MethodName := ⟨RX7, "say", "(II)V"⟩
abbrev cX7_sayAll : ByteArray := prog_9_method_26_code
def yX7_sayAll : MethodName := ⟨RX7, "sayAll", "(II)V"⟩
abbrev cX7_words : ByteArray := prog_9_method_27_code
def yX7_words : MethodName := ⟨RX7, "words", "(II)I"⟩
abbrev cX7_word : ByteArray := prog_9_method_28_code
def yX7_word : MethodName := ⟨RX7, "word", "(III)I"⟩
abbrev cX7_sound : ByteArray := prog_9_method_29_code
def yX7_sound : MethodName := ⟨RX7, "sound", "(III)I"⟩
abbrev cX7_adds : ByteArray := prog_9_method_30_code
def yX7_adds : MethodName := ⟨RX7, "adds", "(IIII)V"⟩
abbrev cX7_grows : ByteArray := prog_9_method_31_code
def yX7_grows : MethodName := ⟨RX7, "grows", "(I)V"⟩
abbrev cX7_isSame : ByteArray := prog_9_method_32_code
def yX7_isSame : MethodName := ⟨RX7, "isSame", "(II)Z"⟩
abbrev cX7_clear : ByteArray := prog_9_method_33_code
def yX7_clear : MethodName := ⟨RX7, "clear", "(II)I"⟩
abbrev cX7_hear : ByteArray := prog_9_method_34_code
def yX7_hear : MethodName := ⟨RX7, "hear", "(II)I"⟩
abbrev cX7_listen : ByteArray := prog_9_method_35_code
def yX7_listen : MethodName := ⟨RX7, "listen", "(II)I"⟩
abbrev cX7_hears : ByteArray := prog_9_method_36_code
def yX7_hears : MethodName := ⟨RX7, "hears", "()V"⟩
abbrev cX7_hush : ByteArray := prog_9_method_37_code
def yX7_hush : MethodName := ⟨RX7, "hush", "()I"⟩
abbrev cX7_ear : ByteArray := prog_9_method_38_code
def yX7_ear : MethodName := ⟨RX7, "ear", "(I)I"⟩
abbrev cX7_times_ : ByteArray := prog_9_method_39_code
def yX7_times_ : MethodName := ⟨RX7, "times", "(JJ)J"⟩
abbrev cX7_plus : ByteArray := prog_9_method_40_code
def yX7_plus : MethodName := ⟨RX7, "plus", "(JJ)J"⟩
abbrev cX7_isLet : ByteArray := prog_9_method_41_code
def yX7_isLet : MethodName := ⟨RX7, "isLet", "(IZ)Z"⟩
abbrev cX7_isNumber : ByteArray := prog_9_method_42_code
def yX7_isNumber : MethodName := ⟨RX7, "isNumber", "(II)Z"⟩
abbrev cX7_within : ByteArray := prog_9_method_43_code
def yX7_within : MethodName := ⟨RX7, "within", "(III)J"⟩
abbrev cX7_reckons : ByteArray := prog_9_method_44_code
def yX7_reckons : MethodName := ⟨RX7, "reckons", "(I)V"⟩
abbrev cX7_counted : ByteArray := prog_9_method_45_code
def yX7_counted : MethodName := ⟨RX7, "counted", "(I)J"⟩
abbrev cX7_readings : ByteArray := prog_9_method_46_code
def yX7_readings : MethodName := ⟨RX7, "readings", "(I)J"⟩
abbrev cX7_makes : ByteArray := prog_9_method_47_code
def yX7_makes : MethodName := ⟨RX7, "makes", "(IIII)I"⟩
abbrev cX7_takes : ByteArray := prog_9_method_48_code
def yX7_takes : MethodName := ⟨RX7, "takes", "(IIJ)I"⟩
abbrev cX7_takesTwo : ByteArray := prog_9_method_49_code
def yX7_takesTwo : MethodName := ⟨RX7, "takesTwo", "(IIIJ)I"⟩
abbrev cX7_write : ByteArray := prog_9_method_50_code
def yX7_write : MethodName := ⟨RX7, "write", "(IJ)I"⟩
abbrev cX7_copies : ByteArray := prog_9_method_51_code
def yX7_copies : MethodName := ⟨RX7, "copies", "(I)I"⟩
abbrev cX7_rank : ByteArray := prog_9_method_52_code
def yX7_rank : MethodName := ⟨RX7, "rank", "(III)J"⟩
abbrev cX7_inner : ByteArray := prog_9_method_53_code
def yX7_inner : MethodName := ⟨RX7, "inner", "(III)J"⟩
abbrev cX7_innerTwo : ByteArray := prog_9_method_54_code
def yX7_innerTwo : MethodName := ⟨RX7, "innerTwo", "(III)J"⟩
abbrev cX7_place : ByteArray := prog_9_method_55_code
def yX7_place : MethodName := ⟨RX7, "place", "(II)J"⟩
abbrev cX7_doubt : ByteArray := prog_9_method_56_code
def yX7_doubt : MethodName := ⟨RX7, "doubt", "(IJJ)I"⟩
abbrev cX7_keepable : ByteArray := prog_9_method_57_code
def yX7_keepable : MethodName := ⟨RX7, "keepable", "(I)I"⟩
abbrev cX7_bits : ByteArray := prog_9_method_58_code
def yX7_bits : MethodName := ⟨RX7, "bits", "(I)I"⟩
abbrev cX7_fewest : ByteArray := prog_9_method_59_code
def yX7_fewest : MethodName := ⟨RX7, "fewest", "(I)I"⟩
abbrev cX7_isOnly : ByteArray := prog_9_method_60_code
def yX7_isOnly : MethodName := ⟨RX7, "isOnly", "(III)Z"⟩
abbrev cX7_walk : ByteArray := prog_9_method_61_code
def yX7_walk : MethodName := ⟨RX7, "walk", "(I)I"⟩
abbrev cX7_down : ByteArray := prog_9_method_62_code
def yX7_down : MethodName := ⟨RX7, "down", "(I)Z"⟩
abbrev cX7_go : ByteArray := prog_9_method_63_code
def yX7_go : MethodName := ⟨RX7, "go", "(I)I"⟩
abbrev cX7_where : ByteArray := prog_9_method_64_code
def yX7_where : MethodName := ⟨RX7, "where", "(I)I"⟩
abbrev cX7_lead : ByteArray := prog_9_method_65_code
def yX7_lead : MethodName := ⟨RX7, "lead", "(I)I"⟩
abbrev cX7_glanced : ByteArray := prog_9_method_66_code
def yX7_glanced : MethodName := ⟨RX7, "glanced", "(III)I"⟩
abbrev cX7_glance : ByteArray := prog_9_method_67_code
def yX7_glance : MethodName := ⟨RX7, "glance", "(II)I"⟩
abbrev cX7_inside : ByteArray := prog_9_method_68_code
def yX7_inside : MethodName := ⟨RX7, "inside", "(II)I"⟩
abbrev cX7_difference : ByteArray := prog_9_method_69_code
def yX7_difference : MethodName := ⟨RX7, "difference", "(II)I"⟩
abbrev cX7_wholes : ByteArray := prog_9_method_70_code
def yX7_wholes : MethodName := ⟨RX7, "wholes", "(II)I"⟩
abbrev cX7_changed : ByteArray := prog_9_method_71_code
def yX7_changed : MethodName := ⟨RX7, "changed", "(II)I"⟩
abbrev cX7_exchanged : ByteArray := prog_9_method_72_code
def yX7_exchanged : MethodName := ⟨RX7, "exchanged", "(II)I"⟩
abbrev cX7_functions : ByteArray := prog_9_method_73_code
def yX7_functions : MethodName := ⟨RX7, "functions", "()I"⟩
abbrev cX7_count : ByteArray := prog_9_method_74_code
def yX7_count : MethodName := ⟨RX7, "count", "(I)I"⟩
abbrev cX7_isShelf : ByteArray := prog_9_method_75_code
def yX7_isShelf : MethodName := ⟨RX7, "isShelf", "(I)Z"⟩
abbrev cX7_kinds : ByteArray := prog_9_method_76_code
def yX7_kinds : MethodName := ⟨RX7, "kinds", "(II)V"⟩
abbrev cX7_keep : ByteArray := prog_9_method_77_code
def yX7_keep : MethodName := ⟨RX7, "keep", "(III)I"⟩
abbrev cX7_make : ByteArray := prog_9_method_78_code
def yX7_make : MethodName := ⟨RX7, "make", "(III)I"⟩
abbrev cX7_element : ByteArray := prog_9_method_79_code
def yX7_element : MethodName := ⟨RX7, "element", "(II)J"⟩
abbrev cX7_copy : ByteArray := prog_9_method_80_code
def yX7_copy : MethodName := ⟨RX7, "copy", "(IIIII)I"⟩
abbrev cX7_held : ByteArray := prog_9_method_81_code
def yX7_held : MethodName := ⟨RX7, "held", "(I)I"⟩
abbrev cX7_weight : ByteArray := prog_9_method_82_code
def yX7_weight : MethodName := ⟨RX7, "weight", "(I)I"⟩
abbrev cX7_toss : ByteArray := prog_9_method_83_code
def yX7_toss : MethodName := ⟨RX7, "toss", "(I)I"⟩
def RJ6 : String := "java/lang/Integer"
def TJ6 : u_T := fun k => match k with
  | _ => ("", "", "", false)
def tyJ6 : Nat → FieldType := fun k => match k with
  | _ => .int
abbrev wsJ60 : List Cond := u_ws RJ6 TJ6 0
theorem nmJ6 : ∀ a, a < 0 → ∀ b, b < 0 → a ≠ b → (TJ6 a).2.1 ≠ (TJ6 b).2.1 := by decide +kernel
theorem tyJ6_ok : ∀ k, k < 0 → parseFieldDescriptor (TJ6 k).2.2.1 = some (tyJ6 k) := by decide +kernel
abbrev cJ6_bitCount_0f7a4 : ByteArray := prog_13_method_49_code
def yJ6_bitCount_0f7a4 : MethodName := ⟨RJ6, "bitCount", "(I)I"⟩
def RJ9 : String := "java/lang/Math"
def TJ9 : u_T := fun k => match k with
  | _ => ("", "", "", false)
def tyJ9 : Nat → FieldType := fun k => match k with
  | _ => .int
abbrev wsJ90 : List Cond := u_ws RJ9 TJ9 0
theorem nmJ9 : ∀ a, a < 0 → ∀ b, b < 0 → a ≠ b → (TJ9 a).2.1 ≠ (TJ9 b).2.1 := by decide +kernel
theorem tyJ9_ok : ∀ k, k < 0 → parseFieldDescriptor (TJ9 k).2.2.1 = some (tyJ9 k) := by decide +kernel
abbrev cJ9_max_7cf53 : ByteArray := prog_14_method_65_code
def yJ9_max_7cf53 : MethodName := ⟨RJ9, "max", "(II)I"⟩
abbrev cJ9_min_7cf53 : ByteArray := prog_14_method_69_code
def yJ9_min_7cf53 : MethodName := ⟨RJ9, "min", "(II)I"⟩
abbrev cJ9_min_f86c9 : ByteArray := prog_14_method_70_code
def yJ9_min_f86c9 : MethodName := ⟨RJ9, "min", "(JJ)J"⟩
def RJ0 : String := "java/lang/String"
def TJ0 : u_T := fun k => match k with
  | _ => ("", "", "", false)
def tyJ0 : Nat → FieldType := fun k => match k with
  | _ => .int
abbrev wsJ00 : List Cond := u_ws RJ0 TJ0 0
theorem nmJ0 : ∀ a, a < 0 → ∀ b, b < 0 → a ≠ b → (TJ0 a).2.1 ≠ (TJ0 b).2.1 := by decide +kernel
theorem tyJ0_ok : ∀ k, k < 0 → parseFieldDescriptor (TJ0 k).2.2.1 = some (tyJ0 k) := by decide +kernel
def RJ10 : String := "java/lang/System"
def TJ10 : u_T := fun k => match k with
  | _ => ("", "", "", false)
def tyJ10 : Nat → FieldType := fun k => match k with
  | _ => .int
abbrev wsJ100 : List Cond := u_ws RJ10 TJ10 0
theorem nmJ10 : ∀ a, a < 0 → ∀ b, b < 0 → a ≠ b → (TJ10 a).2.1 ≠ (TJ10 b).2.1 := by decide +kernel
theorem tyJ10_ok : ∀ k, k < 0 → parseFieldDescriptor (TJ10 k).2.2.1 = some (tyJ10 k) := by decide +kernel
def RL : String := "FormulaVoiceLaw"
abbrev cL_readings : ByteArray := method_3_code
def yL_readings : MethodName := ⟨RL, "readings", "(LFormulaVoice;I[J)I"⟩
abbrev cL_where : ByteArray := method_4_code
def yL_where : MethodName := ⟨RL, "where", "(LFormulaVoice;I[J)I"⟩
abbrev cL_element : ByteArray := method_5_code
def yL_element : MethodName := ⟨RL, "element", "(LFormulaVoice;II[J)I"⟩
abbrev cL_law : ByteArray := code
def yL_law : MethodName := ⟨RL, "law", "([I)Z"⟩
abbrev vwCl : List vw_C := [(RX0, TX0, 6), (RX2, TX2, 13), (RX3, TX3, 6), (RX4, TX4, 4), (RX5, TX5, 4), (RX6, TX6, 9), (RX7, TX7, 35)]
end
section
/-! A pure machine over the kit's rows: worlds whose cells are numbered 0, 1, 2 .. in the order of their making; a value '.ref k' means cell k; 'ad k' is its address -/
abbrev zC : Type := (Nat × Nat × (Nat → Int32)) ⊕ ((Nat × (Nat → Int64)) ⊕ ((Nat × List (Option Nat)) ⊕ (Nat × List Value)))
abbrev zW : Type := List zC
abbrev zL : Type := List (Nat × Value)
/-- an array of ints (t = 0) or booleans (t = 1) -/
abbrev zI (t n : Nat) (f : Nat → Int32) : zC := .inl (t, n, f)
/-- an array of longs -/
abbrev zJ (n : Nat) (f : Nat → Int64) : zC := .inr (.inl (n, f))
/-- an array of references (t = 3: of Shelf, t = 4: of long rows) -/
abbrev zR (t : Nat) (es : List (Option Nat)) : zC := .inr (.inr (.inl (t, es)))
/-- an object of class number ci of vwCl -/
abbrev zO (ci : Nat) (fs : List Value) : zC := .inr (.inr (.inr (ci, fs)))
def zv (ad : Nat → Nat) : Value → Value
  | .ref k => .ref (ad k)
  | .int x => .int x
  | .long x => .long x
  | .float x => .float x
  | .double x => .double x
  | .null => .null
  | .retAddr x => .retAddr x
def zc (dA : Nat → ClassId) (ad : Nat → Nat) : zC → va_E
  | .inl (t, n, f) => .inl (dA t, n, .inl f)
  | .inr (.inl (n, f)) => .inl (dA 2, n, .inr (.inl f))
  | .inr (.inr (.inl (t, es))) => .inl (dA t, es.length, .inr (.inr (.inr (.inr (fun i => (es.getD i none).map ad)))))
  | .inr (.inr (.inr (ci, fs))) => .inr (ci, fs.map (zv ad))
def zw (dA : Nat → ClassId) (ad : Nat → Nat) (w : zW) : va_W := w.mapIdx (fun k c => (ad k, zc dA ad c))
def zl (ad : Nat → Nat) (l : zL) : zL := l.map (fun q => (q.1, zv ad q.2))
def ztys (dA : Nat → ClassId) : List (ClassId × FieldType) := [(dA 0, .int), (dA 1, .boolean), (dA 2, .long), (dA 3, .object RX3), (dA 4, .array .long)]
theorem zw_at {dA : Nat → ClassId} {ad : Nat → Nat} {w : zW} {k : Nat} {c : zC} (h : w[k]? = some c) : (zw dA ad w)[k]? = some (ad k, zc dA ad c) := by
  unfold zw
  rw [List.getElem?_mapIdx, h]
  rfl
theorem zw_len (dA : Nat → ClassId) (ad : Nat → Nat) (w : zW) : (zw dA ad w).length = w.length := by
  unfold zw; rw [List.length_mapIdx]
theorem zw_set (dA : Nat → ClassId) (ad : Nat → Nat) (w : zW) (k : Nat) (c : zC) : (zw dA ad w).set k (ad k, zc dA ad c) = zw dA ad (w.set k c) := by
  apply List.ext_getElem?
  intro i
  unfold zw
  rw [List.getElem?_mapIdx]
  by_cases hi : k = i
  · subst hi
    by_cases hl : k < w.length
    · rw [List.getElem?_set_self (by rw [List.length_mapIdx]; exact hl), List.getElem?_set_self hl]; rfl
    · rw [List.getElem?_eq_none (by rw [List.length_set, List.length_mapIdx]; omega), List.getElem?_eq_none (by rw [List.length_set]; omega)]; rfl
  · rw [List.getElem?_set_ne hi, List.getElem?_set_ne hi, List.getElem?_mapIdx]
theorem zv_cat (ad : Nat → Nat) (v : Value) : (zv ad v).category = v.category := by cases v <;> rfl
theorem zl_filter (ad : Nat → Nat) (f : Nat → Nat → Bool) : ∀ l : zL, (zl ad l).filter (fun q => f q.1 q.2.category) = zl ad (l.filter (fun q => f q.1 q.2.category))
  | [] => rfl
  | q :: l => by
    have ih := zl_filter ad f l
    unfold zl at ih ⊢
    rw [List.map_cons, List.filter_cons, List.filter_cons]
    dsimp only
    rw [zv_cat]
    split
    · rw [List.map_cons, ih]
    · exact ih
/-- a local's value -/
def zget : zL → Nat → Option Value
  | [], _ => none
  | q :: l, i => bif Nat.beq q.1 i then some q.2 else zget l i
theorem zget_mem {i : Nat} {v : Value} : ∀ {l : zL}, zget l i = some v → (i, v) ∈ l
  | [], h => by cases h
  | q :: l, h => by
    unfold zget at h
    cases hb : Nat.beq q.1 i with
    | true =>
      rw [hb] at h
      have e := Nat.eq_of_beq_eq_true hb
      have h2 : q.2 = v := Option.some.inj h
      rw [← e, ← h2]
      exact List.mem_cons_self
    | false =>
      rw [hb] at h
      exact List.mem_cons_of_mem _ (zget_mem h)
theorem zl_at {ad : Nat → Nat} {ls : Array Slot} {nL i : Nat} {v : Value} {l : zL} (h : lv_has ls nL (zl ad l)) (hg : zget l i = some v) : ls[i]? = some (.val (zv ad v)) :=
  h.2.2 (i, zv ad v) (List.mem_map.mpr ⟨(i, v), zget_mem hg, rfl⟩)
def zset1 (l : zL) (i : Nat) (v : Value) : zL := (i, v) :: l.filter (fun q => !(q.1 == i) && !(q.1 + 1 == i && q.2.category == 2))
def zset2 (l : zL) (i : Nat) (v : Value) : zL := (i, v) :: l.filter (fun q => !(q.1 == i) && (!(q.1 == i + 1) && !(q.1 + 1 == i && q.2.category == 2)))
theorem zl_set1 (ad : Nat → Nat) (l : zL) (i : Nat) (v : Value) : (i, zv ad v) :: (zl ad l).filter (fun q => !(q.1 == i) && !(q.1 + 1 == i && q.2.category == 2)) = zl ad (zset1 l i v) := by
  rw [zl_filter ad (fun a b => !(a == i) && !(a + 1 == i && b == 2)) l]; rfl
theorem zl_set2 (ad : Nat → Nat) (l : zL) (i : Nat) (v : Value) : (i, zv ad v) :: (zl ad l).filter (fun q => !(q.1 == i) && (!(q.1 == i + 1) && !(q.1 + 1 == i && q.2.category == 2))) = zl ad (zset2 l i v) := by
  rw [zl_filter ad (fun a b => !(a == i) && (!(a == i + 1) && !(a + 1 == i && b == 2))) l]; rfl
/-- the words that every method is given beside its own code -/
def zG : List Cond := lw_tbl.filter goodWord
theorem zG_good {w : Cond} (h : w ∈ zG) : goodWord w = true := (List.mem_filter.mp h).2
/-- the tables of the classes -/
def zty (ci : Nat) : Nat → FieldType := match ci with
  | 0 => tyX0
  | 1 => tyX2
  | 2 => tyX3
  | 3 => tyX4
  | 4 => tyX5
  | 5 => tyX6
  | _ => tyX7
theorem zty_ok : ∀ ci, ci < 7 → ∀ r, vwCl[ci]? = some r → ∀ k, k < r.2.2 → parseFieldDescriptor (r.2.1 k).2.2.1 = some (zty ci k) := by
  intro ci h r hr
  match ci, h, hr with
  | 0, _, hr => cases hr; exact tyX0_ok
  | 1, _, hr => cases hr; exact tyX2_ok
  | 2, _, hr => cases hr; exact tyX3_ok
  | 3, _, hr => cases hr; exact tyX4_ok
  | 4, _, hr => cases hr; exact tyX5_ok
  | 5, _, hr => cases hr; exact tyX6_ok
  | 6, _, hr => cases hr; exact tyX7_ok
theorem znm_ok : ∀ ci, ci < 7 → ∀ r, vwCl[ci]? = some r → ∀ a, a < r.2.2 → ∀ b, b < r.2.2 → a ≠ b → (r.2.1 a).2.1 ≠ (r.2.1 b).2.1 := by
  intro ci h r hr
  match ci, h, hr with
  | 0, _, hr => cases hr; exact nmX0
  | 1, _, hr => cases hr; exact nmX2
  | 2, _, hr => cases hr; exact nmX3
  | 3, _, hr => cases hr; exact nmX4
  | 4, _, hr => cases hr; exact nmX5
  | 5, _, hr => cases hr; exact nmX6
  | 6, _, hr => cases hr; exact nmX7
theorem zin0 : ∀ w ∈ wsX00, w ∈ zG := by decide +kernel
theorem zin1 : ∀ w ∈ wsX20, w ∈ zG := by decide +kernel
theorem zin2 : ∀ w ∈ wsX30, w ∈ zG := by decide +kernel
theorem zin3 : ∀ w ∈ wsX40, w ∈ zG := by decide +kernel
theorem zin4 : ∀ w ∈ wsX50, w ∈ zG := by decide +kernel
theorem zin5 : ∀ w ∈ wsX60, w ∈ zG := by decide +kernel
theorem zin6 : ∀ w ∈ wsX70, w ∈ zG := by decide +kernel
theorem zlt7 {ci : Nat} {r : vw_C} (h : vwCl[ci]? = some r) : ci < 7 := (List.getElem?_eq_some_iff.mp h).1
theorem zin_ok {ci : Nat} {r : vw_C} (hr : vwCl[ci]? = some r) : ∀ w ∈ u_ws r.1 r.2.1 r.2.2, w ∈ zG := by
  have h := zlt7 hr
  match ci, h, hr with
  | 0, _, hr => cases hr; exact zin0
  | 1, _, hr => cases hr; exact zin1
  | 2, _, hr => cases hr; exact zin2
  | 3, _, hr => cases hr; exact zin3
  | 4, _, hr => cases hr; exact zin4
  | 5, _, hr => cases hr; exact zin5
  | 6, _, hr => cases hr; exact zin6
end
section
/-! one step of the pure machine -/
abbrev zE : Type := Nat × Instr × Nat × Nat × Nat × Int
abbrev zN : Type := Prop × Nat × zL × List Value × zW
def zlook : List zE → Nat → Option (Instr × Nat × Nat × Nat × Int)
  | [], _ => none
  | e :: t, pc => bif Nat.beq e.1 pc then some e.2 else zlook t pc
theorem zlook_mem {pc : Nat} {x : Instr × Nat × Nat × Nat × Int} : ∀ {t : List zE}, zlook t pc = some x → (pc, x) ∈ t
  | [], h => by cases h
  | q :: l, h => by
    unfold zlook at h
    cases hb : Nat.beq q.1 pc with
    | true =>
      rw [hb] at h
      have e := Nat.eq_of_beq_eq_true hb
      have h2 : q.2 = x := Option.some.inj h
      rw [← e, ← h2]
      exact List.mem_cons_self
    | false =>
      rw [hb] at h
      exact List.mem_cons_of_mem _ (zlook_mem h)
def zlen : Instr → Nat
  | .iload _ => 2
  | .aload _ => 2
  | .lload _ => 2
  | .istore _ => 2
  | .astore _ => 2
  | .lstore _ => 2
  | .bipush _ => 2
  | .newarray _ => 2
  | .ldc _ => 2
  | .iinc _ _ => 3
  | .sipush _ => 3
  | .ldc_w _ => 3
  | .ldc2_w _ => 3
  | .ifCond _ _ => 3
  | .if_icmp _ _ => 3
  | .goto _ => 3
  | .getfield _ => 3
  | .putfield _ => 3
  | .invokevirtual _ => 3
  | .invokestatic _ => 3
  | .invokespecial _ => 3
  | .new _ => 3
  | .anewarray _ => 3
  | .multianewarray _ _ => 4
  | _ => 1
/-- the methods by their numbers: name, bytes, locals, answer, makes cells?, cells and slots that it may make, 0 virtual 1 static 2 constructor, number of parameters -/
abbrev zMt : Type := MethodName × ByteArray × Nat × Option FieldType × Bool × Nat × Nat × Nat × Nat
/-- a class's links: fields (index, class, place, final), methods (index, number), ints, longs, Object's constructor -/
abbrev zFT : Type := List (Nat × Nat × Nat × Nat) × List (Nat × Nat) × List (Nat × Int) × List (Nat × Int) × List Nat
def zMok (z : zMt) : Prop := Cond.code z.1 z.2.1 z.2.2.1 z.2.2.2.1 ∈ zG ∧ (z.1.cls ≠ "java/lang/invoke/MethodHandle" ∧ z.1.cls ≠ "java/lang/invoke/VarHandle" ∧ (parseMethodDescriptor z.1.desc).map (fun d => d.parameters.length) = some z.2.2.2.2.2.2.2.2) ∧ Cond.initialized z.1.cls ∈ zG ∧
  (z.2.2.2.2.2.2.2.1 = 0 → Cond.instanceMethod z.1 ∈ zG ∧ Cond.selects z.1.cls z.1 z.1 ∈ zG) ∧ (z.2.2.2.2.2.2.2.1 = 1 → Cond.static z.1 ∈ zG) ∧ (z.2.2.2.2.2.2.2.1 = 2 → Cond.instanceMethod z.1 ∈ zG ∧ z.1.name = "<init>" ∧ z.2.2.2.1 = none)
theorem zmemT {x : Cond} (i : Nat) (h : tables_1[i]? = some x) (hg : goodWord x = true) : x ∈ zG := List.mem_filter.mpr ⟨List.mem_append_right _ (List.mem_of_getElem? h), hg⟩
theorem zmemS {x : Cond} (i : Nat) (h : (k2_sels lw_privs)[i]? = some x) (hg : goodWord x = true) : x ∈ zG := List.mem_filter.mpr ⟨List.mem_append_left _ (List.mem_of_getElem? h), hg⟩
theorem zapp {α : Type} {a b : List α} {f : α → Prop} (h1 : ∀ e ∈ a, f e) (h2 : ∀ e ∈ b, f e) : ∀ e ∈ a ++ b, f e := List.forall_mem_append.mpr ⟨h1, h2⟩
theorem zcons {α : Type} {a : α} {b : List α} {f : α → Prop} (h1 : f a) (h2 : ∀ e ∈ b, f e) : ∀ e ∈ a :: b, f e := List.forall_mem_cons.mpr ⟨h1, h2⟩
theorem znil {α : Type} {f : α → Prop} : ∀ e ∈ ([] : List α), f e := fun _ h => absurd h List.not_mem_nil
end
section
abbrev zX0_init : zMt := (yX0_init, cX0_init, 1, none, true, 30, 700, 2, 0)
abbrev zX0_add : zMt := (yX0_add, cX0_add, 2, none, false, 0, 0, 0, 1)
abbrev zX0_tally : zMt := (yX0_tally, cX0_tally, 6, (some .long), false, 0, 0, 0, 3)
abbrev zX0_waysOf : zMt := (yX0_waysOf, cX0_waysOf, 6, (some .long), false, 0, 0, 0, 3)
abbrev zX0_isBracketed : zMt := (yX0_isBracketed, cX0_isBracketed, 3, (some .boolean), false, 0, 0, 0, 2)
abbrev zX0_bareWays : zMt := (yX0_bareWays, cX0_bareWays, 8, (some .long), false, 0, 0, 0, 3)
abbrev zX0_kindByEnds : zMt := (yX0_kindByEnds, cX0_kindByEnds, 5, (some .int), false, 0, 0, 0, 2)
abbrev zX0_partFrom : zMt := (yX0_partFrom, cX0_partFrom, 2, (some .int), false, 0, 0, 1, 2)
abbrev zX0_partTo : zMt := (yX0_partTo, cX0_partTo, 2, (some .int), false, 0, 0, 1, 2)
abbrev zX0_numberIn : zMt := (yX0_numberIn, cX0_numberIn, 6, (some .int), false, 0, 0, 0, 2)
abbrev zX0_build : zMt := (yX0_build, cX0_build, 4, (some .int), false, 0, 0, 0, 2)
abbrev zX0_buildSpan : zMt := (yX0_buildSpan, cX0_buildSpan, 14, (some .int), false, 0, 0, 0, 4)
abbrev zX0_buildBare : zMt := (yX0_buildBare, cX0_buildBare, 8, (some .int), false, 0, 0, 0, 5)
abbrev zX0_buildPair : zMt := (yX0_buildPair, cX0_buildPair, 16, (some .int), false, 0, 0, 0, 5)
abbrev zX0_placeOf : zMt := (yX0_placeOf, cX0_placeOf, 3, (some .long), false, 0, 0, 0, 2)
abbrev zX0_placeIn : zMt := (yX0_placeIn, cX0_placeIn, 10, (some .long), false, 0, 0, 0, 4)
abbrev zX0_placeBare : zMt := (yX0_placeBare, cX0_placeBare, 6, (some .long), false, 0, 0, 0, 4)
abbrev zX0_placePair : zMt := (yX0_placePair, cX0_placePair, 15, (some .long), false, 0, 0, 0, 4)
abbrev zX1_isPair : zMt := (yX1_isPair, cX1_isPair, 1, (some .boolean), false, 0, 0, 1, 1)
abbrev zX1_isPrefix : zMt := (yX1_isPrefix, cX1_isPrefix, 1, (some .boolean), false, 0, 0, 1, 1)
abbrev zX1_hasBit : zMt := (yX1_hasBit, cX1_hasBit, 2, (some .boolean), false, 0, 0, 1, 2)
abbrev zX1_withBit : zMt := (yX1_withBit, cX1_withBit, 3, (some .int), false, 0, 0, 1, 3)
abbrev zX1_isDoubtful : zMt := (yX1_isDoubtful, cX1_isDoubtful, 3, (some .boolean), false, 0, 0, 1, 3)
abbrev zX2_init : zMt := (yX2_init, cX2_init, 1, none, true, 20, 3000, 2, 0)
abbrev zX2_has : zMt := (yX2_has, cX2_has, 2, (some .boolean), false, 0, 0, 0, 1)
abbrev zX2_isFull : zMt := (yX2_isFull, cX2_isFull, 1, (some .boolean), false, 0, 0, 0, 0)
abbrev zX2_sizeOf : zMt := (yX2_sizeOf, cX2_sizeOf, 2, (some .int), false, 0, 0, 0, 1)
abbrev zX2_partOf : zMt := (yX2_partOf, cX2_partOf, 3, (some .int), false, 0, 0, 0, 2)
abbrev zX2_put : zMt := (yX2_put, cX2_put, 6, (some .int), false, 0, 0, 0, 4)
abbrev zX2_addPart : zMt := (yX2_addPart, cX2_addPart, 3, none, false, 0, 0, 0, 2)
abbrev zX2_ownWords : zMt := (yX2_ownWords, cX2_ownWords, 2, (some .int), false, 0, 0, 1, 2)
abbrev zX2_firstAlike : zMt := (yX2_firstAlike, cX2_firstAlike, 3, (some .int), false, 0, 0, 0, 1)
abbrev zX2_shapeOf : zMt := (yX2_shapeOf, cX2_shapeOf, 2, (some .int), false, 0, 0, 0, 1)
abbrev zX2_isSameTop : zMt := (yX2_isSameTop, cX2_isSameTop, 3, (some .boolean), false, 0, 0, 0, 2)
abbrev zX2_isAlike : zMt := (yX2_isAlike, cX2_isAlike, 3, (some .boolean), false, 0, 0, 0, 2)
abbrev zX2_isRight : zMt := (yX2_isRight, cX2_isRight, 3, (some .boolean), false, 0, 0, 0, 2)
abbrev zX2_timesWithin : zMt := (yX2_timesWithin, cX2_timesWithin, 4, (some .int), false, 0, 0, 0, 2)
abbrev zX2_tallyOf : zMt := (yX2_tallyOf, cX2_tallyOf, 2, (some .int), false, 0, 0, 0, 1)
abbrev zX2_firstUnlike : zMt := (yX2_firstUnlike, cX2_firstUnlike, 9, (some .int), false, 0, 0, 0, 2)
abbrev zX2_differenceOf : zMt := (yX2_differenceOf, cX2_differenceOf, 3, (some .int), false, 0, 0, 0, 2)
abbrev zX2_exchangesOf : zMt := (yX2_exchangesOf, cX2_exchangesOf, 3, (some .int), false, 0, 0, 0, 2)
abbrev zX2_layKinds : zMt := (yX2_layKinds, cX2_layKinds, 3, none, false, 0, 0, 0, 2)
abbrev zX2_difference : zMt := (yX2_difference, cX2_difference, 4, (some .int), false, 0, 0, 0, 3)
abbrev zX2_exchanges : zMt := (yX2_exchanges, cX2_exchanges, 4, (some .int), false, 0, 0, 0, 3)
abbrev zX2_layKindsFrom : zMt := (yX2_layKindsFrom, cX2_layKindsFrom, 6, (some .int), false, 0, 0, 0, 4)
abbrev zX3_init : zMt := (yX3_init, cX3_init, 1, none, true, 2, 100, 2, 0)
abbrev zX3_drop : zMt := (yX3_drop, cX3_drop, 1, none, false, 0, 0, 0, 0)
abbrev zX3_holdNode : zMt := (yX3_holdNode, cX3_holdNode, 4, none, false, 0, 0, 0, 3)
abbrev zX3_holdNoughts : zMt := (yX3_holdNoughts, cX3_holdNoughts, 4, none, false, 0, 0, 0, 2)
abbrev zX3_holdRow : zMt := (yX3_holdRow, cX3_holdRow, 5, none, false, 0, 0, 0, 3)
abbrev zX3_hasRow : zMt := (yX3_hasRow, cX3_hasRow, 1, (some .boolean), false, 0, 0, 0, 0)
abbrev zX3_hasSpan : zMt := (yX3_hasSpan, cX3_hasSpan, 3, (some .boolean), false, 0, 0, 0, 2)
abbrev zX3_weighNode : zMt := (yX3_weighNode, cX3_weighNode, 2, (some .int), false, 0, 0, 0, 0)
abbrev zX4_init : zMt := (yX4_init, cX4_init, 1, none, true, 2, 200, 2, 0)
abbrev zX4_isTooLong : zMt := (yX4_isTooLong, cX4_isTooLong, 1, (some .boolean), false, 0, 0, 0, 0)
abbrev zX4_sayInStyle : zMt := (yX4_sayInStyle, cX4_sayInStyle, 5, none, false, 0, 0, 0, 4)
abbrev zX4_saySparingly : zMt := (yX4_saySparingly, cX4_saySparingly, 3, none, false, 0, 0, 0, 2)
abbrev zX4_isSameAs : zMt := (yX4_isSameAs, cX4_isSameAs, 3, (some .boolean), false, 0, 0, 0, 1)
abbrev zX4_tell : zMt := (yX4_tell, cX4_tell, 5, none, false, 0, 0, 0, 4)
abbrev zX4_tellBare : zMt := (yX4_tellBare, cX4_tellBare, 8, none, false, 0, 0, 0, 3)
abbrev zX4_isPartKept : zMt := (yX4_isPartKept, cX4_isPartKept, 6, (some .boolean), false, 0, 0, 0, 4)
abbrev zX4_addDigits : zMt := (yX4_addDigits, cX4_addDigits, 4, none, false, 0, 0, 0, 1)
abbrev zX4_add : zMt := (yX4_add, cX4_add, 2, none, false, 0, 0, 0, 1)
abbrev zX5_init : zMt := (yX5_init, cX5_init, 1, none, true, 4, 200, 2, 0)
abbrev zX5_isBegun : zMt := (yX5_isBegun, cX5_isBegun, 1, (some .boolean), false, 0, 0, 0, 0)
abbrev zX5_top : zMt := (yX5_top, cX5_top, 1, (some .int), false, 0, 0, 0, 0)
abbrev zX5_here : zMt := (yX5_here, cX5_here, 1, (some .int), false, 0, 0, 0, 0)
abbrev zX5_beginAt : zMt := (yX5_beginAt, cX5_beginAt, 2, none, false, 0, 0, 0, 1)
abbrev zX5_stepDown : zMt := (yX5_stepDown, cX5_stepDown, 4, (some .boolean), false, 0, 0, 0, 2)
abbrev zX5_stepUp : zMt := (yX5_stepUp, cX5_stepUp, 1, (some .boolean), false, 0, 0, 0, 0)
abbrev zX5_stepBeside : zMt := (yX5_stepBeside, cX5_stepBeside, 4, (some .boolean), false, 0, 0, 0, 1)
abbrev zX5_asNumber : zMt := (yX5_asNumber, cX5_asNumber, 3, (some .int), false, 0, 0, 0, 0)
abbrev zX5_follow : zMt := (yX5_follow, cX5_follow, 5, (some .boolean), false, 0, 0, 0, 2)
abbrev zX5_leadsSomewhere : zMt := (yX5_leadsSomewhere, cX5_leadsSomewhere, 6, (some .boolean), false, 0, 0, 0, 2)
abbrev zX6_init : zMt := (yX6_init, cX6_init, 2, none, true, 200, 10000, 2, 0)
abbrev zX6_leaf : zMt := (yX6_leaf, cX6_leaf, 3, (some .int), false, 0, 0, 0, 2)
abbrev zX6_node : zMt := (yX6_node, cX6_node, 6, (some .int), false, 0, 0, 0, 3)
abbrev zX6_undo : zMt := (yX6_undo, cX6_undo, 1, (some .int), false, 0, 0, 0, 0)
abbrev zX6_means : zMt := (yX6_means, cX6_means, 4, (some .int), false, 0, 0, 0, 2)
abbrev zX6_look : zMt := (yX6_look, cX6_look, 3, (some .int), false, 0, 0, 0, 2)
abbrev zX6_alike : zMt := (yX6_alike, cX6_alike, 3, (some .int), false, 0, 0, 0, 2)
abbrev zX6_times : zMt := (yX6_times, cX6_times, 3, (some .int), false, 0, 0, 0, 2)
abbrev zX6_keeps : zMt := (yX6_keeps, cX6_keeps, 5, (some .int), false, 0, 0, 0, 3)
abbrev zX6_words : zMt := (yX6_words, cX6_words, 3, (some .int), false, 0, 0, 0, 2)
abbrev zX6_word : zMt := (yX6_word, cX6_word, 4, (some .int), false, 0, 0, 0, 3)
abbrev zX6_sound : zMt := (yX6_sound, cX6_sound, 4, (some .int), false, 0, 0, 0, 3)
abbrev zX6_clear : zMt := (yX6_clear, cX6_clear, 7, (some .int), false, 0, 0, 0, 2)
abbrev zX6_hear : zMt := (yX6_hear, cX6_hear, 4, (some .int), false, 0, 0, 0, 2)
abbrev zX6_listen : zMt := (yX6_listen, cX6_listen, 3, (some .int), false, 0, 0, 0, 2)
abbrev zX6_hush : zMt := (yX6_hush, cX6_hush, 2, (some .int), false, 0, 0, 0, 0)
abbrev zX6_ear : zMt := (yX6_ear, cX6_ear, 2, (some .int), false, 0, 0, 0, 1)
abbrev zX6_readings : zMt := (yX6_readings, cX6_readings, 2, (some .long), false, 0, 0, 0, 1)
abbrev zX6_write : zMt := (yX6_write, cX6_write, 4, (some .int), false, 0, 0, 0, 2)
abbrev zX6_place : zMt := (yX6_place, cX6_place, 5, (some .long), false, 0, 0, 0, 2)
abbrev zX6_doubt : zMt := (yX6_doubt, cX6_doubt, 10, (some .int), false, 0, 0, 0, 3)
abbrev zX6_fewest : zMt := (yX6_fewest, cX6_fewest, 2, (some .int), false, 0, 0, 0, 1)
abbrev zX6_walk : zMt := (yX6_walk, cX6_walk, 2, (some .int), false, 0, 0, 0, 1)
abbrev zX6_go : zMt := (yX6_go, cX6_go, 3, (some .int), false, 0, 0, 0, 1)
abbrev zX6_where : zMt := (yX6_where, cX6_where, 2, (some .int), false, 0, 0, 0, 1)
abbrev zX6_lead : zMt := (yX6_lead, cX6_lead, 2, (some .int), false, 0, 0, 0, 1)
abbrev zX6_glance : zMt := (yX6_glance, cX6_glance, 3, (some .int), false, 0, 0, 0, 2)
abbrev zX6_changed : zMt := (yX6_changed, cX6_changed, 3, (some .int), false, 0, 0, 0, 2)
abbrev zX6_exchanged : zMt := (yX6_exchanged, cX6_exchanged, 3, (some .int), false, 0, 0, 0, 2)
abbrev zX6_count : zMt := (yX6_count, cX6_count, 2, (some .int), false, 0, 0, 0, 1)
abbrev zX6_keep : zMt := (yX6_keep, cX6_keep, 4, (some .int), false, 0, 0, 0, 3)
abbrev zX6_make : zMt := (yX6_make, cX6_make, 4, (some .int), false, 0, 0, 0, 3)
abbrev zX6_element : zMt := (yX6_element, cX6_element, 4, (some .long), false, 0, 0, 0, 2)
abbrev zX6_copy : zMt := (yX6_copy, cX6_copy, 8, (some .int), false, 0, 0, 0, 5)
abbrev zX6_weight : zMt := (yX6_weight, cX6_weight, 3, (some .int), false, 0, 0, 0, 1)
abbrev zX6_toss : zMt := (yX6_toss, cX6_toss, 3, (some .int), false, 0, 0, 0, 1)
abbrev zX6_isLetter : zMt := (yX6_isLetter, cX6_isLetter, 1, (some .boolean), false, 0, 0, 1, 1)
abbrev zX6_isStyle : zMt := (yX6_isStyle, cX6_isStyle, 1, (some .boolean), false, 0, 0, 1, 1)
abbrev zX6_isStyleOrFree : zMt := (yX6_isStyleOrFree, cX6_isStyleOrFree, 1, (some .boolean), false, 0, 0, 1, 1)
abbrev zX6_isShelf : zMt := (yX6_isShelf, cX6_isShelf, 1, (some .boolean), false, 0, 0, 1, 1)
abbrev zX6_orMissing : zMt := (yX6_orMissing, cX6_orMissing, 1, (some .int), false, 0, 0, 1, 1)
abbrev zX6_digitOf : zMt := (yX6_digitOf, cX6_digitOf, 2, (some .int), false, 0, 0, 1, 2)
abbrev zX6_hearSpeech : zMt := (yX6_hearSpeech, cX6_hearSpeech, 2, (some .int), false, 0, 0, 0, 0)
abbrev zX6_tallyIn : zMt := (yX6_tallyIn, cX6_tallyIn, 4, (some .long), false, 0, 0, 0, 1)
abbrev zX6_keepNode : zMt := (yX6_keepNode, cX6_keepNode, 4, (some .int), false, 0, 0, 0, 3)
abbrev zX6_nodeRefusal : zMt := (yX6_nodeRefusal, cX6_nodeRefusal, 2, (some .int), false, 0, 0, 0, 1)
abbrev zX7_init : zMt := (yX7_init, cX7_init, 2, none, true, 100, 40000, 2, 0)
abbrev zX7_in : zMt := (yX7_in, cX7_in, 6, (some .boolean), false, 0, 0, 1, 3)
abbrev zX7_isNode : zMt := (yX7_isNode, cX7_isNode, 2, (some .boolean), false, 0, 0, 0, 1)
abbrev zX7_isTwo : zMt := (yX7_isTwo, cX7_isTwo, 1, (some .boolean), false, 0, 0, 1, 1)
abbrev zX7_mayKeep : zMt := (yX7_mayKeep, cX7_mayKeep, 1, (some .boolean), false, 0, 0, 1, 1)
abbrev zX7_isStyle : zMt := (yX7_isStyle, cX7_isStyle, 1, (some .boolean), false, 0, 0, 1, 1)
abbrev zX7_sets : zMt := (yX7_sets, cX7_sets, 8, none, false, 0, 0, 0, 5)
abbrev zX7_leaf : zMt := (yX7_leaf, cX7_leaf, 3, (some .int), false, 0, 0, 0, 2)
abbrev zX7_node : zMt := (yX7_node, cX7_node, 5, (some .int), false, 0, 0, 0, 3)
abbrev zX7_undo : zMt := (yX7_undo, cX7_undo, 1, (some .int), false, 0, 0, 0, 0)
abbrev zX7_means : zMt := (yX7_means, cX7_means, 4, (some .int), false, 0, 0, 0, 2)
abbrev zX7_isRight : zMt := (yX7_isRight, cX7_isRight, 3, (some .boolean), false, 0, 0, 0, 1)
abbrev zX7_look : zMt := (yX7_look, cX7_look, 3, (some .int), false, 0, 0, 0, 2)
abbrev zX7_areAlike : zMt := (yX7_areAlike, cX7_areAlike, 3, (some .boolean), false, 0, 0, 0, 2)
abbrev zX7_alike : zMt := (yX7_alike, cX7_alike, 3, (some .int), false, 0, 0, 0, 2)
abbrev zX7_has : zMt := (yX7_has, cX7_has, 3, (some .int), false, 0, 0, 0, 2)
abbrev zX7_times : zMt := (yX7_times, cX7_times, 3, (some .int), false, 0, 0, 0, 2)
abbrev zX7_keeps : zMt := (yX7_keeps, cX7_keeps, 5, (some .int), false, 0, 0, 0, 3)
abbrev zX7_digits : zMt := (yX7_digits, cX7_digits, 1, (some .int), false, 0, 0, 1, 1)
abbrev zX7_own : zMt := (yX7_own, cX7_own, 2, (some .int), false, 0, 0, 0, 1)
abbrev zX7_length : zMt := (yX7_length, cX7_length, 3, (some .int), false, 0, 0, 0, 2)
abbrev zX7_says : zMt := (yX7_says, cX7_says, 2, none, false, 0, 0, 0, 1)
abbrev zX7_keepsIt : zMt := (yX7_keepsIt, cX7_keepsIt, 3, (some .boolean), false, 0, 0, 0, 2)
abbrev zX7_say : zMt := (yX7_say, cX7_say, 6, none, false, 0, 0, 0, 2)
abbrev zX7_sayAll : zMt := (yX7_sayAll, cX7_sayAll, 3, none, false, 0, 0, 0, 2)
abbrev zX7_words : zMt := (yX7_words, cX7_words, 4, (some .int), false, 0, 0, 0, 2)
abbrev zX7_word : zMt := (yX7_word, cX7_word, 5, (some .int), false, 0, 0, 0, 3)
abbrev zX7_sound : zMt := (yX7_sound, cX7_sound, 8, (some .int), false, 0, 0, 0, 3)
abbrev zX7_adds : zMt := (yX7_adds, cX7_adds, 5, none, false, 0, 0, 0, 4)
abbrev zX7_grows : zMt := (yX7_grows, cX7_grows, 6, none, false, 0, 0, 0, 1)
abbrev zX7_isSame : zMt := (yX7_isSame, cX7_isSame, 5, (some .boolean), false, 0, 0, 0, 2)
abbrev zX7_clear : zMt := (yX7_clear, cX7_clear, 5, (some .int), false, 0, 0, 0, 2)
abbrev zX7_hear : zMt := (yX7_hear, cX7_hear, 4, (some .int), false, 0, 0, 0, 2)
abbrev zX7_listen : zMt := (yX7_listen, cX7_listen, 4, (some .int), false, 0, 0, 0, 2)
abbrev zX7_hears : zMt := (yX7_hears, cX7_hears, 2, none, false, 0, 0, 0, 0)
abbrev zX7_hush : zMt := (yX7_hush, cX7_hush, 2, (some .int), false, 0, 0, 0, 0)
abbrev zX7_ear : zMt := (yX7_ear, cX7_ear, 2, (some .int), false, 0, 0, 0, 1)
abbrev zX7_times_ : zMt := (yX7_times_, cX7_times_, 4, (some .long), false, 0, 0, 1, 2)
abbrev zX7_plus : zMt := (yX7_plus, cX7_plus, 4, (some .long), false, 0, 0, 1, 2)
abbrev zX7_isLet : zMt := (yX7_isLet, cX7_isLet, 3, (some .boolean), false, 0, 0, 0, 2)
abbrev zX7_isNumber : zMt := (yX7_isNumber, cX7_isNumber, 5, (some .boolean), false, 0, 0, 0, 2)
abbrev zX7_within : zMt := (yX7_within, cX7_within, 7, (some .long), false, 0, 0, 0, 3)
abbrev zX7_reckons : zMt := (yX7_reckons, cX7_reckons, 12, none, false, 0, 0, 0, 1)
abbrev zX7_counted : zMt := (yX7_counted, cX7_counted, 2, (some .long), false, 0, 0, 0, 1)
abbrev zX7_readings : zMt := (yX7_readings, cX7_readings, 2, (some .long), false, 0, 0, 0, 1)
abbrev zX7_makes : zMt := (yX7_makes, cX7_makes, 5, (some .int), false, 0, 0, 0, 4)
abbrev zX7_takes : zMt := (yX7_takes, cX7_takes, 12, (some .int), false, 0, 0, 0, 3)
abbrev zX7_takesTwo : zMt := (yX7_takesTwo, cX7_takesTwo, 12, (some .int), false, 0, 0, 0, 4)
abbrev zX7_write : zMt := (yX7_write, cX7_write, 5, (some .int), false, 0, 0, 0, 2)
abbrev zX7_copies : zMt := (yX7_copies, cX7_copies, 4, (some .int), false, 0, 0, 0, 1)
abbrev zX7_rank : zMt := (yX7_rank, cX7_rank, 8, (some .long), false, 0, 0, 0, 3)
abbrev zX7_inner : zMt := (yX7_inner, cX7_inner, 6, (some .long), false, 0, 0, 0, 3)
abbrev zX7_innerTwo : zMt := (yX7_innerTwo, cX7_innerTwo, 13, (some .long), false, 0, 0, 0, 3)
abbrev zX7_place : zMt := (yX7_place, cX7_place, 5, (some .long), false, 0, 0, 0, 2)
abbrev zX7_doubt : zMt := (yX7_doubt, cX7_doubt, 11, (some .int), false, 0, 0, 0, 3)
abbrev zX7_keepable : zMt := (yX7_keepable, cX7_keepable, 2, (some .int), false, 0, 0, 0, 1)
abbrev zX7_bits : zMt := (yX7_bits, cX7_bits, 3, (some .int), false, 0, 0, 1, 1)
abbrev zX7_fewest : zMt := (yX7_fewest, cX7_fewest, 6, (some .int), false, 0, 0, 0, 1)
abbrev zX7_isOnly : zMt := (yX7_isOnly, cX7_isOnly, 4, (some .boolean), false, 0, 0, 0, 3)
abbrev zX7_walk : zMt := (yX7_walk, cX7_walk, 2, (some .int), false, 0, 0, 0, 1)
abbrev zX7_down : zMt := (yX7_down, cX7_down, 3, (some .boolean), false, 0, 0, 0, 1)
abbrev zX7_go : zMt := (yX7_go, cX7_go, 3, (some .int), false, 0, 0, 0, 1)
abbrev zX7_where : zMt := (yX7_where, cX7_where, 4, (some .int), false, 0, 0, 0, 1)
abbrev zX7_lead : zMt := (yX7_lead, cX7_lead, 6, (some .int), false, 0, 0, 0, 1)
abbrev zX7_glanced : zMt := (yX7_glanced, cX7_glanced, 4, (some .int), false, 0, 0, 0, 3)
abbrev zX7_glance : zMt := (yX7_glance, cX7_glance, 4, (some .int), false, 0, 0, 0, 2)
abbrev zX7_inside : zMt := (yX7_inside, cX7_inside, 4, (some .int), false, 0, 0, 0, 2)
abbrev zX7_difference : zMt := (yX7_difference, cX7_difference, 5, (some .int), false, 0, 0, 0, 2)
abbrev zX7_wholes : zMt := (yX7_wholes, cX7_wholes, 3, (some .int), false, 0, 0, 0, 2)
abbrev zX7_changed : zMt := (yX7_changed, cX7_changed, 3, (some .int), false, 0, 0, 0, 2)
abbrev zX7_exchanged : zMt := (yX7_exchanged, cX7_exchanged, 3, (some .int), false, 0, 0, 0, 2)
abbrev zX7_functions : zMt := (yX7_functions, cX7_functions, 3, (some .int), false, 0, 0, 0, 0)
abbrev zX7_count : zMt := (yX7_count, cX7_count, 2, (some .int), false, 0, 0, 0, 1)
abbrev zX7_isShelf : zMt := (yX7_isShelf, cX7_isShelf, 1, (some .boolean), false, 0, 0, 1, 1)
abbrev zX7_kinds : zMt := (yX7_kinds, cX7_kinds, 3, none, false, 0, 0, 0, 2)
abbrev zX7_keep : zMt := (yX7_keep, cX7_keep, 6, (some .int), false, 0, 0, 0, 3)
abbrev zX7_make : zMt := (yX7_make, cX7_make, 5, (some .int), false, 0, 0, 0, 3)
abbrev zX7_element : zMt := (yX7_element, cX7_element, 3, (some .long), false, 0, 0, 0, 2)
abbrev zX7_copy : zMt := (yX7_copy, cX7_copy, 7, (some .int), false, 0, 0, 0, 5)
abbrev zX7_held : zMt := (yX7_held, cX7_held, 2, (some .int), false, 0, 0, 0, 1)
abbrev zX7_weight : zMt := (yX7_weight, cX7_weight, 4, (some .int), false, 0, 0, 0, 1)
abbrev zX7_toss : zMt := (yX7_toss, cX7_toss, 3, (some .int), false, 0, 0, 0, 1)
abbrev zJ6_bitCount_0f7a4 : zMt := (yJ6_bitCount_0f7a4, cJ6_bitCount_0f7a4, 1, (some .int), false, 0, 0, 1, 1)
abbrev zJ9_max_7cf53 : zMt := (yJ9_max_7cf53, cJ9_max_7cf53, 2, (some .int), false, 0, 0, 1, 2)
abbrev zJ9_min_7cf53 : zMt := (yJ9_min_7cf53, cJ9_min_7cf53, 2, (some .int), false, 0, 0, 1, 2)
abbrev zJ9_min_f86c9 : zMt := (yJ9_min_f86c9, cJ9_min_f86c9, 4, (some .long), false, 0, 0, 1, 2)
def zms : List zMt := [zX0_init, zX0_add, zX0_tally, zX0_waysOf, zX0_isBracketed, zX0_bareWays, zX0_kindByEnds, zX0_partFrom, zX0_partTo, zX0_numberIn, zX0_build, zX0_buildSpan, zX0_buildBare, zX0_buildPair, zX0_placeOf, zX0_placeIn, zX0_placeBare, zX0_placePair, zX1_isPair, zX1_isPrefix, zX1_hasBit, zX1_withBit, zX1_isDoubtful, zX2_init, zX2_has, zX2_isFull, zX2_sizeOf, zX2_partOf, zX2_put, zX2_addPart, zX2_ownWords, zX2_firstAlike, zX2_shapeOf, zX2_isSameTop, zX2_isAlike, zX2_isRight, zX2_timesWithin, zX2_tallyOf, zX2_firstUnlike, zX2_differenceOf, zX2_exchangesOf, zX2_layKinds, zX2_difference, zX2_exchanges, zX2_layKindsFrom, zX3_init, zX3_drop, zX3_holdNode, zX3_holdNoughts, zX3_holdRow, zX3_hasRow, zX3_hasSpan, zX3_weighNode, zX4_init, zX4_isTooLong, zX4_sayInStyle, zX4_saySparingly, zX4_isSameAs, zX4_tell, zX4_tellBare, zX4_isPartKept, zX4_addDigits, zX4_add, zX5_init, zX5_isBegun, zX5_top, zX5_here, zX5_beginAt, zX5_stepDown, zX5_stepUp, zX5_stepBeside, zX5_asNumber, zX5_follow, zX5_leadsSomewhere, zX6_init, zX6_leaf, zX6_node, zX6_undo, zX6_means, zX6_look, zX6_alike, zX6_times, zX6_keeps, zX6_words, zX6_word, zX6_sound, zX6_clear, zX6_hear, zX6_listen, zX6_hush, zX6_ear, zX6_readings, zX6_write, zX6_place, zX6_doubt, zX6_fewest, zX6_walk, zX6_go, zX6_where, zX6_lead, zX6_glance, zX6_changed, zX6_exchanged, zX6_count, zX6_keep, zX6_make, zX6_element, zX6_copy, zX6_weight, zX6_toss, zX6_isLetter, zX6_isStyle, zX6_isStyleOrFree, zX6_isShelf, zX6_orMissing, zX6_digitOf, zX6_hearSpeech, zX6_tallyIn, zX6_keepNode, zX6_nodeRefusal, zX7_init, zX7_in, zX7_isNode, zX7_isTwo, zX7_mayKeep, zX7_isStyle, zX7_sets, zX7_leaf, zX7_node, zX7_undo, zX7_means, zX7_isRight, zX7_look, zX7_areAlike, zX7_alike, zX7_has, zX7_times, zX7_keeps, zX7_digits, zX7_own, zX7_length, zX7_says, zX7_keepsIt, zX7_say, zX7_sayAll, zX7_words, zX7_word, zX7_sound, zX7_adds, zX7_grows, zX7_isSame, zX7_clear, zX7_hear, zX7_listen, zX7_hears, zX7_hush, zX7_ear, zX7_times_, zX7_plus, zX7_isLet, zX7_isNumber, zX7_within, zX7_reckons, zX7_counted, zX7_readings, zX7_makes, zX7_takes, zX7_takesTwo, zX7_write, zX7_copies, zX7_rank, zX7_inner, zX7_innerTwo, zX7_place, zX7_doubt, zX7_keepable, zX7_bits, zX7_fewest, zX7_isOnly, zX7_walk, zX7_down, zX7_go, zX7_where, zX7_lead, zX7_glanced, zX7_glance, zX7_inside, zX7_difference, zX7_wholes, zX7_changed, zX7_exchanged, zX7_functions, zX7_count, zX7_isShelf, zX7_kinds, zX7_keep, zX7_make, zX7_element, zX7_copy, zX7_held, zX7_weight, zX7_toss, zJ6_bitCount_0f7a4, zJ9_max_7cf53, zJ9_min_7cf53, zJ9_min_f86c9]
set_option maxRecDepth 100000 in
theorem qX0_init : zMok zX0_init := ⟨zmemT 114 rfl rfl, ⟨by decide +kernel, by decide +kernel, by decide +kernel⟩, zmemT 4 rfl rfl, (fun h => by cases h), (fun h => by cases h), fun _ => ⟨zmemT 113 rfl rfl, rfl, rfl⟩⟩
set_option maxRecDepth 100000 in
theorem qX0_add : zMok zX0_add := ⟨zmemT 402 rfl rfl, ⟨by decide +kernel, by decide +kernel, by decide +kernel⟩, zmemT 4 rfl rfl, fun _ => ⟨zmemT 400 rfl rfl, zmemT 401 rfl rfl⟩, (fun h => by cases h), (fun h => by cases h)⟩
set_option maxRecDepth 100000 in
theorem qX0_tally : zMok zX0_tally := ⟨zmemT 433 rfl rfl, ⟨by decide +kernel, by decide +kernel, by decide +kernel⟩, zmemT 4 rfl rfl, fun _ => ⟨zmemT 431 rfl rfl, zmemT 432 rfl rfl⟩, (fun h => by cases h), (fun h => by cases h)⟩
set_option maxRecDepth 100000 in
theorem qX0_waysOf : zMok zX0_waysOf := ⟨zmemT 437 rfl rfl, ⟨by decide +kernel, by decide +kernel, by decide +kernel⟩, zmemT 4 rfl rfl, fun _ => ⟨zmemT 436 rfl rfl, zmemS 11 rfl rfl⟩, (fun h => by cases h), (fun h => by cases h)⟩
set_option maxRecDepth 100000 in
theorem qX0_isBracketed : zMok zX0_isBracketed := ⟨zmemT 461 rfl rfl, ⟨by decide +kernel, by decide +kernel, by decide +kernel⟩, zmemT 4 rfl rfl, fun _ => ⟨zmemT 460 rfl rfl, zmemS 15 rfl rfl⟩, (fun h => by cases h), (fun h => by cases h)⟩
set_option maxRecDepth 100000 in
theorem qX0_bareWays : zMok zX0_bareWays := ⟨zmemT 441 rfl rfl, ⟨by decide +kernel, by decide +kernel, by decide +kernel⟩, zmemT 4 rfl rfl, fun _ => ⟨zmemT 440 rfl rfl, zmemS 12 rfl rfl⟩, (fun h => by cases h), (fun h => by cases h)⟩
set_option maxRecDepth 100000 in
theorem qX0_kindByEnds : zMok zX0_kindByEnds := ⟨zmemT 447 rfl rfl, ⟨by decide +kernel, by decide +kernel, by decide +kernel⟩, zmemT 4 rfl rfl, fun _ => ⟨zmemT 446 rfl rfl, zmemS 13 rfl rfl⟩, (fun h => by cases h), (fun h => by cases h)⟩
set_option maxRecDepth 100000 in
theorem qX0_partFrom : zMok zX0_partFrom := ⟨zmemT 454 rfl rfl, ⟨by decide +kernel, by decide +kernel, by decide +kernel⟩, zmemT 4 rfl rfl, (fun h => by cases h), fun _ => zmemT 453 rfl rfl, (fun h => by cases h)⟩
set_option maxRecDepth 100000 in
theorem qX0_partTo : zMok zX0_partTo := ⟨zmemT 457 rfl rfl, ⟨by decide +kernel, by decide +kernel, by decide +kernel⟩, zmemT 4 rfl rfl, (fun h => by cases h), fun _ => zmemT 456 rfl rfl, (fun h => by cases h)⟩
set_option maxRecDepth 100000 in
theorem qX0_numberIn : zMok zX0_numberIn := ⟨zmemT 451 rfl rfl, ⟨by decide +kernel, by decide +kernel, by decide +kernel⟩, zmemT 4 rfl rfl, fun _ => ⟨zmemT 450 rfl rfl, zmemS 14 rfl rfl⟩, (fun h => by cases h), (fun h => by cases h)⟩
set_option maxRecDepth 100000 in
theorem qX0_build : zMok zX0_build := ⟨zmemT 469 rfl rfl, ⟨by decide +kernel, by decide +kernel, by decide +kernel⟩, zmemT 4 rfl rfl, fun _ => ⟨zmemT 467 rfl rfl, zmemT 468 rfl rfl⟩, (fun h => by cases h), (fun h => by cases h)⟩
set_option maxRecDepth 100000 in
theorem qX0_buildSpan : zMok zX0_buildSpan := ⟨zmemT 473 rfl rfl, ⟨by decide +kernel, by decide +kernel, by decide +kernel⟩, zmemT 4 rfl rfl, fun _ => ⟨zmemT 472 rfl rfl, zmemS 16 rfl rfl⟩, (fun h => by cases h), (fun h => by cases h)⟩
set_option maxRecDepth 100000 in
theorem qX0_buildBare : zMok zX0_buildBare := ⟨zmemT 477 rfl rfl, ⟨by decide +kernel, by decide +kernel, by decide +kernel⟩, zmemT 4 rfl rfl, fun _ => ⟨zmemT 476 rfl rfl, zmemS 17 rfl rfl⟩, (fun h => by cases h), (fun h => by cases h)⟩
set_option maxRecDepth 100000 in
theorem qX0_buildPair : zMok zX0_buildPair := ⟨zmemT 481 rfl rfl, ⟨by decide +kernel, by decide +kernel, by decide +kernel⟩, zmemT 4 rfl rfl, fun _ => ⟨zmemT 480 rfl rfl, zmemS 18 rfl rfl⟩, (fun h => by cases h), (fun h => by cases h)⟩
set_option maxRecDepth 100000 in
theorem qX0_placeOf : zMok zX0_placeOf := ⟨zmemT 492 rfl rfl, ⟨by decide +kernel, by decide +kernel, by decide +kernel⟩, zmemT 4 rfl rfl, fun _ => ⟨zmemT 490 rfl rfl, zmemT 491 rfl rfl⟩, (fun h => by cases h), (fun h => by cases h)⟩
set_option maxRecDepth 100000 in
theorem qX0_placeIn : zMok zX0_placeIn := ⟨zmemT 496 rfl rfl, ⟨by decide +kernel, by decide +kernel, by decide +kernel⟩, zmemT 4 rfl rfl, fun _ => ⟨zmemT 495 rfl rfl, zmemS 19 rfl rfl⟩, (fun h => by cases h), (fun h => by cases h)⟩
set_option maxRecDepth 100000 in
theorem qX0_placeBare : zMok zX0_placeBare := ⟨zmemT 502 rfl rfl, ⟨by decide +kernel, by decide +kernel, by decide +kernel⟩, zmemT 4 rfl rfl, fun _ => ⟨zmemT 501 rfl rfl, zmemS 20 rfl rfl⟩, (fun h => by cases h), (fun h => by cases h)⟩
set_option maxRecDepth 100000 in
theorem qX0_placePair : zMok zX0_placePair := ⟨zmemT 506 rfl rfl, ⟨by decide +kernel, by decide +kernel, by decide +kernel⟩, zmemT 4 rfl rfl, fun _ => ⟨zmemT 505 rfl rfl, zmemS 21 rfl rfl⟩, (fun h => by cases h), (fun h => by cases h)⟩
set_option maxRecDepth 100000 in
theorem qX1_isPair : zMok zX1_isPair := ⟨zmemT 266 rfl rfl, ⟨by decide +kernel, by decide +kernel, by decide +kernel⟩, zmemT 8 rfl rfl, (fun h => by cases h), fun _ => zmemT 265 rfl rfl, (fun h => by cases h)⟩
set_option maxRecDepth 100000 in
theorem qX1_isPrefix : zMok zX1_isPrefix := ⟨zmemT 365 rfl rfl, ⟨by decide +kernel, by decide +kernel, by decide +kernel⟩, zmemT 8 rfl rfl, (fun h => by cases h), fun _ => zmemT 364 rfl rfl, (fun h => by cases h)⟩
set_option maxRecDepth 100000 in
theorem qX1_hasBit : zMok zX1_hasBit := ⟨zmemT 235 rfl rfl, ⟨by decide +kernel, by decide +kernel, by decide +kernel⟩, zmemT 8 rfl rfl, (fun h => by cases h), fun _ => zmemT 234 rfl rfl, (fun h => by cases h)⟩
set_option maxRecDepth 100000 in
theorem qX1_withBit : zMok zX1_withBit := ⟨zmemT 292 rfl rfl, ⟨by decide +kernel, by decide +kernel, by decide +kernel⟩, zmemT 8 rfl rfl, (fun h => by cases h), fun _ => zmemT 291 rfl rfl, (fun h => by cases h)⟩
set_option maxRecDepth 100000 in
theorem qX1_isDoubtful : zMok zX1_isDoubtful := ⟨zmemT 361 rfl rfl, ⟨by decide +kernel, by decide +kernel, by decide +kernel⟩, zmemT 8 rfl rfl, (fun h => by cases h), fun _ => zmemT 360 rfl rfl, (fun h => by cases h)⟩
set_option maxRecDepth 100000 in
theorem qX2_init : zMok zX2_init := ⟨zmemT 29 rfl rfl, ⟨by decide +kernel, by decide +kernel, by decide +kernel⟩, zmemT 2 rfl rfl, (fun h => by cases h), (fun h => by cases h), fun _ => ⟨zmemT 28 rfl rfl, rfl, rfl⟩⟩
set_option maxRecDepth 100000 in
theorem qX2_has : zMok zX2_has := ⟨zmemT 243 rfl rfl, ⟨by decide +kernel, by decide +kernel, by decide +kernel⟩, zmemT 2 rfl rfl, fun _ => ⟨zmemT 241 rfl rfl, zmemT 242 rfl rfl⟩, (fun h => by cases h), (fun h => by cases h)⟩
set_option maxRecDepth 100000 in
theorem qX2_isFull : zMok zX2_isFull := ⟨zmemT 224 rfl rfl, ⟨by decide +kernel, by decide +kernel, by decide +kernel⟩, zmemT 2 rfl rfl, fun _ => ⟨zmemT 222 rfl rfl, zmemT 223 rfl rfl⟩, (fun h => by cases h), (fun h => by cases h)⟩
set_option maxRecDepth 100000 in
theorem qX2_sizeOf : zMok zX2_sizeOf := ⟨zmemT 273 rfl rfl, ⟨by decide +kernel, by decide +kernel, by decide +kernel⟩, zmemT 2 rfl rfl, fun _ => ⟨zmemT 271 rfl rfl, zmemT 272 rfl rfl⟩, (fun h => by cases h), (fun h => by cases h)⟩
set_option maxRecDepth 100000 in
theorem qX2_partOf : zMok zX2_partOf := ⟨zmemT 518 rfl rfl, ⟨by decide +kernel, by decide +kernel, by decide +kernel⟩, zmemT 2 rfl rfl, fun _ => ⟨zmemT 516 rfl rfl, zmemT 517 rfl rfl⟩, (fun h => by cases h), (fun h => by cases h)⟩
set_option maxRecDepth 100000 in
theorem qX2_put : zMok zX2_put := ⟨zmemT 228 rfl rfl, ⟨by decide +kernel, by decide +kernel, by decide +kernel⟩, zmemT 2 rfl rfl, fun _ => ⟨zmemT 226 rfl rfl, zmemT 227 rfl rfl⟩, (fun h => by cases h), (fun h => by cases h)⟩
set_option maxRecDepth 100000 in
theorem qX2_addPart : zMok zX2_addPart := ⟨zmemT 239 rfl rfl, ⟨by decide +kernel, by decide +kernel, by decide +kernel⟩, zmemT 2 rfl rfl, fun _ => ⟨zmemT 238 rfl rfl, zmemS 0 rfl rfl⟩, (fun h => by cases h), (fun h => by cases h)⟩
set_option maxRecDepth 100000 in
theorem qX2_ownWords : zMok zX2_ownWords := ⟨zmemT 232 rfl rfl, ⟨by decide +kernel, by decide +kernel, by decide +kernel⟩, zmemT 2 rfl rfl, (fun h => by cases h), fun _ => zmemT 231 rfl rfl, (fun h => by cases h)⟩
set_option maxRecDepth 100000 in
theorem qX2_firstAlike : zMok zX2_firstAlike := ⟨zmemT 250 rfl rfl, ⟨by decide +kernel, by decide +kernel, by decide +kernel⟩, zmemT 2 rfl rfl, fun _ => ⟨zmemT 249 rfl rfl, zmemS 1 rfl rfl⟩, (fun h => by cases h), (fun h => by cases h)⟩
set_option maxRecDepth 100000 in
theorem qX2_shapeOf : zMok zX2_shapeOf := ⟨zmemT 258 rfl rfl, ⟨by decide +kernel, by decide +kernel, by decide +kernel⟩, zmemT 2 rfl rfl, fun _ => ⟨zmemT 257 rfl rfl, zmemS 2 rfl rfl⟩, (fun h => by cases h), (fun h => by cases h)⟩
set_option maxRecDepth 100000 in
theorem qX2_isSameTop : zMok zX2_isSameTop := ⟨zmemT 254 rfl rfl, ⟨by decide +kernel, by decide +kernel, by decide +kernel⟩, zmemT 2 rfl rfl, fun _ => ⟨zmemT 252 rfl rfl, zmemT 253 rfl rfl⟩, (fun h => by cases h), (fun h => by cases h)⟩
set_option maxRecDepth 100000 in
theorem qX2_isAlike : zMok zX2_isAlike := ⟨zmemT 311 rfl rfl, ⟨by decide +kernel, by decide +kernel, by decide +kernel⟩, zmemT 2 rfl rfl, fun _ => ⟨zmemT 309 rfl rfl, zmemT 310 rfl rfl⟩, (fun h => by cases h), (fun h => by cases h)⟩
set_option maxRecDepth 100000 in
theorem qX2_isRight : zMok zX2_isRight := ⟨zmemT 303 rfl rfl, ⟨by decide +kernel, by decide +kernel, by decide +kernel⟩, zmemT 2 rfl rfl, fun _ => ⟨zmemT 301 rfl rfl, zmemT 302 rfl rfl⟩, (fun h => by cases h), (fun h => by cases h)⟩
set_option maxRecDepth 100000 in
theorem qX2_timesWithin : zMok zX2_timesWithin := ⟨zmemT 319 rfl rfl, ⟨by decide +kernel, by decide +kernel, by decide +kernel⟩, zmemT 2 rfl rfl, fun _ => ⟨zmemT 317 rfl rfl, zmemT 318 rfl rfl⟩, (fun h => by cases h), (fun h => by cases h)⟩
set_option maxRecDepth 100000 in
theorem qX2_tallyOf : zMok zX2_tallyOf := ⟨zmemT 324 rfl rfl, ⟨by decide +kernel, by decide +kernel, by decide +kernel⟩, zmemT 2 rfl rfl, fun _ => ⟨zmemT 323 rfl rfl, zmemS 3 rfl rfl⟩, (fun h => by cases h), (fun h => by cases h)⟩
set_option maxRecDepth 100000 in
theorem qX2_firstUnlike : zMok zX2_firstUnlike := ⟨zmemT 514 rfl rfl, ⟨by decide +kernel, by decide +kernel, by decide +kernel⟩, zmemT 2 rfl rfl, fun _ => ⟨zmemT 512 rfl rfl, zmemT 513 rfl rfl⟩, (fun h => by cases h), (fun h => by cases h)⟩
set_option maxRecDepth 100000 in
theorem qX2_differenceOf : zMok zX2_differenceOf := ⟨zmemT 581 rfl rfl, ⟨by decide +kernel, by decide +kernel, by decide +kernel⟩, zmemT 2 rfl rfl, fun _ => ⟨zmemT 579 rfl rfl, zmemT 580 rfl rfl⟩, (fun h => by cases h), (fun h => by cases h)⟩
set_option maxRecDepth 100000 in
theorem qX2_exchangesOf : zMok zX2_exchangesOf := ⟨zmemT 593 rfl rfl, ⟨by decide +kernel, by decide +kernel, by decide +kernel⟩, zmemT 2 rfl rfl, fun _ => ⟨zmemT 591 rfl rfl, zmemT 592 rfl rfl⟩, (fun h => by cases h), (fun h => by cases h)⟩
set_option maxRecDepth 100000 in
theorem qX2_layKinds : zMok zX2_layKinds := ⟨zmemT 638 rfl rfl, ⟨by decide +kernel, by decide +kernel, by decide +kernel⟩, zmemT 2 rfl rfl, fun _ => ⟨zmemT 636 rfl rfl, zmemT 637 rfl rfl⟩, (fun h => by cases h), (fun h => by cases h)⟩
set_option maxRecDepth 100000 in
theorem qX2_difference : zMok zX2_difference := ⟨zmemT 585 rfl rfl, ⟨by decide +kernel, by decide +kernel, by decide +kernel⟩, zmemT 2 rfl rfl, fun _ => ⟨zmemT 584 rfl rfl, zmemS 23 rfl rfl⟩, (fun h => by cases h), (fun h => by cases h)⟩
set_option maxRecDepth 100000 in
theorem qX2_exchanges : zMok zX2_exchanges := ⟨zmemT 597 rfl rfl, ⟨by decide +kernel, by decide +kernel, by decide +kernel⟩, zmemT 2 rfl rfl, fun _ => ⟨zmemT 596 rfl rfl, zmemS 24 rfl rfl⟩, (fun h => by cases h), (fun h => by cases h)⟩
set_option maxRecDepth 100000 in
theorem qX2_layKindsFrom : zMok zX2_layKindsFrom := ⟨zmemT 642 rfl rfl, ⟨by decide +kernel, by decide +kernel, by decide +kernel⟩, zmemT 2 rfl rfl, fun _ => ⟨zmemT 641 rfl rfl, zmemS 26 rfl rfl⟩, (fun h => by cases h), (fun h => by cases h)⟩
set_option maxRecDepth 100000 in
theorem qX3_init : zMok zX3_init := ⟨zmemT 165 rfl rfl, ⟨by decide +kernel, by decide +kernel, by decide +kernel⟩, zmemT 6 rfl rfl, (fun h => by cases h), (fun h => by cases h), fun _ => ⟨zmemT 164 rfl rfl, rfl, rfl⟩⟩
set_option maxRecDepth 100000 in
theorem qX3_drop : zMok zX3_drop := ⟨zmemT 618 rfl rfl, ⟨by decide +kernel, by decide +kernel, by decide +kernel⟩, zmemT 6 rfl rfl, fun _ => ⟨zmemT 616 rfl rfl, zmemT 617 rfl rfl⟩, (fun h => by cases h), (fun h => by cases h)⟩
set_option maxRecDepth 100000 in
theorem qX3_holdNode : zMok zX3_holdNode := ⟨zmemT 630 rfl rfl, ⟨by decide +kernel, by decide +kernel, by decide +kernel⟩, zmemT 6 rfl rfl, fun _ => ⟨zmemT 628 rfl rfl, zmemT 629 rfl rfl⟩, (fun h => by cases h), (fun h => by cases h)⟩
set_option maxRecDepth 100000 in
theorem qX3_holdNoughts : zMok zX3_holdNoughts := ⟨zmemT 634 rfl rfl, ⟨by decide +kernel, by decide +kernel, by decide +kernel⟩, zmemT 6 rfl rfl, fun _ => ⟨zmemT 632 rfl rfl, zmemT 633 rfl rfl⟩, (fun h => by cases h), (fun h => by cases h)⟩
set_option maxRecDepth 100000 in
theorem qX3_holdRow : zMok zX3_holdRow := ⟨zmemT 622 rfl rfl, ⟨by decide +kernel, by decide +kernel, by decide +kernel⟩, zmemT 6 rfl rfl, fun _ => ⟨zmemT 620 rfl rfl, zmemT 621 rfl rfl⟩, (fun h => by cases h), (fun h => by cases h)⟩
set_option maxRecDepth 100000 in
theorem qX3_hasRow : zMok zX3_hasRow := ⟨zmemT 654 rfl rfl, ⟨by decide +kernel, by decide +kernel, by decide +kernel⟩, zmemT 6 rfl rfl, fun _ => ⟨zmemT 652 rfl rfl, zmemT 653 rfl rfl⟩, (fun h => by cases h), (fun h => by cases h)⟩
set_option maxRecDepth 100000 in
theorem qX3_hasSpan : zMok zX3_hasSpan := ⟨zmemT 658 rfl rfl, ⟨by decide +kernel, by decide +kernel, by decide +kernel⟩, zmemT 6 rfl rfl, fun _ => ⟨zmemT 656 rfl rfl, zmemT 657 rfl rfl⟩, (fun h => by cases h), (fun h => by cases h)⟩
set_option maxRecDepth 100000 in
theorem qX3_weighNode : zMok zX3_weighNode := ⟨zmemT 673 rfl rfl, ⟨by decide +kernel, by decide +kernel, by decide +kernel⟩, zmemT 6 rfl rfl, fun _ => ⟨zmemT 671 rfl rfl, zmemT 672 rfl rfl⟩, (fun h => by cases h), (fun h => by cases h)⟩
set_option maxRecDepth 100000 in
theorem qX4_init : zMok zX4_init := ⟨zmemT 93 rfl rfl, ⟨by decide +kernel, by decide +kernel, by decide +kernel⟩, zmemT 3 rfl rfl, (fun h => by cases h), (fun h => by cases h), fun _ => ⟨zmemT 92 rfl rfl, rfl, rfl⟩⟩
set_option maxRecDepth 100000 in
theorem qX4_isTooLong : zMok zX4_isTooLong := ⟨zmemT 373 rfl rfl, ⟨by decide +kernel, by decide +kernel, by decide +kernel⟩, zmemT 3 rfl rfl, fun _ => ⟨zmemT 371 rfl rfl, zmemT 372 rfl rfl⟩, (fun h => by cases h), (fun h => by cases h)⟩
set_option maxRecDepth 100000 in
theorem qX4_sayInStyle : zMok zX4_sayInStyle := ⟨zmemT 340 rfl rfl, ⟨by decide +kernel, by decide +kernel, by decide +kernel⟩, zmemT 3 rfl rfl, fun _ => ⟨zmemT 338 rfl rfl, zmemT 339 rfl rfl⟩, (fun h => by cases h), (fun h => by cases h)⟩
set_option maxRecDepth 100000 in
theorem qX4_saySparingly : zMok zX4_saySparingly := ⟨zmemT 526 rfl rfl, ⟨by decide +kernel, by decide +kernel, by decide +kernel⟩, zmemT 3 rfl rfl, fun _ => ⟨zmemT 524 rfl rfl, zmemT 525 rfl rfl⟩, (fun h => by cases h), (fun h => by cases h)⟩
set_option maxRecDepth 100000 in
theorem qX4_isSameAs : zMok zX4_isSameAs := ⟨zmemT 385 rfl rfl, ⟨by decide +kernel, by decide +kernel, by decide +kernel⟩, zmemT 3 rfl rfl, fun _ => ⟨zmemT 383 rfl rfl, zmemT 384 rfl rfl⟩, (fun h => by cases h), (fun h => by cases h)⟩
set_option maxRecDepth 100000 in
theorem qX4_tell : zMok zX4_tell := ⟨zmemT 345 rfl rfl, ⟨by decide +kernel, by decide +kernel, by decide +kernel⟩, zmemT 3 rfl rfl, fun _ => ⟨zmemT 344 rfl rfl, zmemS 4 rfl rfl⟩, (fun h => by cases h), (fun h => by cases h)⟩
set_option maxRecDepth 100000 in
theorem qX4_tellBare : zMok zX4_tellBare := ⟨zmemT 354 rfl rfl, ⟨by decide +kernel, by decide +kernel, by decide +kernel⟩, zmemT 3 rfl rfl, fun _ => ⟨zmemT 353 rfl rfl, zmemS 6 rfl rfl⟩, (fun h => by cases h), (fun h => by cases h)⟩
set_option maxRecDepth 100000 in
theorem qX4_isPartKept : zMok zX4_isPartKept := ⟨zmemT 358 rfl rfl, ⟨by decide +kernel, by decide +kernel, by decide +kernel⟩, zmemT 3 rfl rfl, fun _ => ⟨zmemT 357 rfl rfl, zmemS 7 rfl rfl⟩, (fun h => by cases h), (fun h => by cases h)⟩
set_option maxRecDepth 100000 in
theorem qX4_addDigits : zMok zX4_addDigits := ⟨zmemT 369 rfl rfl, ⟨by decide +kernel, by decide +kernel, by decide +kernel⟩, zmemT 3 rfl rfl, fun _ => ⟨zmemT 368 rfl rfl, zmemS 8 rfl rfl⟩, (fun h => by cases h), (fun h => by cases h)⟩
set_option maxRecDepth 100000 in
theorem qX4_add : zMok zX4_add := ⟨zmemT 350 rfl rfl, ⟨by decide +kernel, by decide +kernel, by decide +kernel⟩, zmemT 3 rfl rfl, fun _ => ⟨zmemT 349 rfl rfl, zmemS 5 rfl rfl⟩, (fun h => by cases h), (fun h => by cases h)⟩
set_option maxRecDepth 100000 in
theorem qX5_init : zMok zX5_init := ⟨zmemT 144 rfl rfl, ⟨by decide +kernel, by decide +kernel, by decide +kernel⟩, zmemT 5 rfl rfl, (fun h => by cases h), (fun h => by cases h), fun _ => ⟨zmemT 143 rfl rfl, rfl, rfl⟩⟩
set_option maxRecDepth 100000 in
theorem qX5_isBegun : zMok zX5_isBegun := ⟨zmemT 281 rfl rfl, ⟨by decide +kernel, by decide +kernel, by decide +kernel⟩, zmemT 5 rfl rfl, fun _ => ⟨zmemT 279 rfl rfl, zmemT 280 rfl rfl⟩, (fun h => by cases h), (fun h => by cases h)⟩
set_option maxRecDepth 100000 in
theorem qX5_top : zMok zX5_top := ⟨zmemT 285 rfl rfl, ⟨by decide +kernel, by decide +kernel, by decide +kernel⟩, zmemT 5 rfl rfl, fun _ => ⟨zmemT 283 rfl rfl, zmemT 284 rfl rfl⟩, (fun h => by cases h), (fun h => by cases h)⟩
set_option maxRecDepth 100000 in
theorem qX5_here : zMok zX5_here := ⟨zmemT 555 rfl rfl, ⟨by decide +kernel, by decide +kernel, by decide +kernel⟩, zmemT 5 rfl rfl, fun _ => ⟨zmemT 553 rfl rfl, zmemT 554 rfl rfl⟩, (fun h => by cases h), (fun h => by cases h)⟩
set_option maxRecDepth 100000 in
theorem qX5_beginAt : zMok zX5_beginAt := ⟨zmemT 534 rfl rfl, ⟨by decide +kernel, by decide +kernel, by decide +kernel⟩, zmemT 5 rfl rfl, fun _ => ⟨zmemT 532 rfl rfl, zmemT 533 rfl rfl⟩, (fun h => by cases h), (fun h => by cases h)⟩
set_option maxRecDepth 100000 in
theorem qX5_stepDown : zMok zX5_stepDown := ⟨zmemT 551 rfl rfl, ⟨by decide +kernel, by decide +kernel, by decide +kernel⟩, zmemT 5 rfl rfl, fun _ => ⟨zmemT 549 rfl rfl, zmemT 550 rfl rfl⟩, (fun h => by cases h), (fun h => by cases h)⟩
set_option maxRecDepth 100000 in
theorem qX5_stepUp : zMok zX5_stepUp := ⟨zmemT 542 rfl rfl, ⟨by decide +kernel, by decide +kernel, by decide +kernel⟩, zmemT 5 rfl rfl, fun _ => ⟨zmemT 540 rfl rfl, zmemT 541 rfl rfl⟩, (fun h => by cases h), (fun h => by cases h)⟩
set_option maxRecDepth 100000 in
theorem qX5_stepBeside : zMok zX5_stepBeside := ⟨zmemT 546 rfl rfl, ⟨by decide +kernel, by decide +kernel, by decide +kernel⟩, zmemT 5 rfl rfl, fun _ => ⟨zmemT 544 rfl rfl, zmemT 545 rfl rfl⟩, (fun h => by cases h), (fun h => by cases h)⟩
set_option maxRecDepth 100000 in
theorem qX5_asNumber : zMok zX5_asNumber := ⟨zmemT 780 rfl rfl, ⟨by decide +kernel, by decide +kernel, by decide +kernel⟩, zmemT 5 rfl rfl, fun _ => ⟨zmemT 778 rfl rfl, zmemT 779 rfl rfl⟩, (fun h => by cases h), (fun h => by cases h)⟩
set_option maxRecDepth 100000 in
theorem qX5_follow : zMok zX5_follow := ⟨zmemT 564 rfl rfl, ⟨by decide +kernel, by decide +kernel, by decide +kernel⟩, zmemT 5 rfl rfl, fun _ => ⟨zmemT 562 rfl rfl, zmemT 563 rfl rfl⟩, (fun h => by cases h), (fun h => by cases h)⟩
set_option maxRecDepth 100000 in
theorem qX5_leadsSomewhere : zMok zX5_leadsSomewhere := ⟨zmemT 568 rfl rfl, ⟨by decide +kernel, by decide +kernel, by decide +kernel⟩, zmemT 5 rfl rfl, fun _ => ⟨zmemT 567 rfl rfl, zmemS 22 rfl rfl⟩, (fun h => by cases h), (fun h => by cases h)⟩
set_option maxRecDepth 100000 in
theorem qX6_init : zMok zX6_init := ⟨zmemT 21 rfl rfl, ⟨by decide +kernel, by decide +kernel, by decide +kernel⟩, zmemT 1 rfl rfl, (fun h => by cases h), (fun h => by cases h), fun _ => ⟨zmemT 20 rfl rfl, rfl, rfl⟩⟩
set_option maxRecDepth 100000 in
theorem qX6_leaf : zMok zX6_leaf := ⟨zmemT 220 rfl rfl, ⟨by decide +kernel, by decide +kernel, by decide +kernel⟩, zmemT 1 rfl rfl, fun _ => ⟨zmemT 218 rfl rfl, zmemT 219 rfl rfl⟩, (fun h => by cases h), (fun h => by cases h)⟩
set_option maxRecDepth 100000 in
theorem qX6_node : zMok zX6_node := ⟨zmemT 262 rfl rfl, ⟨by decide +kernel, by decide +kernel, by decide +kernel⟩, zmemT 1 rfl rfl, fun _ => ⟨zmemT 260 rfl rfl, zmemT 261 rfl rfl⟩, (fun h => by cases h), (fun h => by cases h)⟩
set_option maxRecDepth 100000 in
theorem qX6_undo : zMok zX6_undo := ⟨zmemT 277 rfl rfl, ⟨by decide +kernel, by decide +kernel, by decide +kernel⟩, zmemT 1 rfl rfl, fun _ => ⟨zmemT 275 rfl rfl, zmemT 276 rfl rfl⟩, (fun h => by cases h), (fun h => by cases h)⟩
set_option maxRecDepth 100000 in
theorem qX6_means : zMok zX6_means := ⟨zmemT 289 rfl rfl, ⟨by decide +kernel, by decide +kernel, by decide +kernel⟩, zmemT 1 rfl rfl, fun _ => ⟨zmemT 287 rfl rfl, zmemT 288 rfl rfl⟩, (fun h => by cases h), (fun h => by cases h)⟩
set_option maxRecDepth 100000 in
theorem qX6_look : zMok zX6_look := ⟨zmemT 296 rfl rfl, ⟨by decide +kernel, by decide +kernel, by decide +kernel⟩, zmemT 1 rfl rfl, fun _ => ⟨zmemT 294 rfl rfl, zmemT 295 rfl rfl⟩, (fun h => by cases h), (fun h => by cases h)⟩
set_option maxRecDepth 100000 in
theorem qX6_alike : zMok zX6_alike := ⟨zmemT 307 rfl rfl, ⟨by decide +kernel, by decide +kernel, by decide +kernel⟩, zmemT 1 rfl rfl, fun _ => ⟨zmemT 305 rfl rfl, zmemT 306 rfl rfl⟩, (fun h => by cases h), (fun h => by cases h)⟩
set_option maxRecDepth 100000 in
theorem qX6_times : zMok zX6_times := ⟨zmemT 315 rfl rfl, ⟨by decide +kernel, by decide +kernel, by decide +kernel⟩, zmemT 1 rfl rfl, fun _ => ⟨zmemT 313 rfl rfl, zmemT 314 rfl rfl⟩, (fun h => by cases h), (fun h => by cases h)⟩
set_option maxRecDepth 100000 in
theorem qX6_keeps : zMok zX6_keeps := ⟨zmemT 328 rfl rfl, ⟨by decide +kernel, by decide +kernel, by decide +kernel⟩, zmemT 1 rfl rfl, fun _ => ⟨zmemT 326 rfl rfl, zmemT 327 rfl rfl⟩, (fun h => by cases h), (fun h => by cases h)⟩
set_option maxRecDepth 100000 in
theorem qX6_words : zMok zX6_words := ⟨zmemT 336 rfl rfl, ⟨by decide +kernel, by decide +kernel, by decide +kernel⟩, zmemT 1 rfl rfl, fun _ => ⟨zmemT 334 rfl rfl, zmemT 335 rfl rfl⟩, (fun h => by cases h), (fun h => by cases h)⟩
set_option maxRecDepth 100000 in
theorem qX6_word : zMok zX6_word := ⟨zmemT 377 rfl rfl, ⟨by decide +kernel, by decide +kernel, by decide +kernel⟩, zmemT 1 rfl rfl, fun _ => ⟨zmemT 375 rfl rfl, zmemT 376 rfl rfl⟩, (fun h => by cases h), (fun h => by cases h)⟩
set_option maxRecDepth 100000 in
theorem qX6_sound : zMok zX6_sound := ⟨zmemT 381 rfl rfl, ⟨by decide +kernel, by decide +kernel, by decide +kernel⟩, zmemT 1 rfl rfl, fun _ => ⟨zmemT 379 rfl rfl, zmemT 380 rfl rfl⟩, (fun h => by cases h), (fun h => by cases h)⟩
set_option maxRecDepth 100000 in
theorem qX6_clear : zMok zX6_clear := ⟨zmemT 390 rfl rfl, ⟨by decide +kernel, by decide +kernel, by decide +kernel⟩, zmemT 1 rfl rfl, fun _ => ⟨zmemT 388 rfl rfl, zmemT 389 rfl rfl⟩, (fun h => by cases h), (fun h => by cases h)⟩
set_option maxRecDepth 100000 in
theorem qX6_hear : zMok zX6_hear := ⟨zmemT 395 rfl rfl, ⟨by decide +kernel, by decide +kernel, by decide +kernel⟩, zmemT 1 rfl rfl, fun _ => ⟨zmemT 393 rfl rfl, zmemT 394 rfl rfl⟩, (fun h => by cases h), (fun h => by cases h)⟩
set_option maxRecDepth 100000 in
theorem qX6_listen : zMok zX6_listen := ⟨zmemT 406 rfl rfl, ⟨by decide +kernel, by decide +kernel, by decide +kernel⟩, zmemT 1 rfl rfl, fun _ => ⟨zmemT 404 rfl rfl, zmemT 405 rfl rfl⟩, (fun h => by cases h), (fun h => by cases h)⟩
set_option maxRecDepth 100000 in
theorem qX6_hush : zMok zX6_hush := ⟨zmemT 414 rfl rfl, ⟨by decide +kernel, by decide +kernel, by decide +kernel⟩, zmemT 1 rfl rfl, fun _ => ⟨zmemT 412 rfl rfl, zmemT 413 rfl rfl⟩, (fun h => by cases h), (fun h => by cases h)⟩
set_option maxRecDepth 100000 in
theorem qX6_ear : zMok zX6_ear := ⟨zmemT 418 rfl rfl, ⟨by decide +kernel, by decide +kernel, by decide +kernel⟩, zmemT 1 rfl rfl, fun _ => ⟨zmemT 416 rfl rfl, zmemT 417 rfl rfl⟩, (fun h => by cases h), (fun h => by cases h)⟩
set_option maxRecDepth 100000 in
theorem qX6_readings : zMok zX6_readings := ⟨zmemT 685 rfl rfl, ⟨by decide +kernel, by decide +kernel, by decide +kernel⟩, zmemT 1 rfl rfl, fun _ => ⟨zmemT 683 rfl rfl, zmemT 684 rfl rfl⟩, (fun h => by cases h), (fun h => by cases h)⟩
set_option maxRecDepth 100000 in
theorem qX6_write : zMok zX6_write := ⟨zmemT 422 rfl rfl, ⟨by decide +kernel, by decide +kernel, by decide +kernel⟩, zmemT 1 rfl rfl, fun _ => ⟨zmemT 420 rfl rfl, zmemT 421 rfl rfl⟩, (fun h => by cases h), (fun h => by cases h)⟩
set_option maxRecDepth 100000 in
theorem qX6_place : zMok zX6_place := ⟨zmemT 486 rfl rfl, ⟨by decide +kernel, by decide +kernel, by decide +kernel⟩, zmemT 1 rfl rfl, fun _ => ⟨zmemT 484 rfl rfl, zmemT 485 rfl rfl⟩, (fun h => by cases h), (fun h => by cases h)⟩
set_option maxRecDepth 100000 in
theorem qX6_doubt : zMok zX6_doubt := ⟨zmemT 510 rfl rfl, ⟨by decide +kernel, by decide +kernel, by decide +kernel⟩, zmemT 1 rfl rfl, fun _ => ⟨zmemT 508 rfl rfl, zmemT 509 rfl rfl⟩, (fun h => by cases h), (fun h => by cases h)⟩
set_option maxRecDepth 100000 in
theorem qX6_fewest : zMok zX6_fewest := ⟨zmemT 522 rfl rfl, ⟨by decide +kernel, by decide +kernel, by decide +kernel⟩, zmemT 1 rfl rfl, fun _ => ⟨zmemT 520 rfl rfl, zmemT 521 rfl rfl⟩, (fun h => by cases h), (fun h => by cases h)⟩
set_option maxRecDepth 100000 in
theorem qX6_walk : zMok zX6_walk := ⟨zmemT 530 rfl rfl, ⟨by decide +kernel, by decide +kernel, by decide +kernel⟩, zmemT 1 rfl rfl, fun _ => ⟨zmemT 528 rfl rfl, zmemT 529 rfl rfl⟩, (fun h => by cases h), (fun h => by cases h)⟩
set_option maxRecDepth 100000 in
theorem qX6_go : zMok zX6_go := ⟨zmemT 538 rfl rfl, ⟨by decide +kernel, by decide +kernel, by decide +kernel⟩, zmemT 1 rfl rfl, fun _ => ⟨zmemT 536 rfl rfl, zmemT 537 rfl rfl⟩, (fun h => by cases h), (fun h => by cases h)⟩
set_option maxRecDepth 100000 in
theorem qX6_where : zMok zX6_where := ⟨zmemT 760 rfl rfl, ⟨by decide +kernel, by decide +kernel, by decide +kernel⟩, zmemT 1 rfl rfl, fun _ => ⟨zmemT 758 rfl rfl, zmemT 759 rfl rfl⟩, (fun h => by cases h), (fun h => by cases h)⟩
set_option maxRecDepth 100000 in
theorem qX6_lead : zMok zX6_lead := ⟨zmemT 560 rfl rfl, ⟨by decide +kernel, by decide +kernel, by decide +kernel⟩, zmemT 1 rfl rfl, fun _ => ⟨zmemT 558 rfl rfl, zmemT 559 rfl rfl⟩, (fun h => by cases h), (fun h => by cases h)⟩
set_option maxRecDepth 100000 in
theorem qX6_glance : zMok zX6_glance := ⟨zmemT 573 rfl rfl, ⟨by decide +kernel, by decide +kernel, by decide +kernel⟩, zmemT 1 rfl rfl, fun _ => ⟨zmemT 571 rfl rfl, zmemT 572 rfl rfl⟩, (fun h => by cases h), (fun h => by cases h)⟩
set_option maxRecDepth 100000 in
theorem qX6_changed : zMok zX6_changed := ⟨zmemT 577 rfl rfl, ⟨by decide +kernel, by decide +kernel, by decide +kernel⟩, zmemT 1 rfl rfl, fun _ => ⟨zmemT 575 rfl rfl, zmemT 576 rfl rfl⟩, (fun h => by cases h), (fun h => by cases h)⟩
set_option maxRecDepth 100000 in
theorem qX6_exchanged : zMok zX6_exchanged := ⟨zmemT 589 rfl rfl, ⟨by decide +kernel, by decide +kernel, by decide +kernel⟩, zmemT 1 rfl rfl, fun _ => ⟨zmemT 587 rfl rfl, zmemT 588 rfl rfl⟩, (fun h => by cases h), (fun h => by cases h)⟩
set_option maxRecDepth 100000 in
theorem qX6_count : zMok zX6_count := ⟨zmemT 601 rfl rfl, ⟨by decide +kernel, by decide +kernel, by decide +kernel⟩, zmemT 1 rfl rfl, fun _ => ⟨zmemT 599 rfl rfl, zmemT 600 rfl rfl⟩, (fun h => by cases h), (fun h => by cases h)⟩
set_option maxRecDepth 100000 in
theorem qX6_keep : zMok zX6_keep := ⟨zmemT 611 rfl rfl, ⟨by decide +kernel, by decide +kernel, by decide +kernel⟩, zmemT 1 rfl rfl, fun _ => ⟨zmemT 609 rfl rfl, zmemT 610 rfl rfl⟩, (fun h => by cases h), (fun h => by cases h)⟩
set_option maxRecDepth 100000 in
theorem qX6_make : zMok zX6_make := ⟨zmemT 646 rfl rfl, ⟨by decide +kernel, by decide +kernel, by decide +kernel⟩, zmemT 1 rfl rfl, fun _ => ⟨zmemT 644 rfl rfl, zmemT 645 rfl rfl⟩, (fun h => by cases h), (fun h => by cases h)⟩
set_option maxRecDepth 100000 in
theorem qX6_element : zMok zX6_element := ⟨zmemT 790 rfl rfl, ⟨by decide +kernel, by decide +kernel, by decide +kernel⟩, zmemT 1 rfl rfl, fun _ => ⟨zmemT 788 rfl rfl, zmemT 789 rfl rfl⟩, (fun h => by cases h), (fun h => by cases h)⟩
set_option maxRecDepth 100000 in
theorem qX6_copy : zMok zX6_copy := ⟨zmemT 650 rfl rfl, ⟨by decide +kernel, by decide +kernel, by decide +kernel⟩, zmemT 1 rfl rfl, fun _ => ⟨zmemT 648 rfl rfl, zmemT 649 rfl rfl⟩, (fun h => by cases h), (fun h => by cases h)⟩
set_option maxRecDepth 100000 in
theorem qX6_weight : zMok zX6_weight := ⟨zmemT 665 rfl rfl, ⟨by decide +kernel, by decide +kernel, by decide +kernel⟩, zmemT 1 rfl rfl, fun _ => ⟨zmemT 663 rfl rfl, zmemT 664 rfl rfl⟩, (fun h => by cases h), (fun h => by cases h)⟩
set_option maxRecDepth 100000 in
theorem qX6_toss : zMok zX6_toss := ⟨zmemT 677 rfl rfl, ⟨by decide +kernel, by decide +kernel, by decide +kernel⟩, zmemT 1 rfl rfl, fun _ => ⟨zmemT 675 rfl rfl, zmemT 676 rfl rfl⟩, (fun h => by cases h), (fun h => by cases h)⟩
set_option maxRecDepth 100000 in
theorem qX6_isLetter : zMok zX6_isLetter := ⟨zmemT 269 rfl rfl, ⟨by decide +kernel, by decide +kernel, by decide +kernel⟩, zmemT 1 rfl rfl, (fun h => by cases h), fun _ => zmemT 268 rfl rfl, (fun h => by cases h)⟩
set_option maxRecDepth 100000 in
theorem qX6_isStyle : zMok zX6_isStyle := ⟨zmemT 331 rfl rfl, ⟨by decide +kernel, by decide +kernel, by decide +kernel⟩, zmemT 1 rfl rfl, (fun h => by cases h), fun _ => zmemT 330 rfl rfl, (fun h => by cases h)⟩
set_option maxRecDepth 100000 in
theorem qX6_isStyleOrFree : zMok zX6_isStyleOrFree := ⟨zmemT 425 rfl rfl, ⟨by decide +kernel, by decide +kernel, by decide +kernel⟩, zmemT 1 rfl rfl, (fun h => by cases h), fun _ => zmemT 424 rfl rfl, (fun h => by cases h)⟩
set_option maxRecDepth 100000 in
theorem qX6_isShelf : zMok zX6_isShelf := ⟨zmemT 614 rfl rfl, ⟨by decide +kernel, by decide +kernel, by decide +kernel⟩, zmemT 1 rfl rfl, (fun h => by cases h), fun _ => zmemT 613 rfl rfl, (fun h => by cases h)⟩
set_option maxRecDepth 100000 in
theorem qX6_orMissing : zMok zX6_orMissing := ⟨zmemT 299 rfl rfl, ⟨by decide +kernel, by decide +kernel, by decide +kernel⟩, zmemT 1 rfl rfl, (fun h => by cases h), fun _ => zmemT 298 rfl rfl, (fun h => by cases h)⟩
set_option maxRecDepth 100000 in
theorem qX6_digitOf : zMok zX6_digitOf := ⟨zmemT 398 rfl rfl, ⟨by decide +kernel, by decide +kernel, by decide +kernel⟩, zmemT 1 rfl rfl, (fun h => by cases h), fun _ => zmemT 397 rfl rfl, (fun h => by cases h)⟩
set_option maxRecDepth 100000 in
theorem qX6_hearSpeech : zMok zX6_hearSpeech := ⟨zmemT 410 rfl rfl, ⟨by decide +kernel, by decide +kernel, by decide +kernel⟩, zmemT 1 rfl rfl, fun _ => ⟨zmemT 409 rfl rfl, zmemS 9 rfl rfl⟩, (fun h => by cases h), (fun h => by cases h)⟩
set_option maxRecDepth 100000 in
theorem qX6_tallyIn : zMok zX6_tallyIn := ⟨zmemT 429 rfl rfl, ⟨by decide +kernel, by decide +kernel, by decide +kernel⟩, zmemT 1 rfl rfl, fun _ => ⟨zmemT 428 rfl rfl, zmemS 10 rfl rfl⟩, (fun h => by cases h), (fun h => by cases h)⟩
set_option maxRecDepth 100000 in
theorem qX6_keepNode : zMok zX6_keepNode := ⟨zmemT 626 rfl rfl, ⟨by decide +kernel, by decide +kernel, by decide +kernel⟩, zmemT 1 rfl rfl, fun _ => ⟨zmemT 625 rfl rfl, zmemS 25 rfl rfl⟩, (fun h => by cases h), (fun h => by cases h)⟩
set_option maxRecDepth 100000 in
theorem qX6_nodeRefusal : zMok zX6_nodeRefusal := ⟨zmemT 669 rfl rfl, ⟨by decide +kernel, by decide +kernel, by decide +kernel⟩, zmemT 1 rfl rfl, fun _ => ⟨zmemT 668 rfl rfl, zmemS 27 rfl rfl⟩, (fun h => by cases h), (fun h => by cases h)⟩
set_option maxRecDepth 100000 in
theorem qX7_init : zMok zX7_init := ⟨zmemT 798 rfl rfl, ⟨by decide +kernel, by decide +kernel, by decide +kernel⟩, zmemT 7 rfl rfl, (fun h => by cases h), (fun h => by cases h), fun _ => ⟨zmemT 797 rfl rfl, rfl, rfl⟩⟩
set_option maxRecDepth 100000 in
theorem qX7_in : zMok zX7_in := ⟨zmemT 913 rfl rfl, ⟨by decide +kernel, by decide +kernel, by decide +kernel⟩, zmemT 7 rfl rfl, (fun h => by cases h), fun _ => zmemT 912 rfl rfl, (fun h => by cases h)⟩
set_option maxRecDepth 100000 in
theorem qX7_isNode : zMok zX7_isNode := ⟨zmemT 928 rfl rfl, ⟨by decide +kernel, by decide +kernel, by decide +kernel⟩, zmemT 7 rfl rfl, fun _ => ⟨zmemT 927 rfl rfl, zmemS 30 rfl rfl⟩, (fun h => by cases h), (fun h => by cases h)⟩
set_option maxRecDepth 100000 in
theorem qX7_isTwo : zMok zX7_isTwo := ⟨zmemT 931 rfl rfl, ⟨by decide +kernel, by decide +kernel, by decide +kernel⟩, zmemT 7 rfl rfl, (fun h => by cases h), fun _ => zmemT 930 rfl rfl, (fun h => by cases h)⟩
set_option maxRecDepth 100000 in
theorem qX7_mayKeep : zMok zX7_mayKeep := ⟨zmemT 975 rfl rfl, ⟨by decide +kernel, by decide +kernel, by decide +kernel⟩, zmemT 7 rfl rfl, (fun h => by cases h), fun _ => zmemT 974 rfl rfl, (fun h => by cases h)⟩
set_option maxRecDepth 100000 in
theorem qX7_isStyle : zMok zX7_isStyle := ⟨zmemT 971 rfl rfl, ⟨by decide +kernel, by decide +kernel, by decide +kernel⟩, zmemT 7 rfl rfl, (fun h => by cases h), fun _ => zmemT 970 rfl rfl, (fun h => by cases h)⟩
set_option maxRecDepth 100000 in
theorem qX7_sets : zMok zX7_sets := ⟨zmemT 919 rfl rfl, ⟨by decide +kernel, by decide +kernel, by decide +kernel⟩, zmemT 7 rfl rfl, fun _ => ⟨zmemT 918 rfl rfl, zmemS 29 rfl rfl⟩, (fun h => by cases h), (fun h => by cases h)⟩
set_option maxRecDepth 100000 in
theorem qX7_leaf : zMok zX7_leaf := ⟨zmemT 910 rfl rfl, ⟨by decide +kernel, by decide +kernel, by decide +kernel⟩, zmemT 7 rfl rfl, fun _ => ⟨zmemT 908 rfl rfl, zmemT 909 rfl rfl⟩, (fun h => by cases h), (fun h => by cases h)⟩
set_option maxRecDepth 100000 in
theorem qX7_node : zMok zX7_node := ⟨zmemT 923 rfl rfl, ⟨by decide +kernel, by decide +kernel, by decide +kernel⟩, zmemT 7 rfl rfl, fun _ => ⟨zmemT 921 rfl rfl, zmemT 922 rfl rfl⟩, (fun h => by cases h), (fun h => by cases h)⟩
set_option maxRecDepth 100000 in
theorem qX7_undo : zMok zX7_undo := ⟨zmemT 935 rfl rfl, ⟨by decide +kernel, by decide +kernel, by decide +kernel⟩, zmemT 7 rfl rfl, fun _ => ⟨zmemT 933 rfl rfl, zmemT 934 rfl rfl⟩, (fun h => by cases h), (fun h => by cases h)⟩
set_option maxRecDepth 100000 in
theorem qX7_means : zMok zX7_means := ⟨zmemT 939 rfl rfl, ⟨by decide +kernel, by decide +kernel, by decide +kernel⟩, zmemT 7 rfl rfl, fun _ => ⟨zmemT 937 rfl rfl, zmemT 938 rfl rfl⟩, (fun h => by cases h), (fun h => by cases h)⟩
set_option maxRecDepth 100000 in
theorem qX7_isRight : zMok zX7_isRight := ⟨zmemT 948 rfl rfl, ⟨by decide +kernel, by decide +kernel, by decide +kernel⟩, zmemT 7 rfl rfl, fun _ => ⟨zmemT 947 rfl rfl, zmemS 31 rfl rfl⟩, (fun h => by cases h), (fun h => by cases h)⟩
set_option maxRecDepth 100000 in
theorem qX7_look : zMok zX7_look := ⟨zmemT 943 rfl rfl, ⟨by decide +kernel, by decide +kernel, by decide +kernel⟩, zmemT 7 rfl rfl, fun _ => ⟨zmemT 941 rfl rfl, zmemT 942 rfl rfl⟩, (fun h => by cases h), (fun h => by cases h)⟩
set_option maxRecDepth 100000 in
theorem qX7_areAlike : zMok zX7_areAlike := ⟨zmemT 956 rfl rfl, ⟨by decide +kernel, by decide +kernel, by decide +kernel⟩, zmemT 7 rfl rfl, fun _ => ⟨zmemT 955 rfl rfl, zmemS 32 rfl rfl⟩, (fun h => by cases h), (fun h => by cases h)⟩
set_option maxRecDepth 100000 in
theorem qX7_alike : zMok zX7_alike := ⟨zmemT 952 rfl rfl, ⟨by decide +kernel, by decide +kernel, by decide +kernel⟩, zmemT 7 rfl rfl, fun _ => ⟨zmemT 950 rfl rfl, zmemT 951 rfl rfl⟩, (fun h => by cases h), (fun h => by cases h)⟩
set_option maxRecDepth 100000 in
theorem qX7_has : zMok zX7_has := ⟨zmemT 964 rfl rfl, ⟨by decide +kernel, by decide +kernel, by decide +kernel⟩, zmemT 7 rfl rfl, fun _ => ⟨zmemT 963 rfl rfl, zmemS 33 rfl rfl⟩, (fun h => by cases h), (fun h => by cases h)⟩
set_option maxRecDepth 100000 in
theorem qX7_times : zMok zX7_times := ⟨zmemT 960 rfl rfl, ⟨by decide +kernel, by decide +kernel, by decide +kernel⟩, zmemT 7 rfl rfl, fun _ => ⟨zmemT 958 rfl rfl, zmemT 959 rfl rfl⟩, (fun h => by cases h), (fun h => by cases h)⟩
set_option maxRecDepth 100000 in
theorem qX7_keeps : zMok zX7_keeps := ⟨zmemT 968 rfl rfl, ⟨by decide +kernel, by decide +kernel, by decide +kernel⟩, zmemT 7 rfl rfl, fun _ => ⟨zmemT 966 rfl rfl, zmemT 967 rfl rfl⟩, (fun h => by cases h), (fun h => by cases h)⟩
set_option maxRecDepth 100000 in
theorem qX7_digits : zMok zX7_digits := ⟨zmemT 990 rfl rfl, ⟨by decide +kernel, by decide +kernel, by decide +kernel⟩, zmemT 7 rfl rfl, (fun h => by cases h), fun _ => zmemT 989 rfl rfl, (fun h => by cases h)⟩
set_option maxRecDepth 100000 in
theorem qX7_own : zMok zX7_own := ⟨zmemT 987 rfl rfl, ⟨by decide +kernel, by decide +kernel, by decide +kernel⟩, zmemT 7 rfl rfl, fun _ => ⟨zmemT 986 rfl rfl, zmemS 35 rfl rfl⟩, (fun h => by cases h), (fun h => by cases h)⟩
set_option maxRecDepth 100000 in
theorem qX7_length : zMok zX7_length := ⟨zmemT 983 rfl rfl, ⟨by decide +kernel, by decide +kernel, by decide +kernel⟩, zmemT 7 rfl rfl, fun _ => ⟨zmemT 982 rfl rfl, zmemS 34 rfl rfl⟩, (fun h => by cases h), (fun h => by cases h)⟩
set_option maxRecDepth 100000 in
theorem qX7_says : zMok zX7_says := ⟨zmemT 1010 rfl rfl, ⟨by decide +kernel, by decide +kernel, by decide +kernel⟩, zmemT 7 rfl rfl, fun _ => ⟨zmemT 1009 rfl rfl, zmemS 39 rfl rfl⟩, (fun h => by cases h), (fun h => by cases h)⟩
set_option maxRecDepth 100000 in
theorem qX7_keepsIt : zMok zX7_keepsIt := ⟨zmemT 1006 rfl rfl, ⟨by decide +kernel, by decide +kernel, by decide +kernel⟩, zmemT 7 rfl rfl, fun _ => ⟨zmemT 1005 rfl rfl, zmemS 38 rfl rfl⟩, (fun h => by cases h), (fun h => by cases h)⟩
set_option maxRecDepth 100000 in
theorem qX7_say : zMok zX7_say := ⟨zmemT 1002 rfl rfl, ⟨by decide +kernel, by decide +kernel, by decide +kernel⟩, zmemT 7 rfl rfl, fun _ => ⟨zmemT 1001 rfl rfl, zmemS 37 rfl rfl⟩, (fun h => by cases h), (fun h => by cases h)⟩
set_option maxRecDepth 100000 in
theorem qX7_sayAll : zMok zX7_sayAll := ⟨zmemT 998 rfl rfl, ⟨by decide +kernel, by decide +kernel, by decide +kernel⟩, zmemT 7 rfl rfl, fun _ => ⟨zmemT 997 rfl rfl, zmemS 36 rfl rfl⟩, (fun h => by cases h), (fun h => by cases h)⟩
set_option maxRecDepth 100000 in
theorem qX7_words : zMok zX7_words := ⟨zmemT 979 rfl rfl, ⟨by decide +kernel, by decide +kernel, by decide +kernel⟩, zmemT 7 rfl rfl, fun _ => ⟨zmemT 977 rfl rfl, zmemT 978 rfl rfl⟩, (fun h => by cases h), (fun h => by cases h)⟩
set_option maxRecDepth 100000 in
theorem qX7_word : zMok zX7_word := ⟨zmemT 994 rfl rfl, ⟨by decide +kernel, by decide +kernel, by decide +kernel⟩, zmemT 7 rfl rfl, fun _ => ⟨zmemT 992 rfl rfl, zmemT 993 rfl rfl⟩, (fun h => by cases h), (fun h => by cases h)⟩
set_option maxRecDepth 100000 in
theorem qX7_sound : zMok zX7_sound := ⟨zmemT 1014 rfl rfl, ⟨by decide +kernel, by decide +kernel, by decide +kernel⟩, zmemT 7 rfl rfl, fun _ => ⟨zmemT 1012 rfl rfl, zmemT 1013 rfl rfl⟩, (fun h => by cases h), (fun h => by cases h)⟩
set_option maxRecDepth 100000 in
theorem qX7_adds : zMok zX7_adds := ⟨zmemT 1023 rfl rfl, ⟨by decide +kernel, by decide +kernel, by decide +kernel⟩, zmemT 7 rfl rfl, fun _ => ⟨zmemT 1022 rfl rfl, zmemS 40 rfl rfl⟩, (fun h => by cases h), (fun h => by cases h)⟩
set_option maxRecDepth 100000 in
theorem qX7_grows : zMok zX7_grows := ⟨zmemT 1027 rfl rfl, ⟨by decide +kernel, by decide +kernel, by decide +kernel⟩, zmemT 7 rfl rfl, fun _ => ⟨zmemT 1026 rfl rfl, zmemS 41 rfl rfl⟩, (fun h => by cases h), (fun h => by cases h)⟩
set_option maxRecDepth 100000 in
theorem qX7_isSame : zMok zX7_isSame := ⟨zmemT 1031 rfl rfl, ⟨by decide +kernel, by decide +kernel, by decide +kernel⟩, zmemT 7 rfl rfl, fun _ => ⟨zmemT 1030 rfl rfl, zmemS 42 rfl rfl⟩, (fun h => by cases h), (fun h => by cases h)⟩
set_option maxRecDepth 100000 in
theorem qX7_clear : zMok zX7_clear := ⟨zmemT 1018 rfl rfl, ⟨by decide +kernel, by decide +kernel, by decide +kernel⟩, zmemT 7 rfl rfl, fun _ => ⟨zmemT 1016 rfl rfl, zmemT 1017 rfl rfl⟩, (fun h => by cases h), (fun h => by cases h)⟩
set_option maxRecDepth 100000 in
theorem qX7_hear : zMok zX7_hear := ⟨zmemT 1035 rfl rfl, ⟨by decide +kernel, by decide +kernel, by decide +kernel⟩, zmemT 7 rfl rfl, fun _ => ⟨zmemT 1033 rfl rfl, zmemT 1034 rfl rfl⟩, (fun h => by cases h), (fun h => by cases h)⟩
set_option maxRecDepth 100000 in
theorem qX7_listen : zMok zX7_listen := ⟨zmemT 1040 rfl rfl, ⟨by decide +kernel, by decide +kernel, by decide +kernel⟩, zmemT 7 rfl rfl, fun _ => ⟨zmemT 1038 rfl rfl, zmemT 1039 rfl rfl⟩, (fun h => by cases h), (fun h => by cases h)⟩
set_option maxRecDepth 100000 in
theorem qX7_hears : zMok zX7_hears := ⟨zmemT 1044 rfl rfl, ⟨by decide +kernel, by decide +kernel, by decide +kernel⟩, zmemT 7 rfl rfl, fun _ => ⟨zmemT 1043 rfl rfl, zmemS 43 rfl rfl⟩, (fun h => by cases h), (fun h => by cases h)⟩
set_option maxRecDepth 100000 in
theorem qX7_hush : zMok zX7_hush := ⟨zmemT 1048 rfl rfl, ⟨by decide +kernel, by decide +kernel, by decide +kernel⟩, zmemT 7 rfl rfl, fun _ => ⟨zmemT 1046 rfl rfl, zmemT 1047 rfl rfl⟩, (fun h => by cases h), (fun h => by cases h)⟩
set_option maxRecDepth 100000 in
theorem qX7_ear : zMok zX7_ear := ⟨zmemT 1052 rfl rfl, ⟨by decide +kernel, by decide +kernel, by decide +kernel⟩, zmemT 7 rfl rfl, fun _ => ⟨zmemT 1050 rfl rfl, zmemT 1051 rfl rfl⟩, (fun h => by cases h), (fun h => by cases h)⟩
set_option maxRecDepth 100000 in
theorem qX7_times_ : zMok zX7_times_ := ⟨zmemT 1082 rfl rfl, ⟨by decide +kernel, by decide +kernel, by decide +kernel⟩, zmemT 7 rfl rfl, (fun h => by cases h), fun _ => zmemT 1081 rfl rfl, (fun h => by cases h)⟩
set_option maxRecDepth 100000 in
theorem qX7_plus : zMok zX7_plus := ⟨zmemT 1086 rfl rfl, ⟨by decide +kernel, by decide +kernel, by decide +kernel⟩, zmemT 7 rfl rfl, (fun h => by cases h), fun _ => zmemT 1085 rfl rfl, (fun h => by cases h)⟩
set_option maxRecDepth 100000 in
theorem qX7_isLet : zMok zX7_isLet := ⟨zmemT 1069 rfl rfl, ⟨by decide +kernel, by decide +kernel, by decide +kernel⟩, zmemT 7 rfl rfl, fun _ => ⟨zmemT 1068 rfl rfl, zmemS 46 rfl rfl⟩, (fun h => by cases h), (fun h => by cases h)⟩
set_option maxRecDepth 100000 in
theorem qX7_isNumber : zMok zX7_isNumber := ⟨zmemT 1077 rfl rfl, ⟨by decide +kernel, by decide +kernel, by decide +kernel⟩, zmemT 7 rfl rfl, fun _ => ⟨zmemT 1076 rfl rfl, zmemS 48 rfl rfl⟩, (fun h => by cases h), (fun h => by cases h)⟩
set_option maxRecDepth 100000 in
theorem qX7_within : zMok zX7_within := ⟨zmemT 1073 rfl rfl, ⟨by decide +kernel, by decide +kernel, by decide +kernel⟩, zmemT 7 rfl rfl, fun _ => ⟨zmemT 1072 rfl rfl, zmemS 47 rfl rfl⟩, (fun h => by cases h), (fun h => by cases h)⟩
set_option maxRecDepth 100000 in
theorem qX7_reckons : zMok zX7_reckons := ⟨zmemT 1065 rfl rfl, ⟨by decide +kernel, by decide +kernel, by decide +kernel⟩, zmemT 7 rfl rfl, fun _ => ⟨zmemT 1064 rfl rfl, zmemS 45 rfl rfl⟩, (fun h => by cases h), (fun h => by cases h)⟩
set_option maxRecDepth 100000 in
theorem qX7_counted : zMok zX7_counted := ⟨zmemT 1061 rfl rfl, ⟨by decide +kernel, by decide +kernel, by decide +kernel⟩, zmemT 7 rfl rfl, fun _ => ⟨zmemT 1060 rfl rfl, zmemS 44 rfl rfl⟩, (fun h => by cases h), (fun h => by cases h)⟩
set_option maxRecDepth 100000 in
theorem qX7_readings : zMok zX7_readings := ⟨zmemT 1056 rfl rfl, ⟨by decide +kernel, by decide +kernel, by decide +kernel⟩, zmemT 7 rfl rfl, fun _ => ⟨zmemT 1054 rfl rfl, zmemT 1055 rfl rfl⟩, (fun h => by cases h), (fun h => by cases h)⟩
set_option maxRecDepth 100000 in
theorem qX7_makes : zMok zX7_makes := ⟨zmemT 1098 rfl rfl, ⟨by decide +kernel, by decide +kernel, by decide +kernel⟩, zmemT 7 rfl rfl, fun _ => ⟨zmemT 1097 rfl rfl, zmemS 50 rfl rfl⟩, (fun h => by cases h), (fun h => by cases h)⟩
set_option maxRecDepth 100000 in
theorem qX7_takes : zMok zX7_takes := ⟨zmemT 1094 rfl rfl, ⟨by decide +kernel, by decide +kernel, by decide +kernel⟩, zmemT 7 rfl rfl, fun _ => ⟨zmemT 1093 rfl rfl, zmemS 49 rfl rfl⟩, (fun h => by cases h), (fun h => by cases h)⟩
set_option maxRecDepth 100000 in
theorem qX7_takesTwo : zMok zX7_takesTwo := ⟨zmemT 1102 rfl rfl, ⟨by decide +kernel, by decide +kernel, by decide +kernel⟩, zmemT 7 rfl rfl, fun _ => ⟨zmemT 1101 rfl rfl, zmemS 51 rfl rfl⟩, (fun h => by cases h), (fun h => by cases h)⟩
set_option maxRecDepth 100000 in
theorem qX7_write : zMok zX7_write := ⟨zmemT 1090 rfl rfl, ⟨by decide +kernel, by decide +kernel, by decide +kernel⟩, zmemT 7 rfl rfl, fun _ => ⟨zmemT 1088 rfl rfl, zmemT 1089 rfl rfl⟩, (fun h => by cases h), (fun h => by cases h)⟩
set_option maxRecDepth 100000 in
theorem qX7_copies : zMok zX7_copies := ⟨zmemT 1106 rfl rfl, ⟨by decide +kernel, by decide +kernel, by decide +kernel⟩, zmemT 7 rfl rfl, fun _ => ⟨zmemT 1105 rfl rfl, zmemS 52 rfl rfl⟩, (fun h => by cases h), (fun h => by cases h)⟩
set_option maxRecDepth 100000 in
theorem qX7_rank : zMok zX7_rank := ⟨zmemT 1116 rfl rfl, ⟨by decide +kernel, by decide +kernel, by decide +kernel⟩, zmemT 7 rfl rfl, fun _ => ⟨zmemT 1115 rfl rfl, zmemS 53 rfl rfl⟩, (fun h => by cases h), (fun h => by cases h)⟩
set_option maxRecDepth 100000 in
theorem qX7_inner : zMok zX7_inner := ⟨zmemT 1120 rfl rfl, ⟨by decide +kernel, by decide +kernel, by decide +kernel⟩, zmemT 7 rfl rfl, fun _ => ⟨zmemT 1119 rfl rfl, zmemS 54 rfl rfl⟩, (fun h => by cases h), (fun h => by cases h)⟩
set_option maxRecDepth 100000 in
theorem qX7_innerTwo : zMok zX7_innerTwo := ⟨zmemT 1124 rfl rfl, ⟨by decide +kernel, by decide +kernel, by decide +kernel⟩, zmemT 7 rfl rfl, fun _ => ⟨zmemT 1123 rfl rfl, zmemS 55 rfl rfl⟩, (fun h => by cases h), (fun h => by cases h)⟩
set_option maxRecDepth 100000 in
theorem qX7_place : zMok zX7_place := ⟨zmemT 1110 rfl rfl, ⟨by decide +kernel, by decide +kernel, by decide +kernel⟩, zmemT 7 rfl rfl, fun _ => ⟨zmemT 1108 rfl rfl, zmemT 1109 rfl rfl⟩, (fun h => by cases h), (fun h => by cases h)⟩
set_option maxRecDepth 100000 in
theorem qX7_doubt : zMok zX7_doubt := ⟨zmemT 1128 rfl rfl, ⟨by decide +kernel, by decide +kernel, by decide +kernel⟩, zmemT 7 rfl rfl, fun _ => ⟨zmemT 1126 rfl rfl, zmemT 1127 rfl rfl⟩, (fun h => by cases h), (fun h => by cases h)⟩
set_option maxRecDepth 100000 in
theorem qX7_keepable : zMok zX7_keepable := ⟨zmemT 1136 rfl rfl, ⟨by decide +kernel, by decide +kernel, by decide +kernel⟩, zmemT 7 rfl rfl, fun _ => ⟨zmemT 1135 rfl rfl, zmemS 56 rfl rfl⟩, (fun h => by cases h), (fun h => by cases h)⟩
set_option maxRecDepth 100000 in
theorem qX7_bits : zMok zX7_bits := ⟨zmemT 1139 rfl rfl, ⟨by decide +kernel, by decide +kernel, by decide +kernel⟩, zmemT 7 rfl rfl, (fun h => by cases h), fun _ => zmemT 1138 rfl rfl, (fun h => by cases h)⟩
set_option maxRecDepth 100000 in
theorem qX7_fewest : zMok zX7_fewest := ⟨zmemT 1132 rfl rfl, ⟨by decide +kernel, by decide +kernel, by decide +kernel⟩, zmemT 7 rfl rfl, fun _ => ⟨zmemT 1130 rfl rfl, zmemT 1131 rfl rfl⟩, (fun h => by cases h), (fun h => by cases h)⟩
set_option maxRecDepth 100000 in
theorem qX7_isOnly : zMok zX7_isOnly := ⟨zmemT 1143 rfl rfl, ⟨by decide +kernel, by decide +kernel, by decide +kernel⟩, zmemT 7 rfl rfl, fun _ => ⟨zmemT 1142 rfl rfl, zmemS 57 rfl rfl⟩, (fun h => by cases h), (fun h => by cases h)⟩
set_option maxRecDepth 100000 in
theorem qX7_walk : zMok zX7_walk := ⟨zmemT 1147 rfl rfl, ⟨by decide +kernel, by decide +kernel, by decide +kernel⟩, zmemT 7 rfl rfl, fun _ => ⟨zmemT 1145 rfl rfl, zmemT 1146 rfl rfl⟩, (fun h => by cases h), (fun h => by cases h)⟩
set_option maxRecDepth 100000 in
theorem qX7_down : zMok zX7_down := ⟨zmemT 1156 rfl rfl, ⟨by decide +kernel, by decide +kernel, by decide +kernel⟩, zmemT 7 rfl rfl, fun _ => ⟨zmemT 1155 rfl rfl, zmemS 58 rfl rfl⟩, (fun h => by cases h), (fun h => by cases h)⟩
set_option maxRecDepth 100000 in
theorem qX7_go : zMok zX7_go := ⟨zmemT 1151 rfl rfl, ⟨by decide +kernel, by decide +kernel, by decide +kernel⟩, zmemT 7 rfl rfl, fun _ => ⟨zmemT 1149 rfl rfl, zmemT 1150 rfl rfl⟩, (fun h => by cases h), (fun h => by cases h)⟩
set_option maxRecDepth 100000 in
theorem qX7_where : zMok zX7_where := ⟨zmemT 1160 rfl rfl, ⟨by decide +kernel, by decide +kernel, by decide +kernel⟩, zmemT 7 rfl rfl, fun _ => ⟨zmemT 1158 rfl rfl, zmemT 1159 rfl rfl⟩, (fun h => by cases h), (fun h => by cases h)⟩
set_option maxRecDepth 100000 in
theorem qX7_lead : zMok zX7_lead := ⟨zmemT 1164 rfl rfl, ⟨by decide +kernel, by decide +kernel, by decide +kernel⟩, zmemT 7 rfl rfl, fun _ => ⟨zmemT 1162 rfl rfl, zmemT 1163 rfl rfl⟩, (fun h => by cases h), (fun h => by cases h)⟩
set_option maxRecDepth 100000 in
theorem qX7_glanced : zMok zX7_glanced := ⟨zmemT 1172 rfl rfl, ⟨by decide +kernel, by decide +kernel, by decide +kernel⟩, zmemT 7 rfl rfl, fun _ => ⟨zmemT 1171 rfl rfl, zmemS 59 rfl rfl⟩, (fun h => by cases h), (fun h => by cases h)⟩
set_option maxRecDepth 100000 in
theorem qX7_glance : zMok zX7_glance := ⟨zmemT 1168 rfl rfl, ⟨by decide +kernel, by decide +kernel, by decide +kernel⟩, zmemT 7 rfl rfl, fun _ => ⟨zmemT 1166 rfl rfl, zmemT 1167 rfl rfl⟩, (fun h => by cases h), (fun h => by cases h)⟩
set_option maxRecDepth 100000 in
theorem qX7_inside : zMok zX7_inside := ⟨zmemT 1184 rfl rfl, ⟨by decide +kernel, by decide +kernel, by decide +kernel⟩, zmemT 7 rfl rfl, fun _ => ⟨zmemT 1183 rfl rfl, zmemS 61 rfl rfl⟩, (fun h => by cases h), (fun h => by cases h)⟩
set_option maxRecDepth 100000 in
theorem qX7_difference : zMok zX7_difference := ⟨zmemT 1180 rfl rfl, ⟨by decide +kernel, by decide +kernel, by decide +kernel⟩, zmemT 7 rfl rfl, fun _ => ⟨zmemT 1179 rfl rfl, zmemS 60 rfl rfl⟩, (fun h => by cases h), (fun h => by cases h)⟩
set_option maxRecDepth 100000 in
theorem qX7_wholes : zMok zX7_wholes := ⟨zmemT 1192 rfl rfl, ⟨by decide +kernel, by decide +kernel, by decide +kernel⟩, zmemT 7 rfl rfl, fun _ => ⟨zmemT 1191 rfl rfl, zmemS 62 rfl rfl⟩, (fun h => by cases h), (fun h => by cases h)⟩
set_option maxRecDepth 100000 in
theorem qX7_changed : zMok zX7_changed := ⟨zmemT 1176 rfl rfl, ⟨by decide +kernel, by decide +kernel, by decide +kernel⟩, zmemT 7 rfl rfl, fun _ => ⟨zmemT 1174 rfl rfl, zmemT 1175 rfl rfl⟩, (fun h => by cases h), (fun h => by cases h)⟩
set_option maxRecDepth 100000 in
theorem qX7_exchanged : zMok zX7_exchanged := ⟨zmemT 1188 rfl rfl, ⟨by decide +kernel, by decide +kernel, by decide +kernel⟩, zmemT 7 rfl rfl, fun _ => ⟨zmemT 1186 rfl rfl, zmemT 1187 rfl rfl⟩, (fun h => by cases h), (fun h => by cases h)⟩
set_option maxRecDepth 100000 in
theorem qX7_functions : zMok zX7_functions := ⟨zmemT 1200 rfl rfl, ⟨by decide +kernel, by decide +kernel, by decide +kernel⟩, zmemT 7 rfl rfl, fun _ => ⟨zmemT 1199 rfl rfl, zmemS 63 rfl rfl⟩, (fun h => by cases h), (fun h => by cases h)⟩
set_option maxRecDepth 100000 in
theorem qX7_count : zMok zX7_count := ⟨zmemT 1196 rfl rfl, ⟨by decide +kernel, by decide +kernel, by decide +kernel⟩, zmemT 7 rfl rfl, fun _ => ⟨zmemT 1194 rfl rfl, zmemT 1195 rfl rfl⟩, (fun h => by cases h), (fun h => by cases h)⟩
set_option maxRecDepth 100000 in
theorem qX7_isShelf : zMok zX7_isShelf := ⟨zmemT 1207 rfl rfl, ⟨by decide +kernel, by decide +kernel, by decide +kernel⟩, zmemT 7 rfl rfl, (fun h => by cases h), fun _ => zmemT 1206 rfl rfl, (fun h => by cases h)⟩
set_option maxRecDepth 100000 in
theorem qX7_kinds : zMok zX7_kinds := ⟨zmemT 1211 rfl rfl, ⟨by decide +kernel, by decide +kernel, by decide +kernel⟩, zmemT 7 rfl rfl, fun _ => ⟨zmemT 1210 rfl rfl, zmemS 64 rfl rfl⟩, (fun h => by cases h), (fun h => by cases h)⟩
set_option maxRecDepth 100000 in
theorem qX7_keep : zMok zX7_keep := ⟨zmemT 1204 rfl rfl, ⟨by decide +kernel, by decide +kernel, by decide +kernel⟩, zmemT 7 rfl rfl, fun _ => ⟨zmemT 1202 rfl rfl, zmemT 1203 rfl rfl⟩, (fun h => by cases h), (fun h => by cases h)⟩
set_option maxRecDepth 100000 in
theorem qX7_make : zMok zX7_make := ⟨zmemT 1215 rfl rfl, ⟨by decide +kernel, by decide +kernel, by decide +kernel⟩, zmemT 7 rfl rfl, fun _ => ⟨zmemT 1213 rfl rfl, zmemT 1214 rfl rfl⟩, (fun h => by cases h), (fun h => by cases h)⟩
set_option maxRecDepth 100000 in
theorem qX7_element : zMok zX7_element := ⟨zmemT 1219 rfl rfl, ⟨by decide +kernel, by decide +kernel, by decide +kernel⟩, zmemT 7 rfl rfl, fun _ => ⟨zmemT 1217 rfl rfl, zmemT 1218 rfl rfl⟩, (fun h => by cases h), (fun h => by cases h)⟩
set_option maxRecDepth 100000 in
theorem qX7_copy : zMok zX7_copy := ⟨zmemT 1223 rfl rfl, ⟨by decide +kernel, by decide +kernel, by decide +kernel⟩, zmemT 7 rfl rfl, fun _ => ⟨zmemT 1221 rfl rfl, zmemT 1222 rfl rfl⟩, (fun h => by cases h), (fun h => by cases h)⟩
set_option maxRecDepth 100000 in
theorem qX7_held : zMok zX7_held := ⟨zmemT 1231 rfl rfl, ⟨by decide +kernel, by decide +kernel, by decide +kernel⟩, zmemT 7 rfl rfl, fun _ => ⟨zmemT 1230 rfl rfl, zmemS 65 rfl rfl⟩, (fun h => by cases h), (fun h => by cases h)⟩
set_option maxRecDepth 100000 in
theorem qX7_weight : zMok zX7_weight := ⟨zmemT 1227 rfl rfl, ⟨by decide +kernel, by decide +kernel, by decide +kernel⟩, zmemT 7 rfl rfl, fun _ => ⟨zmemT 1225 rfl rfl, zmemT 1226 rfl rfl⟩, (fun h => by cases h), (fun h => by cases h)⟩
set_option maxRecDepth 100000 in
theorem qX7_toss : zMok zX7_toss := ⟨zmemT 1235 rfl rfl, ⟨by decide +kernel, by decide +kernel, by decide +kernel⟩, zmemT 7 rfl rfl, fun _ => ⟨zmemT 1233 rfl rfl, zmemT 1234 rfl rfl⟩, (fun h => by cases h), (fun h => by cases h)⟩
set_option maxRecDepth 100000 in
theorem qJ6_bitCount_0f7a4 : zMok zJ6_bitCount_0f7a4 := ⟨zmemT 604 rfl rfl, ⟨by decide +kernel, by decide +kernel, by decide +kernel⟩, zmemT 15 rfl rfl, (fun h => by cases h), fun _ => zmemT 603 rfl rfl, (fun h => by cases h)⟩
set_option maxRecDepth 100000 in
theorem qJ9_max_7cf53 : zMok zJ9_max_7cf53 := ⟨zmemT 246 rfl rfl, ⟨by decide +kernel, by decide +kernel, by decide +kernel⟩, zmemT 9 rfl rfl, (fun h => by cases h), fun _ => zmemT 245 rfl rfl, (fun h => by cases h)⟩
set_option maxRecDepth 100000 in
theorem qJ9_min_7cf53 : zMok zJ9_min_7cf53 := ⟨zmemT 783 rfl rfl, ⟨by decide +kernel, by decide +kernel, by decide +kernel⟩, zmemT 9 rfl rfl, (fun h => by cases h), fun _ => zmemT 782 rfl rfl, (fun h => by cases h)⟩
set_option maxRecDepth 100000 in
theorem qJ9_min_f86c9 : zMok zJ9_min_f86c9 := ⟨zmemT 465 rfl rfl, ⟨by decide +kernel, by decide +kernel, by decide +kernel⟩, zmemT 9 rfl rfl, (fun h => by cases h), fun _ => zmemT 464 rfl rfl, (fun h => by cases h)⟩
theorem zms_ok0 : ∀ z ∈ ([zX0_init, zX0_add, zX0_tally, zX0_waysOf, zX0_isBracketed, zX0_bareWays, zX0_kindByEnds, zX0_partFrom, zX0_partTo, zX0_numberIn, zX0_build, zX0_buildSpan, zX0_buildBare, zX0_buildPair, zX0_placeOf, zX0_placeIn, zX0_placeBare, zX0_placePair, zX1_isPair, zX1_isPrefix, zX1_hasBit, zX1_withBit, zX1_isDoubtful, zX2_init, zX2_has, zX2_isFull, zX2_sizeOf, zX2_partOf, zX2_put, zX2_addPart] : List zMt), zMok z := zcons qX0_init (zcons qX0_add (zcons qX0_tally (zcons qX0_waysOf (zcons qX0_isBracketed (zcons qX0_bareWays (zcons qX0_kindByEnds (zcons qX0_partFrom (zcons qX0_partTo (zcons qX0_numberIn (zcons qX0_build (zcons qX0_buildSpan (zcons qX0_buildBare (zcons qX0_buildPair (zcons qX0_placeOf (zcons qX0_placeIn (zcons qX0_placeBare (zcons qX0_placePair (zcons qX1_isPair (zcons qX1_isPrefix (zcons qX1_hasBit (zcons qX1_withBit (zcons qX1_isDoubtful (zcons qX2_init (zcons qX2_has (zcons qX2_isFull (zcons qX2_sizeOf (zcons qX2_partOf (zcons qX2_put (zcons qX2_addPart (znil))))))))))))))))))))))))))))))
theorem zms_ok1 : ∀ z ∈ ([zX2_ownWords, zX2_firstAlike, zX2_shapeOf, zX2_isSameTop, zX2_isAlike, zX2_isRight, zX2_timesWithin, zX2_tallyOf, zX2_firstUnlike, zX2_differenceOf, zX2_exchangesOf, zX2_layKinds, zX2_difference, zX2_exchanges, zX2_layKindsFrom, zX3_init, zX3_drop, zX3_holdNode, zX3_holdNoughts, zX3_holdRow, zX3_hasRow, zX3_hasSpan, zX3_weighNode, zX4_init, zX4_isTooLong, zX4_sayInStyle, zX4_saySparingly, zX4_isSameAs, zX4_tell, zX4_tellBare] : List zMt), zMok z := zcons qX2_ownWords (zcons qX2_firstAlike (zcons qX2_shapeOf (zcons qX2_isSameTop (zcons qX2_isAlike (zcons qX2_isRight (zcons qX2_timesWithin (zcons qX2_tallyOf (zcons qX2_firstUnlike (zcons qX2_differenceOf (zcons qX2_exchangesOf (zcons qX2_layKinds (zcons qX2_difference (zcons qX2_exchanges (zcons qX2_layKindsFrom (zcons qX3_init (zcons qX3_drop (zcons qX3_holdNode (zcons qX3_holdNoughts (zcons qX3_holdRow (zcons qX3_hasRow (zcons qX3_hasSpan (zcons qX3_weighNode (zcons qX4_init (zcons qX4_isTooLong (zcons qX4_sayInStyle (zcons qX4_saySparingly (zcons qX4_isSameAs (zcons qX4_tell (zcons qX4_tellBare (znil))))))))))))))))))))))))))))))
theorem zms_ok2 : ∀ z ∈ ([zX4_isPartKept, zX4_addDigits, zX4_add, zX5_init, zX5_isBegun, zX5_top, zX5_here, zX5_beginAt, zX5_stepDown, zX5_stepUp, zX5_stepBeside, zX5_asNumber, zX5_follow, zX5_leadsSomewhere, zX6_init, zX6_leaf, zX6_node, zX6_undo, zX6_means, zX6_look, zX6_alike, zX6_times, zX6_keeps, zX6_words, zX6_word, zX6_sound, zX6_clear, zX6_hear, zX6_listen, zX6_hush] : List zMt), zMok z := zcons qX4_isPartKept (zcons qX4_addDigits (zcons qX4_add (zcons qX5_init (zcons qX5_isBegun (zcons qX5_top (zcons qX5_here (zcons qX5_beginAt (zcons qX5_stepDown (zcons qX5_stepUp (zcons qX5_stepBeside (zcons qX5_asNumber (zcons qX5_follow (zcons qX5_leadsSomewhere (zcons qX6_init (zcons qX6_leaf (zcons qX6_node (zcons qX6_undo (zcons qX6_means (zcons qX6_look (zcons qX6_alike (zcons qX6_times (zcons qX6_keeps (zcons qX6_words (zcons qX6_word (zcons qX6_sound (zcons qX6_clear (zcons qX6_hear (zcons qX6_listen (zcons qX6_hush (znil))))))))))))))))))))))))))))))
theorem zms_ok3 : ∀ z ∈ ([zX6_ear, zX6_readings, zX6_write, zX6_place, zX6_doubt, zX6_fewest, zX6_walk, zX6_go, zX6_where, zX6_lead, zX6_glance, zX6_changed, zX6_exchanged, zX6_count, zX6_keep, zX6_make, zX6_element, zX6_copy, zX6_weight, zX6_toss, zX6_isLetter, zX6_isStyle, zX6_isStyleOrFree, zX6_isShelf, zX6_orMissing, zX6_digitOf, zX6_hearSpeech, zX6_tallyIn, zX6_keepNode, zX6_nodeRefusal] : List zMt), zMok z := zcons qX6_ear (zcons qX6_readings (zcons qX6_write (zcons qX6_place (zcons qX6_doubt (zcons qX6_fewest (zcons qX6_walk (zcons qX6_go (zcons qX6_where (zcons qX6_lead (zcons qX6_glance (zcons qX6_changed (zcons qX6_exchanged (zcons qX6_count (zcons qX6_keep (zcons qX6_make (zcons qX6_element (zcons qX6_copy (zcons qX6_weight (zcons qX6_toss (zcons qX6_isLetter (zcons qX6_isStyle (zcons qX6_isStyleOrFree (zcons qX6_isShelf (zcons qX6_orMissing (zcons qX6_digitOf (zcons qX6_hearSpeech (zcons qX6_tallyIn (zcons qX6_keepNode (zcons qX6_nodeRefusal (znil))))))))))))))))))))))))))))))
theorem zms_ok4 : ∀ z ∈ ([zX7_init, zX7_in, zX7_isNode, zX7_isTwo, zX7_mayKeep, zX7_isStyle, zX7_sets, zX7_leaf, zX7_node, zX7_undo, zX7_means, zX7_isRight, zX7_look, zX7_areAlike, zX7_alike, zX7_has, zX7_times, zX7_keeps, zX7_digits, zX7_own, zX7_length, zX7_says, zX7_keepsIt, zX7_say, zX7_sayAll, zX7_words, zX7_word, zX7_sound, zX7_adds, zX7_grows] : List zMt), zMok z := zcons qX7_init (zcons qX7_in (zcons qX7_isNode (zcons qX7_isTwo (zcons qX7_mayKeep (zcons qX7_isStyle (zcons qX7_sets (zcons qX7_leaf (zcons qX7_node (zcons qX7_undo (zcons qX7_means (zcons qX7_isRight (zcons qX7_look (zcons qX7_areAlike (zcons qX7_alike (zcons qX7_has (zcons qX7_times (zcons qX7_keeps (zcons qX7_digits (zcons qX7_own (zcons qX7_length (zcons qX7_says (zcons qX7_keepsIt (zcons qX7_say (zcons qX7_sayAll (zcons qX7_words (zcons qX7_word (zcons qX7_sound (zcons qX7_adds (zcons qX7_grows (znil))))))))))))))))))))))))))))))
theorem zms_ok5 : ∀ z ∈ ([zX7_isSame, zX7_clear, zX7_hear, zX7_listen, zX7_hears, zX7_hush, zX7_ear, zX7_times_, zX7_plus, zX7_isLet, zX7_isNumber, zX7_within, zX7_reckons, zX7_counted, zX7_readings, zX7_makes, zX7_takes, zX7_takesTwo, zX7_write, zX7_copies, zX7_rank, zX7_inner, zX7_innerTwo, zX7_place, zX7_doubt, zX7_keepable, zX7_bits, zX7_fewest, zX7_isOnly, zX7_walk] : List zMt), zMok z := zcons qX7_isSame (zcons qX7_clear (zcons qX7_hear (zcons qX7_listen (zcons qX7_hears (zcons qX7_hush (zcons qX7_ear (zcons qX7_times_ (zcons qX7_plus (zcons qX7_isLet (zcons qX7_isNumber (zcons qX7_within (zcons qX7_reckons (zcons qX7_counted (zcons qX7_readings (zcons qX7_makes (zcons qX7_takes (zcons qX7_takesTwo (zcons qX7_write (zcons qX7_copies (zcons qX7_rank (zcons qX7_inner (zcons qX7_innerTwo (zcons qX7_place (zcons qX7_doubt (zcons qX7_keepable (zcons qX7_bits (zcons qX7_fewest (zcons qX7_isOnly (zcons qX7_walk (znil))))))))))))))))))))))))))))))
theorem zms_ok6 : ∀ z ∈ ([zX7_down, zX7_go, zX7_where, zX7_lead, zX7_glanced, zX7_glance, zX7_inside, zX7_difference, zX7_wholes, zX7_changed, zX7_exchanged, zX7_functions, zX7_count, zX7_isShelf, zX7_kinds, zX7_keep, zX7_make, zX7_element, zX7_copy, zX7_held, zX7_weight, zX7_toss, zJ6_bitCount_0f7a4, zJ9_max_7cf53, zJ9_min_7cf53, zJ9_min_f86c9] : List zMt), zMok z := zcons qX7_down (zcons qX7_go (zcons qX7_where (zcons qX7_lead (zcons qX7_glanced (zcons qX7_glance (zcons qX7_inside (zcons qX7_difference (zcons qX7_wholes (zcons qX7_changed (zcons qX7_exchanged (zcons qX7_functions (zcons qX7_count (zcons qX7_isShelf (zcons qX7_kinds (zcons qX7_keep (zcons qX7_make (zcons qX7_element (zcons qX7_copy (zcons qX7_held (zcons qX7_weight (zcons qX7_toss (zcons qJ6_bitCount_0f7a4 (zcons qJ9_max_7cf53 (zcons qJ9_min_7cf53 (zcons qJ9_min_f86c9 (znil))))))))))))))))))))))))))
theorem zms_ok : ∀ z ∈ zms, zMok z := by
  show ∀ z ∈ ([zX0_init, zX0_add, zX0_tally, zX0_waysOf, zX0_isBracketed, zX0_bareWays, zX0_kindByEnds, zX0_partFrom, zX0_partTo, zX0_numberIn, zX0_build, zX0_buildSpan, zX0_buildBare, zX0_buildPair, zX0_placeOf, zX0_placeIn, zX0_placeBare, zX0_placePair, zX1_isPair, zX1_isPrefix, zX1_hasBit, zX1_withBit, zX1_isDoubtful, zX2_init, zX2_has, zX2_isFull, zX2_sizeOf, zX2_partOf, zX2_put, zX2_addPart] : List zMt) ++ (([zX2_ownWords, zX2_firstAlike, zX2_shapeOf, zX2_isSameTop, zX2_isAlike, zX2_isRight, zX2_timesWithin, zX2_tallyOf, zX2_firstUnlike, zX2_differenceOf, zX2_exchangesOf, zX2_layKinds, zX2_difference, zX2_exchanges, zX2_layKindsFrom, zX3_init, zX3_drop, zX3_holdNode, zX3_holdNoughts, zX3_holdRow, zX3_hasRow, zX3_hasSpan, zX3_weighNode, zX4_init, zX4_isTooLong, zX4_sayInStyle, zX4_saySparingly, zX4_isSameAs, zX4_tell, zX4_tellBare] : List zMt) ++ (([zX4_isPartKept, zX4_addDigits, zX4_add, zX5_init, zX5_isBegun, zX5_top, zX5_here, zX5_beginAt, zX5_stepDown, zX5_stepUp, zX5_stepBeside, zX5_asNumber, zX5_follow, zX5_leadsSomewhere, zX6_init, zX6_leaf, zX6_node, zX6_undo, zX6_means, zX6_look, zX6_alike, zX6_times, zX6_keeps, zX6_words, zX6_word, zX6_sound, zX6_clear, zX6_hear, zX6_listen, zX6_hush] : List zMt) ++ (([zX6_ear, zX6_readings, zX6_write, zX6_place, zX6_doubt, zX6_fewest, zX6_walk, zX6_go, zX6_where, zX6_lead, zX6_glance, zX6_changed, zX6_exchanged, zX6_count, zX6_keep, zX6_make, zX6_element, zX6_copy, zX6_weight, zX6_toss, zX6_isLetter, zX6_isStyle, zX6_isStyleOrFree, zX6_isShelf, zX6_orMissing, zX6_digitOf, zX6_hearSpeech, zX6_tallyIn, zX6_keepNode, zX6_nodeRefusal] : List zMt) ++ (([zX7_init, zX7_in, zX7_isNode, zX7_isTwo, zX7_mayKeep, zX7_isStyle, zX7_sets, zX7_leaf, zX7_node, zX7_undo, zX7_means, zX7_isRight, zX7_look, zX7_areAlike, zX7_alike, zX7_has, zX7_times, zX7_keeps, zX7_digits, zX7_own, zX7_length, zX7_says, zX7_keepsIt, zX7_say, zX7_sayAll, zX7_words, zX7_word, zX7_sound, zX7_adds, zX7_grows] : List zMt) ++ (([zX7_isSame, zX7_clear, zX7_hear, zX7_listen, zX7_hears, zX7_hush, zX7_ear, zX7_times_, zX7_plus, zX7_isLet, zX7_isNumber, zX7_within, zX7_reckons, zX7_counted, zX7_readings, zX7_makes, zX7_takes, zX7_takesTwo, zX7_write, zX7_copies, zX7_rank, zX7_inner, zX7_innerTwo, zX7_place, zX7_doubt, zX7_keepable, zX7_bits, zX7_fewest, zX7_isOnly, zX7_walk] : List zMt) ++ (([zX7_down, zX7_go, zX7_where, zX7_lead, zX7_glanced, zX7_glance, zX7_inside, zX7_difference, zX7_wholes, zX7_changed, zX7_exchanged, zX7_functions, zX7_count, zX7_isShelf, zX7_kinds, zX7_keep, zX7_make, zX7_element, zX7_copy, zX7_held, zX7_weight, zX7_toss, zJ6_bitCount_0f7a4, zJ9_max_7cf53, zJ9_min_7cf53, zJ9_min_f86c9] : List zMt))))))), zMok z
  exact zapp zms_ok0 (zapp zms_ok1 (zapp zms_ok2 (zapp zms_ok3 (zapp zms_ok4 (zapp zms_ok5 (zms_ok6))))))
end
section
def zFTok (own : String) (F : zFT) : Prop :=
  (∀ x ∈ F.1, ∃ r, vwCl[x.2.1]? = some r ∧ x.2.2.1 < r.2.2 ∧ Cond.fieldLink own x.1 (r.2.1 x.2.2.1).1 (r.2.1 x.2.2.1).2.1 (r.2.1 x.2.2.1).2.2.1 ∈ zG ∧ ((x.2.2.2 = 0 ∧ (r.2.1 x.2.2.1).2.2.2 = false) ∨ (x.2.2.2 = 1 ∧ (r.2.1 x.2.2.1).2.2.2 = true ∧ (r.2.1 x.2.2.1).1 = own) ∨ x.2.2.2 = 2)) ∧
  (∀ x ∈ F.2.1, ∃ z, zms[x.2]? = some z ∧ Cond.methodLink own x.1 z.1 ∈ zG) ∧
  (∀ x ∈ F.2.2.1, Cond.constant own x.1 (Int32.ofInt x.2) ∈ zG) ∧
  (∀ x ∈ F.2.2.2.1, Cond.constantLong own x.1 (Int64.ofInt x.2) ∈ zG) ∧
  (∀ x ∈ F.2.2.2.2, Cond.methodLink own x Lib.objectInit ∈ zG)
/-- what a row of a method's table must keep, beside being the decoded instruction -/
def zgd (F : zFT) (nL : Nat) (ini : Bool) (pc : Nat) (ins : Instr) (a b : Nat) (c : Int) : Bool := match ins with
  | .ifCond _ off => decide ((pc : Int) + off = (a : Int))
  | .if_icmp _ off => decide ((pc : Int) + off = (a : Int))
  | .goto off => decide ((pc : Int) + off = (a : Int))
  | .istore i => decide (i < nL)
  | .istore_n i => decide ((i : Nat) < nL)
  | .astore i => decide (i < nL)
  | .astore_n i => decide ((i : Nat) < nL)
  | .lstore i => decide (i + 1 < nL)
  | .lstore_n i => decide ((i : Nat) + 1 < nL)
  | .iinc i _ => decide (i < nL)
  | .ldc i => decide ((i, c) ∈ F.2.2.1)
  | .ldc_w i => decide ((i, c) ∈ F.2.2.1)
  | .ldc2_w i => decide ((i, c) ∈ F.2.2.2.1)
  | .getfield i => decide ((i, a, b, 0) ∈ F.1) || (decide ((i, a, b, 1) ∈ F.1) || decide ((i, a, b, 2) ∈ F.1))
  | .putfield i => decide ((i, a, b, 0) ∈ F.1) || (ini && decide ((i, a, b, 1) ∈ F.1))
  | .invokevirtual i => Nat.ble 9000 a || (decide ((i, a) ∈ F.2.1) && decide ((zms[a]?).map (fun z => z.2.2.2.2.2.2.2) = some (0, b)))
  | .invokestatic i => Nat.ble 9000 a || (decide ((i, a) ∈ F.2.1) && decide ((zms[a]?).map (fun z => z.2.2.2.2.2.2.2) = some (1, b)))
  | .invokespecial i => (Nat.beq a 9999 && decide (i ∈ F.2.2.2.2)) || (Nat.beq a 9998 || (decide ((i, a) ∈ F.2.1) && decide ((zms[a]?).map (fun z => z.2.2.2.2.2.2.2) = some (2, b))))
  | _ => true
def zlenok (ins : Instr) (pc nxt : Nat) : Bool := match ins with
  | .tableswitch _ _ _ _ => true
  | .lookupswitch _ _ => true
  | i => decide (nxt = pc + zlen i)
def zgood (F : zFT) (cc : ByteArray) (nL : Nat) (ini : Bool) (e : zE) : Bool :=
  decide (decode cc e.1 = .ok (e.2.1, e.2.2.1 - e.1)) && zlenok e.2.1 e.1 e.2.2.1 && zgd F nL ini e.1 e.2.1 e.2.2.2.1 e.2.2.2.2.1 e.2.2.2.2.2
end
section
def fRX0 : zFT := ([(9, 0, 0, 1), (15, 0, 1, 0), (21, 0, 2, 1), (24, 0, 3, 0), (27, 0, 4, 0), (30, 0, 5, 0), (92, 1, 0, 2), (101, 1, 1, 2), (104, 1, 2, 2), (107, 1, 6, 2), (110, 1, 3, 2)], [(33, 3), (37, 5), (40, 4), (44, 18), (50, 20), (53, 6), (57, 7), (60, 8), (63, 9), (66, 11), (70, 12), (74, 13), (77, 28), (83, 15), (87, 24), (95, 16), (98, 17)], [], [(90, -1)], [3])
set_option maxRecDepth 100000 in
theorem gRX0 : zFTok RX0 fRX0 := ⟨zcons (⟨_, rfl, by decide, zmemT 118 rfl rfl, Or.inr (Or.inl ⟨rfl, rfl, rfl⟩)⟩) (zcons (⟨_, rfl, by decide, zmemT 120 rfl rfl, Or.inl ⟨rfl, rfl⟩⟩) (zcons (⟨_, rfl, by decide, zmemT 122 rfl rfl, Or.inr (Or.inl ⟨rfl, rfl, rfl⟩)⟩) (zcons (⟨_, rfl, by decide, zmemT 123 rfl rfl, Or.inl ⟨rfl, rfl⟩⟩) (zcons (⟨_, rfl, by decide, zmemT 124 rfl rfl, Or.inl ⟨rfl, rfl⟩⟩) (zcons (⟨_, rfl, by decide, zmemT 125 rfl rfl, Or.inl ⟨rfl, rfl⟩⟩) (zcons (⟨_, rfl, by decide, zmemT 34 rfl rfl, Or.inr (Or.inr rfl)⟩) (zcons (⟨_, rfl, by decide, zmemT 38 rfl rfl, Or.inr (Or.inr rfl)⟩) (zcons (⟨_, rfl, by decide, zmemT 42 rfl rfl, Or.inr (Or.inr rfl)⟩) (zcons (⟨_, rfl, by decide, zmemT 52 rfl rfl, Or.inr (Or.inr rfl)⟩) (zcons (⟨_, rfl, by decide, zmemT 46 rfl rfl, Or.inr (Or.inr rfl)⟩) (znil))))))))))), zcons (⟨_, rfl, zmemT 434 rfl rfl⟩) (zcons (⟨_, rfl, zmemT 438 rfl rfl⟩) (zcons (⟨_, rfl, zmemT 458 rfl rfl⟩) (zcons (⟨_, rfl, zmemT 442 rfl rfl⟩) (zcons (⟨_, rfl, zmemT 443 rfl rfl⟩) (zcons (⟨_, rfl, zmemT 444 rfl rfl⟩) (zcons (⟨_, rfl, zmemT 452 rfl rfl⟩) (zcons (⟨_, rfl, zmemT 455 rfl rfl⟩) (zcons (⟨_, rfl, zmemT 448 rfl rfl⟩) (zcons (⟨_, rfl, zmemT 470 rfl rfl⟩) (zcons (⟨_, rfl, zmemT 474 rfl rfl⟩) (zcons (⟨_, rfl, zmemT 478 rfl rfl⟩) (zcons (⟨_, rfl, zmemT 482 rfl rfl⟩) (zcons (⟨_, rfl, zmemT 493 rfl rfl⟩) (zcons (⟨_, rfl, zmemT 497 rfl rfl⟩) (zcons (⟨_, rfl, zmemT 499 rfl rfl⟩) (zcons (⟨_, rfl, zmemT 503 rfl rfl⟩) (znil))))))))))))))))), znil, zcons (zmemT 498 rfl rfl) (znil), zcons (zmemT 115 rfl rfl) (znil)⟩
def fRX1 : zFT := ([], [(9, 18), (15, 19)], [], [], [])
set_option maxRecDepth 100000 in
theorem gRX1 : zFTok RX1 fRX1 := ⟨znil, zcons (⟨_, rfl, zmemT 362 rfl rfl⟩) (zcons (⟨_, rfl, zmemT 363 rfl rfl⟩) (znil)), znil, znil, znil⟩
def fRX2 : zFT := ([(9, 1, 0, 1), (15, 1, 1, 1), (18, 1, 2, 1), (21, 1, 3, 1), (24, 1, 4, 1), (27, 1, 5, 1), (30, 1, 6, 1), (33, 1, 7, 1), (36, 1, 8, 1), (39, 1, 9, 1), (42, 1, 10, 1), (45, 1, 11, 1), (48, 1, 12, 0)], [(52, 24), (56, 25), (60, 30), (64, 20), (70, 29), (74, 31), (78, 203), (83, 33), (86, 32), (89, 34), (92, 37), (95, 27), (98, 42), (102, 43), (105, 44)], [], [], [3])
set_option maxRecDepth 100000 in
theorem gRX2 : zFTok RX2 fRX2 := ⟨zcons (⟨_, rfl, by decide, zmemT 31 rfl rfl, Or.inr (Or.inl ⟨rfl, rfl, rfl⟩)⟩) (zcons (⟨_, rfl, by decide, zmemT 35 rfl rfl, Or.inr (Or.inl ⟨rfl, rfl, rfl⟩)⟩) (zcons (⟨_, rfl, by decide, zmemT 39 rfl rfl, Or.inr (Or.inl ⟨rfl, rfl, rfl⟩)⟩) (zcons (⟨_, rfl, by decide, zmemT 43 rfl rfl, Or.inr (Or.inl ⟨rfl, rfl, rfl⟩)⟩) (zcons (⟨_, rfl, by decide, zmemT 47 rfl rfl, Or.inr (Or.inl ⟨rfl, rfl, rfl⟩)⟩) (zcons (⟨_, rfl, by decide, zmemT 49 rfl rfl, Or.inr (Or.inl ⟨rfl, rfl, rfl⟩)⟩) (zcons (⟨_, rfl, by decide, zmemT 51 rfl rfl, Or.inr (Or.inl ⟨rfl, rfl, rfl⟩)⟩) (zcons (⟨_, rfl, by decide, zmemT 53 rfl rfl, Or.inr (Or.inl ⟨rfl, rfl, rfl⟩)⟩) (zcons (⟨_, rfl, by decide, zmemT 55 rfl rfl, Or.inr (Or.inl ⟨rfl, rfl, rfl⟩)⟩) (zcons (⟨_, rfl, by decide, zmemT 56 rfl rfl, Or.inr (Or.inl ⟨rfl, rfl, rfl⟩)⟩) (zcons (⟨_, rfl, by decide, zmemT 57 rfl rfl, Or.inr (Or.inl ⟨rfl, rfl, rfl⟩)⟩) (zcons (⟨_, rfl, by decide, zmemT 58 rfl rfl, Or.inr (Or.inl ⟨rfl, rfl, rfl⟩)⟩) (zcons (⟨_, rfl, by decide, zmemT 59 rfl rfl, Or.inl ⟨rfl, rfl⟩⟩) (znil))))))))))))), zcons (⟨_, rfl, zmemT 240 rfl rfl⟩) (zcons (⟨_, rfl, zmemT 229 rfl rfl⟩) (zcons (⟨_, rfl, zmemT 230 rfl rfl⟩) (zcons (⟨_, rfl, zmemT 233 rfl rfl⟩) (zcons (⟨_, rfl, zmemT 236 rfl rfl⟩) (zcons (⟨_, rfl, zmemT 247 rfl rfl⟩) (zcons (⟨_, rfl, zmemT 244 rfl rfl⟩) (zcons (⟨_, rfl, zmemT 251 rfl rfl⟩) (zcons (⟨_, rfl, zmemT 255 rfl rfl⟩) (zcons (⟨_, rfl, zmemT 320 rfl rfl⟩) (zcons (⟨_, rfl, zmemT 321 rfl rfl⟩) (zcons (⟨_, rfl, zmemT 515 rfl rfl⟩) (zcons (⟨_, rfl, zmemT 582 rfl rfl⟩) (zcons (⟨_, rfl, zmemT 594 rfl rfl⟩) (zcons (⟨_, rfl, zmemT 639 rfl rfl⟩) (znil))))))))))))))), znil, znil, zcons (zmemT 30 rfl rfl) (znil)⟩
def fRX3 : zFT := ([(9, 2, 0, 0), (15, 2, 1, 0), (18, 2, 2, 0), (21, 2, 3, 0), (24, 2, 4, 1), (28, 2, 5, 0)], [], [], [], [3])
set_option maxRecDepth 100000 in
theorem gRX3 : zFTok RX3 fRX3 := ⟨zcons (⟨_, rfl, by decide, zmemT 167 rfl rfl, Or.inl ⟨rfl, rfl⟩⟩) (zcons (⟨_, rfl, by decide, zmemT 169 rfl rfl, Or.inl ⟨rfl, rfl⟩⟩) (zcons (⟨_, rfl, by decide, zmemT 171 rfl rfl, Or.inl ⟨rfl, rfl⟩⟩) (zcons (⟨_, rfl, by decide, zmemT 172 rfl rfl, Or.inl ⟨rfl, rfl⟩⟩) (zcons (⟨_, rfl, by decide, zmemT 173 rfl rfl, Or.inr (Or.inl ⟨rfl, rfl, rfl⟩)⟩) (zcons (⟨_, rfl, by decide, zmemT 175 rfl rfl, Or.inl ⟨rfl, rfl⟩⟩) (znil)))))), znil, znil, znil, zcons (zmemT 166 rfl rfl) (znil)⟩
def fRX4 : zFT := ([(9, 3, 0, 1), (15, 3, 1, 0), (19, 3, 2, 0), (22, 3, 3, 0), (26, 1, 0, 2), (57, 1, 2, 2), (60, 1, 3, 2), (67, 1, 1, 2)], [(31, 20), (37, 58), (41, 54), (45, 24), (49, 62), (53, 59), (63, 60), (70, 61), (73, 22)], [], [], [3])
set_option maxRecDepth 100000 in
theorem gRX4 : zFTok RX4 fRX4 := ⟨zcons (⟨_, rfl, by decide, zmemT 95 rfl rfl, Or.inr (Or.inl ⟨rfl, rfl, rfl⟩)⟩) (zcons (⟨_, rfl, by decide, zmemT 97 rfl rfl, Or.inl ⟨rfl, rfl⟩⟩) (zcons (⟨_, rfl, by decide, zmemT 99 rfl rfl, Or.inl ⟨rfl, rfl⟩⟩) (zcons (⟨_, rfl, by decide, zmemT 100 rfl rfl, Or.inl ⟨rfl, rfl⟩⟩) (zcons (⟨_, rfl, by decide, zmemT 32 rfl rfl, Or.inr (Or.inr rfl)⟩) (zcons (⟨_, rfl, by decide, zmemT 41 rfl rfl, Or.inr (Or.inr rfl)⟩) (zcons (⟨_, rfl, by decide, zmemT 45 rfl rfl, Or.inr (Or.inr rfl)⟩) (zcons (⟨_, rfl, by decide, zmemT 37 rfl rfl, Or.inr (Or.inr rfl)⟩) (znil)))))))), zcons (⟨_, rfl, zmemT 341 rfl rfl⟩) (zcons (⟨_, rfl, zmemT 342 rfl rfl⟩) (zcons (⟨_, rfl, zmemT 386 rfl rfl⟩) (zcons (⟨_, rfl, zmemT 346 rfl rfl⟩) (zcons (⟨_, rfl, zmemT 347 rfl rfl⟩) (zcons (⟨_, rfl, zmemT 351 rfl rfl⟩) (zcons (⟨_, rfl, zmemT 355 rfl rfl⟩) (zcons (⟨_, rfl, zmemT 366 rfl rfl⟩) (zcons (⟨_, rfl, zmemT 359 rfl rfl⟩) (znil))))))))), znil, znil, zcons (zmemT 94 rfl rfl) (znil)⟩
def fRX5 : zFT := ([(9, 4, 0, 1), (15, 4, 1, 1), (18, 4, 2, 0), (22, 4, 3, 0)], [(26, 66), (30, 27), (36, 204), (41, 73), (45, 68)], [], [], [3])
set_option maxRecDepth 100000 in
theorem gRX5 : zFTok RX5 fRX5 := ⟨zcons (⟨_, rfl, by decide, zmemT 146 rfl rfl, Or.inr (Or.inl ⟨rfl, rfl, rfl⟩)⟩) (zcons (⟨_, rfl, by decide, zmemT 147 rfl rfl, Or.inr (Or.inl ⟨rfl, rfl, rfl⟩)⟩) (zcons (⟨_, rfl, by decide, zmemT 148 rfl rfl, Or.inl ⟨rfl, rfl⟩⟩) (zcons (⟨_, rfl, by decide, zmemT 149 rfl rfl, Or.inl ⟨rfl, rfl⟩⟩) (znil)))), zcons (⟨_, rfl, zmemT 552 rfl rfl⟩) (zcons (⟨_, rfl, zmemT 547 rfl rfl⟩) (zcons (⟨_, rfl, zmemT 781 rfl rfl⟩) (zcons (⟨_, rfl, zmemT 565 rfl rfl⟩) (zcons (⟨_, rfl, zmemT 569 rfl rfl⟩) (znil))))), znil, znil, zcons (zmemT 145 rfl rfl) (znil)⟩
def fRX6 : zFT := ([(10, 5, 0, 1), (16, 5, 1, 1), (22, 5, 2, 1), (26, 5, 3, 1), (32, 5, 4, 1), (39, 5, 5, 1), (45, 5, 6, 1), (50, 5, 7, 1), (54, 5, 8, 0), (82, 1, 12, 0), (96, 1, 0, 2), (99, 1, 1, 2), (105, 1, 2, 2), (108, 1, 3, 2), (111, 1, 4, 2), (114, 1, 5, 2), (141, 3, 1, 0), (144, 3, 0, 2), (157, 0, 1, 0), (165, 0, 0, 2), (195, 1, 7, 2), (219, 4, 3, 0), (274, 2, 4, 2), (275, 2, 0, 0), (290, 2, 1, 0)], [(9, 23), (21, 53), (31, 0), (38, 63), (49, 45), (58, 25), (62, 28), (66, 24), (70, 18), (75, 110), (78, 26), (85, 64), (88, 65), (92, 21), (102, 114), (117, 35), (121, 34), (124, 36), (128, 111), (131, 20), (134, 55), (138, 54), (147, 57), (151, 19), (154, 115), (158, 1), (162, 116), (166, 112), (176, 117), (180, 10), (188, 14), (192, 38), (198, 56), (202, 67), (205, 69), (208, 70), (212, 68), (216, 66), (227, 71), (230, 72), (233, 39), (236, 40), (239, 202), (244, 113), (247, 46), (250, 49), (254, 118), (258, 48), (264, 50), (269, 51), (284, 119), (287, 52), (293, 2), (299, 205), (305, 47), (309, 41)], [], [(184, -1), (186, -2), (297, 1000000000000000)], [1])
set_option maxRecDepth 100000 in
theorem gRX6 : zFTok RX6 fRX6 := ⟨zcons (⟨_, rfl, by decide, zmemT 189 rfl rfl, Or.inr (Or.inl ⟨rfl, rfl, rfl⟩)⟩) (zcons (⟨_, rfl, by decide, zmemT 190 rfl rfl, Or.inr (Or.inl ⟨rfl, rfl, rfl⟩)⟩) (zcons (⟨_, rfl, by decide, zmemT 191 rfl rfl, Or.inr (Or.inl ⟨rfl, rfl, rfl⟩)⟩) (zcons (⟨_, rfl, by decide, zmemT 192 rfl rfl, Or.inr (Or.inl ⟨rfl, rfl, rfl⟩)⟩) (zcons (⟨_, rfl, by decide, zmemT 193 rfl rfl, Or.inr (Or.inl ⟨rfl, rfl, rfl⟩)⟩) (zcons (⟨_, rfl, by decide, zmemT 194 rfl rfl, Or.inr (Or.inl ⟨rfl, rfl, rfl⟩)⟩) (zcons (⟨_, rfl, by decide, zmemT 195 rfl rfl, Or.inr (Or.inl ⟨rfl, rfl, rfl⟩)⟩) (zcons (⟨_, rfl, by decide, zmemT 196 rfl rfl, Or.inr (Or.inl ⟨rfl, rfl, rfl⟩)⟩) (zcons (⟨_, rfl, by decide, zmemT 197 rfl rfl, Or.inl ⟨rfl, rfl⟩⟩) (zcons (⟨_, rfl, by decide, zmemT 60 rfl rfl, Or.inl ⟨rfl, rfl⟩⟩) (zcons (⟨_, rfl, by decide, zmemT 33 rfl rfl, Or.inr (Or.inr rfl)⟩) (zcons (⟨_, rfl, by decide, zmemT 36 rfl rfl, Or.inr (Or.inr rfl)⟩) (zcons (⟨_, rfl, by decide, zmemT 40 rfl rfl, Or.inr (Or.inr rfl)⟩) (zcons (⟨_, rfl, by decide, zmemT 44 rfl rfl, Or.inr (Or.inr rfl)⟩) (zcons (⟨_, rfl, by decide, zmemT 48 rfl rfl, Or.inr (Or.inr rfl)⟩) (zcons (⟨_, rfl, by decide, zmemT 50 rfl rfl, Or.inr (Or.inr rfl)⟩) (zcons (⟨_, rfl, by decide, zmemT 98 rfl rfl, Or.inl ⟨rfl, rfl⟩⟩) (zcons (⟨_, rfl, by decide, zmemT 96 rfl rfl, Or.inr (Or.inr rfl)⟩) (zcons (⟨_, rfl, by decide, zmemT 121 rfl rfl, Or.inl ⟨rfl, rfl⟩⟩) (zcons (⟨_, rfl, by decide, zmemT 119 rfl rfl, Or.inr (Or.inr rfl)⟩) (zcons (⟨_, rfl, by decide, zmemT 54 rfl rfl, Or.inr (Or.inr rfl)⟩) (zcons (⟨_, rfl, by decide, zmemT 150 rfl rfl, Or.inl ⟨rfl, rfl⟩⟩) (zcons (⟨_, rfl, by decide, zmemT 174 rfl rfl, Or.inr (Or.inr rfl)⟩) (zcons (⟨_, rfl, by decide, zmemT 168 rfl rfl, Or.inl ⟨rfl, rfl⟩⟩) (zcons (⟨_, rfl, by decide, zmemT 170 rfl rfl, Or.inl ⟨rfl, rfl⟩⟩) (znil))))))))))))))))))))))))), zcons (⟨_, rfl, zmemT 27 rfl rfl⟩) (zcons (⟨_, rfl, zmemT 91 rfl rfl⟩) (zcons (⟨_, rfl, zmemT 112 rfl rfl⟩) (zcons (⟨_, rfl, zmemT 142 rfl rfl⟩) (zcons (⟨_, rfl, zmemT 163 rfl rfl⟩) (zcons (⟨_, rfl, zmemT 221 rfl rfl⟩) (zcons (⟨_, rfl, zmemT 225 rfl rfl⟩) (zcons (⟨_, rfl, zmemT 263 rfl rfl⟩) (zcons (⟨_, rfl, zmemT 264 rfl rfl⟩) (zcons (⟨_, rfl, zmemT 267 rfl rfl⟩) (zcons (⟨_, rfl, zmemT 270 rfl rfl⟩) (zcons (⟨_, rfl, zmemT 278 rfl rfl⟩) (zcons (⟨_, rfl, zmemT 282 rfl rfl⟩) (zcons (⟨_, rfl, zmemT 290 rfl rfl⟩) (zcons (⟨_, rfl, zmemT 297 rfl rfl⟩) (zcons (⟨_, rfl, zmemT 300 rfl rfl⟩) (zcons (⟨_, rfl, zmemT 308 rfl rfl⟩) (zcons (⟨_, rfl, zmemT 316 rfl rfl⟩) (zcons (⟨_, rfl, zmemT 329 rfl rfl⟩) (zcons (⟨_, rfl, zmemT 332 rfl rfl⟩) (zcons (⟨_, rfl, zmemT 337 rfl rfl⟩) (zcons (⟨_, rfl, zmemT 370 rfl rfl⟩) (zcons (⟨_, rfl, zmemT 382 rfl rfl⟩) (zcons (⟨_, rfl, zmemT 391 rfl rfl⟩) (zcons (⟨_, rfl, zmemT 396 rfl rfl⟩) (zcons (⟨_, rfl, zmemT 399 rfl rfl⟩) (zcons (⟨_, rfl, zmemT 407 rfl rfl⟩) (zcons (⟨_, rfl, zmemT 423 rfl rfl⟩) (zcons (⟨_, rfl, zmemT 426 rfl rfl⟩) (zcons (⟨_, rfl, zmemT 466 rfl rfl⟩) (zcons (⟨_, rfl, zmemT 489 rfl rfl⟩) (zcons (⟨_, rfl, zmemT 511 rfl rfl⟩) (zcons (⟨_, rfl, zmemT 523 rfl rfl⟩) (zcons (⟨_, rfl, zmemT 531 rfl rfl⟩) (zcons (⟨_, rfl, zmemT 539 rfl rfl⟩) (zcons (⟨_, rfl, zmemT 543 rfl rfl⟩) (zcons (⟨_, rfl, zmemT 548 rfl rfl⟩) (zcons (⟨_, rfl, zmemT 556 rfl rfl⟩) (zcons (⟨_, rfl, zmemT 777 rfl rfl⟩) (zcons (⟨_, rfl, zmemT 561 rfl rfl⟩) (zcons (⟨_, rfl, zmemT 578 rfl rfl⟩) (zcons (⟨_, rfl, zmemT 590 rfl rfl⟩) (zcons (⟨_, rfl, zmemT 602 rfl rfl⟩) (zcons (⟨_, rfl, zmemT 612 rfl rfl⟩) (zcons (⟨_, rfl, zmemT 615 rfl rfl⟩) (zcons (⟨_, rfl, zmemT 619 rfl rfl⟩) (zcons (⟨_, rfl, zmemT 623 rfl rfl⟩) (zcons (⟨_, rfl, zmemT 631 rfl rfl⟩) (zcons (⟨_, rfl, zmemT 651 rfl rfl⟩) (zcons (⟨_, rfl, zmemT 655 rfl rfl⟩) (zcons (⟨_, rfl, zmemT 666 rfl rfl⟩) (zcons (⟨_, rfl, zmemT 670 rfl rfl⟩) (zcons (⟨_, rfl, zmemT 430 rfl rfl⟩) (zcons (⟨_, rfl, zmemT 463 rfl rfl⟩) (zcons (⟨_, rfl, zmemT 627 rfl rfl⟩) (zcons (⟨_, rfl, zmemT 635 rfl rfl⟩) (znil)))))))))))))))))))))))))))))))))))))))))))))))))))))))), znil, zcons (zmemT 487 rfl rfl) (zcons (zmemT 488 rfl rfl) (zcons (zmemT 462 rfl rfl) (znil))), zcons (zmemT 22 rfl rfl) (znil)⟩
def fRX7 : zFT := ([(7, 6, 1, 1), (13, 6, 2, 1), (16, 6, 3, 1), (19, 6, 4, 1), (22, 6, 5, 1), (25, 6, 6, 1), (28, 6, 7, 1), (32, 6, 8, 1), (35, 6, 9, 1), (38, 6, 11, 1), (41, 6, 12, 1), (44, 6, 13, 1), (47, 6, 14, 1), (50, 6, 15, 1), (53, 6, 17, 1), (56, 6, 19, 0), (60, 6, 22, 1), (63, 6, 24, 1), (66, 6, 25, 1), (69, 6, 26, 1), (73, 6, 27, 1), (76, 6, 31, 1), (79, 6, 32, 1), (82, 6, 16, 0), (85, 6, 0, 0), (111, 6, 30, 0), (144, 6, 18, 0), (147, 6, 20, 0), (150, 6, 21, 0), (167, 6, 23, 0), (184, 6, 10, 0), (192, 6, 28, 0), (226, 6, 29, 0), (267, 6, 33, 0), (292, 6, 34, 0)], [(88, 121), (98, 126), (104, 122), (108, 123), (115, 131), (120, 133), (124, 135), (128, 125), (131, 124), (134, 138), (138, 139), (141, 140), (153, 142), (156, 141), (160, 143), (164, 144), (170, 148), (176, 149), (179, 150), (187, 154), (199, 160), (202, 157), (206, 158), (209, 159), (213, 161), (217, 162), (222, 163), (229, 165), (233, 166), (237, 167), (241, 169), (246, 171), (249, 172), (252, 170), (257, 175), (260, 176), (263, 178), (272, 180), (275, 184), (279, 187), (282, 186), (285, 188), (288, 191), (295, 194), (298, 193), (301, 199)], [], [(92, 7), (94, 9), (96, 9999), (102, 2), (118, 6), (174, 4), (182, 5), (190, 1000000000000000), (195, 10), (197, 19), (220, 8), (244, -1), (255, -2), (270, 3)], [1])
set_option maxRecDepth 100000 in
theorem gRX7 : zFTok RX7 fRX7 := ⟨zcons (⟨_, rfl, by decide, zmemT 801 rfl rfl, Or.inr (Or.inl ⟨rfl, rfl, rfl⟩)⟩) (zcons (⟨_, rfl, by decide, zmemT 802 rfl rfl, Or.inr (Or.inl ⟨rfl, rfl, rfl⟩)⟩) (zcons (⟨_, rfl, by decide, zmemT 803 rfl rfl, Or.inr (Or.inl ⟨rfl, rfl, rfl⟩)⟩) (zcons (⟨_, rfl, by decide, zmemT 804 rfl rfl, Or.inr (Or.inl ⟨rfl, rfl, rfl⟩)⟩) (zcons (⟨_, rfl, by decide, zmemT 805 rfl rfl, Or.inr (Or.inl ⟨rfl, rfl, rfl⟩)⟩) (zcons (⟨_, rfl, by decide, zmemT 806 rfl rfl, Or.inr (Or.inl ⟨rfl, rfl, rfl⟩)⟩) (zcons (⟨_, rfl, by decide, zmemT 807 rfl rfl, Or.inr (Or.inl ⟨rfl, rfl, rfl⟩)⟩) (zcons (⟨_, rfl, by decide, zmemT 808 rfl rfl, Or.inr (Or.inl ⟨rfl, rfl, rfl⟩)⟩) (zcons (⟨_, rfl, by decide, zmemT 809 rfl rfl, Or.inr (Or.inl ⟨rfl, rfl, rfl⟩)⟩) (zcons (⟨_, rfl, by decide, zmemT 811 rfl rfl, Or.inr (Or.inl ⟨rfl, rfl, rfl⟩)⟩) (zcons (⟨_, rfl, by decide, zmemT 812 rfl rfl, Or.inr (Or.inl ⟨rfl, rfl, rfl⟩)⟩) (zcons (⟨_, rfl, by decide, zmemT 813 rfl rfl, Or.inr (Or.inl ⟨rfl, rfl, rfl⟩)⟩) (zcons (⟨_, rfl, by decide, zmemT 814 rfl rfl, Or.inr (Or.inl ⟨rfl, rfl, rfl⟩)⟩) (zcons (⟨_, rfl, by decide, zmemT 815 rfl rfl, Or.inr (Or.inl ⟨rfl, rfl, rfl⟩)⟩) (zcons (⟨_, rfl, by decide, zmemT 817 rfl rfl, Or.inr (Or.inl ⟨rfl, rfl, rfl⟩)⟩) (zcons (⟨_, rfl, by decide, zmemT 819 rfl rfl, Or.inl ⟨rfl, rfl⟩⟩) (zcons (⟨_, rfl, by decide, zmemT 822 rfl rfl, Or.inr (Or.inl ⟨rfl, rfl, rfl⟩)⟩) (zcons (⟨_, rfl, by decide, zmemT 824 rfl rfl, Or.inr (Or.inl ⟨rfl, rfl, rfl⟩)⟩) (zcons (⟨_, rfl, by decide, zmemT 825 rfl rfl, Or.inr (Or.inl ⟨rfl, rfl, rfl⟩)⟩) (zcons (⟨_, rfl, by decide, zmemT 826 rfl rfl, Or.inr (Or.inl ⟨rfl, rfl, rfl⟩)⟩) (zcons (⟨_, rfl, by decide, zmemT 827 rfl rfl, Or.inr (Or.inl ⟨rfl, rfl, rfl⟩)⟩) (zcons (⟨_, rfl, by decide, zmemT 831 rfl rfl, Or.inr (Or.inl ⟨rfl, rfl, rfl⟩)⟩) (zcons (⟨_, rfl, by decide, zmemT 832 rfl rfl, Or.inr (Or.inl ⟨rfl, rfl, rfl⟩)⟩) (zcons (⟨_, rfl, by decide, zmemT 816 rfl rfl, Or.inl ⟨rfl, rfl⟩⟩) (zcons (⟨_, rfl, by decide, zmemT 800 rfl rfl, Or.inl ⟨rfl, rfl⟩⟩) (zcons (⟨_, rfl, by decide, zmemT 830 rfl rfl, Or.inl ⟨rfl, rfl⟩⟩) (zcons (⟨_, rfl, by decide, zmemT 818 rfl rfl, Or.inl ⟨rfl, rfl⟩⟩) (zcons (⟨_, rfl, by decide, zmemT 820 rfl rfl, Or.inl ⟨rfl, rfl⟩⟩) (zcons (⟨_, rfl, by decide, zmemT 821 rfl rfl, Or.inl ⟨rfl, rfl⟩⟩) (zcons (⟨_, rfl, by decide, zmemT 823 rfl rfl, Or.inl ⟨rfl, rfl⟩⟩) (zcons (⟨_, rfl, by decide, zmemT 810 rfl rfl, Or.inl ⟨rfl, rfl⟩⟩) (zcons (⟨_, rfl, by decide, zmemT 828 rfl rfl, Or.inl ⟨rfl, rfl⟩⟩) (zcons (⟨_, rfl, by decide, zmemT 829 rfl rfl, Or.inl ⟨rfl, rfl⟩⟩) (zcons (⟨_, rfl, by decide, zmemT 833 rfl rfl, Or.inl ⟨rfl, rfl⟩⟩) (zcons (⟨_, rfl, by decide, zmemT 834 rfl rfl, Or.inl ⟨rfl, rfl⟩⟩) (znil))))))))))))))))))))))))))))))))))), zcons (⟨_, rfl, zmemT 911 rfl rfl⟩) (zcons (⟨_, rfl, zmemT 916 rfl rfl⟩) (zcons (⟨_, rfl, zmemT 925 rfl rfl⟩) (zcons (⟨_, rfl, zmemT 929 rfl rfl⟩) (zcons (⟨_, rfl, zmemT 945 rfl rfl⟩) (zcons (⟨_, rfl, zmemT 953 rfl rfl⟩) (zcons (⟨_, rfl, zmemT 961 rfl rfl⟩) (zcons (⟨_, rfl, zmemT 969 rfl rfl⟩) (zcons (⟨_, rfl, zmemT 973 rfl rfl⟩) (zcons (⟨_, rfl, zmemT 988 rfl rfl⟩) (zcons (⟨_, rfl, zmemT 984 rfl rfl⟩) (zcons (⟨_, rfl, zmemT 980 rfl rfl⟩) (zcons (⟨_, rfl, zmemT 1003 rfl rfl⟩) (zcons (⟨_, rfl, zmemT 1007 rfl rfl⟩) (zcons (⟨_, rfl, zmemT 999 rfl rfl⟩) (zcons (⟨_, rfl, zmemT 995 rfl rfl⟩) (zcons (⟨_, rfl, zmemT 1020 rfl rfl⟩) (zcons (⟨_, rfl, zmemT 1024 rfl rfl⟩) (zcons (⟨_, rfl, zmemT 1028 rfl rfl⟩) (zcons (⟨_, rfl, zmemT 1041 rfl rfl⟩) (zcons (⟨_, rfl, zmemT 1074 rfl rfl⟩) (zcons (⟨_, rfl, zmemT 1080 rfl rfl⟩) (zcons (⟨_, rfl, zmemT 1084 rfl rfl⟩) (zcons (⟨_, rfl, zmemT 1066 rfl rfl⟩) (zcons (⟨_, rfl, zmemT 1070 rfl rfl⟩) (zcons (⟨_, rfl, zmemT 1062 rfl rfl⟩) (zcons (⟨_, rfl, zmemT 1058 rfl rfl⟩) (zcons (⟨_, rfl, zmemT 1095 rfl rfl⟩) (zcons (⟨_, rfl, zmemT 1091 rfl rfl⟩) (zcons (⟨_, rfl, zmemT 1099 rfl rfl⟩) (zcons (⟨_, rfl, zmemT 1103 rfl rfl⟩) (zcons (⟨_, rfl, zmemT 1117 rfl rfl⟩) (zcons (⟨_, rfl, zmemT 1121 rfl rfl⟩) (zcons (⟨_, rfl, zmemT 1113 rfl rfl⟩) (zcons (⟨_, rfl, zmemT 1133 rfl rfl⟩) (zcons (⟨_, rfl, zmemT 1137 rfl rfl⟩) (zcons (⟨_, rfl, zmemT 1140 rfl rfl⟩) (zcons (⟨_, rfl, zmemT 1153 rfl rfl⟩) (zcons (⟨_, rfl, zmemT 1169 rfl rfl⟩) (zcons (⟨_, rfl, zmemT 1177 rfl rfl⟩) (zcons (⟨_, rfl, zmemT 1181 rfl rfl⟩) (zcons (⟨_, rfl, zmemT 1189 rfl rfl⟩) (zcons (⟨_, rfl, zmemT 1197 rfl rfl⟩) (zcons (⟨_, rfl, zmemT 1208 rfl rfl⟩) (zcons (⟨_, rfl, zmemT 1205 rfl rfl⟩) (zcons (⟨_, rfl, zmemT 1228 rfl rfl⟩) (znil)))))))))))))))))))))))))))))))))))))))))))))), znil, zcons (zmemT 972 rfl rfl) (zcons (zmemT 914 rfl rfl) (zcons (zmemT 915 rfl rfl) (zcons (zmemT 924 rfl rfl) (zcons (zmemT 944 rfl rfl) (zcons (zmemT 1019 rfl rfl) (zcons (zmemT 1036 rfl rfl) (zcons (zmemT 1083 rfl rfl) (zcons (zmemT 1078 rfl rfl) (zcons (zmemT 1079 rfl rfl) (zcons (zmemT 1057 rfl rfl) (zcons (zmemT 1111 rfl rfl) (zcons (zmemT 1112 rfl rfl) (zcons (zmemT 1152 rfl rfl) (znil)))))))))))))), zcons (zmemT 799 rfl rfl) (znil)⟩
def fRJ6 : zFT := ([], [], [(265, 1431655765), (266, 858993459), (267, 252645135)], [], [])
set_option maxRecDepth 100000 in
theorem gRJ6 : zFTok RJ6 fRJ6 := ⟨znil, znil, zcons (zmemT 605 rfl rfl) (zcons (zmemT 606 rfl rfl) (zcons (zmemT 607 rfl rfl) (znil))), znil, znil⟩
def fRJ9 : zFT := ([], [], [], [], [])
set_option maxRecDepth 100000 in
theorem gRJ9 : zFTok RJ9 fRJ9 := ⟨znil, znil, znil, znil, znil⟩
def fRL : zFT := ([], [(25, 74), (28, 120), (29, 75), (33, 127), (34, 76), (38, 128), (39, 77), (43, 129), (44, 78), (48, 130), (49, 79), (52, 132), (53, 80), (56, 134), (57, 81), (60, 136), (61, 82), (65, 137), (66, 83), (69, 145), (70, 84), (73, 146), (74, 85), (77, 147), (78, 86), (81, 151), (82, 87), (85, 152), (86, 88), (89, 153), (90, 89), (93, 155), (94, 90), (97, 156), (103, 164), (106, 92), (110, 168), (111, 93), (114, 173), (115, 94), (119, 174), (120, 95), (123, 177), (124, 96), (127, 179), (128, 97), (131, 181), (134, 182), (135, 99), (138, 183), (139, 100), (142, 185), (143, 101), (146, 189), (147, 102), (150, 190), (151, 103), (154, 192), (155, 104), (158, 195), (159, 105), (162, 196), (166, 197), (167, 107), (171, 198), (172, 108), (175, 200), (176, 109), (179, 201)], [], [(104, 4294967295)], [])
set_option maxRecDepth 100000 in
theorem gRL : zFTok RL fRL := ⟨znil, zcons (⟨_, rfl, zmemT 19 rfl rfl⟩) (zcons (⟨_, rfl, zmemT 796 rfl rfl⟩) (zcons (⟨_, rfl, zmemT 217 rfl rfl⟩) (zcons (⟨_, rfl, zmemT 907 rfl rfl⟩) (zcons (⟨_, rfl, zmemT 259 rfl rfl⟩) (zcons (⟨_, rfl, zmemT 920 rfl rfl⟩) (zcons (⟨_, rfl, zmemT 274 rfl rfl⟩) (zcons (⟨_, rfl, zmemT 932 rfl rfl⟩) (zcons (⟨_, rfl, zmemT 286 rfl rfl⟩) (zcons (⟨_, rfl, zmemT 936 rfl rfl⟩) (zcons (⟨_, rfl, zmemT 293 rfl rfl⟩) (zcons (⟨_, rfl, zmemT 940 rfl rfl⟩) (zcons (⟨_, rfl, zmemT 304 rfl rfl⟩) (zcons (⟨_, rfl, zmemT 949 rfl rfl⟩) (zcons (⟨_, rfl, zmemT 312 rfl rfl⟩) (zcons (⟨_, rfl, zmemT 957 rfl rfl⟩) (zcons (⟨_, rfl, zmemT 325 rfl rfl⟩) (zcons (⟨_, rfl, zmemT 965 rfl rfl⟩) (zcons (⟨_, rfl, zmemT 333 rfl rfl⟩) (zcons (⟨_, rfl, zmemT 976 rfl rfl⟩) (zcons (⟨_, rfl, zmemT 374 rfl rfl⟩) (zcons (⟨_, rfl, zmemT 991 rfl rfl⟩) (zcons (⟨_, rfl, zmemT 378 rfl rfl⟩) (zcons (⟨_, rfl, zmemT 1011 rfl rfl⟩) (zcons (⟨_, rfl, zmemT 387 rfl rfl⟩) (zcons (⟨_, rfl, zmemT 1015 rfl rfl⟩) (zcons (⟨_, rfl, zmemT 392 rfl rfl⟩) (zcons (⟨_, rfl, zmemT 1032 rfl rfl⟩) (zcons (⟨_, rfl, zmemT 403 rfl rfl⟩) (zcons (⟨_, rfl, zmemT 1037 rfl rfl⟩) (zcons (⟨_, rfl, zmemT 411 rfl rfl⟩) (zcons (⟨_, rfl, zmemT 1045 rfl rfl⟩) (zcons (⟨_, rfl, zmemT 415 rfl rfl⟩) (zcons (⟨_, rfl, zmemT 1049 rfl rfl⟩) (zcons (⟨_, rfl, zmemT 1053 rfl rfl⟩) (zcons (⟨_, rfl, zmemT 419 rfl rfl⟩) (zcons (⟨_, rfl, zmemT 1087 rfl rfl⟩) (zcons (⟨_, rfl, zmemT 483 rfl rfl⟩) (zcons (⟨_, rfl, zmemT 1107 rfl rfl⟩) (zcons (⟨_, rfl, zmemT 507 rfl rfl⟩) (zcons (⟨_, rfl, zmemT 1125 rfl rfl⟩) (zcons (⟨_, rfl, zmemT 519 rfl rfl⟩) (zcons (⟨_, rfl, zmemT 1129 rfl rfl⟩) (zcons (⟨_, rfl, zmemT 527 rfl rfl⟩) (zcons (⟨_, rfl, zmemT 1144 rfl rfl⟩) (zcons (⟨_, rfl, zmemT 535 rfl rfl⟩) (zcons (⟨_, rfl, zmemT 1148 rfl rfl⟩) (zcons (⟨_, rfl, zmemT 1157 rfl rfl⟩) (zcons (⟨_, rfl, zmemT 557 rfl rfl⟩) (zcons (⟨_, rfl, zmemT 1161 rfl rfl⟩) (zcons (⟨_, rfl, zmemT 570 rfl rfl⟩) (zcons (⟨_, rfl, zmemT 1165 rfl rfl⟩) (zcons (⟨_, rfl, zmemT 574 rfl rfl⟩) (zcons (⟨_, rfl, zmemT 1173 rfl rfl⟩) (zcons (⟨_, rfl, zmemT 586 rfl rfl⟩) (zcons (⟨_, rfl, zmemT 1185 rfl rfl⟩) (zcons (⟨_, rfl, zmemT 598 rfl rfl⟩) (zcons (⟨_, rfl, zmemT 1193 rfl rfl⟩) (zcons (⟨_, rfl, zmemT 608 rfl rfl⟩) (zcons (⟨_, rfl, zmemT 1201 rfl rfl⟩) (zcons (⟨_, rfl, zmemT 643 rfl rfl⟩) (zcons (⟨_, rfl, zmemT 1212 rfl rfl⟩) (zcons (⟨_, rfl, zmemT 1216 rfl rfl⟩) (zcons (⟨_, rfl, zmemT 647 rfl rfl⟩) (zcons (⟨_, rfl, zmemT 1220 rfl rfl⟩) (zcons (⟨_, rfl, zmemT 662 rfl rfl⟩) (zcons (⟨_, rfl, zmemT 1224 rfl rfl⟩) (zcons (⟨_, rfl, zmemT 674 rfl rfl⟩) (zcons (⟨_, rfl, zmemT 1232 rfl rfl⟩) (znil))))))))))))))))))))))))))))))))))))))))))))))))))))))))))))))))))))), znil, zcons (zmemT 1236 rfl rfl) (znil), znil⟩
end
section
def tX0_init : List zE := [(0, .aload_n 0, 1, 0, 0, 0), (1, .invokespecial 3, 4, 9999, 0, 0), (4, .aload_n 0, 5, 0, 0, 0), (5, .bipush 20, 7, 0, 0, 0), (7, .newarray .int, 9, 0, 0, 0), (9, .putfield 9, 12, 0, 0, 0), (12, .aload_n 0, 13, 0, 0, 0), (13, .iconst 0, 14, 0, 0, 0), (14, .putfield 15, 17, 0, 1, 0), (17, .aload_n 0, 18, 0, 0, 0), (18, .bipush 21, 20, 0, 0, 0), (20, .bipush 21, 22, 0, 0, 0), (22, .multianewarray 19 2, 26, 0, 0, 0), (26, .putfield 21, 29, 0, 2, 0), (29, .aload_n 0, 30, 0, 0, 0), (30, .iconst 0, 31, 0, 0, 0), (31, .putfield 24, 34, 0, 3, 0), (34, .aload_n 0, 35, 0, 0, 0), (35, .iconst 0, 36, 0, 0, 0), (36, .putfield 27, 39, 0, 4, 0), (39, .aload_n 0, 40, 0, 0, 0), (40, .iconst 0, 41, 0, 0, 0), (41, .putfield 30, 44, 0, 5, 0), (44, .return_, 45, 0, 0, 0)]
theorem oX0_init : ∀ e ∈ tX0_init, zgood fRX0 cX0_init 1 true e = true := by decide +kernel
def tX0_add : List zE := [(0, .aload_n 0, 1, 0, 0, 0), (1, .getfield 15, 4, 0, 1, 0), (4, .bipush 20, 6, 0, 0, 0), (6, .if_icmp .ge 23, 9, 29, 0, 0), (9, .aload_n 0, 10, 0, 0, 0), (10, .getfield 9, 13, 0, 0, 0), (13, .aload_n 0, 14, 0, 0, 0), (14, .getfield 15, 17, 0, 1, 0), (17, .iload_n 1, 18, 0, 0, 0), (18, .iastore, 19, 0, 0, 0), (19, .aload_n 0, 20, 0, 0, 0), (20, .dup, 21, 0, 0, 0), (21, .getfield 15, 24, 0, 1, 0), (24, .iconst 1, 25, 0, 0, 0), (25, .iadd, 26, 0, 0, 0), (26, .putfield 15, 29, 0, 1, 0), (29, .return_, 30, 0, 0, 0)]
theorem oX0_add : ∀ e ∈ tX0_add, zgood fRX0 cX0_add 2 false e = true := by decide +kernel
def tX0_tally_0 : List zE := [(0, .aload_n 0, 1, 0, 0, 0), (1, .iload_n 1, 2, 0, 0, 0), (2, .putfield 24, 5, 0, 3, 0), (5, .aload_n 0, 6, 0, 0, 0), (6, .iload_n 2, 7, 0, 0, 0), (7, .putfield 27, 10, 0, 4, 0), (10, .aload_n 0, 11, 0, 0, 0), (11, .iload_n 3, 12, 0, 0, 0), (12, .putfield 30, 15, 0, 5, 0), (15, .iconst 1, 16, 0, 0, 0), (16, .istore 4, 18, 0, 0, 0), (18, .iload 4, 20, 0, 0, 0), (20, .aload_n 0, 21, 0, 0, 0), (21, .getfield 15, 24, 0, 1, 0), (24, .if_icmp .gt 57, 27, 81, 0, 0), (27, .iconst 0, 28, 0, 0, 0), (28, .istore 5, 30, 0, 0, 0), (30, .iload 5, 32, 0, 0, 0), (32, .iload 4, 34, 0, 0, 0), (34, .iadd, 35, 0, 0, 0), (35, .aload_n 0, 36, 0, 0, 0), (36, .getfield 15, 39, 0, 1, 0), (39, .if_icmp .gt 36, 42, 75, 0, 0), (42, .aload_n 0, 43, 0, 0, 0), (43, .getfield 21, 46, 0, 2, 0), (46, .iload 5, 48, 0, 0, 0), (48, .aaload, 49, 0, 0, 0), (49, .iload 5, 51, 0, 0, 0), (51, .iload 4, 53, 0, 0, 0), (53, .iadd, 54, 0, 0, 0), (54, .aload_n 0, 55, 0, 0, 0), (55, .iload 5, 57, 0, 0, 0), (57, .iload 5, 59, 0, 0, 0), (59, .iload 4, 61, 0, 0, 0), (61, .iadd, 62, 0, 0, 0), (62, .sipush 1023, 65, 0, 0, 0), (65, .invokevirtual 33, 68, 3, 3, 0), (68, .lastore, 69, 0, 0, 0), (69, .iinc 5 1, 72, 0, 0, 0), (72, .goto (-42), 75, 30, 0, 0), (75, .iinc 4 1, 78, 0, 0, 0), (78, .goto (-60), 81, 18, 0, 0), (81, .aload_n 0, 82, 0, 0, 0), (82, .getfield 15, 85, 0, 1, 0), (85, .ifCond .ne 7, 88, 92, 0, 0), (88, .lconst 0, 89, 0, 0, 0), (89, .goto 14, 92, 103, 0, 0), (92, .aload_n 0, 93, 0, 0, 0), (93, .getfield 21, 96, 0, 2, 0), (96, .iconst 0, 97, 0, 0, 0)]
theorem oX0_tally_0 : ∀ e ∈ tX0_tally_0, zgood fRX0 cX0_tally 6 false e = true := by decide +kernel
def tX0_tally_1 : List zE := [(97, .aaload, 98, 0, 0, 0), (98, .aload_n 0, 99, 0, 0, 0), (99, .getfield 15, 102, 0, 1, 0), (102, .laload, 103, 0, 0, 0), (103, .lreturn, 104, 0, 0, 0)]
theorem oX0_tally_1 : ∀ e ∈ tX0_tally_1, zgood fRX0 cX0_tally 6 false e = true := by decide +kernel
def tX0_tally : List zE := tX0_tally_0 ++ (tX0_tally_1)
theorem oX0_tally : ∀ e ∈ tX0_tally, zgood fRX0 cX0_tally 6 false e = true := (zapp oX0_tally_0 oX0_tally_1)
def tX0_waysOf : List zE := [(0, .aload_n 0, 1, 0, 0, 0), (1, .iload_n 1, 2, 0, 0, 0), (2, .iload_n 2, 3, 0, 0, 0), (3, .iload_n 3, 4, 0, 0, 0), (4, .aload_n 0, 5, 0, 0, 0), (5, .getfield 24, 8, 0, 3, 0), (8, .iand, 9, 0, 0, 0), (9, .invokevirtual 37, 12, 5, 3, 0), (12, .lstore 4, 14, 0, 0, 0), (14, .aload_n 0, 15, 0, 0, 0), (15, .iload_n 1, 16, 0, 0, 0), (16, .iload_n 2, 17, 0, 0, 0), (17, .invokevirtual 40, 20, 4, 2, 0), (20, .ifCond .eq 25, 23, 45, 0, 0), (23, .lload 4, 25, 0, 0, 0), (25, .aload_n 0, 26, 0, 0, 0), (26, .iload_n 1, 27, 0, 0, 0), (27, .iconst 1, 28, 0, 0, 0), (28, .iadd, 29, 0, 0, 0), (29, .iload_n 2, 30, 0, 0, 0), (30, .iconst 1, 31, 0, 0, 0), (31, .isub, 32, 0, 0, 0), (32, .iload_n 3, 33, 0, 0, 0), (33, .aload_n 0, 34, 0, 0, 0), (34, .getfield 27, 37, 0, 4, 0), (37, .iand, 38, 0, 0, 0), (38, .invokevirtual 37, 41, 5, 3, 0), (41, .ladd, 42, 0, 0, 0), (42, .goto 5, 45, 47, 0, 0), (45, .lload 4, 47, 0, 0, 0), (47, .lreturn, 48, 0, 0, 0)]
theorem oX0_waysOf : ∀ e ∈ tX0_waysOf, zgood fRX0 cX0_waysOf 6 false e = true := by decide +kernel
def tX0_isBracketed : List zE := [(0, .iload_n 2, 1, 0, 0, 0), (1, .iload_n 1, 2, 0, 0, 0), (2, .isub, 3, 0, 0, 0), (3, .iconst 2, 4, 0, 0, 0), (4, .if_icmp .le 31, 7, 35, 0, 0), (7, .aload_n 0, 8, 0, 0, 0), (8, .getfield 9, 11, 0, 0, 0), (11, .iload_n 1, 12, 0, 0, 0), (12, .iaload, 13, 0, 0, 0), (13, .bipush 29, 15, 0, 0, 0), (15, .if_icmp .ne 20, 18, 35, 0, 0), (18, .aload_n 0, 19, 0, 0, 0), (19, .getfield 9, 22, 0, 0, 0), (22, .iload_n 2, 23, 0, 0, 0), (23, .iconst 1, 24, 0, 0, 0), (24, .isub, 25, 0, 0, 0), (25, .iaload, 26, 0, 0, 0), (26, .bipush 30, 28, 0, 0, 0), (28, .if_icmp .ne 7, 31, 35, 0, 0), (31, .iconst 1, 32, 0, 0, 0), (32, .goto 4, 35, 36, 0, 0), (35, .iconst 0, 36, 0, 0, 0), (36, .ireturn, 37, 0, 0, 0)]
theorem oX0_isBracketed : ∀ e ∈ tX0_isBracketed, zgood fRX0 cX0_isBracketed 3 false e = true := by decide +kernel
def tX0_bareWays_0 : List zE := [(0, .iload_n 1, 1, 0, 0, 0), (1, .iload_n 2, 2, 0, 0, 0), (2, .if_icmp .ge 7, 5, 9, 0, 0), (5, .iload_n 3, 6, 0, 0, 0), (6, .ifCond .ne 5, 9, 11, 0, 0), (9, .lconst 0, 10, 0, 0, 0), (10, .lreturn, 11, 0, 0, 0), (11, .lconst 0, 12, 0, 0, 0), (12, .lstore 4, 14, 0, 0, 0), (14, .iload_n 1, 15, 0, 0, 0), (15, .iconst 1, 16, 0, 0, 0), (16, .iadd, 17, 0, 0, 0), (17, .istore 6, 19, 0, 0, 0), (19, .iload 6, 21, 0, 0, 0), (21, .iload_n 2, 22, 0, 0, 0), (22, .iconst 1, 23, 0, 0, 0), (23, .isub, 24, 0, 0, 0), (24, .if_icmp .ge 64, 27, 88, 0, 0), (27, .aload_n 0, 28, 0, 0, 0), (28, .getfield 9, 31, 0, 0, 0), (31, .iload 6, 33, 0, 0, 0), (33, .iaload, 34, 0, 0, 0), (34, .bipush 18, 36, 0, 0, 0), (36, .isub, 37, 0, 0, 0), (37, .istore 7, 39, 0, 0, 0), (39, .iload 7, 41, 0, 0, 0), (41, .invokestatic 44, 44, 18, 1, 0), (44, .ifCond .eq 38, 47, 82, 0, 0), (47, .iload_n 3, 48, 0, 0, 0), (48, .iload 7, 50, 0, 0, 0), (50, .invokestatic 50, 53, 20, 2, 0), (53, .ifCond .eq 29, 56, 82, 0, 0), (56, .lload 4, 58, 0, 0, 0), (58, .aload_n 0, 59, 0, 0, 0), (59, .getfield 21, 62, 0, 2, 0), (62, .iload_n 1, 63, 0, 0, 0), (63, .aaload, 64, 0, 0, 0), (64, .iload 6, 66, 0, 0, 0), (66, .laload, 67, 0, 0, 0), (67, .aload_n 0, 68, 0, 0, 0), (68, .getfield 21, 71, 0, 2, 0), (71, .iload 6, 73, 0, 0, 0), (73, .iconst 1, 74, 0, 0, 0), (74, .iadd, 75, 0, 0, 0), (75, .aaload, 76, 0, 0, 0), (76, .iload_n 2, 77, 0, 0, 0), (77, .laload, 78, 0, 0, 0), (78, .lmul, 79, 0, 0, 0), (79, .ladd, 80, 0, 0, 0), (80, .lstore 4, 82, 0, 0, 0)]
theorem oX0_bareWays_0 : ∀ e ∈ tX0_bareWays_0, zgood fRX0 cX0_bareWays 8 false e = true := by decide +kernel
def tX0_bareWays_1 : List zE := [(82, .iinc 6 1, 85, 0, 0, 0), (85, .goto (-66), 88, 19, 0, 0), (88, .aload_n 0, 89, 0, 0, 0), (89, .iload_n 1, 90, 0, 0, 0), (90, .iload_n 2, 91, 0, 0, 0), (91, .invokevirtual 53, 94, 6, 2, 0), (94, .istore 6, 96, 0, 0, 0), (96, .iload 6, 98, 0, 0, 0), (98, .iconst (-1), 99, 0, 0, 0), (99, .if_icmp .eq 12, 102, 111, 0, 0), (102, .iload_n 3, 103, 0, 0, 0), (103, .iload 6, 105, 0, 0, 0), (105, .invokestatic 50, 108, 20, 2, 0), (108, .ifCond .ne 6, 111, 114, 0, 0), (111, .lload 4, 113, 0, 0, 0), (113, .lreturn, 114, 0, 0, 0), (114, .iload 6, 116, 0, 0, 0), (116, .iconst 1, 117, 0, 0, 0), (117, .if_icmp .gt 10, 120, 127, 0, 0), (120, .lload 4, 122, 0, 0, 0), (122, .lconst 1, 123, 0, 0, 0), (123, .ladd, 124, 0, 0, 0), (124, .goto 24, 127, 148, 0, 0), (127, .lload 4, 129, 0, 0, 0), (129, .aload_n 0, 130, 0, 0, 0), (130, .getfield 21, 133, 0, 2, 0), (133, .iload 6, 135, 0, 0, 0), (135, .iload_n 1, 136, 0, 0, 0), (136, .invokestatic 57, 139, 7, 2, 0), (139, .aaload, 140, 0, 0, 0), (140, .iload 6, 142, 0, 0, 0), (142, .iload_n 2, 143, 0, 0, 0), (143, .invokestatic 60, 146, 8, 2, 0), (146, .laload, 147, 0, 0, 0), (147, .ladd, 148, 0, 0, 0), (148, .lreturn, 149, 0, 0, 0)]
theorem oX0_bareWays_1 : ∀ e ∈ tX0_bareWays_1, zgood fRX0 cX0_bareWays 8 false e = true := by decide +kernel
def tX0_bareWays : List zE := tX0_bareWays_0 ++ (tX0_bareWays_1)
theorem oX0_bareWays : ∀ e ∈ tX0_bareWays, zgood fRX0 cX0_bareWays 8 false e = true := (zapp oX0_bareWays_0 oX0_bareWays_1)
def tX0_kindByEnds_0 : List zE := [(0, .aload_n 0, 1, 0, 0, 0), (1, .getfield 9, 4, 0, 0, 0), (4, .iload_n 1, 5, 0, 0, 0), (5, .iaload, 6, 0, 0, 0), (6, .istore_n 3, 7, 0, 0, 0), (7, .iload_n 3, 8, 0, 0, 0), (8, .bipush 10, 10, 0, 0, 0), (10, .if_icmp .ge 58, 13, 68, 0, 0), (13, .aload_n 0, 14, 0, 0, 0), (14, .getfield 30, 17, 0, 5, 0), (17, .iload_n 3, 18, 0, 0, 0), (18, .invokestatic 50, 21, 20, 2, 0), (21, .istore 4, 23, 0, 0, 0), (23, .iload 4, 25, 0, 0, 0), (25, .ifCond .eq 30, 28, 55, 0, 0), (28, .iload_n 2, 29, 0, 0, 0), (29, .iload_n 1, 30, 0, 0, 0), (30, .isub, 31, 0, 0, 0), (31, .iconst 2, 32, 0, 0, 0), (32, .if_icmp .le 21, 35, 53, 0, 0), (35, .aload_n 0, 36, 0, 0, 0), (36, .getfield 9, 39, 0, 0, 0), (39, .iload_n 1, 40, 0, 0, 0), (40, .iconst 1, 41, 0, 0, 0), (41, .iadd, 42, 0, 0, 0), (42, .iaload, 43, 0, 0, 0), (43, .bipush 28, 45, 0, 0, 0), (45, .if_icmp .ne 8, 48, 53, 0, 0), (48, .bipush 9, 50, 0, 0, 0), (50, .goto 4, 53, 54, 0, 0), (53, .iconst (-1), 54, 0, 0, 0), (54, .ireturn, 55, 0, 0, 0), (55, .iload_n 2, 56, 0, 0, 0), (56, .iload_n 1, 57, 0, 0, 0), (57, .isub, 58, 0, 0, 0), (58, .iconst 1, 59, 0, 0, 0), (59, .if_icmp .ne 7, 62, 66, 0, 0), (62, .iconst 0, 63, 0, 0, 0), (63, .goto 4, 66, 67, 0, 0), (66, .iconst (-1), 67, 0, 0, 0), (67, .ireturn, 68, 0, 0, 0), (68, .iload_n 3, 69, 0, 0, 0), (69, .bipush 25, 71, 0, 0, 0), (71, .if_icmp .ne 17, 74, 88, 0, 0), (74, .iload_n 2, 75, 0, 0, 0), (75, .iload_n 1, 76, 0, 0, 0), (76, .isub, 77, 0, 0, 0), (77, .iconst 1, 78, 0, 0, 0), (78, .if_icmp .le 8, 81, 86, 0, 0), (81, .bipush 7, 83, 0, 0, 0)]
theorem oX0_kindByEnds_0 : ∀ e ∈ tX0_kindByEnds_0, zgood fRX0 cX0_kindByEnds 5 false e = true := by decide +kernel
def tX0_kindByEnds_1 : List zE := [(83, .goto 4, 86, 87, 0, 0), (86, .iconst (-1), 87, 0, 0, 0), (87, .ireturn, 88, 0, 0, 0), (88, .iload_n 3, 89, 0, 0, 0), (89, .bipush 26, 91, 0, 0, 0), (91, .if_icmp .ne 30, 94, 121, 0, 0), (94, .iload_n 2, 95, 0, 0, 0), (95, .iload_n 1, 96, 0, 0, 0), (96, .isub, 97, 0, 0, 0), (97, .iconst 2, 98, 0, 0, 0), (98, .if_icmp .le 21, 101, 119, 0, 0), (101, .aload_n 0, 102, 0, 0, 0), (102, .getfield 9, 105, 0, 0, 0), (105, .iload_n 2, 106, 0, 0, 0), (106, .iconst 1, 107, 0, 0, 0), (107, .isub, 108, 0, 0, 0), (108, .iaload, 109, 0, 0, 0), (109, .bipush 27, 111, 0, 0, 0), (111, .if_icmp .ne 8, 114, 119, 0, 0), (114, .bipush 8, 116, 0, 0, 0), (116, .goto 4, 119, 120, 0, 0), (119, .iconst (-1), 120, 0, 0, 0), (120, .ireturn, 121, 0, 0, 0), (121, .aload_n 0, 122, 0, 0, 0), (122, .iload_n 1, 123, 0, 0, 0), (123, .iload_n 2, 124, 0, 0, 0), (124, .invokevirtual 63, 127, 9, 2, 0), (127, .iconst (-1), 128, 0, 0, 0), (128, .if_icmp .ne 7, 131, 135, 0, 0), (131, .iconst (-1), 132, 0, 0, 0), (132, .goto 4, 135, 136, 0, 0), (135, .iconst 1, 136, 0, 0, 0), (136, .ireturn, 137, 0, 0, 0)]
theorem oX0_kindByEnds_1 : ∀ e ∈ tX0_kindByEnds_1, zgood fRX0 cX0_kindByEnds 5 false e = true := by decide +kernel
def tX0_kindByEnds : List zE := tX0_kindByEnds_0 ++ (tX0_kindByEnds_1)
theorem oX0_kindByEnds : ∀ e ∈ tX0_kindByEnds, zgood fRX0 cX0_kindByEnds 5 false e = true := (zapp oX0_kindByEnds_0 oX0_kindByEnds_1)
def tX0_partFrom : List zE := [(0, .iload_n 0, 1, 0, 0, 0), (1, .bipush 9, 3, 0, 0, 0), (3, .if_icmp .ne 9, 6, 12, 0, 0), (6, .iload_n 1, 7, 0, 0, 0), (7, .iconst 2, 8, 0, 0, 0), (8, .iadd, 9, 0, 0, 0), (9, .goto 6, 12, 15, 0, 0), (12, .iload_n 1, 13, 0, 0, 0), (13, .iconst 1, 14, 0, 0, 0), (14, .iadd, 15, 0, 0, 0), (15, .ireturn, 16, 0, 0, 0)]
theorem oX0_partFrom : ∀ e ∈ tX0_partFrom, zgood fRX0 cX0_partFrom 2 false e = true := by decide +kernel
def tX0_partTo : List zE := [(0, .iload_n 0, 1, 0, 0, 0), (1, .bipush 8, 3, 0, 0, 0), (3, .if_icmp .ne 9, 6, 12, 0, 0), (6, .iload_n 1, 7, 0, 0, 0), (7, .iconst 1, 8, 0, 0, 0), (8, .isub, 9, 0, 0, 0), (9, .goto 4, 12, 13, 0, 0), (12, .iload_n 1, 13, 0, 0, 0), (13, .ireturn, 14, 0, 0, 0)]
theorem oX0_partTo : ∀ e ∈ tX0_partTo, zgood fRX0 cX0_partTo 2 false e = true := by decide +kernel
def tX0_numberIn : List zE := [(0, .iload_n 2, 1, 0, 0, 0), (1, .iload_n 1, 2, 0, 0, 0), (2, .isub, 3, 0, 0, 0), (3, .iconst 4, 4, 0, 0, 0), (4, .if_icmp .gt 21, 7, 25, 0, 0), (7, .iload_n 2, 8, 0, 0, 0), (8, .iload_n 1, 9, 0, 0, 0), (9, .isub, 10, 0, 0, 0), (10, .iconst 1, 11, 0, 0, 0), (11, .if_icmp .le 16, 14, 27, 0, 0), (14, .aload_n 0, 15, 0, 0, 0), (15, .getfield 9, 18, 0, 0, 0), (18, .iload_n 1, 19, 0, 0, 0), (19, .iaload, 20, 0, 0, 0), (20, .bipush 10, 22, 0, 0, 0), (22, .if_icmp .ne 5, 25, 27, 0, 0), (25, .iconst (-1), 26, 0, 0, 0), (26, .ireturn, 27, 0, 0, 0), (27, .iconst 0, 28, 0, 0, 0), (28, .istore_n 3, 29, 0, 0, 0), (29, .iload_n 1, 30, 0, 0, 0), (30, .istore 4, 32, 0, 0, 0), (32, .iload 4, 34, 0, 0, 0), (34, .iload_n 2, 35, 0, 0, 0), (35, .if_icmp .ge 43, 38, 78, 0, 0), (38, .aload_n 0, 39, 0, 0, 0), (39, .getfield 9, 42, 0, 0, 0), (42, .iload 4, 44, 0, 0, 0), (44, .iaload, 45, 0, 0, 0), (45, .bipush 10, 47, 0, 0, 0), (47, .isub, 48, 0, 0, 0), (48, .istore 5, 50, 0, 0, 0), (50, .iload 5, 52, 0, 0, 0), (52, .ifCond .lt 10, 55, 62, 0, 0), (55, .iload 5, 57, 0, 0, 0), (57, .bipush 9, 59, 0, 0, 0), (59, .if_icmp .le 5, 62, 64, 0, 0), (62, .iconst (-1), 63, 0, 0, 0), (63, .ireturn, 64, 0, 0, 0), (64, .iload_n 3, 65, 0, 0, 0), (65, .bipush 10, 67, 0, 0, 0), (67, .imul, 68, 0, 0, 0), (68, .iload 5, 70, 0, 0, 0), (70, .iadd, 71, 0, 0, 0), (71, .istore_n 3, 72, 0, 0, 0), (72, .iinc 4 1, 75, 0, 0, 0), (75, .goto (-43), 78, 32, 0, 0), (78, .iload_n 3, 79, 0, 0, 0), (79, .ireturn, 80, 0, 0, 0)]
theorem oX0_numberIn : ∀ e ∈ tX0_numberIn, zgood fRX0 cX0_numberIn 6 false e = true := by decide +kernel
def tX0_build : List zE := [(0, .aload_n 0, 1, 0, 0, 0), (1, .aload_n 1, 2, 0, 0, 0), (2, .iconst 0, 3, 0, 0, 0), (3, .aload_n 0, 4, 0, 0, 0), (4, .getfield 15, 7, 0, 1, 0), (7, .lload_n 2, 8, 0, 0, 0), (8, .invokevirtual 66, 11, 11, 4, 0), (11, .ireturn, 12, 0, 0, 0)]
theorem oX0_build : ∀ e ∈ tX0_build, zgood fRX0 cX0_build 4 false e = true := by decide +kernel
def tX0_buildSpan_0 : List zE := [(0, .iload_n 2, 1, 0, 0, 0), (1, .iload_n 3, 2, 0, 0, 0), (2, .if_icmp .lt 5, 5, 7, 0, 0), (5, .iconst (-1), 6, 0, 0, 0), (6, .ireturn, 7, 0, 0, 0), (7, .lload 4, 9, 0, 0, 0), (9, .lstore 6, 11, 0, 0, 0), (11, .aload_n 0, 12, 0, 0, 0), (12, .iload_n 2, 13, 0, 0, 0), (13, .iload_n 3, 14, 0, 0, 0), (14, .invokevirtual 40, 17, 4, 2, 0), (17, .istore 8, 19, 0, 0, 0), (19, .iconst 0, 20, 0, 0, 0), (20, .istore 9, 22, 0, 0, 0), (22, .iload 9, 24, 0, 0, 0), (24, .bipush 9, 26, 0, 0, 0), (26, .if_icmp .gt 114, 29, 140, 0, 0), (29, .aload_n 0, 30, 0, 0, 0), (30, .iload_n 2, 31, 0, 0, 0), (31, .iload_n 3, 32, 0, 0, 0), (32, .aload_n 0, 33, 0, 0, 0), (33, .getfield 24, 36, 0, 3, 0), (36, .iconst 1, 37, 0, 0, 0), (37, .iload 9, 39, 0, 0, 0), (39, .ishl, 40, 0, 0, 0), (40, .iand, 41, 0, 0, 0), (41, .invokevirtual 37, 44, 5, 3, 0), (44, .lstore 10, 46, 0, 0, 0), (46, .lload 6, 48, 0, 0, 0), (48, .lload 10, 50, 0, 0, 0), (50, .lcmp, 51, 0, 0, 0), (51, .ifCond .ge 15, 54, 66, 0, 0), (54, .aload_n 0, 55, 0, 0, 0), (55, .aload_n 1, 56, 0, 0, 0), (56, .iload 9, 58, 0, 0, 0), (58, .iload_n 2, 59, 0, 0, 0), (59, .iload_n 3, 60, 0, 0, 0), (60, .lload 6, 62, 0, 0, 0), (62, .invokevirtual 70, 65, 12, 5, 0), (65, .ireturn, 66, 0, 0, 0), (66, .lload 6, 68, 0, 0, 0), (68, .lload 10, 70, 0, 0, 0), (70, .lsub, 71, 0, 0, 0), (71, .lstore 6, 73, 0, 0, 0), (73, .iload 8, 75, 0, 0, 0), (75, .ifCond .eq 25, 78, 100, 0, 0), (78, .aload_n 0, 79, 0, 0, 0), (79, .iload_n 2, 80, 0, 0, 0), (80, .iconst 1, 81, 0, 0, 0), (81, .iadd, 82, 0, 0, 0)]
theorem oX0_buildSpan_0 : ∀ e ∈ tX0_buildSpan_0, zgood fRX0 cX0_buildSpan 14 false e = true := by decide +kernel
def tX0_buildSpan_1 : List zE := [(82, .iload_n 3, 83, 0, 0, 0), (83, .iconst 1, 84, 0, 0, 0), (84, .isub, 85, 0, 0, 0), (85, .aload_n 0, 86, 0, 0, 0), (86, .getfield 27, 89, 0, 4, 0), (89, .iconst 1, 90, 0, 0, 0), (90, .iload 9, 92, 0, 0, 0), (92, .ishl, 93, 0, 0, 0), (93, .iand, 94, 0, 0, 0), (94, .invokevirtual 37, 97, 5, 3, 0), (97, .goto 4, 100, 101, 0, 0), (100, .lconst 0, 101, 0, 0, 0), (101, .lstore 12, 103, 0, 0, 0), (103, .lload 6, 105, 0, 0, 0), (105, .lload 12, 107, 0, 0, 0), (107, .lcmp, 108, 0, 0, 0), (108, .ifCond .ge 19, 111, 127, 0, 0), (111, .aload_n 0, 112, 0, 0, 0), (112, .aload_n 1, 113, 0, 0, 0), (113, .iload 9, 115, 0, 0, 0), (115, .iload_n 2, 116, 0, 0, 0), (116, .iconst 1, 117, 0, 0, 0), (117, .iadd, 118, 0, 0, 0), (118, .iload_n 3, 119, 0, 0, 0), (119, .iconst 1, 120, 0, 0, 0), (120, .isub, 121, 0, 0, 0), (121, .lload 6, 123, 0, 0, 0), (123, .invokevirtual 70, 126, 12, 5, 0), (126, .ireturn, 127, 0, 0, 0), (127, .lload 6, 129, 0, 0, 0), (129, .lload 12, 131, 0, 0, 0), (131, .lsub, 132, 0, 0, 0), (132, .lstore 6, 134, 0, 0, 0), (134, .iinc 9 1, 137, 0, 0, 0), (137, .goto (-115), 140, 22, 0, 0), (140, .iconst (-1), 141, 0, 0, 0), (141, .ireturn, 142, 0, 0, 0)]
theorem oX0_buildSpan_1 : ∀ e ∈ tX0_buildSpan_1, zgood fRX0 cX0_buildSpan 14 false e = true := by decide +kernel
def tX0_buildSpan : List zE := tX0_buildSpan_0 ++ (tX0_buildSpan_1)
theorem oX0_buildSpan : ∀ e ∈ tX0_buildSpan, zgood fRX0 cX0_buildSpan 14 false e = true := (zapp oX0_buildSpan_0 oX0_buildSpan_1)
def tX0_buildBare_0 : List zE := [(0, .iload_n 2, 1, 0, 0, 0), (1, .invokestatic 44, 4, 18, 1, 0), (4, .ifCond .eq 15, 7, 19, 0, 0), (7, .aload_n 0, 8, 0, 0, 0), (8, .aload_n 1, 9, 0, 0, 0), (9, .iload_n 2, 10, 0, 0, 0), (10, .iload_n 3, 11, 0, 0, 0), (11, .iload 4, 13, 0, 0, 0), (13, .lload 5, 15, 0, 0, 0), (15, .invokevirtual 74, 18, 13, 5, 0), (18, .ireturn, 19, 0, 0, 0), (19, .iload_n 2, 20, 0, 0, 0), (20, .ifCond .ne 17, 23, 37, 0, 0), (23, .aload_n 1, 24, 0, 0, 0), (24, .iconst 0, 25, 0, 0, 0), (25, .aload_n 0, 26, 0, 0, 0), (26, .getfield 9, 29, 0, 0, 0), (29, .iload_n 3, 30, 0, 0, 0), (30, .iaload, 31, 0, 0, 0), (31, .iconst (-1), 32, 0, 0, 0), (32, .iconst (-1), 33, 0, 0, 0), (33, .invokevirtual 77, 36, 28, 4, 0), (36, .ireturn, 37, 0, 0, 0), (37, .iload_n 2, 38, 0, 0, 0), (38, .iconst 1, 39, 0, 0, 0), (39, .if_icmp .ne 18, 42, 57, 0, 0), (42, .aload_n 1, 43, 0, 0, 0), (43, .iconst 1, 44, 0, 0, 0), (44, .aload_n 0, 45, 0, 0, 0), (45, .iload_n 3, 46, 0, 0, 0), (46, .iload 4, 48, 0, 0, 0), (48, .invokevirtual 63, 51, 9, 2, 0), (51, .iconst (-1), 52, 0, 0, 0), (52, .iconst (-1), 53, 0, 0, 0), (53, .invokevirtual 77, 56, 28, 4, 0), (56, .ireturn, 57, 0, 0, 0), (57, .aload_n 0, 58, 0, 0, 0), (58, .aload_n 1, 59, 0, 0, 0), (59, .iload_n 2, 60, 0, 0, 0), (60, .iload_n 3, 61, 0, 0, 0), (61, .invokestatic 57, 64, 7, 2, 0), (64, .iload_n 2, 65, 0, 0, 0), (65, .iload 4, 67, 0, 0, 0), (67, .invokestatic 60, 70, 8, 2, 0), (70, .lload 5, 72, 0, 0, 0), (72, .invokevirtual 66, 75, 11, 4, 0), (75, .istore 7, 77, 0, 0, 0), (77, .aload_n 1, 78, 0, 0, 0), (78, .iload_n 2, 79, 0, 0, 0), (79, .iload_n 2, 80, 0, 0, 0)]
theorem oX0_buildBare_0 : ∀ e ∈ tX0_buildBare_0, zgood fRX0 cX0_buildBare 8 false e = true := by decide +kernel
def tX0_buildBare_1 : List zE := [(80, .bipush 9, 82, 0, 0, 0), (82, .if_icmp .ne 12, 85, 94, 0, 0), (85, .aload_n 0, 86, 0, 0, 0), (86, .getfield 9, 89, 0, 0, 0), (89, .iload_n 3, 90, 0, 0, 0), (90, .iaload, 91, 0, 0, 0), (91, .goto 4, 94, 95, 0, 0), (94, .iconst (-1), 95, 0, 0, 0), (95, .iload 7, 97, 0, 0, 0), (97, .iconst (-1), 98, 0, 0, 0), (98, .invokevirtual 77, 101, 28, 4, 0), (101, .ireturn, 102, 0, 0, 0)]
theorem oX0_buildBare_1 : ∀ e ∈ tX0_buildBare_1, zgood fRX0 cX0_buildBare 8 false e = true := by decide +kernel
def tX0_buildBare : List zE := tX0_buildBare_0 ++ (tX0_buildBare_1)
theorem oX0_buildBare : ∀ e ∈ tX0_buildBare, zgood fRX0 cX0_buildBare 8 false e = true := (zapp oX0_buildBare_0 oX0_buildBare_1)
def tX0_buildPair_0 : List zE := [(0, .lload 5, 2, 0, 0, 0), (2, .lstore 7, 4, 0, 0, 0), (4, .iload_n 3, 5, 0, 0, 0), (5, .iconst 1, 6, 0, 0, 0), (6, .iadd, 7, 0, 0, 0), (7, .istore 9, 9, 0, 0, 0), (9, .iload 9, 11, 0, 0, 0), (11, .iload 4, 13, 0, 0, 0), (13, .iconst 1, 14, 0, 0, 0), (14, .isub, 15, 0, 0, 0), (15, .if_icmp .ge 120, 18, 135, 0, 0), (18, .aload_n 0, 19, 0, 0, 0), (19, .getfield 9, 22, 0, 0, 0), (22, .iload 9, 24, 0, 0, 0), (24, .iaload, 25, 0, 0, 0), (25, .bipush 18, 27, 0, 0, 0), (27, .iload_n 2, 28, 0, 0, 0), (28, .iadd, 29, 0, 0, 0), (29, .if_icmp .eq 6, 32, 35, 0, 0), (32, .goto 97, 35, 129, 0, 0), (35, .aload_n 0, 36, 0, 0, 0), (36, .getfield 21, 39, 0, 2, 0), (39, .iload 9, 41, 0, 0, 0), (41, .iconst 1, 42, 0, 0, 0), (42, .iadd, 43, 0, 0, 0), (43, .aaload, 44, 0, 0, 0), (44, .iload 4, 46, 0, 0, 0), (46, .laload, 47, 0, 0, 0), (47, .lstore 10, 49, 0, 0, 0), (49, .aload_n 0, 50, 0, 0, 0), (50, .getfield 21, 53, 0, 2, 0), (53, .iload_n 3, 54, 0, 0, 0), (54, .aaload, 55, 0, 0, 0), (55, .iload 9, 57, 0, 0, 0), (57, .laload, 58, 0, 0, 0), (58, .lload 10, 60, 0, 0, 0), (60, .lmul, 61, 0, 0, 0), (61, .lstore 12, 63, 0, 0, 0), (63, .lload 7, 65, 0, 0, 0), (65, .lload 12, 67, 0, 0, 0), (67, .lcmp, 68, 0, 0, 0), (68, .ifCond .ge 54, 71, 122, 0, 0), (71, .lload 10, 73, 0, 0, 0), (73, .lconst 0, 74, 0, 0, 0), (74, .lcmp, 75, 0, 0, 0), (75, .ifCond .le 47, 78, 122, 0, 0), (78, .aload_n 0, 79, 0, 0, 0), (79, .aload_n 1, 80, 0, 0, 0), (80, .iload_n 3, 81, 0, 0, 0), (81, .iload 9, 83, 0, 0, 0)]
theorem oX0_buildPair_0 : ∀ e ∈ tX0_buildPair_0, zgood fRX0 cX0_buildPair 16 false e = true := by decide +kernel
def tX0_buildPair_1 : List zE := [(83, .lload 7, 85, 0, 0, 0), (85, .lload 10, 87, 0, 0, 0), (87, .ldiv, 88, 0, 0, 0), (88, .invokevirtual 66, 91, 11, 4, 0), (91, .istore 14, 93, 0, 0, 0), (93, .aload_n 0, 94, 0, 0, 0), (94, .aload_n 1, 95, 0, 0, 0), (95, .iload 9, 97, 0, 0, 0), (97, .iconst 1, 98, 0, 0, 0), (98, .iadd, 99, 0, 0, 0), (99, .iload 4, 101, 0, 0, 0), (101, .lload 7, 103, 0, 0, 0), (103, .lload 10, 105, 0, 0, 0), (105, .lrem, 106, 0, 0, 0), (106, .invokevirtual 66, 109, 11, 4, 0), (109, .istore 15, 111, 0, 0, 0), (111, .aload_n 1, 112, 0, 0, 0), (112, .iload_n 2, 113, 0, 0, 0), (113, .iconst (-1), 114, 0, 0, 0), (114, .iload 14, 116, 0, 0, 0), (116, .iload 15, 118, 0, 0, 0), (118, .invokevirtual 77, 121, 28, 4, 0), (121, .ireturn, 122, 0, 0, 0), (122, .lload 7, 124, 0, 0, 0), (124, .lload 12, 126, 0, 0, 0), (126, .lsub, 127, 0, 0, 0), (127, .lstore 7, 129, 0, 0, 0), (129, .iinc 9 1, 132, 0, 0, 0), (132, .goto (-123), 135, 9, 0, 0), (135, .iconst (-1), 136, 0, 0, 0), (136, .ireturn, 137, 0, 0, 0)]
theorem oX0_buildPair_1 : ∀ e ∈ tX0_buildPair_1, zgood fRX0 cX0_buildPair 16 false e = true := by decide +kernel
def tX0_buildPair : List zE := tX0_buildPair_0 ++ (tX0_buildPair_1)
theorem oX0_buildPair : ∀ e ∈ tX0_buildPair, zgood fRX0 cX0_buildPair 16 false e = true := (zapp oX0_buildPair_0 oX0_buildPair_1)
def tX0_placeOf : List zE := [(0, .aload_n 0, 1, 0, 0, 0), (1, .aload_n 1, 2, 0, 0, 0), (2, .iload_n 2, 3, 0, 0, 0), (3, .iconst 0, 4, 0, 0, 0), (4, .aload_n 0, 5, 0, 0, 0), (5, .getfield 15, 8, 0, 1, 0), (8, .invokevirtual 83, 11, 15, 4, 0), (11, .lreturn, 12, 0, 0, 0)]
theorem oX0_placeOf : ∀ e ∈ tX0_placeOf, zgood fRX0 cX0_placeOf 3 false e = true := by decide +kernel
def tX0_placeIn_0 : List zE := [(0, .iload_n 3, 1, 0, 0, 0), (1, .iload 4, 3, 0, 0, 0), (3, .if_icmp .ge 11, 6, 14, 0, 0), (6, .aload_n 1, 7, 0, 0, 0), (7, .iload_n 2, 8, 0, 0, 0), (8, .invokevirtual 87, 11, 24, 1, 0), (11, .ifCond .ne 7, 14, 18, 0, 0), (14, .ldc2_w 90, 17, 0, 0, -1), (17, .lreturn, 18, 0, 0, 0), (18, .iconst 1, 19, 0, 0, 0), (19, .aload_n 1, 20, 0, 0, 0), (20, .getfield 92, 23, 1, 0, 0), (23, .iload_n 2, 24, 0, 0, 0), (24, .iaload, 25, 0, 0, 0), (25, .ishl, 26, 0, 0, 0), (26, .istore 5, 28, 0, 0, 0), (28, .aload_n 0, 29, 0, 0, 0), (29, .iload_n 3, 30, 0, 0, 0), (30, .iload 4, 32, 0, 0, 0), (32, .iload 5, 34, 0, 0, 0), (34, .iconst 1, 35, 0, 0, 0), (35, .isub, 36, 0, 0, 0), (36, .invokevirtual 33, 39, 3, 3, 0), (39, .lstore 6, 41, 0, 0, 0), (41, .aload_n 0, 42, 0, 0, 0), (42, .getfield 24, 45, 0, 3, 0), (45, .iload 5, 47, 0, 0, 0), (47, .iand, 48, 0, 0, 0), (48, .ifCond .eq 41, 51, 89, 0, 0), (51, .aload_n 0, 52, 0, 0, 0), (52, .aload_n 1, 53, 0, 0, 0), (53, .iload_n 2, 54, 0, 0, 0), (54, .iload_n 3, 55, 0, 0, 0), (55, .iload 4, 57, 0, 0, 0), (57, .invokevirtual 95, 60, 16, 4, 0), (60, .lstore 8, 62, 0, 0, 0), (62, .lload 8, 64, 0, 0, 0), (64, .lconst 0, 65, 0, 0, 0), (65, .lcmp, 66, 0, 0, 0), (66, .ifCond .lt 9, 69, 75, 0, 0), (69, .lload 6, 71, 0, 0, 0), (71, .lload 8, 73, 0, 0, 0), (73, .ladd, 74, 0, 0, 0), (74, .lreturn, 75, 0, 0, 0), (75, .lload 6, 77, 0, 0, 0), (77, .aload_n 0, 78, 0, 0, 0), (78, .iload_n 3, 79, 0, 0, 0), (79, .iload 4, 81, 0, 0, 0), (81, .iload 5, 83, 0, 0, 0), (83, .invokevirtual 37, 86, 5, 3, 0)]
theorem oX0_placeIn_0 : ∀ e ∈ tX0_placeIn_0, zgood fRX0 cX0_placeIn 10 false e = true := by decide +kernel
def tX0_placeIn_1 : List zE := [(86, .ladd, 87, 0, 0, 0), (87, .lstore 6, 89, 0, 0, 0), (89, .aload_n 0, 90, 0, 0, 0), (90, .getfield 27, 93, 0, 4, 0), (93, .iload 5, 95, 0, 0, 0), (95, .iand, 96, 0, 0, 0), (96, .ifCond .eq 13, 99, 109, 0, 0), (99, .aload_n 0, 100, 0, 0, 0), (100, .iload_n 3, 101, 0, 0, 0), (101, .iload 4, 103, 0, 0, 0), (103, .invokevirtual 40, 106, 4, 2, 0), (106, .ifCond .ne 7, 109, 113, 0, 0), (109, .ldc2_w 90, 112, 0, 0, -1), (112, .lreturn, 113, 0, 0, 0), (113, .aload_n 0, 114, 0, 0, 0), (114, .aload_n 1, 115, 0, 0, 0), (115, .iload_n 2, 116, 0, 0, 0), (116, .iload_n 3, 117, 0, 0, 0), (117, .iconst 1, 118, 0, 0, 0), (118, .iadd, 119, 0, 0, 0), (119, .iload 4, 121, 0, 0, 0), (121, .iconst 1, 122, 0, 0, 0), (122, .isub, 123, 0, 0, 0), (123, .invokevirtual 95, 126, 16, 4, 0), (126, .lstore 8, 128, 0, 0, 0), (128, .lload 8, 130, 0, 0, 0), (130, .lconst 0, 131, 0, 0, 0), (131, .lcmp, 132, 0, 0, 0), (132, .ifCond .ge 9, 135, 141, 0, 0), (135, .ldc2_w 90, 138, 0, 0, -1), (138, .goto 8, 141, 146, 0, 0), (141, .lload 6, 143, 0, 0, 0), (143, .lload 8, 145, 0, 0, 0), (145, .ladd, 146, 0, 0, 0), (146, .lreturn, 147, 0, 0, 0)]
theorem oX0_placeIn_1 : ∀ e ∈ tX0_placeIn_1, zgood fRX0 cX0_placeIn 10 false e = true := by decide +kernel
def tX0_placeIn : List zE := tX0_placeIn_0 ++ (tX0_placeIn_1)
theorem oX0_placeIn : ∀ e ∈ tX0_placeIn, zgood fRX0 cX0_placeIn 10 false e = true := (zapp oX0_placeIn_0 oX0_placeIn_1)
def tX0_placeBare_0 : List zE := [(0, .aload_n 1, 1, 0, 0, 0), (1, .getfield 92, 4, 1, 0, 0), (4, .iload_n 2, 5, 0, 0, 0), (5, .iaload, 6, 0, 0, 0), (6, .istore 5, 8, 0, 0, 0), (8, .iload 5, 10, 0, 0, 0), (10, .invokestatic 44, 13, 18, 1, 0), (13, .ifCond .eq 13, 16, 26, 0, 0), (16, .aload_n 0, 17, 0, 0, 0), (17, .aload_n 1, 18, 0, 0, 0), (18, .iload_n 2, 19, 0, 0, 0), (19, .iload_n 3, 20, 0, 0, 0), (20, .iload 4, 22, 0, 0, 0), (22, .invokevirtual 98, 25, 17, 4, 0), (25, .lreturn, 26, 0, 0, 0), (26, .aload_n 0, 27, 0, 0, 0), (27, .iload_n 3, 28, 0, 0, 0), (28, .iload 4, 30, 0, 0, 0), (30, .invokevirtual 53, 33, 6, 2, 0), (33, .iload 5, 35, 0, 0, 0), (35, .if_icmp .eq 7, 38, 42, 0, 0), (38, .ldc2_w 90, 41, 0, 0, -1), (41, .lreturn, 42, 0, 0, 0), (42, .iload 5, 44, 0, 0, 0), (44, .iconst 1, 45, 0, 0, 0), (45, .if_icmp .ne 27, 48, 72, 0, 0), (48, .aload_n 0, 49, 0, 0, 0), (49, .iload_n 3, 50, 0, 0, 0), (50, .iload 4, 52, 0, 0, 0), (52, .invokevirtual 63, 55, 9, 2, 0), (55, .aload_n 1, 56, 0, 0, 0), (56, .getfield 101, 59, 1, 1, 0), (59, .iload_n 2, 60, 0, 0, 0), (60, .iaload, 61, 0, 0, 0), (61, .if_icmp .ne 7, 64, 68, 0, 0), (64, .lconst 0, 65, 0, 0, 0), (65, .goto 6, 68, 71, 0, 0), (68, .ldc2_w 90, 71, 0, 0, -1), (71, .lreturn, 72, 0, 0, 0), (72, .iload 5, 74, 0, 0, 0), (74, .ifCond .eq 10, 77, 84, 0, 0), (77, .iload 5, 79, 0, 0, 0), (79, .bipush 9, 81, 0, 0, 0), (81, .if_icmp .ne 22, 84, 103, 0, 0), (84, .aload_n 0, 85, 0, 0, 0), (85, .getfield 9, 88, 0, 0, 0), (88, .iload_n 3, 89, 0, 0, 0), (89, .iaload, 90, 0, 0, 0), (90, .aload_n 1, 91, 0, 0, 0), (91, .getfield 101, 94, 1, 1, 0)]
theorem oX0_placeBare_0 : ∀ e ∈ tX0_placeBare_0, zgood fRX0 cX0_placeBare 6 false e = true := by decide +kernel
def tX0_placeBare_1 : List zE := [(94, .iload_n 2, 95, 0, 0, 0), (95, .iaload, 96, 0, 0, 0), (96, .if_icmp .eq 7, 99, 103, 0, 0), (99, .ldc2_w 90, 102, 0, 0, -1), (102, .lreturn, 103, 0, 0, 0), (103, .iload 5, 105, 0, 0, 0), (105, .ifCond .ne 7, 108, 112, 0, 0), (108, .lconst 0, 109, 0, 0, 0), (109, .goto 27, 112, 136, 0, 0), (112, .aload_n 0, 113, 0, 0, 0), (113, .aload_n 1, 114, 0, 0, 0), (114, .aload_n 1, 115, 0, 0, 0), (115, .getfield 104, 118, 1, 2, 0), (118, .iload_n 2, 119, 0, 0, 0), (119, .iaload, 120, 0, 0, 0), (120, .iload 5, 122, 0, 0, 0), (122, .iload_n 3, 123, 0, 0, 0), (123, .invokestatic 57, 126, 7, 2, 0), (126, .iload 5, 128, 0, 0, 0), (128, .iload 4, 130, 0, 0, 0), (130, .invokestatic 60, 133, 8, 2, 0), (133, .invokevirtual 83, 136, 15, 4, 0), (136, .lreturn, 137, 0, 0, 0)]
theorem oX0_placeBare_1 : ∀ e ∈ tX0_placeBare_1, zgood fRX0 cX0_placeBare 6 false e = true := by decide +kernel
def tX0_placeBare : List zE := tX0_placeBare_0 ++ (tX0_placeBare_1)
theorem oX0_placeBare : ∀ e ∈ tX0_placeBare, zgood fRX0 cX0_placeBare 6 false e = true := (zapp oX0_placeBare_0 oX0_placeBare_1)
def tX0_placePair_0 : List zE := [(0, .bipush 18, 2, 0, 0, 0), (2, .aload_n 1, 3, 0, 0, 0), (3, .getfield 92, 6, 1, 0, 0), (6, .iload_n 2, 7, 0, 0, 0), (7, .iaload, 8, 0, 0, 0), (8, .iadd, 9, 0, 0, 0), (9, .istore 5, 11, 0, 0, 0), (11, .aload_n 1, 12, 0, 0, 0), (12, .getfield 104, 15, 1, 2, 0), (15, .iload_n 2, 16, 0, 0, 0), (16, .iaload, 17, 0, 0, 0), (17, .istore 6, 19, 0, 0, 0), (19, .aload_n 1, 20, 0, 0, 0), (20, .iload 6, 22, 0, 0, 0), (22, .invokevirtual 87, 25, 24, 1, 0), (25, .ifCond .ne 7, 28, 32, 0, 0), (28, .ldc2_w 90, 31, 0, 0, -1), (31, .lreturn, 32, 0, 0, 0), (32, .lconst 0, 33, 0, 0, 0), (33, .lstore 7, 35, 0, 0, 0), (35, .iconst 0, 36, 0, 0, 0), (36, .istore 9, 38, 0, 0, 0), (38, .iload_n 3, 39, 0, 0, 0), (39, .istore 10, 41, 0, 0, 0), (41, .iload 10, 43, 0, 0, 0), (43, .iload 4, 45, 0, 0, 0), (45, .iconst 1, 46, 0, 0, 0), (46, .isub, 47, 0, 0, 0), (47, .if_icmp .ge 185, 50, 232, 0, 0), (50, .aload_n 0, 51, 0, 0, 0), (51, .getfield 9, 54, 0, 0, 0), (54, .iload 10, 56, 0, 0, 0), (56, .iaload, 57, 0, 0, 0), (57, .iload 5, 59, 0, 0, 0), (59, .if_icmp .ne 94, 62, 153, 0, 0), (62, .iload 9, 64, 0, 0, 0), (64, .aload_n 1, 65, 0, 0, 0), (65, .getfield 107, 68, 1, 6, 0), (68, .iload 6, 70, 0, 0, 0), (70, .iaload, 71, 0, 0, 0), (71, .if_icmp .ne 82, 74, 153, 0, 0), (74, .aload_n 0, 75, 0, 0, 0), (75, .aload_n 1, 76, 0, 0, 0), (76, .iload 6, 78, 0, 0, 0), (78, .iload_n 3, 79, 0, 0, 0), (79, .iload 10, 81, 0, 0, 0), (81, .invokevirtual 83, 84, 15, 4, 0), (84, .lstore 11, 86, 0, 0, 0), (86, .lload 11, 88, 0, 0, 0), (88, .lconst 0, 89, 0, 0, 0)]
theorem oX0_placePair_0 : ∀ e ∈ tX0_placePair_0, zgood fRX0 cX0_placePair 15 false e = true := by decide +kernel
def tX0_placePair_1 : List zE := [(89, .lcmp, 90, 0, 0, 0), (90, .ifCond .ge 9, 93, 99, 0, 0), (93, .ldc2_w 90, 96, 0, 0, -1), (96, .goto 20, 99, 116, 0, 0), (99, .aload_n 0, 100, 0, 0, 0), (100, .aload_n 1, 101, 0, 0, 0), (101, .aload_n 1, 102, 0, 0, 0), (102, .getfield 110, 105, 1, 3, 0), (105, .iload_n 2, 106, 0, 0, 0), (106, .iaload, 107, 0, 0, 0), (107, .iload 10, 109, 0, 0, 0), (109, .iconst 1, 110, 0, 0, 0), (110, .iadd, 111, 0, 0, 0), (111, .iload 4, 113, 0, 0, 0), (113, .invokevirtual 83, 116, 15, 4, 0), (116, .lstore 13, 118, 0, 0, 0), (118, .lload 13, 120, 0, 0, 0), (120, .lconst 0, 121, 0, 0, 0), (121, .lcmp, 122, 0, 0, 0), (122, .ifCond .ge 9, 125, 131, 0, 0), (125, .ldc2_w 90, 128, 0, 0, -1), (128, .goto 24, 131, 152, 0, 0), (131, .lload 7, 133, 0, 0, 0), (133, .lload 11, 135, 0, 0, 0), (135, .aload_n 0, 136, 0, 0, 0), (136, .getfield 21, 139, 0, 2, 0), (139, .iload 10, 141, 0, 0, 0), (141, .iconst 1, 142, 0, 0, 0), (142, .iadd, 143, 0, 0, 0), (143, .aaload, 144, 0, 0, 0), (144, .iload 4, 146, 0, 0, 0), (146, .laload, 147, 0, 0, 0), (147, .lmul, 148, 0, 0, 0), (148, .ladd, 149, 0, 0, 0), (149, .lload 13, 151, 0, 0, 0), (151, .ladd, 152, 0, 0, 0), (152, .lreturn, 153, 0, 0, 0), (153, .aload_n 0, 154, 0, 0, 0), (154, .getfield 9, 157, 0, 0, 0), (157, .iload 10, 159, 0, 0, 0), (159, .iaload, 160, 0, 0, 0), (160, .iload 5, 162, 0, 0, 0), (162, .if_icmp .ne 30, 165, 192, 0, 0), (165, .lload 7, 167, 0, 0, 0), (167, .aload_n 0, 168, 0, 0, 0), (168, .getfield 21, 171, 0, 2, 0), (171, .iload_n 3, 172, 0, 0, 0), (172, .aaload, 173, 0, 0, 0), (173, .iload 10, 175, 0, 0, 0), (175, .laload, 176, 0, 0, 0)]
theorem oX0_placePair_1 : ∀ e ∈ tX0_placePair_1, zgood fRX0 cX0_placePair 15 false e = true := by decide +kernel
def tX0_placePair_2 : List zE := [(176, .aload_n 0, 177, 0, 0, 0), (177, .getfield 21, 180, 0, 2, 0), (180, .iload 10, 182, 0, 0, 0), (182, .iconst 1, 183, 0, 0, 0), (183, .iadd, 184, 0, 0, 0), (184, .aaload, 185, 0, 0, 0), (185, .iload 4, 187, 0, 0, 0), (187, .laload, 188, 0, 0, 0), (188, .lmul, 189, 0, 0, 0), (189, .ladd, 190, 0, 0, 0), (190, .lstore 7, 192, 0, 0, 0), (192, .iload 9, 194, 0, 0, 0), (194, .aload_n 0, 195, 0, 0, 0), (195, .getfield 9, 198, 0, 0, 0), (198, .iload 10, 200, 0, 0, 0), (200, .iaload, 201, 0, 0, 0), (201, .bipush 29, 203, 0, 0, 0), (203, .if_icmp .eq 15, 206, 218, 0, 0), (206, .aload_n 0, 207, 0, 0, 0), (207, .getfield 9, 210, 0, 0, 0), (210, .iload 10, 212, 0, 0, 0), (212, .iaload, 213, 0, 0, 0), (213, .bipush 30, 215, 0, 0, 0), (215, .if_icmp .ne 7, 218, 222, 0, 0), (218, .iconst 0, 219, 0, 0, 0), (219, .goto 4, 222, 223, 0, 0), (222, .iconst 1, 223, 0, 0, 0), (223, .iadd, 224, 0, 0, 0), (224, .istore 9, 226, 0, 0, 0), (226, .iinc 10 1, 229, 0, 0, 0), (229, .goto (-188), 232, 41, 0, 0), (232, .ldc2_w 90, 235, 0, 0, -1), (235, .lreturn, 236, 0, 0, 0)]
theorem oX0_placePair_2 : ∀ e ∈ tX0_placePair_2, zgood fRX0 cX0_placePair 15 false e = true := by decide +kernel
def tX0_placePair : List zE := tX0_placePair_0 ++ (tX0_placePair_1 ++ (tX0_placePair_2))
theorem oX0_placePair : ∀ e ∈ tX0_placePair, zgood fRX0 cX0_placePair 15 false e = true := (zapp oX0_placePair_0 (zapp oX0_placePair_1 oX0_placePair_2))
def tX1_isPair : List zE := [(0, .iload_n 0, 1, 0, 0, 0), (1, .iconst 2, 2, 0, 0, 0), (2, .if_icmp .lt 13, 5, 15, 0, 0), (5, .iload_n 0, 6, 0, 0, 0), (6, .bipush 6, 8, 0, 0, 0), (8, .if_icmp .gt 7, 11, 15, 0, 0), (11, .iconst 1, 12, 0, 0, 0), (12, .goto 4, 15, 16, 0, 0), (15, .iconst 0, 16, 0, 0, 0), (16, .ireturn, 17, 0, 0, 0)]
theorem oX1_isPair : ∀ e ∈ tX1_isPair, zgood fRX1 cX1_isPair 1 false e = true := by decide +kernel
def tX1_isPrefix : List zE := [(0, .iload_n 0, 1, 0, 0, 0), (1, .bipush 7, 3, 0, 0, 0), (3, .if_icmp .eq 9, 6, 12, 0, 0), (6, .iload_n 0, 7, 0, 0, 0), (7, .bipush 9, 9, 0, 0, 0), (9, .if_icmp .ne 7, 12, 16, 0, 0), (12, .iconst 1, 13, 0, 0, 0), (13, .goto 4, 16, 17, 0, 0), (16, .iconst 0, 17, 0, 0, 0), (17, .ireturn, 18, 0, 0, 0)]
theorem oX1_isPrefix : ∀ e ∈ tX1_isPrefix, zgood fRX1 cX1_isPrefix 1 false e = true := by decide +kernel
def tX1_hasBit : List zE := [(0, .iload_n 0, 1, 0, 0, 0), (1, .iload_n 1, 2, 0, 0, 0), (2, .ishr, 3, 0, 0, 0), (3, .iconst 1, 4, 0, 0, 0), (4, .iand, 5, 0, 0, 0), (5, .ifCond .eq 7, 8, 12, 0, 0), (8, .iconst 1, 9, 0, 0, 0), (9, .goto 4, 12, 13, 0, 0), (12, .iconst 0, 13, 0, 0, 0), (13, .ireturn, 14, 0, 0, 0)]
theorem oX1_hasBit : ∀ e ∈ tX1_hasBit, zgood fRX1 cX1_hasBit 2 false e = true := by decide +kernel
def tX1_withBit : List zE := [(0, .iload_n 2, 1, 0, 0, 0), (1, .ifCond .eq 11, 4, 12, 0, 0), (4, .iload_n 0, 5, 0, 0, 0), (5, .iconst 1, 6, 0, 0, 0), (6, .iload_n 1, 7, 0, 0, 0), (7, .ishl, 8, 0, 0, 0), (8, .ior, 9, 0, 0, 0), (9, .goto 10, 12, 19, 0, 0), (12, .iload_n 0, 13, 0, 0, 0), (13, .iconst 1, 14, 0, 0, 0), (14, .iload_n 1, 15, 0, 0, 0), (15, .ishl, 16, 0, 0, 0), (16, .iconst (-1), 17, 0, 0, 0), (17, .ixor, 18, 0, 0, 0), (18, .iand, 19, 0, 0, 0), (19, .ireturn, 20, 0, 0, 0)]
theorem oX1_withBit : ∀ e ∈ tX1_withBit, zgood fRX1 cX1_withBit 3 false e = true := by decide +kernel
def tX1_isDoubtful : List zE := [(0, .iload_n 1, 1, 0, 0, 0), (1, .invokestatic 9, 4, 18, 1, 0), (4, .ifCond .eq 23, 7, 27, 0, 0), (7, .iload_n 0, 8, 0, 0, 0), (8, .invokestatic 9, 11, 18, 1, 0), (11, .ifCond .ne 10, 14, 21, 0, 0), (14, .iload_n 0, 15, 0, 0, 0), (15, .invokestatic 15, 18, 19, 1, 0), (18, .ifCond .eq 7, 21, 25, 0, 0), (21, .iconst 1, 22, 0, 0, 0), (22, .goto 4, 25, 26, 0, 0), (25, .iconst 0, 26, 0, 0, 0), (26, .ireturn, 27, 0, 0, 0), (27, .iload_n 2, 28, 0, 0, 0), (28, .ifCond .eq 21, 31, 49, 0, 0), (31, .iload_n 1, 32, 0, 0, 0), (32, .invokestatic 15, 35, 19, 1, 0), (35, .ifCond .eq 14, 38, 49, 0, 0), (38, .iload_n 0, 39, 0, 0, 0), (39, .invokestatic 9, 42, 18, 1, 0), (42, .ifCond .eq 7, 45, 49, 0, 0), (45, .iconst 1, 46, 0, 0, 0), (46, .goto 4, 49, 50, 0, 0), (49, .iconst 0, 50, 0, 0, 0), (50, .ireturn, 51, 0, 0, 0)]
theorem oX1_isDoubtful : ∀ e ∈ tX1_isDoubtful, zgood fRX1 cX1_isDoubtful 3 false e = true := by decide +kernel
def tX2_init_0 : List zE := [(0, .aload_n 0, 1, 0, 0, 0), (1, .invokespecial 3, 4, 9999, 0, 0), (4, .aload_n 0, 5, 0, 0, 0), (5, .bipush 120, 7, 0, 0, 0), (7, .newarray .int, 9, 0, 0, 0), (9, .putfield 9, 12, 1, 0, 0), (12, .aload_n 0, 13, 0, 0, 0), (13, .bipush 120, 15, 0, 0, 0), (15, .newarray .int, 17, 0, 0, 0), (17, .putfield 15, 20, 1, 1, 0), (20, .aload_n 0, 21, 0, 0, 0), (21, .bipush 120, 23, 0, 0, 0), (23, .newarray .int, 25, 0, 0, 0), (25, .putfield 18, 28, 1, 2, 0), (28, .aload_n 0, 29, 0, 0, 0), (29, .bipush 120, 31, 0, 0, 0), (31, .newarray .int, 33, 0, 0, 0), (33, .putfield 21, 36, 1, 3, 0), (36, .aload_n 0, 37, 0, 0, 0), (37, .bipush 120, 39, 0, 0, 0), (39, .newarray .int, 41, 0, 0, 0), (41, .putfield 24, 44, 1, 4, 0), (44, .aload_n 0, 45, 0, 0, 0), (45, .bipush 120, 47, 0, 0, 0), (47, .newarray .int, 49, 0, 0, 0), (49, .putfield 27, 52, 1, 5, 0), (52, .aload_n 0, 53, 0, 0, 0), (53, .bipush 120, 55, 0, 0, 0), (55, .newarray .int, 57, 0, 0, 0), (57, .putfield 30, 60, 1, 6, 0), (60, .aload_n 0, 61, 0, 0, 0), (61, .bipush 120, 63, 0, 0, 0), (63, .newarray .int, 65, 0, 0, 0), (65, .putfield 33, 68, 1, 7, 0), (68, .aload_n 0, 69, 0, 0, 0), (69, .bipush 120, 71, 0, 0, 0), (71, .newarray .int, 73, 0, 0, 0), (73, .putfield 36, 76, 1, 8, 0), (76, .aload_n 0, 77, 0, 0, 0), (77, .bipush 120, 79, 0, 0, 0), (79, .newarray .int, 81, 0, 0, 0), (81, .putfield 39, 84, 1, 9, 0), (84, .aload_n 0, 85, 0, 0, 0), (85, .bipush 120, 87, 0, 0, 0), (87, .newarray .int, 89, 0, 0, 0), (89, .putfield 42, 92, 1, 10, 0), (92, .aload_n 0, 93, 0, 0, 0), (93, .bipush 120, 95, 0, 0, 0), (95, .newarray .int, 97, 0, 0, 0), (97, .putfield 45, 100, 1, 11, 0)]
theorem oX2_init_0 : ∀ e ∈ tX2_init_0, zgood fRX2 cX2_init 1 true e = true := by decide +kernel
def tX2_init_1 : List zE := [(100, .aload_n 0, 101, 0, 0, 0), (101, .iconst 0, 102, 0, 0, 0), (102, .putfield 48, 105, 1, 12, 0), (105, .return_, 106, 0, 0, 0)]
theorem oX2_init_1 : ∀ e ∈ tX2_init_1, zgood fRX2 cX2_init 1 true e = true := by decide +kernel
def tX2_init : List zE := tX2_init_0 ++ (tX2_init_1)
theorem oX2_init : ∀ e ∈ tX2_init, zgood fRX2 cX2_init 1 true e = true := (zapp oX2_init_0 oX2_init_1)
def tX2_has : List zE := [(0, .iload_n 1, 1, 0, 0, 0), (1, .ifCond .lt 15, 4, 16, 0, 0), (4, .iload_n 1, 5, 0, 0, 0), (5, .aload_n 0, 6, 0, 0, 0), (6, .getfield 48, 9, 1, 12, 0), (9, .if_icmp .ge 7, 12, 16, 0, 0), (12, .iconst 1, 13, 0, 0, 0), (13, .goto 4, 16, 17, 0, 0), (16, .iconst 0, 17, 0, 0, 0), (17, .ireturn, 18, 0, 0, 0)]
theorem oX2_has : ∀ e ∈ tX2_has, zgood fRX2 cX2_has 2 false e = true := by decide +kernel
def tX2_isFull : List zE := [(0, .aload_n 0, 1, 0, 0, 0), (1, .getfield 48, 4, 1, 12, 0), (4, .bipush 120, 6, 0, 0, 0), (6, .if_icmp .lt 7, 9, 13, 0, 0), (9, .iconst 1, 10, 0, 0, 0), (10, .goto 4, 13, 14, 0, 0), (13, .iconst 0, 14, 0, 0, 0), (14, .ireturn, 15, 0, 0, 0)]
theorem oX2_isFull : ∀ e ∈ tX2_isFull, zgood fRX2 cX2_isFull 1 false e = true := by decide +kernel
def tX2_sizeOf : List zE := [(0, .aload_n 0, 1, 0, 0, 0), (1, .iload_n 1, 2, 0, 0, 0), (2, .invokevirtual 52, 5, 24, 1, 0), (5, .ifCond .eq 12, 8, 17, 0, 0), (8, .aload_n 0, 9, 0, 0, 0), (9, .getfield 24, 12, 1, 4, 0), (12, .iload_n 1, 13, 0, 0, 0), (13, .iaload, 14, 0, 0, 0), (14, .goto 4, 17, 18, 0, 0), (17, .iconst 0, 18, 0, 0, 0), (18, .ireturn, 19, 0, 0, 0)]
theorem oX2_sizeOf : ∀ e ∈ tX2_sizeOf, zgood fRX2 cX2_sizeOf 2 false e = true := by decide +kernel
def tX2_partOf : List zE := [(0, .aload_n 0, 1, 0, 0, 0), (1, .iload_n 1, 2, 0, 0, 0), (2, .invokevirtual 52, 5, 24, 1, 0), (5, .ifCond .eq 13, 8, 18, 0, 0), (8, .iload_n 2, 9, 0, 0, 0), (9, .iconst 1, 10, 0, 0, 0), (10, .if_icmp .lt 8, 13, 18, 0, 0), (13, .iload_n 2, 14, 0, 0, 0), (14, .iconst 2, 15, 0, 0, 0), (15, .if_icmp .le 5, 18, 20, 0, 0), (18, .iconst (-1), 19, 0, 0, 0), (19, .ireturn, 20, 0, 0, 0), (20, .iload_n 2, 21, 0, 0, 0), (21, .iconst 1, 22, 0, 0, 0), (22, .if_icmp .ne 12, 25, 34, 0, 0), (25, .aload_n 0, 26, 0, 0, 0), (26, .getfield 18, 29, 1, 2, 0), (29, .iload_n 1, 30, 0, 0, 0), (30, .iaload, 31, 0, 0, 0), (31, .goto 9, 34, 40, 0, 0), (34, .aload_n 0, 35, 0, 0, 0), (35, .getfield 21, 38, 1, 3, 0), (38, .iload_n 1, 39, 0, 0, 0), (39, .iaload, 40, 0, 0, 0), (40, .ireturn, 41, 0, 0, 0)]
theorem oX2_partOf : ∀ e ∈ tX2_partOf, zgood fRX2 cX2_partOf 3 false e = true := by decide +kernel
def tX2_put_0 : List zE := [(0, .aload_n 0, 1, 0, 0, 0), (1, .invokevirtual 56, 4, 25, 0, 0), (4, .ifCond .eq 5, 7, 9, 0, 0), (7, .iconst (-1), 8, 0, 0, 0), (8, .ireturn, 9, 0, 0, 0), (9, .aload_n 0, 10, 0, 0, 0), (10, .getfield 48, 13, 1, 12, 0), (13, .istore 5, 15, 0, 0, 0), (15, .aload_n 0, 16, 0, 0, 0), (16, .getfield 9, 19, 1, 0, 0), (19, .iload 5, 21, 0, 0, 0), (21, .iload_n 1, 22, 0, 0, 0), (22, .iastore, 23, 0, 0, 0), (23, .aload_n 0, 24, 0, 0, 0), (24, .getfield 15, 27, 1, 1, 0), (27, .iload 5, 29, 0, 0, 0), (29, .iload_n 2, 30, 0, 0, 0), (30, .iastore, 31, 0, 0, 0), (31, .aload_n 0, 32, 0, 0, 0), (32, .getfield 18, 35, 1, 2, 0), (35, .iload 5, 37, 0, 0, 0), (37, .iload_n 3, 38, 0, 0, 0), (38, .iastore, 39, 0, 0, 0), (39, .aload_n 0, 40, 0, 0, 0), (40, .getfield 21, 43, 1, 3, 0), (43, .iload 5, 45, 0, 0, 0), (45, .iload 4, 47, 0, 0, 0), (47, .iastore, 48, 0, 0, 0), (48, .aload_n 0, 49, 0, 0, 0), (49, .getfield 24, 52, 1, 4, 0), (52, .iload 5, 54, 0, 0, 0), (54, .iconst 1, 55, 0, 0, 0), (55, .iastore, 56, 0, 0, 0), (56, .aload_n 0, 57, 0, 0, 0), (57, .getfield 27, 60, 1, 5, 0), (60, .iload 5, 62, 0, 0, 0), (62, .iconst 1, 63, 0, 0, 0), (63, .iastore, 64, 0, 0, 0), (64, .aload_n 0, 65, 0, 0, 0), (65, .getfield 30, 68, 1, 6, 0), (68, .iload 5, 70, 0, 0, 0), (70, .iload_n 1, 71, 0, 0, 0), (71, .iload_n 2, 72, 0, 0, 0), (72, .invokestatic 60, 75, 30, 2, 0), (75, .iastore, 76, 0, 0, 0), (76, .aload_n 0, 77, 0, 0, 0), (77, .getfield 33, 80, 1, 7, 0), (80, .iload 5, 82, 0, 0, 0), (82, .sipush 764, 85, 0, 0, 0), (85, .iload_n 1, 86, 0, 0, 0)]
theorem oX2_put_0 : ∀ e ∈ tX2_put_0, zgood fRX2 cX2_put 6 false e = true := by decide +kernel
def tX2_put_1 : List zE := [(86, .invokestatic 64, 89, 20, 2, 0), (89, .ifCond .eq 7, 92, 96, 0, 0), (92, .iconst 1, 93, 0, 0, 0), (93, .goto 4, 96, 97, 0, 0), (96, .iconst 0, 97, 0, 0, 0), (97, .iastore, 98, 0, 0, 0), (98, .aload_n 0, 99, 0, 0, 0), (99, .getfield 36, 102, 1, 8, 0), (102, .iload 5, 104, 0, 0, 0), (104, .iload_n 1, 105, 0, 0, 0), (105, .ifCond .ne 9, 108, 114, 0, 0), (108, .iconst 1, 109, 0, 0, 0), (109, .iload_n 2, 110, 0, 0, 0), (110, .ishl, 111, 0, 0, 0), (111, .goto 4, 114, 115, 0, 0), (114, .iconst 0, 115, 0, 0, 0), (115, .iastore, 116, 0, 0, 0), (116, .aload_n 0, 117, 0, 0, 0), (117, .getfield 39, 120, 1, 9, 0), (120, .iload 5, 122, 0, 0, 0), (122, .iload_n 1, 123, 0, 0, 0), (123, .bipush 9, 125, 0, 0, 0), (125, .if_icmp .ne 9, 128, 134, 0, 0), (128, .iconst 1, 129, 0, 0, 0), (129, .iload_n 2, 130, 0, 0, 0), (130, .ishl, 131, 0, 0, 0), (131, .goto 4, 134, 135, 0, 0), (134, .iconst 0, 135, 0, 0, 0), (135, .iastore, 136, 0, 0, 0), (136, .aload_n 0, 137, 0, 0, 0), (137, .iload 5, 139, 0, 0, 0), (139, .iload_n 3, 140, 0, 0, 0), (140, .invokevirtual 70, 143, 29, 2, 0), (143, .aload_n 0, 144, 0, 0, 0), (144, .iload 5, 146, 0, 0, 0), (146, .iload 4, 148, 0, 0, 0), (148, .invokevirtual 70, 151, 29, 2, 0), (151, .aload_n 0, 152, 0, 0, 0), (152, .getfield 42, 155, 1, 10, 0), (155, .iload 5, 157, 0, 0, 0), (157, .aload_n 0, 158, 0, 0, 0), (158, .iload 5, 160, 0, 0, 0), (160, .invokevirtual 74, 163, 31, 1, 0), (163, .iastore, 164, 0, 0, 0), (164, .aload_n 0, 165, 0, 0, 0), (165, .dup, 166, 0, 0, 0), (166, .getfield 48, 169, 1, 12, 0), (169, .iconst 1, 170, 0, 0, 0), (170, .iadd, 171, 0, 0, 0), (171, .putfield 48, 174, 1, 12, 0)]
theorem oX2_put_1 : ∀ e ∈ tX2_put_1, zgood fRX2 cX2_put 6 false e = true := by decide +kernel
def tX2_put_2 : List zE := [(174, .iload 5, 176, 0, 0, 0), (176, .ireturn, 177, 0, 0, 0)]
theorem oX2_put_2 : ∀ e ∈ tX2_put_2, zgood fRX2 cX2_put 6 false e = true := by decide +kernel
def tX2_put : List zE := tX2_put_0 ++ (tX2_put_1 ++ (tX2_put_2))
theorem oX2_put : ∀ e ∈ tX2_put, zgood fRX2 cX2_put 6 false e = true := (zapp oX2_put_0 (zapp oX2_put_1 oX2_put_2))
def tX2_addPart_0 : List zE := [(0, .aload_n 0, 1, 0, 0, 0), (1, .iload_n 2, 2, 0, 0, 0), (2, .invokevirtual 52, 5, 24, 1, 0), (5, .ifCond .ne 4, 8, 9, 0, 0), (8, .return_, 9, 0, 0, 0), (9, .aload_n 0, 10, 0, 0, 0), (10, .getfield 24, 13, 1, 4, 0), (13, .iload_n 1, 14, 0, 0, 0), (14, .dup2, 15, 0, 0, 0), (15, .iaload, 16, 0, 0, 0), (16, .aload_n 0, 17, 0, 0, 0), (17, .getfield 24, 20, 1, 4, 0), (20, .iload_n 2, 21, 0, 0, 0), (21, .iaload, 22, 0, 0, 0), (22, .iadd, 23, 0, 0, 0), (23, .iastore, 24, 0, 0, 0), (24, .aload_n 0, 25, 0, 0, 0), (25, .getfield 27, 28, 1, 5, 0), (28, .iload_n 1, 29, 0, 0, 0), (29, .aload_n 0, 30, 0, 0, 0), (30, .getfield 27, 33, 1, 5, 0), (33, .iload_n 1, 34, 0, 0, 0), (34, .iaload, 35, 0, 0, 0), (35, .iconst 1, 36, 0, 0, 0), (36, .aload_n 0, 37, 0, 0, 0), (37, .getfield 27, 40, 1, 5, 0), (40, .iload_n 2, 41, 0, 0, 0), (41, .iaload, 42, 0, 0, 0), (42, .iadd, 43, 0, 0, 0), (43, .invokestatic 78, 46, 203, 2, 0), (46, .iastore, 47, 0, 0, 0), (47, .aload_n 0, 48, 0, 0, 0), (48, .getfield 30, 51, 1, 6, 0), (51, .iload_n 1, 52, 0, 0, 0), (52, .dup2, 53, 0, 0, 0), (53, .iaload, 54, 0, 0, 0), (54, .aload_n 0, 55, 0, 0, 0), (55, .getfield 30, 58, 1, 6, 0), (58, .iload_n 2, 59, 0, 0, 0), (59, .iaload, 60, 0, 0, 0), (60, .iadd, 61, 0, 0, 0), (61, .iastore, 62, 0, 0, 0), (62, .aload_n 0, 63, 0, 0, 0), (63, .getfield 33, 66, 1, 7, 0), (66, .iload_n 1, 67, 0, 0, 0), (67, .dup2, 68, 0, 0, 0), (68, .iaload, 69, 0, 0, 0), (69, .aload_n 0, 70, 0, 0, 0), (70, .getfield 33, 73, 1, 7, 0), (73, .iload_n 2, 74, 0, 0, 0)]
theorem oX2_addPart_0 : ∀ e ∈ tX2_addPart_0, zgood fRX2 cX2_addPart 3 false e = true := by decide +kernel
def tX2_addPart_1 : List zE := [(74, .iaload, 75, 0, 0, 0), (75, .iadd, 76, 0, 0, 0), (76, .iastore, 77, 0, 0, 0), (77, .aload_n 0, 78, 0, 0, 0), (78, .getfield 36, 81, 1, 8, 0), (81, .iload_n 1, 82, 0, 0, 0), (82, .dup2, 83, 0, 0, 0), (83, .iaload, 84, 0, 0, 0), (84, .aload_n 0, 85, 0, 0, 0), (85, .getfield 36, 88, 1, 8, 0), (88, .iload_n 2, 89, 0, 0, 0), (89, .iaload, 90, 0, 0, 0), (90, .ior, 91, 0, 0, 0), (91, .iastore, 92, 0, 0, 0), (92, .aload_n 0, 93, 0, 0, 0), (93, .getfield 39, 96, 1, 9, 0), (96, .iload_n 1, 97, 0, 0, 0), (97, .dup2, 98, 0, 0, 0), (98, .iaload, 99, 0, 0, 0), (99, .aload_n 0, 100, 0, 0, 0), (100, .getfield 39, 103, 1, 9, 0), (103, .iload_n 2, 104, 0, 0, 0), (104, .iaload, 105, 0, 0, 0), (105, .ior, 106, 0, 0, 0), (106, .iastore, 107, 0, 0, 0), (107, .return_, 108, 0, 0, 0)]
theorem oX2_addPart_1 : ∀ e ∈ tX2_addPart_1, zgood fRX2 cX2_addPart 3 false e = true := by decide +kernel
def tX2_addPart : List zE := tX2_addPart_0 ++ (tX2_addPart_1)
theorem oX2_addPart : ∀ e ∈ tX2_addPart, zgood fRX2 cX2_addPart 3 false e = true := (zapp oX2_addPart_0 oX2_addPart_1)
def tX2_ownWords : List zE := [(0, .iload_n 0, 1, 0, 0, 0), (1, .iconst 1, 2, 0, 0, 0), (2, .if_icmp .ne 36, 5, 38, 0, 0), (5, .iload_n 1, 6, 0, 0, 0), (6, .bipush 10, 8, 0, 0, 0), (8, .if_icmp .ge 7, 11, 15, 0, 0), (11, .iconst 1, 12, 0, 0, 0), (12, .goto 25, 15, 37, 0, 0), (15, .iload_n 1, 16, 0, 0, 0), (16, .bipush 100, 18, 0, 0, 0), (18, .if_icmp .ge 7, 21, 25, 0, 0), (21, .iconst 2, 22, 0, 0, 0), (22, .goto 15, 25, 37, 0, 0), (25, .iload_n 1, 26, 0, 0, 0), (26, .sipush 1000, 29, 0, 0, 0), (29, .if_icmp .ge 7, 32, 36, 0, 0), (32, .iconst 3, 33, 0, 0, 0), (33, .goto 4, 36, 37, 0, 0), (36, .iconst 4, 37, 0, 0, 0), (37, .ireturn, 38, 0, 0, 0), (38, .iload_n 0, 39, 0, 0, 0), (39, .bipush 8, 41, 0, 0, 0), (41, .if_icmp .eq 9, 44, 50, 0, 0), (44, .iload_n 0, 45, 0, 0, 0), (45, .bipush 9, 47, 0, 0, 0), (47, .if_icmp .ne 7, 50, 54, 0, 0), (50, .iconst 2, 51, 0, 0, 0), (51, .goto 4, 54, 55, 0, 0), (54, .iconst 1, 55, 0, 0, 0), (55, .ireturn, 56, 0, 0, 0)]
theorem oX2_ownWords : ∀ e ∈ tX2_ownWords, zgood fRX2 cX2_ownWords 2 false e = true := by decide +kernel
def tX2_firstAlike : List zE := [(0, .iconst 0, 1, 0, 0, 0), (1, .istore_n 2, 2, 0, 0, 0), (2, .iload_n 2, 3, 0, 0, 0), (3, .iload_n 1, 4, 0, 0, 0), (4, .if_icmp .ge 71, 7, 75, 0, 0), (7, .aload_n 0, 8, 0, 0, 0), (8, .iload_n 2, 9, 0, 0, 0), (9, .iload_n 1, 10, 0, 0, 0), (10, .invokevirtual 83, 13, 33, 2, 0), (13, .ifCond .eq 56, 16, 69, 0, 0), (16, .aload_n 0, 17, 0, 0, 0), (17, .aload_n 0, 18, 0, 0, 0), (18, .getfield 18, 21, 1, 2, 0), (21, .iload_n 2, 22, 0, 0, 0), (22, .iaload, 23, 0, 0, 0), (23, .invokevirtual 86, 26, 32, 1, 0), (26, .aload_n 0, 27, 0, 0, 0), (27, .aload_n 0, 28, 0, 0, 0), (28, .getfield 18, 31, 1, 2, 0), (31, .iload_n 1, 32, 0, 0, 0), (32, .iaload, 33, 0, 0, 0), (33, .invokevirtual 86, 36, 32, 1, 0), (36, .if_icmp .ne 33, 39, 69, 0, 0), (39, .aload_n 0, 40, 0, 0, 0), (40, .aload_n 0, 41, 0, 0, 0), (41, .getfield 21, 44, 1, 3, 0), (44, .iload_n 2, 45, 0, 0, 0), (45, .iaload, 46, 0, 0, 0), (46, .invokevirtual 86, 49, 32, 1, 0), (49, .aload_n 0, 50, 0, 0, 0), (50, .aload_n 0, 51, 0, 0, 0), (51, .getfield 21, 54, 1, 3, 0), (54, .iload_n 1, 55, 0, 0, 0), (55, .iaload, 56, 0, 0, 0), (56, .invokevirtual 86, 59, 32, 1, 0), (59, .if_icmp .ne 10, 62, 69, 0, 0), (62, .aload_n 0, 63, 0, 0, 0), (63, .getfield 42, 66, 1, 10, 0), (66, .iload_n 2, 67, 0, 0, 0), (67, .iaload, 68, 0, 0, 0), (68, .ireturn, 69, 0, 0, 0), (69, .iinc 2 1, 72, 0, 0, 0), (72, .goto (-70), 75, 2, 0, 0), (75, .iload_n 1, 76, 0, 0, 0), (76, .ireturn, 77, 0, 0, 0)]
theorem oX2_firstAlike : ∀ e ∈ tX2_firstAlike, zgood fRX2 cX2_firstAlike 3 false e = true := by decide +kernel
def tX2_shapeOf : List zE := [(0, .iload_n 1, 1, 0, 0, 0), (1, .ifCond .lt 11, 4, 12, 0, 0), (4, .iload_n 1, 5, 0, 0, 0), (5, .aload_n 0, 6, 0, 0, 0), (6, .getfield 48, 9, 1, 12, 0), (9, .if_icmp .lt 7, 12, 16, 0, 0), (12, .iconst (-1), 13, 0, 0, 0), (13, .goto 9, 16, 22, 0, 0), (16, .aload_n 0, 17, 0, 0, 0), (17, .getfield 42, 20, 1, 10, 0), (20, .iload_n 1, 21, 0, 0, 0), (21, .iaload, 22, 0, 0, 0), (22, .ireturn, 23, 0, 0, 0)]
theorem oX2_shapeOf : ∀ e ∈ tX2_shapeOf, zgood fRX2 cX2_shapeOf 2 false e = true := by decide +kernel
def tX2_isSameTop : List zE := [(0, .aload_n 0, 1, 0, 0, 0), (1, .getfield 9, 4, 1, 0, 0), (4, .iload_n 1, 5, 0, 0, 0), (5, .iaload, 6, 0, 0, 0), (6, .aload_n 0, 7, 0, 0, 0), (7, .getfield 9, 10, 1, 0, 0), (10, .iload_n 2, 11, 0, 0, 0), (11, .iaload, 12, 0, 0, 0), (12, .if_icmp .ne 22, 15, 34, 0, 0), (15, .aload_n 0, 16, 0, 0, 0), (16, .getfield 15, 19, 1, 1, 0), (19, .iload_n 1, 20, 0, 0, 0), (20, .iaload, 21, 0, 0, 0), (21, .aload_n 0, 22, 0, 0, 0), (22, .getfield 15, 25, 1, 1, 0), (25, .iload_n 2, 26, 0, 0, 0), (26, .iaload, 27, 0, 0, 0), (27, .if_icmp .ne 7, 30, 34, 0, 0), (30, .iconst 1, 31, 0, 0, 0), (31, .goto 4, 34, 35, 0, 0), (34, .iconst 0, 35, 0, 0, 0), (35, .ireturn, 36, 0, 0, 0)]
theorem oX2_isSameTop : ∀ e ∈ tX2_isSameTop, zgood fRX2 cX2_isSameTop 3 false e = true := by decide +kernel
def tX2_isAlike : List zE := [(0, .aload_n 0, 1, 0, 0, 0), (1, .getfield 42, 4, 1, 10, 0), (4, .iload_n 1, 5, 0, 0, 0), (5, .iaload, 6, 0, 0, 0), (6, .aload_n 0, 7, 0, 0, 0), (7, .getfield 42, 10, 1, 10, 0), (10, .iload_n 2, 11, 0, 0, 0), (11, .iaload, 12, 0, 0, 0), (12, .if_icmp .ne 7, 15, 19, 0, 0), (15, .iconst 1, 16, 0, 0, 0), (16, .goto 4, 19, 20, 0, 0), (19, .iconst 0, 20, 0, 0, 0), (20, .ireturn, 21, 0, 0, 0)]
theorem oX2_isAlike : ∀ e ∈ tX2_isAlike, zgood fRX2 cX2_isAlike 3 false e = true := by decide +kernel
def tX2_isRight : List zE := [(0, .aload_n 0, 1, 0, 0, 0), (1, .getfield 36, 4, 1, 8, 0), (4, .iload_n 1, 5, 0, 0, 0), (5, .iaload, 6, 0, 0, 0), (6, .iload_n 2, 7, 0, 0, 0), (7, .iand, 8, 0, 0, 0), (8, .ifCond .ne 20, 11, 28, 0, 0), (11, .aload_n 0, 12, 0, 0, 0), (12, .getfield 39, 15, 1, 9, 0), (15, .iload_n 1, 16, 0, 0, 0), (16, .iaload, 17, 0, 0, 0), (17, .iload_n 2, 18, 0, 0, 0), (18, .iconst (-1), 19, 0, 0, 0), (19, .ixor, 20, 0, 0, 0), (20, .iand, 21, 0, 0, 0), (21, .ifCond .ne 7, 24, 28, 0, 0), (24, .iconst 1, 25, 0, 0, 0), (25, .goto 4, 28, 29, 0, 0), (28, .iconst 0, 29, 0, 0, 0), (29, .ireturn, 30, 0, 0, 0)]
theorem oX2_isRight : ∀ e ∈ tX2_isRight, zgood fRX2 cX2_isRight 3 false e = true := by decide +kernel
def tX2_timesWithin : List zE := [(0, .iconst 0, 1, 0, 0, 0), (1, .istore_n 3, 2, 0, 0, 0), (2, .iload_n 3, 3, 0, 0, 0), (3, .iload_n 1, 4, 0, 0, 0), (4, .if_icmp .gt 51, 7, 55, 0, 0), (7, .aload_n 0, 8, 0, 0, 0), (8, .getfield 45, 11, 1, 11, 0), (11, .iload_n 3, 12, 0, 0, 0), (12, .aload_n 0, 13, 0, 0, 0), (13, .iload_n 3, 14, 0, 0, 0), (14, .iload_n 2, 15, 0, 0, 0), (15, .invokevirtual 89, 18, 34, 2, 0), (18, .ifCond .eq 7, 21, 25, 0, 0), (21, .iconst 1, 22, 0, 0, 0), (22, .goto 4, 25, 26, 0, 0), (25, .iconst 0, 26, 0, 0, 0), (26, .aload_n 0, 27, 0, 0, 0), (27, .aload_n 0, 28, 0, 0, 0), (28, .getfield 18, 31, 1, 2, 0), (31, .iload_n 3, 32, 0, 0, 0), (32, .iaload, 33, 0, 0, 0), (33, .invokevirtual 92, 36, 37, 1, 0), (36, .iadd, 37, 0, 0, 0), (37, .aload_n 0, 38, 0, 0, 0), (38, .aload_n 0, 39, 0, 0, 0), (39, .getfield 21, 42, 1, 3, 0), (42, .iload_n 3, 43, 0, 0, 0), (43, .iaload, 44, 0, 0, 0), (44, .invokevirtual 92, 47, 37, 1, 0), (47, .iadd, 48, 0, 0, 0), (48, .iastore, 49, 0, 0, 0), (49, .iinc 3 1, 52, 0, 0, 0), (52, .goto (-50), 55, 2, 0, 0), (55, .aload_n 0, 56, 0, 0, 0), (56, .getfield 45, 59, 1, 11, 0), (59, .iload_n 1, 60, 0, 0, 0), (60, .iaload, 61, 0, 0, 0), (61, .ireturn, 62, 0, 0, 0)]
theorem oX2_timesWithin : ∀ e ∈ tX2_timesWithin, zgood fRX2 cX2_timesWithin 4 false e = true := by decide +kernel
def tX2_tallyOf : List zE := [(0, .aload_n 0, 1, 0, 0, 0), (1, .iload_n 1, 2, 0, 0, 0), (2, .invokevirtual 52, 5, 24, 1, 0), (5, .ifCond .eq 12, 8, 17, 0, 0), (8, .aload_n 0, 9, 0, 0, 0), (9, .getfield 45, 12, 1, 11, 0), (12, .iload_n 1, 13, 0, 0, 0), (13, .iaload, 14, 0, 0, 0), (14, .goto 4, 17, 18, 0, 0), (17, .iconst 0, 18, 0, 0, 0), (18, .ireturn, 19, 0, 0, 0)]
theorem oX2_tallyOf : ∀ e ∈ tX2_tallyOf, zgood fRX2 cX2_tallyOf 2 false e = true := by decide +kernel
def tX2_firstUnlike_0 : List zE := [(0, .iload_n 1, 1, 0, 0, 0), (1, .istore_n 3, 2, 0, 0, 0), (2, .iload_n 2, 3, 0, 0, 0), (3, .istore 4, 5, 0, 0, 0), (5, .iconst 0, 6, 0, 0, 0), (6, .istore 5, 8, 0, 0, 0), (8, .iconst 1, 9, 0, 0, 0), (9, .istore 6, 11, 0, 0, 0), (11, .iconst 0, 12, 0, 0, 0), (12, .istore 7, 14, 0, 0, 0), (14, .iload 7, 16, 0, 0, 0), (16, .bipush 19, 18, 0, 0, 0), (18, .if_icmp .ge 104, 21, 122, 0, 0), (21, .aload_n 0, 22, 0, 0, 0), (22, .iload_n 3, 23, 0, 0, 0), (23, .invokevirtual 52, 26, 24, 1, 0), (26, .ifCond .eq 22, 29, 48, 0, 0), (29, .aload_n 0, 30, 0, 0, 0), (30, .iload 4, 32, 0, 0, 0), (32, .invokevirtual 52, 35, 24, 1, 0), (35, .ifCond .eq 13, 38, 48, 0, 0), (38, .aload_n 0, 39, 0, 0, 0), (39, .iload_n 3, 40, 0, 0, 0), (40, .iload 4, 42, 0, 0, 0), (42, .invokevirtual 83, 45, 33, 2, 0), (45, .ifCond .ne 6, 48, 51, 0, 0), (48, .iload 5, 50, 0, 0, 0), (50, .ireturn, 51, 0, 0, 0), (51, .aload_n 0, 52, 0, 0, 0), (52, .aload_n 0, 53, 0, 0, 0), (53, .getfield 18, 56, 1, 2, 0), (56, .iload_n 3, 57, 0, 0, 0), (57, .iaload, 58, 0, 0, 0), (58, .invokevirtual 86, 61, 32, 1, 0), (61, .aload_n 0, 62, 0, 0, 0), (62, .aload_n 0, 63, 0, 0, 0), (63, .getfield 18, 66, 1, 2, 0), (66, .iload 4, 68, 0, 0, 0), (68, .iaload, 69, 0, 0, 0), (69, .invokevirtual 86, 72, 32, 1, 0), (72, .if_icmp .eq 7, 75, 79, 0, 0), (75, .iconst 1, 76, 0, 0, 0), (76, .goto 4, 79, 80, 0, 0), (79, .iconst 2, 80, 0, 0, 0), (80, .istore 8, 82, 0, 0, 0), (82, .aload_n 0, 83, 0, 0, 0), (83, .iload_n 3, 84, 0, 0, 0), (84, .iload 8, 86, 0, 0, 0), (86, .invokevirtual 95, 89, 27, 2, 0), (89, .istore_n 3, 90, 0, 0, 0)]
theorem oX2_firstUnlike_0 : ∀ e ∈ tX2_firstUnlike_0, zgood fRX2 cX2_firstUnlike 9 false e = true := by decide +kernel
def tX2_firstUnlike_1 : List zE := [(90, .aload_n 0, 91, 0, 0, 0), (91, .iload 4, 93, 0, 0, 0), (93, .iload 8, 95, 0, 0, 0), (95, .invokevirtual 95, 98, 27, 2, 0), (98, .istore 4, 100, 0, 0, 0), (100, .iload 5, 102, 0, 0, 0), (102, .iload 8, 104, 0, 0, 0), (104, .iload 6, 106, 0, 0, 0), (106, .imul, 107, 0, 0, 0), (107, .iadd, 108, 0, 0, 0), (108, .istore 5, 110, 0, 0, 0), (110, .iload 6, 112, 0, 0, 0), (112, .iconst 3, 113, 0, 0, 0), (113, .imul, 114, 0, 0, 0), (114, .istore 6, 116, 0, 0, 0), (116, .iinc 7 1, 119, 0, 0, 0), (119, .goto (-105), 122, 14, 0, 0), (122, .iload 5, 124, 0, 0, 0), (124, .ireturn, 125, 0, 0, 0)]
theorem oX2_firstUnlike_1 : ∀ e ∈ tX2_firstUnlike_1, zgood fRX2 cX2_firstUnlike 9 false e = true := by decide +kernel
def tX2_firstUnlike : List zE := tX2_firstUnlike_0 ++ (tX2_firstUnlike_1)
theorem oX2_firstUnlike : ∀ e ∈ tX2_firstUnlike, zgood fRX2 cX2_firstUnlike 9 false e = true := (zapp oX2_firstUnlike_0 oX2_firstUnlike_1)
def tX2_differenceOf : List zE := [(0, .aload_n 0, 1, 0, 0, 0), (1, .iload_n 1, 2, 0, 0, 0), (2, .iload_n 2, 3, 0, 0, 0), (3, .bipush 40, 5, 0, 0, 0), (5, .invokevirtual 98, 8, 42, 3, 0), (8, .ireturn, 9, 0, 0, 0)]
theorem oX2_differenceOf : ∀ e ∈ tX2_differenceOf, zgood fRX2 cX2_differenceOf 3 false e = true := by decide +kernel
def tX2_exchangesOf : List zE := [(0, .aload_n 0, 1, 0, 0, 0), (1, .iload_n 1, 2, 0, 0, 0), (2, .iload_n 2, 3, 0, 0, 0), (3, .bipush 40, 5, 0, 0, 0), (5, .invokevirtual 102, 8, 43, 3, 0), (8, .ireturn, 9, 0, 0, 0)]
theorem oX2_exchangesOf : ∀ e ∈ tX2_exchangesOf, zgood fRX2 cX2_exchangesOf 3 false e = true := by decide +kernel
def tX2_layKinds : List zE := [(0, .aload_n 0, 1, 0, 0, 0), (1, .iload_n 1, 2, 0, 0, 0), (2, .aload_n 2, 3, 0, 0, 0), (3, .iconst 0, 4, 0, 0, 0), (4, .bipush 40, 6, 0, 0, 0), (6, .invokevirtual 105, 9, 44, 4, 0), (9, .pop, 10, 0, 0, 0), (10, .return_, 11, 0, 0, 0)]
theorem oX2_layKinds : ∀ e ∈ tX2_layKinds, zgood fRX2 cX2_layKinds 3 false e = true := by decide +kernel
def tX2_difference_0 : List zE := [(0, .aload_n 0, 1, 0, 0, 0), (1, .iload_n 1, 2, 0, 0, 0), (2, .invokevirtual 52, 5, 24, 1, 0), (5, .ifCond .eq 15, 8, 20, 0, 0), (8, .aload_n 0, 9, 0, 0, 0), (9, .iload_n 2, 10, 0, 0, 0), (10, .invokevirtual 52, 13, 24, 1, 0), (13, .ifCond .eq 7, 16, 20, 0, 0), (16, .iload_n 3, 17, 0, 0, 0), (17, .ifCond .gt 5, 20, 22, 0, 0), (20, .iconst 0, 21, 0, 0, 0), (21, .ireturn, 22, 0, 0, 0), (22, .aload_n 0, 23, 0, 0, 0), (23, .getfield 9, 26, 1, 0, 0), (26, .iload_n 1, 27, 0, 0, 0), (27, .iaload, 28, 0, 0, 0), (28, .aload_n 0, 29, 0, 0, 0), (29, .getfield 9, 32, 1, 0, 0), (32, .iload_n 2, 33, 0, 0, 0), (33, .iaload, 34, 0, 0, 0), (34, .if_icmp .eq 17, 37, 51, 0, 0), (37, .aload_n 0, 38, 0, 0, 0), (38, .getfield 24, 41, 1, 4, 0), (41, .iload_n 1, 42, 0, 0, 0), (42, .iaload, 43, 0, 0, 0), (43, .aload_n 0, 44, 0, 0, 0), (44, .getfield 24, 47, 1, 4, 0), (47, .iload_n 2, 48, 0, 0, 0), (48, .iaload, 49, 0, 0, 0), (49, .iadd, 50, 0, 0, 0), (50, .ireturn, 51, 0, 0, 0), (51, .aload_n 0, 52, 0, 0, 0), (52, .getfield 15, 55, 1, 1, 0), (55, .iload_n 1, 56, 0, 0, 0), (56, .iaload, 57, 0, 0, 0), (57, .aload_n 0, 58, 0, 0, 0), (58, .getfield 15, 61, 1, 1, 0), (61, .iload_n 2, 62, 0, 0, 0), (62, .iaload, 63, 0, 0, 0), (63, .if_icmp .ne 7, 66, 70, 0, 0), (66, .iconst 0, 67, 0, 0, 0), (67, .goto 4, 70, 71, 0, 0), (70, .iconst 1, 71, 0, 0, 0), (71, .aload_n 0, 72, 0, 0, 0), (72, .aload_n 0, 73, 0, 0, 0), (73, .getfield 18, 76, 1, 2, 0), (76, .iload_n 1, 77, 0, 0, 0), (77, .iaload, 78, 0, 0, 0), (78, .aload_n 0, 79, 0, 0, 0), (79, .getfield 18, 82, 1, 2, 0)]
theorem oX2_difference_0 : ∀ e ∈ tX2_difference_0, zgood fRX2 cX2_difference 4 false e = true := by decide +kernel
def tX2_difference_1 : List zE := [(82, .iload_n 2, 83, 0, 0, 0), (83, .iaload, 84, 0, 0, 0), (84, .iload_n 3, 85, 0, 0, 0), (85, .iconst 1, 86, 0, 0, 0), (86, .isub, 87, 0, 0, 0), (87, .invokevirtual 98, 90, 42, 3, 0), (90, .iadd, 91, 0, 0, 0), (91, .aload_n 0, 92, 0, 0, 0), (92, .aload_n 0, 93, 0, 0, 0), (93, .getfield 21, 96, 1, 3, 0), (96, .iload_n 1, 97, 0, 0, 0), (97, .iaload, 98, 0, 0, 0), (98, .aload_n 0, 99, 0, 0, 0), (99, .getfield 21, 102, 1, 3, 0), (102, .iload_n 2, 103, 0, 0, 0), (103, .iaload, 104, 0, 0, 0), (104, .iload_n 3, 105, 0, 0, 0), (105, .iconst 1, 106, 0, 0, 0), (106, .isub, 107, 0, 0, 0), (107, .invokevirtual 98, 110, 42, 3, 0), (110, .iadd, 111, 0, 0, 0), (111, .ireturn, 112, 0, 0, 0)]
theorem oX2_difference_1 : ∀ e ∈ tX2_difference_1, zgood fRX2 cX2_difference 4 false e = true := by decide +kernel
def tX2_difference : List zE := tX2_difference_0 ++ (tX2_difference_1)
theorem oX2_difference : ∀ e ∈ tX2_difference, zgood fRX2 cX2_difference 4 false e = true := (zapp oX2_difference_0 oX2_difference_1)
def tX2_exchanges_0 : List zE := [(0, .aload_n 0, 1, 0, 0, 0), (1, .iload_n 1, 2, 0, 0, 0), (2, .invokevirtual 52, 5, 24, 1, 0), (5, .ifCond .eq 15, 8, 20, 0, 0), (8, .aload_n 0, 9, 0, 0, 0), (9, .iload_n 2, 10, 0, 0, 0), (10, .invokevirtual 52, 13, 24, 1, 0), (13, .ifCond .eq 7, 16, 20, 0, 0), (16, .iload_n 3, 17, 0, 0, 0), (17, .ifCond .gt 5, 20, 22, 0, 0), (20, .iconst 0, 21, 0, 0, 0), (21, .ireturn, 22, 0, 0, 0), (22, .aload_n 0, 23, 0, 0, 0), (23, .getfield 9, 26, 1, 0, 0), (26, .iload_n 1, 27, 0, 0, 0), (27, .iaload, 28, 0, 0, 0), (28, .aload_n 0, 29, 0, 0, 0), (29, .getfield 9, 32, 1, 0, 0), (32, .iload_n 2, 33, 0, 0, 0), (33, .iaload, 34, 0, 0, 0), (34, .if_icmp .eq 5, 37, 39, 0, 0), (37, .iconst 1, 38, 0, 0, 0), (38, .ireturn, 39, 0, 0, 0), (39, .aload_n 0, 40, 0, 0, 0), (40, .aload_n 0, 41, 0, 0, 0), (41, .getfield 18, 44, 1, 2, 0), (44, .iload_n 1, 45, 0, 0, 0), (45, .iaload, 46, 0, 0, 0), (46, .aload_n 0, 47, 0, 0, 0), (47, .getfield 18, 50, 1, 2, 0), (50, .iload_n 2, 51, 0, 0, 0), (51, .iaload, 52, 0, 0, 0), (52, .iload_n 3, 53, 0, 0, 0), (53, .iconst 1, 54, 0, 0, 0), (54, .isub, 55, 0, 0, 0), (55, .invokevirtual 102, 58, 43, 3, 0), (58, .aload_n 0, 59, 0, 0, 0), (59, .aload_n 0, 60, 0, 0, 0), (60, .getfield 21, 63, 1, 3, 0), (63, .iload_n 1, 64, 0, 0, 0), (64, .iaload, 65, 0, 0, 0), (65, .aload_n 0, 66, 0, 0, 0), (66, .getfield 21, 69, 1, 3, 0), (69, .iload_n 2, 70, 0, 0, 0), (70, .iaload, 71, 0, 0, 0), (71, .iload_n 3, 72, 0, 0, 0), (72, .iconst 1, 73, 0, 0, 0), (73, .isub, 74, 0, 0, 0), (74, .invokevirtual 102, 77, 43, 3, 0), (77, .iadd, 78, 0, 0, 0)]
theorem oX2_exchanges_0 : ∀ e ∈ tX2_exchanges_0, zgood fRX2 cX2_exchanges 4 false e = true := by decide +kernel
def tX2_exchanges_1 : List zE := [(78, .ireturn, 79, 0, 0, 0)]
theorem oX2_exchanges_1 : ∀ e ∈ tX2_exchanges_1, zgood fRX2 cX2_exchanges 4 false e = true := by decide +kernel
def tX2_exchanges : List zE := tX2_exchanges_0 ++ (tX2_exchanges_1)
theorem oX2_exchanges : ∀ e ∈ tX2_exchanges, zgood fRX2 cX2_exchanges 4 false e = true := (zapp oX2_exchanges_0 oX2_exchanges_1)
def tX2_layKindsFrom : List zE := [(0, .aload_n 0, 1, 0, 0, 0), (1, .iload_n 1, 2, 0, 0, 0), (2, .invokevirtual 52, 5, 24, 1, 0), (5, .ifCond .eq 14, 8, 19, 0, 0), (8, .iload_n 3, 9, 0, 0, 0), (9, .aload_n 2, 10, 0, 0, 0), (10, .arraylength, 11, 0, 0, 0), (11, .if_icmp .ge 8, 14, 19, 0, 0), (14, .iload 4, 16, 0, 0, 0), (16, .ifCond .gt 5, 19, 21, 0, 0), (19, .iload_n 3, 20, 0, 0, 0), (20, .ireturn, 21, 0, 0, 0), (21, .aload_n 2, 22, 0, 0, 0), (22, .iload_n 3, 23, 0, 0, 0), (23, .aload_n 0, 24, 0, 0, 0), (24, .getfield 9, 27, 1, 0, 0), (27, .iload_n 1, 28, 0, 0, 0), (28, .iaload, 29, 0, 0, 0), (29, .iastore, 30, 0, 0, 0), (30, .aload_n 0, 31, 0, 0, 0), (31, .aload_n 0, 32, 0, 0, 0), (32, .getfield 18, 35, 1, 2, 0), (35, .iload_n 1, 36, 0, 0, 0), (36, .iaload, 37, 0, 0, 0), (37, .aload_n 2, 38, 0, 0, 0), (38, .iload_n 3, 39, 0, 0, 0), (39, .iconst 1, 40, 0, 0, 0), (40, .iadd, 41, 0, 0, 0), (41, .iload 4, 43, 0, 0, 0), (43, .iconst 1, 44, 0, 0, 0), (44, .isub, 45, 0, 0, 0), (45, .invokevirtual 105, 48, 44, 4, 0), (48, .istore 5, 50, 0, 0, 0), (50, .aload_n 0, 51, 0, 0, 0), (51, .aload_n 0, 52, 0, 0, 0), (52, .getfield 21, 55, 1, 3, 0), (55, .iload_n 1, 56, 0, 0, 0), (56, .iaload, 57, 0, 0, 0), (57, .aload_n 2, 58, 0, 0, 0), (58, .iload 5, 60, 0, 0, 0), (60, .iload 4, 62, 0, 0, 0), (62, .iconst 1, 63, 0, 0, 0), (63, .isub, 64, 0, 0, 0), (64, .invokevirtual 105, 67, 44, 4, 0), (67, .ireturn, 68, 0, 0, 0)]
theorem oX2_layKindsFrom : ∀ e ∈ tX2_layKindsFrom, zgood fRX2 cX2_layKindsFrom 6 false e = true := by decide +kernel
def tX3_init : List zE := [(0, .aload_n 0, 1, 0, 0, 0), (1, .invokespecial 3, 4, 9999, 0, 0), (4, .aload_n 0, 5, 0, 0, 0), (5, .iconst 0, 6, 0, 0, 0), (6, .putfield 9, 9, 2, 0, 0), (9, .aload_n 0, 10, 0, 0, 0), (10, .iconst (-1), 11, 0, 0, 0), (11, .putfield 15, 14, 2, 1, 0), (14, .aload_n 0, 15, 0, 0, 0), (15, .iconst 0, 16, 0, 0, 0), (16, .putfield 18, 19, 2, 2, 0), (19, .aload_n 0, 20, 0, 0, 0), (20, .iconst 0, 21, 0, 0, 0), (21, .putfield 21, 24, 2, 3, 0), (24, .aload_n 0, 25, 0, 0, 0), (25, .bipush 60, 27, 0, 0, 0), (27, .newarray .int, 29, 0, 0, 0), (29, .putfield 24, 32, 2, 4, 0), (32, .aload_n 0, 33, 0, 0, 0), (33, .iconst 0, 34, 0, 0, 0), (34, .putfield 28, 37, 2, 5, 0), (37, .return_, 38, 0, 0, 0)]
theorem oX3_init : ∀ e ∈ tX3_init, zgood fRX3 cX3_init 1 true e = true := by decide +kernel
def tX3_drop : List zE := [(0, .aload_n 0, 1, 0, 0, 0), (1, .iconst 0, 2, 0, 0, 0), (2, .putfield 9, 5, 2, 0, 0), (5, .return_, 6, 0, 0, 0)]
theorem oX3_drop : ∀ e ∈ tX3_drop, zgood fRX3 cX3_drop 1 false e = true := by decide +kernel
def tX3_holdNode : List zE := [(0, .aload_n 0, 1, 0, 0, 0), (1, .iconst 1, 2, 0, 0, 0), (2, .putfield 9, 5, 2, 0, 0), (5, .aload_n 0, 6, 0, 0, 0), (6, .iload_n 1, 7, 0, 0, 0), (7, .putfield 18, 10, 2, 2, 0), (10, .aload_n 0, 11, 0, 0, 0), (11, .iload_n 2, 12, 0, 0, 0), (12, .putfield 15, 15, 2, 1, 0), (15, .aload_n 0, 16, 0, 0, 0), (16, .iload_n 3, 17, 0, 0, 0), (17, .putfield 21, 20, 2, 3, 0), (20, .return_, 21, 0, 0, 0)]
theorem oX3_holdNode : ∀ e ∈ tX3_holdNode, zgood fRX3 cX3_holdNode 4 false e = true := by decide +kernel
def tX3_holdNoughts : List zE := [(0, .aload_n 0, 1, 0, 0, 0), (1, .iload_n 1, 2, 0, 0, 0), (2, .putfield 9, 5, 2, 0, 0), (5, .aload_n 0, 6, 0, 0, 0), (6, .iload_n 2, 7, 0, 0, 0), (7, .putfield 28, 10, 2, 5, 0), (10, .iconst 0, 11, 0, 0, 0), (11, .istore_n 3, 12, 0, 0, 0), (12, .iload_n 3, 13, 0, 0, 0), (13, .bipush 60, 15, 0, 0, 0), (15, .if_icmp .ge 16, 18, 31, 0, 0), (18, .aload_n 0, 19, 0, 0, 0), (19, .getfield 24, 22, 2, 4, 0), (22, .iload_n 3, 23, 0, 0, 0), (23, .iconst 0, 24, 0, 0, 0), (24, .iastore, 25, 0, 0, 0), (25, .iinc 3 1, 28, 0, 0, 0), (28, .goto (-16), 31, 12, 0, 0), (31, .return_, 32, 0, 0, 0)]
theorem oX3_holdNoughts : ∀ e ∈ tX3_holdNoughts, zgood fRX3 cX3_holdNoughts 4 false e = true := by decide +kernel
def tX3_holdRow : List zE := [(0, .aload_n 0, 1, 0, 0, 0), (1, .iload_n 1, 2, 0, 0, 0), (2, .putfield 9, 5, 2, 0, 0), (5, .aload_n 0, 6, 0, 0, 0), (6, .iload_n 3, 7, 0, 0, 0), (7, .putfield 28, 10, 2, 5, 0), (10, .iconst 0, 11, 0, 0, 0), (11, .istore 4, 13, 0, 0, 0), (13, .iload 4, 15, 0, 0, 0), (15, .iload_n 3, 16, 0, 0, 0), (16, .if_icmp .ge 34, 19, 50, 0, 0), (19, .iload 4, 21, 0, 0, 0), (21, .bipush 60, 23, 0, 0, 0), (23, .if_icmp .ge 27, 26, 50, 0, 0), (26, .iload 4, 28, 0, 0, 0), (28, .aload_n 2, 29, 0, 0, 0), (29, .arraylength, 30, 0, 0, 0), (30, .if_icmp .ge 20, 33, 50, 0, 0), (33, .aload_n 0, 34, 0, 0, 0), (34, .getfield 24, 37, 2, 4, 0), (37, .iload 4, 39, 0, 0, 0), (39, .aload_n 2, 40, 0, 0, 0), (40, .iload 4, 42, 0, 0, 0), (42, .iaload, 43, 0, 0, 0), (43, .iastore, 44, 0, 0, 0), (44, .iinc 4 1, 47, 0, 0, 0), (47, .goto (-34), 50, 13, 0, 0), (50, .return_, 51, 0, 0, 0)]
theorem oX3_holdRow : ∀ e ∈ tX3_holdRow, zgood fRX3 cX3_holdRow 5 false e = true := by decide +kernel
def tX3_hasRow : List zE := [(0, .aload_n 0, 1, 0, 0, 0), (1, .getfield 9, 4, 2, 0, 0), (4, .iconst 3, 5, 0, 0, 0), (5, .if_icmp .eq 11, 8, 16, 0, 0), (8, .aload_n 0, 9, 0, 0, 0), (9, .getfield 9, 12, 2, 0, 0), (12, .iconst 4, 13, 0, 0, 0), (13, .if_icmp .ne 7, 16, 20, 0, 0), (16, .iconst 1, 17, 0, 0, 0), (17, .goto 4, 20, 21, 0, 0), (20, .iconst 0, 21, 0, 0, 0), (21, .ireturn, 22, 0, 0, 0)]
theorem oX3_hasRow : ∀ e ∈ tX3_hasRow, zgood fRX3 cX3_hasRow 1 false e = true := by decide +kernel
def tX3_hasSpan : List zE := [(0, .iload_n 1, 1, 0, 0, 0), (1, .ifCond .lt 21, 4, 22, 0, 0), (4, .iload_n 2, 5, 0, 0, 0), (5, .ifCond .lt 17, 8, 22, 0, 0), (8, .iload_n 1, 9, 0, 0, 0), (9, .aload_n 0, 10, 0, 0, 0), (10, .getfield 28, 13, 2, 5, 0), (13, .iload_n 2, 14, 0, 0, 0), (14, .isub, 15, 0, 0, 0), (15, .if_icmp .gt 7, 18, 22, 0, 0), (18, .iconst 1, 19, 0, 0, 0), (19, .goto 4, 22, 23, 0, 0), (22, .iconst 0, 23, 0, 0, 0), (23, .ireturn, 24, 0, 0, 0)]
theorem oX3_hasSpan : ∀ e ∈ tX3_hasSpan, zgood fRX3 cX3_hasSpan 3 false e = true := by decide +kernel
def tX3_weighNode : List zE := [(0, .aload_n 0, 1, 0, 0, 0), (1, .getfield 21, 4, 2, 3, 0), (4, .bipush 10, 6, 0, 0, 0), (6, .iadd, 7, 0, 0, 0), (7, .istore_n 1, 8, 0, 0, 0), (8, .aload_n 0, 9, 0, 0, 0), (9, .getfield 18, 12, 2, 2, 0), (12, .tableswitch 74 1 9 #[52, 74, 74, 74, 59, 59, 74, 64, 68], 64, 0, 0, 0), (64, .iload_n 1, 65, 0, 0, 0), (65, .aload_n 0, 66, 0, 0, 0), (66, .getfield 15, 69, 2, 1, 0), (69, .iadd, 70, 0, 0, 0), (70, .ireturn, 71, 0, 0, 0), (71, .iload_n 1, 72, 0, 0, 0), (72, .bipush 100, 74, 0, 0, 0), (74, .iadd, 75, 0, 0, 0), (75, .ireturn, 76, 0, 0, 0), (76, .iload_n 1, 77, 0, 0, 0), (77, .iconst 2, 78, 0, 0, 0), (78, .imul, 79, 0, 0, 0), (79, .ireturn, 80, 0, 0, 0), (80, .iload_n 1, 81, 0, 0, 0), (81, .sipush 1000, 84, 0, 0, 0), (84, .iadd, 85, 0, 0, 0), (85, .ireturn, 86, 0, 0, 0), (86, .iload_n 1, 87, 0, 0, 0), (87, .ireturn, 88, 0, 0, 0)]
theorem oX3_weighNode : ∀ e ∈ tX3_weighNode, zgood fRX3 cX3_weighNode 2 false e = true := by decide +kernel
def tX4_init : List zE := [(0, .aload_n 0, 1, 0, 0, 0), (1, .invokespecial 3, 4, 9999, 0, 0), (4, .aload_n 0, 5, 0, 0, 0), (5, .bipush 80, 7, 0, 0, 0), (7, .newarray .int, 9, 0, 0, 0), (9, .putfield 9, 12, 3, 0, 0), (12, .aload_n 0, 13, 0, 0, 0), (13, .iconst 0, 14, 0, 0, 0), (14, .putfield 15, 17, 3, 1, 0), (17, .aload_n 0, 18, 0, 0, 0), (18, .iconst 0, 19, 0, 0, 0), (19, .putfield 19, 22, 3, 2, 0), (22, .aload_n 0, 23, 0, 0, 0), (23, .iconst 0, 24, 0, 0, 0), (24, .putfield 22, 27, 3, 3, 0), (27, .return_, 28, 0, 0, 0)]
theorem oX4_init : ∀ e ∈ tX4_init, zgood fRX4 cX4_init 1 true e = true := by decide +kernel
def tX4_isTooLong : List zE := [(0, .aload_n 0, 1, 0, 0, 0), (1, .getfield 15, 4, 3, 1, 0), (4, .bipush 80, 6, 0, 0, 0), (6, .if_icmp .le 7, 9, 13, 0, 0), (9, .iconst 1, 10, 0, 0, 0), (10, .goto 4, 13, 14, 0, 0), (13, .iconst 0, 14, 0, 0, 0), (14, .ireturn, 15, 0, 0, 0)]
theorem oX4_isTooLong : ∀ e ∈ tX4_isTooLong, zgood fRX4 cX4_isTooLong 1 false e = true := by decide +kernel
def tX4_sayInStyle : List zE := [(0, .aload_n 0, 1, 0, 0, 0), (1, .iconst 0, 2, 0, 0, 0), (2, .putfield 15, 5, 3, 1, 0), (5, .aload_n 0, 6, 0, 0, 0), (6, .iload_n 3, 7, 0, 0, 0), (7, .putfield 19, 10, 3, 2, 0), (10, .aload_n 0, 11, 0, 0, 0), (11, .iconst 0, 12, 0, 0, 0), (12, .putfield 22, 15, 3, 3, 0), (15, .aload_n 0, 16, 0, 0, 0), (16, .aload_n 1, 17, 0, 0, 0), (17, .iload_n 2, 18, 0, 0, 0), (18, .iload_n 3, 19, 0, 0, 0), (19, .aload_n 1, 20, 0, 0, 0), (20, .getfield 26, 23, 1, 0, 0), (23, .iload_n 2, 24, 0, 0, 0), (24, .iaload, 25, 0, 0, 0), (25, .invokestatic 31, 28, 20, 2, 0), (28, .iload 4, 30, 0, 0, 0), (30, .invokevirtual 37, 33, 58, 4, 0), (33, .return_, 34, 0, 0, 0)]
theorem oX4_sayInStyle : ∀ e ∈ tX4_sayInStyle, zgood fRX4 cX4_sayInStyle 5 false e = true := by decide +kernel
def tX4_saySparingly : List zE := [(0, .aload_n 0, 1, 0, 0, 0), (1, .iconst 0, 2, 0, 0, 0), (2, .putfield 15, 5, 3, 1, 0), (5, .aload_n 0, 6, 0, 0, 0), (6, .iconst 1, 7, 0, 0, 0), (7, .putfield 22, 10, 3, 3, 0), (10, .aload_n 0, 11, 0, 0, 0), (11, .aload_n 1, 12, 0, 0, 0), (12, .iload_n 2, 13, 0, 0, 0), (13, .iconst 0, 14, 0, 0, 0), (14, .bipush 40, 16, 0, 0, 0), (16, .invokevirtual 37, 19, 58, 4, 0), (19, .return_, 20, 0, 0, 0)]
theorem oX4_saySparingly : ∀ e ∈ tX4_saySparingly, zgood fRX4 cX4_saySparingly 3 false e = true := by decide +kernel
def tX4_isSameAs : List zE := [(0, .aload_n 0, 1, 0, 0, 0), (1, .getfield 15, 4, 3, 1, 0), (4, .aload_n 1, 5, 0, 0, 0), (5, .getfield 15, 8, 3, 1, 0), (8, .if_icmp .ne 10, 11, 18, 0, 0), (11, .aload_n 0, 12, 0, 0, 0), (12, .invokevirtual 41, 15, 54, 0, 0), (15, .ifCond .eq 5, 18, 20, 0, 0), (18, .iconst 0, 19, 0, 0, 0), (19, .ireturn, 20, 0, 0, 0), (20, .iconst 0, 21, 0, 0, 0), (21, .istore_n 2, 22, 0, 0, 0), (22, .iload_n 2, 23, 0, 0, 0), (23, .aload_n 0, 24, 0, 0, 0), (24, .getfield 15, 27, 3, 1, 0), (27, .if_icmp .ge 26, 30, 53, 0, 0), (30, .aload_n 0, 31, 0, 0, 0), (31, .getfield 9, 34, 3, 0, 0), (34, .iload_n 2, 35, 0, 0, 0), (35, .iaload, 36, 0, 0, 0), (36, .aload_n 1, 37, 0, 0, 0), (37, .getfield 9, 40, 3, 0, 0), (40, .iload_n 2, 41, 0, 0, 0), (41, .iaload, 42, 0, 0, 0), (42, .if_icmp .eq 5, 45, 47, 0, 0), (45, .iconst 0, 46, 0, 0, 0), (46, .ireturn, 47, 0, 0, 0), (47, .iinc 2 1, 50, 0, 0, 0), (50, .goto (-28), 53, 22, 0, 0), (53, .iconst 1, 54, 0, 0, 0), (54, .ireturn, 55, 0, 0, 0)]
theorem oX4_isSameAs : ∀ e ∈ tX4_isSameAs, zgood fRX4 cX4_isSameAs 3 false e = true := by decide +kernel
def tX4_tell : List zE := [(0, .aload_n 1, 1, 0, 0, 0), (1, .iload_n 2, 2, 0, 0, 0), (2, .invokevirtual 45, 5, 24, 1, 0), (5, .ifCond .ne 4, 8, 9, 0, 0), (8, .return_, 9, 0, 0, 0), (9, .iload 4, 11, 0, 0, 0), (11, .ifCond .ge 9, 14, 20, 0, 0), (14, .aload_n 0, 15, 0, 0, 0), (15, .iconst 0, 16, 0, 0, 0), (16, .invokevirtual 49, 19, 62, 1, 0), (19, .return_, 20, 0, 0, 0), (20, .iload_n 3, 21, 0, 0, 0), (21, .ifCond .eq 9, 24, 30, 0, 0), (24, .aload_n 0, 25, 0, 0, 0), (25, .bipush 29, 27, 0, 0, 0), (27, .invokevirtual 49, 30, 62, 1, 0), (30, .aload_n 0, 31, 0, 0, 0), (31, .aload_n 1, 32, 0, 0, 0), (32, .iload_n 2, 33, 0, 0, 0), (33, .iload 4, 35, 0, 0, 0), (35, .invokevirtual 53, 38, 59, 3, 0), (38, .iload_n 3, 39, 0, 0, 0), (39, .ifCond .eq 9, 42, 48, 0, 0), (42, .aload_n 0, 43, 0, 0, 0), (43, .bipush 30, 45, 0, 0, 0), (45, .invokevirtual 49, 48, 62, 1, 0), (48, .return_, 49, 0, 0, 0)]
theorem oX4_tell : ∀ e ∈ tX4_tell, zgood fRX4 cX4_tell 5 false e = true := by decide +kernel
def tX4_tellBare_0 : List zE := [(0, .aload_n 1, 1, 0, 0, 0), (1, .getfield 26, 4, 1, 0, 0), (4, .iload_n 2, 5, 0, 0, 0), (5, .iaload, 6, 0, 0, 0), (6, .istore 4, 8, 0, 0, 0), (8, .aload_n 1, 9, 0, 0, 0), (9, .getfield 57, 12, 1, 2, 0), (12, .iload_n 2, 13, 0, 0, 0), (13, .iaload, 14, 0, 0, 0), (14, .istore 5, 16, 0, 0, 0), (16, .aload_n 1, 17, 0, 0, 0), (17, .getfield 60, 20, 1, 3, 0), (20, .iload_n 2, 21, 0, 0, 0), (21, .iaload, 22, 0, 0, 0), (22, .istore 6, 24, 0, 0, 0), (24, .aload_n 0, 25, 0, 0, 0), (25, .aload_n 1, 26, 0, 0, 0), (26, .iload 4, 28, 0, 0, 0), (28, .iload 5, 30, 0, 0, 0), (30, .iconst 1, 31, 0, 0, 0), (31, .invokevirtual 63, 34, 60, 4, 0), (34, .istore 7, 36, 0, 0, 0), (36, .iload 4, 38, 0, 0, 0), (38, .tableswitch 159 0 9 #[54, 67, 159, 159, 159, 159, 159, 80, 101, 128], 92, 0, 0, 0), (92, .aload_n 0, 93, 0, 0, 0), (93, .aload_n 1, 94, 0, 0, 0), (94, .getfield 67, 97, 1, 1, 0), (97, .iload_n 2, 98, 0, 0, 0), (98, .iaload, 99, 0, 0, 0), (99, .invokevirtual 49, 102, 62, 1, 0), (102, .goto 136, 105, 238, 0, 0), (105, .aload_n 0, 106, 0, 0, 0), (106, .aload_n 1, 107, 0, 0, 0), (107, .getfield 67, 110, 1, 1, 0), (110, .iload_n 2, 111, 0, 0, 0), (111, .iaload, 112, 0, 0, 0), (112, .invokevirtual 70, 115, 61, 1, 0), (115, .goto 123, 118, 238, 0, 0), (118, .aload_n 0, 119, 0, 0, 0), (119, .bipush 25, 121, 0, 0, 0), (121, .invokevirtual 49, 124, 62, 1, 0), (124, .aload_n 0, 125, 0, 0, 0), (125, .aload_n 1, 126, 0, 0, 0), (126, .iload 5, 128, 0, 0, 0), (128, .iload 7, 130, 0, 0, 0), (130, .iload_n 3, 131, 0, 0, 0), (131, .iconst 1, 132, 0, 0, 0), (132, .isub, 133, 0, 0, 0), (133, .invokevirtual 37, 136, 58, 4, 0), (136, .goto 102, 139, 238, 0, 0)]
theorem oX4_tellBare_0 : ∀ e ∈ tX4_tellBare_0, zgood fRX4 cX4_tellBare 8 false e = true := by decide +kernel
def tX4_tellBare_1 : List zE := [(139, .aload_n 0, 140, 0, 0, 0), (140, .bipush 26, 142, 0, 0, 0), (142, .invokevirtual 49, 145, 62, 1, 0), (145, .aload_n 0, 146, 0, 0, 0), (146, .aload_n 1, 147, 0, 0, 0), (147, .iload 5, 149, 0, 0, 0), (149, .iload 7, 151, 0, 0, 0), (151, .iload_n 3, 152, 0, 0, 0), (152, .iconst 1, 153, 0, 0, 0), (153, .isub, 154, 0, 0, 0), (154, .invokevirtual 37, 157, 58, 4, 0), (157, .aload_n 0, 158, 0, 0, 0), (158, .bipush 27, 160, 0, 0, 0), (160, .invokevirtual 49, 163, 62, 1, 0), (163, .goto 75, 166, 238, 0, 0), (166, .aload_n 0, 167, 0, 0, 0), (167, .aload_n 1, 168, 0, 0, 0), (168, .getfield 67, 171, 1, 1, 0), (171, .iload_n 2, 172, 0, 0, 0), (172, .iaload, 173, 0, 0, 0), (173, .invokevirtual 49, 176, 62, 1, 0), (176, .aload_n 0, 177, 0, 0, 0), (177, .bipush 28, 179, 0, 0, 0), (179, .invokevirtual 49, 182, 62, 1, 0), (182, .aload_n 0, 183, 0, 0, 0), (183, .aload_n 1, 184, 0, 0, 0), (184, .iload 5, 186, 0, 0, 0), (186, .iload 7, 188, 0, 0, 0), (188, .iload_n 3, 189, 0, 0, 0), (189, .iconst 1, 190, 0, 0, 0), (190, .isub, 191, 0, 0, 0), (191, .invokevirtual 37, 194, 58, 4, 0), (194, .goto 44, 197, 238, 0, 0), (197, .aload_n 0, 198, 0, 0, 0), (198, .aload_n 1, 199, 0, 0, 0), (199, .iload 5, 201, 0, 0, 0), (201, .iload 7, 203, 0, 0, 0), (203, .iload_n 3, 204, 0, 0, 0), (204, .iconst 1, 205, 0, 0, 0), (205, .isub, 206, 0, 0, 0), (206, .invokevirtual 37, 209, 58, 4, 0), (209, .aload_n 0, 210, 0, 0, 0), (210, .bipush 18, 212, 0, 0, 0), (212, .iload 4, 214, 0, 0, 0), (214, .iadd, 215, 0, 0, 0), (215, .invokevirtual 49, 218, 62, 1, 0), (218, .aload_n 0, 219, 0, 0, 0), (219, .aload_n 1, 220, 0, 0, 0), (220, .iload 6, 222, 0, 0, 0), (222, .aload_n 0, 223, 0, 0, 0)]
theorem oX4_tellBare_1 : ∀ e ∈ tX4_tellBare_1, zgood fRX4 cX4_tellBare 8 false e = true := by decide +kernel
def tX4_tellBare_2 : List zE := [(223, .aload_n 1, 224, 0, 0, 0), (224, .iload 4, 226, 0, 0, 0), (226, .iload 6, 228, 0, 0, 0), (228, .iconst 0, 229, 0, 0, 0), (229, .invokevirtual 63, 232, 60, 4, 0), (232, .iload_n 3, 233, 0, 0, 0), (233, .iconst 1, 234, 0, 0, 0), (234, .isub, 235, 0, 0, 0), (235, .invokevirtual 37, 238, 58, 4, 0), (238, .return_, 239, 0, 0, 0)]
theorem oX4_tellBare_2 : ∀ e ∈ tX4_tellBare_2, zgood fRX4 cX4_tellBare 8 false e = true := by decide +kernel
def tX4_tellBare : List zE := tX4_tellBare_0 ++ (tX4_tellBare_1 ++ (tX4_tellBare_2))
theorem oX4_tellBare : ∀ e ∈ tX4_tellBare, zgood fRX4 cX4_tellBare 8 false e = true := (zapp oX4_tellBare_0 (zapp oX4_tellBare_1 oX4_tellBare_2))
def tX4_isPartKept : List zE := [(0, .aload_n 1, 1, 0, 0, 0), (1, .iload_n 3, 2, 0, 0, 0), (2, .invokevirtual 45, 5, 24, 1, 0), (5, .ifCond .ne 5, 8, 10, 0, 0), (8, .iconst 0, 9, 0, 0, 0), (9, .ireturn, 10, 0, 0, 0), (10, .aload_n 1, 11, 0, 0, 0), (11, .getfield 26, 14, 1, 0, 0), (14, .iload_n 3, 15, 0, 0, 0), (15, .iaload, 16, 0, 0, 0), (16, .istore 5, 18, 0, 0, 0), (18, .aload_n 0, 19, 0, 0, 0), (19, .getfield 22, 22, 3, 3, 0), (22, .ifCond .eq 14, 25, 36, 0, 0), (25, .iload_n 2, 26, 0, 0, 0), (26, .iload 5, 28, 0, 0, 0), (28, .iload 4, 30, 0, 0, 0), (30, .invokestatic 73, 33, 22, 3, 0), (33, .goto 12, 36, 45, 0, 0), (36, .aload_n 0, 37, 0, 0, 0), (37, .getfield 19, 40, 3, 2, 0), (40, .iload 5, 42, 0, 0, 0), (42, .invokestatic 31, 45, 20, 2, 0), (45, .ireturn, 46, 0, 0, 0)]
theorem oX4_isPartKept : ∀ e ∈ tX4_isPartKept, zgood fRX4 cX4_isPartKept 6 false e = true := by decide +kernel
def tX4_addDigits : List zE := [(0, .iload_n 1, 1, 0, 0, 0), (1, .sipush 1000, 4, 0, 0, 0), (4, .if_icmp .lt 9, 7, 13, 0, 0), (7, .sipush 1000, 10, 0, 0, 0), (10, .goto 26, 13, 36, 0, 0), (13, .iload_n 1, 14, 0, 0, 0), (14, .bipush 100, 16, 0, 0, 0), (16, .if_icmp .lt 8, 19, 24, 0, 0), (19, .bipush 100, 21, 0, 0, 0), (21, .goto 15, 24, 36, 0, 0), (24, .iload_n 1, 25, 0, 0, 0), (25, .bipush 10, 27, 0, 0, 0), (27, .if_icmp .lt 8, 30, 35, 0, 0), (30, .bipush 10, 32, 0, 0, 0), (32, .goto 4, 35, 36, 0, 0), (35, .iconst 1, 36, 0, 0, 0), (36, .istore_n 2, 37, 0, 0, 0), (37, .iconst 0, 38, 0, 0, 0), (38, .istore_n 3, 39, 0, 0, 0), (39, .iload_n 3, 40, 0, 0, 0), (40, .iconst 4, 41, 0, 0, 0), (41, .if_icmp .ge 31, 44, 72, 0, 0), (44, .iload_n 2, 45, 0, 0, 0), (45, .ifCond .le 27, 48, 72, 0, 0), (48, .aload_n 0, 49, 0, 0, 0), (49, .bipush 10, 51, 0, 0, 0), (51, .iload_n 1, 52, 0, 0, 0), (52, .iload_n 2, 53, 0, 0, 0), (53, .idiv, 54, 0, 0, 0), (54, .bipush 10, 56, 0, 0, 0), (56, .irem, 57, 0, 0, 0), (57, .iadd, 58, 0, 0, 0), (58, .invokevirtual 49, 61, 62, 1, 0), (61, .iload_n 2, 62, 0, 0, 0), (62, .bipush 10, 64, 0, 0, 0), (64, .idiv, 65, 0, 0, 0), (65, .istore_n 2, 66, 0, 0, 0), (66, .iinc 3 1, 69, 0, 0, 0), (69, .goto (-30), 72, 39, 0, 0), (72, .return_, 73, 0, 0, 0)]
theorem oX4_addDigits : ∀ e ∈ tX4_addDigits, zgood fRX4 cX4_addDigits 4 false e = true := by decide +kernel
def tX4_add : List zE := [(0, .aload_n 0, 1, 0, 0, 0), (1, .getfield 15, 4, 3, 1, 0), (4, .bipush 80, 6, 0, 0, 0), (6, .if_icmp .ge 13, 9, 19, 0, 0), (9, .aload_n 0, 10, 0, 0, 0), (10, .getfield 9, 13, 3, 0, 0), (13, .aload_n 0, 14, 0, 0, 0), (14, .getfield 15, 17, 3, 1, 0), (17, .iload_n 1, 18, 0, 0, 0), (18, .iastore, 19, 0, 0, 0), (19, .aload_n 0, 20, 0, 0, 0), (20, .dup, 21, 0, 0, 0), (21, .getfield 15, 24, 3, 1, 0), (24, .iconst 1, 25, 0, 0, 0), (25, .iadd, 26, 0, 0, 0), (26, .putfield 15, 29, 3, 1, 0), (29, .return_, 30, 0, 0, 0)]
theorem oX4_add : ∀ e ∈ tX4_add, zgood fRX4 cX4_add 2 false e = true := by decide +kernel
def tX5_init : List zE := [(0, .aload_n 0, 1, 0, 0, 0), (1, .invokespecial 3, 4, 9999, 0, 0), (4, .aload_n 0, 5, 0, 0, 0), (5, .bipush 40, 7, 0, 0, 0), (7, .newarray .int, 9, 0, 0, 0), (9, .putfield 9, 12, 4, 0, 0), (12, .aload_n 0, 13, 0, 0, 0), (13, .bipush 40, 15, 0, 0, 0), (15, .newarray .int, 17, 0, 0, 0), (17, .putfield 15, 20, 4, 1, 0), (20, .aload_n 0, 21, 0, 0, 0), (21, .iconst 0, 22, 0, 0, 0), (22, .putfield 18, 25, 4, 2, 0), (25, .aload_n 0, 26, 0, 0, 0), (26, .iconst 0, 27, 0, 0, 0), (27, .putfield 22, 30, 4, 3, 0), (30, .return_, 31, 0, 0, 0)]
theorem oX5_init : ∀ e ∈ tX5_init, zgood fRX5 cX5_init 1 true e = true := by decide +kernel
def tX5_isBegun : List zE := [(0, .aload_n 0, 1, 0, 0, 0), (1, .getfield 18, 4, 4, 2, 0), (4, .ireturn, 5, 0, 0, 0)]
theorem oX5_isBegun : ∀ e ∈ tX5_isBegun, zgood fRX5 cX5_isBegun 1 false e = true := by decide +kernel
def tX5_top : List zE := [(0, .aload_n 0, 1, 0, 0, 0), (1, .getfield 9, 4, 4, 0, 0), (4, .iconst 0, 5, 0, 0, 0), (5, .iaload, 6, 0, 0, 0), (6, .ireturn, 7, 0, 0, 0)]
theorem oX5_top : ∀ e ∈ tX5_top, zgood fRX5 cX5_top 1 false e = true := by decide +kernel
def tX5_here : List zE := [(0, .aload_n 0, 1, 0, 0, 0), (1, .getfield 9, 4, 4, 0, 0), (4, .aload_n 0, 5, 0, 0, 0), (5, .getfield 22, 8, 4, 3, 0), (8, .iaload, 9, 0, 0, 0), (9, .ireturn, 10, 0, 0, 0)]
theorem oX5_here : ∀ e ∈ tX5_here, zgood fRX5 cX5_here 1 false e = true := by decide +kernel
def tX5_beginAt : List zE := [(0, .aload_n 0, 1, 0, 0, 0), (1, .iconst 1, 2, 0, 0, 0), (2, .putfield 18, 5, 4, 2, 0), (5, .aload_n 0, 6, 0, 0, 0), (6, .getfield 9, 9, 4, 0, 0), (9, .iconst 0, 10, 0, 0, 0), (10, .iload_n 1, 11, 0, 0, 0), (11, .iastore, 12, 0, 0, 0), (12, .aload_n 0, 13, 0, 0, 0), (13, .iconst 0, 14, 0, 0, 0), (14, .putfield 22, 17, 4, 3, 0), (17, .return_, 18, 0, 0, 0)]
theorem oX5_beginAt : ∀ e ∈ tX5_beginAt, zgood fRX5 cX5_beginAt 2 false e = true := by decide +kernel
def tX5_stepDown : List zE := [(0, .aload_n 1, 1, 0, 0, 0), (1, .aload_n 0, 2, 0, 0, 0), (2, .invokevirtual 26, 5, 66, 0, 0), (5, .iload_n 2, 6, 0, 0, 0), (6, .invokevirtual 30, 9, 27, 2, 0), (9, .istore_n 3, 10, 0, 0, 0), (10, .iload_n 3, 11, 0, 0, 0), (11, .iconst (-1), 12, 0, 0, 0), (12, .if_icmp .eq 14, 15, 26, 0, 0), (15, .aload_n 0, 16, 0, 0, 0), (16, .getfield 22, 19, 4, 3, 0), (19, .iconst 1, 20, 0, 0, 0), (20, .iadd, 21, 0, 0, 0), (21, .bipush 40, 23, 0, 0, 0), (23, .if_icmp .lt 5, 26, 28, 0, 0), (26, .iconst 0, 27, 0, 0, 0), (27, .ireturn, 28, 0, 0, 0), (28, .aload_n 0, 29, 0, 0, 0), (29, .dup, 30, 0, 0, 0), (30, .getfield 22, 33, 4, 3, 0), (33, .iconst 1, 34, 0, 0, 0), (34, .iadd, 35, 0, 0, 0), (35, .putfield 22, 38, 4, 3, 0), (38, .aload_n 0, 39, 0, 0, 0), (39, .getfield 9, 42, 4, 0, 0), (42, .aload_n 0, 43, 0, 0, 0), (43, .getfield 22, 46, 4, 3, 0), (46, .iload_n 3, 47, 0, 0, 0), (47, .iastore, 48, 0, 0, 0), (48, .aload_n 0, 49, 0, 0, 0), (49, .getfield 15, 52, 4, 1, 0), (52, .aload_n 0, 53, 0, 0, 0), (53, .getfield 22, 56, 4, 3, 0), (56, .iload_n 2, 57, 0, 0, 0), (57, .iastore, 58, 0, 0, 0), (58, .iconst 1, 59, 0, 0, 0), (59, .ireturn, 60, 0, 0, 0)]
theorem oX5_stepDown : ∀ e ∈ tX5_stepDown, zgood fRX5 cX5_stepDown 4 false e = true := by decide +kernel
def tX5_stepUp : List zE := [(0, .aload_n 0, 1, 0, 0, 0), (1, .getfield 22, 4, 4, 3, 0), (4, .ifCond .ne 5, 7, 9, 0, 0), (7, .iconst 0, 8, 0, 0, 0), (8, .ireturn, 9, 0, 0, 0), (9, .aload_n 0, 10, 0, 0, 0), (10, .dup, 11, 0, 0, 0), (11, .getfield 22, 14, 4, 3, 0), (14, .iconst 1, 15, 0, 0, 0), (15, .isub, 16, 0, 0, 0), (16, .putfield 22, 19, 4, 3, 0), (19, .iconst 1, 20, 0, 0, 0), (20, .ireturn, 21, 0, 0, 0)]
theorem oX5_stepUp : ∀ e ∈ tX5_stepUp, zgood fRX5 cX5_stepUp 1 false e = true := by decide +kernel
def tX5_stepBeside : List zE := [(0, .aload_n 0, 1, 0, 0, 0), (1, .getfield 22, 4, 4, 3, 0), (4, .ifCond .ne 5, 7, 9, 0, 0), (7, .iconst 0, 8, 0, 0, 0), (8, .ireturn, 9, 0, 0, 0), (9, .iconst 3, 10, 0, 0, 0), (10, .aload_n 0, 11, 0, 0, 0), (11, .getfield 15, 14, 4, 1, 0), (14, .aload_n 0, 15, 0, 0, 0), (15, .getfield 22, 18, 4, 3, 0), (18, .iaload, 19, 0, 0, 0), (19, .isub, 20, 0, 0, 0), (20, .istore_n 2, 21, 0, 0, 0), (21, .aload_n 1, 22, 0, 0, 0), (22, .aload_n 0, 23, 0, 0, 0), (23, .getfield 9, 26, 4, 0, 0), (26, .aload_n 0, 27, 0, 0, 0), (27, .getfield 22, 30, 4, 3, 0), (30, .iconst 1, 31, 0, 0, 0), (31, .isub, 32, 0, 0, 0), (32, .iaload, 33, 0, 0, 0), (33, .iload_n 2, 34, 0, 0, 0), (34, .invokevirtual 30, 37, 27, 2, 0), (37, .istore_n 3, 38, 0, 0, 0), (38, .iload_n 3, 39, 0, 0, 0), (39, .iconst (-1), 40, 0, 0, 0), (40, .if_icmp .ne 5, 43, 45, 0, 0), (43, .iconst 0, 44, 0, 0, 0), (44, .ireturn, 45, 0, 0, 0), (45, .aload_n 0, 46, 0, 0, 0), (46, .getfield 9, 49, 4, 0, 0), (49, .aload_n 0, 50, 0, 0, 0), (50, .getfield 22, 53, 4, 3, 0), (53, .iload_n 3, 54, 0, 0, 0), (54, .iastore, 55, 0, 0, 0), (55, .aload_n 0, 56, 0, 0, 0), (56, .getfield 15, 59, 4, 1, 0), (59, .aload_n 0, 60, 0, 0, 0), (60, .getfield 22, 63, 4, 3, 0), (63, .iload_n 2, 64, 0, 0, 0), (64, .iastore, 65, 0, 0, 0), (65, .iconst 1, 66, 0, 0, 0), (66, .ireturn, 67, 0, 0, 0)]
theorem oX5_stepBeside : ∀ e ∈ tX5_stepBeside, zgood fRX5 cX5_stepBeside 4 false e = true := by decide +kernel
def tX5_asNumber : List zE := [(0, .iconst 0, 1, 0, 0, 0), (1, .istore_n 1, 2, 0, 0, 0), (2, .aload_n 0, 3, 0, 0, 0), (3, .getfield 22, 6, 4, 3, 0), (6, .bipush 19, 8, 0, 0, 0), (8, .invokestatic 36, 11, 204, 2, 0), (11, .istore_n 2, 12, 0, 0, 0), (12, .iload_n 2, 13, 0, 0, 0), (13, .ifCond .le 20, 16, 33, 0, 0), (16, .iload_n 1, 17, 0, 0, 0), (17, .iconst 3, 18, 0, 0, 0), (18, .imul, 19, 0, 0, 0), (19, .aload_n 0, 20, 0, 0, 0), (20, .getfield 15, 23, 4, 1, 0), (23, .iload_n 2, 24, 0, 0, 0), (24, .iaload, 25, 0, 0, 0), (25, .iadd, 26, 0, 0, 0), (26, .istore_n 1, 27, 0, 0, 0), (27, .iinc 2 (-1), 30, 0, 0, 0), (30, .goto (-18), 33, 12, 0, 0), (33, .iload_n 1, 34, 0, 0, 0), (34, .ireturn, 35, 0, 0, 0)]
theorem oX5_asNumber : ∀ e ∈ tX5_asNumber, zgood fRX5 cX5_asNumber 3 false e = true := by decide +kernel
def tX5_follow : List zE := [(0, .aload_n 0, 1, 0, 0, 0), (1, .aload_n 1, 2, 0, 0, 0), (2, .iload_n 2, 3, 0, 0, 0), (3, .invokevirtual 41, 6, 73, 2, 0), (6, .ifCond .ne 5, 9, 11, 0, 0), (9, .iconst 0, 10, 0, 0, 0), (10, .ireturn, 11, 0, 0, 0), (11, .aload_n 0, 12, 0, 0, 0), (12, .iconst 0, 13, 0, 0, 0), (13, .putfield 22, 16, 4, 3, 0), (16, .iload_n 2, 17, 0, 0, 0), (17, .istore_n 3, 18, 0, 0, 0), (18, .iconst 0, 19, 0, 0, 0), (19, .istore 4, 21, 0, 0, 0), (21, .iload 4, 23, 0, 0, 0), (23, .bipush 19, 25, 0, 0, 0), (25, .if_icmp .gt 26, 28, 51, 0, 0), (28, .iload_n 3, 29, 0, 0, 0), (29, .ifCond .le 22, 32, 51, 0, 0), (32, .aload_n 0, 33, 0, 0, 0), (33, .aload_n 1, 34, 0, 0, 0), (34, .iload_n 3, 35, 0, 0, 0), (35, .iconst 3, 36, 0, 0, 0), (36, .irem, 37, 0, 0, 0), (37, .invokevirtual 45, 40, 68, 2, 0), (40, .pop, 41, 0, 0, 0), (41, .iload_n 3, 42, 0, 0, 0), (42, .iconst 3, 43, 0, 0, 0), (43, .idiv, 44, 0, 0, 0), (44, .istore_n 3, 45, 0, 0, 0), (45, .iinc 4 1, 48, 0, 0, 0), (48, .goto (-27), 51, 21, 0, 0), (51, .iconst 1, 52, 0, 0, 0), (52, .ireturn, 53, 0, 0, 0)]
theorem oX5_follow : ∀ e ∈ tX5_follow, zgood fRX5 cX5_follow 5 false e = true := by decide +kernel
def tX5_leadsSomewhere : List zE := [(0, .aload_n 0, 1, 0, 0, 0), (1, .getfield 9, 4, 4, 0, 0), (4, .iconst 0, 5, 0, 0, 0), (5, .iaload, 6, 0, 0, 0), (6, .istore_n 3, 7, 0, 0, 0), (7, .iload_n 2, 8, 0, 0, 0), (8, .istore 4, 10, 0, 0, 0), (10, .iconst 0, 11, 0, 0, 0), (11, .istore 5, 13, 0, 0, 0), (13, .iload 5, 15, 0, 0, 0), (15, .bipush 19, 17, 0, 0, 0), (17, .if_icmp .gt 30, 20, 47, 0, 0), (20, .iload 4, 22, 0, 0, 0), (22, .ifCond .le 25, 25, 47, 0, 0), (25, .aload_n 1, 26, 0, 0, 0), (26, .iload_n 3, 27, 0, 0, 0), (27, .iload 4, 29, 0, 0, 0), (29, .iconst 3, 30, 0, 0, 0), (30, .irem, 31, 0, 0, 0), (31, .invokevirtual 30, 34, 27, 2, 0), (34, .istore_n 3, 35, 0, 0, 0), (35, .iload 4, 37, 0, 0, 0), (37, .iconst 3, 38, 0, 0, 0), (38, .idiv, 39, 0, 0, 0), (39, .istore 4, 41, 0, 0, 0), (41, .iinc 5 1, 44, 0, 0, 0), (44, .goto (-31), 47, 13, 0, 0), (47, .iload_n 2, 48, 0, 0, 0), (48, .ifCond .lt 12, 51, 60, 0, 0), (51, .iload_n 3, 52, 0, 0, 0), (52, .iconst (-1), 53, 0, 0, 0), (53, .if_icmp .eq 7, 56, 60, 0, 0), (56, .iconst 1, 57, 0, 0, 0), (57, .goto 4, 60, 61, 0, 0), (60, .iconst 0, 61, 0, 0, 0), (61, .ireturn, 62, 0, 0, 0)]
theorem oX5_leadsSomewhere : ∀ e ∈ tX5_leadsSomewhere, zgood fRX5 cX5_leadsSomewhere 6 false e = true := by decide +kernel
def tX6_init_0 : List zE := [(0, .aload_n 0, 1, 0, 0, 0), (1, .invokespecial 1, 4, 9999, 0, 0), (4, .aload_n 0, 5, 0, 0, 0), (5, .new 7, 8, 0, 0, 0), (8, .dup, 9, 0, 0, 0), (9, .invokespecial 9, 12, 23, 0, 0), (12, .putfield 10, 15, 5, 0, 0), (15, .aload_n 0, 16, 0, 0, 0), (16, .new 7, 19, 0, 0, 0), (19, .dup, 20, 0, 0, 0), (20, .invokespecial 9, 23, 23, 0, 0), (23, .putfield 16, 26, 5, 1, 0), (26, .aload_n 0, 27, 0, 0, 0), (27, .new 19, 30, 0, 0, 0), (30, .dup, 31, 0, 0, 0), (31, .invokespecial 21, 34, 53, 0, 0), (34, .putfield 22, 37, 5, 2, 0), (37, .aload_n 0, 38, 0, 0, 0), (38, .new 19, 41, 0, 0, 0), (41, .dup, 42, 0, 0, 0), (42, .invokespecial 21, 45, 53, 0, 0), (45, .putfield 26, 48, 5, 3, 0), (48, .aload_n 0, 49, 0, 0, 0), (49, .new 29, 52, 0, 0, 0), (52, .dup, 53, 0, 0, 0), (53, .invokespecial 31, 56, 0, 0, 0), (56, .putfield 32, 59, 5, 4, 0), (59, .aload_n 0, 60, 0, 0, 0), (60, .new 36, 63, 0, 0, 0), (63, .dup, 64, 0, 0, 0), (64, .invokespecial 38, 67, 63, 0, 0), (67, .putfield 39, 70, 5, 5, 0), (70, .aload_n 0, 71, 0, 0, 0), (71, .bipush 8, 73, 0, 0, 0), (73, .anewarray 43, 76, 0, 0, 0), (76, .putfield 45, 79, 5, 6, 0), (79, .iconst 0, 80, 0, 0, 0), (80, .istore_n 1, 81, 0, 0, 0), (81, .iload_n 1, 82, 0, 0, 0), (82, .bipush 8, 84, 0, 0, 0), (84, .if_icmp .ge 22, 87, 106, 0, 0), (87, .aload_n 0, 88, 0, 0, 0), (88, .getfield 45, 91, 5, 6, 0), (91, .iload_n 1, 92, 0, 0, 0), (92, .new 43, 95, 0, 0, 0), (95, .dup, 96, 0, 0, 0), (96, .invokespecial 49, 99, 45, 0, 0), (99, .aastore, 100, 0, 0, 0), (100, .iinc 1 1, 103, 0, 0, 0), (103, .goto (-22), 106, 81, 0, 0)]
theorem oX6_init_0 : ∀ e ∈ tX6_init_0, zgood fRX6 cX6_init 2 true e = true := by decide +kernel
def tX6_init_1 : List zE := [(106, .aload_n 0, 107, 0, 0, 0), (107, .bipush 8, 109, 0, 0, 0), (109, .newarray .int, 111, 0, 0, 0), (111, .putfield 50, 114, 5, 7, 0), (114, .aload_n 0, 115, 0, 0, 0), (115, .getfield 50, 118, 5, 7, 0), (118, .iconst 0, 119, 0, 0, 0), (119, .sipush 764, 122, 0, 0, 0), (122, .iastore, 123, 0, 0, 0), (123, .aload_n 0, 124, 0, 0, 0), (124, .iconst 0, 125, 0, 0, 0), (125, .putfield 54, 128, 5, 8, 0), (128, .return_, 129, 0, 0, 0)]
theorem oX6_init_1 : ∀ e ∈ tX6_init_1, zgood fRX6 cX6_init 2 true e = true := by decide +kernel
def tX6_init : List zE := tX6_init_0 ++ (tX6_init_1)
theorem oX6_init : ∀ e ∈ tX6_init, zgood fRX6 cX6_init 2 true e = true := (zapp oX6_init_0 oX6_init_1)
def tX6_leaf : List zE := [(0, .iload_n 1, 1, 0, 0, 0), (1, .ifCond .eq 10, 4, 11, 0, 0), (4, .iload_n 1, 5, 0, 0, 0), (5, .iconst 1, 6, 0, 0, 0), (6, .if_icmp .eq 5, 9, 11, 0, 0), (9, .iconst (-1), 10, 0, 0, 0), (10, .ireturn, 11, 0, 0, 0), (11, .iload_n 2, 12, 0, 0, 0), (12, .ifCond .lt 19, 15, 31, 0, 0), (15, .iload_n 2, 16, 0, 0, 0), (16, .iload_n 1, 17, 0, 0, 0), (17, .ifCond .ne 8, 20, 25, 0, 0), (20, .bipush 9, 22, 0, 0, 0), (22, .goto 6, 25, 28, 0, 0), (25, .sipush 9999, 28, 0, 0, 0), (28, .if_icmp .le 5, 31, 33, 0, 0), (31, .iconst (-1), 32, 0, 0, 0), (32, .ireturn, 33, 0, 0, 0), (33, .aload_n 0, 34, 0, 0, 0), (34, .getfield 10, 37, 5, 0, 0), (37, .invokevirtual 58, 40, 25, 0, 0), (40, .ifCond .eq 8, 43, 48, 0, 0), (43, .bipush (-2), 45, 0, 0, 0), (45, .goto 14, 48, 59, 0, 0), (48, .aload_n 0, 49, 0, 0, 0), (49, .getfield 10, 52, 5, 0, 0), (52, .iload_n 1, 53, 0, 0, 0), (53, .iload_n 2, 54, 0, 0, 0), (54, .iconst (-1), 55, 0, 0, 0), (55, .iconst (-1), 56, 0, 0, 0), (56, .invokevirtual 62, 59, 28, 4, 0), (59, .ireturn, 60, 0, 0, 0)]
theorem oX6_leaf : ∀ e ∈ tX6_leaf, zgood fRX6 cX6_leaf 3 false e = true := by decide +kernel
def tX6_node_0 : List zE := [(0, .iload_n 1, 1, 0, 0, 0), (1, .iconst 2, 2, 0, 0, 0), (2, .if_icmp .lt 20, 5, 22, 0, 0), (5, .iload_n 1, 6, 0, 0, 0), (6, .bipush 9, 8, 0, 0, 0), (8, .if_icmp .gt 14, 11, 22, 0, 0), (11, .aload_n 0, 12, 0, 0, 0), (12, .getfield 10, 15, 5, 0, 0), (15, .iload_n 2, 16, 0, 0, 0), (16, .invokevirtual 66, 19, 24, 1, 0), (19, .ifCond .ne 5, 22, 24, 0, 0), (22, .iconst (-1), 23, 0, 0, 0), (23, .ireturn, 24, 0, 0, 0), (24, .iload_n 1, 25, 0, 0, 0), (25, .invokestatic 70, 28, 18, 1, 0), (28, .istore 4, 30, 0, 0, 0), (30, .iload 4, 32, 0, 0, 0), (32, .ifCond .eq 14, 35, 46, 0, 0), (35, .aload_n 0, 36, 0, 0, 0), (36, .getfield 10, 39, 5, 0, 0), (39, .iload_n 3, 40, 0, 0, 0), (40, .invokevirtual 66, 43, 24, 1, 0), (43, .ifCond .eq 16, 46, 59, 0, 0), (46, .iload_n 1, 47, 0, 0, 0), (47, .bipush 9, 49, 0, 0, 0), (49, .if_icmp .ne 12, 52, 61, 0, 0), (52, .iload_n 3, 53, 0, 0, 0), (53, .invokestatic 75, 56, 110, 1, 0), (56, .ifCond .ne 5, 59, 61, 0, 0), (59, .iconst (-1), 60, 0, 0, 0), (60, .ireturn, 61, 0, 0, 0), (61, .aload_n 0, 62, 0, 0, 0), (62, .getfield 10, 65, 5, 0, 0), (65, .invokevirtual 58, 68, 25, 0, 0), (68, .ifCond .eq 6, 71, 74, 0, 0), (71, .bipush (-2), 73, 0, 0, 0), (73, .ireturn, 74, 0, 0, 0), (74, .iload 4, 76, 0, 0, 0), (76, .ifCond .eq 7, 79, 83, 0, 0), (79, .iload_n 3, 80, 0, 0, 0), (80, .goto 4, 83, 84, 0, 0), (83, .iconst (-1), 84, 0, 0, 0), (84, .istore 5, 86, 0, 0, 0), (86, .iconst 1, 87, 0, 0, 0), (87, .aload_n 0, 88, 0, 0, 0), (88, .getfield 10, 91, 5, 0, 0), (91, .iload_n 2, 92, 0, 0, 0), (92, .invokevirtual 78, 95, 26, 1, 0), (95, .iadd, 96, 0, 0, 0), (96, .aload_n 0, 97, 0, 0, 0)]
theorem oX6_node_0 : ∀ e ∈ tX6_node_0, zgood fRX6 cX6_node 6 false e = true := by decide +kernel
def tX6_node_1 : List zE := [(97, .getfield 10, 100, 5, 0, 0), (100, .iload 5, 102, 0, 0, 0), (102, .invokevirtual 78, 105, 26, 1, 0), (105, .iadd, 106, 0, 0, 0), (106, .bipush 40, 108, 0, 0, 0), (108, .if_icmp .le 6, 111, 114, 0, 0), (111, .bipush (-3), 113, 0, 0, 0), (113, .ireturn, 114, 0, 0, 0), (114, .aload_n 0, 115, 0, 0, 0), (115, .getfield 10, 118, 5, 0, 0), (118, .iload_n 1, 119, 0, 0, 0), (119, .iload_n 1, 120, 0, 0, 0), (120, .bipush 9, 122, 0, 0, 0), (122, .if_icmp .ne 7, 125, 129, 0, 0), (125, .iload_n 3, 126, 0, 0, 0), (126, .goto 4, 129, 130, 0, 0), (129, .iconst (-1), 130, 0, 0, 0), (130, .iload_n 2, 131, 0, 0, 0), (131, .iload 5, 133, 0, 0, 0), (133, .invokevirtual 62, 136, 28, 4, 0), (136, .ireturn, 137, 0, 0, 0)]
theorem oX6_node_1 : ∀ e ∈ tX6_node_1, zgood fRX6 cX6_node 6 false e = true := by decide +kernel
def tX6_node : List zE := tX6_node_0 ++ (tX6_node_1)
theorem oX6_node : ∀ e ∈ tX6_node, zgood fRX6 cX6_node 6 false e = true := (zapp oX6_node_0 oX6_node_1)
def tX6_undo : List zE := [(0, .aload_n 0, 1, 0, 0, 0), (1, .getfield 10, 4, 5, 0, 0), (4, .getfield 82, 7, 1, 12, 0), (7, .ifCond .ne 5, 10, 12, 0, 0), (10, .iconst (-1), 11, 0, 0, 0), (11, .ireturn, 12, 0, 0, 0), (12, .aload_n 0, 13, 0, 0, 0), (13, .getfield 39, 16, 5, 5, 0), (16, .invokevirtual 85, 19, 64, 0, 0), (19, .ifCond .eq 25, 22, 44, 0, 0), (22, .aload_n 0, 23, 0, 0, 0), (23, .getfield 39, 26, 5, 5, 0), (26, .invokevirtual 88, 29, 65, 0, 0), (29, .aload_n 0, 30, 0, 0, 0), (30, .getfield 10, 33, 5, 0, 0), (33, .getfield 82, 36, 1, 12, 0), (36, .iconst 1, 37, 0, 0, 0), (37, .isub, 38, 0, 0, 0), (38, .if_icmp .ne 6, 41, 44, 0, 0), (41, .bipush (-3), 43, 0, 0, 0), (43, .ireturn, 44, 0, 0, 0), (44, .aload_n 0, 45, 0, 0, 0), (45, .getfield 10, 48, 5, 0, 0), (48, .dup, 49, 0, 0, 0), (49, .getfield 82, 52, 1, 12, 0), (52, .iconst 1, 53, 0, 0, 0), (53, .isub, 54, 0, 0, 0), (54, .putfield 82, 57, 1, 12, 0), (57, .aload_n 0, 58, 0, 0, 0), (58, .getfield 10, 61, 5, 0, 0), (61, .getfield 82, 64, 1, 12, 0), (64, .ireturn, 65, 0, 0, 0)]
theorem oX6_undo : ∀ e ∈ tX6_undo, zgood fRX6 cX6_undo 1 false e = true := by decide +kernel
def tX6_means : List zE := [(0, .iload_n 1, 1, 0, 0, 0), (1, .invokestatic 75, 4, 110, 1, 0), (4, .ifCond .ne 5, 7, 9, 0, 0), (7, .iconst (-1), 8, 0, 0, 0), (8, .ireturn, 9, 0, 0, 0), (9, .aload_n 0, 10, 0, 0, 0), (10, .getfield 54, 13, 5, 8, 0), (13, .istore_n 3, 14, 0, 0, 0), (14, .aload_n 0, 15, 0, 0, 0), (15, .aload_n 0, 16, 0, 0, 0), (16, .getfield 54, 19, 5, 8, 0), (19, .iload_n 1, 20, 0, 0, 0), (20, .iload_n 2, 21, 0, 0, 0), (21, .invokestatic 92, 24, 21, 3, 0), (24, .putfield 54, 27, 5, 8, 0), (27, .aload_n 0, 28, 0, 0, 0), (28, .getfield 54, 31, 5, 8, 0), (31, .iload_n 3, 32, 0, 0, 0), (32, .if_icmp .ne 7, 35, 39, 0, 0), (35, .iconst 0, 36, 0, 0, 0), (36, .goto 4, 39, 40, 0, 0), (39, .iconst 1, 40, 0, 0, 0), (40, .ireturn, 41, 0, 0, 0)]
theorem oX6_means : ∀ e ∈ tX6_means, zgood fRX6 cX6_means 4 false e = true := by decide +kernel
def tX6_look_0 : List zE := [(0, .aload_n 0, 1, 0, 0, 0), (1, .getfield 10, 4, 5, 0, 0), (4, .iload_n 1, 5, 0, 0, 0), (5, .invokevirtual 66, 8, 24, 1, 0), (8, .ifCond .ne 5, 11, 13, 0, 0), (11, .iconst (-1), 12, 0, 0, 0), (12, .ireturn, 13, 0, 0, 0), (13, .iload_n 2, 14, 0, 0, 0), (14, .tableswitch 132 0 6 #[42, 52, 65, 78, 91, 101, 111], 56, 0, 0, 0), (56, .aload_n 0, 57, 0, 0, 0), (57, .getfield 10, 60, 5, 0, 0), (60, .getfield 96, 63, 1, 0, 0), (63, .iload_n 1, 64, 0, 0, 0), (64, .iaload, 65, 0, 0, 0), (65, .ireturn, 66, 0, 0, 0), (66, .aload_n 0, 67, 0, 0, 0), (67, .getfield 10, 70, 5, 0, 0), (70, .getfield 99, 73, 1, 1, 0), (73, .iload_n 1, 74, 0, 0, 0), (74, .iaload, 75, 0, 0, 0), (75, .invokestatic 102, 78, 114, 1, 0), (78, .ireturn, 79, 0, 0, 0), (79, .aload_n 0, 80, 0, 0, 0), (80, .getfield 10, 83, 5, 0, 0), (83, .getfield 105, 86, 1, 2, 0), (86, .iload_n 1, 87, 0, 0, 0), (87, .iaload, 88, 0, 0, 0), (88, .invokestatic 102, 91, 114, 1, 0), (91, .ireturn, 92, 0, 0, 0), (92, .aload_n 0, 93, 0, 0, 0), (93, .getfield 10, 96, 5, 0, 0), (96, .getfield 108, 99, 1, 3, 0), (99, .iload_n 1, 100, 0, 0, 0), (100, .iaload, 101, 0, 0, 0), (101, .invokestatic 102, 104, 114, 1, 0), (104, .ireturn, 105, 0, 0, 0), (105, .aload_n 0, 106, 0, 0, 0), (106, .getfield 10, 109, 5, 0, 0), (109, .getfield 111, 112, 1, 4, 0), (112, .iload_n 1, 113, 0, 0, 0), (113, .iaload, 114, 0, 0, 0), (114, .ireturn, 115, 0, 0, 0), (115, .aload_n 0, 116, 0, 0, 0), (116, .getfield 10, 119, 5, 0, 0), (119, .getfield 114, 122, 1, 5, 0), (122, .iload_n 1, 123, 0, 0, 0), (123, .iaload, 124, 0, 0, 0), (124, .ireturn, 125, 0, 0, 0), (125, .aload_n 0, 126, 0, 0, 0), (126, .getfield 10, 129, 5, 0, 0)]
theorem oX6_look_0 : ∀ e ∈ tX6_look_0, zgood fRX6 cX6_look 3 false e = true := by decide +kernel
def tX6_look_1 : List zE := [(129, .iload_n 1, 130, 0, 0, 0), (130, .aload_n 0, 131, 0, 0, 0), (131, .getfield 54, 134, 5, 8, 0), (134, .invokevirtual 117, 137, 35, 2, 0), (137, .ifCond .eq 7, 140, 144, 0, 0), (140, .iconst 1, 141, 0, 0, 0), (141, .goto 4, 144, 145, 0, 0), (144, .iconst 0, 145, 0, 0, 0), (145, .ireturn, 146, 0, 0, 0), (146, .iconst (-1), 147, 0, 0, 0), (147, .ireturn, 148, 0, 0, 0)]
theorem oX6_look_1 : ∀ e ∈ tX6_look_1, zgood fRX6 cX6_look 3 false e = true := by decide +kernel
def tX6_look : List zE := tX6_look_0 ++ (tX6_look_1)
theorem oX6_look : ∀ e ∈ tX6_look, zgood fRX6 cX6_look 3 false e = true := (zapp oX6_look_0 oX6_look_1)
def tX6_alike : List zE := [(0, .aload_n 0, 1, 0, 0, 0), (1, .getfield 10, 4, 5, 0, 0), (4, .iload_n 1, 5, 0, 0, 0), (5, .invokevirtual 66, 8, 24, 1, 0), (8, .ifCond .eq 14, 11, 22, 0, 0), (11, .aload_n 0, 12, 0, 0, 0), (12, .getfield 10, 15, 5, 0, 0), (15, .iload_n 2, 16, 0, 0, 0), (16, .invokevirtual 66, 19, 24, 1, 0), (19, .ifCond .ne 5, 22, 24, 0, 0), (22, .iconst (-1), 23, 0, 0, 0), (23, .ireturn, 24, 0, 0, 0), (24, .aload_n 0, 25, 0, 0, 0), (25, .getfield 10, 28, 5, 0, 0), (28, .iload_n 1, 29, 0, 0, 0), (29, .iload_n 2, 30, 0, 0, 0), (30, .invokevirtual 121, 33, 34, 2, 0), (33, .ifCond .eq 7, 36, 40, 0, 0), (36, .iconst 1, 37, 0, 0, 0), (37, .goto 4, 40, 41, 0, 0), (40, .iconst 0, 41, 0, 0, 0), (41, .ireturn, 42, 0, 0, 0)]
theorem oX6_alike : ∀ e ∈ tX6_alike, zgood fRX6 cX6_alike 3 false e = true := by decide +kernel
def tX6_times : List zE := [(0, .aload_n 0, 1, 0, 0, 0), (1, .getfield 10, 4, 5, 0, 0), (4, .iload_n 1, 5, 0, 0, 0), (5, .invokevirtual 66, 8, 24, 1, 0), (8, .ifCond .eq 14, 11, 22, 0, 0), (11, .aload_n 0, 12, 0, 0, 0), (12, .getfield 10, 15, 5, 0, 0), (15, .iload_n 2, 16, 0, 0, 0), (16, .invokevirtual 66, 19, 24, 1, 0), (19, .ifCond .ne 5, 22, 24, 0, 0), (22, .iconst (-1), 23, 0, 0, 0), (23, .ireturn, 24, 0, 0, 0), (24, .aload_n 0, 25, 0, 0, 0), (25, .getfield 10, 28, 5, 0, 0), (28, .iload_n 1, 29, 0, 0, 0), (29, .iload_n 2, 30, 0, 0, 0), (30, .invokevirtual 124, 33, 36, 2, 0), (33, .ireturn, 34, 0, 0, 0)]
theorem oX6_times : ∀ e ∈ tX6_times, zgood fRX6 cX6_times 3 false e = true := by decide +kernel
def tX6_keeps : List zE := [(0, .iload_n 1, 1, 0, 0, 0), (1, .invokestatic 128, 4, 111, 1, 0), (4, .ifCond .eq 23, 7, 27, 0, 0), (7, .iload_n 2, 8, 0, 0, 0), (8, .ifCond .lt 19, 11, 27, 0, 0), (11, .iload_n 2, 12, 0, 0, 0), (12, .bipush 9, 14, 0, 0, 0), (14, .if_icmp .gt 13, 17, 27, 0, 0), (17, .sipush 764, 20, 0, 0, 0), (20, .iload_n 2, 21, 0, 0, 0), (21, .invokestatic 131, 24, 20, 2, 0), (24, .ifCond .ne 5, 27, 29, 0, 0), (27, .iconst (-1), 28, 0, 0, 0), (28, .ireturn, 29, 0, 0, 0), (29, .aload_n 0, 30, 0, 0, 0), (30, .getfield 50, 33, 5, 7, 0), (33, .iload_n 1, 34, 0, 0, 0), (34, .iaload, 35, 0, 0, 0), (35, .istore 4, 37, 0, 0, 0), (37, .aload_n 0, 38, 0, 0, 0), (38, .getfield 50, 41, 5, 7, 0), (41, .iload_n 1, 42, 0, 0, 0), (42, .iload 4, 44, 0, 0, 0), (44, .iload_n 2, 45, 0, 0, 0), (45, .iload_n 3, 46, 0, 0, 0), (46, .invokestatic 92, 49, 21, 3, 0), (49, .iastore, 50, 0, 0, 0), (50, .aload_n 0, 51, 0, 0, 0), (51, .getfield 50, 54, 5, 7, 0), (54, .iload_n 1, 55, 0, 0, 0), (55, .iaload, 56, 0, 0, 0), (56, .iload 4, 58, 0, 0, 0), (58, .if_icmp .ne 7, 61, 65, 0, 0), (61, .iconst 0, 62, 0, 0, 0), (62, .goto 4, 65, 66, 0, 0), (65, .iconst 1, 66, 0, 0, 0), (66, .ireturn, 67, 0, 0, 0)]
theorem oX6_keeps : ∀ e ∈ tX6_keeps, zgood fRX6 cX6_keeps 5 false e = true := by decide +kernel
def tX6_words : List zE := [(0, .iload_n 1, 1, 0, 0, 0), (1, .invokestatic 128, 4, 111, 1, 0), (4, .ifCond .eq 14, 7, 18, 0, 0), (7, .aload_n 0, 8, 0, 0, 0), (8, .getfield 10, 11, 5, 0, 0), (11, .iload_n 2, 12, 0, 0, 0), (12, .invokevirtual 66, 15, 24, 1, 0), (15, .ifCond .ne 5, 18, 20, 0, 0), (18, .iconst (-1), 19, 0, 0, 0), (19, .ireturn, 20, 0, 0, 0), (20, .aload_n 0, 21, 0, 0, 0), (21, .getfield 22, 24, 5, 2, 0), (24, .aload_n 0, 25, 0, 0, 0), (25, .getfield 10, 28, 5, 0, 0), (28, .iload_n 2, 29, 0, 0, 0), (29, .aload_n 0, 30, 0, 0, 0), (30, .getfield 50, 33, 5, 7, 0), (33, .iload_n 1, 34, 0, 0, 0), (34, .iaload, 35, 0, 0, 0), (35, .bipush 40, 37, 0, 0, 0), (37, .invokevirtual 134, 40, 55, 4, 0), (40, .aload_n 0, 41, 0, 0, 0), (41, .getfield 22, 44, 5, 2, 0), (44, .invokevirtual 138, 47, 54, 0, 0), (47, .ifCond .eq 8, 50, 55, 0, 0), (50, .bipush (-5), 52, 0, 0, 0), (52, .goto 10, 55, 62, 0, 0), (55, .aload_n 0, 56, 0, 0, 0), (56, .getfield 22, 59, 5, 2, 0), (59, .getfield 141, 62, 3, 1, 0), (62, .ireturn, 63, 0, 0, 0)]
theorem oX6_words : ∀ e ∈ tX6_words, zgood fRX6 cX6_words 3 false e = true := by decide +kernel
def tX6_word : List zE := [(0, .iload_n 1, 1, 0, 0, 0), (1, .invokestatic 128, 4, 111, 1, 0), (4, .ifCond .eq 18, 7, 22, 0, 0), (7, .aload_n 0, 8, 0, 0, 0), (8, .getfield 10, 11, 5, 0, 0), (11, .iload_n 2, 12, 0, 0, 0), (12, .invokevirtual 66, 15, 24, 1, 0), (15, .ifCond .eq 7, 18, 22, 0, 0), (18, .iload_n 3, 19, 0, 0, 0), (19, .ifCond .ge 5, 22, 24, 0, 0), (22, .iconst (-1), 23, 0, 0, 0), (23, .ireturn, 24, 0, 0, 0), (24, .aload_n 0, 25, 0, 0, 0), (25, .getfield 22, 28, 5, 2, 0), (28, .aload_n 0, 29, 0, 0, 0), (29, .getfield 10, 32, 5, 0, 0), (32, .iload_n 2, 33, 0, 0, 0), (33, .aload_n 0, 34, 0, 0, 0), (34, .getfield 50, 37, 5, 7, 0), (37, .iload_n 1, 38, 0, 0, 0), (38, .iaload, 39, 0, 0, 0), (39, .bipush 40, 41, 0, 0, 0), (41, .invokevirtual 134, 44, 55, 4, 0), (44, .iload_n 3, 45, 0, 0, 0), (45, .aload_n 0, 46, 0, 0, 0), (46, .getfield 22, 49, 5, 2, 0), (49, .getfield 141, 52, 3, 1, 0), (52, .if_icmp .lt 6, 55, 58, 0, 0), (55, .bipush (-2), 57, 0, 0, 0), (57, .ireturn, 58, 0, 0, 0), (58, .aload_n 0, 59, 0, 0, 0), (59, .getfield 22, 62, 5, 2, 0), (62, .invokevirtual 138, 65, 54, 0, 0), (65, .ifCond .eq 8, 68, 73, 0, 0), (68, .bipush (-5), 70, 0, 0, 0), (70, .goto 12, 73, 82, 0, 0), (73, .aload_n 0, 74, 0, 0, 0), (74, .getfield 22, 77, 5, 2, 0), (77, .getfield 144, 80, 3, 0, 0), (80, .iload_n 3, 81, 0, 0, 0), (81, .iaload, 82, 0, 0, 0), (82, .ireturn, 83, 0, 0, 0)]
theorem oX6_word : ∀ e ∈ tX6_word, zgood fRX6 cX6_word 4 false e = true := by decide +kernel
def tX6_sound_0 : List zE := [(0, .iload_n 1, 1, 0, 0, 0), (1, .invokestatic 128, 4, 111, 1, 0), (4, .ifCond .eq 25, 7, 29, 0, 0), (7, .aload_n 0, 8, 0, 0, 0), (8, .getfield 10, 11, 5, 0, 0), (11, .iload_n 2, 12, 0, 0, 0), (12, .invokevirtual 66, 15, 24, 1, 0), (15, .ifCond .eq 14, 18, 29, 0, 0), (18, .aload_n 0, 19, 0, 0, 0), (19, .getfield 10, 22, 5, 0, 0), (22, .iload_n 3, 23, 0, 0, 0), (23, .invokevirtual 66, 26, 24, 1, 0), (26, .ifCond .ne 5, 29, 31, 0, 0), (29, .iconst (-1), 30, 0, 0, 0), (30, .ireturn, 31, 0, 0, 0), (31, .aload_n 0, 32, 0, 0, 0), (32, .getfield 22, 35, 5, 2, 0), (35, .aload_n 0, 36, 0, 0, 0), (36, .getfield 10, 39, 5, 0, 0), (39, .iload_n 2, 40, 0, 0, 0), (40, .aload_n 0, 41, 0, 0, 0), (41, .getfield 50, 44, 5, 7, 0), (44, .iload_n 1, 45, 0, 0, 0), (45, .iaload, 46, 0, 0, 0), (46, .bipush 40, 48, 0, 0, 0), (48, .invokevirtual 134, 51, 55, 4, 0), (51, .aload_n 0, 52, 0, 0, 0), (52, .getfield 26, 55, 5, 3, 0), (55, .aload_n 0, 56, 0, 0, 0), (56, .getfield 10, 59, 5, 0, 0), (59, .iload_n 3, 60, 0, 0, 0), (60, .aload_n 0, 61, 0, 0, 0), (61, .getfield 50, 64, 5, 7, 0), (64, .iload_n 1, 65, 0, 0, 0), (65, .iaload, 66, 0, 0, 0), (66, .bipush 40, 68, 0, 0, 0), (68, .invokevirtual 134, 71, 55, 4, 0), (71, .aload_n 0, 72, 0, 0, 0), (72, .getfield 22, 75, 5, 2, 0), (75, .invokevirtual 138, 78, 54, 0, 0), (78, .ifCond .ne 13, 81, 91, 0, 0), (81, .aload_n 0, 82, 0, 0, 0), (82, .getfield 26, 85, 5, 3, 0), (85, .invokevirtual 138, 88, 54, 0, 0), (88, .ifCond .eq 6, 91, 94, 0, 0), (91, .bipush (-5), 93, 0, 0, 0), (93, .ireturn, 94, 0, 0, 0), (94, .aload_n 0, 95, 0, 0, 0), (95, .getfield 22, 98, 5, 2, 0), (98, .aload_n 0, 99, 0, 0, 0)]
theorem oX6_sound_0 : ∀ e ∈ tX6_sound_0, zgood fRX6 cX6_sound 4 false e = true := by decide +kernel
def tX6_sound_1 : List zE := [(99, .getfield 26, 102, 5, 3, 0), (102, .invokevirtual 147, 105, 57, 1, 0), (105, .ifCond .eq 7, 108, 112, 0, 0), (108, .iconst 1, 109, 0, 0, 0), (109, .goto 4, 112, 113, 0, 0), (112, .iconst 0, 113, 0, 0, 0), (113, .ireturn, 114, 0, 0, 0)]
theorem oX6_sound_1 : ∀ e ∈ tX6_sound_1, zgood fRX6 cX6_sound 4 false e = true := by decide +kernel
def tX6_sound : List zE := tX6_sound_0 ++ (tX6_sound_1)
theorem oX6_sound : ∀ e ∈ tX6_sound, zgood fRX6 cX6_sound 4 false e = true := (zapp oX6_sound_0 oX6_sound_1)
def tX6_clear_0 : List zE := [(0, .iload_n 1, 1, 0, 0, 0), (1, .invokestatic 128, 4, 111, 1, 0), (4, .ifCond .eq 13, 7, 17, 0, 0), (7, .iload_n 2, 8, 0, 0, 0), (8, .iconst 1, 9, 0, 0, 0), (9, .if_icmp .lt 8, 12, 17, 0, 0), (12, .iload_n 2, 13, 0, 0, 0), (13, .iconst 4, 14, 0, 0, 0), (14, .if_icmp .le 5, 17, 19, 0, 0), (17, .iconst (-1), 18, 0, 0, 0), (18, .ireturn, 19, 0, 0, 0), (19, .iload_n 2, 20, 0, 0, 0), (20, .iconst 4, 21, 0, 0, 0), (21, .if_icmp .ge 5, 24, 26, 0, 0), (24, .iconst 1, 25, 0, 0, 0), (25, .ireturn, 26, 0, 0, 0), (26, .iconst 0, 27, 0, 0, 0), (27, .istore_n 3, 28, 0, 0, 0), (28, .iconst 0, 29, 0, 0, 0), (29, .istore 4, 31, 0, 0, 0), (31, .iconst 2, 32, 0, 0, 0), (32, .istore 5, 34, 0, 0, 0), (34, .iload 5, 36, 0, 0, 0), (36, .bipush 9, 38, 0, 0, 0), (38, .if_icmp .gt 78, 41, 116, 0, 0), (41, .aload_n 0, 42, 0, 0, 0), (42, .getfield 50, 45, 5, 7, 0), (45, .iload_n 1, 46, 0, 0, 0), (46, .iaload, 47, 0, 0, 0), (47, .iload 5, 49, 0, 0, 0), (49, .invokestatic 131, 52, 20, 2, 0), (52, .ifCond .ne 7, 55, 59, 0, 0), (55, .iconst 1, 56, 0, 0, 0), (56, .goto 4, 59, 60, 0, 0), (59, .iconst 0, 60, 0, 0, 0), (60, .istore 6, 62, 0, 0, 0), (62, .iload_n 3, 63, 0, 0, 0), (63, .ifCond .ne 16, 66, 79, 0, 0), (66, .iload 6, 68, 0, 0, 0), (68, .ifCond .eq 15, 71, 83, 0, 0), (71, .iload 5, 73, 0, 0, 0), (73, .invokestatic 70, 76, 18, 1, 0), (76, .ifCond .eq 7, 79, 83, 0, 0), (79, .iconst 1, 80, 0, 0, 0), (80, .goto 4, 83, 84, 0, 0), (83, .iconst 0, 84, 0, 0, 0), (84, .istore_n 3, 85, 0, 0, 0), (85, .iload 4, 87, 0, 0, 0), (87, .ifCond .ne 16, 90, 103, 0, 0), (90, .iload 6, 92, 0, 0, 0)]
theorem oX6_clear_0 : ∀ e ∈ tX6_clear_0, zgood fRX6 cX6_clear 7 false e = true := by decide +kernel
def tX6_clear_1 : List zE := [(92, .ifCond .eq 15, 95, 107, 0, 0), (95, .iload 5, 97, 0, 0, 0), (97, .invokestatic 151, 100, 19, 1, 0), (100, .ifCond .eq 7, 103, 107, 0, 0), (103, .iconst 1, 104, 0, 0, 0), (104, .goto 4, 107, 108, 0, 0), (107, .iconst 0, 108, 0, 0, 0), (108, .istore 4, 110, 0, 0, 0), (110, .iinc 5 1, 113, 0, 0, 0), (113, .goto (-79), 116, 34, 0, 0), (116, .iload_n 3, 117, 0, 0, 0), (117, .ifCond .eq 12, 120, 129, 0, 0), (120, .iload 4, 122, 0, 0, 0), (122, .ifCond .eq 7, 125, 129, 0, 0), (125, .iconst 0, 126, 0, 0, 0), (126, .goto 4, 129, 130, 0, 0), (129, .iconst 1, 130, 0, 0, 0), (130, .ireturn, 131, 0, 0, 0)]
theorem oX6_clear_1 : ∀ e ∈ tX6_clear_1, zgood fRX6 cX6_clear 7 false e = true := by decide +kernel
def tX6_clear : List zE := tX6_clear_0 ++ (tX6_clear_1)
theorem oX6_clear : ∀ e ∈ tX6_clear, zgood fRX6 cX6_clear 7 false e = true := (zapp oX6_clear_0 oX6_clear_1)
def tX6_hear : List zE := [(0, .iload_n 1, 1, 0, 0, 0), (1, .iconst 1, 2, 0, 0, 0), (2, .if_icmp .lt 8, 5, 10, 0, 0), (5, .iload_n 1, 6, 0, 0, 0), (6, .iconst 5, 7, 0, 0, 0), (7, .if_icmp .le 5, 10, 12, 0, 0), (10, .iconst (-1), 11, 0, 0, 0), (11, .ireturn, 12, 0, 0, 0), (12, .iconst 0, 13, 0, 0, 0), (13, .istore_n 3, 14, 0, 0, 0), (14, .iload_n 3, 15, 0, 0, 0), (15, .iload_n 1, 16, 0, 0, 0), (16, .if_icmp .ge 21, 19, 37, 0, 0), (19, .iload_n 2, 20, 0, 0, 0), (20, .iload_n 3, 21, 0, 0, 0), (21, .invokestatic 154, 24, 115, 2, 0), (24, .bipush 30, 26, 0, 0, 0), (26, .if_icmp .le 5, 29, 31, 0, 0), (29, .iconst (-1), 30, 0, 0, 0), (30, .ireturn, 31, 0, 0, 0), (31, .iinc 3 1, 34, 0, 0, 0), (34, .goto (-20), 37, 14, 0, 0), (37, .aload_n 0, 38, 0, 0, 0), (38, .getfield 32, 41, 5, 4, 0), (41, .getfield 157, 44, 0, 1, 0), (44, .iload_n 1, 45, 0, 0, 0), (45, .iadd, 46, 0, 0, 0), (46, .bipush 20, 48, 0, 0, 0), (48, .if_icmp .le 6, 51, 54, 0, 0), (51, .bipush (-2), 53, 0, 0, 0), (53, .ireturn, 54, 0, 0, 0), (54, .iload_n 1, 55, 0, 0, 0), (55, .iconst 1, 56, 0, 0, 0), (56, .isub, 57, 0, 0, 0), (57, .istore_n 3, 58, 0, 0, 0), (58, .iload_n 3, 59, 0, 0, 0), (59, .ifCond .lt 21, 62, 80, 0, 0), (62, .aload_n 0, 63, 0, 0, 0), (63, .getfield 32, 66, 5, 4, 0), (66, .iload_n 2, 67, 0, 0, 0), (67, .iload_n 3, 68, 0, 0, 0), (68, .invokestatic 154, 71, 115, 2, 0), (71, .invokevirtual 158, 74, 1, 1, 0), (74, .iinc 3 (-1), 77, 0, 0, 0), (77, .goto (-19), 80, 58, 0, 0), (80, .aload_n 0, 81, 0, 0, 0), (81, .getfield 32, 84, 5, 4, 0), (84, .getfield 157, 87, 0, 1, 0), (87, .ireturn, 88, 0, 0, 0)]
theorem oX6_hear : ∀ e ∈ tX6_hear, zgood fRX6 cX6_hear 4 false e = true := by decide +kernel
def tX6_listen : List zE := [(0, .iload_n 1, 1, 0, 0, 0), (1, .invokestatic 128, 4, 111, 1, 0), (4, .ifCond .eq 14, 7, 18, 0, 0), (7, .aload_n 0, 8, 0, 0, 0), (8, .getfield 10, 11, 5, 0, 0), (11, .iload_n 2, 12, 0, 0, 0), (12, .invokevirtual 66, 15, 24, 1, 0), (15, .ifCond .ne 5, 18, 20, 0, 0), (18, .iconst (-1), 19, 0, 0, 0), (19, .ireturn, 20, 0, 0, 0), (20, .aload_n 0, 21, 0, 0, 0), (21, .getfield 22, 24, 5, 2, 0), (24, .aload_n 0, 25, 0, 0, 0), (25, .getfield 10, 28, 5, 0, 0), (28, .iload_n 2, 29, 0, 0, 0), (29, .aload_n 0, 30, 0, 0, 0), (30, .getfield 50, 33, 5, 7, 0), (33, .iload_n 1, 34, 0, 0, 0), (34, .iaload, 35, 0, 0, 0), (35, .bipush 40, 37, 0, 0, 0), (37, .invokevirtual 134, 40, 55, 4, 0), (40, .aload_n 0, 41, 0, 0, 0), (41, .getfield 22, 44, 5, 2, 0), (44, .invokevirtual 138, 47, 54, 0, 0), (47, .ifCond .eq 6, 50, 53, 0, 0), (50, .bipush (-5), 52, 0, 0, 0), (52, .ireturn, 53, 0, 0, 0), (53, .aload_n 0, 54, 0, 0, 0), (54, .invokevirtual 162, 57, 116, 0, 0), (57, .ireturn, 58, 0, 0, 0)]
theorem oX6_listen : ∀ e ∈ tX6_listen, zgood fRX6 cX6_listen 3 false e = true := by decide +kernel
def tX6_hush : List zE := [(0, .aload_n 0, 1, 0, 0, 0), (1, .getfield 32, 4, 5, 4, 0), (4, .getfield 157, 7, 0, 1, 0), (7, .istore_n 1, 8, 0, 0, 0), (8, .aload_n 0, 9, 0, 0, 0), (9, .getfield 32, 12, 5, 4, 0), (12, .iconst 0, 13, 0, 0, 0), (13, .putfield 157, 16, 0, 1, 0), (16, .iload_n 1, 17, 0, 0, 0), (17, .ireturn, 18, 0, 0, 0)]
theorem oX6_hush : ∀ e ∈ tX6_hush, zgood fRX6 cX6_hush 2 false e = true := by decide +kernel
def tX6_ear : List zE := [(0, .iload_n 1, 1, 0, 0, 0), (1, .ifCond .lt 14, 4, 15, 0, 0), (4, .iload_n 1, 5, 0, 0, 0), (5, .aload_n 0, 6, 0, 0, 0), (6, .getfield 32, 9, 5, 4, 0), (9, .getfield 157, 12, 0, 1, 0), (12, .if_icmp .lt 7, 15, 19, 0, 0), (15, .iconst (-1), 16, 0, 0, 0), (16, .goto 12, 19, 28, 0, 0), (19, .aload_n 0, 20, 0, 0, 0), (20, .getfield 32, 23, 5, 4, 0), (23, .getfield 165, 26, 0, 0, 0), (26, .iload_n 1, 27, 0, 0, 0), (27, .iaload, 28, 0, 0, 0), (28, .ireturn, 29, 0, 0, 0)]
theorem oX6_ear : ∀ e ∈ tX6_ear, zgood fRX6 cX6_ear 2 false e = true := by decide +kernel
def tX6_readings : List zE := [(0, .iload_n 1, 1, 0, 0, 0), (1, .invokestatic 166, 4, 112, 1, 0), (4, .ifCond .ne 13, 7, 17, 0, 0), (7, .new 169, 10, 0, 0, 0), (10, .dup, 11, 0, 0, 0), (13, .invokespecial 173, 16, 9998, 0, 0), (16, .athrow, 17, 0, 0, 0), (17, .aload_n 0, 18, 0, 0, 0), (18, .iload_n 1, 19, 0, 0, 0), (19, .invokevirtual 176, 22, 117, 1, 0), (22, .lreturn, 23, 0, 0, 0)]
theorem oX6_readings : ∀ e ∈ tX6_readings, zgood fRX6 cX6_readings 2 false e = true := by decide +kernel
def tX6_write : List zE := [(0, .iload_n 1, 1, 0, 0, 0), (1, .invokestatic 166, 4, 112, 1, 0), (4, .ifCond .eq 9, 7, 13, 0, 0), (7, .lload_n 2, 8, 0, 0, 0), (8, .lconst 0, 9, 0, 0, 0), (9, .lcmp, 10, 0, 0, 0), (10, .ifCond .ge 5, 13, 15, 0, 0), (13, .iconst (-1), 14, 0, 0, 0), (14, .ireturn, 15, 0, 0, 0), (15, .lload_n 2, 16, 0, 0, 0), (16, .aload_n 0, 17, 0, 0, 0), (17, .iload_n 1, 18, 0, 0, 0), (18, .invokevirtual 176, 21, 117, 1, 0), (21, .lcmp, 22, 0, 0, 0), (22, .ifCond .lt 6, 25, 28, 0, 0), (25, .bipush (-4), 27, 0, 0, 0), (27, .ireturn, 28, 0, 0, 0), (28, .aload_n 0, 29, 0, 0, 0), (29, .getfield 16, 32, 5, 1, 0), (32, .iconst 0, 33, 0, 0, 0), (33, .putfield 82, 36, 1, 12, 0), (36, .aload_n 0, 37, 0, 0, 0), (37, .getfield 32, 40, 5, 4, 0), (40, .aload_n 0, 41, 0, 0, 0), (41, .getfield 16, 44, 5, 1, 0), (44, .lload_n 2, 45, 0, 0, 0), (45, .invokevirtual 180, 48, 10, 2, 0), (48, .pop, 49, 0, 0, 0), (49, .aload_n 0, 50, 0, 0, 0), (50, .getfield 10, 53, 5, 0, 0), (53, .getfield 82, 56, 1, 12, 0), (56, .aload_n 0, 57, 0, 0, 0), (57, .getfield 16, 60, 5, 1, 0), (60, .getfield 82, 63, 1, 12, 0), (63, .iadd, 64, 0, 0, 0), (64, .bipush 120, 66, 0, 0, 0), (66, .if_icmp .le 6, 69, 72, 0, 0), (69, .bipush (-2), 71, 0, 0, 0), (71, .ireturn, 72, 0, 0, 0), (72, .aload_n 0, 73, 0, 0, 0), (73, .getfield 32, 76, 5, 4, 0), (76, .aload_n 0, 77, 0, 0, 0), (77, .getfield 10, 80, 5, 0, 0), (80, .lload_n 2, 81, 0, 0, 0), (81, .invokevirtual 180, 84, 10, 2, 0), (84, .ireturn, 85, 0, 0, 0)]
theorem oX6_write : ∀ e ∈ tX6_write, zgood fRX6 cX6_write 4 false e = true := by decide +kernel
def tX6_place : List zE := [(0, .iload_n 1, 1, 0, 0, 0), (1, .invokestatic 166, 4, 112, 1, 0), (4, .ifCond .eq 14, 7, 18, 0, 0), (7, .aload_n 0, 8, 0, 0, 0), (8, .getfield 10, 11, 5, 0, 0), (11, .iload_n 2, 12, 0, 0, 0), (12, .invokevirtual 66, 15, 24, 1, 0), (15, .ifCond .ne 7, 18, 22, 0, 0), (18, .ldc2_w 184, 21, 0, 0, -1), (21, .lreturn, 22, 0, 0, 0), (22, .aload_n 0, 23, 0, 0, 0), (23, .getfield 10, 26, 5, 0, 0), (26, .iload_n 2, 27, 0, 0, 0), (27, .aload_n 0, 28, 0, 0, 0), (28, .getfield 54, 31, 5, 8, 0), (31, .invokevirtual 117, 34, 35, 2, 0), (34, .ifCond .ne 7, 37, 41, 0, 0), (37, .ldc2_w 186, 40, 0, 0, -2), (40, .lreturn, 41, 0, 0, 0), (41, .aload_n 0, 42, 0, 0, 0), (42, .iload_n 1, 43, 0, 0, 0), (43, .invokevirtual 176, 46, 117, 1, 0), (46, .pop2, 47, 0, 0, 0), (47, .aload_n 0, 48, 0, 0, 0), (48, .getfield 32, 51, 5, 4, 0), (51, .aload_n 0, 52, 0, 0, 0), (52, .getfield 10, 55, 5, 0, 0), (55, .iload_n 2, 56, 0, 0, 0), (56, .invokevirtual 188, 59, 14, 2, 0), (59, .lstore_n 3, 60, 0, 0, 0), (60, .lload_n 3, 61, 0, 0, 0), (61, .lconst 0, 62, 0, 0, 0), (62, .lcmp, 63, 0, 0, 0), (63, .ifCond .ge 9, 66, 72, 0, 0), (66, .ldc2_w 186, 69, 0, 0, -2), (69, .goto 4, 72, 73, 0, 0), (72, .lload_n 3, 73, 0, 0, 0), (73, .lreturn, 74, 0, 0, 0)]
theorem oX6_place : ∀ e ∈ tX6_place, zgood fRX6 cX6_place 5 false e = true := by decide +kernel
def tX6_doubt_0 : List zE := [(0, .iload_n 1, 1, 0, 0, 0), (1, .invokestatic 166, 4, 112, 1, 0), (4, .ifCond .eq 16, 7, 20, 0, 0), (7, .lload_n 2, 8, 0, 0, 0), (8, .lconst 0, 9, 0, 0, 0), (9, .lcmp, 10, 0, 0, 0), (10, .ifCond .lt 10, 13, 20, 0, 0), (13, .lload 4, 15, 0, 0, 0), (15, .lconst 0, 16, 0, 0, 0), (16, .lcmp, 17, 0, 0, 0), (17, .ifCond .ge 5, 20, 22, 0, 0), (20, .iconst (-1), 21, 0, 0, 0), (21, .ireturn, 22, 0, 0, 0), (22, .aload_n 0, 23, 0, 0, 0), (23, .iload_n 1, 24, 0, 0, 0), (24, .invokevirtual 176, 27, 117, 1, 0), (27, .lstore 6, 29, 0, 0, 0), (29, .lload_n 2, 30, 0, 0, 0), (30, .lload 6, 32, 0, 0, 0), (32, .lcmp, 33, 0, 0, 0), (33, .ifCond .ge 11, 36, 44, 0, 0), (36, .lload 4, 38, 0, 0, 0), (38, .lload 6, 40, 0, 0, 0), (40, .lcmp, 41, 0, 0, 0), (41, .ifCond .lt 6, 44, 47, 0, 0), (44, .bipush (-4), 46, 0, 0, 0), (46, .ireturn, 47, 0, 0, 0), (47, .lload_n 2, 48, 0, 0, 0), (48, .lload 4, 50, 0, 0, 0), (50, .lcmp, 51, 0, 0, 0), (51, .ifCond .ne 6, 54, 57, 0, 0), (54, .bipush (-2), 56, 0, 0, 0), (56, .ireturn, 57, 0, 0, 0), (57, .aload_n 0, 58, 0, 0, 0), (58, .getfield 16, 61, 5, 1, 0), (61, .iconst 0, 62, 0, 0, 0), (62, .putfield 82, 65, 1, 12, 0), (65, .aload_n 0, 66, 0, 0, 0), (66, .getfield 32, 69, 5, 4, 0), (69, .aload_n 0, 70, 0, 0, 0), (70, .getfield 16, 73, 5, 1, 0), (73, .lload_n 2, 74, 0, 0, 0), (74, .invokevirtual 180, 77, 10, 2, 0), (77, .istore 8, 79, 0, 0, 0), (79, .aload_n 0, 80, 0, 0, 0), (80, .getfield 32, 83, 5, 4, 0), (83, .aload_n 0, 84, 0, 0, 0), (84, .getfield 16, 87, 5, 1, 0), (87, .lload 4, 89, 0, 0, 0), (89, .invokevirtual 180, 92, 10, 2, 0)]
theorem oX6_doubt_0 : ∀ e ∈ tX6_doubt_0, zgood fRX6 cX6_doubt 10 false e = true := by decide +kernel
def tX6_doubt_1 : List zE := [(92, .istore 9, 94, 0, 0, 0), (94, .aload_n 0, 95, 0, 0, 0), (95, .getfield 16, 98, 5, 1, 0), (98, .iload 8, 100, 0, 0, 0), (100, .iload 9, 102, 0, 0, 0), (102, .invokevirtual 192, 105, 38, 2, 0), (105, .ireturn, 106, 0, 0, 0)]
theorem oX6_doubt_1 : ∀ e ∈ tX6_doubt_1, zgood fRX6 cX6_doubt 10 false e = true := by decide +kernel
def tX6_doubt : List zE := tX6_doubt_0 ++ (tX6_doubt_1)
theorem oX6_doubt : ∀ e ∈ tX6_doubt, zgood fRX6 cX6_doubt 10 false e = true := (zapp oX6_doubt_0 oX6_doubt_1)
def tX6_fewest : List zE := [(0, .aload_n 0, 1, 0, 0, 0), (1, .getfield 10, 4, 5, 0, 0), (4, .iload_n 1, 5, 0, 0, 0), (5, .invokevirtual 66, 8, 24, 1, 0), (8, .ifCond .ne 5, 11, 13, 0, 0), (11, .iconst (-1), 12, 0, 0, 0), (12, .ireturn, 13, 0, 0, 0), (13, .aload_n 0, 14, 0, 0, 0), (14, .getfield 10, 17, 5, 0, 0), (17, .iload_n 1, 18, 0, 0, 0), (18, .aload_n 0, 19, 0, 0, 0), (19, .getfield 54, 22, 5, 8, 0), (22, .invokevirtual 117, 25, 35, 2, 0), (25, .ifCond .ne 6, 28, 31, 0, 0), (28, .bipush (-3), 30, 0, 0, 0), (30, .ireturn, 31, 0, 0, 0), (31, .aload_n 0, 32, 0, 0, 0), (32, .getfield 10, 35, 5, 0, 0), (35, .getfield 195, 38, 1, 7, 0), (38, .iload_n 1, 39, 0, 0, 0), (39, .iaload, 40, 0, 0, 0), (40, .bipush 8, 42, 0, 0, 0), (42, .if_icmp .le 6, 45, 48, 0, 0), (45, .bipush (-5), 47, 0, 0, 0), (47, .ireturn, 48, 0, 0, 0), (48, .aload_n 0, 49, 0, 0, 0), (49, .getfield 22, 52, 5, 2, 0), (52, .aload_n 0, 53, 0, 0, 0), (53, .getfield 10, 56, 5, 0, 0), (56, .iload_n 1, 57, 0, 0, 0), (57, .invokevirtual 198, 60, 56, 2, 0), (60, .aload_n 0, 61, 0, 0, 0), (61, .invokevirtual 162, 64, 116, 0, 0), (64, .ireturn, 65, 0, 0, 0)]
theorem oX6_fewest : ∀ e ∈ tX6_fewest, zgood fRX6 cX6_fewest 2 false e = true := by decide +kernel
def tX6_walk : List zE := [(0, .aload_n 0, 1, 0, 0, 0), (1, .getfield 10, 4, 5, 0, 0), (4, .iload_n 1, 5, 0, 0, 0), (5, .invokevirtual 66, 8, 24, 1, 0), (8, .ifCond .ne 5, 11, 13, 0, 0), (11, .iconst (-1), 12, 0, 0, 0), (12, .ireturn, 13, 0, 0, 0), (13, .aload_n 0, 14, 0, 0, 0), (14, .getfield 39, 17, 5, 5, 0), (17, .iload_n 1, 18, 0, 0, 0), (18, .invokevirtual 202, 21, 67, 1, 0), (21, .iconst 0, 22, 0, 0, 0), (22, .ireturn, 23, 0, 0, 0)]
theorem oX6_walk : ∀ e ∈ tX6_walk, zgood fRX6 cX6_walk 2 false e = true := by decide +kernel
def tX6_go : List zE := [(0, .iload_n 1, 1, 0, 0, 0), (1, .ifCond .lt 8, 4, 9, 0, 0), (4, .iload_n 1, 5, 0, 0, 0), (5, .iconst 3, 6, 0, 0, 0), (6, .if_icmp .le 5, 9, 11, 0, 0), (9, .iconst (-1), 10, 0, 0, 0), (10, .ireturn, 11, 0, 0, 0), (11, .aload_n 0, 12, 0, 0, 0), (12, .getfield 39, 15, 5, 5, 0), (15, .invokevirtual 85, 18, 64, 0, 0), (18, .ifCond .ne 6, 21, 24, 0, 0), (21, .bipush (-2), 23, 0, 0, 0), (23, .ireturn, 24, 0, 0, 0), (24, .iload_n 1, 25, 0, 0, 0), (25, .lookupswitch 53 #[(2, 27), (3, 38)], 52, 0, 0, 0), (52, .aload_n 0, 53, 0, 0, 0), (53, .getfield 39, 56, 5, 5, 0), (56, .invokevirtual 205, 59, 69, 0, 0), (59, .istore_n 2, 60, 0, 0, 0), (60, .goto 33, 63, 93, 0, 0), (63, .aload_n 0, 64, 0, 0, 0), (64, .getfield 39, 67, 5, 5, 0), (67, .aload_n 0, 68, 0, 0, 0), (68, .getfield 10, 71, 5, 0, 0), (71, .invokevirtual 208, 74, 70, 1, 0), (74, .istore_n 2, 75, 0, 0, 0), (75, .goto 18, 78, 93, 0, 0), (78, .aload_n 0, 79, 0, 0, 0), (79, .getfield 39, 82, 5, 5, 0), (82, .aload_n 0, 83, 0, 0, 0), (83, .getfield 10, 86, 5, 0, 0), (86, .iload_n 1, 87, 0, 0, 0), (87, .iconst 1, 88, 0, 0, 0), (88, .iadd, 89, 0, 0, 0), (89, .invokevirtual 212, 92, 68, 2, 0), (92, .istore_n 2, 93, 0, 0, 0), (93, .iload_n 2, 94, 0, 0, 0), (94, .ifCond .eq 13, 97, 107, 0, 0), (97, .aload_n 0, 98, 0, 0, 0), (98, .getfield 39, 101, 5, 5, 0), (101, .invokevirtual 216, 104, 66, 0, 0), (104, .goto 5, 107, 109, 0, 0), (107, .bipush (-3), 109, 0, 0, 0), (109, .ireturn, 110, 0, 0, 0)]
theorem oX6_go : ∀ e ∈ tX6_go, zgood fRX6 cX6_go 3 false e = true := by decide +kernel
def tX6_where : List zE := [(0, .iload_n 1, 1, 0, 0, 0), (1, .ifCond .lt 8, 4, 9, 0, 0), (4, .iload_n 1, 5, 0, 0, 0), (5, .iconst 2, 6, 0, 0, 0), (6, .if_icmp .le 5, 9, 11, 0, 0), (9, .iconst (-1), 10, 0, 0, 0), (10, .ireturn, 11, 0, 0, 0), (11, .aload_n 0, 12, 0, 0, 0), (12, .getfield 39, 15, 5, 5, 0), (15, .invokevirtual 85, 18, 64, 0, 0), (18, .ifCond .ne 6, 21, 24, 0, 0), (21, .bipush (-2), 23, 0, 0, 0), (23, .ireturn, 24, 0, 0, 0), (24, .iload_n 1, 25, 0, 0, 0), (25, .iconst 1, 26, 0, 0, 0), (26, .if_icmp .ne 11, 29, 37, 0, 0), (29, .aload_n 0, 30, 0, 0, 0), (30, .getfield 39, 33, 5, 5, 0), (33, .getfield 219, 36, 4, 3, 0), (36, .ireturn, 37, 0, 0, 0), (37, .iload_n 1, 38, 0, 0, 0), (38, .iconst 2, 39, 0, 0, 0), (39, .if_icmp .ne 11, 42, 50, 0, 0), (42, .aload_n 0, 43, 0, 0, 0), (43, .getfield 39, 46, 5, 5, 0), (46, .invokevirtual 216, 49, 66, 0, 0), (49, .ireturn, 50, 0, 0, 0), (50, .aload_n 0, 51, 0, 0, 0), (51, .getfield 39, 54, 5, 5, 0), (54, .getfield 219, 57, 4, 3, 0), (57, .bipush 19, 59, 0, 0, 0), (59, .if_icmp .le 13, 62, 72, 0, 0), (62, .new 222, 65, 0, 0, 0), (65, .dup, 66, 0, 0, 0), (68, .invokespecial 226, 71, 9998, 0, 0), (71, .athrow, 72, 0, 0, 0), (72, .aload_n 0, 73, 0, 0, 0), (73, .getfield 39, 76, 5, 5, 0), (76, .invokevirtual 227, 79, 71, 0, 0), (79, .ireturn, 80, 0, 0, 0)]
theorem oX6_where : ∀ e ∈ tX6_where, zgood fRX6 cX6_where 2 false e = true := by decide +kernel
def tX6_lead : List zE := [(0, .aload_n 0, 1, 0, 0, 0), (1, .getfield 39, 4, 5, 5, 0), (4, .invokevirtual 85, 7, 64, 0, 0), (7, .ifCond .ne 6, 10, 13, 0, 0), (10, .bipush (-2), 12, 0, 0, 0), (12, .ireturn, 13, 0, 0, 0), (13, .aload_n 0, 14, 0, 0, 0), (14, .getfield 39, 17, 5, 5, 0), (17, .aload_n 0, 18, 0, 0, 0), (18, .getfield 10, 21, 5, 0, 0), (21, .iload_n 1, 22, 0, 0, 0), (22, .invokevirtual 230, 25, 72, 2, 0), (25, .ifCond .eq 13, 28, 38, 0, 0), (28, .aload_n 0, 29, 0, 0, 0), (29, .getfield 39, 32, 5, 5, 0), (32, .invokevirtual 216, 35, 66, 0, 0), (35, .goto 4, 38, 39, 0, 0), (38, .iconst (-1), 39, 0, 0, 0), (39, .ireturn, 40, 0, 0, 0)]
theorem oX6_lead : ∀ e ∈ tX6_lead, zgood fRX6 cX6_lead 2 false e = true := by decide +kernel
def tX6_glance : List zE := [(0, .iload_n 1, 1, 0, 0, 0), (1, .invokestatic 128, 4, 111, 1, 0), (4, .ifCond .eq 13, 7, 17, 0, 0), (7, .iload_n 2, 8, 0, 0, 0), (8, .ifCond .lt 9, 11, 17, 0, 0), (11, .iload_n 2, 12, 0, 0, 0), (12, .bipush 9, 14, 0, 0, 0), (14, .if_icmp .le 5, 17, 19, 0, 0), (17, .iconst (-1), 18, 0, 0, 0), (18, .ireturn, 19, 0, 0, 0), (19, .aload_n 0, 20, 0, 0, 0), (20, .getfield 39, 23, 5, 5, 0), (23, .invokevirtual 85, 26, 64, 0, 0), (26, .ifCond .ne 6, 29, 32, 0, 0), (29, .bipush (-2), 31, 0, 0, 0), (31, .ireturn, 32, 0, 0, 0), (32, .aload_n 0, 33, 0, 0, 0), (33, .getfield 22, 36, 5, 2, 0), (36, .aload_n 0, 37, 0, 0, 0), (37, .getfield 10, 40, 5, 0, 0), (40, .aload_n 0, 41, 0, 0, 0), (41, .getfield 39, 44, 5, 5, 0), (44, .invokevirtual 216, 47, 66, 0, 0), (47, .aload_n 0, 48, 0, 0, 0), (48, .getfield 50, 51, 5, 7, 0), (51, .iload_n 1, 52, 0, 0, 0), (52, .iaload, 53, 0, 0, 0), (53, .iload_n 2, 54, 0, 0, 0), (54, .invokevirtual 134, 57, 55, 4, 0), (57, .aload_n 0, 58, 0, 0, 0), (58, .getfield 22, 61, 5, 2, 0), (61, .invokevirtual 138, 64, 54, 0, 0), (64, .ifCond .eq 8, 67, 72, 0, 0), (67, .bipush (-5), 69, 0, 0, 0), (69, .goto 10, 72, 79, 0, 0), (72, .aload_n 0, 73, 0, 0, 0), (73, .getfield 22, 76, 5, 2, 0), (76, .getfield 141, 79, 3, 1, 0), (79, .ireturn, 80, 0, 0, 0)]
theorem oX6_glance : ∀ e ∈ tX6_glance, zgood fRX6 cX6_glance 3 false e = true := by decide +kernel
def tX6_changed : List zE := [(0, .aload_n 0, 1, 0, 0, 0), (1, .getfield 10, 4, 5, 0, 0), (4, .iload_n 1, 5, 0, 0, 0), (5, .invokevirtual 66, 8, 24, 1, 0), (8, .ifCond .eq 14, 11, 22, 0, 0), (11, .aload_n 0, 12, 0, 0, 0), (12, .getfield 10, 15, 5, 0, 0), (15, .iload_n 2, 16, 0, 0, 0), (16, .invokevirtual 66, 19, 24, 1, 0), (19, .ifCond .ne 5, 22, 24, 0, 0), (22, .iconst (-1), 23, 0, 0, 0), (23, .ireturn, 24, 0, 0, 0), (24, .aload_n 0, 25, 0, 0, 0), (25, .getfield 10, 28, 5, 0, 0), (28, .iload_n 1, 29, 0, 0, 0), (29, .iload_n 2, 30, 0, 0, 0), (30, .invokevirtual 233, 33, 39, 2, 0), (33, .ireturn, 34, 0, 0, 0)]
theorem oX6_changed : ∀ e ∈ tX6_changed, zgood fRX6 cX6_changed 3 false e = true := by decide +kernel
def tX6_exchanged : List zE := [(0, .aload_n 0, 1, 0, 0, 0), (1, .getfield 10, 4, 5, 0, 0), (4, .iload_n 1, 5, 0, 0, 0), (5, .invokevirtual 66, 8, 24, 1, 0), (8, .ifCond .eq 14, 11, 22, 0, 0), (11, .aload_n 0, 12, 0, 0, 0), (12, .getfield 10, 15, 5, 0, 0), (15, .iload_n 2, 16, 0, 0, 0), (16, .invokevirtual 66, 19, 24, 1, 0), (19, .ifCond .ne 5, 22, 24, 0, 0), (22, .iconst (-1), 23, 0, 0, 0), (23, .ireturn, 24, 0, 0, 0), (24, .aload_n 0, 25, 0, 0, 0), (25, .getfield 10, 28, 5, 0, 0), (28, .iload_n 1, 29, 0, 0, 0), (29, .iload_n 2, 30, 0, 0, 0), (30, .invokevirtual 236, 33, 40, 2, 0), (33, .ireturn, 34, 0, 0, 0)]
theorem oX6_exchanged : ∀ e ∈ tX6_exchanged, zgood fRX6 cX6_exchanged 3 false e = true := by decide +kernel
def tX6_count : List zE := [(0, .iload_n 1, 1, 0, 0, 0), (1, .tableswitch 51 0 2 #[27, 35, 43], 28, 0, 0, 0), (28, .aload_n 0, 29, 0, 0, 0), (29, .getfield 10, 32, 5, 0, 0), (32, .getfield 82, 35, 1, 12, 0), (35, .ireturn, 36, 0, 0, 0), (36, .aload_n 0, 37, 0, 0, 0), (37, .getfield 32, 40, 5, 4, 0), (40, .getfield 157, 43, 0, 1, 0), (43, .ireturn, 44, 0, 0, 0), (44, .aload_n 0, 45, 0, 0, 0), (45, .getfield 54, 48, 5, 8, 0), (48, .invokestatic 239, 51, 202, 1, 0), (51, .ireturn, 52, 0, 0, 0), (52, .iconst (-1), 53, 0, 0, 0), (53, .ireturn, 54, 0, 0, 0)]
theorem oX6_count : ∀ e ∈ tX6_count, zgood fRX6 cX6_count 2 false e = true := by decide +kernel
def tX6_keep : List zE := [(0, .iload_n 1, 1, 0, 0, 0), (1, .invokestatic 244, 4, 113, 1, 0), (4, .ifCond .ne 5, 7, 9, 0, 0), (7, .iconst (-1), 8, 0, 0, 0), (8, .ireturn, 9, 0, 0, 0), (9, .iload_n 2, 10, 0, 0, 0), (10, .tableswitch 84 0 4 #[34, 71, 84, 45, 71], 44, 0, 0, 0), (44, .aload_n 0, 45, 0, 0, 0), (45, .getfield 45, 48, 5, 6, 0), (48, .iload_n 1, 49, 0, 0, 0), (49, .aaload, 50, 0, 0, 0), (50, .invokevirtual 247, 53, 46, 0, 0), (53, .iconst 0, 54, 0, 0, 0), (54, .ireturn, 55, 0, 0, 0), (55, .aload_n 0, 56, 0, 0, 0), (56, .getfield 45, 59, 5, 6, 0), (59, .iload_n 1, 60, 0, 0, 0), (60, .aaload, 61, 0, 0, 0), (61, .iconst 3, 62, 0, 0, 0), (62, .aload_n 0, 63, 0, 0, 0), (63, .getfield 32, 66, 5, 4, 0), (66, .getfield 165, 69, 0, 0, 0), (69, .aload_n 0, 70, 0, 0, 0), (70, .getfield 32, 73, 5, 4, 0), (73, .getfield 157, 76, 0, 1, 0), (76, .invokevirtual 250, 79, 49, 3, 0), (79, .iconst 0, 80, 0, 0, 0), (80, .ireturn, 81, 0, 0, 0), (81, .aload_n 0, 82, 0, 0, 0), (82, .aload_n 0, 83, 0, 0, 0), (83, .getfield 45, 86, 5, 6, 0), (86, .iload_n 1, 87, 0, 0, 0), (87, .aaload, 88, 0, 0, 0), (88, .iload_n 2, 89, 0, 0, 0), (89, .iload_n 3, 90, 0, 0, 0), (90, .invokevirtual 254, 93, 118, 3, 0), (93, .ireturn, 94, 0, 0, 0), (94, .iconst (-1), 95, 0, 0, 0), (95, .ireturn, 96, 0, 0, 0)]
theorem oX6_keep : ∀ e ∈ tX6_keep, zgood fRX6 cX6_keep 4 false e = true := by decide +kernel
def tX6_make : List zE := [(0, .iload_n 1, 1, 0, 0, 0), (1, .invokestatic 244, 4, 113, 1, 0), (4, .ifCond .eq 19, 7, 23, 0, 0), (7, .iload_n 2, 8, 0, 0, 0), (8, .iconst 3, 9, 0, 0, 0), (9, .if_icmp .eq 8, 12, 17, 0, 0), (12, .iload_n 2, 13, 0, 0, 0), (13, .iconst 4, 14, 0, 0, 0), (14, .if_icmp .ne 9, 17, 23, 0, 0), (17, .iload_n 3, 18, 0, 0, 0), (18, .bipush 60, 20, 0, 0, 0), (20, .if_icmp .le 5, 23, 25, 0, 0), (23, .iconst (-1), 24, 0, 0, 0), (24, .ireturn, 25, 0, 0, 0), (25, .iload_n 3, 26, 0, 0, 0), (26, .ifCond .ge 6, 29, 32, 0, 0), (29, .bipush (-14), 31, 0, 0, 0), (31, .ireturn, 32, 0, 0, 0), (32, .aload_n 0, 33, 0, 0, 0), (33, .getfield 45, 36, 5, 6, 0), (36, .iload_n 1, 37, 0, 0, 0), (37, .aaload, 38, 0, 0, 0), (38, .iload_n 2, 39, 0, 0, 0), (39, .iload_n 3, 40, 0, 0, 0), (40, .invokevirtual 258, 43, 48, 2, 0), (43, .iconst 0, 44, 0, 0, 0), (44, .ireturn, 45, 0, 0, 0)]
theorem oX6_make : ∀ e ∈ tX6_make, zgood fRX6 cX6_make 4 false e = true := by decide +kernel
def tX6_element : List zE := [(0, .iload_n 1, 1, 0, 0, 0), (1, .invokestatic 244, 4, 113, 1, 0), (4, .ifCond .ne 14, 7, 18, 0, 0), (7, .new 169, 10, 0, 0, 0), (10, .dup, 11, 0, 0, 0), (14, .invokespecial 173, 17, 9998, 0, 0), (17, .athrow, 18, 0, 0, 0), (18, .aload_n 0, 19, 0, 0, 0), (19, .getfield 45, 22, 5, 6, 0), (22, .iload_n 1, 23, 0, 0, 0), (23, .aaload, 24, 0, 0, 0), (24, .astore_n 3, 25, 0, 0, 0), (25, .aload_n 3, 26, 0, 0, 0), (26, .invokevirtual 264, 29, 50, 0, 0), (29, .ifCond .ne 14, 32, 43, 0, 0), (32, .new 222, 35, 0, 0, 0), (35, .dup, 36, 0, 0, 0), (39, .invokespecial 226, 42, 9998, 0, 0), (42, .athrow, 43, 0, 0, 0), (43, .aload_n 3, 44, 0, 0, 0), (44, .iload_n 2, 45, 0, 0, 0), (45, .iconst 1, 46, 0, 0, 0), (46, .invokevirtual 269, 49, 51, 2, 0), (49, .ifCond .ne 14, 52, 63, 0, 0), (52, .new 222, 55, 0, 0, 0), (55, .dup, 56, 0, 0, 0), (59, .invokespecial 226, 62, 9998, 0, 0), (62, .athrow, 63, 0, 0, 0), (63, .aload_n 3, 64, 0, 0, 0), (64, .getfield 274, 67, 2, 4, 0), (67, .iload_n 2, 68, 0, 0, 0), (68, .iaload, 69, 0, 0, 0), (69, .i2l, 70, 0, 0, 0), (70, .lreturn, 71, 0, 0, 0)]
theorem oX6_element : ∀ e ∈ tX6_element, zgood fRX6 cX6_element 4 false e = true := by decide +kernel
def tX6_copy_0 : List zE := [(0, .iload_n 1, 1, 0, 0, 0), (1, .invokestatic 244, 4, 113, 1, 0), (4, .ifCond .eq 10, 7, 14, 0, 0), (7, .iload_n 3, 8, 0, 0, 0), (8, .invokestatic 244, 11, 113, 1, 0), (11, .ifCond .ne 5, 14, 16, 0, 0), (14, .iconst (-1), 15, 0, 0, 0), (15, .ireturn, 16, 0, 0, 0), (16, .aload_n 0, 17, 0, 0, 0), (17, .getfield 45, 20, 5, 6, 0), (20, .iload_n 1, 21, 0, 0, 0), (21, .aaload, 22, 0, 0, 0), (22, .astore 6, 24, 0, 0, 0), (24, .aload_n 0, 25, 0, 0, 0), (25, .getfield 45, 28, 5, 6, 0), (28, .iload_n 3, 29, 0, 0, 0), (29, .aaload, 30, 0, 0, 0), (30, .astore 7, 32, 0, 0, 0), (32, .aload 6, 34, 0, 0, 0), (34, .getfield 275, 37, 2, 0, 0), (37, .ifCond .eq 11, 40, 48, 0, 0), (40, .aload 7, 42, 0, 0, 0), (42, .getfield 275, 45, 2, 0, 0), (45, .ifCond .ne 6, 48, 51, 0, 0), (48, .bipush (-11), 50, 0, 0, 0), (50, .ireturn, 51, 0, 0, 0), (51, .aload 6, 53, 0, 0, 0), (53, .invokevirtual 264, 56, 50, 0, 0), (56, .ifCond .eq 16, 59, 72, 0, 0), (59, .aload 6, 61, 0, 0, 0), (61, .getfield 275, 64, 2, 0, 0), (64, .aload 7, 66, 0, 0, 0), (66, .getfield 275, 69, 2, 0, 0), (69, .if_icmp .eq 6, 72, 75, 0, 0), (72, .bipush (-12), 74, 0, 0, 0), (74, .ireturn, 75, 0, 0, 0), (75, .aload 6, 77, 0, 0, 0), (77, .iload_n 2, 78, 0, 0, 0), (78, .iload 5, 80, 0, 0, 0), (80, .invokevirtual 269, 83, 51, 2, 0), (83, .ifCond .eq 15, 86, 98, 0, 0), (86, .aload 7, 88, 0, 0, 0), (88, .iload 4, 90, 0, 0, 0), (90, .iload 5, 92, 0, 0, 0), (92, .invokevirtual 269, 95, 51, 2, 0), (95, .ifCond .ne 6, 98, 101, 0, 0), (98, .bipush (-13), 100, 0, 0, 0), (100, .ireturn, 101, 0, 0, 0), (101, .aload 6, 103, 0, 0, 0), (103, .getfield 274, 106, 2, 4, 0)]
theorem oX6_copy_0 : ∀ e ∈ tX6_copy_0, zgood fRX6 cX6_copy 8 false e = true := by decide +kernel
def tX6_copy_1 : List zE := [(106, .iload_n 2, 107, 0, 0, 0), (107, .aload 7, 109, 0, 0, 0), (109, .getfield 274, 112, 2, 4, 0), (112, .iload 4, 114, 0, 0, 0), (114, .iload 5, 116, 0, 0, 0), (116, .invokestatic 278, 119, 9998, 0, 0), (119, .iload 5, 121, 0, 0, 0), (121, .ireturn, 122, 0, 0, 0)]
theorem oX6_copy_1 : ∀ e ∈ tX6_copy_1, zgood fRX6 cX6_copy 8 false e = true := by decide +kernel
def tX6_copy : List zE := tX6_copy_0 ++ (tX6_copy_1)
theorem oX6_copy : ∀ e ∈ tX6_copy, zgood fRX6 cX6_copy 8 false e = true := (zapp oX6_copy_0 oX6_copy_1)
def tX6_weight : List zE := [(0, .aload_n 0, 1, 0, 0, 0), (1, .iload_n 1, 2, 0, 0, 0), (2, .invokevirtual 284, 5, 119, 1, 0), (5, .istore_n 2, 6, 0, 0, 0), (6, .iload_n 2, 7, 0, 0, 0), (7, .ifCond .ge 7, 10, 14, 0, 0), (10, .iload_n 2, 11, 0, 0, 0), (11, .goto 12, 14, 23, 0, 0), (14, .aload_n 0, 15, 0, 0, 0), (15, .getfield 45, 18, 5, 6, 0), (18, .iload_n 1, 19, 0, 0, 0), (19, .aaload, 20, 0, 0, 0), (20, .invokevirtual 287, 23, 52, 0, 0), (23, .ireturn, 24, 0, 0, 0)]
theorem oX6_weight : ∀ e ∈ tX6_weight, zgood fRX6 cX6_weight 3 false e = true := by decide +kernel
def tX6_toss : List zE := [(0, .aload_n 0, 1, 0, 0, 0), (1, .iload_n 1, 2, 0, 0, 0), (2, .invokevirtual 284, 5, 119, 1, 0), (5, .istore_n 2, 6, 0, 0, 0), (6, .iload_n 2, 7, 0, 0, 0), (7, .ifCond .ge 5, 10, 12, 0, 0), (10, .iload_n 2, 11, 0, 0, 0), (11, .ireturn, 12, 0, 0, 0), (12, .aload_n 0, 13, 0, 0, 0), (13, .getfield 45, 16, 5, 6, 0), (16, .iload_n 1, 17, 0, 0, 0), (17, .aaload, 18, 0, 0, 0), (18, .getfield 290, 21, 2, 1, 0), (21, .iconst (-1), 22, 0, 0, 0), (22, .if_icmp .ne 8, 25, 30, 0, 0), (25, .bipush (-15), 27, 0, 0, 0), (27, .goto 12, 30, 39, 0, 0), (30, .aload_n 0, 31, 0, 0, 0), (31, .getfield 45, 34, 5, 6, 0), (34, .iload_n 1, 35, 0, 0, 0), (35, .aaload, 36, 0, 0, 0), (36, .getfield 290, 39, 2, 1, 0), (39, .ireturn, 40, 0, 0, 0)]
theorem oX6_toss : ∀ e ∈ tX6_toss, zgood fRX6 cX6_toss 3 false e = true := by decide +kernel
def tX6_isLetter : List zE := [(0, .iload_n 0, 1, 0, 0, 0), (1, .ifCond .lt 13, 4, 14, 0, 0), (4, .iload_n 0, 5, 0, 0, 0), (5, .bipush 10, 7, 0, 0, 0), (7, .if_icmp .ge 7, 10, 14, 0, 0), (10, .iconst 1, 11, 0, 0, 0), (11, .goto 4, 14, 15, 0, 0), (14, .iconst 0, 15, 0, 0, 0), (15, .ireturn, 16, 0, 0, 0)]
theorem oX6_isLetter : ∀ e ∈ tX6_isLetter, zgood fRX6 cX6_isLetter 1 false e = true := by decide +kernel
def tX6_isStyle : List zE := [(0, .iload_n 0, 1, 0, 0, 0), (1, .ifCond .lt 13, 4, 14, 0, 0), (4, .iload_n 0, 5, 0, 0, 0), (5, .bipush 8, 7, 0, 0, 0), (7, .if_icmp .ge 7, 10, 14, 0, 0), (10, .iconst 1, 11, 0, 0, 0), (11, .goto 4, 14, 15, 0, 0), (14, .iconst 0, 15, 0, 0, 0), (15, .ireturn, 16, 0, 0, 0)]
theorem oX6_isStyle : ∀ e ∈ tX6_isStyle, zgood fRX6 cX6_isStyle 1 false e = true := by decide +kernel
def tX6_isStyleOrFree : List zE := [(0, .iload_n 0, 1, 0, 0, 0), (1, .invokestatic 128, 4, 111, 1, 0), (4, .ifCond .ne 9, 7, 13, 0, 0), (7, .iload_n 0, 8, 0, 0, 0), (8, .bipush 8, 10, 0, 0, 0), (10, .if_icmp .ne 7, 13, 17, 0, 0), (13, .iconst 1, 14, 0, 0, 0), (14, .goto 4, 17, 18, 0, 0), (17, .iconst 0, 18, 0, 0, 0), (18, .ireturn, 19, 0, 0, 0)]
theorem oX6_isStyleOrFree : ∀ e ∈ tX6_isStyleOrFree, zgood fRX6 cX6_isStyleOrFree 1 false e = true := by decide +kernel
def tX6_isShelf : List zE := [(0, .iload_n 0, 1, 0, 0, 0), (1, .ifCond .lt 13, 4, 14, 0, 0), (4, .iload_n 0, 5, 0, 0, 0), (5, .bipush 8, 7, 0, 0, 0), (7, .if_icmp .ge 7, 10, 14, 0, 0), (10, .iconst 1, 11, 0, 0, 0), (11, .goto 4, 14, 15, 0, 0), (14, .iconst 0, 15, 0, 0, 0), (15, .ireturn, 16, 0, 0, 0)]
theorem oX6_isShelf : ∀ e ∈ tX6_isShelf, zgood fRX6 cX6_isShelf 1 false e = true := by decide +kernel
def tX6_orMissing : List zE := [(0, .iload_n 0, 1, 0, 0, 0), (1, .iconst (-1), 2, 0, 0, 0), (2, .if_icmp .ne 8, 5, 10, 0, 0), (5, .bipush (-2), 7, 0, 0, 0), (7, .goto 4, 10, 11, 0, 0), (10, .iload_n 0, 11, 0, 0, 0), (11, .ireturn, 12, 0, 0, 0)]
theorem oX6_orMissing : ∀ e ∈ tX6_orMissing, zgood fRX6 cX6_orMissing 1 false e = true := by decide +kernel
def tX6_digitOf : List zE := [(0, .iload_n 0, 1, 0, 0, 0), (1, .iconst 5, 2, 0, 0, 0), (2, .iload_n 1, 3, 0, 0, 0), (3, .imul, 4, 0, 0, 0), (4, .ishr, 5, 0, 0, 0), (5, .bipush 31, 7, 0, 0, 0), (7, .iand, 8, 0, 0, 0), (8, .ireturn, 9, 0, 0, 0)]
theorem oX6_digitOf : ∀ e ∈ tX6_digitOf, zgood fRX6 cX6_digitOf 2 false e = true := by decide +kernel
def tX6_hearSpeech : List zE := [(0, .aload_n 0, 1, 0, 0, 0), (1, .getfield 22, 4, 5, 2, 0), (4, .getfield 141, 7, 3, 1, 0), (7, .bipush 20, 9, 0, 0, 0), (9, .if_icmp .le 6, 12, 15, 0, 0), (12, .bipush (-2), 14, 0, 0, 0), (14, .ireturn, 15, 0, 0, 0), (15, .aload_n 0, 16, 0, 0, 0), (16, .getfield 32, 19, 5, 4, 0), (19, .iconst 0, 20, 0, 0, 0), (20, .putfield 157, 23, 0, 1, 0), (23, .iconst 0, 24, 0, 0, 0), (24, .istore_n 1, 25, 0, 0, 0), (25, .iload_n 1, 26, 0, 0, 0), (26, .aload_n 0, 27, 0, 0, 0), (27, .getfield 22, 30, 5, 2, 0), (30, .getfield 141, 33, 3, 1, 0), (33, .if_icmp .ge 25, 36, 58, 0, 0), (36, .aload_n 0, 37, 0, 0, 0), (37, .getfield 32, 40, 5, 4, 0), (40, .aload_n 0, 41, 0, 0, 0), (41, .getfield 22, 44, 5, 2, 0), (44, .getfield 144, 47, 3, 0, 0), (47, .iload_n 1, 48, 0, 0, 0), (48, .iaload, 49, 0, 0, 0), (49, .invokevirtual 158, 52, 1, 1, 0), (52, .iinc 1 1, 55, 0, 0, 0), (55, .goto (-30), 58, 25, 0, 0), (58, .aload_n 0, 59, 0, 0, 0), (59, .getfield 32, 62, 5, 4, 0), (62, .getfield 157, 65, 0, 1, 0), (65, .ireturn, 66, 0, 0, 0)]
theorem oX6_hearSpeech : ∀ e ∈ tX6_hearSpeech, zgood fRX6 cX6_hearSpeech 2 false e = true := by decide +kernel
def tX6_tallyIn : List zE := [(0, .iload_n 1, 1, 0, 0, 0), (1, .bipush 8, 3, 0, 0, 0), (3, .if_icmp .ne 9, 6, 12, 0, 0), (6, .sipush 764, 9, 0, 0, 0), (9, .goto 9, 12, 18, 0, 0), (12, .aload_n 0, 13, 0, 0, 0), (13, .getfield 50, 16, 5, 7, 0), (16, .iload_n 1, 17, 0, 0, 0), (17, .iaload, 18, 0, 0, 0), (18, .istore_n 2, 19, 0, 0, 0), (19, .iload_n 1, 20, 0, 0, 0), (20, .bipush 8, 22, 0, 0, 0), (22, .if_icmp .ne 9, 25, 31, 0, 0), (25, .sipush 1023, 28, 0, 0, 0), (28, .goto 10, 31, 38, 0, 0), (31, .sipush 1023, 34, 0, 0, 0), (34, .iload_n 2, 35, 0, 0, 0), (35, .iconst (-1), 36, 0, 0, 0), (36, .ixor, 37, 0, 0, 0), (37, .iand, 38, 0, 0, 0), (38, .istore_n 3, 39, 0, 0, 0), (39, .aload_n 0, 40, 0, 0, 0), (40, .getfield 32, 43, 5, 4, 0), (43, .iload_n 3, 44, 0, 0, 0), (44, .iload_n 2, 45, 0, 0, 0), (45, .aload_n 0, 46, 0, 0, 0), (46, .getfield 54, 49, 5, 8, 0), (49, .invokevirtual 293, 52, 2, 3, 0), (52, .ldc2_w 297, 55, 0, 0, 1000000000000000), (55, .invokestatic 299, 58, 205, 2, 0), (58, .lreturn, 59, 0, 0, 0)]
theorem oX6_tallyIn : ∀ e ∈ tX6_tallyIn, zgood fRX6 cX6_tallyIn 4 false e = true := by decide +kernel
def tX6_keepNode : List zE := [(0, .aload_n 0, 1, 0, 0, 0), (1, .getfield 10, 4, 5, 0, 0), (4, .iload_n 3, 5, 0, 0, 0), (5, .invokevirtual 66, 8, 24, 1, 0), (8, .ifCond .ne 5, 11, 13, 0, 0), (11, .iconst (-1), 12, 0, 0, 0), (12, .ireturn, 13, 0, 0, 0), (13, .iload_n 2, 14, 0, 0, 0), (14, .iconst 1, 15, 0, 0, 0), (15, .if_icmp .ne 37, 18, 52, 0, 0), (18, .aload_n 1, 19, 0, 0, 0), (19, .aload_n 0, 20, 0, 0, 0), (20, .getfield 10, 23, 5, 0, 0), (23, .getfield 96, 26, 1, 0, 0), (26, .iload_n 3, 27, 0, 0, 0), (27, .iaload, 28, 0, 0, 0), (28, .aload_n 0, 29, 0, 0, 0), (29, .getfield 10, 32, 5, 0, 0), (32, .getfield 99, 35, 1, 1, 0), (35, .iload_n 3, 36, 0, 0, 0), (36, .iaload, 37, 0, 0, 0), (37, .aload_n 0, 38, 0, 0, 0), (38, .getfield 10, 41, 5, 0, 0), (41, .getfield 111, 44, 1, 4, 0), (44, .iload_n 3, 45, 0, 0, 0), (45, .iaload, 46, 0, 0, 0), (46, .invokevirtual 305, 49, 47, 3, 0), (49, .goto 29, 52, 78, 0, 0), (52, .aload_n 1, 53, 0, 0, 0), (53, .iconst 4, 54, 0, 0, 0), (54, .aload_n 0, 55, 0, 0, 0), (55, .getfield 10, 58, 5, 0, 0), (58, .getfield 111, 61, 1, 4, 0), (61, .iload_n 3, 62, 0, 0, 0), (62, .iaload, 63, 0, 0, 0), (63, .invokevirtual 258, 66, 48, 2, 0), (66, .aload_n 0, 67, 0, 0, 0), (67, .getfield 10, 70, 5, 0, 0), (70, .iload_n 3, 71, 0, 0, 0), (71, .aload_n 1, 72, 0, 0, 0), (72, .getfield 274, 75, 2, 4, 0), (75, .invokevirtual 309, 78, 41, 2, 0), (78, .iconst 0, 79, 0, 0, 0), (79, .ireturn, 80, 0, 0, 0)]
theorem oX6_keepNode : ∀ e ∈ tX6_keepNode, zgood fRX6 cX6_keepNode 4 false e = true := by decide +kernel
def tX6_nodeRefusal : List zE := [(0, .iload_n 1, 1, 0, 0, 0), (1, .invokestatic 244, 4, 113, 1, 0), (4, .ifCond .ne 5, 7, 9, 0, 0), (7, .iconst (-1), 8, 0, 0, 0), (8, .ireturn, 9, 0, 0, 0), (9, .aload_n 0, 10, 0, 0, 0), (10, .getfield 45, 13, 5, 6, 0), (13, .iload_n 1, 14, 0, 0, 0), (14, .aaload, 15, 0, 0, 0), (15, .getfield 275, 18, 2, 0, 0), (18, .ifCond .ne 6, 21, 24, 0, 0), (21, .bipush (-11), 23, 0, 0, 0), (23, .ireturn, 24, 0, 0, 0), (24, .aload_n 0, 25, 0, 0, 0), (25, .getfield 45, 28, 5, 6, 0), (28, .iload_n 1, 29, 0, 0, 0), (29, .aaload, 30, 0, 0, 0), (30, .getfield 275, 33, 2, 0, 0), (33, .iconst 1, 34, 0, 0, 0), (34, .if_icmp .ne 7, 37, 41, 0, 0), (37, .iconst 0, 38, 0, 0, 0), (38, .goto 5, 41, 43, 0, 0), (41, .bipush (-12), 43, 0, 0, 0), (43, .ireturn, 44, 0, 0, 0)]
theorem oX6_nodeRefusal : ∀ e ∈ tX6_nodeRefusal, zgood fRX6 cX6_nodeRefusal 2 false e = true := by decide +kernel
end
section
def tX7_init_0 : List zE := [(0, .aload_n 0, 1, 0, 0, 0), (1, .invokespecial 1, 4, 9999, 0, 0), (4, .aload_n 0, 5, 0, 0, 0), (5, .sipush 450, 8, 0, 0, 0), (8, .newarray .int, 10, 0, 0, 0), (10, .putfield 7, 13, 6, 1, 0), (13, .aload_n 0, 14, 0, 0, 0), (14, .sipush 450, 17, 0, 0, 0), (17, .newarray .int, 19, 0, 0, 0), (19, .putfield 13, 22, 6, 2, 0), (22, .aload_n 0, 23, 0, 0, 0), (23, .sipush 450, 26, 0, 0, 0), (26, .newarray .int, 28, 0, 0, 0), (28, .putfield 16, 31, 6, 3, 0), (31, .aload_n 0, 32, 0, 0, 0), (32, .sipush 450, 35, 0, 0, 0), (35, .newarray .int, 37, 0, 0, 0), (37, .putfield 19, 40, 6, 4, 0), (40, .aload_n 0, 41, 0, 0, 0), (41, .sipush 450, 44, 0, 0, 0), (44, .newarray .int, 46, 0, 0, 0), (46, .putfield 22, 49, 6, 5, 0), (49, .aload_n 0, 50, 0, 0, 0), (50, .sipush 450, 53, 0, 0, 0), (53, .newarray .int, 55, 0, 0, 0), (55, .putfield 25, 58, 6, 6, 0), (58, .aload_n 0, 59, 0, 0, 0), (59, .bipush 10, 61, 0, 0, 0), (61, .newarray .boolean, 63, 0, 0, 0), (63, .putfield 28, 66, 6, 7, 0), (66, .aload_n 0, 67, 0, 0, 0), (67, .bipush 90, 69, 0, 0, 0), (69, .newarray .boolean, 71, 0, 0, 0), (71, .putfield 32, 74, 6, 8, 0), (74, .aload_n 0, 75, 0, 0, 0), (75, .bipush 20, 77, 0, 0, 0), (77, .newarray .int, 79, 0, 0, 0), (79, .putfield 35, 82, 6, 9, 0), (82, .aload_n 0, 83, 0, 0, 0), (83, .bipush 8, 85, 0, 0, 0), (85, .newarray .int, 87, 0, 0, 0), (87, .putfield 38, 90, 6, 11, 0), (90, .aload_n 0, 91, 0, 0, 0), (91, .bipush 8, 93, 0, 0, 0), (93, .newarray .int, 95, 0, 0, 0), (95, .putfield 41, 98, 6, 12, 0), (98, .aload_n 0, 99, 0, 0, 0), (99, .bipush 8, 101, 0, 0, 0), (101, .newarray .int, 103, 0, 0, 0), (103, .putfield 44, 106, 6, 13, 0)]
theorem oX7_init_0 : ∀ e ∈ tX7_init_0, zgood fRX7 cX7_init 2 true e = true := by decide +kernel
def tX7_init_1 : List zE := [(106, .aload_n 0, 107, 0, 0, 0), (107, .bipush 8, 109, 0, 0, 0), (109, .newarray .int, 111, 0, 0, 0), (111, .putfield 47, 114, 6, 14, 0), (114, .aload_n 0, 115, 0, 0, 0), (115, .sipush 480, 118, 0, 0, 0), (118, .newarray .int, 120, 0, 0, 0), (120, .putfield 50, 123, 6, 15, 0), (123, .aload_n 0, 124, 0, 0, 0), (124, .sipush 256, 127, 0, 0, 0), (127, .newarray .int, 129, 0, 0, 0), (129, .putfield 53, 132, 6, 17, 0), (132, .aload_n 0, 133, 0, 0, 0), (133, .iconst (-1), 134, 0, 0, 0), (134, .putfield 56, 137, 6, 19, 0), (137, .aload_n 0, 138, 0, 0, 0), (138, .sipush 256, 141, 0, 0, 0), (141, .newarray .int, 143, 0, 0, 0), (143, .putfield 60, 146, 6, 22, 0), (146, .aload_n 0, 147, 0, 0, 0), (147, .sipush 5600, 150, 0, 0, 0), (150, .newarray .int, 152, 0, 0, 0), (152, .putfield 63, 155, 6, 24, 0), (155, .aload_n 0, 156, 0, 0, 0), (156, .sipush 280, 159, 0, 0, 0), (159, .newarray .int, 161, 0, 0, 0), (161, .putfield 66, 164, 6, 25, 0), (164, .aload_n 0, 165, 0, 0, 0), (165, .sipush 8820, 168, 0, 0, 0), (168, .newarray .long, 170, 0, 0, 0), (170, .putfield 69, 173, 6, 26, 0), (173, .aload_n 0, 174, 0, 0, 0), (174, .sipush 441, 177, 0, 0, 0), (177, .newarray .long, 179, 0, 0, 0), (179, .putfield 73, 182, 6, 27, 0), (182, .aload_n 0, 183, 0, 0, 0), (183, .bipush 41, 185, 0, 0, 0), (185, .newarray .int, 187, 0, 0, 0), (187, .putfield 76, 190, 6, 31, 0), (190, .aload_n 0, 191, 0, 0, 0), (191, .bipush 41, 193, 0, 0, 0), (193, .newarray .int, 195, 0, 0, 0), (195, .putfield 79, 198, 6, 32, 0), (198, .iconst 2, 199, 0, 0, 0), (199, .istore_n 1, 200, 0, 0, 0), (200, .iload_n 1, 201, 0, 0, 0), (201, .bipush 10, 203, 0, 0, 0), (203, .if_icmp .ge 26, 206, 229, 0, 0), (206, .aload_n 0, 207, 0, 0, 0), (207, .getfield 32, 210, 6, 8, 0)]
theorem oX7_init_1 : ∀ e ∈ tX7_init_1, zgood fRX7 cX7_init 2 true e = true := by decide +kernel
def tX7_init_2 : List zE := [(210, .iload_n 1, 211, 0, 0, 0), (211, .iload_n 1, 212, 0, 0, 0), (212, .bipush 8, 214, 0, 0, 0), (214, .if_icmp .eq 7, 217, 221, 0, 0), (217, .iconst 1, 218, 0, 0, 0), (218, .goto 4, 221, 222, 0, 0), (221, .iconst 0, 222, 0, 0, 0), (222, .bastore, 223, 0, 0, 0), (223, .iinc 1 1, 226, 0, 0, 0), (226, .goto (-26), 229, 200, 0, 0), (229, .return_, 230, 0, 0, 0)]
theorem oX7_init_2 : ∀ e ∈ tX7_init_2, zgood fRX7 cX7_init 2 true e = true := by decide +kernel
def tX7_init : List zE := tX7_init_0 ++ (tX7_init_1 ++ (tX7_init_2))
theorem oX7_init : ∀ e ∈ tX7_init, zgood fRX7 cX7_init 2 true e = true := (zapp oX7_init_0 (zapp oX7_init_1 oX7_init_2))
def tX7_in : List zE := [(0, .lload_n 0, 1, 0, 0, 0), (1, .lload_n 2, 2, 0, 0, 0), (2, .lcmp, 3, 0, 0, 0), (3, .ifCond .lt 14, 6, 17, 0, 0), (6, .lload_n 0, 7, 0, 0, 0), (7, .lload 4, 9, 0, 0, 0), (9, .lcmp, 10, 0, 0, 0), (10, .ifCond .gt 7, 13, 17, 0, 0), (13, .iconst 1, 14, 0, 0, 0), (14, .goto 4, 17, 18, 0, 0), (17, .iconst 0, 18, 0, 0, 0), (18, .ireturn, 19, 0, 0, 0)]
theorem oX7_in : ∀ e ∈ tX7_in, zgood fRX7 cX7_in 6 false e = true := by decide +kernel
def tX7_isNode : List zE := [(0, .iload_n 1, 1, 0, 0, 0), (1, .i2l, 2, 0, 0, 0), (2, .lconst 0, 3, 0, 0, 0), (3, .aload_n 0, 4, 0, 0, 0), (4, .getfield 85, 7, 6, 0, 0), (7, .iconst 1, 8, 0, 0, 0), (8, .isub, 9, 0, 0, 0), (9, .i2l, 10, 0, 0, 0), (10, .invokestatic 88, 13, 121, 3, 0), (13, .ireturn, 14, 0, 0, 0)]
theorem oX7_isNode : ∀ e ∈ tX7_isNode, zgood fRX7 cX7_isNode 2 false e = true := by decide +kernel
def tX7_isTwo : List zE := [(0, .iload_n 0, 1, 0, 0, 0), (1, .iconst 2, 2, 0, 0, 0), (2, .if_icmp .lt 13, 5, 15, 0, 0), (5, .iload_n 0, 6, 0, 0, 0), (6, .bipush 6, 8, 0, 0, 0), (8, .if_icmp .gt 7, 11, 15, 0, 0), (11, .iconst 1, 12, 0, 0, 0), (12, .goto 4, 15, 16, 0, 0), (15, .iconst 0, 16, 0, 0, 0), (16, .ireturn, 17, 0, 0, 0)]
theorem oX7_isTwo : ∀ e ∈ tX7_isTwo, zgood fRX7 cX7_isTwo 1 false e = true := by decide +kernel
def tX7_mayKeep : List zE := [(0, .iload_n 0, 1, 0, 0, 0), (1, .iconst 2, 2, 0, 0, 0), (2, .if_icmp .lt 19, 5, 21, 0, 0), (5, .iload_n 0, 6, 0, 0, 0), (6, .bipush 9, 8, 0, 0, 0), (8, .if_icmp .gt 13, 11, 21, 0, 0), (11, .iload_n 0, 12, 0, 0, 0), (12, .bipush 8, 14, 0, 0, 0), (14, .if_icmp .eq 7, 17, 21, 0, 0), (17, .iconst 1, 18, 0, 0, 0), (18, .goto 4, 21, 22, 0, 0), (21, .iconst 0, 22, 0, 0, 0), (22, .ireturn, 23, 0, 0, 0)]
theorem oX7_mayKeep : ∀ e ∈ tX7_mayKeep, zgood fRX7 cX7_mayKeep 1 false e = true := by decide +kernel
def tX7_isStyle : List zE := [(0, .iload_n 0, 1, 0, 0, 0), (1, .i2l, 2, 0, 0, 0), (2, .lconst 0, 3, 0, 0, 0), (3, .ldc2_w 92, 6, 0, 0, 7), (6, .invokestatic 88, 9, 121, 3, 0), (9, .ireturn, 10, 0, 0, 0)]
theorem oX7_isStyle : ∀ e ∈ tX7_isStyle, zgood fRX7 cX7_isStyle 1 false e = true := by decide +kernel
def tX7_sets_0 : List zE := [(0, .aload_n 0, 1, 0, 0, 0), (1, .getfield 7, 4, 6, 1, 0), (4, .iload_n 1, 5, 0, 0, 0), (5, .iload_n 2, 6, 0, 0, 0), (6, .iastore, 7, 0, 0, 0), (7, .aload_n 0, 8, 0, 0, 0), (8, .getfield 13, 11, 6, 2, 0), (11, .iload_n 1, 12, 0, 0, 0), (12, .iload_n 3, 13, 0, 0, 0), (13, .iastore, 14, 0, 0, 0), (14, .aload_n 0, 15, 0, 0, 0), (15, .getfield 16, 18, 6, 3, 0), (18, .iload_n 1, 19, 0, 0, 0), (19, .iload 4, 21, 0, 0, 0), (21, .iastore, 22, 0, 0, 0), (22, .aload_n 0, 23, 0, 0, 0), (23, .getfield 19, 26, 6, 4, 0), (26, .iload_n 1, 27, 0, 0, 0), (27, .iload 5, 29, 0, 0, 0), (29, .iastore, 30, 0, 0, 0), (30, .aload_n 0, 31, 0, 0, 0), (31, .getfield 22, 34, 6, 5, 0), (34, .iload_n 1, 35, 0, 0, 0), (35, .iconst 1, 36, 0, 0, 0), (36, .iload 4, 38, 0, 0, 0), (38, .ifCond .ge 7, 41, 45, 0, 0), (41, .iconst 0, 42, 0, 0, 0), (42, .goto 10, 45, 52, 0, 0), (45, .aload_n 0, 46, 0, 0, 0), (46, .getfield 22, 49, 6, 5, 0), (49, .iload 4, 51, 0, 0, 0), (51, .iaload, 52, 0, 0, 0), (52, .iadd, 53, 0, 0, 0), (53, .iload 5, 55, 0, 0, 0), (55, .ifCond .ge 7, 58, 62, 0, 0), (58, .iconst 0, 59, 0, 0, 0), (59, .goto 10, 62, 69, 0, 0), (62, .aload_n 0, 63, 0, 0, 0), (63, .getfield 22, 66, 6, 5, 0), (66, .iload 5, 68, 0, 0, 0), (68, .iaload, 69, 0, 0, 0), (69, .iadd, 70, 0, 0, 0), (70, .iastore, 71, 0, 0, 0), (71, .iload 4, 73, 0, 0, 0), (73, .ifCond .ge 7, 76, 80, 0, 0), (76, .iconst 0, 77, 0, 0, 0), (77, .goto 10, 80, 87, 0, 0), (80, .aload_n 0, 81, 0, 0, 0), (81, .getfield 25, 84, 6, 6, 0), (84, .iload 4, 86, 0, 0, 0)]
theorem oX7_sets_0 : ∀ e ∈ tX7_sets_0, zgood fRX7 cX7_sets 8 false e = true := by decide +kernel
def tX7_sets_1 : List zE := [(86, .iaload, 87, 0, 0, 0), (87, .istore 6, 89, 0, 0, 0), (89, .iload 5, 91, 0, 0, 0), (91, .ifCond .ge 7, 94, 98, 0, 0), (94, .iconst 0, 95, 0, 0, 0), (95, .goto 10, 98, 105, 0, 0), (98, .aload_n 0, 99, 0, 0, 0), (99, .getfield 25, 102, 6, 6, 0), (102, .iload 5, 104, 0, 0, 0), (104, .iaload, 105, 0, 0, 0), (105, .istore 7, 107, 0, 0, 0), (107, .aload_n 0, 108, 0, 0, 0), (108, .getfield 25, 111, 6, 6, 0), (111, .iload_n 1, 112, 0, 0, 0), (112, .iconst 1, 113, 0, 0, 0), (113, .iload 6, 115, 0, 0, 0), (115, .iload 7, 117, 0, 0, 0), (117, .if_icmp .le 8, 120, 125, 0, 0), (120, .iload 6, 122, 0, 0, 0), (122, .goto 5, 125, 127, 0, 0), (125, .iload 7, 127, 0, 0, 0), (127, .iadd, 128, 0, 0, 0), (128, .iastore, 129, 0, 0, 0), (129, .return_, 130, 0, 0, 0)]
theorem oX7_sets_1 : ∀ e ∈ tX7_sets_1, zgood fRX7 cX7_sets 8 false e = true := by decide +kernel
def tX7_sets : List zE := tX7_sets_0 ++ (tX7_sets_1)
theorem oX7_sets : ∀ e ∈ tX7_sets, zgood fRX7 cX7_sets 8 false e = true := (zapp oX7_sets_0 oX7_sets_1)
def tX7_leaf : List zE := [(0, .iload_n 1, 1, 0, 0, 0), (1, .i2l, 2, 0, 0, 0), (2, .lconst 0, 3, 0, 0, 0), (3, .lconst 1, 4, 0, 0, 0), (4, .invokestatic 88, 7, 121, 3, 0), (7, .ifCond .eq 25, 10, 32, 0, 0), (10, .iload_n 2, 11, 0, 0, 0), (11, .i2l, 12, 0, 0, 0), (12, .lconst 0, 13, 0, 0, 0), (13, .iload_n 1, 14, 0, 0, 0), (14, .ifCond .ne 9, 17, 23, 0, 0), (17, .ldc2_w 94, 20, 0, 0, 9), (20, .goto 6, 23, 26, 0, 0), (23, .ldc2_w 96, 26, 0, 0, 9999), (26, .invokestatic 88, 29, 121, 3, 0), (29, .ifCond .ne 5, 32, 34, 0, 0), (32, .iconst (-1), 33, 0, 0, 0), (33, .ireturn, 34, 0, 0, 0), (34, .aload_n 0, 35, 0, 0, 0), (35, .getfield 85, 38, 6, 0, 0), (38, .bipush 120, 40, 0, 0, 0), (40, .if_icmp .ne 6, 43, 46, 0, 0), (43, .bipush (-2), 45, 0, 0, 0), (45, .ireturn, 46, 0, 0, 0), (46, .aload_n 0, 47, 0, 0, 0), (47, .aload_n 0, 48, 0, 0, 0), (48, .getfield 85, 51, 6, 0, 0), (51, .iload_n 1, 52, 0, 0, 0), (52, .iload_n 2, 53, 0, 0, 0), (53, .bipush (-2), 55, 0, 0, 0), (55, .bipush (-2), 57, 0, 0, 0), (57, .invokevirtual 98, 60, 126, 5, 0), (60, .aload_n 0, 61, 0, 0, 0), (61, .dup, 62, 0, 0, 0), (62, .getfield 85, 65, 6, 0, 0), (65, .iconst 1, 66, 0, 0, 0), (66, .iadd, 67, 0, 0, 0), (67, .putfield 85, 70, 6, 0, 0), (70, .aload_n 0, 71, 0, 0, 0), (71, .getfield 85, 74, 6, 0, 0), (74, .iconst 1, 75, 0, 0, 0), (75, .isub, 76, 0, 0, 0), (76, .ireturn, 77, 0, 0, 0)]
theorem oX7_leaf : ∀ e ∈ tX7_leaf, zgood fRX7 cX7_leaf 3 false e = true := by decide +kernel
def tX7_node_0 : List zE := [(0, .iload_n 1, 1, 0, 0, 0), (1, .i2l, 2, 0, 0, 0), (2, .ldc2_w 102, 5, 0, 0, 2), (5, .ldc2_w 94, 8, 0, 0, 9), (8, .invokestatic 88, 11, 121, 3, 0), (11, .ifCond .eq 51, 14, 62, 0, 0), (14, .aload_n 0, 15, 0, 0, 0), (15, .iload_n 2, 16, 0, 0, 0), (16, .invokevirtual 104, 19, 122, 1, 0), (19, .ifCond .eq 43, 22, 62, 0, 0), (22, .iload_n 1, 23, 0, 0, 0), (23, .bipush 9, 25, 0, 0, 0), (25, .if_icmp .ne 18, 28, 43, 0, 0), (28, .iload_n 3, 29, 0, 0, 0), (29, .i2l, 30, 0, 0, 0), (30, .lconst 0, 31, 0, 0, 0), (31, .ldc2_w 94, 34, 0, 0, 9), (34, .invokestatic 88, 37, 121, 3, 0), (37, .ifCond .eq 25, 40, 62, 0, 0), (40, .goto 18, 43, 58, 0, 0), (43, .iload_n 1, 44, 0, 0, 0), (44, .invokestatic 108, 47, 123, 1, 0), (47, .ifCond .eq 11, 50, 58, 0, 0), (50, .aload_n 0, 51, 0, 0, 0), (51, .iload_n 3, 52, 0, 0, 0), (52, .invokevirtual 104, 55, 122, 1, 0), (55, .ifCond .eq 7, 58, 62, 0, 0), (58, .iconst 1, 59, 0, 0, 0), (59, .goto 4, 62, 63, 0, 0), (62, .iconst 0, 63, 0, 0, 0), (63, .istore 4, 65, 0, 0, 0), (65, .iload 4, 67, 0, 0, 0), (67, .ifCond .ne 5, 70, 72, 0, 0), (70, .iconst (-1), 71, 0, 0, 0), (71, .ireturn, 72, 0, 0, 0), (72, .aload_n 0, 73, 0, 0, 0), (73, .getfield 85, 76, 6, 0, 0), (76, .bipush 120, 78, 0, 0, 0), (78, .if_icmp .ne 6, 81, 84, 0, 0), (81, .bipush (-2), 83, 0, 0, 0), (83, .ireturn, 84, 0, 0, 0), (84, .iconst 1, 85, 0, 0, 0), (85, .aload_n 0, 86, 0, 0, 0), (86, .getfield 22, 89, 6, 5, 0), (89, .iload_n 2, 90, 0, 0, 0), (90, .iaload, 91, 0, 0, 0), (91, .iadd, 92, 0, 0, 0), (92, .iload_n 1, 93, 0, 0, 0), (93, .invokestatic 108, 96, 123, 1, 0), (96, .ifCond .eq 12, 99, 108, 0, 0)]
theorem oX7_node_0 : ∀ e ∈ tX7_node_0, zgood fRX7 cX7_node 5 false e = true := by decide +kernel
def tX7_node_1 : List zE := [(99, .aload_n 0, 100, 0, 0, 0), (100, .getfield 22, 103, 6, 5, 0), (103, .iload_n 3, 104, 0, 0, 0), (104, .iaload, 105, 0, 0, 0), (105, .goto 4, 108, 109, 0, 0), (108, .iconst 0, 109, 0, 0, 0), (109, .iadd, 110, 0, 0, 0), (110, .bipush 40, 112, 0, 0, 0), (112, .if_icmp .le 6, 115, 118, 0, 0), (115, .bipush (-3), 117, 0, 0, 0), (117, .ireturn, 118, 0, 0, 0), (118, .aload_n 0, 119, 0, 0, 0), (119, .aload_n 0, 120, 0, 0, 0), (120, .getfield 85, 123, 6, 0, 0), (123, .iload_n 1, 124, 0, 0, 0), (124, .iload_n 1, 125, 0, 0, 0), (125, .bipush 9, 127, 0, 0, 0), (127, .if_icmp .ne 7, 130, 134, 0, 0), (130, .iload_n 3, 131, 0, 0, 0), (131, .goto 5, 134, 136, 0, 0), (134, .bipush (-2), 136, 0, 0, 0), (136, .iload_n 2, 137, 0, 0, 0), (137, .iload_n 1, 138, 0, 0, 0), (138, .invokestatic 108, 141, 123, 1, 0), (141, .ifCond .eq 7, 144, 148, 0, 0), (144, .iload_n 3, 145, 0, 0, 0), (145, .goto 5, 148, 150, 0, 0), (148, .bipush (-2), 150, 0, 0, 0), (150, .invokevirtual 98, 153, 126, 5, 0), (153, .aload_n 0, 154, 0, 0, 0), (154, .dup, 155, 0, 0, 0), (155, .getfield 85, 158, 6, 0, 0), (158, .iconst 1, 159, 0, 0, 0), (159, .iadd, 160, 0, 0, 0), (160, .putfield 85, 163, 6, 0, 0), (163, .aload_n 0, 164, 0, 0, 0), (164, .getfield 85, 167, 6, 0, 0), (167, .iconst 1, 168, 0, 0, 0), (168, .isub, 169, 0, 0, 0), (169, .ireturn, 170, 0, 0, 0)]
theorem oX7_node_1 : ∀ e ∈ tX7_node_1, zgood fRX7 cX7_node 5 false e = true := by decide +kernel
def tX7_node : List zE := tX7_node_0 ++ (tX7_node_1)
theorem oX7_node : ∀ e ∈ tX7_node, zgood fRX7 cX7_node 5 false e = true := (zapp oX7_node_0 oX7_node_1)
def tX7_undo : List zE := [(0, .aload_n 0, 1, 0, 0, 0), (1, .getfield 85, 4, 6, 0, 0), (4, .ifCond .ne 5, 7, 9, 0, 0), (7, .iconst (-1), 8, 0, 0, 0), (8, .ireturn, 9, 0, 0, 0), (9, .aload_n 0, 10, 0, 0, 0), (10, .getfield 111, 13, 6, 30, 0), (13, .ifCond .eq 21, 16, 34, 0, 0), (16, .aload_n 0, 17, 0, 0, 0), (17, .getfield 76, 20, 6, 31, 0), (20, .iconst 0, 21, 0, 0, 0), (21, .iaload, 22, 0, 0, 0), (22, .aload_n 0, 23, 0, 0, 0), (23, .getfield 85, 26, 6, 0, 0), (26, .iconst 1, 27, 0, 0, 0), (27, .isub, 28, 0, 0, 0), (28, .if_icmp .ne 6, 31, 34, 0, 0), (31, .bipush (-3), 33, 0, 0, 0), (33, .ireturn, 34, 0, 0, 0), (34, .aload_n 0, 35, 0, 0, 0), (35, .dup, 36, 0, 0, 0), (36, .getfield 85, 39, 6, 0, 0), (39, .iconst 1, 40, 0, 0, 0), (40, .isub, 41, 0, 0, 0), (41, .putfield 85, 44, 6, 0, 0), (44, .aload_n 0, 45, 0, 0, 0), (45, .getfield 85, 48, 6, 0, 0), (48, .ireturn, 49, 0, 0, 0)]
theorem oX7_undo : ∀ e ∈ tX7_undo, zgood fRX7 cX7_undo 1 false e = true := by decide +kernel
def tX7_means : List zE := [(0, .iload_n 1, 1, 0, 0, 0), (1, .i2l, 2, 0, 0, 0), (2, .lconst 0, 3, 0, 0, 0), (3, .ldc2_w 94, 6, 0, 0, 9), (6, .invokestatic 88, 9, 121, 3, 0), (9, .ifCond .ne 5, 12, 14, 0, 0), (12, .iconst (-1), 13, 0, 0, 0), (13, .ireturn, 14, 0, 0, 0), (14, .aload_n 0, 15, 0, 0, 0), (15, .getfield 28, 18, 6, 7, 0), (18, .iload_n 1, 19, 0, 0, 0), (19, .baload, 20, 0, 0, 0), (20, .iload_n 2, 21, 0, 0, 0), (21, .if_icmp .eq 7, 24, 28, 0, 0), (24, .iconst 1, 25, 0, 0, 0), (25, .goto 4, 28, 29, 0, 0), (28, .iconst 0, 29, 0, 0, 0), (29, .istore_n 3, 30, 0, 0, 0), (30, .aload_n 0, 31, 0, 0, 0), (31, .getfield 28, 34, 6, 7, 0), (34, .iload_n 1, 35, 0, 0, 0), (35, .iload_n 2, 36, 0, 0, 0), (36, .bastore, 37, 0, 0, 0), (37, .iload_n 3, 38, 0, 0, 0), (38, .ireturn, 39, 0, 0, 0)]
theorem oX7_means : ∀ e ∈ tX7_means, zgood fRX7 cX7_means 4 false e = true := by decide +kernel
def tX7_isRight_0 : List zE := [(0, .iload_n 1, 1, 0, 0, 0), (1, .ifCond .ge 5, 4, 6, 0, 0), (4, .iconst 1, 5, 0, 0, 0), (5, .ireturn, 6, 0, 0, 0), (6, .aload_n 0, 7, 0, 0, 0), (7, .getfield 7, 10, 6, 1, 0), (10, .iload_n 1, 11, 0, 0, 0), (11, .iaload, 12, 0, 0, 0), (12, .ifCond .ne 25, 15, 37, 0, 0), (15, .aload_n 0, 16, 0, 0, 0), (16, .getfield 28, 19, 6, 7, 0), (19, .aload_n 0, 20, 0, 0, 0), (20, .getfield 13, 23, 6, 2, 0), (23, .iload_n 1, 24, 0, 0, 0), (24, .iaload, 25, 0, 0, 0), (25, .baload, 26, 0, 0, 0), (26, .ifCond .ne 7, 29, 33, 0, 0), (29, .iconst 1, 30, 0, 0, 0), (30, .goto 37, 33, 67, 0, 0), (33, .iconst 0, 34, 0, 0, 0), (34, .goto 33, 37, 67, 0, 0), (37, .aload_n 0, 38, 0, 0, 0), (38, .getfield 7, 41, 6, 1, 0), (41, .iload_n 1, 42, 0, 0, 0), (42, .iaload, 43, 0, 0, 0), (43, .bipush 9, 45, 0, 0, 0), (45, .if_icmp .ne 17, 48, 62, 0, 0), (48, .aload_n 0, 49, 0, 0, 0), (49, .getfield 28, 52, 6, 7, 0), (52, .aload_n 0, 53, 0, 0, 0), (53, .getfield 13, 56, 6, 2, 0), (56, .iload_n 1, 57, 0, 0, 0), (57, .iaload, 58, 0, 0, 0), (58, .baload, 59, 0, 0, 0), (59, .ifCond .eq 7, 62, 66, 0, 0), (62, .iconst 1, 63, 0, 0, 0), (63, .goto 4, 66, 67, 0, 0), (66, .iconst 0, 67, 0, 0, 0), (67, .istore_n 2, 68, 0, 0, 0), (68, .iload_n 2, 69, 0, 0, 0), (69, .ifCond .eq 33, 72, 102, 0, 0), (72, .aload_n 0, 73, 0, 0, 0), (73, .aload_n 0, 74, 0, 0, 0), (74, .getfield 16, 77, 6, 3, 0), (77, .iload_n 1, 78, 0, 0, 0), (78, .iaload, 79, 0, 0, 0), (79, .invokevirtual 115, 82, 131, 1, 0), (82, .ifCond .eq 20, 85, 102, 0, 0), (85, .aload_n 0, 86, 0, 0, 0), (86, .aload_n 0, 87, 0, 0, 0)]
theorem oX7_isRight_0 : ∀ e ∈ tX7_isRight_0, zgood fRX7 cX7_isRight 3 false e = true := by decide +kernel
def tX7_isRight_1 : List zE := [(87, .getfield 19, 90, 6, 4, 0), (90, .iload_n 1, 91, 0, 0, 0), (91, .iaload, 92, 0, 0, 0), (92, .invokevirtual 115, 95, 131, 1, 0), (95, .ifCond .eq 7, 98, 102, 0, 0), (98, .iconst 1, 99, 0, 0, 0), (99, .goto 4, 102, 103, 0, 0), (102, .iconst 0, 103, 0, 0, 0), (103, .ireturn, 104, 0, 0, 0)]
theorem oX7_isRight_1 : ∀ e ∈ tX7_isRight_1, zgood fRX7 cX7_isRight 3 false e = true := by decide +kernel
def tX7_isRight : List zE := tX7_isRight_0 ++ (tX7_isRight_1)
theorem oX7_isRight : ∀ e ∈ tX7_isRight, zgood fRX7 cX7_isRight 3 false e = true := (zapp oX7_isRight_0 oX7_isRight_1)
def tX7_look_0 : List zE := [(0, .aload_n 0, 1, 0, 0, 0), (1, .iload_n 1, 2, 0, 0, 0), (2, .invokevirtual 104, 5, 122, 1, 0), (5, .ifCond .eq 15, 8, 20, 0, 0), (8, .iload_n 2, 9, 0, 0, 0), (9, .i2l, 10, 0, 0, 0), (10, .lconst 0, 11, 0, 0, 0), (11, .ldc2_w 118, 14, 0, 0, 6), (14, .invokestatic 88, 17, 121, 3, 0), (17, .ifCond .ne 5, 20, 22, 0, 0), (20, .iconst (-1), 21, 0, 0, 0), (21, .ireturn, 22, 0, 0, 0), (22, .iload_n 2, 23, 0, 0, 0), (23, .tableswitch 79 0 5 #[37, 44, 51, 58, 65, 72], 60, 0, 0, 0), (60, .aload_n 0, 61, 0, 0, 0), (61, .getfield 7, 64, 6, 1, 0), (64, .iload_n 1, 65, 0, 0, 0), (65, .iaload, 66, 0, 0, 0), (66, .ireturn, 67, 0, 0, 0), (67, .aload_n 0, 68, 0, 0, 0), (68, .getfield 13, 71, 6, 2, 0), (71, .iload_n 1, 72, 0, 0, 0), (72, .iaload, 73, 0, 0, 0), (73, .ireturn, 74, 0, 0, 0), (74, .aload_n 0, 75, 0, 0, 0), (75, .getfield 16, 78, 6, 3, 0), (78, .iload_n 1, 79, 0, 0, 0), (79, .iaload, 80, 0, 0, 0), (80, .ireturn, 81, 0, 0, 0), (81, .aload_n 0, 82, 0, 0, 0), (82, .getfield 19, 85, 6, 4, 0), (85, .iload_n 1, 86, 0, 0, 0), (86, .iaload, 87, 0, 0, 0), (87, .ireturn, 88, 0, 0, 0), (88, .aload_n 0, 89, 0, 0, 0), (89, .getfield 22, 92, 6, 5, 0), (92, .iload_n 1, 93, 0, 0, 0), (93, .iaload, 94, 0, 0, 0), (94, .ireturn, 95, 0, 0, 0), (95, .aload_n 0, 96, 0, 0, 0), (96, .getfield 25, 99, 6, 6, 0), (99, .iload_n 1, 100, 0, 0, 0), (100, .iaload, 101, 0, 0, 0), (101, .ireturn, 102, 0, 0, 0), (102, .aload_n 0, 103, 0, 0, 0), (103, .iload_n 1, 104, 0, 0, 0), (104, .invokevirtual 115, 107, 131, 1, 0), (107, .ifCond .eq 7, 110, 114, 0, 0), (110, .iconst 1, 111, 0, 0, 0), (111, .goto 4, 114, 115, 0, 0)]
theorem oX7_look_0 : ∀ e ∈ tX7_look_0, zgood fRX7 cX7_look 3 false e = true := by decide +kernel
def tX7_look_1 : List zE := [(114, .iconst 0, 115, 0, 0, 0), (115, .ireturn, 116, 0, 0, 0)]
theorem oX7_look_1 : ∀ e ∈ tX7_look_1, zgood fRX7 cX7_look 3 false e = true := by decide +kernel
def tX7_look : List zE := tX7_look_0 ++ (tX7_look_1)
theorem oX7_look : ∀ e ∈ tX7_look, zgood fRX7 cX7_look 3 false e = true := (zapp oX7_look_0 oX7_look_1)
def tX7_areAlike_0 : List zE := [(0, .iload_n 1, 1, 0, 0, 0), (1, .ifCond .lt 7, 4, 8, 0, 0), (4, .iload_n 2, 5, 0, 0, 0), (5, .ifCond .ge 17, 8, 22, 0, 0), (8, .iload_n 1, 9, 0, 0, 0), (9, .ifCond .ge 11, 12, 20, 0, 0), (12, .iload_n 2, 13, 0, 0, 0), (13, .ifCond .ge 7, 16, 20, 0, 0), (16, .iconst 1, 17, 0, 0, 0), (17, .goto 4, 20, 21, 0, 0), (20, .iconst 0, 21, 0, 0, 0), (21, .ireturn, 22, 0, 0, 0), (22, .aload_n 0, 23, 0, 0, 0), (23, .getfield 7, 26, 6, 1, 0), (26, .iload_n 1, 27, 0, 0, 0), (27, .iaload, 28, 0, 0, 0), (28, .aload_n 0, 29, 0, 0, 0), (29, .getfield 7, 32, 6, 1, 0), (32, .iload_n 2, 33, 0, 0, 0), (33, .iaload, 34, 0, 0, 0), (34, .if_icmp .ne 75, 37, 109, 0, 0), (37, .aload_n 0, 38, 0, 0, 0), (38, .getfield 13, 41, 6, 2, 0), (41, .iload_n 1, 42, 0, 0, 0), (42, .iaload, 43, 0, 0, 0), (43, .aload_n 0, 44, 0, 0, 0), (44, .getfield 13, 47, 6, 2, 0), (47, .iload_n 2, 48, 0, 0, 0), (48, .iaload, 49, 0, 0, 0), (49, .if_icmp .ne 60, 52, 109, 0, 0), (52, .aload_n 0, 53, 0, 0, 0), (53, .getfield 22, 56, 6, 5, 0), (56, .iload_n 1, 57, 0, 0, 0), (57, .iaload, 58, 0, 0, 0), (58, .aload_n 0, 59, 0, 0, 0), (59, .getfield 22, 62, 6, 5, 0), (62, .iload_n 2, 63, 0, 0, 0), (63, .iaload, 64, 0, 0, 0), (64, .if_icmp .ne 45, 67, 109, 0, 0), (67, .aload_n 0, 68, 0, 0, 0), (68, .aload_n 0, 69, 0, 0, 0), (69, .getfield 16, 72, 6, 3, 0), (72, .iload_n 1, 73, 0, 0, 0), (73, .iaload, 74, 0, 0, 0), (74, .aload_n 0, 75, 0, 0, 0), (75, .getfield 16, 78, 6, 3, 0), (78, .iload_n 2, 79, 0, 0, 0), (79, .iaload, 80, 0, 0, 0), (80, .invokevirtual 120, 83, 133, 2, 0), (83, .ifCond .eq 26, 86, 109, 0, 0)]
theorem oX7_areAlike_0 : ∀ e ∈ tX7_areAlike_0, zgood fRX7 cX7_areAlike 3 false e = true := by decide +kernel
def tX7_areAlike_1 : List zE := [(86, .aload_n 0, 87, 0, 0, 0), (87, .aload_n 0, 88, 0, 0, 0), (88, .getfield 19, 91, 6, 4, 0), (91, .iload_n 1, 92, 0, 0, 0), (92, .iaload, 93, 0, 0, 0), (93, .aload_n 0, 94, 0, 0, 0), (94, .getfield 19, 97, 6, 4, 0), (97, .iload_n 2, 98, 0, 0, 0), (98, .iaload, 99, 0, 0, 0), (99, .invokevirtual 120, 102, 133, 2, 0), (102, .ifCond .eq 7, 105, 109, 0, 0), (105, .iconst 1, 106, 0, 0, 0), (106, .goto 4, 109, 110, 0, 0), (109, .iconst 0, 110, 0, 0, 0), (110, .ireturn, 111, 0, 0, 0)]
theorem oX7_areAlike_1 : ∀ e ∈ tX7_areAlike_1, zgood fRX7 cX7_areAlike 3 false e = true := by decide +kernel
def tX7_areAlike : List zE := tX7_areAlike_0 ++ (tX7_areAlike_1)
theorem oX7_areAlike : ∀ e ∈ tX7_areAlike, zgood fRX7 cX7_areAlike 3 false e = true := (zapp oX7_areAlike_0 oX7_areAlike_1)
def tX7_alike : List zE := [(0, .aload_n 0, 1, 0, 0, 0), (1, .iload_n 1, 2, 0, 0, 0), (2, .invokevirtual 104, 5, 122, 1, 0), (5, .ifCond .eq 11, 8, 16, 0, 0), (8, .aload_n 0, 9, 0, 0, 0), (9, .iload_n 2, 10, 0, 0, 0), (10, .invokevirtual 104, 13, 122, 1, 0), (13, .ifCond .ne 7, 16, 20, 0, 0), (16, .iconst (-1), 17, 0, 0, 0), (17, .goto 17, 20, 34, 0, 0), (20, .aload_n 0, 21, 0, 0, 0), (21, .iload_n 1, 22, 0, 0, 0), (22, .iload_n 2, 23, 0, 0, 0), (23, .invokevirtual 120, 26, 133, 2, 0), (26, .ifCond .eq 7, 29, 33, 0, 0), (29, .iconst 1, 30, 0, 0, 0), (30, .goto 4, 33, 34, 0, 0), (33, .iconst 0, 34, 0, 0, 0), (34, .ireturn, 35, 0, 0, 0)]
theorem oX7_alike : ∀ e ∈ tX7_alike, zgood fRX7 cX7_alike 3 false e = true := by decide +kernel
def tX7_has : List zE := [(0, .iload_n 1, 1, 0, 0, 0), (1, .ifCond .ge 5, 4, 6, 0, 0), (4, .iconst 0, 5, 0, 0, 0), (5, .ireturn, 6, 0, 0, 0), (6, .aload_n 0, 7, 0, 0, 0), (7, .iload_n 1, 8, 0, 0, 0), (8, .iload_n 2, 9, 0, 0, 0), (9, .invokevirtual 120, 12, 133, 2, 0), (12, .ifCond .eq 7, 15, 19, 0, 0), (15, .iconst 1, 16, 0, 0, 0), (16, .goto 4, 19, 20, 0, 0), (19, .iconst 0, 20, 0, 0, 0), (20, .aload_n 0, 21, 0, 0, 0), (21, .aload_n 0, 22, 0, 0, 0), (22, .getfield 16, 25, 6, 3, 0), (25, .iload_n 1, 26, 0, 0, 0), (26, .iaload, 27, 0, 0, 0), (27, .iload_n 2, 28, 0, 0, 0), (28, .invokevirtual 124, 31, 135, 2, 0), (31, .iadd, 32, 0, 0, 0), (32, .aload_n 0, 33, 0, 0, 0), (33, .aload_n 0, 34, 0, 0, 0), (34, .getfield 19, 37, 6, 4, 0), (37, .iload_n 1, 38, 0, 0, 0), (38, .iaload, 39, 0, 0, 0), (39, .iload_n 2, 40, 0, 0, 0), (40, .invokevirtual 124, 43, 135, 2, 0), (43, .iadd, 44, 0, 0, 0), (44, .ireturn, 45, 0, 0, 0)]
theorem oX7_has : ∀ e ∈ tX7_has, zgood fRX7 cX7_has 3 false e = true := by decide +kernel
def tX7_times : List zE := [(0, .aload_n 0, 1, 0, 0, 0), (1, .iload_n 1, 2, 0, 0, 0), (2, .invokevirtual 104, 5, 122, 1, 0), (5, .ifCond .eq 20, 8, 25, 0, 0), (8, .aload_n 0, 9, 0, 0, 0), (9, .iload_n 2, 10, 0, 0, 0), (10, .invokevirtual 104, 13, 122, 1, 0), (13, .ifCond .eq 12, 16, 25, 0, 0), (16, .aload_n 0, 17, 0, 0, 0), (17, .iload_n 1, 18, 0, 0, 0), (18, .iload_n 2, 19, 0, 0, 0), (19, .invokevirtual 124, 22, 135, 2, 0), (22, .goto 4, 25, 26, 0, 0), (25, .iconst (-1), 26, 0, 0, 0), (26, .ireturn, 27, 0, 0, 0)]
theorem oX7_times : ∀ e ∈ tX7_times, zgood fRX7 cX7_times 3 false e = true := by decide +kernel
def tX7_keeps : List zE := [(0, .iload_n 1, 1, 0, 0, 0), (1, .invokestatic 128, 4, 125, 1, 0), (4, .ifCond .eq 10, 7, 14, 0, 0), (7, .iload_n 2, 8, 0, 0, 0), (8, .invokestatic 131, 11, 124, 1, 0), (11, .ifCond .ne 5, 14, 16, 0, 0), (14, .iconst (-1), 15, 0, 0, 0), (15, .ireturn, 16, 0, 0, 0), (16, .aload_n 0, 17, 0, 0, 0), (17, .getfield 32, 20, 6, 8, 0), (20, .bipush 10, 22, 0, 0, 0), (22, .iload_n 1, 23, 0, 0, 0), (23, .imul, 24, 0, 0, 0), (24, .iload_n 2, 25, 0, 0, 0), (25, .iadd, 26, 0, 0, 0), (26, .baload, 27, 0, 0, 0), (27, .iload_n 3, 28, 0, 0, 0), (28, .if_icmp .eq 7, 31, 35, 0, 0), (31, .iconst 1, 32, 0, 0, 0), (32, .goto 4, 35, 36, 0, 0), (35, .iconst 0, 36, 0, 0, 0), (36, .istore 4, 38, 0, 0, 0), (38, .aload_n 0, 39, 0, 0, 0), (39, .getfield 32, 42, 6, 8, 0), (42, .bipush 10, 44, 0, 0, 0), (44, .iload_n 1, 45, 0, 0, 0), (45, .imul, 46, 0, 0, 0), (46, .iload_n 2, 47, 0, 0, 0), (47, .iadd, 48, 0, 0, 0), (48, .iload_n 3, 49, 0, 0, 0), (49, .bastore, 50, 0, 0, 0), (50, .iload 4, 52, 0, 0, 0), (52, .ireturn, 53, 0, 0, 0)]
theorem oX7_keeps : ∀ e ∈ tX7_keeps, zgood fRX7 cX7_keeps 5 false e = true := by decide +kernel
def tX7_digits : List zE := [(0, .iload_n 0, 1, 0, 0, 0), (1, .bipush 10, 3, 0, 0, 0), (3, .if_icmp .ge 7, 6, 10, 0, 0), (6, .iconst 1, 7, 0, 0, 0), (7, .goto 25, 10, 32, 0, 0), (10, .iload_n 0, 11, 0, 0, 0), (11, .bipush 100, 13, 0, 0, 0), (13, .if_icmp .ge 7, 16, 20, 0, 0), (16, .iconst 2, 17, 0, 0, 0), (17, .goto 15, 20, 32, 0, 0), (20, .iload_n 0, 21, 0, 0, 0), (21, .sipush 1000, 24, 0, 0, 0), (24, .if_icmp .ge 7, 27, 31, 0, 0), (27, .iconst 3, 28, 0, 0, 0), (28, .goto 4, 31, 32, 0, 0), (31, .iconst 4, 32, 0, 0, 0), (32, .ireturn, 33, 0, 0, 0)]
theorem oX7_digits : ∀ e ∈ tX7_digits, zgood fRX7 cX7_digits 1 false e = true := by decide +kernel
def tX7_own : List zE := [(0, .aload_n 0, 1, 0, 0, 0), (1, .getfield 7, 4, 6, 1, 0), (4, .iload_n 1, 5, 0, 0, 0), (5, .iaload, 6, 0, 0, 0), (6, .iconst 1, 7, 0, 0, 0), (7, .if_icmp .ne 15, 10, 22, 0, 0), (10, .aload_n 0, 11, 0, 0, 0), (11, .getfield 13, 14, 6, 2, 0), (14, .iload_n 1, 15, 0, 0, 0), (15, .iaload, 16, 0, 0, 0), (16, .invokestatic 134, 19, 138, 1, 0), (19, .goto 30, 22, 49, 0, 0), (22, .aload_n 0, 23, 0, 0, 0), (23, .getfield 7, 26, 6, 1, 0), (26, .iload_n 1, 27, 0, 0, 0), (27, .iaload, 28, 0, 0, 0), (28, .bipush 8, 30, 0, 0, 0), (30, .if_icmp .eq 14, 33, 44, 0, 0), (33, .aload_n 0, 34, 0, 0, 0), (34, .getfield 7, 37, 6, 1, 0), (37, .iload_n 1, 38, 0, 0, 0), (38, .iaload, 39, 0, 0, 0), (39, .bipush 9, 41, 0, 0, 0), (41, .if_icmp .ne 7, 44, 48, 0, 0), (44, .iconst 2, 45, 0, 0, 0), (45, .goto 4, 48, 49, 0, 0), (48, .iconst 1, 49, 0, 0, 0), (49, .ireturn, 50, 0, 0, 0)]
theorem oX7_own : ∀ e ∈ tX7_own, zgood fRX7 cX7_own 2 false e = true := by decide +kernel
def tX7_length : List zE := [(0, .iload_n 2, 1, 0, 0, 0), (1, .ifCond .ge 5, 4, 6, 0, 0), (4, .iconst 0, 5, 0, 0, 0), (5, .ireturn, 6, 0, 0, 0), (6, .aload_n 0, 7, 0, 0, 0), (7, .iload_n 2, 8, 0, 0, 0), (8, .invokevirtual 138, 11, 139, 1, 0), (11, .aload_n 0, 12, 0, 0, 0), (12, .getfield 32, 15, 6, 8, 0), (15, .bipush 10, 17, 0, 0, 0), (17, .iload_n 1, 18, 0, 0, 0), (18, .imul, 19, 0, 0, 0), (19, .aload_n 0, 20, 0, 0, 0), (20, .getfield 7, 23, 6, 1, 0), (23, .iload_n 2, 24, 0, 0, 0), (24, .iaload, 25, 0, 0, 0), (25, .iadd, 26, 0, 0, 0), (26, .baload, 27, 0, 0, 0), (27, .ifCond .eq 7, 30, 34, 0, 0), (30, .iconst 2, 31, 0, 0, 0), (31, .goto 4, 34, 35, 0, 0), (34, .iconst 0, 35, 0, 0, 0), (35, .iadd, 36, 0, 0, 0), (36, .aload_n 0, 37, 0, 0, 0), (37, .iload_n 1, 38, 0, 0, 0), (38, .aload_n 0, 39, 0, 0, 0), (39, .getfield 16, 42, 6, 3, 0), (42, .iload_n 2, 43, 0, 0, 0), (43, .iaload, 44, 0, 0, 0), (44, .invokevirtual 141, 47, 140, 2, 0), (47, .iadd, 48, 0, 0, 0), (48, .aload_n 0, 49, 0, 0, 0), (49, .iload_n 1, 50, 0, 0, 0), (50, .aload_n 0, 51, 0, 0, 0), (51, .getfield 19, 54, 6, 4, 0), (54, .iload_n 2, 55, 0, 0, 0), (55, .iaload, 56, 0, 0, 0), (56, .invokevirtual 141, 59, 140, 2, 0), (59, .iadd, 60, 0, 0, 0), (60, .ireturn, 61, 0, 0, 0)]
theorem oX7_length : ∀ e ∈ tX7_length, zgood fRX7 cX7_length 3 false e = true := by decide +kernel
def tX7_says : List zE := [(0, .aload_n 0, 1, 0, 0, 0), (1, .getfield 53, 4, 6, 17, 0), (4, .aload_n 0, 5, 0, 0, 0), (5, .getfield 144, 8, 6, 18, 0), (8, .iload_n 1, 9, 0, 0, 0), (9, .iastore, 10, 0, 0, 0), (10, .aload_n 0, 11, 0, 0, 0), (11, .dup, 12, 0, 0, 0), (12, .getfield 144, 15, 6, 18, 0), (15, .iconst 1, 16, 0, 0, 0), (16, .iadd, 17, 0, 0, 0), (17, .putfield 144, 20, 6, 18, 0), (20, .return_, 21, 0, 0, 0)]
theorem oX7_says : ∀ e ∈ tX7_says, zgood fRX7 cX7_says 2 false e = true := by decide +kernel
def tX7_keepsIt : List zE := [(0, .aload_n 0, 1, 0, 0, 0), (1, .getfield 56, 4, 6, 19, 0), (4, .ifCond .lt 15, 7, 19, 0, 0), (7, .aload_n 0, 8, 0, 0, 0), (8, .getfield 7, 11, 6, 1, 0), (11, .iload_n 2, 12, 0, 0, 0), (12, .iaload, 13, 0, 0, 0), (13, .invokestatic 131, 16, 124, 1, 0), (16, .ifCond .ne 20, 19, 36, 0, 0), (19, .aload_n 0, 20, 0, 0, 0), (20, .getfield 32, 23, 6, 8, 0), (23, .bipush 10, 25, 0, 0, 0), (25, .iload_n 1, 26, 0, 0, 0), (26, .imul, 27, 0, 0, 0), (27, .aload_n 0, 28, 0, 0, 0), (28, .getfield 7, 31, 6, 1, 0), (31, .iload_n 2, 32, 0, 0, 0), (32, .iaload, 33, 0, 0, 0), (33, .iadd, 34, 0, 0, 0), (34, .baload, 35, 0, 0, 0), (35, .ireturn, 36, 0, 0, 0), (36, .aload_n 0, 37, 0, 0, 0), (37, .dup, 38, 0, 0, 0), (38, .getfield 147, 41, 6, 20, 0), (41, .iconst 1, 42, 0, 0, 0), (42, .iadd, 43, 0, 0, 0), (43, .putfield 147, 46, 6, 20, 0), (46, .aload_n 0, 47, 0, 0, 0), (47, .getfield 56, 50, 6, 19, 0), (50, .aload_n 0, 51, 0, 0, 0), (51, .getfield 150, 54, 6, 21, 0), (54, .aload_n 0, 55, 0, 0, 0), (55, .getfield 147, 58, 6, 20, 0), (58, .isub, 59, 0, 0, 0), (59, .ishr, 60, 0, 0, 0), (60, .iconst 1, 61, 0, 0, 0), (61, .iand, 62, 0, 0, 0), (62, .iconst 1, 63, 0, 0, 0), (63, .if_icmp .ne 7, 66, 70, 0, 0), (66, .iconst 1, 67, 0, 0, 0), (67, .goto 4, 70, 71, 0, 0), (70, .iconst 0, 71, 0, 0, 0), (71, .ireturn, 72, 0, 0, 0)]
theorem oX7_keepsIt : ∀ e ∈ tX7_keepsIt, zgood fRX7 cX7_keepsIt 3 false e = true := by decide +kernel
def tX7_say_0 : List zE := [(0, .aload_n 0, 1, 0, 0, 0), (1, .iload_n 1, 2, 0, 0, 0), (2, .iload_n 2, 3, 0, 0, 0), (3, .invokevirtual 153, 6, 142, 2, 0), (6, .istore_n 3, 7, 0, 0, 0), (7, .iload_n 3, 8, 0, 0, 0), (8, .ifCond .eq 9, 11, 17, 0, 0), (11, .aload_n 0, 12, 0, 0, 0), (12, .bipush 29, 14, 0, 0, 0), (14, .invokevirtual 156, 17, 141, 1, 0), (17, .aload_n 0, 18, 0, 0, 0), (18, .getfield 7, 21, 6, 1, 0), (21, .iload_n 2, 22, 0, 0, 0), (22, .iaload, 23, 0, 0, 0), (23, .invokestatic 108, 26, 123, 1, 0), (26, .ifCond .eq 41, 29, 67, 0, 0), (29, .aload_n 0, 30, 0, 0, 0), (30, .iload_n 1, 31, 0, 0, 0), (31, .aload_n 0, 32, 0, 0, 0), (32, .getfield 16, 35, 6, 3, 0), (35, .iload_n 2, 36, 0, 0, 0), (36, .iaload, 37, 0, 0, 0), (37, .invokevirtual 160, 40, 143, 2, 0), (40, .aload_n 0, 41, 0, 0, 0), (41, .bipush 18, 43, 0, 0, 0), (43, .aload_n 0, 44, 0, 0, 0), (44, .getfield 7, 47, 6, 1, 0), (47, .iload_n 2, 48, 0, 0, 0), (48, .iaload, 49, 0, 0, 0), (49, .iadd, 50, 0, 0, 0), (50, .invokevirtual 156, 53, 141, 1, 0), (53, .aload_n 0, 54, 0, 0, 0), (54, .iload_n 1, 55, 0, 0, 0), (55, .aload_n 0, 56, 0, 0, 0), (56, .getfield 19, 59, 6, 4, 0), (59, .iload_n 2, 60, 0, 0, 0), (60, .iaload, 61, 0, 0, 0), (61, .invokevirtual 160, 64, 143, 2, 0), (64, .goto 206, 67, 270, 0, 0), (67, .aload_n 0, 68, 0, 0, 0), (68, .getfield 7, 71, 6, 1, 0), (71, .iload_n 2, 72, 0, 0, 0), (72, .iaload, 73, 0, 0, 0), (73, .iconst 1, 74, 0, 0, 0), (74, .if_icmp .ne 87, 77, 161, 0, 0), (77, .iconst 1, 78, 0, 0, 0), (78, .istore 4, 80, 0, 0, 0), (80, .iconst 1, 81, 0, 0, 0), (81, .istore 5, 83, 0, 0, 0), (83, .iload 5, 85, 0, 0, 0)]
theorem oX7_say_0 : ∀ e ∈ tX7_say_0, zgood fRX7 cX7_say 6 false e = true := by decide +kernel
def tX7_say_1 : List zE := [(85, .aload_n 0, 86, 0, 0, 0), (86, .getfield 13, 89, 6, 2, 0), (89, .iload_n 2, 90, 0, 0, 0), (90, .iaload, 91, 0, 0, 0), (91, .invokestatic 134, 94, 138, 1, 0), (94, .if_icmp .ge 16, 97, 110, 0, 0), (97, .iload 4, 99, 0, 0, 0), (99, .bipush 10, 101, 0, 0, 0), (101, .imul, 102, 0, 0, 0), (102, .istore 4, 104, 0, 0, 0), (104, .iinc 5 1, 107, 0, 0, 0), (107, .goto (-24), 110, 83, 0, 0), (110, .aload_n 0, 111, 0, 0, 0), (111, .getfield 13, 114, 6, 2, 0), (114, .iload_n 2, 115, 0, 0, 0), (115, .iaload, 116, 0, 0, 0), (116, .invokestatic 134, 119, 138, 1, 0), (119, .istore 5, 121, 0, 0, 0), (121, .iload 5, 123, 0, 0, 0), (123, .ifCond .le 35, 126, 158, 0, 0), (126, .aload_n 0, 127, 0, 0, 0), (127, .bipush 10, 129, 0, 0, 0), (129, .aload_n 0, 130, 0, 0, 0), (130, .getfield 13, 133, 6, 2, 0), (133, .iload_n 2, 134, 0, 0, 0), (134, .iaload, 135, 0, 0, 0), (135, .iload 4, 137, 0, 0, 0), (137, .idiv, 138, 0, 0, 0), (138, .bipush 10, 140, 0, 0, 0), (140, .irem, 141, 0, 0, 0), (141, .iadd, 142, 0, 0, 0), (142, .invokevirtual 156, 145, 141, 1, 0), (145, .iload 4, 147, 0, 0, 0), (147, .bipush 10, 149, 0, 0, 0), (149, .idiv, 150, 0, 0, 0), (150, .istore 4, 152, 0, 0, 0), (152, .iinc 5 (-1), 155, 0, 0, 0), (155, .goto (-34), 158, 121, 0, 0), (158, .goto 112, 161, 270, 0, 0), (161, .aload_n 0, 162, 0, 0, 0), (162, .getfield 7, 165, 6, 1, 0), (165, .iload_n 2, 166, 0, 0, 0), (166, .iaload, 167, 0, 0, 0), (167, .ifCond .ne 16, 170, 183, 0, 0), (170, .aload_n 0, 171, 0, 0, 0), (171, .aload_n 0, 172, 0, 0, 0), (172, .getfield 13, 175, 6, 2, 0), (175, .iload_n 2, 176, 0, 0, 0), (176, .iaload, 177, 0, 0, 0), (177, .invokevirtual 156, 180, 141, 1, 0)]
theorem oX7_say_1 : ∀ e ∈ tX7_say_1, zgood fRX7 cX7_say 6 false e = true := by decide +kernel
def tX7_say_2 : List zE := [(180, .goto 90, 183, 270, 0, 0), (183, .aload_n 0, 184, 0, 0, 0), (184, .aload_n 0, 185, 0, 0, 0), (185, .getfield 7, 188, 6, 1, 0), (188, .iload_n 2, 189, 0, 0, 0), (189, .iaload, 190, 0, 0, 0), (190, .bipush 7, 192, 0, 0, 0), (192, .if_icmp .ne 8, 195, 200, 0, 0), (195, .bipush 25, 197, 0, 0, 0), (197, .goto 25, 200, 222, 0, 0), (200, .aload_n 0, 201, 0, 0, 0), (201, .getfield 7, 204, 6, 1, 0), (204, .iload_n 2, 205, 0, 0, 0), (205, .iaload, 206, 0, 0, 0), (206, .bipush 8, 208, 0, 0, 0), (208, .if_icmp .ne 8, 211, 216, 0, 0), (211, .bipush 26, 213, 0, 0, 0), (213, .goto 9, 216, 222, 0, 0), (216, .aload_n 0, 217, 0, 0, 0), (217, .getfield 13, 220, 6, 2, 0), (220, .iload_n 2, 221, 0, 0, 0), (221, .iaload, 222, 0, 0, 0), (222, .invokevirtual 156, 225, 141, 1, 0), (225, .aload_n 0, 226, 0, 0, 0), (226, .getfield 7, 229, 6, 1, 0), (229, .iload_n 2, 230, 0, 0, 0), (230, .iaload, 231, 0, 0, 0), (231, .bipush 9, 233, 0, 0, 0), (233, .if_icmp .ne 9, 236, 242, 0, 0), (236, .aload_n 0, 237, 0, 0, 0), (237, .bipush 28, 239, 0, 0, 0), (239, .invokevirtual 156, 242, 141, 1, 0), (242, .aload_n 0, 243, 0, 0, 0), (243, .iload_n 1, 244, 0, 0, 0), (244, .aload_n 0, 245, 0, 0, 0), (245, .getfield 16, 248, 6, 3, 0), (248, .iload_n 2, 249, 0, 0, 0), (249, .iaload, 250, 0, 0, 0), (250, .invokevirtual 160, 253, 143, 2, 0), (253, .aload_n 0, 254, 0, 0, 0), (254, .getfield 7, 257, 6, 1, 0), (257, .iload_n 2, 258, 0, 0, 0), (258, .iaload, 259, 0, 0, 0), (259, .bipush 8, 261, 0, 0, 0), (261, .if_icmp .ne 9, 264, 270, 0, 0), (264, .aload_n 0, 265, 0, 0, 0), (265, .bipush 27, 267, 0, 0, 0), (267, .invokevirtual 156, 270, 141, 1, 0), (270, .iload_n 3, 271, 0, 0, 0), (271, .ifCond .eq 9, 274, 280, 0, 0)]
theorem oX7_say_2 : ∀ e ∈ tX7_say_2, zgood fRX7 cX7_say 6 false e = true := by decide +kernel
def tX7_say_3 : List zE := [(274, .aload_n 0, 275, 0, 0, 0), (275, .bipush 30, 277, 0, 0, 0), (277, .invokevirtual 156, 280, 141, 1, 0), (280, .return_, 281, 0, 0, 0)]
theorem oX7_say_3 : ∀ e ∈ tX7_say_3, zgood fRX7 cX7_say 6 false e = true := by decide +kernel
def tX7_say : List zE := tX7_say_0 ++ (tX7_say_1 ++ (tX7_say_2 ++ (tX7_say_3)))
theorem oX7_say : ∀ e ∈ tX7_say, zgood fRX7 cX7_say 6 false e = true := (zapp oX7_say_0 (zapp oX7_say_1 (zapp oX7_say_2 oX7_say_3)))
def tX7_sayAll : List zE := [(0, .aload_n 0, 1, 0, 0, 0), (1, .iconst 0, 2, 0, 0, 0), (2, .putfield 144, 5, 6, 18, 0), (5, .aload_n 0, 6, 0, 0, 0), (6, .iconst (-1), 7, 0, 0, 0), (7, .putfield 56, 10, 6, 19, 0), (10, .aload_n 0, 11, 0, 0, 0), (11, .iload_n 1, 12, 0, 0, 0), (12, .iload_n 2, 13, 0, 0, 0), (13, .invokevirtual 160, 16, 143, 2, 0), (16, .return_, 17, 0, 0, 0)]
theorem oX7_sayAll : ∀ e ∈ tX7_sayAll, zgood fRX7 cX7_sayAll 3 false e = true := by decide +kernel
def tX7_words : List zE := [(0, .iload_n 1, 1, 0, 0, 0), (1, .invokestatic 128, 4, 125, 1, 0), (4, .ifCond .eq 11, 7, 15, 0, 0), (7, .aload_n 0, 8, 0, 0, 0), (8, .iload_n 2, 9, 0, 0, 0), (9, .invokevirtual 104, 12, 122, 1, 0), (12, .ifCond .ne 5, 15, 17, 0, 0), (15, .iconst (-1), 16, 0, 0, 0), (16, .ireturn, 17, 0, 0, 0), (17, .aload_n 0, 18, 0, 0, 0), (18, .iload_n 1, 19, 0, 0, 0), (19, .iload_n 2, 20, 0, 0, 0), (20, .invokevirtual 141, 23, 140, 2, 0), (23, .istore_n 3, 24, 0, 0, 0), (24, .iload_n 3, 25, 0, 0, 0), (25, .bipush 80, 27, 0, 0, 0), (27, .if_icmp .le 8, 30, 35, 0, 0), (30, .bipush (-5), 32, 0, 0, 0), (32, .goto 4, 35, 36, 0, 0), (35, .iload_n 3, 36, 0, 0, 0), (36, .ireturn, 37, 0, 0, 0)]
theorem oX7_words : ∀ e ∈ tX7_words, zgood fRX7 cX7_words 4 false e = true := by decide +kernel
def tX7_word : List zE := [(0, .iload_n 1, 1, 0, 0, 0), (1, .invokestatic 128, 4, 125, 1, 0), (4, .ifCond .eq 15, 7, 19, 0, 0), (7, .aload_n 0, 8, 0, 0, 0), (8, .iload_n 2, 9, 0, 0, 0), (9, .invokevirtual 104, 12, 122, 1, 0), (12, .ifCond .eq 7, 15, 19, 0, 0), (15, .iload_n 3, 16, 0, 0, 0), (16, .ifCond .ge 5, 19, 21, 0, 0), (19, .iconst (-1), 20, 0, 0, 0), (20, .ireturn, 21, 0, 0, 0), (21, .aload_n 0, 22, 0, 0, 0), (22, .iload_n 1, 23, 0, 0, 0), (23, .iload_n 2, 24, 0, 0, 0), (24, .invokevirtual 141, 27, 140, 2, 0), (27, .istore 4, 29, 0, 0, 0), (29, .iload 4, 31, 0, 0, 0), (31, .bipush 80, 33, 0, 0, 0), (33, .if_icmp .le 6, 36, 39, 0, 0), (36, .bipush (-5), 38, 0, 0, 0), (38, .ireturn, 39, 0, 0, 0), (39, .iload_n 3, 40, 0, 0, 0), (40, .iload 4, 42, 0, 0, 0), (42, .if_icmp .lt 6, 45, 48, 0, 0), (45, .bipush (-2), 47, 0, 0, 0), (47, .ireturn, 48, 0, 0, 0), (48, .aload_n 0, 49, 0, 0, 0), (49, .iload_n 1, 50, 0, 0, 0), (50, .iload_n 2, 51, 0, 0, 0), (51, .invokevirtual 164, 54, 144, 2, 0), (54, .aload_n 0, 55, 0, 0, 0), (55, .getfield 53, 58, 6, 17, 0), (58, .iload_n 3, 59, 0, 0, 0), (59, .iaload, 60, 0, 0, 0), (60, .ireturn, 61, 0, 0, 0)]
theorem oX7_word : ∀ e ∈ tX7_word, zgood fRX7 cX7_word 5 false e = true := by decide +kernel
def tX7_sound_0 : List zE := [(0, .iload_n 1, 1, 0, 0, 0), (1, .invokestatic 128, 4, 125, 1, 0), (4, .ifCond .eq 19, 7, 23, 0, 0), (7, .aload_n 0, 8, 0, 0, 0), (8, .iload_n 2, 9, 0, 0, 0), (9, .invokevirtual 104, 12, 122, 1, 0), (12, .ifCond .eq 11, 15, 23, 0, 0), (15, .aload_n 0, 16, 0, 0, 0), (16, .iload_n 3, 17, 0, 0, 0), (17, .invokevirtual 104, 20, 122, 1, 0), (20, .ifCond .ne 5, 23, 25, 0, 0), (23, .iconst (-1), 24, 0, 0, 0), (24, .ireturn, 25, 0, 0, 0), (25, .aload_n 0, 26, 0, 0, 0), (26, .iload_n 1, 27, 0, 0, 0), (27, .iload_n 2, 28, 0, 0, 0), (28, .invokevirtual 141, 31, 140, 2, 0), (31, .istore 4, 33, 0, 0, 0), (33, .aload_n 0, 34, 0, 0, 0), (34, .iload_n 1, 35, 0, 0, 0), (35, .iload_n 3, 36, 0, 0, 0), (36, .invokevirtual 141, 39, 140, 2, 0), (39, .istore 5, 41, 0, 0, 0), (41, .iload 4, 43, 0, 0, 0), (43, .bipush 80, 45, 0, 0, 0), (45, .if_icmp .gt 10, 48, 55, 0, 0), (48, .iload 5, 50, 0, 0, 0), (50, .bipush 80, 52, 0, 0, 0), (52, .if_icmp .le 6, 55, 58, 0, 0), (55, .bipush (-5), 57, 0, 0, 0), (57, .ireturn, 58, 0, 0, 0), (58, .aload_n 0, 59, 0, 0, 0), (59, .iload_n 1, 60, 0, 0, 0), (60, .iload_n 2, 61, 0, 0, 0), (61, .invokevirtual 164, 64, 144, 2, 0), (64, .iconst 0, 65, 0, 0, 0), (65, .istore 6, 67, 0, 0, 0), (67, .iload 6, 69, 0, 0, 0), (69, .iload 4, 71, 0, 0, 0), (71, .if_icmp .ge 23, 74, 94, 0, 0), (74, .aload_n 0, 75, 0, 0, 0), (75, .getfield 60, 78, 6, 22, 0), (78, .iload 6, 80, 0, 0, 0), (80, .aload_n 0, 81, 0, 0, 0), (81, .getfield 53, 84, 6, 17, 0), (84, .iload 6, 86, 0, 0, 0), (86, .iaload, 87, 0, 0, 0), (87, .iastore, 88, 0, 0, 0), (88, .iinc 6 1, 91, 0, 0, 0), (91, .goto (-24), 94, 67, 0, 0)]
theorem oX7_sound_0 : ∀ e ∈ tX7_sound_0, zgood fRX7 cX7_sound 8 false e = true := by decide +kernel
def tX7_sound_1 : List zE := [(94, .aload_n 0, 95, 0, 0, 0), (95, .iload_n 1, 96, 0, 0, 0), (96, .iload_n 3, 97, 0, 0, 0), (97, .invokevirtual 164, 100, 144, 2, 0), (100, .iload 4, 102, 0, 0, 0), (102, .iload 5, 104, 0, 0, 0), (104, .if_icmp .ne 7, 107, 111, 0, 0), (107, .iconst 1, 108, 0, 0, 0), (108, .goto 4, 111, 112, 0, 0), (111, .iconst 0, 112, 0, 0, 0), (112, .istore 6, 114, 0, 0, 0), (114, .iconst 0, 115, 0, 0, 0), (115, .istore 7, 117, 0, 0, 0), (117, .iload 7, 119, 0, 0, 0), (119, .iload 4, 121, 0, 0, 0), (121, .if_icmp .ge 38, 124, 159, 0, 0), (124, .iload 6, 126, 0, 0, 0), (126, .ifCond .eq 33, 129, 159, 0, 0), (129, .aload_n 0, 130, 0, 0, 0), (130, .getfield 60, 133, 6, 22, 0), (133, .iload 7, 135, 0, 0, 0), (135, .iaload, 136, 0, 0, 0), (136, .aload_n 0, 137, 0, 0, 0), (137, .getfield 53, 140, 6, 17, 0), (140, .iload 7, 142, 0, 0, 0), (142, .iaload, 143, 0, 0, 0), (143, .if_icmp .ne 7, 146, 150, 0, 0), (146, .iconst 1, 147, 0, 0, 0), (147, .goto 4, 150, 151, 0, 0), (150, .iconst 0, 151, 0, 0, 0), (151, .istore 6, 153, 0, 0, 0), (153, .iinc 7 1, 156, 0, 0, 0), (156, .goto (-39), 159, 117, 0, 0), (159, .iload 6, 161, 0, 0, 0), (161, .ifCond .eq 7, 164, 168, 0, 0), (164, .iconst 1, 165, 0, 0, 0), (165, .goto 4, 168, 169, 0, 0), (168, .iconst 0, 169, 0, 0, 0), (169, .ireturn, 170, 0, 0, 0)]
theorem oX7_sound_1 : ∀ e ∈ tX7_sound_1, zgood fRX7 cX7_sound 8 false e = true := by decide +kernel
def tX7_sound : List zE := tX7_sound_0 ++ (tX7_sound_1)
theorem oX7_sound : ∀ e ∈ tX7_sound, zgood fRX7 cX7_sound 8 false e = true := (zapp oX7_sound_0 oX7_sound_1)
def tX7_adds : List zE := [(0, .aload_n 0, 1, 0, 0, 0), (1, .bipush 120, 3, 0, 0, 0), (3, .aload_n 0, 4, 0, 0, 0), (4, .getfield 167, 7, 6, 23, 0), (7, .iadd, 8, 0, 0, 0), (8, .iload_n 1, 9, 0, 0, 0), (9, .iload_n 2, 10, 0, 0, 0), (10, .iload_n 3, 11, 0, 0, 0), (11, .iload 4, 13, 0, 0, 0), (13, .invokevirtual 98, 16, 126, 5, 0), (16, .aload_n 0, 17, 0, 0, 0), (17, .dup, 18, 0, 0, 0), (18, .getfield 167, 21, 6, 23, 0), (21, .iconst 1, 22, 0, 0, 0), (22, .iadd, 23, 0, 0, 0), (23, .putfield 167, 26, 6, 23, 0), (26, .return_, 27, 0, 0, 0)]
theorem oX7_adds : ∀ e ∈ tX7_adds, zgood fRX7 cX7_adds 5 false e = true := by decide +kernel
def tX7_grows_0 : List zE := [(0, .aload_n 0, 1, 0, 0, 0), (1, .getfield 167, 4, 6, 23, 0), (4, .istore_n 2, 5, 0, 0, 0), (5, .bipush 120, 7, 0, 0, 0), (7, .istore_n 3, 8, 0, 0, 0), (8, .iload_n 3, 9, 0, 0, 0), (9, .bipush 120, 11, 0, 0, 0), (11, .iload_n 2, 12, 0, 0, 0), (12, .iadd, 13, 0, 0, 0), (13, .if_icmp .ge 120, 16, 133, 0, 0), (16, .aload_n 0, 17, 0, 0, 0), (17, .getfield 22, 20, 6, 5, 0), (20, .iload_n 3, 21, 0, 0, 0), (21, .iaload, 22, 0, 0, 0), (22, .iload_n 1, 23, 0, 0, 0), (23, .iconst 1, 24, 0, 0, 0), (24, .isub, 25, 0, 0, 0), (25, .if_icmp .ne 36, 28, 61, 0, 0), (28, .aload_n 0, 29, 0, 0, 0), (29, .bipush 7, 31, 0, 0, 0), (31, .bipush (-2), 33, 0, 0, 0), (33, .iload_n 3, 34, 0, 0, 0), (34, .bipush (-2), 36, 0, 0, 0), (36, .invokevirtual 170, 39, 148, 4, 0), (39, .aload_n 0, 40, 0, 0, 0), (40, .bipush 8, 42, 0, 0, 0), (42, .bipush (-2), 44, 0, 0, 0), (44, .iload_n 3, 45, 0, 0, 0), (45, .bipush (-2), 47, 0, 0, 0), (47, .invokevirtual 170, 50, 148, 4, 0), (50, .aload_n 0, 51, 0, 0, 0), (51, .bipush 9, 53, 0, 0, 0), (53, .bipush 9, 55, 0, 0, 0), (55, .iload_n 3, 56, 0, 0, 0), (56, .bipush (-2), 58, 0, 0, 0), (58, .invokevirtual 170, 61, 148, 4, 0), (61, .bipush 120, 63, 0, 0, 0), (63, .istore 4, 65, 0, 0, 0), (65, .iload 4, 67, 0, 0, 0), (67, .bipush 120, 69, 0, 0, 0), (69, .iload_n 2, 70, 0, 0, 0), (70, .iadd, 71, 0, 0, 0), (71, .if_icmp .ge 56, 74, 127, 0, 0), (74, .iconst 2, 75, 0, 0, 0), (75, .istore 5, 77, 0, 0, 0), (77, .iload 5, 79, 0, 0, 0), (79, .bipush 6, 81, 0, 0, 0), (81, .if_icmp .gt 40, 84, 121, 0, 0), (84, .aload_n 0, 85, 0, 0, 0), (85, .getfield 22, 88, 6, 5, 0)]
theorem oX7_grows_0 : ∀ e ∈ tX7_grows_0, zgood fRX7 cX7_grows 6 false e = true := by decide +kernel
def tX7_grows_1 : List zE := [(88, .iload_n 3, 89, 0, 0, 0), (89, .iaload, 90, 0, 0, 0), (90, .aload_n 0, 91, 0, 0, 0), (91, .getfield 22, 94, 6, 5, 0), (94, .iload 4, 96, 0, 0, 0), (96, .iaload, 97, 0, 0, 0), (97, .iadd, 98, 0, 0, 0), (98, .iload_n 1, 99, 0, 0, 0), (99, .iconst 1, 100, 0, 0, 0), (100, .isub, 101, 0, 0, 0), (101, .if_icmp .ne 20, 104, 121, 0, 0), (104, .aload_n 0, 105, 0, 0, 0), (105, .iload 5, 107, 0, 0, 0), (107, .bipush (-2), 109, 0, 0, 0), (109, .iload_n 3, 110, 0, 0, 0), (110, .iload 4, 112, 0, 0, 0), (112, .invokevirtual 170, 115, 148, 4, 0), (115, .iinc 5 1, 118, 0, 0, 0), (118, .goto (-41), 121, 77, 0, 0), (121, .iinc 4 1, 124, 0, 0, 0), (124, .goto (-59), 127, 65, 0, 0), (127, .iinc 3 1, 130, 0, 0, 0), (130, .goto (-122), 133, 8, 0, 0), (133, .return_, 134, 0, 0, 0)]
theorem oX7_grows_1 : ∀ e ∈ tX7_grows_1, zgood fRX7 cX7_grows 6 false e = true := by decide +kernel
def tX7_grows : List zE := tX7_grows_0 ++ (tX7_grows_1)
theorem oX7_grows : ∀ e ∈ tX7_grows, zgood fRX7 cX7_grows 6 false e = true := (zapp oX7_grows_0 oX7_grows_1)
def tX7_isSame : List zE := [(0, .aload_n 0, 1, 0, 0, 0), (1, .getfield 66, 4, 6, 25, 0), (4, .iload_n 1, 5, 0, 0, 0), (5, .iaload, 6, 0, 0, 0), (6, .aload_n 0, 7, 0, 0, 0), (7, .getfield 66, 10, 6, 25, 0), (10, .iload_n 2, 11, 0, 0, 0), (11, .iaload, 12, 0, 0, 0), (12, .if_icmp .ne 7, 15, 19, 0, 0), (15, .iconst 1, 16, 0, 0, 0), (16, .goto 4, 19, 20, 0, 0), (19, .iconst 0, 20, 0, 0, 0), (20, .istore_n 3, 21, 0, 0, 0), (21, .iconst 0, 22, 0, 0, 0), (22, .istore 4, 24, 0, 0, 0), (24, .iload 4, 26, 0, 0, 0), (26, .aload_n 0, 27, 0, 0, 0), (27, .getfield 66, 30, 6, 25, 0), (30, .iload_n 1, 31, 0, 0, 0), (31, .iaload, 32, 0, 0, 0), (32, .if_icmp .ge 46, 35, 78, 0, 0), (35, .iload_n 3, 36, 0, 0, 0), (36, .ifCond .eq 42, 39, 78, 0, 0), (39, .aload_n 0, 40, 0, 0, 0), (40, .getfield 63, 43, 6, 24, 0), (43, .bipush 20, 45, 0, 0, 0), (45, .iload_n 1, 46, 0, 0, 0), (46, .imul, 47, 0, 0, 0), (47, .iload 4, 49, 0, 0, 0), (49, .iadd, 50, 0, 0, 0), (50, .iaload, 51, 0, 0, 0), (51, .aload_n 0, 52, 0, 0, 0), (52, .getfield 63, 55, 6, 24, 0), (55, .bipush 20, 57, 0, 0, 0), (57, .iload_n 2, 58, 0, 0, 0), (58, .imul, 59, 0, 0, 0), (59, .iload 4, 61, 0, 0, 0), (61, .iadd, 62, 0, 0, 0), (62, .iaload, 63, 0, 0, 0), (63, .if_icmp .ne 7, 66, 70, 0, 0), (66, .iconst 1, 67, 0, 0, 0), (67, .goto 4, 70, 71, 0, 0), (70, .iconst 0, 71, 0, 0, 0), (71, .istore_n 3, 72, 0, 0, 0), (72, .iinc 4 1, 75, 0, 0, 0), (75, .goto (-51), 78, 24, 0, 0), (78, .iload_n 3, 79, 0, 0, 0), (79, .ireturn, 80, 0, 0, 0)]
theorem oX7_isSame : ∀ e ∈ tX7_isSame, zgood fRX7 cX7_isSame 5 false e = true := by decide +kernel
def tX7_clear_0 : List zE := [(0, .iload_n 1, 1, 0, 0, 0), (1, .invokestatic 128, 4, 125, 1, 0), (4, .ifCond .eq 15, 7, 19, 0, 0), (7, .iload_n 2, 8, 0, 0, 0), (8, .i2l, 9, 0, 0, 0), (9, .lconst 1, 10, 0, 0, 0), (10, .ldc2_w 174, 13, 0, 0, 4), (13, .invokestatic 88, 16, 121, 3, 0), (16, .ifCond .ne 5, 19, 21, 0, 0), (19, .iconst (-1), 20, 0, 0, 0), (20, .ireturn, 21, 0, 0, 0), (21, .aload_n 0, 22, 0, 0, 0), (22, .iconst 0, 23, 0, 0, 0), (23, .putfield 167, 26, 6, 23, 0), (26, .aload_n 0, 27, 0, 0, 0), (27, .iconst 0, 28, 0, 0, 0), (28, .iconst 0, 29, 0, 0, 0), (29, .bipush (-2), 31, 0, 0, 0), (31, .bipush (-2), 33, 0, 0, 0), (33, .invokevirtual 170, 36, 148, 4, 0), (36, .aload_n 0, 37, 0, 0, 0), (37, .iconst 1, 38, 0, 0, 0), (38, .iconst 1, 39, 0, 0, 0), (39, .bipush (-2), 41, 0, 0, 0), (41, .bipush (-2), 43, 0, 0, 0), (43, .invokevirtual 170, 46, 148, 4, 0), (46, .iconst 2, 47, 0, 0, 0), (47, .istore_n 3, 48, 0, 0, 0), (48, .iload_n 3, 49, 0, 0, 0), (49, .iload_n 2, 50, 0, 0, 0), (50, .if_icmp .gt 14, 53, 64, 0, 0), (53, .aload_n 0, 54, 0, 0, 0), (54, .iload_n 3, 55, 0, 0, 0), (55, .invokevirtual 176, 58, 149, 1, 0), (58, .iinc 3 1, 61, 0, 0, 0), (61, .goto (-13), 64, 48, 0, 0), (64, .iconst 0, 65, 0, 0, 0), (65, .istore_n 3, 66, 0, 0, 0), (66, .iload_n 3, 67, 0, 0, 0), (67, .aload_n 0, 68, 0, 0, 0), (68, .getfield 167, 71, 6, 23, 0), (71, .if_icmp .ge 65, 74, 136, 0, 0), (74, .aload_n 0, 75, 0, 0, 0), (75, .iload_n 1, 76, 0, 0, 0), (76, .bipush 120, 78, 0, 0, 0), (78, .iload_n 3, 79, 0, 0, 0), (79, .iadd, 80, 0, 0, 0), (80, .invokevirtual 164, 83, 144, 2, 0), (83, .aload_n 0, 84, 0, 0, 0), (84, .getfield 66, 87, 6, 25, 0)]
theorem oX7_clear_0 : ∀ e ∈ tX7_clear_0, zgood fRX7 cX7_clear 5 false e = true := by decide +kernel
def tX7_clear_1 : List zE := [(87, .iload_n 3, 88, 0, 0, 0), (88, .aload_n 0, 89, 0, 0, 0), (89, .getfield 144, 92, 6, 18, 0), (92, .iastore, 93, 0, 0, 0), (93, .iconst 0, 94, 0, 0, 0), (94, .istore 4, 96, 0, 0, 0), (96, .iload 4, 98, 0, 0, 0), (98, .aload_n 0, 99, 0, 0, 0), (99, .getfield 144, 102, 6, 18, 0), (102, .if_icmp .ge 28, 105, 130, 0, 0), (105, .aload_n 0, 106, 0, 0, 0), (106, .getfield 63, 109, 6, 24, 0), (109, .bipush 20, 111, 0, 0, 0), (111, .iload_n 3, 112, 0, 0, 0), (112, .imul, 113, 0, 0, 0), (113, .iload 4, 115, 0, 0, 0), (115, .iadd, 116, 0, 0, 0), (116, .aload_n 0, 117, 0, 0, 0), (117, .getfield 53, 120, 6, 17, 0), (120, .iload 4, 122, 0, 0, 0), (122, .iaload, 123, 0, 0, 0), (123, .iastore, 124, 0, 0, 0), (124, .iinc 4 1, 127, 0, 0, 0), (127, .goto (-31), 130, 96, 0, 0), (130, .iinc 3 1, 133, 0, 0, 0), (133, .goto (-67), 136, 66, 0, 0), (136, .iconst 0, 137, 0, 0, 0), (137, .istore_n 3, 138, 0, 0, 0), (138, .iload_n 3, 139, 0, 0, 0), (139, .aload_n 0, 140, 0, 0, 0), (140, .getfield 167, 143, 6, 23, 0), (143, .if_icmp .ge 36, 146, 179, 0, 0), (146, .iconst 0, 147, 0, 0, 0), (147, .istore 4, 149, 0, 0, 0), (149, .iload 4, 151, 0, 0, 0), (151, .iload_n 3, 152, 0, 0, 0), (152, .if_icmp .ge 21, 155, 173, 0, 0), (155, .aload_n 0, 156, 0, 0, 0), (156, .iload_n 3, 157, 0, 0, 0), (157, .iload 4, 159, 0, 0, 0), (159, .invokevirtual 179, 162, 150, 2, 0), (162, .ifCond .eq 5, 165, 167, 0, 0), (165, .iconst 0, 166, 0, 0, 0), (166, .ireturn, 167, 0, 0, 0), (167, .iinc 4 1, 170, 0, 0, 0), (170, .goto (-21), 173, 149, 0, 0), (173, .iinc 3 1, 176, 0, 0, 0), (176, .goto (-38), 179, 138, 0, 0), (179, .iconst 1, 180, 0, 0, 0), (180, .ireturn, 181, 0, 0, 0)]
theorem oX7_clear_1 : ∀ e ∈ tX7_clear_1, zgood fRX7 cX7_clear 5 false e = true := by decide +kernel
def tX7_clear : List zE := tX7_clear_0 ++ (tX7_clear_1)
theorem oX7_clear : ∀ e ∈ tX7_clear, zgood fRX7 cX7_clear 5 false e = true := (zapp oX7_clear_0 oX7_clear_1)
def tX7_hear_0 : List zE := [(0, .iload_n 1, 1, 0, 0, 0), (1, .i2l, 2, 0, 0, 0), (2, .lconst 1, 3, 0, 0, 0), (3, .ldc2_w 182, 6, 0, 0, 5), (6, .invokestatic 88, 9, 121, 3, 0), (9, .ifCond .ne 5, 12, 14, 0, 0), (12, .iconst (-1), 13, 0, 0, 0), (13, .ireturn, 14, 0, 0, 0), (14, .iconst 0, 15, 0, 0, 0), (15, .istore_n 3, 16, 0, 0, 0), (16, .iload_n 3, 17, 0, 0, 0), (17, .iload_n 1, 18, 0, 0, 0), (18, .if_icmp .ge 24, 21, 42, 0, 0), (21, .iload_n 2, 22, 0, 0, 0), (22, .iconst 5, 23, 0, 0, 0), (23, .iload_n 3, 24, 0, 0, 0), (24, .imul, 25, 0, 0, 0), (25, .ishr, 26, 0, 0, 0), (26, .bipush 31, 28, 0, 0, 0), (28, .iand, 29, 0, 0, 0), (29, .bipush 31, 31, 0, 0, 0), (31, .if_icmp .ne 5, 34, 36, 0, 0), (34, .iconst (-1), 35, 0, 0, 0), (35, .ireturn, 36, 0, 0, 0), (36, .iinc 3 1, 39, 0, 0, 0), (39, .goto (-23), 42, 16, 0, 0), (42, .aload_n 0, 43, 0, 0, 0), (43, .getfield 184, 46, 6, 10, 0), (46, .iload_n 1, 47, 0, 0, 0), (47, .iadd, 48, 0, 0, 0), (48, .bipush 20, 50, 0, 0, 0), (50, .if_icmp .le 6, 53, 56, 0, 0), (53, .bipush (-2), 55, 0, 0, 0), (55, .ireturn, 56, 0, 0, 0), (56, .iload_n 1, 57, 0, 0, 0), (57, .iconst 1, 58, 0, 0, 0), (58, .isub, 59, 0, 0, 0), (59, .istore_n 3, 60, 0, 0, 0), (60, .iload_n 3, 61, 0, 0, 0), (61, .ifCond .lt 36, 64, 97, 0, 0), (64, .aload_n 0, 65, 0, 0, 0), (65, .getfield 35, 68, 6, 9, 0), (68, .aload_n 0, 69, 0, 0, 0), (69, .getfield 184, 72, 6, 10, 0), (72, .iload_n 2, 73, 0, 0, 0), (73, .iconst 5, 74, 0, 0, 0), (74, .iload_n 3, 75, 0, 0, 0), (75, .imul, 76, 0, 0, 0), (76, .ishr, 77, 0, 0, 0), (77, .bipush 31, 79, 0, 0, 0)]
theorem oX7_hear_0 : ∀ e ∈ tX7_hear_0, zgood fRX7 cX7_hear 4 false e = true := by decide +kernel
def tX7_hear_1 : List zE := [(79, .iand, 80, 0, 0, 0), (80, .iastore, 81, 0, 0, 0), (81, .aload_n 0, 82, 0, 0, 0), (82, .dup, 83, 0, 0, 0), (83, .getfield 184, 86, 6, 10, 0), (86, .iconst 1, 87, 0, 0, 0), (87, .iadd, 88, 0, 0, 0), (88, .putfield 184, 91, 6, 10, 0), (91, .iinc 3 (-1), 94, 0, 0, 0), (94, .goto (-34), 97, 60, 0, 0), (97, .aload_n 0, 98, 0, 0, 0), (98, .getfield 184, 101, 6, 10, 0), (101, .ireturn, 102, 0, 0, 0)]
theorem oX7_hear_1 : ∀ e ∈ tX7_hear_1, zgood fRX7 cX7_hear 4 false e = true := by decide +kernel
def tX7_hear : List zE := tX7_hear_0 ++ (tX7_hear_1)
theorem oX7_hear : ∀ e ∈ tX7_hear, zgood fRX7 cX7_hear 4 false e = true := (zapp oX7_hear_0 oX7_hear_1)
def tX7_listen : List zE := [(0, .iload_n 1, 1, 0, 0, 0), (1, .invokestatic 128, 4, 125, 1, 0), (4, .ifCond .eq 11, 7, 15, 0, 0), (7, .aload_n 0, 8, 0, 0, 0), (8, .iload_n 2, 9, 0, 0, 0), (9, .invokevirtual 104, 12, 122, 1, 0), (12, .ifCond .ne 5, 15, 17, 0, 0), (15, .iconst (-1), 16, 0, 0, 0), (16, .ireturn, 17, 0, 0, 0), (17, .aload_n 0, 18, 0, 0, 0), (18, .iload_n 1, 19, 0, 0, 0), (19, .iload_n 2, 20, 0, 0, 0), (20, .invokevirtual 141, 23, 140, 2, 0), (23, .istore_n 3, 24, 0, 0, 0), (24, .iload_n 3, 25, 0, 0, 0), (25, .bipush 80, 27, 0, 0, 0), (27, .if_icmp .le 6, 30, 33, 0, 0), (30, .bipush (-5), 32, 0, 0, 0), (32, .ireturn, 33, 0, 0, 0), (33, .iload_n 3, 34, 0, 0, 0), (34, .bipush 20, 36, 0, 0, 0), (36, .if_icmp .le 6, 39, 42, 0, 0), (39, .bipush (-2), 41, 0, 0, 0), (41, .ireturn, 42, 0, 0, 0), (42, .aload_n 0, 43, 0, 0, 0), (43, .iload_n 1, 44, 0, 0, 0), (44, .iload_n 2, 45, 0, 0, 0), (45, .invokevirtual 164, 48, 144, 2, 0), (48, .aload_n 0, 49, 0, 0, 0), (49, .invokevirtual 187, 52, 154, 0, 0), (52, .aload_n 0, 53, 0, 0, 0), (53, .getfield 184, 56, 6, 10, 0), (56, .ireturn, 57, 0, 0, 0)]
theorem oX7_listen : ∀ e ∈ tX7_listen, zgood fRX7 cX7_listen 4 false e = true := by decide +kernel
def tX7_hears : List zE := [(0, .iconst 0, 1, 0, 0, 0), (1, .istore_n 1, 2, 0, 0, 0), (2, .iload_n 1, 3, 0, 0, 0), (3, .aload_n 0, 4, 0, 0, 0), (4, .getfield 144, 7, 6, 18, 0), (7, .if_icmp .ge 21, 10, 28, 0, 0), (10, .aload_n 0, 11, 0, 0, 0), (11, .getfield 35, 14, 6, 9, 0), (14, .iload_n 1, 15, 0, 0, 0), (15, .aload_n 0, 16, 0, 0, 0), (16, .getfield 53, 19, 6, 17, 0), (19, .iload_n 1, 20, 0, 0, 0), (20, .iaload, 21, 0, 0, 0), (21, .iastore, 22, 0, 0, 0), (22, .iinc 1 1, 25, 0, 0, 0), (25, .goto (-23), 28, 2, 0, 0), (28, .aload_n 0, 29, 0, 0, 0), (29, .aload_n 0, 30, 0, 0, 0), (30, .getfield 144, 33, 6, 18, 0), (33, .putfield 184, 36, 6, 10, 0), (36, .return_, 37, 0, 0, 0)]
theorem oX7_hears : ∀ e ∈ tX7_hears, zgood fRX7 cX7_hears 2 false e = true := by decide +kernel
def tX7_hush : List zE := [(0, .aload_n 0, 1, 0, 0, 0), (1, .getfield 184, 4, 6, 10, 0), (4, .istore_n 1, 5, 0, 0, 0), (5, .aload_n 0, 6, 0, 0, 0), (6, .iconst 0, 7, 0, 0, 0), (7, .putfield 184, 10, 6, 10, 0), (10, .iload_n 1, 11, 0, 0, 0), (11, .ireturn, 12, 0, 0, 0)]
theorem oX7_hush : ∀ e ∈ tX7_hush, zgood fRX7 cX7_hush 2 false e = true := by decide +kernel
def tX7_ear : List zE := [(0, .iload_n 1, 1, 0, 0, 0), (1, .i2l, 2, 0, 0, 0), (2, .lconst 0, 3, 0, 0, 0), (3, .aload_n 0, 4, 0, 0, 0), (4, .getfield 184, 7, 6, 10, 0), (7, .iconst 1, 8, 0, 0, 0), (8, .isub, 9, 0, 0, 0), (9, .i2l, 10, 0, 0, 0), (10, .invokestatic 88, 13, 121, 3, 0), (13, .ifCond .eq 12, 16, 25, 0, 0), (16, .aload_n 0, 17, 0, 0, 0), (17, .getfield 35, 20, 6, 9, 0), (20, .iload_n 1, 21, 0, 0, 0), (21, .iaload, 22, 0, 0, 0), (22, .goto 4, 25, 26, 0, 0), (25, .iconst (-1), 26, 0, 0, 0), (26, .ireturn, 27, 0, 0, 0)]
theorem oX7_ear : ∀ e ∈ tX7_ear, zgood fRX7 cX7_ear 2 false e = true := by decide +kernel
def tX7_times_ : List zE := [(0, .lload_n 0, 1, 0, 0, 0), (1, .lconst 0, 2, 0, 0, 0), (2, .lcmp, 3, 0, 0, 0), (3, .ifCond .eq 19, 6, 22, 0, 0), (6, .lload_n 2, 7, 0, 0, 0), (7, .ldc2_w 190, 10, 0, 0, 1000000000000000), (10, .lload_n 0, 11, 0, 0, 0), (11, .ldiv, 12, 0, 0, 0), (12, .lcmp, 13, 0, 0, 0), (13, .ifCond .le 9, 16, 22, 0, 0), (16, .ldc2_w 190, 19, 0, 0, 1000000000000000), (19, .goto 6, 22, 25, 0, 0), (22, .lload_n 0, 23, 0, 0, 0), (23, .lload_n 2, 24, 0, 0, 0), (24, .lmul, 25, 0, 0, 0), (25, .lreturn, 26, 0, 0, 0)]
theorem oX7_times_ : ∀ e ∈ tX7_times_, zgood fRX7 cX7_times_ 4 false e = true := by decide +kernel
def tX7_plus : List zE := [(0, .lload_n 0, 1, 0, 0, 0), (1, .lload_n 2, 2, 0, 0, 0), (2, .ladd, 3, 0, 0, 0), (3, .ldc2_w 190, 6, 0, 0, 1000000000000000), (6, .lcmp, 7, 0, 0, 0), (7, .ifCond .le 9, 10, 16, 0, 0), (10, .ldc2_w 190, 13, 0, 0, 1000000000000000), (13, .goto 6, 16, 19, 0, 0), (16, .lload_n 0, 17, 0, 0, 0), (17, .lload_n 2, 18, 0, 0, 0), (18, .ladd, 19, 0, 0, 0), (19, .lreturn, 20, 0, 0, 0)]
theorem oX7_plus : ∀ e ∈ tX7_plus, zgood fRX7 cX7_plus 4 false e = true := by decide +kernel
def tX7_isLet : List zE := [(0, .aload_n 0, 1, 0, 0, 0), (1, .getfield 192, 4, 6, 28, 0), (4, .bipush 8, 6, 0, 0, 0), (6, .if_icmp .ne 22, 9, 28, 0, 0), (9, .iload_n 2, 10, 0, 0, 0), (10, .ifCond .eq 10, 13, 20, 0, 0), (13, .iload_n 1, 14, 0, 0, 0), (14, .invokestatic 131, 17, 124, 1, 0), (17, .ifCond .eq 7, 20, 24, 0, 0), (20, .iconst 1, 21, 0, 0, 0), (21, .goto 30, 24, 51, 0, 0), (24, .iconst 0, 25, 0, 0, 0), (25, .goto 26, 28, 51, 0, 0), (28, .aload_n 0, 29, 0, 0, 0), (29, .getfield 32, 32, 6, 8, 0), (32, .bipush 10, 34, 0, 0, 0), (34, .aload_n 0, 35, 0, 0, 0), (35, .getfield 192, 38, 6, 28, 0), (38, .imul, 39, 0, 0, 0), (39, .iload_n 1, 40, 0, 0, 0), (40, .iadd, 41, 0, 0, 0), (41, .baload, 42, 0, 0, 0), (42, .iload_n 2, 43, 0, 0, 0), (43, .if_icmp .ne 7, 46, 50, 0, 0), (46, .iconst 1, 47, 0, 0, 0), (47, .goto 4, 50, 51, 0, 0), (50, .iconst 0, 51, 0, 0, 0), (51, .ireturn, 52, 0, 0, 0)]
theorem oX7_isLet : ∀ e ∈ tX7_isLet, zgood fRX7 cX7_isLet 3 false e = true := by decide +kernel
def tX7_isNumber : List zE := [(0, .iload_n 2, 1, 0, 0, 0), (1, .iload_n 1, 2, 0, 0, 0), (2, .isub, 3, 0, 0, 0), (3, .iconst 1, 4, 0, 0, 0), (4, .if_icmp .lt 32, 7, 36, 0, 0), (7, .iload_n 2, 8, 0, 0, 0), (8, .iload_n 1, 9, 0, 0, 0), (9, .isub, 10, 0, 0, 0), (10, .iconst 4, 11, 0, 0, 0), (11, .if_icmp .gt 25, 14, 36, 0, 0), (14, .aload_n 0, 15, 0, 0, 0), (15, .getfield 35, 18, 6, 9, 0), (18, .iload_n 1, 19, 0, 0, 0), (19, .iaload, 20, 0, 0, 0), (20, .bipush 10, 22, 0, 0, 0), (22, .if_icmp .ne 10, 25, 32, 0, 0), (25, .iload_n 2, 26, 0, 0, 0), (26, .iload_n 1, 27, 0, 0, 0), (27, .isub, 28, 0, 0, 0), (28, .iconst 1, 29, 0, 0, 0), (29, .if_icmp .ne 7, 32, 36, 0, 0), (32, .iconst 1, 33, 0, 0, 0), (33, .goto 4, 36, 37, 0, 0), (36, .iconst 0, 37, 0, 0, 0), (37, .istore_n 3, 38, 0, 0, 0), (38, .iload_n 1, 39, 0, 0, 0), (39, .istore 4, 41, 0, 0, 0), (41, .iload 4, 43, 0, 0, 0), (43, .iload_n 2, 44, 0, 0, 0), (44, .if_icmp .ge 31, 47, 75, 0, 0), (47, .iload_n 3, 48, 0, 0, 0), (48, .ifCond .eq 27, 51, 75, 0, 0), (51, .aload_n 0, 52, 0, 0, 0), (52, .getfield 35, 55, 6, 9, 0), (55, .iload 4, 57, 0, 0, 0), (57, .iaload, 58, 0, 0, 0), (58, .i2l, 59, 0, 0, 0), (59, .ldc2_w 195, 62, 0, 0, 10), (62, .ldc2_w 197, 65, 0, 0, 19), (65, .invokestatic 88, 68, 121, 3, 0), (68, .istore_n 3, 69, 0, 0, 0), (69, .iinc 4 1, 72, 0, 0, 0), (72, .goto (-31), 75, 41, 0, 0), (75, .iload_n 3, 76, 0, 0, 0), (76, .ireturn, 77, 0, 0, 0)]
theorem oX7_isNumber : ∀ e ∈ tX7_isNumber, zgood fRX7 cX7_isNumber 5 false e = true := by decide +kernel
def tX7_within_0 : List zE := [(0, .iload_n 3, 1, 0, 0, 0), (1, .iload_n 2, 2, 0, 0, 0), (2, .if_icmp .gt 5, 5, 7, 0, 0), (5, .lconst 0, 6, 0, 0, 0), (6, .lreturn, 7, 0, 0, 0), (7, .iload_n 1, 8, 0, 0, 0), (8, .ifCond .ne 41, 11, 49, 0, 0), (11, .iload_n 3, 12, 0, 0, 0), (12, .iload_n 2, 13, 0, 0, 0), (13, .isub, 14, 0, 0, 0), (14, .iconst 1, 15, 0, 0, 0), (15, .if_icmp .ne 32, 18, 47, 0, 0), (18, .aload_n 0, 19, 0, 0, 0), (19, .getfield 35, 22, 6, 9, 0), (22, .iload_n 2, 23, 0, 0, 0), (23, .iaload, 24, 0, 0, 0), (24, .bipush 10, 26, 0, 0, 0), (26, .if_icmp .ge 21, 29, 47, 0, 0), (29, .aload_n 0, 30, 0, 0, 0), (30, .getfield 28, 33, 6, 7, 0), (33, .aload_n 0, 34, 0, 0, 0), (34, .getfield 35, 37, 6, 9, 0), (37, .iload_n 2, 38, 0, 0, 0), (38, .iaload, 39, 0, 0, 0), (39, .baload, 40, 0, 0, 0), (40, .ifCond .ne 7, 43, 47, 0, 0), (43, .lconst 1, 44, 0, 0, 0), (44, .goto 4, 47, 48, 0, 0), (47, .lconst 0, 48, 0, 0, 0), (48, .lreturn, 49, 0, 0, 0), (49, .iload_n 1, 50, 0, 0, 0), (50, .iconst 1, 51, 0, 0, 0), (51, .if_icmp .ne 18, 54, 69, 0, 0), (54, .aload_n 0, 55, 0, 0, 0), (55, .iload_n 2, 56, 0, 0, 0), (56, .iload_n 3, 57, 0, 0, 0), (57, .invokevirtual 199, 60, 160, 2, 0), (60, .ifCond .eq 7, 63, 67, 0, 0), (63, .lconst 1, 64, 0, 0, 0), (64, .goto 4, 67, 68, 0, 0), (67, .lconst 0, 68, 0, 0, 0), (68, .lreturn, 69, 0, 0, 0), (69, .iload_n 1, 70, 0, 0, 0), (70, .invokestatic 108, 73, 123, 1, 0), (73, .ifCond .eq 83, 76, 156, 0, 0), (76, .lconst 0, 77, 0, 0, 0), (77, .lstore 4, 79, 0, 0, 0), (79, .iload_n 2, 80, 0, 0, 0), (80, .iconst 1, 81, 0, 0, 0), (81, .iadd, 82, 0, 0, 0)]
theorem oX7_within_0 : ∀ e ∈ tX7_within_0, zgood fRX7 cX7_within 7 false e = true := by decide +kernel
def tX7_within_1 : List zE := [(82, .istore 6, 84, 0, 0, 0), (84, .iload 6, 86, 0, 0, 0), (86, .iload_n 3, 87, 0, 0, 0), (87, .iconst 1, 88, 0, 0, 0), (88, .isub, 89, 0, 0, 0), (89, .if_icmp .ge 64, 92, 153, 0, 0), (92, .aload_n 0, 93, 0, 0, 0), (93, .getfield 35, 96, 6, 9, 0), (96, .iload 6, 98, 0, 0, 0), (98, .iaload, 99, 0, 0, 0), (99, .bipush 18, 101, 0, 0, 0), (101, .iload_n 1, 102, 0, 0, 0), (102, .iadd, 103, 0, 0, 0), (103, .if_icmp .ne 40, 106, 143, 0, 0), (106, .lload 4, 108, 0, 0, 0), (108, .aload_n 0, 109, 0, 0, 0), (109, .getfield 73, 112, 6, 27, 0), (112, .bipush 21, 114, 0, 0, 0), (114, .iload_n 2, 115, 0, 0, 0), (115, .imul, 116, 0, 0, 0), (116, .iload 6, 118, 0, 0, 0), (118, .iadd, 119, 0, 0, 0), (119, .laload, 120, 0, 0, 0), (120, .aload_n 0, 121, 0, 0, 0), (121, .getfield 73, 124, 6, 27, 0), (124, .bipush 21, 126, 0, 0, 0), (126, .iload 6, 128, 0, 0, 0), (128, .iconst 1, 129, 0, 0, 0), (129, .iadd, 130, 0, 0, 0), (130, .imul, 131, 0, 0, 0), (131, .iload_n 3, 132, 0, 0, 0), (132, .iadd, 133, 0, 0, 0), (133, .laload, 134, 0, 0, 0), (134, .invokestatic 202, 137, 157, 2, 0), (137, .invokestatic 206, 140, 158, 2, 0), (140, .goto 5, 143, 145, 0, 0), (143, .lload 4, 145, 0, 0, 0), (145, .lstore 4, 147, 0, 0, 0), (147, .iinc 6 1, 150, 0, 0, 0), (150, .goto (-66), 153, 84, 0, 0), (153, .lload 4, 155, 0, 0, 0), (155, .lreturn, 156, 0, 0, 0), (156, .iload_n 1, 157, 0, 0, 0), (157, .bipush 7, 159, 0, 0, 0), (159, .if_icmp .ne 39, 162, 198, 0, 0), (162, .aload_n 0, 163, 0, 0, 0), (163, .getfield 35, 166, 6, 9, 0), (166, .iload_n 2, 167, 0, 0, 0), (167, .iaload, 168, 0, 0, 0), (168, .bipush 25, 170, 0, 0, 0)]
theorem oX7_within_1 : ∀ e ∈ tX7_within_1, zgood fRX7 cX7_within 7 false e = true := by decide +kernel
def tX7_within_2 : List zE := [(170, .if_icmp .ne 26, 173, 196, 0, 0), (173, .iload_n 3, 174, 0, 0, 0), (174, .iload_n 2, 175, 0, 0, 0), (175, .isub, 176, 0, 0, 0), (176, .iconst 1, 177, 0, 0, 0), (177, .if_icmp .le 19, 180, 196, 0, 0), (180, .aload_n 0, 181, 0, 0, 0), (181, .getfield 73, 184, 6, 27, 0), (184, .bipush 21, 186, 0, 0, 0), (186, .iload_n 2, 187, 0, 0, 0), (187, .iconst 1, 188, 0, 0, 0), (188, .iadd, 189, 0, 0, 0), (189, .imul, 190, 0, 0, 0), (190, .iload_n 3, 191, 0, 0, 0), (191, .iadd, 192, 0, 0, 0), (192, .laload, 193, 0, 0, 0), (193, .goto 4, 196, 197, 0, 0), (196, .lconst 0, 197, 0, 0, 0), (197, .lreturn, 198, 0, 0, 0), (198, .iload_n 1, 199, 0, 0, 0), (199, .bipush 8, 201, 0, 0, 0), (201, .if_icmp .ne 54, 204, 255, 0, 0), (204, .aload_n 0, 205, 0, 0, 0), (205, .getfield 35, 208, 6, 9, 0), (208, .iload_n 2, 209, 0, 0, 0), (209, .iaload, 210, 0, 0, 0), (210, .bipush 26, 212, 0, 0, 0), (212, .if_icmp .ne 41, 215, 253, 0, 0), (215, .aload_n 0, 216, 0, 0, 0), (216, .getfield 35, 219, 6, 9, 0), (219, .iload_n 3, 220, 0, 0, 0), (220, .iconst 1, 221, 0, 0, 0), (221, .isub, 222, 0, 0, 0), (222, .iaload, 223, 0, 0, 0), (223, .bipush 27, 225, 0, 0, 0), (225, .if_icmp .ne 28, 228, 253, 0, 0), (228, .iload_n 3, 229, 0, 0, 0), (229, .iload_n 2, 230, 0, 0, 0), (230, .isub, 231, 0, 0, 0), (231, .iconst 2, 232, 0, 0, 0), (232, .if_icmp .le 21, 235, 253, 0, 0), (235, .aload_n 0, 236, 0, 0, 0), (236, .getfield 73, 239, 6, 27, 0), (239, .bipush 21, 241, 0, 0, 0), (241, .iload_n 2, 242, 0, 0, 0), (242, .iconst 1, 243, 0, 0, 0), (243, .iadd, 244, 0, 0, 0), (244, .imul, 245, 0, 0, 0), (245, .iload_n 3, 246, 0, 0, 0), (246, .iadd, 247, 0, 0, 0)]
theorem oX7_within_2 : ∀ e ∈ tX7_within_2, zgood fRX7 cX7_within 7 false e = true := by decide +kernel
def tX7_within_3 : List zE := [(247, .iconst 1, 248, 0, 0, 0), (248, .isub, 249, 0, 0, 0), (249, .laload, 250, 0, 0, 0), (250, .goto 4, 253, 254, 0, 0), (253, .lconst 0, 254, 0, 0, 0), (254, .lreturn, 255, 0, 0, 0), (255, .aload_n 0, 256, 0, 0, 0), (256, .getfield 35, 259, 6, 9, 0), (259, .iload_n 2, 260, 0, 0, 0), (260, .iaload, 261, 0, 0, 0), (261, .bipush 10, 263, 0, 0, 0), (263, .if_icmp .ge 53, 266, 316, 0, 0), (266, .aload_n 0, 267, 0, 0, 0), (267, .getfield 28, 270, 6, 7, 0), (270, .aload_n 0, 271, 0, 0, 0), (271, .getfield 35, 274, 6, 9, 0), (274, .iload_n 2, 275, 0, 0, 0), (275, .iaload, 276, 0, 0, 0), (276, .baload, 277, 0, 0, 0), (277, .ifCond .eq 39, 280, 316, 0, 0), (280, .iload_n 3, 281, 0, 0, 0), (281, .iload_n 2, 282, 0, 0, 0), (282, .isub, 283, 0, 0, 0), (283, .iconst 2, 284, 0, 0, 0), (284, .if_icmp .le 32, 287, 316, 0, 0), (287, .aload_n 0, 288, 0, 0, 0), (288, .getfield 35, 291, 6, 9, 0), (291, .iload_n 2, 292, 0, 0, 0), (292, .iconst 1, 293, 0, 0, 0), (293, .iadd, 294, 0, 0, 0), (294, .iaload, 295, 0, 0, 0), (295, .bipush 28, 297, 0, 0, 0), (297, .if_icmp .ne 19, 300, 316, 0, 0), (300, .aload_n 0, 301, 0, 0, 0), (301, .getfield 73, 304, 6, 27, 0), (304, .bipush 21, 306, 0, 0, 0), (306, .iload_n 2, 307, 0, 0, 0), (307, .iconst 2, 308, 0, 0, 0), (308, .iadd, 309, 0, 0, 0), (309, .imul, 310, 0, 0, 0), (310, .iload_n 3, 311, 0, 0, 0), (311, .iadd, 312, 0, 0, 0), (312, .laload, 313, 0, 0, 0), (313, .goto 4, 316, 317, 0, 0), (316, .lconst 0, 317, 0, 0, 0), (317, .lreturn, 318, 0, 0, 0)]
theorem oX7_within_3 : ∀ e ∈ tX7_within_3, zgood fRX7 cX7_within 7 false e = true := by decide +kernel
def tX7_within : List zE := tX7_within_0 ++ (tX7_within_1 ++ (tX7_within_2 ++ (tX7_within_3)))
theorem oX7_within : ∀ e ∈ tX7_within, zgood fRX7 cX7_within 7 false e = true := (zapp oX7_within_0 (zapp oX7_within_1 (zapp oX7_within_2 oX7_within_3)))
def tX7_reckons_0 : List zE := [(0, .aload_n 0, 1, 0, 0, 0), (1, .iload_n 1, 2, 0, 0, 0), (2, .putfield 192, 5, 6, 28, 0), (5, .iconst 1, 6, 0, 0, 0), (6, .istore_n 2, 7, 0, 0, 0), (7, .iload_n 2, 8, 0, 0, 0), (8, .aload_n 0, 9, 0, 0, 0), (9, .getfield 184, 12, 6, 10, 0), (12, .if_icmp .gt 204, 15, 216, 0, 0), (15, .iconst 0, 16, 0, 0, 0), (16, .istore_n 3, 17, 0, 0, 0), (17, .iload_n 3, 18, 0, 0, 0), (18, .iload_n 2, 19, 0, 0, 0), (19, .iadd, 20, 0, 0, 0), (20, .aload_n 0, 21, 0, 0, 0), (21, .getfield 184, 24, 6, 10, 0), (24, .if_icmp .gt 186, 27, 210, 0, 0), (27, .iload_n 3, 28, 0, 0, 0), (28, .iload_n 2, 29, 0, 0, 0), (29, .iadd, 30, 0, 0, 0), (30, .istore 4, 32, 0, 0, 0), (32, .lconst 0, 33, 0, 0, 0), (33, .lstore 5, 35, 0, 0, 0), (35, .iconst 0, 36, 0, 0, 0), (36, .istore 7, 38, 0, 0, 0), (38, .iload 7, 40, 0, 0, 0), (40, .bipush 20, 42, 0, 0, 0), (42, .if_icmp .ge 148, 45, 190, 0, 0), (45, .iload 7, 47, 0, 0, 0), (47, .iconst 2, 48, 0, 0, 0), (48, .irem, 49, 0, 0, 0), (49, .iconst 1, 50, 0, 0, 0), (50, .if_icmp .ne 7, 53, 57, 0, 0), (53, .iconst 1, 54, 0, 0, 0), (54, .goto 4, 57, 58, 0, 0), (57, .iconst 0, 58, 0, 0, 0), (58, .istore 8, 60, 0, 0, 0), (60, .aload_n 0, 61, 0, 0, 0), (61, .iload 7, 63, 0, 0, 0), (63, .iconst 2, 64, 0, 0, 0), (64, .idiv, 65, 0, 0, 0), (65, .iload 8, 67, 0, 0, 0), (67, .invokevirtual 209, 70, 159, 2, 0), (70, .ifCond .eq 37, 73, 107, 0, 0), (73, .iload 8, 75, 0, 0, 0), (75, .ifCond .eq 28, 78, 103, 0, 0), (78, .aload_n 0, 79, 0, 0, 0), (79, .getfield 35, 82, 6, 9, 0), (82, .iload_n 3, 83, 0, 0, 0), (83, .iaload, 84, 0, 0, 0)]
theorem oX7_reckons_0 : ∀ e ∈ tX7_reckons_0, zgood fRX7 cX7_reckons 12 false e = true := by decide +kernel
def tX7_reckons_1 : List zE := [(84, .bipush 29, 86, 0, 0, 0), (86, .if_icmp .ne 21, 89, 107, 0, 0), (89, .aload_n 0, 90, 0, 0, 0), (90, .getfield 35, 93, 6, 9, 0), (93, .iload 4, 95, 0, 0, 0), (95, .iconst 1, 96, 0, 0, 0), (96, .isub, 97, 0, 0, 0), (97, .iaload, 98, 0, 0, 0), (98, .bipush 30, 100, 0, 0, 0), (100, .if_icmp .ne 7, 103, 107, 0, 0), (103, .iconst 1, 104, 0, 0, 0), (104, .goto 4, 107, 108, 0, 0), (107, .iconst 0, 108, 0, 0, 0), (108, .istore 9, 110, 0, 0, 0), (110, .iload 9, 112, 0, 0, 0), (112, .ifCond .ne 7, 115, 119, 0, 0), (115, .lconst 0, 116, 0, 0, 0), (116, .goto 37, 119, 153, 0, 0), (119, .iload 8, 121, 0, 0, 0), (121, .ifCond .eq 21, 124, 142, 0, 0), (124, .aload_n 0, 125, 0, 0, 0), (125, .iload 7, 127, 0, 0, 0), (127, .iconst 2, 128, 0, 0, 0), (128, .idiv, 129, 0, 0, 0), (129, .iload_n 3, 130, 0, 0, 0), (130, .iconst 1, 131, 0, 0, 0), (131, .iadd, 132, 0, 0, 0), (132, .iload 4, 134, 0, 0, 0), (134, .iconst 1, 135, 0, 0, 0), (135, .isub, 136, 0, 0, 0), (136, .invokevirtual 213, 139, 161, 3, 0), (139, .goto 14, 142, 153, 0, 0), (142, .aload_n 0, 143, 0, 0, 0), (143, .iload 7, 145, 0, 0, 0), (145, .iconst 2, 146, 0, 0, 0), (146, .idiv, 147, 0, 0, 0), (147, .iload_n 3, 148, 0, 0, 0), (148, .iload 4, 150, 0, 0, 0), (150, .invokevirtual 213, 153, 161, 3, 0), (153, .lstore 10, 155, 0, 0, 0), (155, .aload_n 0, 156, 0, 0, 0), (156, .getfield 69, 159, 6, 26, 0), (159, .bipush 20, 161, 0, 0, 0), (161, .bipush 21, 163, 0, 0, 0), (163, .iload_n 3, 164, 0, 0, 0), (164, .imul, 165, 0, 0, 0), (165, .iload 4, 167, 0, 0, 0), (167, .iadd, 168, 0, 0, 0), (168, .imul, 169, 0, 0, 0), (169, .iload 7, 171, 0, 0, 0)]
theorem oX7_reckons_1 : ∀ e ∈ tX7_reckons_1, zgood fRX7 cX7_reckons 12 false e = true := by decide +kernel
def tX7_reckons_2 : List zE := [(171, .iadd, 172, 0, 0, 0), (172, .lload 10, 174, 0, 0, 0), (174, .lastore, 175, 0, 0, 0), (175, .lload 5, 177, 0, 0, 0), (177, .lload 10, 179, 0, 0, 0), (179, .invokestatic 206, 182, 158, 2, 0), (182, .lstore 5, 184, 0, 0, 0), (184, .iinc 7 1, 187, 0, 0, 0), (187, .goto (-149), 190, 38, 0, 0), (190, .aload_n 0, 191, 0, 0, 0), (191, .getfield 73, 194, 6, 27, 0), (194, .bipush 21, 196, 0, 0, 0), (196, .iload_n 3, 197, 0, 0, 0), (197, .imul, 198, 0, 0, 0), (198, .iload 4, 200, 0, 0, 0), (200, .iadd, 201, 0, 0, 0), (201, .lload 5, 203, 0, 0, 0), (203, .lastore, 204, 0, 0, 0), (204, .iinc 3 1, 207, 0, 0, 0), (207, .goto (-190), 210, 17, 0, 0), (210, .iinc 2 1, 213, 0, 0, 0), (213, .goto (-206), 216, 7, 0, 0), (216, .return_, 217, 0, 0, 0)]
theorem oX7_reckons_2 : ∀ e ∈ tX7_reckons_2, zgood fRX7 cX7_reckons 12 false e = true := by decide +kernel
def tX7_reckons : List zE := tX7_reckons_0 ++ (tX7_reckons_1 ++ (tX7_reckons_2))
theorem oX7_reckons : ∀ e ∈ tX7_reckons, zgood fRX7 cX7_reckons 12 false e = true := (zapp oX7_reckons_0 (zapp oX7_reckons_1 oX7_reckons_2))
def tX7_counted : List zE := [(0, .aload_n 0, 1, 0, 0, 0), (1, .iload_n 1, 2, 0, 0, 0), (2, .invokevirtual 217, 5, 162, 1, 0), (5, .aload_n 0, 6, 0, 0, 0), (6, .getfield 184, 9, 6, 10, 0), (9, .ifCond .ne 7, 12, 16, 0, 0), (12, .lconst 0, 13, 0, 0, 0), (13, .goto 12, 16, 25, 0, 0), (16, .aload_n 0, 17, 0, 0, 0), (17, .getfield 73, 20, 6, 27, 0), (20, .aload_n 0, 21, 0, 0, 0), (21, .getfield 184, 24, 6, 10, 0), (24, .laload, 25, 0, 0, 0), (25, .lreturn, 26, 0, 0, 0)]
theorem oX7_counted : ∀ e ∈ tX7_counted, zgood fRX7 cX7_counted 2 false e = true := by decide +kernel
def tX7_readings : List zE := [(0, .aload_n 0, 1, 0, 0, 0), (1, .iload_n 1, 2, 0, 0, 0), (2, .i2l, 3, 0, 0, 0), (3, .lconst 0, 4, 0, 0, 0), (4, .ldc2_w 220, 7, 0, 0, 8), (7, .invokestatic 88, 10, 121, 3, 0), (10, .ifCond .eq 7, 13, 17, 0, 0), (13, .iconst 0, 14, 0, 0, 0), (14, .goto 4, 17, 18, 0, 0), (17, .iconst 1, 18, 0, 0, 0), (18, .putfield 82, 21, 6, 16, 0), (21, .aload_n 0, 22, 0, 0, 0), (22, .getfield 82, 25, 6, 16, 0), (25, .ifCond .ne 11, 28, 36, 0, 0), (28, .aload_n 0, 29, 0, 0, 0), (29, .iload_n 1, 30, 0, 0, 0), (30, .invokevirtual 222, 33, 163, 1, 0), (33, .goto 4, 36, 37, 0, 0), (36, .lconst 0, 37, 0, 0, 0), (37, .lreturn, 38, 0, 0, 0)]
theorem oX7_readings : ∀ e ∈ tX7_readings, zgood fRX7 cX7_readings 2 false e = true := by decide +kernel
def tX7_makes : List zE := [(0, .aload_n 0, 1, 0, 0, 0), (1, .sipush 400, 4, 0, 0, 0), (4, .aload_n 0, 5, 0, 0, 0), (5, .getfield 226, 8, 6, 29, 0), (8, .iadd, 9, 0, 0, 0), (9, .iload_n 1, 10, 0, 0, 0), (10, .iload_n 2, 11, 0, 0, 0), (11, .iload_n 3, 12, 0, 0, 0), (12, .iload 4, 14, 0, 0, 0), (14, .invokevirtual 98, 17, 126, 5, 0), (17, .aload_n 0, 18, 0, 0, 0), (18, .dup, 19, 0, 0, 0), (19, .getfield 226, 22, 6, 29, 0), (22, .iconst 1, 23, 0, 0, 0), (23, .iadd, 24, 0, 0, 0), (24, .putfield 226, 27, 6, 29, 0), (27, .sipush 400, 30, 0, 0, 0), (30, .aload_n 0, 31, 0, 0, 0), (31, .getfield 226, 34, 6, 29, 0), (34, .iadd, 35, 0, 0, 0), (35, .iconst 1, 36, 0, 0, 0), (36, .isub, 37, 0, 0, 0), (37, .ireturn, 38, 0, 0, 0)]
theorem oX7_makes : ∀ e ∈ tX7_makes, zgood fRX7 cX7_makes 5 false e = true := by decide +kernel
def tX7_takes_0 : List zE := [(0, .lload_n 3, 1, 0, 0, 0), (1, .lstore 5, 3, 0, 0, 0), (3, .iconst 0, 4, 0, 0, 0), (4, .istore 7, 6, 0, 0, 0), (6, .lload 5, 8, 0, 0, 0), (8, .aload_n 0, 9, 0, 0, 0), (9, .getfield 69, 12, 6, 26, 0), (12, .bipush 20, 14, 0, 0, 0), (14, .bipush 21, 16, 0, 0, 0), (16, .iload_n 1, 17, 0, 0, 0), (17, .imul, 18, 0, 0, 0), (18, .iload_n 2, 19, 0, 0, 0), (19, .iadd, 20, 0, 0, 0), (20, .imul, 21, 0, 0, 0), (21, .iload 7, 23, 0, 0, 0), (23, .iadd, 24, 0, 0, 0), (24, .laload, 25, 0, 0, 0), (25, .lcmp, 26, 0, 0, 0), (26, .ifCond .lt 31, 29, 57, 0, 0), (29, .lload 5, 31, 0, 0, 0), (31, .aload_n 0, 32, 0, 0, 0), (32, .getfield 69, 35, 6, 26, 0), (35, .bipush 20, 37, 0, 0, 0), (37, .bipush 21, 39, 0, 0, 0), (39, .iload_n 1, 40, 0, 0, 0), (40, .imul, 41, 0, 0, 0), (41, .iload_n 2, 42, 0, 0, 0), (42, .iadd, 43, 0, 0, 0), (43, .imul, 44, 0, 0, 0), (44, .iload 7, 46, 0, 0, 0), (46, .iadd, 47, 0, 0, 0), (47, .laload, 48, 0, 0, 0), (48, .lsub, 49, 0, 0, 0), (49, .lstore 5, 51, 0, 0, 0), (51, .iinc 7 1, 54, 0, 0, 0), (54, .goto (-48), 57, 6, 0, 0), (57, .iload 7, 59, 0, 0, 0), (59, .iconst 2, 60, 0, 0, 0), (60, .irem, 61, 0, 0, 0), (61, .iconst 1, 62, 0, 0, 0), (62, .if_icmp .ne 9, 65, 71, 0, 0), (65, .iload_n 1, 66, 0, 0, 0), (66, .iconst 1, 67, 0, 0, 0), (67, .iadd, 68, 0, 0, 0), (68, .goto 4, 71, 72, 0, 0), (71, .iload_n 1, 72, 0, 0, 0), (72, .istore 8, 74, 0, 0, 0), (74, .iload 7, 76, 0, 0, 0), (76, .iconst 2, 77, 0, 0, 0), (77, .irem, 78, 0, 0, 0)]
theorem oX7_takes_0 : ∀ e ∈ tX7_takes_0, zgood fRX7 cX7_takes 12 false e = true := by decide +kernel
def tX7_takes_1 : List zE := [(78, .iconst 1, 79, 0, 0, 0), (79, .if_icmp .ne 9, 82, 88, 0, 0), (82, .iload_n 2, 83, 0, 0, 0), (83, .iconst 1, 84, 0, 0, 0), (84, .isub, 85, 0, 0, 0), (85, .goto 4, 88, 89, 0, 0), (88, .iload_n 2, 89, 0, 0, 0), (89, .istore 9, 91, 0, 0, 0), (91, .iload 7, 93, 0, 0, 0), (93, .iconst 2, 94, 0, 0, 0), (94, .idiv, 95, 0, 0, 0), (95, .tableswitch 196 0 9 #[53, 70, 196, 196, 196, 196, 196, 120, 143, 168], 148, 0, 0, 0), (148, .aload_n 0, 149, 0, 0, 0), (149, .iconst 0, 150, 0, 0, 0), (150, .aload_n 0, 151, 0, 0, 0), (151, .getfield 35, 154, 6, 9, 0), (154, .iload 8, 156, 0, 0, 0), (156, .iaload, 157, 0, 0, 0), (157, .bipush (-2), 159, 0, 0, 0), (159, .bipush (-2), 161, 0, 0, 0), (161, .invokevirtual 229, 164, 165, 4, 0), (164, .ireturn, 165, 0, 0, 0), (165, .iconst 0, 166, 0, 0, 0), (166, .istore 10, 168, 0, 0, 0), (168, .iload 8, 170, 0, 0, 0), (170, .istore 11, 172, 0, 0, 0), (172, .iload 11, 174, 0, 0, 0), (174, .iload 9, 176, 0, 0, 0), (176, .if_icmp .ge 27, 179, 203, 0, 0), (179, .bipush 10, 181, 0, 0, 0), (181, .iload 10, 183, 0, 0, 0), (183, .imul, 184, 0, 0, 0), (184, .aload_n 0, 185, 0, 0, 0), (185, .getfield 35, 188, 6, 9, 0), (188, .iload 11, 190, 0, 0, 0), (190, .iaload, 191, 0, 0, 0), (191, .iadd, 192, 0, 0, 0), (192, .bipush 10, 194, 0, 0, 0), (194, .isub, 195, 0, 0, 0), (195, .istore 10, 197, 0, 0, 0), (197, .iinc 11 1, 200, 0, 0, 0), (200, .goto (-28), 203, 172, 0, 0), (203, .aload_n 0, 204, 0, 0, 0), (204, .iconst 1, 205, 0, 0, 0), (205, .iload 10, 207, 0, 0, 0), (207, .bipush (-2), 209, 0, 0, 0), (209, .bipush (-2), 211, 0, 0, 0), (211, .invokevirtual 229, 214, 165, 4, 0), (214, .ireturn, 215, 0, 0, 0), (215, .aload_n 0, 216, 0, 0, 0)]
theorem oX7_takes_1 : ∀ e ∈ tX7_takes_1, zgood fRX7 cX7_takes 12 false e = true := by decide +kernel
def tX7_takes_2 : List zE := [(216, .bipush 7, 218, 0, 0, 0), (218, .bipush (-2), 220, 0, 0, 0), (220, .aload_n 0, 221, 0, 0, 0), (221, .iload 8, 223, 0, 0, 0), (223, .iconst 1, 224, 0, 0, 0), (224, .iadd, 225, 0, 0, 0), (225, .iload 9, 227, 0, 0, 0), (227, .lload 5, 229, 0, 0, 0), (229, .invokevirtual 233, 232, 166, 3, 0), (232, .bipush (-2), 234, 0, 0, 0), (234, .invokevirtual 229, 237, 165, 4, 0), (237, .ireturn, 238, 0, 0, 0), (238, .aload_n 0, 239, 0, 0, 0), (239, .bipush 8, 241, 0, 0, 0), (241, .bipush (-2), 243, 0, 0, 0), (243, .aload_n 0, 244, 0, 0, 0), (244, .iload 8, 246, 0, 0, 0), (246, .iconst 1, 247, 0, 0, 0), (247, .iadd, 248, 0, 0, 0), (248, .iload 9, 250, 0, 0, 0), (250, .iconst 1, 251, 0, 0, 0), (251, .isub, 252, 0, 0, 0), (252, .lload 5, 254, 0, 0, 0), (254, .invokevirtual 233, 257, 166, 3, 0), (257, .bipush (-2), 259, 0, 0, 0), (259, .invokevirtual 229, 262, 165, 4, 0), (262, .ireturn, 263, 0, 0, 0), (263, .aload_n 0, 264, 0, 0, 0), (264, .bipush 9, 266, 0, 0, 0), (266, .aload_n 0, 267, 0, 0, 0), (267, .getfield 35, 270, 6, 9, 0), (270, .iload 8, 272, 0, 0, 0), (272, .iaload, 273, 0, 0, 0), (273, .aload_n 0, 274, 0, 0, 0), (274, .iload 8, 276, 0, 0, 0), (276, .iconst 2, 277, 0, 0, 0), (277, .iadd, 278, 0, 0, 0), (278, .iload 9, 280, 0, 0, 0), (280, .lload 5, 282, 0, 0, 0), (282, .invokevirtual 233, 285, 166, 3, 0), (285, .bipush (-2), 287, 0, 0, 0), (287, .invokevirtual 229, 290, 165, 4, 0), (290, .ireturn, 291, 0, 0, 0), (291, .aload_n 0, 292, 0, 0, 0), (292, .iload 7, 294, 0, 0, 0), (294, .iconst 2, 295, 0, 0, 0), (295, .idiv, 296, 0, 0, 0), (296, .iload 8, 298, 0, 0, 0), (298, .iload 9, 300, 0, 0, 0), (300, .lload 5, 302, 0, 0, 0)]
theorem oX7_takes_2 : ∀ e ∈ tX7_takes_2, zgood fRX7 cX7_takes 12 false e = true := by decide +kernel
def tX7_takes_3 : List zE := [(302, .invokevirtual 237, 305, 167, 4, 0), (305, .ireturn, 306, 0, 0, 0)]
theorem oX7_takes_3 : ∀ e ∈ tX7_takes_3, zgood fRX7 cX7_takes 12 false e = true := by decide +kernel
def tX7_takes : List zE := tX7_takes_0 ++ (tX7_takes_1 ++ (tX7_takes_2 ++ (tX7_takes_3)))
theorem oX7_takes : ∀ e ∈ tX7_takes, zgood fRX7 cX7_takes 12 false e = true := (zapp oX7_takes_0 (zapp oX7_takes_1 (zapp oX7_takes_2 oX7_takes_3)))
def tX7_takesTwo_0 : List zE := [(0, .lload 4, 2, 0, 0, 0), (2, .lstore 6, 4, 0, 0, 0), (4, .iload_n 2, 5, 0, 0, 0), (5, .iconst 1, 6, 0, 0, 0), (6, .iadd, 7, 0, 0, 0), (7, .istore 8, 9, 0, 0, 0), (9, .aload_n 0, 10, 0, 0, 0), (10, .getfield 35, 13, 6, 9, 0), (13, .iload 8, 15, 0, 0, 0), (15, .iaload, 16, 0, 0, 0), (16, .bipush 18, 18, 0, 0, 0), (18, .iload_n 1, 19, 0, 0, 0), (19, .iadd, 20, 0, 0, 0), (20, .if_icmp .ne 38, 23, 58, 0, 0), (23, .lload 6, 25, 0, 0, 0), (25, .aload_n 0, 26, 0, 0, 0), (26, .getfield 73, 29, 6, 27, 0), (29, .bipush 21, 31, 0, 0, 0), (31, .iload_n 2, 32, 0, 0, 0), (32, .imul, 33, 0, 0, 0), (33, .iload 8, 35, 0, 0, 0), (35, .iadd, 36, 0, 0, 0), (36, .laload, 37, 0, 0, 0), (37, .aload_n 0, 38, 0, 0, 0), (38, .getfield 73, 41, 6, 27, 0), (41, .bipush 21, 43, 0, 0, 0), (43, .iload 8, 45, 0, 0, 0), (45, .iconst 1, 46, 0, 0, 0), (46, .iadd, 47, 0, 0, 0), (47, .imul, 48, 0, 0, 0), (48, .iload_n 3, 49, 0, 0, 0), (49, .iadd, 50, 0, 0, 0), (50, .laload, 51, 0, 0, 0), (51, .invokestatic 202, 54, 157, 2, 0), (54, .lcmp, 55, 0, 0, 0), (55, .ifCond .lt 61, 58, 116, 0, 0), (58, .lload 6, 60, 0, 0, 0), (60, .aload_n 0, 61, 0, 0, 0), (61, .getfield 35, 64, 6, 9, 0), (64, .iload 8, 66, 0, 0, 0), (66, .iaload, 67, 0, 0, 0), (67, .bipush 18, 69, 0, 0, 0), (69, .iload_n 1, 70, 0, 0, 0), (70, .iadd, 71, 0, 0, 0), (71, .if_icmp .ne 35, 74, 106, 0, 0), (74, .aload_n 0, 75, 0, 0, 0), (75, .getfield 73, 78, 6, 27, 0), (78, .bipush 21, 80, 0, 0, 0), (80, .iload_n 2, 81, 0, 0, 0), (81, .imul, 82, 0, 0, 0)]
theorem oX7_takesTwo_0 : ∀ e ∈ tX7_takesTwo_0, zgood fRX7 cX7_takesTwo 12 false e = true := by decide +kernel
def tX7_takesTwo_1 : List zE := [(82, .iload 8, 84, 0, 0, 0), (84, .iadd, 85, 0, 0, 0), (85, .laload, 86, 0, 0, 0), (86, .aload_n 0, 87, 0, 0, 0), (87, .getfield 73, 90, 6, 27, 0), (90, .bipush 21, 92, 0, 0, 0), (92, .iload 8, 94, 0, 0, 0), (94, .iconst 1, 95, 0, 0, 0), (95, .iadd, 96, 0, 0, 0), (96, .imul, 97, 0, 0, 0), (97, .iload_n 3, 98, 0, 0, 0), (98, .iadd, 99, 0, 0, 0), (99, .laload, 100, 0, 0, 0), (100, .invokestatic 202, 103, 157, 2, 0), (103, .goto 4, 106, 107, 0, 0), (106, .lconst 0, 107, 0, 0, 0), (107, .lsub, 108, 0, 0, 0), (108, .lstore 6, 110, 0, 0, 0), (110, .iinc 8 1, 113, 0, 0, 0), (113, .goto (-104), 116, 9, 0, 0), (116, .aload_n 0, 117, 0, 0, 0), (117, .getfield 73, 120, 6, 27, 0), (120, .bipush 21, 122, 0, 0, 0), (122, .iload 8, 124, 0, 0, 0), (124, .iconst 1, 125, 0, 0, 0), (125, .iadd, 126, 0, 0, 0), (126, .imul, 127, 0, 0, 0), (127, .iload_n 3, 128, 0, 0, 0), (128, .iadd, 129, 0, 0, 0), (129, .laload, 130, 0, 0, 0), (130, .lstore 9, 132, 0, 0, 0), (132, .aload_n 0, 133, 0, 0, 0), (133, .iload_n 2, 134, 0, 0, 0), (134, .iload 8, 136, 0, 0, 0), (136, .lload 6, 138, 0, 0, 0), (138, .lload 9, 140, 0, 0, 0), (140, .ldiv, 141, 0, 0, 0), (141, .invokevirtual 233, 144, 166, 3, 0), (144, .istore 11, 146, 0, 0, 0), (146, .aload_n 0, 147, 0, 0, 0), (147, .iload_n 1, 148, 0, 0, 0), (148, .bipush (-2), 150, 0, 0, 0), (150, .iload 11, 152, 0, 0, 0), (152, .aload_n 0, 153, 0, 0, 0), (153, .iload 8, 155, 0, 0, 0), (155, .iconst 1, 156, 0, 0, 0), (156, .iadd, 157, 0, 0, 0), (157, .iload_n 3, 158, 0, 0, 0), (158, .lload 6, 160, 0, 0, 0), (160, .lload 9, 162, 0, 0, 0)]
theorem oX7_takesTwo_1 : ∀ e ∈ tX7_takesTwo_1, zgood fRX7 cX7_takesTwo 12 false e = true := by decide +kernel
def tX7_takesTwo_2 : List zE := [(162, .lrem, 163, 0, 0, 0), (163, .invokevirtual 233, 166, 166, 3, 0), (166, .invokevirtual 229, 169, 165, 4, 0), (169, .ireturn, 170, 0, 0, 0)]
theorem oX7_takesTwo_2 : ∀ e ∈ tX7_takesTwo_2, zgood fRX7 cX7_takesTwo 12 false e = true := by decide +kernel
def tX7_takesTwo : List zE := tX7_takesTwo_0 ++ (tX7_takesTwo_1 ++ (tX7_takesTwo_2))
theorem oX7_takesTwo : ∀ e ∈ tX7_takesTwo, zgood fRX7 cX7_takesTwo 12 false e = true := (zapp oX7_takesTwo_0 (zapp oX7_takesTwo_1 oX7_takesTwo_2))
def tX7_write : List zE := [(0, .iload_n 1, 1, 0, 0, 0), (1, .i2l, 2, 0, 0, 0), (2, .lconst 0, 3, 0, 0, 0), (3, .ldc2_w 220, 6, 0, 0, 8), (6, .invokestatic 88, 9, 121, 3, 0), (9, .ifCond .eq 9, 12, 18, 0, 0), (12, .lload_n 2, 13, 0, 0, 0), (13, .lconst 0, 14, 0, 0, 0), (14, .lcmp, 15, 0, 0, 0), (15, .ifCond .ge 5, 18, 20, 0, 0), (18, .iconst (-1), 19, 0, 0, 0), (19, .ireturn, 20, 0, 0, 0), (20, .lload_n 2, 21, 0, 0, 0), (21, .aload_n 0, 22, 0, 0, 0), (22, .iload_n 1, 23, 0, 0, 0), (23, .invokevirtual 222, 26, 163, 1, 0), (26, .lcmp, 27, 0, 0, 0), (27, .ifCond .lt 6, 30, 33, 0, 0), (30, .bipush (-4), 32, 0, 0, 0), (32, .ireturn, 33, 0, 0, 0), (33, .aload_n 0, 34, 0, 0, 0), (34, .iconst 0, 35, 0, 0, 0), (35, .putfield 226, 38, 6, 29, 0), (38, .aload_n 0, 39, 0, 0, 0), (39, .iconst 0, 40, 0, 0, 0), (40, .aload_n 0, 41, 0, 0, 0), (41, .getfield 184, 44, 6, 10, 0), (44, .lload_n 2, 45, 0, 0, 0), (45, .invokevirtual 233, 48, 166, 3, 0), (48, .istore 4, 50, 0, 0, 0), (50, .aload_n 0, 51, 0, 0, 0), (51, .getfield 85, 54, 6, 0, 0), (54, .aload_n 0, 55, 0, 0, 0), (55, .getfield 226, 58, 6, 29, 0), (58, .iadd, 59, 0, 0, 0), (59, .bipush 120, 61, 0, 0, 0), (61, .if_icmp .le 6, 64, 67, 0, 0), (64, .bipush (-2), 66, 0, 0, 0), (66, .ireturn, 67, 0, 0, 0), (67, .aload_n 0, 68, 0, 0, 0), (68, .iload 4, 70, 0, 0, 0), (70, .invokevirtual 241, 73, 169, 1, 0), (73, .ireturn, 74, 0, 0, 0)]
theorem oX7_write : ∀ e ∈ tX7_write, zgood fRX7 cX7_write 5 false e = true := by decide +kernel
def tX7_copies_0 : List zE := [(0, .aload_n 0, 1, 0, 0, 0), (1, .getfield 16, 4, 6, 3, 0), (4, .iload_n 1, 5, 0, 0, 0), (5, .iaload, 6, 0, 0, 0), (6, .ifCond .ge 8, 9, 14, 0, 0), (9, .bipush (-2), 11, 0, 0, 0), (11, .goto 13, 14, 24, 0, 0), (14, .aload_n 0, 15, 0, 0, 0), (15, .aload_n 0, 16, 0, 0, 0), (16, .getfield 16, 19, 6, 3, 0), (19, .iload_n 1, 20, 0, 0, 0), (20, .iaload, 21, 0, 0, 0), (21, .invokevirtual 241, 24, 169, 1, 0), (24, .istore_n 2, 25, 0, 0, 0), (25, .aload_n 0, 26, 0, 0, 0), (26, .getfield 19, 29, 6, 4, 0), (29, .iload_n 1, 30, 0, 0, 0), (30, .iaload, 31, 0, 0, 0), (31, .ifCond .ge 8, 34, 39, 0, 0), (34, .bipush (-2), 36, 0, 0, 0), (36, .goto 13, 39, 49, 0, 0), (39, .aload_n 0, 40, 0, 0, 0), (40, .aload_n 0, 41, 0, 0, 0), (41, .getfield 19, 44, 6, 4, 0), (44, .iload_n 1, 45, 0, 0, 0), (45, .iaload, 46, 0, 0, 0), (46, .invokevirtual 241, 49, 169, 1, 0), (49, .istore_n 3, 50, 0, 0, 0), (50, .aload_n 0, 51, 0, 0, 0), (51, .aload_n 0, 52, 0, 0, 0), (52, .getfield 85, 55, 6, 0, 0), (55, .aload_n 0, 56, 0, 0, 0), (56, .getfield 7, 59, 6, 1, 0), (59, .iload_n 1, 60, 0, 0, 0), (60, .iaload, 61, 0, 0, 0), (61, .aload_n 0, 62, 0, 0, 0), (62, .getfield 13, 65, 6, 2, 0), (65, .iload_n 1, 66, 0, 0, 0), (66, .iaload, 67, 0, 0, 0), (67, .iload_n 2, 68, 0, 0, 0), (68, .iload_n 3, 69, 0, 0, 0), (69, .invokevirtual 98, 72, 126, 5, 0), (72, .aload_n 0, 73, 0, 0, 0), (73, .dup, 74, 0, 0, 0), (74, .getfield 85, 77, 6, 0, 0), (77, .iconst 1, 78, 0, 0, 0), (78, .iadd, 79, 0, 0, 0), (79, .putfield 85, 82, 6, 0, 0), (82, .aload_n 0, 83, 0, 0, 0), (83, .getfield 85, 86, 6, 0, 0)]
theorem oX7_copies_0 : ∀ e ∈ tX7_copies_0, zgood fRX7 cX7_copies 4 false e = true := by decide +kernel
def tX7_copies_1 : List zE := [(86, .iconst 1, 87, 0, 0, 0), (87, .isub, 88, 0, 0, 0), (88, .ireturn, 89, 0, 0, 0)]
theorem oX7_copies_1 : ∀ e ∈ tX7_copies_1, zgood fRX7 cX7_copies 4 false e = true := by decide +kernel
def tX7_copies : List zE := tX7_copies_0 ++ (tX7_copies_1)
theorem oX7_copies : ∀ e ∈ tX7_copies, zgood fRX7 cX7_copies 4 false e = true := (zapp oX7_copies_0 oX7_copies_1)
def tX7_rank_0 : List zE := [(0, .aload_n 0, 1, 0, 0, 0), (1, .getfield 22, 4, 6, 5, 0), (4, .iload_n 1, 5, 0, 0, 0), (5, .iaload, 6, 0, 0, 0), (6, .iload_n 3, 7, 0, 0, 0), (7, .iload_n 2, 8, 0, 0, 0), (8, .isub, 9, 0, 0, 0), (9, .if_icmp .le 7, 12, 16, 0, 0), (12, .ldc2_w 244, 15, 0, 0, -1), (15, .lreturn, 16, 0, 0, 0), (16, .iconst 2, 17, 0, 0, 0), (17, .aload_n 0, 18, 0, 0, 0), (18, .getfield 7, 21, 6, 1, 0), (21, .iload_n 1, 22, 0, 0, 0), (22, .iaload, 23, 0, 0, 0), (23, .imul, 24, 0, 0, 0), (24, .istore 4, 26, 0, 0, 0), (26, .iload 4, 28, 0, 0, 0), (28, .iconst 2, 29, 0, 0, 0), (29, .aload_n 0, 30, 0, 0, 0), (30, .getfield 7, 33, 6, 1, 0), (33, .iload_n 1, 34, 0, 0, 0), (34, .iaload, 35, 0, 0, 0), (35, .imul, 36, 0, 0, 0), (36, .iconst 2, 37, 0, 0, 0), (37, .iadd, 38, 0, 0, 0), (38, .if_icmp .ge 117, 41, 155, 0, 0), (41, .aload_n 0, 42, 0, 0, 0), (42, .getfield 69, 45, 6, 26, 0), (45, .bipush 20, 47, 0, 0, 0), (47, .bipush 21, 49, 0, 0, 0), (49, .iload_n 2, 50, 0, 0, 0), (50, .imul, 51, 0, 0, 0), (51, .iload_n 3, 52, 0, 0, 0), (52, .iadd, 53, 0, 0, 0), (53, .imul, 54, 0, 0, 0), (54, .iload 4, 56, 0, 0, 0), (56, .iadd, 57, 0, 0, 0), (57, .laload, 58, 0, 0, 0), (58, .lconst 0, 59, 0, 0, 0), (59, .lcmp, 60, 0, 0, 0), (60, .ifCond .le 89, 63, 149, 0, 0), (63, .iload 4, 65, 0, 0, 0), (65, .iconst 2, 66, 0, 0, 0), (66, .irem, 67, 0, 0, 0), (67, .iconst 1, 68, 0, 0, 0), (68, .if_icmp .ne 17, 71, 85, 0, 0), (71, .aload_n 0, 72, 0, 0, 0), (72, .iload_n 1, 73, 0, 0, 0), (73, .iload_n 2, 74, 0, 0, 0)]
theorem oX7_rank_0 : ∀ e ∈ tX7_rank_0, zgood fRX7 cX7_rank 8 false e = true := by decide +kernel
def tX7_rank_1 : List zE := [(74, .iconst 1, 75, 0, 0, 0), (75, .iadd, 76, 0, 0, 0), (76, .iload_n 3, 77, 0, 0, 0), (77, .iconst 1, 78, 0, 0, 0), (78, .isub, 79, 0, 0, 0), (79, .invokevirtual 246, 82, 171, 3, 0), (82, .goto 10, 85, 92, 0, 0), (85, .aload_n 0, 86, 0, 0, 0), (86, .iload_n 1, 87, 0, 0, 0), (87, .iload_n 2, 88, 0, 0, 0), (88, .iload_n 3, 89, 0, 0, 0), (89, .invokevirtual 246, 92, 171, 3, 0), (92, .lstore 5, 94, 0, 0, 0), (94, .iconst 0, 95, 0, 0, 0), (95, .istore 7, 97, 0, 0, 0), (97, .iload 7, 99, 0, 0, 0), (99, .iload 4, 101, 0, 0, 0), (101, .if_icmp .ge 38, 104, 139, 0, 0), (104, .lload 5, 106, 0, 0, 0), (106, .lconst 0, 107, 0, 0, 0), (107, .lcmp, 108, 0, 0, 0), (108, .ifCond .lt 31, 111, 139, 0, 0), (111, .lload 5, 113, 0, 0, 0), (113, .aload_n 0, 114, 0, 0, 0), (114, .getfield 69, 117, 6, 26, 0), (117, .bipush 20, 119, 0, 0, 0), (119, .bipush 21, 121, 0, 0, 0), (121, .iload_n 2, 122, 0, 0, 0), (122, .imul, 123, 0, 0, 0), (123, .iload_n 3, 124, 0, 0, 0), (124, .iadd, 125, 0, 0, 0), (125, .imul, 126, 0, 0, 0), (126, .iload 7, 128, 0, 0, 0), (128, .iadd, 129, 0, 0, 0), (129, .laload, 130, 0, 0, 0), (130, .ladd, 131, 0, 0, 0), (131, .lstore 5, 133, 0, 0, 0), (133, .iinc 7 1, 136, 0, 0, 0), (136, .goto (-39), 139, 97, 0, 0), (139, .lload 5, 141, 0, 0, 0), (141, .lconst 0, 142, 0, 0, 0), (142, .lcmp, 143, 0, 0, 0), (143, .ifCond .lt 6, 146, 149, 0, 0), (146, .lload 5, 148, 0, 0, 0), (148, .lreturn, 149, 0, 0, 0), (149, .iinc 4 1, 152, 0, 0, 0), (152, .goto (-126), 155, 26, 0, 0), (155, .ldc2_w 244, 158, 0, 0, -1), (158, .lreturn, 159, 0, 0, 0)]
theorem oX7_rank_1 : ∀ e ∈ tX7_rank_1, zgood fRX7 cX7_rank 8 false e = true := by decide +kernel
def tX7_rank : List zE := tX7_rank_0 ++ (tX7_rank_1)
theorem oX7_rank : ∀ e ∈ tX7_rank, zgood fRX7 cX7_rank 8 false e = true := (zapp oX7_rank_0 oX7_rank_1)
def tX7_inner_0 : List zE := [(0, .aload_n 0, 1, 0, 0, 0), (1, .getfield 7, 4, 6, 1, 0), (4, .iload_n 1, 5, 0, 0, 0), (5, .iaload, 6, 0, 0, 0), (6, .invokestatic 108, 9, 123, 1, 0), (9, .ifCond .eq 11, 12, 20, 0, 0), (12, .aload_n 0, 13, 0, 0, 0), (13, .iload_n 1, 14, 0, 0, 0), (14, .iload_n 2, 15, 0, 0, 0), (15, .iload_n 3, 16, 0, 0, 0), (16, .invokevirtual 249, 19, 172, 3, 0), (19, .lreturn, 20, 0, 0, 0), (20, .aload_n 0, 21, 0, 0, 0), (21, .getfield 7, 24, 6, 1, 0), (24, .iload_n 1, 25, 0, 0, 0), (25, .iaload, 26, 0, 0, 0), (26, .iconst 1, 27, 0, 0, 0), (27, .if_icmp .ne 58, 30, 85, 0, 0), (30, .iconst 0, 31, 0, 0, 0), (31, .istore 4, 33, 0, 0, 0), (33, .iload_n 2, 34, 0, 0, 0), (34, .istore 5, 36, 0, 0, 0), (36, .iload 5, 38, 0, 0, 0), (38, .iload_n 3, 39, 0, 0, 0), (39, .if_icmp .ge 27, 42, 66, 0, 0), (42, .bipush 10, 44, 0, 0, 0), (44, .iload 4, 46, 0, 0, 0), (46, .imul, 47, 0, 0, 0), (47, .aload_n 0, 48, 0, 0, 0), (48, .getfield 35, 51, 6, 9, 0), (51, .iload 5, 53, 0, 0, 0), (53, .iaload, 54, 0, 0, 0), (54, .iadd, 55, 0, 0, 0), (55, .bipush 10, 57, 0, 0, 0), (57, .isub, 58, 0, 0, 0), (58, .istore 4, 60, 0, 0, 0), (60, .iinc 5 1, 63, 0, 0, 0), (63, .goto (-27), 66, 36, 0, 0), (66, .iload 4, 68, 0, 0, 0), (68, .aload_n 0, 69, 0, 0, 0), (69, .getfield 13, 72, 6, 2, 0), (72, .iload_n 1, 73, 0, 0, 0), (73, .iaload, 74, 0, 0, 0), (74, .if_icmp .ne 7, 77, 81, 0, 0), (77, .lconst 0, 78, 0, 0, 0), (78, .goto 6, 81, 84, 0, 0), (81, .ldc2_w 244, 84, 0, 0, -1), (84, .lreturn, 85, 0, 0, 0), (85, .aload_n 0, 86, 0, 0, 0), (86, .getfield 7, 89, 6, 1, 0)]
theorem oX7_inner_0 : ∀ e ∈ tX7_inner_0, zgood fRX7 cX7_inner 6 false e = true := by decide +kernel
def tX7_inner_1 : List zE := [(89, .iload_n 1, 90, 0, 0, 0), (90, .iaload, 91, 0, 0, 0), (91, .ifCond .ne 26, 94, 117, 0, 0), (94, .aload_n 0, 95, 0, 0, 0), (95, .getfield 35, 98, 6, 9, 0), (98, .iload_n 2, 99, 0, 0, 0), (99, .iaload, 100, 0, 0, 0), (100, .aload_n 0, 101, 0, 0, 0), (101, .getfield 13, 104, 6, 2, 0), (104, .iload_n 1, 105, 0, 0, 0), (105, .iaload, 106, 0, 0, 0), (106, .if_icmp .ne 7, 109, 113, 0, 0), (109, .lconst 0, 110, 0, 0, 0), (110, .goto 6, 113, 116, 0, 0), (113, .ldc2_w 244, 116, 0, 0, -1), (116, .lreturn, 117, 0, 0, 0), (117, .aload_n 0, 118, 0, 0, 0), (118, .getfield 7, 121, 6, 1, 0), (121, .iload_n 1, 122, 0, 0, 0), (122, .iaload, 123, 0, 0, 0), (123, .bipush 9, 125, 0, 0, 0), (125, .if_icmp .ne 39, 128, 164, 0, 0), (128, .aload_n 0, 129, 0, 0, 0), (129, .getfield 35, 132, 6, 9, 0), (132, .iload_n 2, 133, 0, 0, 0), (133, .iaload, 134, 0, 0, 0), (134, .aload_n 0, 135, 0, 0, 0), (135, .getfield 13, 138, 6, 2, 0), (138, .iload_n 1, 139, 0, 0, 0), (139, .iaload, 140, 0, 0, 0), (140, .if_icmp .ne 20, 143, 160, 0, 0), (143, .aload_n 0, 144, 0, 0, 0), (144, .aload_n 0, 145, 0, 0, 0), (145, .getfield 16, 148, 6, 3, 0), (148, .iload_n 1, 149, 0, 0, 0), (149, .iaload, 150, 0, 0, 0), (150, .iload_n 2, 151, 0, 0, 0), (151, .iconst 2, 152, 0, 0, 0), (152, .iadd, 153, 0, 0, 0), (153, .iload_n 3, 154, 0, 0, 0), (154, .invokevirtual 252, 157, 170, 3, 0), (157, .goto 6, 160, 163, 0, 0), (160, .ldc2_w 244, 163, 0, 0, -1), (163, .lreturn, 164, 0, 0, 0), (164, .aload_n 0, 165, 0, 0, 0), (165, .aload_n 0, 166, 0, 0, 0), (166, .getfield 16, 169, 6, 3, 0), (169, .iload_n 1, 170, 0, 0, 0), (170, .iaload, 171, 0, 0, 0), (171, .iload_n 2, 172, 0, 0, 0)]
theorem oX7_inner_1 : ∀ e ∈ tX7_inner_1, zgood fRX7 cX7_inner 6 false e = true := by decide +kernel
def tX7_inner_2 : List zE := [(172, .iconst 1, 173, 0, 0, 0), (173, .iadd, 174, 0, 0, 0), (174, .aload_n 0, 175, 0, 0, 0), (175, .getfield 7, 178, 6, 1, 0), (178, .iload_n 1, 179, 0, 0, 0), (179, .iaload, 180, 0, 0, 0), (180, .bipush 8, 182, 0, 0, 0), (182, .if_icmp .ne 9, 185, 191, 0, 0), (185, .iload_n 3, 186, 0, 0, 0), (186, .iconst 1, 187, 0, 0, 0), (187, .isub, 188, 0, 0, 0), (188, .goto 4, 191, 192, 0, 0), (191, .iload_n 3, 192, 0, 0, 0), (192, .invokevirtual 252, 195, 170, 3, 0), (195, .lreturn, 196, 0, 0, 0)]
theorem oX7_inner_2 : ∀ e ∈ tX7_inner_2, zgood fRX7 cX7_inner 6 false e = true := by decide +kernel
def tX7_inner : List zE := tX7_inner_0 ++ (tX7_inner_1 ++ (tX7_inner_2))
theorem oX7_inner : ∀ e ∈ tX7_inner, zgood fRX7 cX7_inner 6 false e = true := (zapp oX7_inner_0 (zapp oX7_inner_1 oX7_inner_2))
def tX7_innerTwo_0 : List zE := [(0, .lconst 0, 1, 0, 0, 0), (1, .lstore 4, 3, 0, 0, 0), (3, .iload_n 2, 4, 0, 0, 0), (4, .iconst 1, 5, 0, 0, 0), (5, .iadd, 6, 0, 0, 0), (6, .istore 6, 8, 0, 0, 0), (8, .iload 6, 10, 0, 0, 0), (10, .iload_n 3, 11, 0, 0, 0), (11, .iconst 1, 12, 0, 0, 0), (12, .isub, 13, 0, 0, 0), (13, .if_icmp .ge 160, 16, 173, 0, 0), (16, .aload_n 0, 17, 0, 0, 0), (17, .getfield 35, 20, 6, 9, 0), (20, .iload 6, 22, 0, 0, 0), (22, .iaload, 23, 0, 0, 0), (23, .bipush 18, 25, 0, 0, 0), (25, .aload_n 0, 26, 0, 0, 0), (26, .getfield 7, 29, 6, 1, 0), (29, .iload_n 1, 30, 0, 0, 0), (30, .iaload, 31, 0, 0, 0), (31, .iadd, 32, 0, 0, 0), (32, .if_icmp .ne 135, 35, 167, 0, 0), (35, .aload_n 0, 36, 0, 0, 0), (36, .getfield 73, 39, 6, 27, 0), (39, .bipush 21, 41, 0, 0, 0), (41, .iload 6, 43, 0, 0, 0), (43, .iconst 1, 44, 0, 0, 0), (44, .iadd, 45, 0, 0, 0), (45, .imul, 46, 0, 0, 0), (46, .iload_n 3, 47, 0, 0, 0), (47, .iadd, 48, 0, 0, 0), (48, .laload, 49, 0, 0, 0), (49, .lstore 7, 51, 0, 0, 0), (51, .lload 7, 53, 0, 0, 0), (53, .lconst 0, 54, 0, 0, 0), (54, .lcmp, 55, 0, 0, 0), (55, .ifCond .le 36, 58, 91, 0, 0), (58, .aload_n 0, 59, 0, 0, 0), (59, .getfield 73, 62, 6, 27, 0), (62, .bipush 21, 64, 0, 0, 0), (64, .iload_n 2, 65, 0, 0, 0), (65, .imul, 66, 0, 0, 0), (66, .iload 6, 68, 0, 0, 0), (68, .iadd, 69, 0, 0, 0), (69, .laload, 70, 0, 0, 0), (70, .lconst 0, 71, 0, 0, 0), (71, .lcmp, 72, 0, 0, 0), (72, .ifCond .le 19, 75, 91, 0, 0), (75, .aload_n 0, 76, 0, 0, 0), (76, .aload_n 0, 77, 0, 0, 0)]
theorem oX7_innerTwo_0 : ∀ e ∈ tX7_innerTwo_0, zgood fRX7 cX7_innerTwo 13 false e = true := by decide +kernel
def tX7_innerTwo_1 : List zE := [(77, .getfield 16, 80, 6, 3, 0), (80, .iload_n 1, 81, 0, 0, 0), (81, .iaload, 82, 0, 0, 0), (82, .iload_n 2, 83, 0, 0, 0), (83, .iload 6, 85, 0, 0, 0), (85, .invokevirtual 252, 88, 170, 3, 0), (88, .goto 6, 91, 94, 0, 0), (91, .ldc2_w 244, 94, 0, 0, -1), (94, .lstore 9, 96, 0, 0, 0), (96, .lload 9, 98, 0, 0, 0), (98, .lconst 0, 99, 0, 0, 0), (99, .lcmp, 100, 0, 0, 0), (100, .ifCond .lt 21, 103, 121, 0, 0), (103, .aload_n 0, 104, 0, 0, 0), (104, .aload_n 0, 105, 0, 0, 0), (105, .getfield 19, 108, 6, 4, 0), (108, .iload_n 1, 109, 0, 0, 0), (109, .iaload, 110, 0, 0, 0), (110, .iload 6, 112, 0, 0, 0), (112, .iconst 1, 113, 0, 0, 0), (113, .iadd, 114, 0, 0, 0), (114, .iload_n 3, 115, 0, 0, 0), (115, .invokevirtual 252, 118, 170, 3, 0), (118, .goto 6, 121, 124, 0, 0), (121, .ldc2_w 244, 124, 0, 0, -1), (124, .lstore 11, 126, 0, 0, 0), (126, .lload 11, 128, 0, 0, 0), (128, .lconst 0, 129, 0, 0, 0), (129, .lcmp, 130, 0, 0, 0), (130, .ifCond .lt 15, 133, 145, 0, 0), (133, .lload 4, 135, 0, 0, 0), (135, .lload 9, 137, 0, 0, 0), (137, .lload 7, 139, 0, 0, 0), (139, .lmul, 140, 0, 0, 0), (140, .ladd, 141, 0, 0, 0), (141, .lload 11, 143, 0, 0, 0), (143, .ladd, 144, 0, 0, 0), (144, .lreturn, 145, 0, 0, 0), (145, .lload 4, 147, 0, 0, 0), (147, .aload_n 0, 148, 0, 0, 0), (148, .getfield 73, 151, 6, 27, 0), (151, .bipush 21, 153, 0, 0, 0), (153, .iload_n 2, 154, 0, 0, 0), (154, .imul, 155, 0, 0, 0), (155, .iload 6, 157, 0, 0, 0), (157, .iadd, 158, 0, 0, 0), (158, .laload, 159, 0, 0, 0), (159, .lload 7, 161, 0, 0, 0), (161, .invokestatic 202, 164, 157, 2, 0), (164, .ladd, 165, 0, 0, 0)]
theorem oX7_innerTwo_1 : ∀ e ∈ tX7_innerTwo_1, zgood fRX7 cX7_innerTwo 13 false e = true := by decide +kernel
def tX7_innerTwo_2 : List zE := [(165, .lstore 4, 167, 0, 0, 0), (167, .iinc 6 1, 170, 0, 0, 0), (170, .goto (-162), 173, 8, 0, 0), (173, .ldc2_w 244, 176, 0, 0, -1), (176, .lreturn, 177, 0, 0, 0)]
theorem oX7_innerTwo_2 : ∀ e ∈ tX7_innerTwo_2, zgood fRX7 cX7_innerTwo 13 false e = true := by decide +kernel
def tX7_innerTwo : List zE := tX7_innerTwo_0 ++ (tX7_innerTwo_1 ++ (tX7_innerTwo_2))
theorem oX7_innerTwo : ∀ e ∈ tX7_innerTwo, zgood fRX7 cX7_innerTwo 13 false e = true := (zapp oX7_innerTwo_0 (zapp oX7_innerTwo_1 oX7_innerTwo_2))
def tX7_place : List zE := [(0, .iload_n 1, 1, 0, 0, 0), (1, .i2l, 2, 0, 0, 0), (2, .lconst 0, 3, 0, 0, 0), (3, .ldc2_w 220, 6, 0, 0, 8), (6, .invokestatic 88, 9, 121, 3, 0), (9, .ifCond .eq 11, 12, 20, 0, 0), (12, .aload_n 0, 13, 0, 0, 0), (13, .iload_n 2, 14, 0, 0, 0), (14, .invokevirtual 104, 17, 122, 1, 0), (17, .ifCond .ne 7, 20, 24, 0, 0), (20, .ldc2_w 244, 23, 0, 0, -1), (23, .lreturn, 24, 0, 0, 0), (24, .aload_n 0, 25, 0, 0, 0), (25, .iload_n 1, 26, 0, 0, 0), (26, .invokevirtual 222, 29, 163, 1, 0), (29, .lconst 0, 30, 0, 0, 0), (30, .lcmp, 31, 0, 0, 0), (31, .ifCond .ne 7, 34, 38, 0, 0), (34, .ldc2_w 255, 37, 0, 0, -2), (37, .lreturn, 38, 0, 0, 0), (38, .aload_n 0, 39, 0, 0, 0), (39, .iload_n 2, 40, 0, 0, 0), (40, .iconst 0, 41, 0, 0, 0), (41, .aload_n 0, 42, 0, 0, 0), (42, .getfield 184, 45, 6, 10, 0), (45, .invokevirtual 252, 48, 170, 3, 0), (48, .lstore_n 3, 49, 0, 0, 0), (49, .lload_n 3, 50, 0, 0, 0), (50, .lconst 0, 51, 0, 0, 0), (51, .lcmp, 52, 0, 0, 0), (52, .ifCond .ge 9, 55, 61, 0, 0), (55, .ldc2_w 255, 58, 0, 0, -2), (58, .goto 4, 61, 62, 0, 0), (61, .lload_n 3, 62, 0, 0, 0), (62, .lreturn, 63, 0, 0, 0)]
theorem oX7_place : ∀ e ∈ tX7_place, zgood fRX7 cX7_place 5 false e = true := by decide +kernel
def tX7_doubt_0 : List zE := [(0, .iload_n 1, 1, 0, 0, 0), (1, .i2l, 2, 0, 0, 0), (2, .lconst 0, 3, 0, 0, 0), (3, .ldc2_w 220, 6, 0, 0, 8), (6, .invokestatic 88, 9, 121, 3, 0), (9, .ifCond .eq 16, 12, 25, 0, 0), (12, .lload_n 2, 13, 0, 0, 0), (13, .lconst 0, 14, 0, 0, 0), (14, .lcmp, 15, 0, 0, 0), (15, .ifCond .lt 10, 18, 25, 0, 0), (18, .lload 4, 20, 0, 0, 0), (20, .lconst 0, 21, 0, 0, 0), (21, .lcmp, 22, 0, 0, 0), (22, .ifCond .ge 5, 25, 27, 0, 0), (25, .iconst (-1), 26, 0, 0, 0), (26, .ireturn, 27, 0, 0, 0), (27, .lload_n 2, 28, 0, 0, 0), (28, .lload 4, 30, 0, 0, 0), (30, .lcmp, 31, 0, 0, 0), (31, .ifCond .ne 16, 34, 47, 0, 0), (34, .lload_n 2, 35, 0, 0, 0), (35, .aload_n 0, 36, 0, 0, 0), (36, .iload_n 1, 37, 0, 0, 0), (37, .invokevirtual 222, 40, 163, 1, 0), (40, .lcmp, 41, 0, 0, 0), (41, .ifCond .ge 6, 44, 47, 0, 0), (44, .bipush (-2), 46, 0, 0, 0), (46, .ireturn, 47, 0, 0, 0), (47, .lload_n 2, 48, 0, 0, 0), (48, .aload_n 0, 49, 0, 0, 0), (49, .iload_n 1, 50, 0, 0, 0), (50, .invokevirtual 222, 53, 163, 1, 0), (53, .lcmp, 54, 0, 0, 0), (54, .ifCond .ge 14, 57, 68, 0, 0), (57, .lload 4, 59, 0, 0, 0), (59, .aload_n 0, 60, 0, 0, 0), (60, .iload_n 1, 61, 0, 0, 0), (61, .invokevirtual 222, 64, 163, 1, 0), (64, .lcmp, 65, 0, 0, 0), (65, .ifCond .lt 6, 68, 71, 0, 0), (68, .bipush (-4), 70, 0, 0, 0), (70, .ireturn, 71, 0, 0, 0), (71, .aload_n 0, 72, 0, 0, 0), (72, .iconst 0, 73, 0, 0, 0), (73, .putfield 226, 76, 6, 29, 0), (76, .aload_n 0, 77, 0, 0, 0), (77, .iconst 0, 78, 0, 0, 0), (78, .aload_n 0, 79, 0, 0, 0), (79, .getfield 184, 82, 6, 10, 0), (82, .lload_n 2, 83, 0, 0, 0)]
theorem oX7_doubt_0 : ∀ e ∈ tX7_doubt_0, zgood fRX7 cX7_doubt 11 false e = true := by decide +kernel
def tX7_doubt_1 : List zE := [(83, .invokevirtual 233, 86, 166, 3, 0), (86, .istore 6, 88, 0, 0, 0), (88, .aload_n 0, 89, 0, 0, 0), (89, .iconst 0, 90, 0, 0, 0), (90, .aload_n 0, 91, 0, 0, 0), (91, .getfield 184, 94, 6, 10, 0), (94, .lload 4, 96, 0, 0, 0), (96, .invokevirtual 233, 99, 166, 3, 0), (99, .istore 7, 101, 0, 0, 0), (101, .iconst 0, 102, 0, 0, 0), (102, .istore 8, 104, 0, 0, 0), (104, .iconst 1, 105, 0, 0, 0), (105, .istore 9, 107, 0, 0, 0), (107, .aload_n 0, 108, 0, 0, 0), (108, .getfield 7, 111, 6, 1, 0), (111, .iload 6, 113, 0, 0, 0), (113, .iaload, 114, 0, 0, 0), (114, .aload_n 0, 115, 0, 0, 0), (115, .getfield 7, 118, 6, 1, 0), (118, .iload 7, 120, 0, 0, 0), (120, .iaload, 121, 0, 0, 0), (121, .if_icmp .ne 124, 124, 245, 0, 0), (124, .aload_n 0, 125, 0, 0, 0), (125, .getfield 13, 128, 6, 2, 0), (128, .iload 6, 130, 0, 0, 0), (130, .iaload, 131, 0, 0, 0), (131, .aload_n 0, 132, 0, 0, 0), (132, .getfield 13, 135, 6, 2, 0), (135, .iload 7, 137, 0, 0, 0), (137, .iaload, 138, 0, 0, 0), (138, .if_icmp .ne 107, 141, 245, 0, 0), (141, .aload_n 0, 142, 0, 0, 0), (142, .aload_n 0, 143, 0, 0, 0), (143, .getfield 16, 146, 6, 3, 0), (146, .iload 6, 148, 0, 0, 0), (148, .iaload, 149, 0, 0, 0), (149, .aload_n 0, 150, 0, 0, 0), (150, .getfield 16, 153, 6, 3, 0), (153, .iload 7, 155, 0, 0, 0), (155, .iaload, 156, 0, 0, 0), (156, .invokevirtual 120, 159, 133, 2, 0), (159, .ifCond .ne 7, 162, 166, 0, 0), (162, .iconst 1, 163, 0, 0, 0), (163, .goto 4, 166, 167, 0, 0), (166, .iconst 0, 167, 0, 0, 0), (167, .istore 10, 169, 0, 0, 0), (169, .iload 8, 171, 0, 0, 0), (171, .iload 10, 173, 0, 0, 0), (173, .ifCond .eq 8, 176, 181, 0, 0), (176, .iload 9, 178, 0, 0, 0)]
theorem oX7_doubt_1 : ∀ e ∈ tX7_doubt_1, zgood fRX7 cX7_doubt 11 false e = true := by decide +kernel
def tX7_doubt_2 : List zE := [(178, .goto 7, 181, 185, 0, 0), (181, .iconst 2, 182, 0, 0, 0), (182, .iload 9, 184, 0, 0, 0), (184, .imul, 185, 0, 0, 0), (185, .iadd, 186, 0, 0, 0), (186, .istore 8, 188, 0, 0, 0), (188, .iload 9, 190, 0, 0, 0), (190, .iconst 3, 191, 0, 0, 0), (191, .imul, 192, 0, 0, 0), (192, .istore 9, 194, 0, 0, 0), (194, .iload 10, 196, 0, 0, 0), (196, .ifCond .eq 13, 199, 209, 0, 0), (199, .aload_n 0, 200, 0, 0, 0), (200, .getfield 16, 203, 6, 3, 0), (203, .iload 6, 205, 0, 0, 0), (205, .iaload, 206, 0, 0, 0), (206, .goto 10, 209, 216, 0, 0), (209, .aload_n 0, 210, 0, 0, 0), (210, .getfield 19, 213, 6, 4, 0), (213, .iload 6, 215, 0, 0, 0), (215, .iaload, 216, 0, 0, 0), (216, .istore 6, 218, 0, 0, 0), (218, .iload 10, 220, 0, 0, 0), (220, .ifCond .eq 13, 223, 233, 0, 0), (223, .aload_n 0, 224, 0, 0, 0), (224, .getfield 16, 227, 6, 3, 0), (227, .iload 7, 229, 0, 0, 0), (229, .iaload, 230, 0, 0, 0), (230, .goto 10, 233, 240, 0, 0), (233, .aload_n 0, 234, 0, 0, 0), (234, .getfield 19, 237, 6, 4, 0), (237, .iload 7, 239, 0, 0, 0), (239, .iaload, 240, 0, 0, 0), (240, .istore 7, 242, 0, 0, 0), (242, .goto (-135), 245, 107, 0, 0), (245, .iload 8, 247, 0, 0, 0), (247, .ireturn, 248, 0, 0, 0)]
theorem oX7_doubt_2 : ∀ e ∈ tX7_doubt_2, zgood fRX7 cX7_doubt 11 false e = true := by decide +kernel
def tX7_doubt : List zE := tX7_doubt_0 ++ (tX7_doubt_1 ++ (tX7_doubt_2))
theorem oX7_doubt : ∀ e ∈ tX7_doubt, zgood fRX7 cX7_doubt 11 false e = true := (zapp oX7_doubt_0 (zapp oX7_doubt_1 oX7_doubt_2))
def tX7_keepable : List zE := [(0, .iload_n 1, 1, 0, 0, 0), (1, .ifCond .ge 7, 4, 8, 0, 0), (4, .iconst 0, 5, 0, 0, 0), (5, .goto 42, 8, 47, 0, 0), (8, .aload_n 0, 9, 0, 0, 0), (9, .getfield 7, 12, 6, 1, 0), (12, .iload_n 1, 13, 0, 0, 0), (13, .iaload, 14, 0, 0, 0), (14, .invokestatic 131, 17, 124, 1, 0), (17, .ifCond .eq 7, 20, 24, 0, 0), (20, .iconst 1, 21, 0, 0, 0), (21, .goto 4, 24, 25, 0, 0), (24, .iconst 0, 25, 0, 0, 0), (25, .aload_n 0, 26, 0, 0, 0), (26, .aload_n 0, 27, 0, 0, 0), (27, .getfield 16, 30, 6, 3, 0), (30, .iload_n 1, 31, 0, 0, 0), (31, .iaload, 32, 0, 0, 0), (32, .invokevirtual 257, 35, 175, 1, 0), (35, .iadd, 36, 0, 0, 0), (36, .aload_n 0, 37, 0, 0, 0), (37, .aload_n 0, 38, 0, 0, 0), (38, .getfield 19, 41, 6, 4, 0), (41, .iload_n 1, 42, 0, 0, 0), (42, .iaload, 43, 0, 0, 0), (43, .invokevirtual 257, 46, 175, 1, 0), (46, .iadd, 47, 0, 0, 0), (47, .ireturn, 48, 0, 0, 0)]
theorem oX7_keepable : ∀ e ∈ tX7_keepable, zgood fRX7 cX7_keepable 2 false e = true := by decide +kernel
def tX7_bits : List zE := [(0, .iconst 0, 1, 0, 0, 0), (1, .istore_n 1, 2, 0, 0, 0), (2, .iconst 0, 3, 0, 0, 0), (3, .istore_n 2, 4, 0, 0, 0), (4, .iload_n 2, 5, 0, 0, 0), (5, .bipush 8, 7, 0, 0, 0), (7, .if_icmp .ge 17, 10, 24, 0, 0), (10, .iload_n 1, 11, 0, 0, 0), (11, .iload_n 0, 12, 0, 0, 0), (12, .iload_n 2, 13, 0, 0, 0), (13, .ishr, 14, 0, 0, 0), (14, .iconst 1, 15, 0, 0, 0), (15, .iand, 16, 0, 0, 0), (16, .iadd, 17, 0, 0, 0), (17, .istore_n 1, 18, 0, 0, 0), (18, .iinc 2 1, 21, 0, 0, 0), (21, .goto (-17), 24, 4, 0, 0), (24, .iload_n 1, 25, 0, 0, 0), (25, .ireturn, 26, 0, 0, 0)]
theorem oX7_bits : ∀ e ∈ tX7_bits, zgood fRX7 cX7_bits 3 false e = true := by decide +kernel
def tX7_fewest_0 : List zE := [(0, .aload_n 0, 1, 0, 0, 0), (1, .iload_n 1, 2, 0, 0, 0), (2, .invokevirtual 104, 5, 122, 1, 0), (5, .ifCond .ne 5, 8, 10, 0, 0), (8, .iconst (-1), 9, 0, 0, 0), (9, .ireturn, 10, 0, 0, 0), (10, .aload_n 0, 11, 0, 0, 0), (11, .iload_n 1, 12, 0, 0, 0), (12, .invokevirtual 257, 15, 175, 1, 0), (15, .istore_n 2, 16, 0, 0, 0), (16, .aload_n 0, 17, 0, 0, 0), (17, .iload_n 1, 18, 0, 0, 0), (18, .invokevirtual 115, 21, 131, 1, 0), (21, .ifCond .eq 9, 24, 30, 0, 0), (24, .iload_n 2, 25, 0, 0, 0), (25, .bipush 8, 27, 0, 0, 0), (27, .if_icmp .le 19, 30, 46, 0, 0), (30, .aload_n 0, 31, 0, 0, 0), (31, .iload_n 1, 32, 0, 0, 0), (32, .invokevirtual 115, 35, 131, 1, 0), (35, .ifCond .eq 8, 38, 43, 0, 0), (38, .bipush (-5), 40, 0, 0, 0), (40, .goto 5, 43, 45, 0, 0), (43, .bipush (-3), 45, 0, 0, 0), (45, .ireturn, 46, 0, 0, 0), (46, .aload_n 0, 47, 0, 0, 0), (47, .getfield 184, 50, 6, 10, 0), (50, .istore_n 3, 51, 0, 0, 0), (51, .iconst 0, 52, 0, 0, 0), (52, .istore 4, 54, 0, 0, 0), (54, .iload 4, 56, 0, 0, 0), (56, .iload_n 3, 57, 0, 0, 0), (57, .if_icmp .ge 23, 60, 80, 0, 0), (60, .aload_n 0, 61, 0, 0, 0), (61, .getfield 60, 64, 6, 22, 0), (64, .iload 4, 66, 0, 0, 0), (66, .aload_n 0, 67, 0, 0, 0), (67, .getfield 35, 70, 6, 9, 0), (70, .iload 4, 72, 0, 0, 0), (72, .iaload, 73, 0, 0, 0), (73, .iastore, 74, 0, 0, 0), (74, .iinc 4 1, 77, 0, 0, 0), (77, .goto (-23), 80, 54, 0, 0), (80, .iconst 0, 81, 0, 0, 0), (81, .istore 4, 83, 0, 0, 0), (83, .iload 4, 85, 0, 0, 0), (85, .iload_n 2, 86, 0, 0, 0), (86, .if_icmp .gt 52, 89, 138, 0, 0), (89, .iconst 0, 90, 0, 0, 0), (90, .istore 5, 92, 0, 0, 0)]
theorem oX7_fewest_0 : ∀ e ∈ tX7_fewest_0, zgood fRX7 cX7_fewest 6 false e = true := by decide +kernel
def tX7_fewest_1 : List zE := [(92, .iload 5, 94, 0, 0, 0), (94, .iconst 1, 95, 0, 0, 0), (95, .iload_n 2, 96, 0, 0, 0), (96, .ishl, 97, 0, 0, 0), (97, .if_icmp .ge 35, 100, 132, 0, 0), (100, .iload 5, 102, 0, 0, 0), (102, .invokestatic 260, 105, 176, 1, 0), (105, .iload 4, 107, 0, 0, 0), (107, .if_icmp .ne 19, 110, 126, 0, 0), (110, .aload_n 0, 111, 0, 0, 0), (111, .iload_n 1, 112, 0, 0, 0), (112, .iload 5, 114, 0, 0, 0), (114, .iload_n 2, 115, 0, 0, 0), (115, .invokevirtual 263, 118, 178, 3, 0), (118, .ifCond .eq 8, 121, 126, 0, 0), (121, .aload_n 0, 122, 0, 0, 0), (122, .getfield 184, 125, 6, 10, 0), (125, .ireturn, 126, 0, 0, 0), (126, .iinc 5 1, 129, 0, 0, 0), (129, .goto (-37), 132, 92, 0, 0), (132, .iinc 4 1, 135, 0, 0, 0), (135, .goto (-52), 138, 83, 0, 0), (138, .iconst 0, 139, 0, 0, 0), (139, .istore 4, 141, 0, 0, 0), (141, .iload 4, 143, 0, 0, 0), (143, .iload_n 3, 144, 0, 0, 0), (144, .if_icmp .ge 23, 147, 167, 0, 0), (147, .aload_n 0, 148, 0, 0, 0), (148, .getfield 35, 151, 6, 9, 0), (151, .iload 4, 153, 0, 0, 0), (153, .aload_n 0, 154, 0, 0, 0), (154, .getfield 60, 157, 6, 22, 0), (157, .iload 4, 159, 0, 0, 0), (159, .iaload, 160, 0, 0, 0), (160, .iastore, 161, 0, 0, 0), (161, .iinc 4 1, 164, 0, 0, 0), (164, .goto (-23), 167, 141, 0, 0), (167, .aload_n 0, 168, 0, 0, 0), (168, .iload_n 3, 169, 0, 0, 0), (169, .putfield 184, 172, 6, 10, 0), (172, .bipush (-2), 174, 0, 0, 0), (174, .ireturn, 175, 0, 0, 0)]
theorem oX7_fewest_1 : ∀ e ∈ tX7_fewest_1, zgood fRX7 cX7_fewest 6 false e = true := by decide +kernel
def tX7_fewest : List zE := tX7_fewest_0 ++ (tX7_fewest_1)
theorem oX7_fewest : ∀ e ∈ tX7_fewest, zgood fRX7 cX7_fewest 6 false e = true := (zapp oX7_fewest_0 oX7_fewest_1)
def tX7_isOnly : List zE := [(0, .aload_n 0, 1, 0, 0, 0), (1, .iconst 0, 2, 0, 0, 0), (2, .putfield 144, 5, 6, 18, 0), (5, .aload_n 0, 6, 0, 0, 0), (6, .iload_n 2, 7, 0, 0, 0), (7, .putfield 56, 10, 6, 19, 0), (10, .aload_n 0, 11, 0, 0, 0), (11, .iconst 0, 12, 0, 0, 0), (12, .putfield 147, 15, 6, 20, 0), (15, .aload_n 0, 16, 0, 0, 0), (16, .iload_n 3, 17, 0, 0, 0), (17, .putfield 150, 20, 6, 21, 0), (20, .aload_n 0, 21, 0, 0, 0), (21, .iconst 0, 22, 0, 0, 0), (22, .iload_n 1, 23, 0, 0, 0), (23, .invokevirtual 160, 26, 143, 2, 0), (26, .aload_n 0, 27, 0, 0, 0), (27, .iconst (-1), 28, 0, 0, 0), (28, .putfield 56, 31, 6, 19, 0), (31, .aload_n 0, 32, 0, 0, 0), (32, .getfield 144, 35, 6, 18, 0), (35, .bipush 20, 37, 0, 0, 0), (37, .if_icmp .le 5, 40, 42, 0, 0), (40, .iconst 0, 41, 0, 0, 0), (41, .ireturn, 42, 0, 0, 0), (42, .aload_n 0, 43, 0, 0, 0), (43, .invokevirtual 187, 46, 154, 0, 0), (46, .aload_n 0, 47, 0, 0, 0), (47, .bipush 8, 49, 0, 0, 0), (49, .invokevirtual 222, 52, 163, 1, 0), (52, .lconst 1, 53, 0, 0, 0), (53, .lcmp, 54, 0, 0, 0), (54, .ifCond .ne 7, 57, 61, 0, 0), (57, .iconst 1, 58, 0, 0, 0), (58, .goto 4, 61, 62, 0, 0), (61, .iconst 0, 62, 0, 0, 0), (62, .ireturn, 63, 0, 0, 0)]
theorem oX7_isOnly : ∀ e ∈ tX7_isOnly, zgood fRX7 cX7_isOnly 4 false e = true := by decide +kernel
def tX7_walk : List zE := [(0, .aload_n 0, 1, 0, 0, 0), (1, .iload_n 1, 2, 0, 0, 0), (2, .invokevirtual 104, 5, 122, 1, 0), (5, .ifCond .ne 5, 8, 10, 0, 0), (8, .iconst (-1), 9, 0, 0, 0), (9, .ireturn, 10, 0, 0, 0), (10, .aload_n 0, 11, 0, 0, 0), (11, .iconst 1, 12, 0, 0, 0), (12, .putfield 111, 15, 6, 30, 0), (15, .aload_n 0, 16, 0, 0, 0), (16, .getfield 76, 19, 6, 31, 0), (19, .iconst 0, 20, 0, 0, 0), (20, .iload_n 1, 21, 0, 0, 0), (21, .iastore, 22, 0, 0, 0), (22, .aload_n 0, 23, 0, 0, 0), (23, .iconst 0, 24, 0, 0, 0), (24, .putfield 267, 27, 6, 33, 0), (27, .iconst 0, 28, 0, 0, 0), (28, .ireturn, 29, 0, 0, 0)]
theorem oX7_walk : ∀ e ∈ tX7_walk, zgood fRX7 cX7_walk 2 false e = true := by decide +kernel
def tX7_down : List zE := [(0, .iload_n 1, 1, 0, 0, 0), (1, .ifCond .ne 20, 4, 21, 0, 0), (4, .aload_n 0, 5, 0, 0, 0), (5, .getfield 16, 8, 6, 3, 0), (8, .aload_n 0, 9, 0, 0, 0), (9, .getfield 76, 12, 6, 31, 0), (12, .aload_n 0, 13, 0, 0, 0), (13, .getfield 267, 16, 6, 33, 0), (16, .iaload, 17, 0, 0, 0), (17, .iaload, 18, 0, 0, 0), (18, .goto 17, 21, 35, 0, 0), (21, .aload_n 0, 22, 0, 0, 0), (22, .getfield 19, 25, 6, 4, 0), (25, .aload_n 0, 26, 0, 0, 0), (26, .getfield 76, 29, 6, 31, 0), (29, .aload_n 0, 30, 0, 0, 0), (30, .getfield 267, 33, 6, 33, 0), (33, .iaload, 34, 0, 0, 0), (34, .iaload, 35, 0, 0, 0), (35, .istore_n 2, 36, 0, 0, 0), (36, .iload_n 2, 37, 0, 0, 0), (37, .ifCond .lt 37, 40, 74, 0, 0), (40, .aload_n 0, 41, 0, 0, 0), (41, .getfield 76, 44, 6, 31, 0), (44, .aload_n 0, 45, 0, 0, 0), (45, .getfield 267, 48, 6, 33, 0), (48, .iconst 1, 49, 0, 0, 0), (49, .iadd, 50, 0, 0, 0), (50, .iload_n 2, 51, 0, 0, 0), (51, .iastore, 52, 0, 0, 0), (52, .aload_n 0, 53, 0, 0, 0), (53, .getfield 79, 56, 6, 32, 0), (56, .aload_n 0, 57, 0, 0, 0), (57, .getfield 267, 60, 6, 33, 0), (60, .iconst 1, 61, 0, 0, 0), (61, .iadd, 62, 0, 0, 0), (62, .iload_n 1, 63, 0, 0, 0), (63, .iastore, 64, 0, 0, 0), (64, .aload_n 0, 65, 0, 0, 0), (65, .dup, 66, 0, 0, 0), (66, .getfield 267, 69, 6, 33, 0), (69, .iconst 1, 70, 0, 0, 0), (70, .iadd, 71, 0, 0, 0), (71, .putfield 267, 74, 6, 33, 0), (74, .iload_n 2, 75, 0, 0, 0), (75, .ifCond .lt 7, 78, 82, 0, 0), (78, .iconst 1, 79, 0, 0, 0), (79, .goto 4, 82, 83, 0, 0), (82, .iconst 0, 83, 0, 0, 0), (83, .ireturn, 84, 0, 0, 0)]
theorem oX7_down : ∀ e ∈ tX7_down, zgood fRX7 cX7_down 3 false e = true := by decide +kernel
def tX7_go_0 : List zE := [(0, .iload_n 1, 1, 0, 0, 0), (1, .i2l, 2, 0, 0, 0), (2, .lconst 0, 3, 0, 0, 0), (3, .ldc2_w 270, 6, 0, 0, 3), (6, .invokestatic 88, 9, 121, 3, 0), (9, .ifCond .ne 5, 12, 14, 0, 0), (12, .iconst (-1), 13, 0, 0, 0), (13, .ireturn, 14, 0, 0, 0), (14, .aload_n 0, 15, 0, 0, 0), (15, .getfield 111, 18, 6, 30, 0), (18, .ifCond .ne 6, 21, 24, 0, 0), (21, .bipush (-2), 23, 0, 0, 0), (23, .ireturn, 24, 0, 0, 0), (24, .iload_n 1, 25, 0, 0, 0), (25, .iconst 2, 26, 0, 0, 0), (26, .if_icmp .ge 26, 29, 52, 0, 0), (29, .aload_n 0, 30, 0, 0, 0), (30, .iload_n 1, 31, 0, 0, 0), (31, .invokevirtual 272, 34, 180, 1, 0), (34, .ifCond .eq 15, 37, 49, 0, 0), (37, .aload_n 0, 38, 0, 0, 0), (38, .getfield 76, 41, 6, 31, 0), (41, .aload_n 0, 42, 0, 0, 0), (42, .getfield 267, 45, 6, 33, 0), (45, .iaload, 46, 0, 0, 0), (46, .goto 5, 49, 51, 0, 0), (49, .bipush (-3), 51, 0, 0, 0), (51, .ireturn, 52, 0, 0, 0), (52, .aload_n 0, 53, 0, 0, 0), (53, .getfield 267, 56, 6, 33, 0), (56, .ifCond .eq 27, 59, 83, 0, 0), (59, .iload_n 1, 60, 0, 0, 0), (60, .iconst 3, 61, 0, 0, 0), (61, .if_icmp .ne 25, 64, 86, 0, 0), (64, .aload_n 0, 65, 0, 0, 0), (65, .getfield 19, 68, 6, 4, 0), (68, .aload_n 0, 69, 0, 0, 0), (69, .getfield 76, 72, 6, 31, 0), (72, .aload_n 0, 73, 0, 0, 0), (73, .getfield 267, 76, 6, 33, 0), (76, .iconst 1, 77, 0, 0, 0), (77, .isub, 78, 0, 0, 0), (78, .iaload, 79, 0, 0, 0), (79, .iaload, 80, 0, 0, 0), (80, .ifCond .ge 6, 83, 86, 0, 0), (83, .bipush (-3), 85, 0, 0, 0), (85, .ireturn, 86, 0, 0, 0), (86, .aload_n 0, 87, 0, 0, 0), (87, .dup, 88, 0, 0, 0), (88, .getfield 267, 91, 6, 33, 0)]
theorem oX7_go_0 : ∀ e ∈ tX7_go_0, zgood fRX7 cX7_go 3 false e = true := by decide +kernel
def tX7_go_1 : List zE := [(91, .iconst 1, 92, 0, 0, 0), (92, .isub, 93, 0, 0, 0), (93, .putfield 267, 96, 6, 33, 0), (96, .iload_n 1, 97, 0, 0, 0), (97, .iconst 3, 98, 0, 0, 0), (98, .if_icmp .ne 21, 101, 119, 0, 0), (101, .aload_n 0, 102, 0, 0, 0), (102, .iconst 1, 103, 0, 0, 0), (103, .aload_n 0, 104, 0, 0, 0), (104, .getfield 79, 107, 6, 32, 0), (107, .aload_n 0, 108, 0, 0, 0), (108, .getfield 267, 111, 6, 33, 0), (111, .iconst 1, 112, 0, 0, 0), (112, .iadd, 113, 0, 0, 0), (113, .iaload, 114, 0, 0, 0), (114, .isub, 115, 0, 0, 0), (115, .invokevirtual 272, 118, 180, 1, 0), (118, .istore_n 2, 119, 0, 0, 0), (119, .aload_n 0, 120, 0, 0, 0), (120, .getfield 76, 123, 6, 31, 0), (123, .aload_n 0, 124, 0, 0, 0), (124, .getfield 267, 127, 6, 33, 0), (127, .iaload, 128, 0, 0, 0), (128, .ireturn, 129, 0, 0, 0)]
theorem oX7_go_1 : ∀ e ∈ tX7_go_1, zgood fRX7 cX7_go 3 false e = true := by decide +kernel
def tX7_go : List zE := tX7_go_0 ++ (tX7_go_1)
theorem oX7_go : ∀ e ∈ tX7_go, zgood fRX7 cX7_go 3 false e = true := (zapp oX7_go_0 oX7_go_1)
def tX7_where_0 : List zE := [(0, .aload_n 0, 1, 0, 0, 0), (1, .iconst 0, 2, 0, 0, 0), (2, .putfield 82, 5, 6, 16, 0), (5, .iload_n 1, 6, 0, 0, 0), (6, .i2l, 7, 0, 0, 0), (7, .lconst 0, 8, 0, 0, 0), (8, .ldc2_w 102, 11, 0, 0, 2), (11, .invokestatic 88, 14, 121, 3, 0), (14, .ifCond .ne 5, 17, 19, 0, 0), (17, .iconst (-1), 18, 0, 0, 0), (18, .ireturn, 19, 0, 0, 0), (19, .aload_n 0, 20, 0, 0, 0), (20, .getfield 111, 23, 6, 30, 0), (23, .ifCond .ne 6, 26, 29, 0, 0), (26, .bipush (-2), 28, 0, 0, 0), (28, .ireturn, 29, 0, 0, 0), (29, .iload_n 1, 30, 0, 0, 0), (30, .ifCond .le 25, 33, 55, 0, 0), (33, .iload_n 1, 34, 0, 0, 0), (34, .iconst 1, 35, 0, 0, 0), (35, .if_icmp .ne 10, 38, 45, 0, 0), (38, .aload_n 0, 39, 0, 0, 0), (39, .getfield 267, 42, 6, 33, 0), (42, .goto 12, 45, 54, 0, 0), (45, .aload_n 0, 46, 0, 0, 0), (46, .getfield 76, 49, 6, 31, 0), (49, .aload_n 0, 50, 0, 0, 0), (50, .getfield 267, 53, 6, 33, 0), (53, .iaload, 54, 0, 0, 0), (54, .ireturn, 55, 0, 0, 0), (55, .aload_n 0, 56, 0, 0, 0), (56, .getfield 267, 59, 6, 33, 0), (59, .bipush 19, 61, 0, 0, 0), (61, .if_icmp .le 10, 64, 71, 0, 0), (64, .aload_n 0, 65, 0, 0, 0), (65, .iconst 1, 66, 0, 0, 0), (66, .putfield 82, 69, 6, 16, 0), (69, .iconst 0, 70, 0, 0, 0), (70, .ireturn, 71, 0, 0, 0), (71, .iconst 0, 72, 0, 0, 0), (72, .istore_n 2, 73, 0, 0, 0), (73, .aload_n 0, 74, 0, 0, 0), (74, .getfield 267, 77, 6, 33, 0), (77, .istore_n 3, 78, 0, 0, 0), (78, .iload_n 3, 79, 0, 0, 0), (79, .ifCond .le 22, 82, 101, 0, 0), (82, .iconst 3, 83, 0, 0, 0), (83, .iload_n 2, 84, 0, 0, 0), (84, .imul, 85, 0, 0, 0), (85, .aload_n 0, 86, 0, 0, 0)]
theorem oX7_where_0 : ∀ e ∈ tX7_where_0, zgood fRX7 cX7_where 4 false e = true := by decide +kernel
def tX7_where_1 : List zE := [(86, .getfield 79, 89, 6, 32, 0), (89, .iload_n 3, 90, 0, 0, 0), (90, .iaload, 91, 0, 0, 0), (91, .iadd, 92, 0, 0, 0), (92, .iconst 1, 93, 0, 0, 0), (93, .iadd, 94, 0, 0, 0), (94, .istore_n 2, 95, 0, 0, 0), (95, .iinc 3 (-1), 98, 0, 0, 0), (98, .goto (-20), 101, 78, 0, 0), (101, .iload_n 2, 102, 0, 0, 0), (102, .ireturn, 103, 0, 0, 0)]
theorem oX7_where_1 : ∀ e ∈ tX7_where_1, zgood fRX7 cX7_where 4 false e = true := by decide +kernel
def tX7_where : List zE := tX7_where_0 ++ (tX7_where_1)
theorem oX7_where : ∀ e ∈ tX7_where, zgood fRX7 cX7_where 4 false e = true := (zapp oX7_where_0 oX7_where_1)
def tX7_lead_0 : List zE := [(0, .aload_n 0, 1, 0, 0, 0), (1, .getfield 111, 4, 6, 30, 0), (4, .ifCond .ne 6, 7, 10, 0, 0), (7, .bipush (-2), 9, 0, 0, 0), (9, .ireturn, 10, 0, 0, 0), (10, .aload_n 0, 11, 0, 0, 0), (11, .getfield 76, 14, 6, 31, 0), (14, .iconst 0, 15, 0, 0, 0), (15, .iaload, 16, 0, 0, 0), (16, .istore_n 2, 17, 0, 0, 0), (17, .iload_n 1, 18, 0, 0, 0), (18, .istore_n 3, 19, 0, 0, 0), (19, .iload_n 2, 20, 0, 0, 0), (20, .ifCond .lt 49, 23, 69, 0, 0), (23, .iload_n 3, 24, 0, 0, 0), (24, .ifCond .le 45, 27, 69, 0, 0), (27, .iload_n 3, 28, 0, 0, 0), (28, .iconst 3, 29, 0, 0, 0), (29, .irem, 30, 0, 0, 0), (30, .iconst 1, 31, 0, 0, 0), (31, .if_icmp .ne 12, 34, 43, 0, 0), (34, .aload_n 0, 35, 0, 0, 0), (35, .getfield 16, 38, 6, 3, 0), (38, .iload_n 2, 39, 0, 0, 0), (39, .iaload, 40, 0, 0, 0), (40, .goto 21, 43, 61, 0, 0), (43, .iload_n 3, 44, 0, 0, 0), (44, .iconst 3, 45, 0, 0, 0), (45, .irem, 46, 0, 0, 0), (46, .iconst 2, 47, 0, 0, 0), (47, .if_icmp .ne 12, 50, 59, 0, 0), (50, .aload_n 0, 51, 0, 0, 0), (51, .getfield 19, 54, 6, 4, 0), (54, .iload_n 2, 55, 0, 0, 0), (55, .iaload, 56, 0, 0, 0), (56, .goto 5, 59, 61, 0, 0), (59, .bipush (-2), 61, 0, 0, 0), (61, .istore_n 2, 62, 0, 0, 0), (62, .iload_n 3, 63, 0, 0, 0), (63, .iconst 3, 64, 0, 0, 0), (64, .idiv, 65, 0, 0, 0), (65, .istore_n 3, 66, 0, 0, 0), (66, .goto (-47), 69, 19, 0, 0), (69, .iload_n 2, 70, 0, 0, 0), (70, .ifCond .lt 7, 73, 77, 0, 0), (73, .iload_n 3, 74, 0, 0, 0), (74, .ifCond .ge 5, 77, 79, 0, 0), (77, .iconst (-1), 78, 0, 0, 0), (78, .ireturn, 79, 0, 0, 0), (79, .aload_n 0, 80, 0, 0, 0)]
theorem oX7_lead_0 : ∀ e ∈ tX7_lead_0, zgood fRX7 cX7_lead 6 false e = true := by decide +kernel
def tX7_lead_1 : List zE := [(80, .iconst 0, 81, 0, 0, 0), (81, .putfield 267, 84, 6, 33, 0), (84, .iload_n 1, 85, 0, 0, 0), (85, .istore 4, 87, 0, 0, 0), (87, .iload 4, 89, 0, 0, 0), (89, .ifCond .le 24, 92, 113, 0, 0), (92, .aload_n 0, 93, 0, 0, 0), (93, .iload 4, 95, 0, 0, 0), (95, .iconst 3, 96, 0, 0, 0), (96, .irem, 97, 0, 0, 0), (97, .iconst 1, 98, 0, 0, 0), (98, .isub, 99, 0, 0, 0), (99, .invokevirtual 272, 102, 180, 1, 0), (102, .istore 5, 104, 0, 0, 0), (104, .iload 4, 106, 0, 0, 0), (106, .iconst 3, 107, 0, 0, 0), (107, .idiv, 108, 0, 0, 0), (108, .istore 4, 110, 0, 0, 0), (110, .goto (-23), 113, 87, 0, 0), (113, .aload_n 0, 114, 0, 0, 0), (114, .getfield 76, 117, 6, 31, 0), (117, .aload_n 0, 118, 0, 0, 0), (118, .getfield 267, 121, 6, 33, 0), (121, .iaload, 122, 0, 0, 0), (122, .ireturn, 123, 0, 0, 0)]
theorem oX7_lead_1 : ∀ e ∈ tX7_lead_1, zgood fRX7 cX7_lead 6 false e = true := by decide +kernel
def tX7_lead : List zE := tX7_lead_0 ++ (tX7_lead_1)
theorem oX7_lead : ∀ e ∈ tX7_lead, zgood fRX7 cX7_lead 6 false e = true := (zapp oX7_lead_0 oX7_lead_1)
def tX7_glanced : List zE := [(0, .iload_n 2, 1, 0, 0, 0), (1, .ifCond .ge 5, 4, 6, 0, 0), (4, .iconst 0, 5, 0, 0, 0), (5, .ireturn, 6, 0, 0, 0), (6, .iload_n 3, 7, 0, 0, 0), (7, .ifCond .ge 5, 10, 12, 0, 0), (10, .iconst 1, 11, 0, 0, 0), (11, .ireturn, 12, 0, 0, 0), (12, .aload_n 0, 13, 0, 0, 0), (13, .iload_n 2, 14, 0, 0, 0), (14, .invokevirtual 138, 17, 139, 1, 0), (17, .aload_n 0, 18, 0, 0, 0), (18, .getfield 32, 21, 6, 8, 0), (21, .bipush 10, 23, 0, 0, 0), (23, .iload_n 1, 24, 0, 0, 0), (24, .imul, 25, 0, 0, 0), (25, .aload_n 0, 26, 0, 0, 0), (26, .getfield 7, 29, 6, 1, 0), (29, .iload_n 2, 30, 0, 0, 0), (30, .iaload, 31, 0, 0, 0), (31, .iadd, 32, 0, 0, 0), (32, .baload, 33, 0, 0, 0), (33, .ifCond .eq 7, 36, 40, 0, 0), (36, .iconst 2, 37, 0, 0, 0), (37, .goto 4, 40, 41, 0, 0), (40, .iconst 0, 41, 0, 0, 0), (41, .iadd, 42, 0, 0, 0), (42, .aload_n 0, 43, 0, 0, 0), (43, .iload_n 1, 44, 0, 0, 0), (44, .aload_n 0, 45, 0, 0, 0), (45, .getfield 16, 48, 6, 3, 0), (48, .iload_n 2, 49, 0, 0, 0), (49, .iaload, 50, 0, 0, 0), (50, .iload_n 3, 51, 0, 0, 0), (51, .iconst 1, 52, 0, 0, 0), (52, .isub, 53, 0, 0, 0), (53, .invokevirtual 275, 56, 184, 3, 0), (56, .iadd, 57, 0, 0, 0), (57, .aload_n 0, 58, 0, 0, 0), (58, .iload_n 1, 59, 0, 0, 0), (59, .aload_n 0, 60, 0, 0, 0), (60, .getfield 19, 63, 6, 4, 0), (63, .iload_n 2, 64, 0, 0, 0), (64, .iaload, 65, 0, 0, 0), (65, .iload_n 3, 66, 0, 0, 0), (66, .iconst 1, 67, 0, 0, 0), (67, .isub, 68, 0, 0, 0), (68, .invokevirtual 275, 71, 184, 3, 0), (71, .iadd, 72, 0, 0, 0), (72, .ireturn, 73, 0, 0, 0)]
theorem oX7_glanced : ∀ e ∈ tX7_glanced, zgood fRX7 cX7_glanced 4 false e = true := by decide +kernel
def tX7_glance : List zE := [(0, .iload_n 1, 1, 0, 0, 0), (1, .invokestatic 128, 4, 125, 1, 0), (4, .ifCond .eq 15, 7, 19, 0, 0), (7, .iload_n 2, 8, 0, 0, 0), (8, .i2l, 9, 0, 0, 0), (9, .lconst 0, 10, 0, 0, 0), (10, .ldc2_w 94, 13, 0, 0, 9), (13, .invokestatic 88, 16, 121, 3, 0), (16, .ifCond .ne 5, 19, 21, 0, 0), (19, .iconst (-1), 20, 0, 0, 0), (20, .ireturn, 21, 0, 0, 0), (21, .aload_n 0, 22, 0, 0, 0), (22, .getfield 111, 25, 6, 30, 0), (25, .ifCond .ne 6, 28, 31, 0, 0), (28, .bipush (-2), 30, 0, 0, 0), (30, .ireturn, 31, 0, 0, 0), (31, .aload_n 0, 32, 0, 0, 0), (32, .iload_n 1, 33, 0, 0, 0), (33, .aload_n 0, 34, 0, 0, 0), (34, .getfield 76, 37, 6, 31, 0), (37, .aload_n 0, 38, 0, 0, 0), (38, .getfield 267, 41, 6, 33, 0), (41, .iaload, 42, 0, 0, 0), (42, .iload_n 2, 43, 0, 0, 0), (43, .invokevirtual 275, 46, 184, 3, 0), (46, .istore_n 3, 47, 0, 0, 0), (47, .iload_n 3, 48, 0, 0, 0), (48, .bipush 80, 50, 0, 0, 0), (50, .if_icmp .le 8, 53, 58, 0, 0), (53, .bipush (-5), 55, 0, 0, 0), (55, .goto 4, 58, 59, 0, 0), (58, .iload_n 3, 59, 0, 0, 0), (59, .ireturn, 60, 0, 0, 0)]
theorem oX7_glance : ∀ e ∈ tX7_glance, zgood fRX7 cX7_glance 4 false e = true := by decide +kernel
def tX7_inside_0 : List zE := [(0, .aload_n 0, 1, 0, 0, 0), (1, .getfield 13, 4, 6, 2, 0), (4, .iload_n 1, 5, 0, 0, 0), (5, .iaload, 6, 0, 0, 0), (6, .aload_n 0, 7, 0, 0, 0), (7, .getfield 13, 10, 6, 2, 0), (10, .iload_n 2, 11, 0, 0, 0), (11, .iaload, 12, 0, 0, 0), (12, .if_icmp .eq 7, 15, 19, 0, 0), (15, .iconst 1, 16, 0, 0, 0), (16, .goto 4, 19, 20, 0, 0), (19, .iconst 0, 20, 0, 0, 0), (20, .istore_n 3, 21, 0, 0, 0), (21, .iload_n 3, 22, 0, 0, 0), (22, .aload_n 0, 23, 0, 0, 0), (23, .getfield 16, 26, 6, 3, 0), (26, .iload_n 1, 27, 0, 0, 0), (27, .iaload, 28, 0, 0, 0), (28, .ifCond .ge 7, 31, 35, 0, 0), (31, .iconst 0, 32, 0, 0, 0), (32, .goto 19, 35, 51, 0, 0), (35, .aload_n 0, 36, 0, 0, 0), (36, .aload_n 0, 37, 0, 0, 0), (37, .getfield 16, 40, 6, 3, 0), (40, .iload_n 1, 41, 0, 0, 0), (41, .iaload, 42, 0, 0, 0), (42, .aload_n 0, 43, 0, 0, 0), (43, .getfield 16, 46, 6, 3, 0), (46, .iload_n 2, 47, 0, 0, 0), (47, .iaload, 48, 0, 0, 0), (48, .invokevirtual 279, 51, 187, 2, 0), (51, .iadd, 52, 0, 0, 0), (52, .aload_n 0, 53, 0, 0, 0), (53, .getfield 19, 56, 6, 4, 0), (56, .iload_n 1, 57, 0, 0, 0), (57, .iaload, 58, 0, 0, 0), (58, .ifCond .ge 7, 61, 65, 0, 0), (61, .iconst 0, 62, 0, 0, 0), (62, .goto 19, 65, 81, 0, 0), (65, .aload_n 0, 66, 0, 0, 0), (66, .aload_n 0, 67, 0, 0, 0), (67, .getfield 19, 70, 6, 4, 0), (70, .iload_n 1, 71, 0, 0, 0), (71, .iaload, 72, 0, 0, 0), (72, .aload_n 0, 73, 0, 0, 0), (73, .getfield 19, 76, 6, 4, 0), (76, .iload_n 2, 77, 0, 0, 0), (77, .iaload, 78, 0, 0, 0), (78, .invokevirtual 279, 81, 187, 2, 0), (81, .iadd, 82, 0, 0, 0)]
theorem oX7_inside_0 : ∀ e ∈ tX7_inside_0, zgood fRX7 cX7_inside 4 false e = true := by decide +kernel
def tX7_inside_1 : List zE := [(82, .ireturn, 83, 0, 0, 0)]
theorem oX7_inside_1 : ∀ e ∈ tX7_inside_1, zgood fRX7 cX7_inside 4 false e = true := by decide +kernel
def tX7_inside : List zE := tX7_inside_0 ++ (tX7_inside_1)
theorem oX7_inside : ∀ e ∈ tX7_inside, zgood fRX7 cX7_inside 4 false e = true := (zapp oX7_inside_0 oX7_inside_1)
def tX7_difference : List zE := [(0, .aload_n 0, 1, 0, 0, 0), (1, .getfield 22, 4, 6, 5, 0), (4, .iload_n 1, 5, 0, 0, 0), (5, .iaload, 6, 0, 0, 0), (6, .aload_n 0, 7, 0, 0, 0), (7, .getfield 22, 10, 6, 5, 0), (10, .iload_n 2, 11, 0, 0, 0), (11, .iaload, 12, 0, 0, 0), (12, .iadd, 13, 0, 0, 0), (13, .istore_n 3, 14, 0, 0, 0), (14, .aload_n 0, 15, 0, 0, 0), (15, .getfield 7, 18, 6, 1, 0), (18, .iload_n 1, 19, 0, 0, 0), (19, .iaload, 20, 0, 0, 0), (20, .aload_n 0, 21, 0, 0, 0), (21, .getfield 7, 24, 6, 1, 0), (24, .iload_n 2, 25, 0, 0, 0), (25, .iaload, 26, 0, 0, 0), (26, .if_icmp .ne 12, 29, 38, 0, 0), (29, .aload_n 0, 30, 0, 0, 0), (30, .iload_n 1, 31, 0, 0, 0), (31, .iload_n 2, 32, 0, 0, 0), (32, .invokevirtual 282, 35, 186, 2, 0), (35, .goto 4, 38, 39, 0, 0), (38, .iload_n 3, 39, 0, 0, 0), (39, .istore 4, 41, 0, 0, 0), (41, .iload 4, 43, 0, 0, 0), (43, .iload_n 3, 44, 0, 0, 0), (44, .if_icmp .ge 8, 47, 52, 0, 0), (47, .iload 4, 49, 0, 0, 0), (49, .goto 4, 52, 53, 0, 0), (52, .iload_n 3, 53, 0, 0, 0), (53, .ireturn, 54, 0, 0, 0)]
theorem oX7_difference : ∀ e ∈ tX7_difference, zgood fRX7 cX7_difference 5 false e = true := by decide +kernel
def tX7_wholes_0 : List zE := [(0, .aload_n 0, 1, 0, 0, 0), (1, .getfield 7, 4, 6, 1, 0), (4, .iload_n 1, 5, 0, 0, 0), (5, .iaload, 6, 0, 0, 0), (6, .aload_n 0, 7, 0, 0, 0), (7, .getfield 7, 10, 6, 1, 0), (10, .iload_n 2, 11, 0, 0, 0), (11, .iaload, 12, 0, 0, 0), (12, .if_icmp .ne 25, 15, 37, 0, 0), (15, .aload_n 0, 16, 0, 0, 0), (16, .iload_n 1, 17, 0, 0, 0), (17, .iload_n 2, 18, 0, 0, 0), (18, .invokevirtual 282, 21, 186, 2, 0), (21, .aload_n 0, 22, 0, 0, 0), (22, .getfield 22, 25, 6, 5, 0), (25, .iload_n 1, 26, 0, 0, 0), (26, .iaload, 27, 0, 0, 0), (27, .aload_n 0, 28, 0, 0, 0), (28, .getfield 22, 31, 6, 5, 0), (31, .iload_n 2, 32, 0, 0, 0), (32, .iaload, 33, 0, 0, 0), (33, .iadd, 34, 0, 0, 0), (34, .if_icmp .le 5, 37, 39, 0, 0), (37, .iconst 1, 38, 0, 0, 0), (38, .ireturn, 39, 0, 0, 0), (39, .aload_n 0, 40, 0, 0, 0), (40, .getfield 16, 43, 6, 3, 0), (43, .iload_n 1, 44, 0, 0, 0), (44, .iaload, 45, 0, 0, 0), (45, .ifCond .ge 7, 48, 52, 0, 0), (48, .iconst 0, 49, 0, 0, 0), (49, .goto 19, 52, 68, 0, 0), (52, .aload_n 0, 53, 0, 0, 0), (53, .aload_n 0, 54, 0, 0, 0), (54, .getfield 16, 57, 6, 3, 0), (57, .iload_n 1, 58, 0, 0, 0), (58, .iaload, 59, 0, 0, 0), (59, .aload_n 0, 60, 0, 0, 0), (60, .getfield 16, 63, 6, 3, 0), (63, .iload_n 2, 64, 0, 0, 0), (64, .iaload, 65, 0, 0, 0), (65, .invokevirtual 285, 68, 188, 2, 0), (68, .aload_n 0, 69, 0, 0, 0), (69, .getfield 19, 72, 6, 4, 0), (72, .iload_n 1, 73, 0, 0, 0), (73, .iaload, 74, 0, 0, 0), (74, .ifCond .ge 7, 77, 81, 0, 0), (77, .iconst 0, 78, 0, 0, 0), (78, .goto 19, 81, 97, 0, 0), (81, .aload_n 0, 82, 0, 0, 0)]
theorem oX7_wholes_0 : ∀ e ∈ tX7_wholes_0, zgood fRX7 cX7_wholes 3 false e = true := by decide +kernel
def tX7_wholes_1 : List zE := [(82, .aload_n 0, 83, 0, 0, 0), (83, .getfield 19, 86, 6, 4, 0), (86, .iload_n 1, 87, 0, 0, 0), (87, .iaload, 88, 0, 0, 0), (88, .aload_n 0, 89, 0, 0, 0), (89, .getfield 19, 92, 6, 4, 0), (92, .iload_n 2, 93, 0, 0, 0), (93, .iaload, 94, 0, 0, 0), (94, .invokevirtual 285, 97, 188, 2, 0), (97, .iadd, 98, 0, 0, 0), (98, .ireturn, 99, 0, 0, 0)]
theorem oX7_wholes_1 : ∀ e ∈ tX7_wholes_1, zgood fRX7 cX7_wholes 3 false e = true := by decide +kernel
def tX7_wholes : List zE := tX7_wholes_0 ++ (tX7_wholes_1)
theorem oX7_wholes : ∀ e ∈ tX7_wholes, zgood fRX7 cX7_wholes 3 false e = true := (zapp oX7_wholes_0 oX7_wholes_1)
def tX7_changed : List zE := [(0, .aload_n 0, 1, 0, 0, 0), (1, .iload_n 1, 2, 0, 0, 0), (2, .invokevirtual 104, 5, 122, 1, 0), (5, .ifCond .eq 20, 8, 25, 0, 0), (8, .aload_n 0, 9, 0, 0, 0), (9, .iload_n 2, 10, 0, 0, 0), (10, .invokevirtual 104, 13, 122, 1, 0), (13, .ifCond .eq 12, 16, 25, 0, 0), (16, .aload_n 0, 17, 0, 0, 0), (17, .iload_n 1, 18, 0, 0, 0), (18, .iload_n 2, 19, 0, 0, 0), (19, .invokevirtual 279, 22, 187, 2, 0), (22, .goto 4, 25, 26, 0, 0), (25, .iconst (-1), 26, 0, 0, 0), (26, .ireturn, 27, 0, 0, 0)]
theorem oX7_changed : ∀ e ∈ tX7_changed, zgood fRX7 cX7_changed 3 false e = true := by decide +kernel
def tX7_exchanged : List zE := [(0, .aload_n 0, 1, 0, 0, 0), (1, .iload_n 1, 2, 0, 0, 0), (2, .invokevirtual 104, 5, 122, 1, 0), (5, .ifCond .eq 20, 8, 25, 0, 0), (8, .aload_n 0, 9, 0, 0, 0), (9, .iload_n 2, 10, 0, 0, 0), (10, .invokevirtual 104, 13, 122, 1, 0), (13, .ifCond .eq 12, 16, 25, 0, 0), (16, .aload_n 0, 17, 0, 0, 0), (17, .iload_n 1, 18, 0, 0, 0), (18, .iload_n 2, 19, 0, 0, 0), (19, .invokevirtual 285, 22, 188, 2, 0), (22, .goto 4, 25, 26, 0, 0), (25, .iconst (-1), 26, 0, 0, 0), (26, .ireturn, 27, 0, 0, 0)]
theorem oX7_exchanged : ∀ e ∈ tX7_exchanged, zgood fRX7 cX7_exchanged 3 false e = true := by decide +kernel
def tX7_functions : List zE := [(0, .iconst 0, 1, 0, 0, 0), (1, .istore_n 1, 2, 0, 0, 0), (2, .iconst 0, 3, 0, 0, 0), (3, .istore_n 2, 4, 0, 0, 0), (4, .iload_n 2, 5, 0, 0, 0), (5, .bipush 10, 7, 0, 0, 0), (7, .if_icmp .ge 26, 10, 33, 0, 0), (10, .iload_n 1, 11, 0, 0, 0), (11, .aload_n 0, 12, 0, 0, 0), (12, .getfield 28, 15, 6, 7, 0), (15, .iload_n 2, 16, 0, 0, 0), (16, .baload, 17, 0, 0, 0), (17, .ifCond .eq 7, 20, 24, 0, 0), (20, .iconst 1, 21, 0, 0, 0), (21, .goto 4, 24, 25, 0, 0), (24, .iconst 0, 25, 0, 0, 0), (25, .iadd, 26, 0, 0, 0), (26, .istore_n 1, 27, 0, 0, 0), (27, .iinc 2 1, 30, 0, 0, 0), (30, .goto (-26), 33, 4, 0, 0), (33, .iload_n 1, 34, 0, 0, 0), (34, .ireturn, 35, 0, 0, 0)]
theorem oX7_functions : ∀ e ∈ tX7_functions, zgood fRX7 cX7_functions 3 false e = true := by decide +kernel
def tX7_count : List zE := [(0, .iload_n 1, 1, 0, 0, 0), (1, .ifCond .ne 10, 4, 11, 0, 0), (4, .aload_n 0, 5, 0, 0, 0), (5, .getfield 85, 8, 6, 0, 0), (8, .goto 28, 11, 36, 0, 0), (11, .iload_n 1, 12, 0, 0, 0), (12, .iconst 1, 13, 0, 0, 0), (13, .if_icmp .ne 10, 16, 23, 0, 0), (16, .aload_n 0, 17, 0, 0, 0), (17, .getfield 184, 20, 6, 10, 0), (20, .goto 16, 23, 36, 0, 0), (23, .iload_n 1, 24, 0, 0, 0), (24, .iconst 2, 25, 0, 0, 0), (25, .if_icmp .ne 10, 28, 35, 0, 0), (28, .aload_n 0, 29, 0, 0, 0), (29, .invokevirtual 288, 32, 191, 0, 0), (32, .goto 4, 35, 36, 0, 0), (35, .iconst (-1), 36, 0, 0, 0), (36, .ireturn, 37, 0, 0, 0)]
theorem oX7_count : ∀ e ∈ tX7_count, zgood fRX7 cX7_count 2 false e = true := by decide +kernel
def tX7_isShelf : List zE := [(0, .iload_n 0, 1, 0, 0, 0), (1, .i2l, 2, 0, 0, 0), (2, .lconst 0, 3, 0, 0, 0), (3, .ldc2_w 92, 6, 0, 0, 7), (6, .invokestatic 88, 9, 121, 3, 0), (9, .ireturn, 10, 0, 0, 0)]
theorem oX7_isShelf : ∀ e ∈ tX7_isShelf, zgood fRX7 cX7_isShelf 1 false e = true := by decide +kernel
def tX7_kinds : List zE := [(0, .aload_n 0, 1, 0, 0, 0), (1, .getfield 50, 4, 6, 15, 0), (4, .bipush 60, 6, 0, 0, 0), (6, .iload_n 1, 7, 0, 0, 0), (7, .imul, 8, 0, 0, 0), (8, .aload_n 0, 9, 0, 0, 0), (9, .getfield 292, 12, 6, 34, 0), (12, .iadd, 13, 0, 0, 0), (13, .aload_n 0, 14, 0, 0, 0), (14, .getfield 7, 17, 6, 1, 0), (17, .iload_n 2, 18, 0, 0, 0), (18, .iaload, 19, 0, 0, 0), (19, .iastore, 20, 0, 0, 0), (20, .aload_n 0, 21, 0, 0, 0), (21, .dup, 22, 0, 0, 0), (22, .getfield 292, 25, 6, 34, 0), (25, .iconst 1, 26, 0, 0, 0), (26, .iadd, 27, 0, 0, 0), (27, .putfield 292, 30, 6, 34, 0), (30, .aload_n 0, 31, 0, 0, 0), (31, .getfield 16, 34, 6, 3, 0), (34, .iload_n 2, 35, 0, 0, 0), (35, .iaload, 36, 0, 0, 0), (36, .ifCond .lt 14, 39, 50, 0, 0), (39, .aload_n 0, 40, 0, 0, 0), (40, .iload_n 1, 41, 0, 0, 0), (41, .aload_n 0, 42, 0, 0, 0), (42, .getfield 16, 45, 6, 3, 0), (45, .iload_n 2, 46, 0, 0, 0), (46, .iaload, 47, 0, 0, 0), (47, .invokevirtual 295, 50, 194, 2, 0), (50, .aload_n 0, 51, 0, 0, 0), (51, .getfield 19, 54, 6, 4, 0), (54, .iload_n 2, 55, 0, 0, 0), (55, .iaload, 56, 0, 0, 0), (56, .ifCond .lt 14, 59, 70, 0, 0), (59, .aload_n 0, 60, 0, 0, 0), (60, .iload_n 1, 61, 0, 0, 0), (61, .aload_n 0, 62, 0, 0, 0), (62, .getfield 19, 65, 6, 4, 0), (65, .iload_n 2, 66, 0, 0, 0), (66, .iaload, 67, 0, 0, 0), (67, .invokevirtual 295, 70, 194, 2, 0), (70, .return_, 71, 0, 0, 0)]
theorem oX7_kinds : ∀ e ∈ tX7_kinds, zgood fRX7 cX7_kinds 3 false e = true := by decide +kernel
def tX7_keep_0 : List zE := [(0, .iload_n 2, 1, 0, 0, 0), (1, .ifCond .eq 26, 4, 27, 0, 0), (4, .iload_n 2, 5, 0, 0, 0), (5, .iconst 3, 6, 0, 0, 0), (6, .if_icmp .eq 21, 9, 27, 0, 0), (9, .iload_n 2, 10, 0, 0, 0), (10, .iconst 1, 11, 0, 0, 0), (11, .if_icmp .eq 8, 14, 19, 0, 0), (14, .iload_n 2, 15, 0, 0, 0), (15, .iconst 4, 16, 0, 0, 0), (16, .if_icmp .ne 15, 19, 31, 0, 0), (19, .aload_n 0, 20, 0, 0, 0), (20, .iload_n 3, 21, 0, 0, 0), (21, .invokevirtual 104, 24, 122, 1, 0), (24, .ifCond .eq 7, 27, 31, 0, 0), (27, .iconst 1, 28, 0, 0, 0), (28, .goto 4, 31, 32, 0, 0), (31, .iconst 0, 32, 0, 0, 0), (32, .istore 4, 34, 0, 0, 0), (34, .iload_n 1, 35, 0, 0, 0), (35, .invokestatic 298, 38, 193, 1, 0), (38, .ifCond .eq 8, 41, 46, 0, 0), (41, .iload 4, 43, 0, 0, 0), (43, .ifCond .ne 5, 46, 48, 0, 0), (46, .iconst (-1), 47, 0, 0, 0), (47, .ireturn, 48, 0, 0, 0), (48, .aload_n 0, 49, 0, 0, 0), (49, .getfield 38, 52, 6, 11, 0), (52, .iload_n 1, 53, 0, 0, 0), (53, .iload_n 2, 54, 0, 0, 0), (54, .iastore, 55, 0, 0, 0), (55, .iload_n 2, 56, 0, 0, 0), (56, .iconst 1, 57, 0, 0, 0), (57, .if_icmp .ne 42, 60, 99, 0, 0), (60, .aload_n 0, 61, 0, 0, 0), (61, .getfield 41, 64, 6, 12, 0), (64, .iload_n 1, 65, 0, 0, 0), (65, .aload_n 0, 66, 0, 0, 0), (66, .getfield 7, 69, 6, 1, 0), (69, .iload_n 3, 70, 0, 0, 0), (70, .iaload, 71, 0, 0, 0), (71, .iastore, 72, 0, 0, 0), (72, .aload_n 0, 73, 0, 0, 0), (73, .getfield 44, 76, 6, 13, 0), (76, .iload_n 1, 77, 0, 0, 0), (77, .aload_n 0, 78, 0, 0, 0), (78, .getfield 13, 81, 6, 2, 0), (81, .iload_n 3, 82, 0, 0, 0), (82, .iaload, 83, 0, 0, 0), (83, .iastore, 84, 0, 0, 0)]
theorem oX7_keep_0 : ∀ e ∈ tX7_keep_0, zgood fRX7 cX7_keep 6 false e = true := by decide +kernel
def tX7_keep_1 : List zE := [(84, .aload_n 0, 85, 0, 0, 0), (85, .getfield 47, 88, 6, 14, 0), (88, .iload_n 1, 89, 0, 0, 0), (89, .aload_n 0, 90, 0, 0, 0), (90, .getfield 22, 93, 6, 5, 0), (93, .iload_n 3, 94, 0, 0, 0), (94, .iaload, 95, 0, 0, 0), (95, .iastore, 96, 0, 0, 0), (96, .goto 84, 99, 180, 0, 0), (99, .iload_n 2, 100, 0, 0, 0), (100, .iconst 3, 101, 0, 0, 0), (101, .if_icmp .ne 53, 104, 154, 0, 0), (104, .aload_n 0, 105, 0, 0, 0), (105, .getfield 47, 108, 6, 14, 0), (108, .iload_n 1, 109, 0, 0, 0), (109, .aload_n 0, 110, 0, 0, 0), (110, .getfield 184, 113, 6, 10, 0), (113, .iastore, 114, 0, 0, 0), (114, .iconst 0, 115, 0, 0, 0), (115, .istore 5, 117, 0, 0, 0), (117, .iload 5, 119, 0, 0, 0), (119, .aload_n 0, 120, 0, 0, 0), (120, .getfield 184, 123, 6, 10, 0), (123, .if_icmp .ge 28, 126, 151, 0, 0), (126, .aload_n 0, 127, 0, 0, 0), (127, .getfield 50, 130, 6, 15, 0), (130, .bipush 60, 132, 0, 0, 0), (132, .iload_n 1, 133, 0, 0, 0), (133, .imul, 134, 0, 0, 0), (134, .iload 5, 136, 0, 0, 0), (136, .iadd, 137, 0, 0, 0), (137, .aload_n 0, 138, 0, 0, 0), (138, .getfield 35, 141, 6, 9, 0), (141, .iload 5, 143, 0, 0, 0), (143, .iaload, 144, 0, 0, 0), (144, .iastore, 145, 0, 0, 0), (145, .iinc 5 1, 148, 0, 0, 0), (148, .goto (-31), 151, 117, 0, 0), (151, .goto 29, 154, 180, 0, 0), (154, .iload_n 2, 155, 0, 0, 0), (155, .iconst 4, 156, 0, 0, 0), (156, .if_icmp .ne 24, 159, 180, 0, 0), (159, .aload_n 0, 160, 0, 0, 0), (160, .iconst 0, 161, 0, 0, 0), (161, .putfield 292, 164, 6, 34, 0), (164, .aload_n 0, 165, 0, 0, 0), (165, .iload_n 1, 166, 0, 0, 0), (166, .iload_n 3, 167, 0, 0, 0), (167, .invokevirtual 295, 170, 194, 2, 0), (170, .aload_n 0, 171, 0, 0, 0)]
theorem oX7_keep_1 : ∀ e ∈ tX7_keep_1, zgood fRX7 cX7_keep 6 false e = true := by decide +kernel
def tX7_keep_2 : List zE := [(171, .getfield 47, 174, 6, 14, 0), (174, .iload_n 1, 175, 0, 0, 0), (175, .aload_n 0, 176, 0, 0, 0), (176, .getfield 292, 179, 6, 34, 0), (179, .iastore, 180, 0, 0, 0), (180, .iconst 0, 181, 0, 0, 0), (181, .ireturn, 182, 0, 0, 0)]
theorem oX7_keep_2 : ∀ e ∈ tX7_keep_2, zgood fRX7 cX7_keep 6 false e = true := by decide +kernel
def tX7_keep : List zE := tX7_keep_0 ++ (tX7_keep_1 ++ (tX7_keep_2))
theorem oX7_keep : ∀ e ∈ tX7_keep, zgood fRX7 cX7_keep 6 false e = true := (zapp oX7_keep_0 (zapp oX7_keep_1 oX7_keep_2))
def tX7_make : List zE := [(0, .iload_n 1, 1, 0, 0, 0), (1, .invokestatic 298, 4, 193, 1, 0), (4, .ifCond .eq 23, 7, 27, 0, 0), (7, .iload_n 2, 8, 0, 0, 0), (8, .i2l, 9, 0, 0, 0), (9, .ldc2_w 270, 12, 0, 0, 3), (12, .ldc2_w 174, 15, 0, 0, 4), (15, .invokestatic 88, 18, 121, 3, 0), (18, .ifCond .eq 9, 21, 27, 0, 0), (21, .iload_n 3, 22, 0, 0, 0), (22, .bipush 60, 24, 0, 0, 0), (24, .if_icmp .le 5, 27, 29, 0, 0), (27, .iconst (-1), 28, 0, 0, 0), (28, .ireturn, 29, 0, 0, 0), (29, .iload_n 3, 30, 0, 0, 0), (30, .ifCond .ge 6, 33, 36, 0, 0), (33, .bipush (-14), 35, 0, 0, 0), (35, .ireturn, 36, 0, 0, 0), (36, .aload_n 0, 37, 0, 0, 0), (37, .getfield 38, 40, 6, 11, 0), (40, .iload_n 1, 41, 0, 0, 0), (41, .iload_n 2, 42, 0, 0, 0), (42, .iastore, 43, 0, 0, 0), (43, .aload_n 0, 44, 0, 0, 0), (44, .getfield 47, 47, 6, 14, 0), (47, .iload_n 1, 48, 0, 0, 0), (48, .iload_n 3, 49, 0, 0, 0), (49, .iastore, 50, 0, 0, 0), (50, .iconst 0, 51, 0, 0, 0), (51, .istore 4, 53, 0, 0, 0), (53, .iload 4, 55, 0, 0, 0), (55, .iload_n 3, 56, 0, 0, 0), (56, .if_icmp .ge 22, 59, 78, 0, 0), (59, .aload_n 0, 60, 0, 0, 0), (60, .getfield 50, 63, 6, 15, 0), (63, .bipush 60, 65, 0, 0, 0), (65, .iload_n 1, 66, 0, 0, 0), (66, .imul, 67, 0, 0, 0), (67, .iload 4, 69, 0, 0, 0), (69, .iadd, 70, 0, 0, 0), (70, .iconst 0, 71, 0, 0, 0), (71, .iastore, 72, 0, 0, 0), (72, .iinc 4 1, 75, 0, 0, 0), (75, .goto (-22), 78, 53, 0, 0), (78, .iconst 0, 79, 0, 0, 0), (79, .ireturn, 80, 0, 0, 0)]
theorem oX7_make : ∀ e ∈ tX7_make, zgood fRX7 cX7_make 5 false e = true := by decide +kernel
def tX7_element : List zE := [(0, .aload_n 0, 1, 0, 0, 0), (1, .iload_n 1, 2, 0, 0, 0), (2, .invokestatic 298, 5, 193, 1, 0), (5, .ifCond .ne 7, 8, 12, 0, 0), (8, .iconst 1, 9, 0, 0, 0), (9, .goto 36, 12, 45, 0, 0), (12, .aload_n 0, 13, 0, 0, 0), (13, .getfield 38, 16, 6, 11, 0), (16, .iload_n 1, 17, 0, 0, 0), (17, .iaload, 18, 0, 0, 0), (18, .iconst 3, 19, 0, 0, 0), (19, .if_icmp .lt 21, 22, 40, 0, 0), (22, .iload_n 2, 23, 0, 0, 0), (23, .i2l, 24, 0, 0, 0), (24, .lconst 0, 25, 0, 0, 0), (25, .aload_n 0, 26, 0, 0, 0), (26, .getfield 47, 29, 6, 14, 0), (29, .iload_n 1, 30, 0, 0, 0), (30, .iaload, 31, 0, 0, 0), (31, .iconst 1, 32, 0, 0, 0), (32, .isub, 33, 0, 0, 0), (33, .i2l, 34, 0, 0, 0), (34, .invokestatic 88, 37, 121, 3, 0), (37, .ifCond .ne 7, 40, 44, 0, 0), (40, .iconst 2, 41, 0, 0, 0), (41, .goto 4, 44, 45, 0, 0), (44, .iconst 0, 45, 0, 0, 0), (45, .putfield 82, 48, 6, 16, 0), (48, .aload_n 0, 49, 0, 0, 0), (49, .getfield 82, 52, 6, 16, 0), (52, .ifCond .ne 18, 55, 70, 0, 0), (55, .aload_n 0, 56, 0, 0, 0), (56, .getfield 50, 59, 6, 15, 0), (59, .bipush 60, 61, 0, 0, 0), (61, .iload_n 1, 62, 0, 0, 0), (62, .imul, 63, 0, 0, 0), (63, .iload_n 2, 64, 0, 0, 0), (64, .iadd, 65, 0, 0, 0), (65, .iaload, 66, 0, 0, 0), (66, .i2l, 67, 0, 0, 0), (67, .goto 4, 70, 71, 0, 0), (70, .lconst 0, 71, 0, 0, 0), (71, .lreturn, 72, 0, 0, 0)]
theorem oX7_element : ∀ e ∈ tX7_element, zgood fRX7 cX7_element 3 false e = true := by decide +kernel
def tX7_copy_0 : List zE := [(0, .iload_n 1, 1, 0, 0, 0), (1, .invokestatic 298, 4, 193, 1, 0), (4, .ifCond .eq 10, 7, 14, 0, 0), (7, .iload_n 3, 8, 0, 0, 0), (8, .invokestatic 298, 11, 193, 1, 0), (11, .ifCond .ne 5, 14, 16, 0, 0), (14, .iconst (-1), 15, 0, 0, 0), (15, .ireturn, 16, 0, 0, 0), (16, .aload_n 0, 17, 0, 0, 0), (17, .getfield 38, 20, 6, 11, 0), (20, .iload_n 1, 21, 0, 0, 0), (21, .iaload, 22, 0, 0, 0), (22, .ifCond .eq 12, 25, 34, 0, 0), (25, .aload_n 0, 26, 0, 0, 0), (26, .getfield 38, 29, 6, 11, 0), (29, .iload_n 3, 30, 0, 0, 0), (30, .iaload, 31, 0, 0, 0), (31, .ifCond .ne 6, 34, 37, 0, 0), (34, .bipush (-11), 36, 0, 0, 0), (36, .ireturn, 37, 0, 0, 0), (37, .aload_n 0, 38, 0, 0, 0), (38, .getfield 38, 41, 6, 11, 0), (41, .iload_n 1, 42, 0, 0, 0), (42, .iaload, 43, 0, 0, 0), (43, .iconst 3, 44, 0, 0, 0), (44, .if_icmp .lt 18, 47, 62, 0, 0), (47, .aload_n 0, 48, 0, 0, 0), (48, .getfield 38, 51, 6, 11, 0), (51, .iload_n 1, 52, 0, 0, 0), (52, .iaload, 53, 0, 0, 0), (53, .aload_n 0, 54, 0, 0, 0), (54, .getfield 38, 57, 6, 11, 0), (57, .iload_n 3, 58, 0, 0, 0), (58, .iaload, 59, 0, 0, 0), (59, .if_icmp .eq 6, 62, 65, 0, 0), (62, .bipush (-12), 64, 0, 0, 0), (64, .ireturn, 65, 0, 0, 0), (65, .iload 5, 67, 0, 0, 0), (67, .ifCond .lt 39, 70, 106, 0, 0), (70, .iload_n 2, 71, 0, 0, 0), (71, .ifCond .lt 35, 74, 106, 0, 0), (74, .iload 4, 76, 0, 0, 0), (76, .ifCond .lt 30, 79, 106, 0, 0), (79, .iload_n 2, 80, 0, 0, 0), (80, .aload_n 0, 81, 0, 0, 0), (81, .getfield 47, 84, 6, 14, 0), (84, .iload_n 1, 85, 0, 0, 0), (85, .iaload, 86, 0, 0, 0), (86, .iload 5, 88, 0, 0, 0), (88, .isub, 89, 0, 0, 0)]
theorem oX7_copy_0 : ∀ e ∈ tX7_copy_0, zgood fRX7 cX7_copy 7 false e = true := by decide +kernel
def tX7_copy_1 : List zE := [(89, .if_icmp .gt 17, 92, 106, 0, 0), (92, .iload 4, 94, 0, 0, 0), (94, .aload_n 0, 95, 0, 0, 0), (95, .getfield 47, 98, 6, 14, 0), (98, .iload_n 3, 99, 0, 0, 0), (99, .iaload, 100, 0, 0, 0), (100, .iload 5, 102, 0, 0, 0), (102, .isub, 103, 0, 0, 0), (103, .if_icmp .le 6, 106, 109, 0, 0), (106, .bipush (-13), 108, 0, 0, 0), (108, .ireturn, 109, 0, 0, 0), (109, .iconst 0, 110, 0, 0, 0), (110, .istore 6, 112, 0, 0, 0), (112, .iload 6, 114, 0, 0, 0), (114, .iload 5, 116, 0, 0, 0), (116, .if_icmp .ge 30, 119, 146, 0, 0), (119, .aload_n 0, 120, 0, 0, 0), (120, .getfield 60, 123, 6, 22, 0), (123, .iload 6, 125, 0, 0, 0), (125, .aload_n 0, 126, 0, 0, 0), (126, .getfield 50, 129, 6, 15, 0), (129, .bipush 60, 131, 0, 0, 0), (131, .iload_n 1, 132, 0, 0, 0), (132, .imul, 133, 0, 0, 0), (133, .iload_n 2, 134, 0, 0, 0), (134, .iadd, 135, 0, 0, 0), (135, .iload 6, 137, 0, 0, 0), (137, .iadd, 138, 0, 0, 0), (138, .iaload, 139, 0, 0, 0), (139, .iastore, 140, 0, 0, 0), (140, .iinc 6 1, 143, 0, 0, 0), (143, .goto (-31), 146, 112, 0, 0), (146, .iconst 0, 147, 0, 0, 0), (147, .istore 6, 149, 0, 0, 0), (149, .iload 6, 151, 0, 0, 0), (151, .iload 5, 153, 0, 0, 0), (153, .if_icmp .ge 31, 156, 184, 0, 0), (156, .aload_n 0, 157, 0, 0, 0), (157, .getfield 50, 160, 6, 15, 0), (160, .bipush 60, 162, 0, 0, 0), (162, .iload_n 3, 163, 0, 0, 0), (163, .imul, 164, 0, 0, 0), (164, .iload 4, 166, 0, 0, 0), (166, .iadd, 167, 0, 0, 0), (167, .iload 6, 169, 0, 0, 0), (169, .iadd, 170, 0, 0, 0), (170, .aload_n 0, 171, 0, 0, 0), (171, .getfield 60, 174, 6, 22, 0), (174, .iload 6, 176, 0, 0, 0), (176, .iaload, 177, 0, 0, 0)]
theorem oX7_copy_1 : ∀ e ∈ tX7_copy_1, zgood fRX7 cX7_copy 7 false e = true := by decide +kernel
def tX7_copy_2 : List zE := [(177, .iastore, 178, 0, 0, 0), (178, .iinc 6 1, 181, 0, 0, 0), (181, .goto (-32), 184, 149, 0, 0), (184, .iload 5, 186, 0, 0, 0), (186, .ireturn, 187, 0, 0, 0)]
theorem oX7_copy_2 : ∀ e ∈ tX7_copy_2, zgood fRX7 cX7_copy 7 false e = true := by decide +kernel
def tX7_copy : List zE := tX7_copy_0 ++ (tX7_copy_1 ++ (tX7_copy_2))
theorem oX7_copy : ∀ e ∈ tX7_copy, zgood fRX7 cX7_copy 7 false e = true := (zapp oX7_copy_0 (zapp oX7_copy_1 oX7_copy_2))
def tX7_held : List zE := [(0, .iload_n 1, 1, 0, 0, 0), (1, .invokestatic 298, 4, 193, 1, 0), (4, .ifCond .ne 7, 7, 11, 0, 0), (7, .iconst (-1), 8, 0, 0, 0), (8, .goto 33, 11, 41, 0, 0), (11, .aload_n 0, 12, 0, 0, 0), (12, .getfield 38, 15, 6, 11, 0), (15, .iload_n 1, 16, 0, 0, 0), (16, .iaload, 17, 0, 0, 0), (17, .ifCond .ne 8, 20, 25, 0, 0), (20, .bipush (-11), 22, 0, 0, 0), (22, .goto 19, 25, 41, 0, 0), (25, .aload_n 0, 26, 0, 0, 0), (26, .getfield 38, 29, 6, 11, 0), (29, .iload_n 1, 30, 0, 0, 0), (30, .iaload, 31, 0, 0, 0), (31, .iconst 1, 32, 0, 0, 0), (32, .if_icmp .eq 8, 35, 40, 0, 0), (35, .bipush (-12), 37, 0, 0, 0), (37, .goto 4, 40, 41, 0, 0), (40, .iconst 0, 41, 0, 0, 0), (41, .ireturn, 42, 0, 0, 0)]
theorem oX7_held : ∀ e ∈ tX7_held, zgood fRX7 cX7_held 2 false e = true := by decide +kernel
def tX7_weight : List zE := [(0, .aload_n 0, 1, 0, 0, 0), (1, .iload_n 1, 2, 0, 0, 0), (2, .invokevirtual 301, 5, 199, 1, 0), (5, .istore_n 2, 6, 0, 0, 0), (6, .iload_n 2, 7, 0, 0, 0), (7, .ifCond .eq 5, 10, 12, 0, 0), (10, .iload_n 2, 11, 0, 0, 0), (11, .ireturn, 12, 0, 0, 0), (12, .aload_n 0, 13, 0, 0, 0), (13, .getfield 47, 16, 6, 14, 0), (16, .iload_n 1, 17, 0, 0, 0), (17, .iaload, 18, 0, 0, 0), (18, .bipush 10, 20, 0, 0, 0), (20, .iadd, 21, 0, 0, 0), (21, .istore_n 3, 22, 0, 0, 0), (22, .aload_n 0, 23, 0, 0, 0), (23, .getfield 41, 26, 6, 12, 0), (26, .iload_n 1, 27, 0, 0, 0), (27, .iaload, 28, 0, 0, 0), (28, .tableswitch 76 1 9 #[52, 76, 76, 76, 61, 61, 76, 66, 70], 80, 0, 0, 0), (80, .iload_n 3, 81, 0, 0, 0), (81, .aload_n 0, 82, 0, 0, 0), (82, .getfield 44, 85, 6, 13, 0), (85, .iload_n 1, 86, 0, 0, 0), (86, .iaload, 87, 0, 0, 0), (87, .iadd, 88, 0, 0, 0), (88, .ireturn, 89, 0, 0, 0), (89, .iload_n 3, 90, 0, 0, 0), (90, .bipush 100, 92, 0, 0, 0), (92, .iadd, 93, 0, 0, 0), (93, .ireturn, 94, 0, 0, 0), (94, .iconst 2, 95, 0, 0, 0), (95, .iload_n 3, 96, 0, 0, 0), (96, .imul, 97, 0, 0, 0), (97, .ireturn, 98, 0, 0, 0), (98, .iload_n 3, 99, 0, 0, 0), (99, .sipush 1000, 102, 0, 0, 0), (102, .iadd, 103, 0, 0, 0), (103, .ireturn, 104, 0, 0, 0), (104, .iload_n 3, 105, 0, 0, 0), (105, .ireturn, 106, 0, 0, 0)]
theorem oX7_weight : ∀ e ∈ tX7_weight, zgood fRX7 cX7_weight 4 false e = true := by decide +kernel
def tX7_toss : List zE := [(0, .aload_n 0, 1, 0, 0, 0), (1, .iload_n 1, 2, 0, 0, 0), (2, .invokevirtual 301, 5, 199, 1, 0), (5, .istore_n 2, 6, 0, 0, 0), (6, .iload_n 2, 7, 0, 0, 0), (7, .ifCond .eq 7, 10, 14, 0, 0), (10, .iload_n 2, 11, 0, 0, 0), (11, .goto 23, 14, 34, 0, 0), (14, .aload_n 0, 15, 0, 0, 0), (15, .getfield 44, 18, 6, 13, 0), (18, .iload_n 1, 19, 0, 0, 0), (19, .iaload, 20, 0, 0, 0), (20, .ifCond .ge 8, 23, 28, 0, 0), (23, .bipush (-15), 25, 0, 0, 0), (25, .goto 9, 28, 34, 0, 0), (28, .aload_n 0, 29, 0, 0, 0), (29, .getfield 44, 32, 6, 13, 0), (32, .iload_n 1, 33, 0, 0, 0), (33, .iaload, 34, 0, 0, 0), (34, .ireturn, 35, 0, 0, 0)]
theorem oX7_toss : ∀ e ∈ tX7_toss, zgood fRX7 cX7_toss 3 false e = true := by decide +kernel
end
section
def tJ6_bitCount_0f7a4 : List zE := [(0, .iload_n 0, 1, 0, 0, 0), (1, .iload_n 0, 2, 0, 0, 0), (2, .iconst 1, 3, 0, 0, 0), (3, .iushr, 4, 0, 0, 0), (4, .ldc_w 265, 7, 0, 0, 1431655765), (7, .iand, 8, 0, 0, 0), (8, .isub, 9, 0, 0, 0), (9, .istore_n 0, 10, 0, 0, 0), (10, .iload_n 0, 11, 0, 0, 0), (11, .ldc_w 266, 14, 0, 0, 858993459), (14, .iand, 15, 0, 0, 0), (15, .iload_n 0, 16, 0, 0, 0), (16, .iconst 2, 17, 0, 0, 0), (17, .iushr, 18, 0, 0, 0), (18, .ldc_w 266, 21, 0, 0, 858993459), (21, .iand, 22, 0, 0, 0), (22, .iadd, 23, 0, 0, 0), (23, .istore_n 0, 24, 0, 0, 0), (24, .iload_n 0, 25, 0, 0, 0), (25, .iload_n 0, 26, 0, 0, 0), (26, .iconst 4, 27, 0, 0, 0), (27, .iushr, 28, 0, 0, 0), (28, .iadd, 29, 0, 0, 0), (29, .ldc_w 267, 32, 0, 0, 252645135), (32, .iand, 33, 0, 0, 0), (33, .istore_n 0, 34, 0, 0, 0), (34, .iload_n 0, 35, 0, 0, 0), (35, .iload_n 0, 36, 0, 0, 0), (36, .bipush 8, 38, 0, 0, 0), (38, .iushr, 39, 0, 0, 0), (39, .iadd, 40, 0, 0, 0), (40, .istore_n 0, 41, 0, 0, 0), (41, .iload_n 0, 42, 0, 0, 0), (42, .iload_n 0, 43, 0, 0, 0), (43, .bipush 16, 45, 0, 0, 0), (45, .iushr, 46, 0, 0, 0), (46, .iadd, 47, 0, 0, 0), (47, .istore_n 0, 48, 0, 0, 0), (48, .iload_n 0, 49, 0, 0, 0), (49, .bipush 63, 51, 0, 0, 0), (51, .iand, 52, 0, 0, 0), (52, .ireturn, 53, 0, 0, 0)]
theorem oJ6_bitCount_0f7a4 : ∀ e ∈ tJ6_bitCount_0f7a4, zgood fRJ6 cJ6_bitCount_0f7a4 1 false e = true := by decide +kernel
def tJ9_max_7cf53 : List zE := [(0, .iload_n 0, 1, 0, 0, 0), (1, .iload_n 1, 2, 0, 0, 0), (2, .if_icmp .lt 7, 5, 9, 0, 0), (5, .iload_n 0, 6, 0, 0, 0), (6, .goto 4, 9, 10, 0, 0), (9, .iload_n 1, 10, 0, 0, 0), (10, .ireturn, 11, 0, 0, 0)]
theorem oJ9_max_7cf53 : ∀ e ∈ tJ9_max_7cf53, zgood fRJ9 cJ9_max_7cf53 2 false e = true := by decide +kernel
def tJ9_min_7cf53 : List zE := [(0, .iload_n 0, 1, 0, 0, 0), (1, .iload_n 1, 2, 0, 0, 0), (2, .if_icmp .gt 7, 5, 9, 0, 0), (5, .iload_n 0, 6, 0, 0, 0), (6, .goto 4, 9, 10, 0, 0), (9, .iload_n 1, 10, 0, 0, 0), (10, .ireturn, 11, 0, 0, 0)]
theorem oJ9_min_7cf53 : ∀ e ∈ tJ9_min_7cf53, zgood fRJ9 cJ9_min_7cf53 2 false e = true := by decide +kernel
def tJ9_min_f86c9 : List zE := [(0, .lload_n 0, 1, 0, 0, 0), (1, .lload_n 2, 2, 0, 0, 0), (2, .lcmp, 3, 0, 0, 0), (3, .ifCond .gt 7, 6, 10, 0, 0), (6, .lload_n 0, 7, 0, 0, 0), (7, .goto 4, 10, 11, 0, 0), (10, .lload_n 2, 11, 0, 0, 0), (11, .lreturn, 12, 0, 0, 0)]
theorem oJ9_min_f86c9 : ∀ e ∈ tJ9_min_f86c9, zgood fRJ9 cJ9_min_f86c9 4 false e = true := by decide +kernel
def tL_law_0 : List zE := [(0, .new 8, 3, 0, 0, 0), (3, .dup, 4, 0, 0, 0), (4, .invokespecial 25, 7, 74, 0, 0), (7, .astore_n 1, 8, 0, 0, 0), (8, .new 26, 11, 0, 0, 0), (11, .dup, 12, 0, 0, 0), (12, .invokespecial 28, 15, 120, 0, 0), (15, .astore_n 2, 16, 0, 0, 0), (16, .iconst 1, 17, 0, 0, 0), (17, .newarray .long, 19, 0, 0, 0), (19, .astore_n 3, 20, 0, 0, 0), (20, .iconst 0, 21, 0, 0, 0), (21, .istore 4, 23, 0, 0, 0), (23, .iload 4, 25, 0, 0, 0), (25, .aload_n 0, 26, 0, 0, 0), (26, .arraylength, 27, 0, 0, 0), (27, .bipush 6, 29, 0, 0, 0), (29, .isub, 30, 0, 0, 0), (30, .if_icmp .gt 1556, 33, 1586, 0, 0), (33, .aload_n 0, 34, 0, 0, 0), (34, .iload 4, 36, 0, 0, 0), (36, .iaload, 37, 0, 0, 0), (37, .bipush 63, 39, 0, 0, 0), (39, .iand, 40, 0, 0, 0), (40, .tableswitch 1540 0 34 #[156, 193, 242, 255, 308, 345, 382, 419, 484, 521, 570, 619, 656, 693, 730, 743, 768, 796, 865, 902, 1015, 1040, 1065, 1090, 1118, 1143, 1180, 1217, 1254, 1279, 1328, 1377, 1417, 1490, 1515], 196, 0, 0, 0), (196, .aload_n 1, 197, 0, 0, 0), (197, .aload_n 0, 198, 0, 0, 0), (198, .iload 4, 200, 0, 0, 0), (200, .iconst 1, 201, 0, 0, 0), (201, .iadd, 202, 0, 0, 0), (202, .iaload, 203, 0, 0, 0), (203, .aload_n 0, 204, 0, 0, 0), (204, .iload 4, 206, 0, 0, 0), (206, .iconst 2, 207, 0, 0, 0), (207, .iadd, 208, 0, 0, 0), (208, .iaload, 209, 0, 0, 0), (209, .invokevirtual 29, 212, 75, 2, 0), (212, .pop, 213, 0, 0, 0), (213, .aload_n 2, 214, 0, 0, 0), (214, .aload_n 0, 215, 0, 0, 0), (215, .iload 4, 217, 0, 0, 0), (217, .iconst 1, 218, 0, 0, 0), (218, .iadd, 219, 0, 0, 0), (219, .iaload, 220, 0, 0, 0), (220, .aload_n 0, 221, 0, 0, 0), (221, .iload 4, 223, 0, 0, 0), (223, .iconst 2, 224, 0, 0, 0), (224, .iadd, 225, 0, 0, 0), (225, .iaload, 226, 0, 0, 0), (226, .invokevirtual 33, 229, 127, 2, 0)]
theorem oL_law_0 : ∀ e ∈ tL_law_0, zgood fRL cL_law 8 false e = true := by decide +kernel
def tL_law_1 : List zE := [(229, .pop, 230, 0, 0, 0), (230, .goto 1350, 233, 1580, 0, 0), (233, .aload_n 1, 234, 0, 0, 0), (234, .aload_n 0, 235, 0, 0, 0), (235, .iload 4, 237, 0, 0, 0), (237, .iconst 1, 238, 0, 0, 0), (238, .iadd, 239, 0, 0, 0), (239, .iaload, 240, 0, 0, 0), (240, .aload_n 0, 241, 0, 0, 0), (241, .iload 4, 243, 0, 0, 0), (243, .iconst 2, 244, 0, 0, 0), (244, .iadd, 245, 0, 0, 0), (245, .iaload, 246, 0, 0, 0), (246, .aload_n 0, 247, 0, 0, 0), (247, .iload 4, 249, 0, 0, 0), (249, .iconst 3, 250, 0, 0, 0), (250, .iadd, 251, 0, 0, 0), (251, .iaload, 252, 0, 0, 0), (252, .invokevirtual 34, 255, 76, 3, 0), (255, .pop, 256, 0, 0, 0), (256, .aload_n 2, 257, 0, 0, 0), (257, .aload_n 0, 258, 0, 0, 0), (258, .iload 4, 260, 0, 0, 0), (260, .iconst 1, 261, 0, 0, 0), (261, .iadd, 262, 0, 0, 0), (262, .iaload, 263, 0, 0, 0), (263, .aload_n 0, 264, 0, 0, 0), (264, .iload 4, 266, 0, 0, 0), (266, .iconst 2, 267, 0, 0, 0), (267, .iadd, 268, 0, 0, 0), (268, .iaload, 269, 0, 0, 0), (269, .aload_n 0, 270, 0, 0, 0), (270, .iload 4, 272, 0, 0, 0), (272, .iconst 3, 273, 0, 0, 0), (273, .iadd, 274, 0, 0, 0), (274, .iaload, 275, 0, 0, 0), (275, .invokevirtual 38, 278, 128, 3, 0), (278, .pop, 279, 0, 0, 0), (279, .goto 1301, 282, 1580, 0, 0), (282, .aload_n 1, 283, 0, 0, 0), (283, .invokevirtual 39, 286, 77, 0, 0), (286, .pop, 287, 0, 0, 0), (287, .aload_n 2, 288, 0, 0, 0), (288, .invokevirtual 43, 291, 129, 0, 0), (291, .pop, 292, 0, 0, 0), (292, .goto 1288, 295, 1580, 0, 0), (295, .aload_n 1, 296, 0, 0, 0), (296, .aload_n 0, 297, 0, 0, 0), (297, .iload 4, 299, 0, 0, 0), (299, .iconst 1, 300, 0, 0, 0)]
theorem oL_law_1 : ∀ e ∈ tL_law_1, zgood fRL cL_law 8 false e = true := by decide +kernel
def tL_law_2 : List zE := [(300, .iadd, 301, 0, 0, 0), (301, .iaload, 302, 0, 0, 0), (302, .aload_n 0, 303, 0, 0, 0), (303, .iload 4, 305, 0, 0, 0), (305, .iconst 2, 306, 0, 0, 0), (306, .iadd, 307, 0, 0, 0), (307, .iaload, 308, 0, 0, 0), (308, .ifCond .eq 7, 311, 315, 0, 0), (311, .iconst 1, 312, 0, 0, 0), (312, .goto 4, 315, 316, 0, 0), (315, .iconst 0, 316, 0, 0, 0), (316, .invokevirtual 44, 319, 78, 2, 0), (319, .pop, 320, 0, 0, 0), (320, .aload_n 2, 321, 0, 0, 0), (321, .aload_n 0, 322, 0, 0, 0), (322, .iload 4, 324, 0, 0, 0), (324, .iconst 1, 325, 0, 0, 0), (325, .iadd, 326, 0, 0, 0), (326, .iaload, 327, 0, 0, 0), (327, .aload_n 0, 328, 0, 0, 0), (328, .iload 4, 330, 0, 0, 0), (330, .iconst 2, 331, 0, 0, 0), (331, .iadd, 332, 0, 0, 0), (332, .iaload, 333, 0, 0, 0), (333, .ifCond .eq 7, 336, 340, 0, 0), (336, .iconst 1, 337, 0, 0, 0), (337, .goto 4, 340, 341, 0, 0), (340, .iconst 0, 341, 0, 0, 0), (341, .invokevirtual 48, 344, 130, 2, 0), (344, .pop, 345, 0, 0, 0), (345, .goto 1235, 348, 1580, 0, 0), (348, .aload_n 1, 349, 0, 0, 0), (349, .aload_n 0, 350, 0, 0, 0), (350, .iload 4, 352, 0, 0, 0), (352, .iconst 1, 353, 0, 0, 0), (353, .iadd, 354, 0, 0, 0), (354, .iaload, 355, 0, 0, 0), (355, .aload_n 0, 356, 0, 0, 0), (356, .iload 4, 358, 0, 0, 0), (358, .iconst 2, 359, 0, 0, 0), (359, .iadd, 360, 0, 0, 0), (360, .iaload, 361, 0, 0, 0), (361, .invokevirtual 49, 364, 79, 2, 0), (364, .pop, 365, 0, 0, 0), (365, .aload_n 2, 366, 0, 0, 0), (366, .aload_n 0, 367, 0, 0, 0), (367, .iload 4, 369, 0, 0, 0), (369, .iconst 1, 370, 0, 0, 0), (370, .iadd, 371, 0, 0, 0), (371, .iaload, 372, 0, 0, 0)]
theorem oL_law_2 : ∀ e ∈ tL_law_2, zgood fRL cL_law 8 false e = true := by decide +kernel
def tL_law_3 : List zE := [(372, .aload_n 0, 373, 0, 0, 0), (373, .iload 4, 375, 0, 0, 0), (375, .iconst 2, 376, 0, 0, 0), (376, .iadd, 377, 0, 0, 0), (377, .iaload, 378, 0, 0, 0), (378, .invokevirtual 52, 381, 132, 2, 0), (381, .pop, 382, 0, 0, 0), (382, .goto 1198, 385, 1580, 0, 0), (385, .aload_n 1, 386, 0, 0, 0), (386, .aload_n 0, 387, 0, 0, 0), (387, .iload 4, 389, 0, 0, 0), (389, .iconst 1, 390, 0, 0, 0), (390, .iadd, 391, 0, 0, 0), (391, .iaload, 392, 0, 0, 0), (392, .aload_n 0, 393, 0, 0, 0), (393, .iload 4, 395, 0, 0, 0), (395, .iconst 2, 396, 0, 0, 0), (396, .iadd, 397, 0, 0, 0), (397, .iaload, 398, 0, 0, 0), (398, .invokevirtual 53, 401, 80, 2, 0), (401, .pop, 402, 0, 0, 0), (402, .aload_n 2, 403, 0, 0, 0), (403, .aload_n 0, 404, 0, 0, 0), (404, .iload 4, 406, 0, 0, 0), (406, .iconst 1, 407, 0, 0, 0), (407, .iadd, 408, 0, 0, 0), (408, .iaload, 409, 0, 0, 0), (409, .aload_n 0, 410, 0, 0, 0), (410, .iload 4, 412, 0, 0, 0), (412, .iconst 2, 413, 0, 0, 0), (413, .iadd, 414, 0, 0, 0), (414, .iaload, 415, 0, 0, 0), (415, .invokevirtual 56, 418, 134, 2, 0), (418, .pop, 419, 0, 0, 0), (419, .goto 1161, 422, 1580, 0, 0), (422, .aload_n 1, 423, 0, 0, 0), (423, .aload_n 0, 424, 0, 0, 0), (424, .iload 4, 426, 0, 0, 0), (426, .iconst 1, 427, 0, 0, 0), (427, .iadd, 428, 0, 0, 0), (428, .iaload, 429, 0, 0, 0), (429, .aload_n 0, 430, 0, 0, 0), (430, .iload 4, 432, 0, 0, 0), (432, .iconst 2, 433, 0, 0, 0), (433, .iadd, 434, 0, 0, 0), (434, .iaload, 435, 0, 0, 0), (435, .invokevirtual 57, 438, 81, 2, 0), (438, .pop, 439, 0, 0, 0), (439, .aload_n 2, 440, 0, 0, 0), (440, .aload_n 0, 441, 0, 0, 0)]
theorem oL_law_3 : ∀ e ∈ tL_law_3, zgood fRL cL_law 8 false e = true := by decide +kernel
def tL_law_4 : List zE := [(441, .iload 4, 443, 0, 0, 0), (443, .iconst 1, 444, 0, 0, 0), (444, .iadd, 445, 0, 0, 0), (445, .iaload, 446, 0, 0, 0), (446, .aload_n 0, 447, 0, 0, 0), (447, .iload 4, 449, 0, 0, 0), (449, .iconst 2, 450, 0, 0, 0), (450, .iadd, 451, 0, 0, 0), (451, .iaload, 452, 0, 0, 0), (452, .invokevirtual 60, 455, 136, 2, 0), (455, .pop, 456, 0, 0, 0), (456, .goto 1124, 459, 1580, 0, 0), (459, .aload_n 1, 460, 0, 0, 0), (460, .aload_n 0, 461, 0, 0, 0), (461, .iload 4, 463, 0, 0, 0), (463, .iconst 1, 464, 0, 0, 0), (464, .iadd, 465, 0, 0, 0), (465, .iaload, 466, 0, 0, 0), (466, .aload_n 0, 467, 0, 0, 0), (467, .iload 4, 469, 0, 0, 0), (469, .iconst 2, 470, 0, 0, 0), (470, .iadd, 471, 0, 0, 0), (471, .iaload, 472, 0, 0, 0), (472, .aload_n 0, 473, 0, 0, 0), (473, .iload 4, 475, 0, 0, 0), (475, .iconst 3, 476, 0, 0, 0), (476, .iadd, 477, 0, 0, 0), (477, .iaload, 478, 0, 0, 0), (478, .ifCond .eq 7, 481, 485, 0, 0), (481, .iconst 1, 482, 0, 0, 0), (482, .goto 4, 485, 486, 0, 0), (485, .iconst 0, 486, 0, 0, 0), (486, .invokevirtual 61, 489, 82, 3, 0), (489, .aload_n 2, 490, 0, 0, 0), (490, .aload_n 0, 491, 0, 0, 0), (491, .iload 4, 493, 0, 0, 0), (493, .iconst 1, 494, 0, 0, 0), (494, .iadd, 495, 0, 0, 0), (495, .iaload, 496, 0, 0, 0), (496, .aload_n 0, 497, 0, 0, 0), (497, .iload 4, 499, 0, 0, 0), (499, .iconst 2, 500, 0, 0, 0), (500, .iadd, 501, 0, 0, 0), (501, .iaload, 502, 0, 0, 0), (502, .aload_n 0, 503, 0, 0, 0), (503, .iload 4, 505, 0, 0, 0), (505, .iconst 3, 506, 0, 0, 0), (506, .iadd, 507, 0, 0, 0), (507, .iaload, 508, 0, 0, 0), (508, .ifCond .eq 7, 511, 515, 0, 0)]
theorem oL_law_4 : ∀ e ∈ tL_law_4, zgood fRL cL_law 8 false e = true := by decide +kernel
def tL_law_5 : List zE := [(511, .iconst 1, 512, 0, 0, 0), (512, .goto 4, 515, 516, 0, 0), (515, .iconst 0, 516, 0, 0, 0), (516, .invokevirtual 65, 519, 137, 3, 0), (519, .if_icmp .eq 1061, 522, 1580, 0, 0), (522, .iconst 0, 523, 0, 0, 0), (523, .ireturn, 524, 0, 0, 0), (524, .aload_n 1, 525, 0, 0, 0), (525, .aload_n 0, 526, 0, 0, 0), (526, .iload 4, 528, 0, 0, 0), (528, .iconst 1, 529, 0, 0, 0), (529, .iadd, 530, 0, 0, 0), (530, .iaload, 531, 0, 0, 0), (531, .aload_n 0, 532, 0, 0, 0), (532, .iload 4, 534, 0, 0, 0), (534, .iconst 2, 535, 0, 0, 0), (535, .iadd, 536, 0, 0, 0), (536, .iaload, 537, 0, 0, 0), (537, .invokevirtual 66, 540, 83, 2, 0), (540, .pop, 541, 0, 0, 0), (541, .aload_n 2, 542, 0, 0, 0), (542, .aload_n 0, 543, 0, 0, 0), (543, .iload 4, 545, 0, 0, 0), (545, .iconst 1, 546, 0, 0, 0), (546, .iadd, 547, 0, 0, 0), (547, .iaload, 548, 0, 0, 0), (548, .aload_n 0, 549, 0, 0, 0), (549, .iload 4, 551, 0, 0, 0), (551, .iconst 2, 552, 0, 0, 0), (552, .iadd, 553, 0, 0, 0), (553, .iaload, 554, 0, 0, 0), (554, .invokevirtual 69, 557, 145, 2, 0), (557, .pop, 558, 0, 0, 0), (558, .goto 1022, 561, 1580, 0, 0), (561, .aload_n 1, 562, 0, 0, 0), (562, .aload_n 0, 563, 0, 0, 0), (563, .iload 4, 565, 0, 0, 0), (565, .iconst 1, 566, 0, 0, 0), (566, .iadd, 567, 0, 0, 0), (567, .iaload, 568, 0, 0, 0), (568, .aload_n 0, 569, 0, 0, 0), (569, .iload 4, 571, 0, 0, 0), (571, .iconst 2, 572, 0, 0, 0), (572, .iadd, 573, 0, 0, 0), (573, .iaload, 574, 0, 0, 0), (574, .aload_n 0, 575, 0, 0, 0), (575, .iload 4, 577, 0, 0, 0), (577, .iconst 3, 578, 0, 0, 0), (578, .iadd, 579, 0, 0, 0), (579, .iaload, 580, 0, 0, 0)]
theorem oL_law_5 : ∀ e ∈ tL_law_5, zgood fRL cL_law 8 false e = true := by decide +kernel
def tL_law_6 : List zE := [(580, .invokevirtual 70, 583, 84, 3, 0), (583, .pop, 584, 0, 0, 0), (584, .aload_n 2, 585, 0, 0, 0), (585, .aload_n 0, 586, 0, 0, 0), (586, .iload 4, 588, 0, 0, 0), (588, .iconst 1, 589, 0, 0, 0), (589, .iadd, 590, 0, 0, 0), (590, .iaload, 591, 0, 0, 0), (591, .aload_n 0, 592, 0, 0, 0), (592, .iload 4, 594, 0, 0, 0), (594, .iconst 2, 595, 0, 0, 0), (595, .iadd, 596, 0, 0, 0), (596, .iaload, 597, 0, 0, 0), (597, .aload_n 0, 598, 0, 0, 0), (598, .iload 4, 600, 0, 0, 0), (600, .iconst 3, 601, 0, 0, 0), (601, .iadd, 602, 0, 0, 0), (602, .iaload, 603, 0, 0, 0), (603, .invokevirtual 73, 606, 146, 3, 0), (606, .pop, 607, 0, 0, 0), (607, .goto 973, 610, 1580, 0, 0), (610, .aload_n 1, 611, 0, 0, 0), (611, .aload_n 0, 612, 0, 0, 0), (612, .iload 4, 614, 0, 0, 0), (614, .iconst 1, 615, 0, 0, 0), (615, .iadd, 616, 0, 0, 0), (616, .iaload, 617, 0, 0, 0), (617, .aload_n 0, 618, 0, 0, 0), (618, .iload 4, 620, 0, 0, 0), (620, .iconst 2, 621, 0, 0, 0), (621, .iadd, 622, 0, 0, 0), (622, .iaload, 623, 0, 0, 0), (623, .aload_n 0, 624, 0, 0, 0), (624, .iload 4, 626, 0, 0, 0), (626, .iconst 3, 627, 0, 0, 0), (627, .iadd, 628, 0, 0, 0), (628, .iaload, 629, 0, 0, 0), (629, .invokevirtual 74, 632, 85, 3, 0), (632, .pop, 633, 0, 0, 0), (633, .aload_n 2, 634, 0, 0, 0), (634, .aload_n 0, 635, 0, 0, 0), (635, .iload 4, 637, 0, 0, 0), (637, .iconst 1, 638, 0, 0, 0), (638, .iadd, 639, 0, 0, 0), (639, .iaload, 640, 0, 0, 0), (640, .aload_n 0, 641, 0, 0, 0), (641, .iload 4, 643, 0, 0, 0), (643, .iconst 2, 644, 0, 0, 0), (644, .iadd, 645, 0, 0, 0), (645, .iaload, 646, 0, 0, 0)]
theorem oL_law_6 : ∀ e ∈ tL_law_6, zgood fRL cL_law 8 false e = true := by decide +kernel
def tL_law_7 : List zE := [(646, .aload_n 0, 647, 0, 0, 0), (647, .iload 4, 649, 0, 0, 0), (649, .iconst 3, 650, 0, 0, 0), (650, .iadd, 651, 0, 0, 0), (651, .iaload, 652, 0, 0, 0), (652, .invokevirtual 77, 655, 147, 3, 0), (655, .pop, 656, 0, 0, 0), (656, .goto 924, 659, 1580, 0, 0), (659, .aload_n 1, 660, 0, 0, 0), (660, .aload_n 0, 661, 0, 0, 0), (661, .iload 4, 663, 0, 0, 0), (663, .iconst 1, 664, 0, 0, 0), (664, .iadd, 665, 0, 0, 0), (665, .iaload, 666, 0, 0, 0), (666, .aload_n 0, 667, 0, 0, 0), (667, .iload 4, 669, 0, 0, 0), (669, .iconst 2, 670, 0, 0, 0), (670, .iadd, 671, 0, 0, 0), (671, .iaload, 672, 0, 0, 0), (672, .invokevirtual 78, 675, 86, 2, 0), (675, .pop, 676, 0, 0, 0), (676, .aload_n 2, 677, 0, 0, 0), (677, .aload_n 0, 678, 0, 0, 0), (678, .iload 4, 680, 0, 0, 0), (680, .iconst 1, 681, 0, 0, 0), (681, .iadd, 682, 0, 0, 0), (682, .iaload, 683, 0, 0, 0), (683, .aload_n 0, 684, 0, 0, 0), (684, .iload 4, 686, 0, 0, 0), (686, .iconst 2, 687, 0, 0, 0), (687, .iadd, 688, 0, 0, 0), (688, .iaload, 689, 0, 0, 0), (689, .invokevirtual 81, 692, 151, 2, 0), (692, .pop, 693, 0, 0, 0), (693, .goto 887, 696, 1580, 0, 0), (696, .aload_n 1, 697, 0, 0, 0), (697, .aload_n 0, 698, 0, 0, 0), (698, .iload 4, 700, 0, 0, 0), (700, .iconst 1, 701, 0, 0, 0), (701, .iadd, 702, 0, 0, 0), (702, .iaload, 703, 0, 0, 0), (703, .aload_n 0, 704, 0, 0, 0), (704, .iload 4, 706, 0, 0, 0), (706, .iconst 2, 707, 0, 0, 0), (707, .iadd, 708, 0, 0, 0), (708, .iaload, 709, 0, 0, 0), (709, .invokevirtual 82, 712, 87, 2, 0), (712, .pop, 713, 0, 0, 0), (713, .aload_n 2, 714, 0, 0, 0), (714, .aload_n 0, 715, 0, 0, 0)]
theorem oL_law_7 : ∀ e ∈ tL_law_7, zgood fRL cL_law 8 false e = true := by decide +kernel
def tL_law_8 : List zE := [(715, .iload 4, 717, 0, 0, 0), (717, .iconst 1, 718, 0, 0, 0), (718, .iadd, 719, 0, 0, 0), (719, .iaload, 720, 0, 0, 0), (720, .aload_n 0, 721, 0, 0, 0), (721, .iload 4, 723, 0, 0, 0), (723, .iconst 2, 724, 0, 0, 0), (724, .iadd, 725, 0, 0, 0), (725, .iaload, 726, 0, 0, 0), (726, .invokevirtual 85, 729, 152, 2, 0), (729, .pop, 730, 0, 0, 0), (730, .goto 850, 733, 1580, 0, 0), (733, .aload_n 1, 734, 0, 0, 0), (734, .aload_n 0, 735, 0, 0, 0), (735, .iload 4, 737, 0, 0, 0), (737, .iconst 1, 738, 0, 0, 0), (738, .iadd, 739, 0, 0, 0), (739, .iaload, 740, 0, 0, 0), (740, .aload_n 0, 741, 0, 0, 0), (741, .iload 4, 743, 0, 0, 0), (743, .iconst 2, 744, 0, 0, 0), (744, .iadd, 745, 0, 0, 0), (745, .iaload, 746, 0, 0, 0), (746, .invokevirtual 86, 749, 88, 2, 0), (749, .pop, 750, 0, 0, 0), (750, .aload_n 2, 751, 0, 0, 0), (751, .aload_n 0, 752, 0, 0, 0), (752, .iload 4, 754, 0, 0, 0), (754, .iconst 1, 755, 0, 0, 0), (755, .iadd, 756, 0, 0, 0), (756, .iaload, 757, 0, 0, 0), (757, .aload_n 0, 758, 0, 0, 0), (758, .iload 4, 760, 0, 0, 0), (760, .iconst 2, 761, 0, 0, 0), (761, .iadd, 762, 0, 0, 0), (762, .iaload, 763, 0, 0, 0), (763, .invokevirtual 89, 766, 153, 2, 0), (766, .pop, 767, 0, 0, 0), (767, .goto 813, 770, 1580, 0, 0), (770, .aload_n 1, 771, 0, 0, 0), (771, .invokevirtual 90, 774, 89, 0, 0), (774, .pop, 775, 0, 0, 0), (775, .aload_n 2, 776, 0, 0, 0), (776, .invokevirtual 93, 779, 155, 0, 0), (779, .pop, 780, 0, 0, 0), (780, .goto 800, 783, 1580, 0, 0), (783, .aload_n 1, 784, 0, 0, 0), (784, .aload_n 0, 785, 0, 0, 0), (785, .iload 4, 787, 0, 0, 0), (787, .iconst 1, 788, 0, 0, 0)]
theorem oL_law_8 : ∀ e ∈ tL_law_8, zgood fRL cL_law 8 false e = true := by decide +kernel
def tL_law_9 : List zE := [(788, .iadd, 789, 0, 0, 0), (789, .iaload, 790, 0, 0, 0), (790, .invokevirtual 94, 793, 90, 1, 0), (793, .pop, 794, 0, 0, 0), (794, .aload_n 2, 795, 0, 0, 0), (795, .aload_n 0, 796, 0, 0, 0), (796, .iload 4, 798, 0, 0, 0), (798, .iconst 1, 799, 0, 0, 0), (799, .iadd, 800, 0, 0, 0), (800, .iaload, 801, 0, 0, 0), (801, .invokevirtual 97, 804, 156, 1, 0), (804, .pop, 805, 0, 0, 0), (805, .goto 775, 808, 1580, 0, 0), (808, .aload_n 1, 809, 0, 0, 0), (809, .aload_n 0, 810, 0, 0, 0), (810, .iload 4, 812, 0, 0, 0), (812, .iconst 1, 813, 0, 0, 0), (813, .iadd, 814, 0, 0, 0), (814, .iaload, 815, 0, 0, 0), (815, .aload_n 3, 816, 0, 0, 0), (816, .invokestatic 98, 819, 9998, 0, 0), (819, .istore 5, 821, 0, 0, 0), (821, .aload_n 2, 822, 0, 0, 0), (822, .aload_n 0, 823, 0, 0, 0), (823, .iload 4, 825, 0, 0, 0), (825, .iconst 1, 826, 0, 0, 0), (826, .iadd, 827, 0, 0, 0), (827, .iaload, 828, 0, 0, 0), (828, .invokevirtual 103, 831, 164, 1, 0), (831, .lstore 6, 833, 0, 0, 0), (833, .goto 747, 836, 1580, 0, 0), (836, .aload_n 1, 837, 0, 0, 0), (837, .aload_n 0, 838, 0, 0, 0), (838, .iload 4, 840, 0, 0, 0), (840, .iconst 1, 841, 0, 0, 0), (841, .iadd, 842, 0, 0, 0), (842, .iaload, 843, 0, 0, 0), (843, .aload_n 0, 844, 0, 0, 0), (844, .iload 4, 846, 0, 0, 0), (846, .iconst 2, 847, 0, 0, 0), (847, .iadd, 848, 0, 0, 0), (848, .iaload, 849, 0, 0, 0), (849, .i2l, 850, 0, 0, 0), (850, .bipush 32, 852, 0, 0, 0), (852, .lshl, 853, 0, 0, 0), (853, .aload_n 0, 854, 0, 0, 0), (854, .iload 4, 856, 0, 0, 0), (856, .iconst 3, 857, 0, 0, 0), (857, .iadd, 858, 0, 0, 0), (858, .iaload, 859, 0, 0, 0)]
theorem oL_law_9 : ∀ e ∈ tL_law_9, zgood fRL cL_law 8 false e = true := by decide +kernel
def tL_law_10 : List zE := [(859, .i2l, 860, 0, 0, 0), (860, .ldc2_w 104, 863, 0, 0, 4294967295), (863, .land, 864, 0, 0, 0), (864, .lor, 865, 0, 0, 0), (865, .invokevirtual 106, 868, 92, 2, 0), (868, .pop, 869, 0, 0, 0), (869, .aload_n 2, 870, 0, 0, 0), (870, .aload_n 0, 871, 0, 0, 0), (871, .iload 4, 873, 0, 0, 0), (873, .iconst 1, 874, 0, 0, 0), (874, .iadd, 875, 0, 0, 0), (875, .iaload, 876, 0, 0, 0), (876, .aload_n 0, 877, 0, 0, 0), (877, .iload 4, 879, 0, 0, 0), (879, .iconst 2, 880, 0, 0, 0), (880, .iadd, 881, 0, 0, 0), (881, .iaload, 882, 0, 0, 0), (882, .i2l, 883, 0, 0, 0), (883, .bipush 32, 885, 0, 0, 0), (885, .lshl, 886, 0, 0, 0), (886, .aload_n 0, 887, 0, 0, 0), (887, .iload 4, 889, 0, 0, 0), (889, .iconst 3, 890, 0, 0, 0), (890, .iadd, 891, 0, 0, 0), (891, .iaload, 892, 0, 0, 0), (892, .i2l, 893, 0, 0, 0), (893, .ldc2_w 104, 896, 0, 0, 4294967295), (896, .land, 897, 0, 0, 0), (897, .lor, 898, 0, 0, 0), (898, .invokevirtual 110, 901, 168, 2, 0), (901, .pop, 902, 0, 0, 0), (902, .goto 678, 905, 1580, 0, 0), (905, .aload_n 1, 906, 0, 0, 0), (906, .aload_n 0, 907, 0, 0, 0), (907, .iload 4, 909, 0, 0, 0), (909, .iconst 1, 910, 0, 0, 0), (910, .iadd, 911, 0, 0, 0), (911, .iaload, 912, 0, 0, 0), (912, .aload_n 0, 913, 0, 0, 0), (913, .iload 4, 915, 0, 0, 0), (915, .iconst 2, 916, 0, 0, 0), (916, .iadd, 917, 0, 0, 0), (917, .iaload, 918, 0, 0, 0), (918, .invokevirtual 111, 921, 93, 2, 0), (921, .pop2, 922, 0, 0, 0), (922, .aload_n 2, 923, 0, 0, 0), (923, .aload_n 0, 924, 0, 0, 0), (924, .iload 4, 926, 0, 0, 0), (926, .iconst 1, 927, 0, 0, 0), (927, .iadd, 928, 0, 0, 0)]
theorem oL_law_10 : ∀ e ∈ tL_law_10, zgood fRL cL_law 8 false e = true := by decide +kernel
def tL_law_11 : List zE := [(928, .iaload, 929, 0, 0, 0), (929, .aload_n 0, 930, 0, 0, 0), (930, .iload 4, 932, 0, 0, 0), (932, .iconst 2, 933, 0, 0, 0), (933, .iadd, 934, 0, 0, 0), (934, .iaload, 935, 0, 0, 0), (935, .invokevirtual 114, 938, 173, 2, 0), (938, .pop2, 939, 0, 0, 0), (939, .goto 641, 942, 1580, 0, 0), (942, .aload_n 1, 943, 0, 0, 0), (943, .aload_n 0, 944, 0, 0, 0), (944, .iload 4, 946, 0, 0, 0), (946, .iconst 1, 947, 0, 0, 0), (947, .iadd, 948, 0, 0, 0), (948, .iaload, 949, 0, 0, 0), (949, .aload_n 0, 950, 0, 0, 0), (950, .iload 4, 952, 0, 0, 0), (952, .iconst 2, 953, 0, 0, 0), (953, .iadd, 954, 0, 0, 0), (954, .iaload, 955, 0, 0, 0), (955, .i2l, 956, 0, 0, 0), (956, .bipush 32, 958, 0, 0, 0), (958, .lshl, 959, 0, 0, 0), (959, .aload_n 0, 960, 0, 0, 0), (960, .iload 4, 962, 0, 0, 0), (962, .iconst 3, 963, 0, 0, 0), (963, .iadd, 964, 0, 0, 0), (964, .iaload, 965, 0, 0, 0), (965, .i2l, 966, 0, 0, 0), (966, .ldc2_w 104, 969, 0, 0, 4294967295), (969, .land, 970, 0, 0, 0), (970, .lor, 971, 0, 0, 0), (971, .aload_n 0, 972, 0, 0, 0), (972, .iload 4, 974, 0, 0, 0), (974, .iconst 4, 975, 0, 0, 0), (975, .iadd, 976, 0, 0, 0), (976, .iaload, 977, 0, 0, 0), (977, .i2l, 978, 0, 0, 0), (978, .bipush 32, 980, 0, 0, 0), (980, .lshl, 981, 0, 0, 0), (981, .aload_n 0, 982, 0, 0, 0), (982, .iload 4, 984, 0, 0, 0), (984, .iconst 5, 985, 0, 0, 0), (985, .iadd, 986, 0, 0, 0), (986, .iaload, 987, 0, 0, 0), (987, .i2l, 988, 0, 0, 0), (988, .ldc2_w 104, 991, 0, 0, 4294967295), (991, .land, 992, 0, 0, 0), (992, .lor, 993, 0, 0, 0), (993, .invokevirtual 115, 996, 94, 3, 0)]
theorem oL_law_11 : ∀ e ∈ tL_law_11, zgood fRL cL_law 8 false e = true := by decide +kernel
def tL_law_12 : List zE := [(996, .pop, 997, 0, 0, 0), (997, .aload_n 2, 998, 0, 0, 0), (998, .aload_n 0, 999, 0, 0, 0), (999, .iload 4, 1001, 0, 0, 0), (1001, .iconst 1, 1002, 0, 0, 0), (1002, .iadd, 1003, 0, 0, 0), (1003, .iaload, 1004, 0, 0, 0), (1004, .aload_n 0, 1005, 0, 0, 0), (1005, .iload 4, 1007, 0, 0, 0), (1007, .iconst 2, 1008, 0, 0, 0), (1008, .iadd, 1009, 0, 0, 0), (1009, .iaload, 1010, 0, 0, 0), (1010, .i2l, 1011, 0, 0, 0), (1011, .bipush 32, 1013, 0, 0, 0), (1013, .lshl, 1014, 0, 0, 0), (1014, .aload_n 0, 1015, 0, 0, 0), (1015, .iload 4, 1017, 0, 0, 0), (1017, .iconst 3, 1018, 0, 0, 0), (1018, .iadd, 1019, 0, 0, 0), (1019, .iaload, 1020, 0, 0, 0), (1020, .i2l, 1021, 0, 0, 0), (1021, .ldc2_w 104, 1024, 0, 0, 4294967295), (1024, .land, 1025, 0, 0, 0), (1025, .lor, 1026, 0, 0, 0), (1026, .aload_n 0, 1027, 0, 0, 0), (1027, .iload 4, 1029, 0, 0, 0), (1029, .iconst 4, 1030, 0, 0, 0), (1030, .iadd, 1031, 0, 0, 0), (1031, .iaload, 1032, 0, 0, 0), (1032, .i2l, 1033, 0, 0, 0), (1033, .bipush 32, 1035, 0, 0, 0), (1035, .lshl, 1036, 0, 0, 0), (1036, .aload_n 0, 1037, 0, 0, 0), (1037, .iload 4, 1039, 0, 0, 0), (1039, .iconst 5, 1040, 0, 0, 0), (1040, .iadd, 1041, 0, 0, 0), (1041, .iaload, 1042, 0, 0, 0), (1042, .i2l, 1043, 0, 0, 0), (1043, .ldc2_w 104, 1046, 0, 0, 4294967295), (1046, .land, 1047, 0, 0, 0), (1047, .lor, 1048, 0, 0, 0), (1048, .invokevirtual 119, 1051, 174, 3, 0), (1051, .pop, 1052, 0, 0, 0), (1052, .goto 528, 1055, 1580, 0, 0), (1055, .aload_n 1, 1056, 0, 0, 0), (1056, .aload_n 0, 1057, 0, 0, 0), (1057, .iload 4, 1059, 0, 0, 0), (1059, .iconst 1, 1060, 0, 0, 0), (1060, .iadd, 1061, 0, 0, 0), (1061, .iaload, 1062, 0, 0, 0)]
theorem oL_law_12 : ∀ e ∈ tL_law_12, zgood fRL cL_law 8 false e = true := by decide +kernel
def tL_law_13 : List zE := [(1062, .invokevirtual 120, 1065, 95, 1, 0), (1065, .pop, 1066, 0, 0, 0), (1066, .aload_n 2, 1067, 0, 0, 0), (1067, .aload_n 0, 1068, 0, 0, 0), (1068, .iload 4, 1070, 0, 0, 0), (1070, .iconst 1, 1071, 0, 0, 0), (1071, .iadd, 1072, 0, 0, 0), (1072, .iaload, 1073, 0, 0, 0), (1073, .invokevirtual 123, 1076, 177, 1, 0), (1076, .pop, 1077, 0, 0, 0), (1077, .goto 503, 1080, 1580, 0, 0), (1080, .aload_n 1, 1081, 0, 0, 0), (1081, .aload_n 0, 1082, 0, 0, 0), (1082, .iload 4, 1084, 0, 0, 0), (1084, .iconst 1, 1085, 0, 0, 0), (1085, .iadd, 1086, 0, 0, 0), (1086, .iaload, 1087, 0, 0, 0), (1087, .invokevirtual 124, 1090, 96, 1, 0), (1090, .pop, 1091, 0, 0, 0), (1091, .aload_n 2, 1092, 0, 0, 0), (1092, .aload_n 0, 1093, 0, 0, 0), (1093, .iload 4, 1095, 0, 0, 0), (1095, .iconst 1, 1096, 0, 0, 0), (1096, .iadd, 1097, 0, 0, 0), (1097, .iaload, 1098, 0, 0, 0), (1098, .invokevirtual 127, 1101, 179, 1, 0), (1101, .pop, 1102, 0, 0, 0), (1102, .goto 478, 1105, 1580, 0, 0), (1105, .aload_n 1, 1106, 0, 0, 0), (1106, .aload_n 0, 1107, 0, 0, 0), (1107, .iload 4, 1109, 0, 0, 0), (1109, .iconst 1, 1110, 0, 0, 0), (1110, .iadd, 1111, 0, 0, 0), (1111, .iaload, 1112, 0, 0, 0), (1112, .invokevirtual 128, 1115, 97, 1, 0), (1115, .pop, 1116, 0, 0, 0), (1116, .aload_n 2, 1117, 0, 0, 0), (1117, .aload_n 0, 1118, 0, 0, 0), (1118, .iload 4, 1120, 0, 0, 0), (1120, .iconst 1, 1121, 0, 0, 0), (1121, .iadd, 1122, 0, 0, 0), (1122, .iaload, 1123, 0, 0, 0), (1123, .invokevirtual 131, 1126, 181, 1, 0), (1126, .pop, 1127, 0, 0, 0), (1127, .goto 453, 1130, 1580, 0, 0), (1130, .aload_n 1, 1131, 0, 0, 0), (1131, .aload_n 0, 1132, 0, 0, 0), (1132, .iload 4, 1134, 0, 0, 0), (1134, .iconst 1, 1135, 0, 0, 0), (1135, .iadd, 1136, 0, 0, 0)]
theorem oL_law_13 : ∀ e ∈ tL_law_13, zgood fRL cL_law 8 false e = true := by decide +kernel
def tL_law_14 : List zE := [(1136, .iaload, 1137, 0, 0, 0), (1137, .aload_n 3, 1138, 0, 0, 0), (1138, .invokestatic 132, 1141, 9998, 0, 0), (1141, .istore 5, 1143, 0, 0, 0), (1143, .aload_n 2, 1144, 0, 0, 0), (1144, .aload_n 0, 1145, 0, 0, 0), (1145, .iload 4, 1147, 0, 0, 0), (1147, .iconst 1, 1148, 0, 0, 0), (1148, .iadd, 1149, 0, 0, 0), (1149, .iaload, 1150, 0, 0, 0), (1150, .invokevirtual 134, 1153, 182, 1, 0), (1153, .istore 6, 1155, 0, 0, 0), (1155, .goto 425, 1158, 1580, 0, 0), (1158, .aload_n 1, 1159, 0, 0, 0), (1159, .aload_n 0, 1160, 0, 0, 0), (1160, .iload 4, 1162, 0, 0, 0), (1162, .iconst 1, 1163, 0, 0, 0), (1163, .iadd, 1164, 0, 0, 0), (1164, .iaload, 1165, 0, 0, 0), (1165, .invokevirtual 135, 1168, 99, 1, 0), (1168, .pop, 1169, 0, 0, 0), (1169, .aload_n 2, 1170, 0, 0, 0), (1170, .aload_n 0, 1171, 0, 0, 0), (1171, .iload 4, 1173, 0, 0, 0), (1173, .iconst 1, 1174, 0, 0, 0), (1174, .iadd, 1175, 0, 0, 0), (1175, .iaload, 1176, 0, 0, 0), (1176, .invokevirtual 138, 1179, 183, 1, 0), (1179, .pop, 1180, 0, 0, 0), (1180, .goto 400, 1183, 1580, 0, 0), (1183, .aload_n 1, 1184, 0, 0, 0), (1184, .aload_n 0, 1185, 0, 0, 0), (1185, .iload 4, 1187, 0, 0, 0), (1187, .iconst 1, 1188, 0, 0, 0), (1188, .iadd, 1189, 0, 0, 0), (1189, .iaload, 1190, 0, 0, 0), (1190, .aload_n 0, 1191, 0, 0, 0), (1191, .iload 4, 1193, 0, 0, 0), (1193, .iconst 2, 1194, 0, 0, 0), (1194, .iadd, 1195, 0, 0, 0), (1195, .iaload, 1196, 0, 0, 0), (1196, .invokevirtual 139, 1199, 100, 2, 0), (1199, .pop, 1200, 0, 0, 0), (1200, .aload_n 2, 1201, 0, 0, 0), (1201, .aload_n 0, 1202, 0, 0, 0), (1202, .iload 4, 1204, 0, 0, 0), (1204, .iconst 1, 1205, 0, 0, 0), (1205, .iadd, 1206, 0, 0, 0), (1206, .iaload, 1207, 0, 0, 0), (1207, .aload_n 0, 1208, 0, 0, 0)]
theorem oL_law_14 : ∀ e ∈ tL_law_14, zgood fRL cL_law 8 false e = true := by decide +kernel
def tL_law_15 : List zE := [(1208, .iload 4, 1210, 0, 0, 0), (1210, .iconst 2, 1211, 0, 0, 0), (1211, .iadd, 1212, 0, 0, 0), (1212, .iaload, 1213, 0, 0, 0), (1213, .invokevirtual 142, 1216, 185, 2, 0), (1216, .pop, 1217, 0, 0, 0), (1217, .goto 363, 1220, 1580, 0, 0), (1220, .aload_n 1, 1221, 0, 0, 0), (1221, .aload_n 0, 1222, 0, 0, 0), (1222, .iload 4, 1224, 0, 0, 0), (1224, .iconst 1, 1225, 0, 0, 0), (1225, .iadd, 1226, 0, 0, 0), (1226, .iaload, 1227, 0, 0, 0), (1227, .aload_n 0, 1228, 0, 0, 0), (1228, .iload 4, 1230, 0, 0, 0), (1230, .iconst 2, 1231, 0, 0, 0), (1231, .iadd, 1232, 0, 0, 0), (1232, .iaload, 1233, 0, 0, 0), (1233, .invokevirtual 143, 1236, 101, 2, 0), (1236, .pop, 1237, 0, 0, 0), (1237, .aload_n 2, 1238, 0, 0, 0), (1238, .aload_n 0, 1239, 0, 0, 0), (1239, .iload 4, 1241, 0, 0, 0), (1241, .iconst 1, 1242, 0, 0, 0), (1242, .iadd, 1243, 0, 0, 0), (1243, .iaload, 1244, 0, 0, 0), (1244, .aload_n 0, 1245, 0, 0, 0), (1245, .iload 4, 1247, 0, 0, 0), (1247, .iconst 2, 1248, 0, 0, 0), (1248, .iadd, 1249, 0, 0, 0), (1249, .iaload, 1250, 0, 0, 0), (1250, .invokevirtual 146, 1253, 189, 2, 0), (1253, .pop, 1254, 0, 0, 0), (1254, .goto 326, 1257, 1580, 0, 0), (1257, .aload_n 1, 1258, 0, 0, 0), (1258, .aload_n 0, 1259, 0, 0, 0), (1259, .iload 4, 1261, 0, 0, 0), (1261, .iconst 1, 1262, 0, 0, 0), (1262, .iadd, 1263, 0, 0, 0), (1263, .iaload, 1264, 0, 0, 0), (1264, .aload_n 0, 1265, 0, 0, 0), (1265, .iload 4, 1267, 0, 0, 0), (1267, .iconst 2, 1268, 0, 0, 0), (1268, .iadd, 1269, 0, 0, 0), (1269, .iaload, 1270, 0, 0, 0), (1270, .invokevirtual 147, 1273, 102, 2, 0), (1273, .pop, 1274, 0, 0, 0), (1274, .aload_n 2, 1275, 0, 0, 0), (1275, .aload_n 0, 1276, 0, 0, 0), (1276, .iload 4, 1278, 0, 0, 0)]
theorem oL_law_15 : ∀ e ∈ tL_law_15, zgood fRL cL_law 8 false e = true := by decide +kernel
def tL_law_16 : List zE := [(1278, .iconst 1, 1279, 0, 0, 0), (1279, .iadd, 1280, 0, 0, 0), (1280, .iaload, 1281, 0, 0, 0), (1281, .aload_n 0, 1282, 0, 0, 0), (1282, .iload 4, 1284, 0, 0, 0), (1284, .iconst 2, 1285, 0, 0, 0), (1285, .iadd, 1286, 0, 0, 0), (1286, .iaload, 1287, 0, 0, 0), (1287, .invokevirtual 150, 1290, 190, 2, 0), (1290, .pop, 1291, 0, 0, 0), (1291, .goto 289, 1294, 1580, 0, 0), (1294, .aload_n 1, 1295, 0, 0, 0), (1295, .aload_n 0, 1296, 0, 0, 0), (1296, .iload 4, 1298, 0, 0, 0), (1298, .iconst 1, 1299, 0, 0, 0), (1299, .iadd, 1300, 0, 0, 0), (1300, .iaload, 1301, 0, 0, 0), (1301, .invokevirtual 151, 1304, 103, 1, 0), (1304, .pop, 1305, 0, 0, 0), (1305, .aload_n 2, 1306, 0, 0, 0), (1306, .aload_n 0, 1307, 0, 0, 0), (1307, .iload 4, 1309, 0, 0, 0), (1309, .iconst 1, 1310, 0, 0, 0), (1310, .iadd, 1311, 0, 0, 0), (1311, .iaload, 1312, 0, 0, 0), (1312, .invokevirtual 154, 1315, 192, 1, 0), (1315, .pop, 1316, 0, 0, 0), (1316, .goto 264, 1319, 1580, 0, 0), (1319, .aload_n 1, 1320, 0, 0, 0), (1320, .aload_n 0, 1321, 0, 0, 0), (1321, .iload 4, 1323, 0, 0, 0), (1323, .iconst 1, 1324, 0, 0, 0), (1324, .iadd, 1325, 0, 0, 0), (1325, .iaload, 1326, 0, 0, 0), (1326, .aload_n 0, 1327, 0, 0, 0), (1327, .iload 4, 1329, 0, 0, 0), (1329, .iconst 2, 1330, 0, 0, 0), (1330, .iadd, 1331, 0, 0, 0), (1331, .iaload, 1332, 0, 0, 0), (1332, .aload_n 0, 1333, 0, 0, 0), (1333, .iload 4, 1335, 0, 0, 0), (1335, .iconst 3, 1336, 0, 0, 0), (1336, .iadd, 1337, 0, 0, 0), (1337, .iaload, 1338, 0, 0, 0), (1338, .invokevirtual 155, 1341, 104, 3, 0), (1341, .pop, 1342, 0, 0, 0), (1342, .aload_n 2, 1343, 0, 0, 0), (1343, .aload_n 0, 1344, 0, 0, 0), (1344, .iload 4, 1346, 0, 0, 0), (1346, .iconst 1, 1347, 0, 0, 0)]
theorem oL_law_16 : ∀ e ∈ tL_law_16, zgood fRL cL_law 8 false e = true := by decide +kernel
def tL_law_17 : List zE := [(1347, .iadd, 1348, 0, 0, 0), (1348, .iaload, 1349, 0, 0, 0), (1349, .aload_n 0, 1350, 0, 0, 0), (1350, .iload 4, 1352, 0, 0, 0), (1352, .iconst 2, 1353, 0, 0, 0), (1353, .iadd, 1354, 0, 0, 0), (1354, .iaload, 1355, 0, 0, 0), (1355, .aload_n 0, 1356, 0, 0, 0), (1356, .iload 4, 1358, 0, 0, 0), (1358, .iconst 3, 1359, 0, 0, 0), (1359, .iadd, 1360, 0, 0, 0), (1360, .iaload, 1361, 0, 0, 0), (1361, .invokevirtual 158, 1364, 195, 3, 0), (1364, .pop, 1365, 0, 0, 0), (1365, .goto 215, 1368, 1580, 0, 0), (1368, .aload_n 1, 1369, 0, 0, 0), (1369, .aload_n 0, 1370, 0, 0, 0), (1370, .iload 4, 1372, 0, 0, 0), (1372, .iconst 1, 1373, 0, 0, 0), (1373, .iadd, 1374, 0, 0, 0), (1374, .iaload, 1375, 0, 0, 0), (1375, .aload_n 0, 1376, 0, 0, 0), (1376, .iload 4, 1378, 0, 0, 0), (1378, .iconst 2, 1379, 0, 0, 0), (1379, .iadd, 1380, 0, 0, 0), (1380, .iaload, 1381, 0, 0, 0), (1381, .aload_n 0, 1382, 0, 0, 0), (1382, .iload 4, 1384, 0, 0, 0), (1384, .iconst 3, 1385, 0, 0, 0), (1385, .iadd, 1386, 0, 0, 0), (1386, .iaload, 1387, 0, 0, 0), (1387, .invokevirtual 159, 1390, 105, 3, 0), (1390, .pop, 1391, 0, 0, 0), (1391, .aload_n 2, 1392, 0, 0, 0), (1392, .aload_n 0, 1393, 0, 0, 0), (1393, .iload 4, 1395, 0, 0, 0), (1395, .iconst 1, 1396, 0, 0, 0), (1396, .iadd, 1397, 0, 0, 0), (1397, .iaload, 1398, 0, 0, 0), (1398, .aload_n 0, 1399, 0, 0, 0), (1399, .iload 4, 1401, 0, 0, 0), (1401, .iconst 2, 1402, 0, 0, 0), (1402, .iadd, 1403, 0, 0, 0), (1403, .iaload, 1404, 0, 0, 0), (1404, .aload_n 0, 1405, 0, 0, 0), (1405, .iload 4, 1407, 0, 0, 0), (1407, .iconst 3, 1408, 0, 0, 0), (1408, .iadd, 1409, 0, 0, 0), (1409, .iaload, 1410, 0, 0, 0), (1410, .invokevirtual 162, 1413, 196, 3, 0)]
theorem oL_law_17 : ∀ e ∈ tL_law_17, zgood fRL cL_law 8 false e = true := by decide +kernel
def tL_law_18 : List zE := [(1413, .pop, 1414, 0, 0, 0), (1414, .goto 166, 1417, 1580, 0, 0), (1417, .aload_n 1, 1418, 0, 0, 0), (1418, .aload_n 0, 1419, 0, 0, 0), (1419, .iload 4, 1421, 0, 0, 0), (1421, .iconst 1, 1422, 0, 0, 0), (1422, .iadd, 1423, 0, 0, 0), (1423, .iaload, 1424, 0, 0, 0), (1424, .aload_n 0, 1425, 0, 0, 0), (1425, .iload 4, 1427, 0, 0, 0), (1427, .iconst 2, 1428, 0, 0, 0), (1428, .iadd, 1429, 0, 0, 0), (1429, .iaload, 1430, 0, 0, 0), (1430, .aload_n 3, 1431, 0, 0, 0), (1431, .invokestatic 163, 1434, 9998, 0, 0), (1434, .istore 5, 1436, 0, 0, 0), (1436, .aload_n 2, 1437, 0, 0, 0), (1437, .aload_n 0, 1438, 0, 0, 0), (1438, .iload 4, 1440, 0, 0, 0), (1440, .iconst 1, 1441, 0, 0, 0), (1441, .iadd, 1442, 0, 0, 0), (1442, .iaload, 1443, 0, 0, 0), (1443, .aload_n 0, 1444, 0, 0, 0), (1444, .iload 4, 1446, 0, 0, 0), (1446, .iconst 2, 1447, 0, 0, 0), (1447, .iadd, 1448, 0, 0, 0), (1448, .iaload, 1449, 0, 0, 0), (1449, .invokevirtual 166, 1452, 197, 2, 0), (1452, .lstore 6, 1454, 0, 0, 0), (1454, .goto 126, 1457, 1580, 0, 0), (1457, .aload_n 1, 1458, 0, 0, 0), (1458, .aload_n 0, 1459, 0, 0, 0), (1459, .iload 4, 1461, 0, 0, 0), (1461, .iconst 1, 1462, 0, 0, 0), (1462, .iadd, 1463, 0, 0, 0), (1463, .iaload, 1464, 0, 0, 0), (1464, .aload_n 0, 1465, 0, 0, 0), (1465, .iload 4, 1467, 0, 0, 0), (1467, .iconst 2, 1468, 0, 0, 0), (1468, .iadd, 1469, 0, 0, 0), (1469, .iaload, 1470, 0, 0, 0), (1470, .aload_n 0, 1471, 0, 0, 0), (1471, .iload 4, 1473, 0, 0, 0), (1473, .iconst 3, 1474, 0, 0, 0), (1474, .iadd, 1475, 0, 0, 0), (1475, .iaload, 1476, 0, 0, 0), (1476, .aload_n 0, 1477, 0, 0, 0), (1477, .iload 4, 1479, 0, 0, 0), (1479, .iconst 4, 1480, 0, 0, 0), (1480, .iadd, 1481, 0, 0, 0)]
theorem oL_law_18 : ∀ e ∈ tL_law_18, zgood fRL cL_law 8 false e = true := by decide +kernel
def tL_law_19 : List zE := [(1481, .iaload, 1482, 0, 0, 0), (1482, .aload_n 0, 1483, 0, 0, 0), (1483, .iload 4, 1485, 0, 0, 0), (1485, .iconst 5, 1486, 0, 0, 0), (1486, .iadd, 1487, 0, 0, 0), (1487, .iaload, 1488, 0, 0, 0), (1488, .invokevirtual 167, 1491, 107, 5, 0), (1491, .pop, 1492, 0, 0, 0), (1492, .aload_n 2, 1493, 0, 0, 0), (1493, .aload_n 0, 1494, 0, 0, 0), (1494, .iload 4, 1496, 0, 0, 0), (1496, .iconst 1, 1497, 0, 0, 0), (1497, .iadd, 1498, 0, 0, 0), (1498, .iaload, 1499, 0, 0, 0), (1499, .aload_n 0, 1500, 0, 0, 0), (1500, .iload 4, 1502, 0, 0, 0), (1502, .iconst 2, 1503, 0, 0, 0), (1503, .iadd, 1504, 0, 0, 0), (1504, .iaload, 1505, 0, 0, 0), (1505, .aload_n 0, 1506, 0, 0, 0), (1506, .iload 4, 1508, 0, 0, 0), (1508, .iconst 3, 1509, 0, 0, 0), (1509, .iadd, 1510, 0, 0, 0), (1510, .iaload, 1511, 0, 0, 0), (1511, .aload_n 0, 1512, 0, 0, 0), (1512, .iload 4, 1514, 0, 0, 0), (1514, .iconst 4, 1515, 0, 0, 0), (1515, .iadd, 1516, 0, 0, 0), (1516, .iaload, 1517, 0, 0, 0), (1517, .aload_n 0, 1518, 0, 0, 0), (1518, .iload 4, 1520, 0, 0, 0), (1520, .iconst 5, 1521, 0, 0, 0), (1521, .iadd, 1522, 0, 0, 0), (1522, .iaload, 1523, 0, 0, 0), (1523, .invokevirtual 171, 1526, 198, 5, 0), (1526, .pop, 1527, 0, 0, 0), (1527, .goto 53, 1530, 1580, 0, 0), (1530, .aload_n 1, 1531, 0, 0, 0), (1531, .aload_n 0, 1532, 0, 0, 0), (1532, .iload 4, 1534, 0, 0, 0), (1534, .iconst 1, 1535, 0, 0, 0), (1535, .iadd, 1536, 0, 0, 0), (1536, .iaload, 1537, 0, 0, 0), (1537, .invokevirtual 172, 1540, 108, 1, 0), (1540, .pop, 1541, 0, 0, 0), (1541, .aload_n 2, 1542, 0, 0, 0), (1542, .aload_n 0, 1543, 0, 0, 0), (1543, .iload 4, 1545, 0, 0, 0), (1545, .iconst 1, 1546, 0, 0, 0), (1546, .iadd, 1547, 0, 0, 0)]
theorem oL_law_19 : ∀ e ∈ tL_law_19, zgood fRL cL_law 8 false e = true := by decide +kernel
def tL_law_20 : List zE := [(1547, .iaload, 1548, 0, 0, 0), (1548, .invokevirtual 175, 1551, 200, 1, 0), (1551, .pop, 1552, 0, 0, 0), (1552, .goto 28, 1555, 1580, 0, 0), (1555, .aload_n 1, 1556, 0, 0, 0), (1556, .aload_n 0, 1557, 0, 0, 0), (1557, .iload 4, 1559, 0, 0, 0), (1559, .iconst 1, 1560, 0, 0, 0), (1560, .iadd, 1561, 0, 0, 0), (1561, .iaload, 1562, 0, 0, 0), (1562, .invokevirtual 176, 1565, 109, 1, 0), (1565, .pop, 1566, 0, 0, 0), (1566, .aload_n 2, 1567, 0, 0, 0), (1567, .aload_n 0, 1568, 0, 0, 0), (1568, .iload 4, 1570, 0, 0, 0), (1570, .iconst 1, 1571, 0, 0, 0), (1571, .iadd, 1572, 0, 0, 0), (1572, .iaload, 1573, 0, 0, 0), (1573, .invokevirtual 179, 1576, 201, 1, 0), (1576, .pop, 1577, 0, 0, 0), (1577, .goto 3, 1580, 1580, 0, 0), (1580, .iinc 4 6, 1583, 0, 0, 0), (1583, .goto (-1560), 1586, 23, 0, 0), (1586, .iconst 1, 1587, 0, 0, 0), (1587, .ireturn, 1588, 0, 0, 0)]
theorem oL_law_20 : ∀ e ∈ tL_law_20, zgood fRL cL_law 8 false e = true := by decide +kernel
def tL_law : List zE := tL_law_0 ++ (tL_law_1 ++ (tL_law_2 ++ (tL_law_3 ++ (tL_law_4 ++ (tL_law_5 ++ (tL_law_6 ++ (tL_law_7 ++ (tL_law_8 ++ (tL_law_9 ++ (tL_law_10 ++ (tL_law_11 ++ (tL_law_12 ++ (tL_law_13 ++ (tL_law_14 ++ (tL_law_15 ++ (tL_law_16 ++ (tL_law_17 ++ (tL_law_18 ++ (tL_law_19 ++ (tL_law_20))))))))))))))))))))
theorem oL_law : ∀ e ∈ tL_law, zgood fRL cL_law 8 false e = true := (zapp oL_law_0 (zapp oL_law_1 (zapp oL_law_2 (zapp oL_law_3 (zapp oL_law_4 (zapp oL_law_5 (zapp oL_law_6 (zapp oL_law_7 (zapp oL_law_8 (zapp oL_law_9 (zapp oL_law_10 (zapp oL_law_11 (zapp oL_law_12 (zapp oL_law_13 (zapp oL_law_14 (zapp oL_law_15 (zapp oL_law_16 (zapp oL_law_17 (zapp oL_law_18 (zapp oL_law_19 oL_law_20))))))))))))))))))))
end
section
def zfit : FieldType → Value → Bool
  | .int, .int _ => true
  | .long, .long _ => true
  | .boolean, .int x => (x == 0 || x == 1)
  | .array _, .ref _ => true
  | .object _, .ref _ => true
  | _, _ => false
theorem zfit_ok (ad : Nat → Nat) {ty : FieldType} {v : Value} (h : zfit ty v = true) : narrow ty (zv ad v) = zv ad v ∧ fits ty (zv ad v) = true := by
  cases ty <;> cases v <;> first | exact ⟨rfl, rfl⟩ | (cases h; done) | skip
  rename_i x
  have h2 : x = 0 ∨ x = 1 := by simpa [zfit] using h
  rcases h2 with rfl | rfl
  · exact ⟨(by decide +kernel : narrow FieldType.boolean (Value.int 0) = Value.int 0), (by decide +kernel : fits FieldType.boolean (Value.int 0) = true)⟩
  · exact ⟨(by decide +kernel : narrow FieldType.boolean (Value.int 1) = Value.int 1), (by decide +kernel : fits FieldType.boolean (Value.int 1) = true)⟩
def zldI (v : Option Value) (nxt : Nat) (l : zL) (st : List Value) (w : zW) : Option zN := match v with
  | some (.int x) => some (True, nxt, l, .int x :: st, w)
  | _ => none
def zldJ (v : Option Value) (nxt : Nat) (l : zL) (st : List Value) (w : zW) : Option zN := match v with
  | some (.long x) => some (True, nxt, l, .long x :: st, w)
  | _ => none
def zldA (v : Option Value) (nxt : Nat) (l : zL) (st : List Value) (w : zW) : Option zN := match v with
  | some (.ref x) => some (True, nxt, l, .ref x :: st, w)
  | _ => none
def zstI (i nxt : Nat) (l : zL) (st : List Value) (w : zW) : Option zN := match st with
  | .int x :: r => some (True, nxt, zset1 l i (.int x), r, w)
  | _ => none
def zstA (i nxt : Nat) (l : zL) (st : List Value) (w : zW) : Option zN := match st with
  | .ref x :: r => some (True, nxt, zset1 l i (.ref x), r, w)
  | _ => none
def zstJ (i nxt : Nat) (l : zL) (st : List Value) (w : zW) : Option zN := match st with
  | .long x :: r => some (True, nxt, zset2 l i (.long x), r, w)
  | _ => none
def zbI (P : Int32 → Int32 → Prop) (f : Int32 → Int32 → Int32) (nxt : Nat) (l : zL) (st : List Value) (w : zW) : Option zN := match st with
  | .int y :: .int x :: r => some (P x y, nxt, l, .int (f x y) :: r, w)
  | _ => none
def zbJ (P : Int64 → Int64 → Prop) (f : Int64 → Int64 → Int64) (nxt : Nat) (l : zL) (st : List Value) (w : zW) : Option zN := match st with
  | .long y :: .long x :: r => some (P x y, nxt, l, .long (f x y) :: r, w)
  | _ => none
def zbr1 (f : Int32 → Nat) (l : zL) (st : List Value) (w : zW) : Option zN := match st with
  | .int x :: r => some (True, f x, l, r, w)
  | _ => none
def zbr2 (f : Int32 → Int32 → Nat) (l : zL) (st : List Value) (w : zW) : Option zN := match st with
  | .int y :: .int x :: r => some (True, f x y, l, r, w)
  | _ => none
def zstep (ins : Instr) (pc nxt a b : Nat) (c : Int) (l : zL) (st : List Value) (w : zW) : Option zN := match ins with
  | .iload_n i => zldI (zget l i) nxt l st w
  | .iload i => zldI (zget l i) nxt l st w
  | .lload_n i => zldJ (zget l i) nxt l st w
  | .lload i => zldJ (zget l i) nxt l st w
  | .aload_n i => zldA (zget l i) nxt l st w
  | .aload i => zldA (zget l i) nxt l st w
  | .istore_n i => zstI i nxt l st w
  | .istore i => zstI i nxt l st w
  | .astore_n i => zstA i nxt l st w
  | .astore i => zstA i nxt l st w
  | .lstore_n i => zstJ i nxt l st w
  | .lstore i => zstJ i nxt l st w
  | .iinc i n => match zget l i with
    | some (.int x) => some (True, nxt, zset1 l i (.int (x + Int32.ofInt n)), st, w)
    | _ => none
  | .iconst n => some (True, nxt, l, .int (Int32.ofInt n) :: st, w)
  | .bipush n => some (True, nxt, l, .int (Int8.ofInt n).toInt32 :: st, w)
  | .sipush n => some (True, nxt, l, .int (Int16.ofInt n).toInt32 :: st, w)
  | .lconst n => some (True, nxt, l, .long (Int64.ofNat (n : Nat)) :: st, w)
  | .ldc _ => some (True, nxt, l, .int (Int32.ofInt c) :: st, w)
  | .ldc_w _ => some (True, nxt, l, .int (Int32.ofInt c) :: st, w)
  | .ldc2_w _ => some (True, nxt, l, .long (Int64.ofInt c) :: st, w)
  | .iadd => zbI (fun _ _ => True) (fun x y => x + y) nxt l st w
  | .isub => zbI (fun _ _ => True) (fun x y => x - y) nxt l st w
  | .imul => zbI (fun _ _ => True) (fun x y => x * y) nxt l st w
  | .idiv => zbI (fun _ y => ¬ y = 0) (fun x y => x / y) nxt l st w
  | .irem => zbI (fun _ y => ¬ y = 0) (fun x y => x - x / y * y) nxt l st w
  | .iand => zbI (fun _ _ => True) (fun x y => x &&& y) nxt l st w
  | .ior => zbI (fun _ _ => True) (fun x y => x ||| y) nxt l st w
  | .ixor => zbI (fun _ _ => True) (fun x y => x ^^^ y) nxt l st w
  | .ishl => zbI (fun _ _ => True) (fun x y => x <<< (y &&& 31)) nxt l st w
  | .ishr => zbI (fun _ _ => True) (fun x y => x >>> (y &&& 31)) nxt l st w
  | .iushr => zbI (fun _ _ => True) (fun x y => (x.toUInt32 >>> (y.toUInt32 &&& Int32.toUInt32 31)).toInt32) nxt l st w
  | .ladd => zbJ (fun _ _ => True) (fun x y => x + y) nxt l st w
  | .lsub => zbJ (fun _ _ => True) (fun x y => x - y) nxt l st w
  | .lmul => zbJ (fun _ _ => True) (fun x y => x * y) nxt l st w
  | .ldiv => zbJ (fun _ y => ¬ y = 0) (fun x y => x / y) nxt l st w
  | .lrem => zbJ (fun _ y => ¬ y = 0) (fun x y => x - x / y * y) nxt l st w
  | .land => zbJ (fun _ _ => True) (fun x y => x &&& y) nxt l st w
  | .lor => zbJ (fun _ _ => True) (fun x y => x ||| y) nxt l st w
  | .lshl => match st with
    | .int y :: .long x :: r => some (True, nxt, l, .long (x <<< (y.toInt64 &&& 63)) :: r, w)
    | _ => none
  | .i2l => match st with
    | .int x :: r => some (True, nxt, l, .long x.toInt64 :: r, w)
    | _ => none
  | .lcmp => match st with
    | .long y :: .long x :: r => some (True, nxt, l, .int (lg_cmp x y) :: r, w)
    | _ => none
  | .dup => match st with
    | v :: r => bif Nat.beq v.category 1 then some (True, nxt, l, v :: v :: r, w) else none
    | _ => none
  | .dup2 => match st with
    | .long x :: r => some (True, nxt, l, .long x :: .long x :: r, w)
    | .int y :: .ref x :: r => some (True, nxt, l, .int y :: .ref x :: .int y :: .ref x :: r, w)
    | .int y :: .int x :: r => some (True, nxt, l, .int y :: .int x :: .int y :: .int x :: r, w)
    | _ => none
  | .pop => match st with
    | v :: r => bif Nat.beq v.category 1 then some (True, nxt, l, r, w) else none
    | _ => none
  | .pop2 => match st with
    | .long _ :: r => some (True, nxt, l, r, w)
    | _ => none
  | .ifCond .eq _ => zbr1 (fun x => if x = 0 then a else nxt) l st w
  | .ifCond .ne _ => zbr1 (fun x => if ¬ x = 0 then a else nxt) l st w
  | .ifCond .lt _ => zbr1 (fun x => if x < 0 then a else nxt) l st w
  | .ifCond .ge _ => zbr1 (fun x => if 0 ≤ x then a else nxt) l st w
  | .ifCond .gt _ => zbr1 (fun x => if 0 < x then a else nxt) l st w
  | .ifCond .le _ => zbr1 (fun x => if x ≤ 0 then a else nxt) l st w
  | .if_icmp .eq _ => zbr2 (fun x y => if x = y then a else nxt) l st w
  | .if_icmp .ne _ => zbr2 (fun x y => if ¬ x = y then a else nxt) l st w
  | .if_icmp .lt _ => zbr2 (fun x y => if x < y then a else nxt) l st w
  | .if_icmp .ge _ => zbr2 (fun x y => if y ≤ x then a else nxt) l st w
  | .if_icmp .gt _ => zbr2 (fun x y => if y < x then a else nxt) l st w
  | .if_icmp .le _ => zbr2 (fun x y => if x ≤ y then a else nxt) l st w
  | .goto _ => some (True, a, l, st, w)
  | .tableswitch dflt lo hi offs => match st with
    | .int x :: r => some ((0 ≤ (pc : Int) + dflt ∧ ∀ o ∈ offs.toList, 0 ≤ (pc : Int) + o) ∧ (hi - lo).toNat < offs.size, (((pc : Int) + (if x.toInt < lo ∨ hi < x.toInt then dflt else offs.getD (x.toInt - lo).toNat 0)).toNat), l, r, w)
    | _ => none
  | .lookupswitch dflt ps => match st with
    | .int x :: r => some ((ps.toList.zip (ps.toList.drop 1)).all (fun (a, next) => a.1 < next.1) = true ∧ 0 ≤ (pc : Int) + Op.lookupswitch.offset ps.toList dflt x.toInt, ((pc : Int) + Op.lookupswitch.offset ps.toList dflt x.toInt).toNat, l, r, w)
    | _ => none
  | .getfield _ => match st with
    | .ref k :: r => match w[k]? with
      | some (.inr (.inr (.inr (ci, fs)))) => bif Nat.beq ci a then (match fs[b]? with
        | some v => some (True, nxt, l, v :: r, w)
        | none => none) else none
      | _ => none
    | _ => none
  | .putfield _ => match st with
    | v :: .ref k :: r => match w[k]? with
      | some (.inr (.inr (.inr (ci, fs)))) => bif (Nat.beq ci a && (Nat.blt b fs.length && zfit (zty a b) v)) then some (True, nxt, l, r, w.set k (.inr (.inr (.inr (ci, fs.set b v))))) else none
      | _ => none
    | _ => none
  | .iaload => match st with
    | .int i :: .ref k :: r => match w[k]? with
      | some (.inl (0, n, f)) => some (vp_in i n, nxt, l, .int (f i.toNatClampNeg) :: r, w)
      | _ => none
    | _ => none
  | .baload => match st with
    | .int i :: .ref k :: r => match w[k]? with
      | some (.inl (1, n, f)) => some (vp_in i n, nxt, l, .int (f i.toNatClampNeg) :: r, w)
      | _ => none
    | _ => none
  | .laload => match st with
    | .int i :: .ref k :: r => match w[k]? with
      | some (.inr (.inl (n, f))) => some (vp_in i n, nxt, l, .long (f i.toNatClampNeg) :: r, w)
      | _ => none
    | _ => none
  | .iastore => match st with
    | .int x :: .int i :: .ref k :: r => match w[k]? with
      | some (.inl (0, n, f)) => some (vp_in i n, nxt, l, r, w.set k (.inl (0, n, upd f i.toNatClampNeg x)))
      | _ => none
    | _ => none
  | .bastore => match st with
    | .int x :: .int i :: .ref k :: r => match w[k]? with
      | some (.inl (1, n, f)) => some (vp_in i n, nxt, l, r, w.set k (.inl (1, n, upd f i.toNatClampNeg (vp_nar .boolean x))))
      | _ => none
    | _ => none
  | .lastore => match st with
    | .long x :: .int i :: .ref k :: r => match w[k]? with
      | some (.inr (.inl (n, f))) => some (vp_in i n, nxt, l, r, w.set k (.inr (.inl (n, vp_updL f i.toNatClampNeg x))))
      | _ => none
    | _ => none
  | .arraylength => match st with
    | .ref k :: r => match w[k]? with
      | some (.inl (0, n, _)) => some (True, nxt, l, .int (Int32.ofNat n) :: r, w)
      | _ => none
    | _ => none
  | _ => none
/-! the judgement: from this point of a method, whatever the machine around it, the method comes to a return with an answer and a world that Q takes -/
/-- what the tables say of the classes, and of the two arrays of references -/
def zKx (dC : Nat → ClassId) (dI : Nat → Nat → Nat) (dA : Nat → ClassId) (U : State) : Prop := va_K (dC, dI) vwCl (ztys dA) U ∧ (Cond.arrayOver (.object RX3)).before #[] U = true ∧ (Cond.arrayOver (.array .long)).before #[] U = true
theorem zover {ty : FieldType} {u U : State} (hvm : u.vm.Alike U.vm) (h : (Cond.arrayOver ty).before #[] u = true) : (Cond.arrayOver ty).before #[] U = true :=
  (show (Cond.arrayOver ty).before #[] (u.setVm U.vm) = true by rw [Cond.arrayOver_setVmC hvm]; exact h)
theorem zKx.moved {dC : Nat → ClassId} {dI : Nat → Nat → Nat} {dA : Nat → ClassId} {u U : State} (hvm : u.vm.Alike U.vm) (h : zKx dC dI dA u) : zKx dC dI dA U := ⟨va_K.moved hvm h.1, zover hvm h.2.1, zover hvm h.2.2⟩
def zsent : Nat := 1000000
abbrev zM : Type := String × ByteArray × Nat × Bool × Room × Option FieldType × (Program → Launch → Env → State → MethodId → Array Value → List Frame → Method → Code → (Nat → ClassId) → (Nat → Nat → Nat) → (Nat → ClassId) → (Nat → Nat) → (Nat → Prop) → (State → Prop) → Prop)
def zctx (M : zM) (p : Program) (l0 : Launch) (e : Env) (s : State) (m : MethodId) (args : Array Value) (below : List Frame) (meth : Method) (c : Code) (dC : Nat → ClassId) (dI : Nat → Nat → Nat) (dA : Nat → ClassId) (ad0 : Nat → Nat) (A : Nat → Prop) (Z : State → Prop) : Prop :=
  p.tables.exec = Jvm.exec ∧ c.code = M.2.1 ∧ c.maxLocals = M.2.2.1 ∧ s.vm.findClass M.1 = some m.cls ∧ (∀ w ∈ zG, w.before args s = true) ∧ zKx dC dI dA s ∧ (∀ q, s.heap.size ≤ q → A q) ∧ (M.2.2.2.1 = true → meth.name = "<init>") ∧ M.2.2.2.2.2.2 p l0 e s m args below meth c dC dI dA ad0 A Z
def zrel (dC : Nat → ClassId) (dI : Nat → Nat → Nat) (dA : Nat → ClassId) (ad0 ad : Nat → Nat) (A : Nat → Prop) (n0 : Nat) (al : Bool) (H0 H : Heap) (locs : List Loc) (w : zW) : Prop :=
  (al = false → ad = ad0) ∧ (∀ k, (k < n0 ∨ zsent ≤ k) → ad k = ad0 k) ∧ va_P (dC, dI) vwCl (zw dA ad w) H ∧ va_D A (zw dA ad w) ∧ va_S A H0 H locs
def zrt (cc : ByteArray) (ret : Option FieldType) (pc : Nat) : Option Value → Prop
  | none => ret = none ∧ decode cc pc = .ok (.return_, 1)
  | some (.int x) => ((ret = some .int) ∨ (ret = some .boolean ∧ (x = 0 ∨ x = 1))) ∧ decode cc pc = .ok (.ireturn, 1)
  | some (.long _) => ret = some .long ∧ decode cc pc = .ok (.lreturn, 1)
  | _ => False
def zV (M : zM) (al : Bool) (n0 kc ks pc : Nat) (l : zL) (st : List Value) (w : zW) (Q : Option Value → zW → Prop) : Prop :=
  ∀ (p : Program) (l0 : Launch) (e : Env) (s : State) (m : MethodId) (args : Array Value) (below : List Frame) (meth : Method) (c : Code) (dC : Nat → ClassId) (dI : Nat → Nat → Nat) (dA : Nat → ClassId) (ad0 : Nat → Nat) (A : Nat → Prop) (Z : State → Prop),
    l0.stackTraces = false → zctx M p l0 e s m args below meth c dC dI dA ad0 A Z →
    (∀ (ad : Nat → Nat) (H : Heap) (locs : List Loc) (kc ks pc : Nat) (ls : Array Slot) (v : Option Value) (w : zW), zrel dC dI dA ad0 ad A n0 al s.heap H locs w → Q v w → kc ≤ M.2.2.2.2.1.cells → ks ≤ M.2.2.2.2.1.slots → zrt M.2.1 M.2.2.2.2.2.1 pc v → W p l0 e M.2.2.2.2.1 s m args below meth c H locs kc ks Z (F0 m pc ls (v.map (zv ad)).toList)) →
    ∀ (ad : Nat → Nat) (H : Heap) (locs : List Loc) (ls : Array Slot), zrel dC dI dA ad0 ad A n0 al s.heap H locs w → lv_has ls M.2.2.1 (zl ad l) → W p l0 e M.2.2.2.2.1 s m args below meth c H locs kc ks Z (F0 m pc ls (st.map (zv ad)))
/-- a method's table, and its class's links -/
def zTb (M : zM) (tb : List zE) : Prop := ∃ F, zFTok M.1 F ∧ ∀ e ∈ tb, zgood F M.2.1 M.2.2.1 M.2.2.2.1 e = true
end
section
section ZS
variable {M : zM} {al : Bool} {n0 kc ks pc nxt a b : Nat} {c0 : Int} {l l' : zL} {st st' : List Value} {w w' : zW} {Q : Option Value → zW → Prop} {P : Prop} {pc' : Nat} {ins : Instr}
theorem zldI_inv {v : Option Value} (h : zldI v nxt l st w = some (P, pc', l', st', w')) : ∃ x, v = some (.int x) ∧ True = P ∧ nxt = pc' ∧ l = l' ∧ .int x :: st = st' ∧ w = w' := by
  unfold zldI at h; split at h
  · rename_i x; cases h; exact ⟨x, rfl, rfl, rfl, rfl, rfl, rfl⟩
  · cases h
theorem zldJ_inv {v : Option Value} (h : zldJ v nxt l st w = some (P, pc', l', st', w')) : ∃ x, v = some (.long x) ∧ True = P ∧ nxt = pc' ∧ l = l' ∧ .long x :: st = st' ∧ w = w' := by
  unfold zldJ at h; split at h
  · rename_i x; cases h; exact ⟨x, rfl, rfl, rfl, rfl, rfl, rfl⟩
  · cases h
theorem zldA_inv {v : Option Value} (h : zldA v nxt l st w = some (P, pc', l', st', w')) : ∃ x, v = some (.ref x) ∧ True = P ∧ nxt = pc' ∧ l = l' ∧ .ref x :: st = st' ∧ w = w' := by
  unfold zldA at h; split at h
  · rename_i x; cases h; exact ⟨x, rfl, rfl, rfl, rfl, rfl, rfl⟩
  · cases h
theorem zstI_inv {i : Nat} (h : zstI i nxt l st w = some (P, pc', l', st', w')) : ∃ x, st = .int x :: st' ∧ True = P ∧ nxt = pc' ∧ zset1 l i (.int x) = l' ∧ w = w' := by
  unfold zstI at h; split at h
  · rename_i x r; cases h; exact ⟨x, rfl, rfl, rfl, rfl, rfl⟩
  · cases h
theorem zstA_inv {i : Nat} (h : zstA i nxt l st w = some (P, pc', l', st', w')) : ∃ x, st = .ref x :: st' ∧ True = P ∧ nxt = pc' ∧ zset1 l i (.ref x) = l' ∧ w = w' := by
  unfold zstA at h; split at h
  · rename_i x r; cases h; exact ⟨x, rfl, rfl, rfl, rfl, rfl⟩
  · cases h
theorem zstJ_inv {i : Nat} (h : zstJ i nxt l st w = some (P, pc', l', st', w')) : ∃ x, st = .long x :: st' ∧ True = P ∧ nxt = pc' ∧ zset2 l i (.long x) = l' ∧ w = w' := by
  unfold zstJ at h; split at h
  · rename_i x r; cases h; exact ⟨x, rfl, rfl, rfl, rfl, rfl⟩
  · cases h
theorem zbI_inv {Pf : Int32 → Int32 → Prop} {f : Int32 → Int32 → Int32} (h : zbI Pf f nxt l st w = some (P, pc', l', st', w')) : ∃ x y r, st = .int y :: .int x :: r ∧ Pf x y = P ∧ nxt = pc' ∧ l = l' ∧ .int (f x y) :: r = st' ∧ w = w' := by
  unfold zbI at h; split at h
  · rename_i y x r; cases h; exact ⟨x, y, r, rfl, rfl, rfl, rfl, rfl, rfl⟩
  · cases h
theorem zbJ_inv {Pf : Int64 → Int64 → Prop} {f : Int64 → Int64 → Int64} (h : zbJ Pf f nxt l st w = some (P, pc', l', st', w')) : ∃ x y r, st = .long y :: .long x :: r ∧ Pf x y = P ∧ nxt = pc' ∧ l = l' ∧ .long (f x y) :: r = st' ∧ w = w' := by
  unfold zbJ at h; split at h
  · rename_i y x r; cases h; exact ⟨x, y, r, rfl, rfl, rfl, rfl, rfl, rfl⟩
  · cases h
theorem zbr1_inv {f : Int32 → Nat} (h : zbr1 f l st w = some (P, pc', l', st', w')) : ∃ x, st = .int x :: st' ∧ True = P ∧ f x = pc' ∧ l = l' ∧ w = w' := by
  unfold zbr1 at h; split at h
  · rename_i x r; cases h; exact ⟨x, rfl, rfl, rfl, rfl, rfl⟩
  · cases h
theorem zbr2_inv {f : Int32 → Int32 → Nat} (h : zbr2 f l st w = some (P, pc', l', st', w')) : ∃ x y, st = .int y :: .int x :: st' ∧ True = P ∧ f x y = pc' ∧ l = l' ∧ w = w' := by
  unfold zbr2 at h; split at h
  · rename_i y x r; cases h; exact ⟨x, y, rfl, rfl, rfl, rfl, rfl⟩
  · cases h
set_option maxHeartbeats 4000000 in
/-- one step, sound -/
theorem zv_st (hd : decode M.2.1 pc = .ok (ins, nxt - pc)) (hn : zlenok ins pc nxt = true) {F : zFT} (hF : zFTok M.1 F) (hg : zgd F M.2.2.1 M.2.2.2.1 pc ins a b c0 = true)
    (h : zstep ins pc nxt a b c0 l st w = some (P, pc', l', st', w')) (hp : P) (k : zV M al n0 kc ks pc' l' st' w' Q) : zV M al n0 kc ks pc l st w Q := by
  intro p l0 e s m args below meth c dC dI dA ad0 A Z h9t hctx hfin ad H locs ls hrel hl
  have kk := k p l0 e s m args below meth c dC dI dA ad0 A Z h9t hctx hfin ad
  obtain ⟨hx, hb, hml, hown, hts, ⟨hK, -⟩, hA, hin⟩ := hctx
  cases ins with
  | iload_n i =>
    have hnx : nxt = pc + 1 := of_decide_eq_true hn
    subst hnx
    rw [Nat.add_sub_cancel_left] at hd
    obtain ⟨x, hv, rfl, rfl, rfl, rfl, rfl⟩ := zldI_inv h
    exact lv_iload_n hx hb hd rfl (zl_at hl hv) (kk H locs ls hrel hl)
  | iload i =>
    have hnx : nxt = pc + 2 := of_decide_eq_true hn
    subst hnx
    rw [Nat.add_sub_cancel_left] at hd
    obtain ⟨x, hv, rfl, rfl, rfl, rfl, rfl⟩ := zldI_inv h
    exact lv_iload hx hb hd (zl_at hl hv) (kk H locs ls hrel hl)
  | lload_n i =>
    have hnx : nxt = pc + 1 := of_decide_eq_true hn
    subst hnx
    rw [Nat.add_sub_cancel_left] at hd
    obtain ⟨x, hv, rfl, rfl, rfl, rfl, rfl⟩ := zldJ_inv h
    exact lv_lload_n hx hb hd rfl (zl_at hl hv) (kk H locs ls hrel hl)
  | lload i =>
    have hnx : nxt = pc + 2 := of_decide_eq_true hn
    subst hnx
    rw [Nat.add_sub_cancel_left] at hd
    obtain ⟨x, hv, rfl, rfl, rfl, rfl, rfl⟩ := zldJ_inv h
    exact lv_lload hx hb hd (zl_at hl hv) (kk H locs ls hrel hl)
  | aload_n i =>
    have hnx : nxt = pc + 1 := of_decide_eq_true hn
    subst hnx
    rw [Nat.add_sub_cancel_left] at hd
    obtain ⟨x, hv, rfl, rfl, rfl, rfl, rfl⟩ := zldA_inv h
    exact lv_aload_n hx hb hd rfl (zl_at hl hv) (kk H locs ls hrel hl)
  | aload i =>
    have hnx : nxt = pc + 2 := of_decide_eq_true hn
    subst hnx
    rw [Nat.add_sub_cancel_left] at hd
    obtain ⟨x, hv, rfl, rfl, rfl, rfl, rfl⟩ := zldA_inv h
    exact lv_aload hx hb hd (zl_at hl hv) (kk H locs ls hrel hl)
  | istore_n i =>
    have hnx : nxt = pc + 1 := of_decide_eq_true hn
    subst hnx
    rw [Nat.add_sub_cancel_left] at hd
    obtain ⟨x, rfl, rfl, rfl, rfl, rfl⟩ := zstI_inv h
    exact lv_istore_n hx hb hd rfl hl (of_decide_eq_true hg) (zl_set1 ad l _ (.int x)) (fun ls' hl' => kk H locs ls' hrel hl')
  | istore i =>
    have hnx : nxt = pc + 2 := of_decide_eq_true hn
    subst hnx
    rw [Nat.add_sub_cancel_left] at hd
    obtain ⟨x, rfl, rfl, rfl, rfl, rfl⟩ := zstI_inv h
    exact lv_istore hx hb hd hl (of_decide_eq_true hg) (zl_set1 ad l _ (.int x)) (fun ls' hl' => kk H locs ls' hrel hl')
  | astore_n i =>
    have hnx : nxt = pc + 1 := of_decide_eq_true hn
    subst hnx
    rw [Nat.add_sub_cancel_left] at hd
    obtain ⟨x, rfl, rfl, rfl, rfl, rfl⟩ := zstA_inv h
    exact lv_astore_n hx hb hd rfl hl (of_decide_eq_true hg) (zl_set1 ad l _ (.ref x)) (fun ls' hl' => kk H locs ls' hrel hl')
  | astore i =>
    have hnx : nxt = pc + 2 := of_decide_eq_true hn
    subst hnx
    rw [Nat.add_sub_cancel_left] at hd
    obtain ⟨x, rfl, rfl, rfl, rfl, rfl⟩ := zstA_inv h
    exact lv_astore hx hb hd hl (of_decide_eq_true hg) (zl_set1 ad l _ (.ref x)) (fun ls' hl' => kk H locs ls' hrel hl')
  | lstore_n i =>
    have hnx : nxt = pc + 1 := of_decide_eq_true hn
    subst hnx
    rw [Nat.add_sub_cancel_left] at hd
    obtain ⟨x, rfl, rfl, rfl, rfl, rfl⟩ := zstJ_inv h
    exact lv_lstore_n hx hb hd rfl hl (of_decide_eq_true hg) (zl_set2 ad l _ (.long x)) (fun ls' hl' => kk H locs ls' hrel hl')
  | lstore i =>
    have hnx : nxt = pc + 2 := of_decide_eq_true hn
    subst hnx
    rw [Nat.add_sub_cancel_left] at hd
    obtain ⟨x, rfl, rfl, rfl, rfl, rfl⟩ := zstJ_inv h
    exact lv_lstore hx hb hd hl (of_decide_eq_true hg) (zl_set2 ad l _ (.long x)) (fun ls' hl' => kk H locs ls' hrel hl')
  | iinc i n =>
    have hnx : nxt = pc + 3 := of_decide_eq_true hn
    subst hnx
    rw [Nat.add_sub_cancel_left] at hd
    simp only [zstep] at h
    split at h
    · rename_i x hv
      cases h
      obtain ⟨j, hj⟩ := List.getElem?_of_mem (List.mem_map.mpr ⟨(i, Value.int x), zget_mem hv, rfl⟩ : ((i, zv ad (.int x)) : Nat × Value) ∈ zl ad l)
      exact lv_iinc hx hb hd hl hj rfl (of_decide_eq_true hg) (zl_set1 ad l i (.int (x + Int32.ofInt n))) (fun ls' hl' => kk H locs ls' hrel hl')
    · cases h
  | iconst n =>
    have hnx : nxt = pc + 1 := of_decide_eq_true hn
    subst hnx
    rw [Nat.add_sub_cancel_left] at hd
    cases h
    exact lv_iconst hx hb hd rfl (kk H locs ls hrel hl)
  | bipush n =>
    have hnx : nxt = pc + 2 := of_decide_eq_true hn
    subst hnx
    rw [Nat.add_sub_cancel_left] at hd
    cases h
    exact lv_bipush hx hb hd rfl (kk H locs ls hrel hl)
  | sipush n =>
    have hnx : nxt = pc + 3 := of_decide_eq_true hn
    subst hnx
    rw [Nat.add_sub_cancel_left] at hd
    cases h
    exact lv_sipush hx hb hd rfl (kk H locs ls hrel hl)
  | lconst n =>
    have hnx : nxt = pc + 1 := of_decide_eq_true hn
    subst hnx
    rw [Nat.add_sub_cancel_left] at hd
    cases h
    exact lv_lconst hx hb hd rfl (kk H locs ls hrel hl)
  | ldc i =>
    have hnx : nxt = pc + 2 := of_decide_eq_true hn
    subst hnx
    rw [Nat.add_sub_cancel_left] at hd
    cases h
    exact lv_ldc hx hb hown (hts (Cond.constant M.1 i (Int32.ofInt c0)) (hF.2.2.1 (i, c0) (by simpa only [zgd, decide_eq_true_eq] using hg))) hd (kk H locs ls hrel hl)
  | ldc_w i =>
    have hnx : nxt = pc + 3 := of_decide_eq_true hn
    subst hnx
    rw [Nat.add_sub_cancel_left] at hd
    cases h
    exact lv_ldcw hx hb hown (hts (Cond.constant M.1 i (Int32.ofInt c0)) (hF.2.2.1 (i, c0) (by simpa only [zgd, decide_eq_true_eq] using hg))) hd (kk H locs ls hrel hl)
  | ldc2_w i =>
    have hnx : nxt = pc + 3 := of_decide_eq_true hn
    subst hnx
    rw [Nat.add_sub_cancel_left] at hd
    cases h
    exact lv_ldc2 hx hb hown (hts (Cond.constantLong M.1 i (Int64.ofInt c0)) (hF.2.2.2.1 (i, c0) (by simpa only [zgd, decide_eq_true_eq] using hg))) hd (kk H locs ls hrel hl)
  | iadd =>
    have hnx : nxt = pc + 1 := of_decide_eq_true hn
    subst hnx
    rw [Nat.add_sub_cancel_left] at hd
    obtain ⟨x, y, r, rfl, rfl, rfl, rfl, rfl, rfl⟩ := zbI_inv h
    exact lv_iadd hx hb hd (kk H locs ls hrel hl)
  | isub =>
    have hnx : nxt = pc + 1 := of_decide_eq_true hn
    subst hnx
    rw [Nat.add_sub_cancel_left] at hd
    obtain ⟨x, y, r, rfl, rfl, rfl, rfl, rfl, rfl⟩ := zbI_inv h
    exact lv_isub hx hb hd (kk H locs ls hrel hl)
  | imul =>
    have hnx : nxt = pc + 1 := of_decide_eq_true hn
    subst hnx
    rw [Nat.add_sub_cancel_left] at hd
    obtain ⟨x, y, r, rfl, rfl, rfl, rfl, rfl, rfl⟩ := zbI_inv h
    exact lv_imul hx hb hd (kk H locs ls hrel hl)
  | iand =>
    have hnx : nxt = pc + 1 := of_decide_eq_true hn
    subst hnx
    rw [Nat.add_sub_cancel_left] at hd
    obtain ⟨x, y, r, rfl, rfl, rfl, rfl, rfl, rfl⟩ := zbI_inv h
    exact lv_iand hx hb hd (kk H locs ls hrel hl)
  | ior =>
    have hnx : nxt = pc + 1 := of_decide_eq_true hn
    subst hnx
    rw [Nat.add_sub_cancel_left] at hd
    obtain ⟨x, y, r, rfl, rfl, rfl, rfl, rfl, rfl⟩ := zbI_inv h
    exact lv_ior hx hb hd (kk H locs ls hrel hl)
  | ixor =>
    have hnx : nxt = pc + 1 := of_decide_eq_true hn
    subst hnx
    rw [Nat.add_sub_cancel_left] at hd
    obtain ⟨x, y, r, rfl, rfl, rfl, rfl, rfl, rfl⟩ := zbI_inv h
    exact lv_ixor hx hb hd (kk H locs ls hrel hl)
  | ishl =>
    have hnx : nxt = pc + 1 := of_decide_eq_true hn
    subst hnx
    rw [Nat.add_sub_cancel_left] at hd
    obtain ⟨x, y, r, rfl, rfl, rfl, rfl, rfl, rfl⟩ := zbI_inv h
    exact lv_ishl hx hb hd (kk H locs ls hrel hl)
  | ishr =>
    have hnx : nxt = pc + 1 := of_decide_eq_true hn
    subst hnx
    rw [Nat.add_sub_cancel_left] at hd
    obtain ⟨x, y, r, rfl, rfl, rfl, rfl, rfl, rfl⟩ := zbI_inv h
    exact lv_ishr hx hb hd (kk H locs ls hrel hl)
  | iushr =>
    have hnx : nxt = pc + 1 := of_decide_eq_true hn
    subst hnx
    rw [Nat.add_sub_cancel_left] at hd
    obtain ⟨x, y, r, rfl, rfl, rfl, rfl, rfl, rfl⟩ := zbI_inv h
    exact lv_iushr hx hb hd rfl (kk H locs ls hrel hl)
  | idiv =>
    have hnx : nxt = pc + 1 := of_decide_eq_true hn
    subst hnx
    rw [Nat.add_sub_cancel_left] at hd
    obtain ⟨x, y, r, rfl, rfl, rfl, rfl, rfl, rfl⟩ := zbI_inv h
    exact lv_idiv hx hb hd hp (kk H locs ls hrel hl)
  | irem =>
    have hnx : nxt = pc + 1 := of_decide_eq_true hn
    subst hnx
    rw [Nat.add_sub_cancel_left] at hd
    obtain ⟨x, y, r, rfl, rfl, rfl, rfl, rfl, rfl⟩ := zbI_inv h
    exact lv_irem hx hb hd hp (kk H locs ls hrel hl)
  | ladd =>
    have hnx : nxt = pc + 1 := of_decide_eq_true hn
    subst hnx
    rw [Nat.add_sub_cancel_left] at hd
    obtain ⟨x, y, r, rfl, rfl, rfl, rfl, rfl, rfl⟩ := zbJ_inv h
    exact lv_ladd hx hb hd (kk H locs ls hrel hl)
  | lsub =>
    have hnx : nxt = pc + 1 := of_decide_eq_true hn
    subst hnx
    rw [Nat.add_sub_cancel_left] at hd
    obtain ⟨x, y, r, rfl, rfl, rfl, rfl, rfl, rfl⟩ := zbJ_inv h
    exact lv_lsub hx hb hd (kk H locs ls hrel hl)
  | lmul =>
    have hnx : nxt = pc + 1 := of_decide_eq_true hn
    subst hnx
    rw [Nat.add_sub_cancel_left] at hd
    obtain ⟨x, y, r, rfl, rfl, rfl, rfl, rfl, rfl⟩ := zbJ_inv h
    exact lv_lmul hx hb hd (kk H locs ls hrel hl)
  | land =>
    have hnx : nxt = pc + 1 := of_decide_eq_true hn
    subst hnx
    rw [Nat.add_sub_cancel_left] at hd
    obtain ⟨x, y, r, rfl, rfl, rfl, rfl, rfl, rfl⟩ := zbJ_inv h
    exact lv_land hx hb hd (kk H locs ls hrel hl)
  | lor =>
    have hnx : nxt = pc + 1 := of_decide_eq_true hn
    subst hnx
    rw [Nat.add_sub_cancel_left] at hd
    obtain ⟨x, y, r, rfl, rfl, rfl, rfl, rfl, rfl⟩ := zbJ_inv h
    exact lv_lor hx hb hd (kk H locs ls hrel hl)
  | ldiv =>
    have hnx : nxt = pc + 1 := of_decide_eq_true hn
    subst hnx
    rw [Nat.add_sub_cancel_left] at hd
    obtain ⟨x, y, r, rfl, rfl, rfl, rfl, rfl, rfl⟩ := zbJ_inv h
    exact lv_ldiv hx hb hd hp (kk H locs ls hrel hl)
  | lrem =>
    have hnx : nxt = pc + 1 := of_decide_eq_true hn
    subst hnx
    rw [Nat.add_sub_cancel_left] at hd
    obtain ⟨x, y, r, rfl, rfl, rfl, rfl, rfl, rfl⟩ := zbJ_inv h
    exact lv_lrem hx hb hd hp (kk H locs ls hrel hl)
  | lshl =>
    have hnx : nxt = pc + 1 := of_decide_eq_true hn
    subst hnx
    rw [Nat.add_sub_cancel_left] at hd
    simp only [zstep] at h
    split at h
    · cases h
      exact lv_lshl hx hb hd rfl (kk H locs ls hrel hl)
    · cases h
  | i2l =>
    have hnx : nxt = pc + 1 := of_decide_eq_true hn
    subst hnx
    rw [Nat.add_sub_cancel_left] at hd
    simp only [zstep] at h
    split at h
    · cases h
      exact lv_i2l hx hb hd rfl (kk H locs ls hrel hl)
    · cases h
  | lcmp =>
    have hnx : nxt = pc + 1 := of_decide_eq_true hn
    subst hnx
    rw [Nat.add_sub_cancel_left] at hd
    simp only [zstep] at h
    split at h
    · cases h
      exact W.lcmp hx hb hd (kk H locs ls hrel hl)
    · cases h
  | dup =>
    have hnx : nxt = pc + 1 := of_decide_eq_true hn
    subst hnx
    rw [Nat.add_sub_cancel_left] at hd
    simp only [zstep] at h
    split at h
    · rename_i v r
      cases hc : Nat.beq v.category 1 with
      | true =>
        rw [hc] at h; cases h
        exact lv_dup hx hb hd ((zv_cat ad v).trans (Nat.eq_of_beq_eq_true hc)) (kk H locs ls hrel hl)
      | false => rw [hc] at h; cases h
    · cases h
  | pop =>
    have hnx : nxt = pc + 1 := of_decide_eq_true hn
    subst hnx
    rw [Nat.add_sub_cancel_left] at hd
    simp only [zstep] at h
    split at h
    · rename_i v r
      cases hc : Nat.beq v.category 1 with
      | true =>
        rw [hc] at h; cases h
        exact lv_pop hx hb hd ((zv_cat ad v).trans (Nat.eq_of_beq_eq_true hc)) (kk H locs ls hrel hl)
      | false => rw [hc] at h; cases h
    · cases h
  | dup2 =>
    have hnx : nxt = pc + 1 := of_decide_eq_true hn
    subst hnx
    rw [Nat.add_sub_cancel_left] at hd
    simp only [zstep] at h
    split at h
    · cases h
      exact lv_dup2_2 (va := .long _) hx hb hd rfl (kk H locs ls hrel hl)
    · cases h
      exact lv_dup2_11 (va := .int _) (vb := .ref _) hx hb hd rfl rfl (kk H locs ls hrel hl)
    · cases h
      exact lv_dup2_11 (va := .int _) (vb := .int _) hx hb hd rfl rfl (kk H locs ls hrel hl)
    · cases h
  | pop2 =>
    have hnx : nxt = pc + 1 := of_decide_eq_true hn
    subst hnx
    rw [Nat.add_sub_cancel_left] at hd
    simp only [zstep] at h
    split at h
    · cases h
      exact lv_pop2_2 (va := .long _) hx hb hd rfl (kk H locs ls hrel hl)
    · cases h
  | ifCond cd off =>
    have hnx : nxt = pc + 3 := of_decide_eq_true hn
    subst hnx
    rw [Nat.add_sub_cancel_left] at hd
    have ht : (pc : Int) + off = (a : Int) := of_decide_eq_true hg
    cases cd with
    | eq =>
      obtain ⟨x, rfl, rfl, rfl, rfl, rfl⟩ := zbr1_inv h
      exact lv_if_eq hx hb hd ht (fun q => by have k2 := kk H locs ls hrel hl; rw [if_pos q] at k2; exact k2) (fun q => by have k2 := kk H locs ls hrel hl; rw [if_neg q] at k2; exact k2)
    | ne =>
      obtain ⟨x, rfl, rfl, rfl, rfl, rfl⟩ := zbr1_inv h
      exact lv_if_ne hx hb hd ht (fun q => by have k2 := kk H locs ls hrel hl; rw [if_pos q] at k2; exact k2) (fun q => by have k2 := kk H locs ls hrel hl; rw [if_neg (fun z => z q)] at k2; exact k2)
    | lt =>
      obtain ⟨x, rfl, rfl, rfl, rfl, rfl⟩ := zbr1_inv h
      exact lv_if_lt hx hb hd ht (fun q => by have k2 := kk H locs ls hrel hl; rw [if_pos q] at k2; exact k2) (fun q => by have k2 := kk H locs ls hrel hl; rw [if_neg q] at k2; exact k2)
    | ge =>
      obtain ⟨x, rfl, rfl, rfl, rfl, rfl⟩ := zbr1_inv h
      exact lv_if_ge hx hb hd ht (fun q => by have k2 := kk H locs ls hrel hl; rw [if_pos q] at k2; exact k2) (fun q => by have k2 := kk H locs ls hrel hl; rw [if_neg q] at k2; exact k2)
    | gt =>
      obtain ⟨x, rfl, rfl, rfl, rfl, rfl⟩ := zbr1_inv h
      exact lv_if_gt hx hb hd ht (fun q => by have k2 := kk H locs ls hrel hl; rw [if_pos q] at k2; exact k2) (fun q => by have k2 := kk H locs ls hrel hl; rw [if_neg q] at k2; exact k2)
    | le =>
      obtain ⟨x, rfl, rfl, rfl, rfl, rfl⟩ := zbr1_inv h
      exact lv_if_le hx hb hd ht (fun q => by have k2 := kk H locs ls hrel hl; rw [if_pos q] at k2; exact k2) (fun q => by have k2 := kk H locs ls hrel hl; rw [if_neg q] at k2; exact k2)
  | if_icmp cd off =>
    have hnx : nxt = pc + 3 := of_decide_eq_true hn
    subst hnx
    rw [Nat.add_sub_cancel_left] at hd
    have ht : (pc : Int) + off = (a : Int) := of_decide_eq_true hg
    cases cd with
    | eq =>
      obtain ⟨x, y, rfl, rfl, rfl, rfl, rfl⟩ := zbr2_inv h
      exact lv_icmp_eq hx hb hd ht (fun q => by have k2 := kk H locs ls hrel hl; rw [if_pos q] at k2; exact k2) (fun q => by have k2 := kk H locs ls hrel hl; rw [if_neg q] at k2; exact k2)
    | ne =>
      obtain ⟨x, y, rfl, rfl, rfl, rfl, rfl⟩ := zbr2_inv h
      exact lv_icmp_ne hx hb hd ht (fun q => by have k2 := kk H locs ls hrel hl; rw [if_pos q] at k2; exact k2) (fun q => by have k2 := kk H locs ls hrel hl; rw [if_neg (fun z => z q)] at k2; exact k2)
    | lt =>
      obtain ⟨x, y, rfl, rfl, rfl, rfl, rfl⟩ := zbr2_inv h
      exact lv_icmp_lt hx hb hd ht (fun q => by have k2 := kk H locs ls hrel hl; rw [if_pos q] at k2; exact k2) (fun q => by have k2 := kk H locs ls hrel hl; rw [if_neg q] at k2; exact k2)
    | ge =>
      obtain ⟨x, y, rfl, rfl, rfl, rfl, rfl⟩ := zbr2_inv h
      exact lv_icmp_ge hx hb hd ht (fun q => by have k2 := kk H locs ls hrel hl; rw [if_pos q] at k2; exact k2) (fun q => by have k2 := kk H locs ls hrel hl; rw [if_neg q] at k2; exact k2)
    | gt =>
      obtain ⟨x, y, rfl, rfl, rfl, rfl, rfl⟩ := zbr2_inv h
      exact lv_icmp_gt hx hb hd ht (fun q => by have k2 := kk H locs ls hrel hl; rw [if_pos q] at k2; exact k2) (fun q => by have k2 := kk H locs ls hrel hl; rw [if_neg q] at k2; exact k2)
    | le =>
      obtain ⟨x, y, rfl, rfl, rfl, rfl, rfl⟩ := zbr2_inv h
      exact lv_icmp_le hx hb hd ht (fun q => by have k2 := kk H locs ls hrel hl; rw [if_pos q] at k2; exact k2) (fun q => by have k2 := kk H locs ls hrel hl; rw [if_neg q] at k2; exact k2)
  | goto off =>
    have hnx : nxt = pc + 3 := of_decide_eq_true hn
    subst hnx
    rw [Nat.add_sub_cancel_left] at hd
    cases h
    exact lv_goto hx hb hd (of_decide_eq_true hg) (kk H locs ls hrel hl)
  | tableswitch dflt lo hi offs =>
    simp only [zstep] at h
    split at h
    · rename_i x r
      cases h
      obtain ⟨⟨p1, p2⟩, p3⟩ := hp
      by_cases hq : x.toInt < lo ∨ hi < x.toInt
      · have k2 := kk H locs ls hrel hl
        rw [if_pos hq] at k2
        exact lv_tableOut hx hb hd hq (Int.toNat_of_nonneg p1).symm k2
      · have k2 := kk H locs ls hrel hl
        rw [if_neg hq] at k2
        have h1 : ¬ x.toInt < lo := fun z => hq (Or.inl z)
        have h2 : ¬ hi < x.toInt := fun z => hq (Or.inr z)
        have h3 : (x.toInt - lo).toNat < offs.size := by omega
        have h4 : offs[(x.toInt - lo).toNat]? = some (offs.getD (x.toInt - lo).toNat 0) := by simp [Array.getD, h3]
        have h5 : 0 ≤ (pc : Int) + offs.getD (x.toInt - lo).toNat 0 := p2 _ (Array.mem_toList_iff.mpr (Array.mem_of_getElem? h4))
        exact lv_tableIn hx hb hd h1 h2 h4 (Int.toNat_of_nonneg h5).symm k2
    · cases h
  | lookupswitch dflt ps =>
    simp only [zstep] at h
    split at h
    · rename_i x r
      cases h
      exact lv_lookup hx hb hd hp.1 rfl (Int.toNat_of_nonneg hp.2).symm (kk H locs ls hrel hl)
    · cases h
  | getfield i =>
    have hnx : nxt = pc + 3 := of_decide_eq_true hn
    subst hnx
    rw [Nat.add_sub_cancel_left] at hd
    simp only [zstep] at h
    split at h
    · rename_i q r
      split at h
      · rename_i ci fs hw
        cases hc : Nat.beq ci a with
        | false => rw [hc] at h; cases h
        | true =>
          rw [hc] at h
          have e0 := Nat.eq_of_beq_eq_true hc
          subst e0
          dsimp only [cond] at h
          split at h
          · rename_i v hv
            cases h
            simp only [zgd, Bool.or_eq_true, decide_eq_true_eq] at hg
            have hg2 : ∃ r, vwCl[ci]? = some r ∧ b < r.2.2 ∧ Cond.fieldLink M.1 i (r.2.1 b).1 (r.2.1 b).2.1 (r.2.1 b).2.2.1 ∈ zG := by
              rcases hg with hg | hg | hg
              · obtain ⟨r, h1, h2, h3, -⟩ := hF.1 _ hg; exact ⟨r, h1, h2, h3⟩
              · obtain ⟨r, h1, h2, h3, -⟩ := hF.1 _ hg; exact ⟨r, h1, h2, h3⟩
              · obtain ⟨r, h1, h2, h3, -⟩ := hF.1 _ hg; exact ⟨r, h1, h2, h3⟩
            obtain ⟨r0, hr0, hg⟩ := hg2
            exact va_get (D := (dC, dI)) (ci := ci) (v := zv ad v) hx hb hts (zin_ok hr0) hown hK hrel.2.2.1 q (zw_at hw) hr0 b hg.1 (hts _ hg.2) (fun _ h9 => h9) (by rw [List.getElem?_map, hv]; rfl) hd (kk H locs ls hrel hl)
          · cases h
      · cases h
    · cases h
  | putfield i =>
    have hnx : nxt = pc + 3 := of_decide_eq_true hn
    subst hnx
    rw [Nat.add_sub_cancel_left] at hd
    simp only [zstep] at h
    split at h
    · rename_i v q r
      split at h
      · rename_i ci fs hw
        cases hc : (Nat.beq ci a && (Nat.blt b fs.length && zfit (zty a b) v)) with
        | false => rw [hc] at h; cases h
        | true =>
          rw [hc] at h
          dsimp only [cond] at h
          simp only [Bool.and_eq_true] at hc
          obtain ⟨c1, c2, c3⟩ := hc
          have e0 := Nat.eq_of_beq_eq_true c1
          subst e0
          have hbl : b < (fs.map (zv ad)).length := by rw [List.length_map]; exact Nat.le_of_ble_eq_true c2
          cases h
          simp only [zgd, Bool.or_eq_true, Bool.and_eq_true, decide_eq_true_eq] at hg
          have hg2 : ∃ r, vwCl[ci]? = some r ∧ b < r.2.2 ∧ Cond.fieldLink M.1 i (r.2.1 b).1 (r.2.1 b).2.1 (r.2.1 b).2.2.1 ∈ zG ∧ ((r.2.1 b).2.2.2 = false ∨ (M.2.2.2.1 = true ∧ (r.2.1 b).1 = M.1)) := by
            rcases hg with hg | ⟨hg1, hg⟩
            · obtain ⟨r, h1, h2, h3, ⟨-, h4⟩ | ⟨h4, -⟩ | h4⟩ := hF.1 _ hg
              · exact ⟨r, h1, h2, h3, Or.inl h4⟩
              · cases h4
              · cases h4
            · obtain ⟨r, h1, h2, h3, ⟨h4, -⟩ | ⟨-, -, h5⟩ | h4⟩ := hF.1 _ hg
              · cases h4
              · exact ⟨r, h1, h2, h3, Or.inr ⟨hg1, h5⟩⟩
              · cases h4
          obtain ⟨r0, hr0, g1, g2, g3⟩ := hg2
          obtain ⟨f1, f2⟩ := zfit_ok ad c3
          have hlt := zlt7 hr0
          have fin : ∀ (H1 : Heap) (locs1 : List Loc), va_P (dC, dI) vwCl ((zw dA ad w).set q (ad q, .inr (ci, (fs.map (zv ad)).set b (zv ad v)))) H1 → va_D A ((zw dA ad w).set q (ad q, .inr (ci, (fs.map (zv ad)).set b (zv ad v)))) → va_S A s.heap H1 locs1 → W p l0 e M.2.2.2.2.1 s m args below meth c H1 locs1 kc ks Z (F0 m (pc + 3) ls (st'.map (zv ad))) := by
            intro H1 locs1 hP1 hD1 hS1
            have ew : (zw dA ad w).set q (ad q, .inr (ci, (fs.map (zv ad)).set b (zv ad v))) = zw dA ad (w.set q (.inr (.inr (.inr (ci, fs.set b v))))) := by rw [← zw_set, ← List.map_set]; rfl
            rw [ew] at hP1 hD1
            exact kk H1 locs1 ls ⟨hrel.1, hrel.2.1, hP1, hD1, hS1⟩ hl
          cases hz : (r0.2.1 b).2.2.2 with
          | false => exact va_put (D := (dC, dI)) (ci := ci) (v := zv ad v) (ty := zty ci b) hx hb hts (zin_ok hr0) (zty ci) (zty_ok ci hlt r0 hr0) (znm_ok ci hlt r0 hr0) hown hK hrel.2.2.1 hrel.2.2.2.1 hrel.2.2.2.2 q (zw_at hw) hr0 b g1 (hts _ g2) (fun _ h9 => h9) hz (zty_ok ci hlt r0 hr0 b g1) f1 f2 hbl hd fin
          | true =>
            rcases g3 with g3 | g3
            · rw [hz] at g3; cases g3
            · exact va_putF (D := (dC, dI)) (ci := ci) (v := zv ad v) (ty := zty ci b) hx hb hts (zin_ok hr0) (zty ci) (zty_ok ci hlt r0 hr0) (znm_ok ci hlt r0 hr0) hown hK hrel.2.2.1 hrel.2.2.2.1 hrel.2.2.2.2 q (zw_at hw) hr0 b g1 (hts _ g2) (fun _ h9 => h9) hz (hin.1 g3.1) g3.2 (zty_ok ci hlt r0 hr0 b g1) f1 f2 hbl hd fin
      · cases h
    · cases h
  | iaload =>
    have hnx : nxt = pc + 1 := of_decide_eq_true hn
    subst hnx
    rw [Nat.add_sub_cancel_left] at hd
    simp only [zstep] at h
    split at h
    · rename_i i q r
      split at h
      · rename_i n f hw
        cases h
        exact va_iald hx hb hK hrel.2.2.1 q 0 (zw_at hw) rfl hp hd (kk H locs ls hrel hl)
      · cases h
    · cases h
  | baload =>
    have hnx : nxt = pc + 1 := of_decide_eq_true hn
    subst hnx
    rw [Nat.add_sub_cancel_left] at hd
    simp only [zstep] at h
    split at h
    · rename_i i q r
      split at h
      · rename_i n f hw
        cases h
        exact va_zald hx hb hK hrel.2.2.1 q 1 (zw_at hw) rfl hp hd (kk H locs ls hrel hl)
      · cases h
    · cases h
  | laload =>
    have hnx : nxt = pc + 1 := of_decide_eq_true hn
    subst hnx
    rw [Nat.add_sub_cancel_left] at hd
    simp only [zstep] at h
    split at h
    · rename_i i q r
      split at h
      · rename_i n f hw
        cases h
        exact va_lald hx hb hK hrel.2.2.1 q 2 (zw_at hw) rfl hp hd (kk H locs ls hrel hl)
      · cases h
    · cases h
  | iastore =>
    have hnx : nxt = pc + 1 := of_decide_eq_true hn
    subst hnx
    rw [Nat.add_sub_cancel_left] at hd
    simp only [zstep] at h
    split at h
    · rename_i x i q r
      split at h
      · rename_i n f hw
        cases h
        exact va_iast hx hb hK hrel.2.2.1 hrel.2.2.2.1 hrel.2.2.2.2 q 0 (zw_at hw) rfl hp hd (fun H1 locs1 hP1 hD1 hS1 => kk H1 locs1 ls ⟨hrel.1, hrel.2.1, (zw_set dA ad w q _) ▸ hP1, (zw_set dA ad w q _) ▸ hD1, hS1⟩ hl)
      · cases h
    · cases h
  | bastore =>
    have hnx : nxt = pc + 1 := of_decide_eq_true hn
    subst hnx
    rw [Nat.add_sub_cancel_left] at hd
    simp only [zstep] at h
    split at h
    · rename_i x i q r
      split at h
      · rename_i n f hw
        cases h
        exact va_zast hx hb hK hrel.2.2.1 hrel.2.2.2.1 hrel.2.2.2.2 q 1 (zw_at hw) rfl hp hd (fun H1 locs1 hP1 hD1 hS1 => kk H1 locs1 ls ⟨hrel.1, hrel.2.1, (zw_set dA ad w q _) ▸ hP1, (zw_set dA ad w q _) ▸ hD1, hS1⟩ hl)
      · cases h
    · cases h
  | lastore =>
    have hnx : nxt = pc + 1 := of_decide_eq_true hn
    subst hnx
    rw [Nat.add_sub_cancel_left] at hd
    simp only [zstep] at h
    split at h
    · rename_i x i q r
      split at h
      · rename_i n f hw
        cases h
        exact va_last hx hb hK hrel.2.2.1 hrel.2.2.2.1 hrel.2.2.2.2 q 2 (zw_at hw) rfl hp hd (fun H1 locs1 hP1 hD1 hS1 => kk H1 locs1 ls ⟨hrel.1, hrel.2.1, (zw_set dA ad w q _) ▸ hP1, (zw_set dA ad w q _) ▸ hD1, hS1⟩ hl)
      · cases h
    · cases h
  | arraylength =>
    have hnx : nxt = pc + 1 := of_decide_eq_true hn
    subst hnx
    rw [Nat.add_sub_cancel_left] at hd
    simp only [zstep] at h
    split at h
    · rename_i q r
      split at h
      · rename_i n f hw
        cases h
        exact va_alen hx hb hK hrel.2.2.1 q 0 (zw_at hw) rfl rfl hd (kk H locs ls hrel hl)
      · cases h
    · cases h
  | _ => cases h
theorem zv_step {tb : List zE} (ok : zTb M tb) (hl : zlook tb pc = some (ins, nxt, a, b, c0)) (h : zstep ins pc nxt a b c0 l st w = some (P, pc', l', st', w')) (hp : P) (k : zV M al n0 kc ks pc' l' st' w' Q) : zV M al n0 kc ks pc l st w Q := by
  obtain ⟨F, hF, ok⟩ := ok
  have h1 := ok _ (zlook_mem hl)
  simp only [zgood, Bool.and_eq_true, decide_eq_true_eq] at h1
  exact zv_st h1.1.1 h1.1.2 hF h1.2 h hp k
/-- n steps -/
def zrun (tb : List zE) : Nat → Nat → zL → List Value → zW → Option zN
  | 0, pc, l, st, w => some (True, pc, l, st, w)
  | n + 1, pc, l, st, w => match zlook tb pc with
    | some (ins, nxt, a, b, c) => match zstep ins pc nxt a b c l st w with
      | some (P, pc1, l1, st1, w1) => match zrun tb n pc1 l1 st1 w1 with
        | some (P2, r) => some (P ∧ P2, r)
        | none => none
      | none => none
    | none => none
theorem zv_run {tb : List zE} (ok : zTb M tb) : ∀ (n : Nat) {pc pc' : Nat} {l l' : zL} {st st' : List Value} {w w' : zW} {P : Prop} (h : zrun tb n pc l st w = some (P, pc', l', st', w')) (hp : P) (k : zV M al n0 kc ks pc' l' st' w' Q), zV M al n0 kc ks pc l st w Q := by
  intro n
  induction n with
  | zero => intro pc pc' l l' st st' w w' P h hp k; cases h; exact k
  | succ n ih =>
    intro pc pc' l l' st st' w w' P h hp k
    simp only [zrun] at h
    split at h
    · rename_i ins nxt a b c hlk
      split at h
      · rename_i P1 pc1 l1 st1 w1 hst
        split at h
        · rename_i P2 r hr
          cases h
          exact zv_step ok hlk hst hp.1 (ih hr hp.2 k)
        · cases h
      · cases h
    · cases h
end ZS
end
section
def zrm (d : Nat) (z : zMt) : Room := { frames := d, cells := z.2.2.2.2.2.1, slots := z.2.2.2.2.2.2.1, locals := 64 * d }
def zws (z : zMt) : List Cond := Cond.code z.1 z.2.1 z.2.2.1 z.2.2.2.1 :: zG
abbrev zMo (d : Nat) (z : zMt) : zM := (z.1.cls, z.2.1, z.2.2.1, Nat.beq z.2.2.2.2.2.2.2.1 2, zrm d z, z.2.2.2.1, fun _ _ _ _ _ _ _ _ _ _ _ _ _ _ _ => True)
def zQc (dC : Nat → ClassId) (dI : Nat → Nat → Nat) (dA : Nat → ClassId) (ad : Nat → Nat) (A : Nat → Prop) (n0 : Nat) (al : Bool) (Q : Option Value → zW → Prop) : Array Value → State → Outcome → State → Prop := fun _ st oc t =>
  (∃ (r : Option Value) (w' : zW) (ad' : Nat → Nat), oc = .returned (r.map (zv ad')) ∧ Q r w' ∧ (al = false → ad' = ad) ∧ (∀ k, (k < n0 ∨ zsent ≤ k) → ad' k = ad k) ∧ va_P (dC, dI) vwCl (zw dA ad' w') t.heap ∧ zKx dC dI dA t ∧ va_D A (zw dA ad' w')) ∧ va_F A st t
def zPc (dC : Nat → ClassId) (dI : Nat → Nat → Nat) (dA : Nat → ClassId) (ad : Nat → Nat) (as : List Value) (w : zW) (sz : Nat) : Array Value → State → Prop := va_Pc (as.map (zv ad)) (fun U => U.heap.size = sz ∧ va_P (dC, dI) vwCl (zw dA ad w) U.heap ∧ zKx dC dI dA U ∧ va_D (fun _ => True) (zw dA ad w))
/-- a method's contract: called with these arguments in this world, with room for d frames, it returns, and Q takes answer and world -/
def zK (d : Nat) (z : zMt) (as : List Value) (w : zW) (Q : Option Value → zW → Prop) : Prop :=
  ∀ (l0 : Launch), l0.stackTraces = false → ∀ (dC : Nat → ClassId) (dI : Nat → Nat → Nat) (dA : Nat → ClassId) (ad : Nat → Nat) (sz : Nat), Met l0 z.1 (zws z) (zrm d z) (zPc dC dI dA ad as w sz) (zQc dC dI dA ad (va_A (zw dA ad w) sz) w.length z.2.2.2.2.1 Q) z.2.2.2.2.2.1 z.2.2.2.2.2.2.1 (va_A (zw dA ad w) sz)
theorem zargs (ad : Nat → Nat) : ∀ (as : List Value) (i : Nat), lv_args i (as.map (zv ad)) = zl ad (lv_args i as)
  | [], _ => rfl
  | v :: vs, i => by
    simp only [List.map_cons, lv_args, zv_cat]
    rw [zargs ad vs]
    rfl
theorem zsl (ad : Nat → Nat) : ∀ as : List Value, (lg_sl (as.map (zv ad))).length = (lg_sl as).length
  | [] => rfl
  | v :: vs => by
    have ih := zsl ad vs
    unfold lg_sl at ih ⊢
    simp only [List.map_cons, List.flatMap_cons, List.length_append, zv_cat]
    rw [ih]
    split <;> rfl
set_option maxHeartbeats 1000000 in
theorem zK_of {d : Nat} {z : zMt} {as : List Value} {w : zW} {Q : Option Value → zW → Prop} (hq : zMok z) (hy : plainName z.1.cls = true) (hn : Nat.ble (lg_sl as).length z.2.2.1 = true) (h : zV (zMo d z) z.2.2.2.2.1 w.length 0 0 0 (lv_args 0 as) [] w Q) : zK d z as w Q := by
  intro l0 h9t dC dI dA ad sz
  refine Met.ofW (cc := z.2.1) (maxL := z.2.2.1) (ret := z.2.2.2.1) hy rfl ?_
  intro p e s m args below meth c s₁ B hml hv
  obtain ⟨rfl, hsz, hP, hK, hD0⟩ := hv
  have hts := atoms_spec (ws := zws z) B.pre
  have hown : s.vm.findClass z.1.cls = some m.cls := findClass_of_methodNamed B.named
  subst hsz
  have hD := hD0.self (sz := s.heap.size)
  have hA : ∀ q : Nat, s.heap.size ≤ q → va_A (zw dA ad w) s.heap.size q := fun q h => Or.inr h
  have hl := lv_entry (as.map (zv ad)) (n := z.2.2.1) (by rw [zsl]; exact Nat.le_of_ble_eq_true hn)
  rw [lg_entry_eq]
  generalize (lg_sl (as.map (zv ad)) ++ List.replicate (z.2.2.1 - (lg_sl (as.map (zv ad))).length) Slot.unset).toArray = ls at hl ⊢
  rw [zargs] at hl
  have hlk : meth.locks = false := B.notSynchronized
  have hr := B.returns
  refine h p l0 e s m (as.map (zv ad)).toArray below meth c dC dI dA ad (va_A (zw dA ad w) s.heap.size) (MQ below (zQc dC dI dA ad (va_A (zw dA ad w) s.heap.size) w.length z.2.2.2.2.1 Q) (as.map (zv ad)).toArray s z.2.2.2.2.2.1 z.2.2.2.2.2.2.1 (va_A (zw dA ad w) s.heap.size)) h9t ⟨B.exec, B.bytes, hml, hown, fun x hx => hts x (List.mem_cons_of_mem _ hx), hK, hA, fun hi => ?_, trivial⟩ ?_ ad s.heap [] ls ⟨fun _ => rfl, fun _ _ => rfl, hP, hD, va_S.rf⟩ hl
  · have h1 := (name_of_methodNamed B.named B.method).1
    have h2 : z.1.name = "<init>" := (hq.2.2.2.2.2 (Nat.eq_of_beq_eq_true hi)).2.1
    rw [h1, h2]
  · intro ad' H locs kc ks pc ls' v w' hrel hqq hkc hks hrt
    refine W.widen (k := z.2.2.2.2.2.1) (n := z.2.2.2.2.2.2.1) hkc hks ?_
    have fin : ∀ t : State, t.heap = H → s.WarmedH t.vm → zQc dC dI dA ad (va_A (zw dA ad w) s.heap.size) w.length z.2.2.2.2.1 Q (as.map (zv ad)).toArray s (.returned (v.map (zv ad'))) t := fun t ht hW =>
      ⟨⟨v, w', ad', rfl, hqq, hrel.1, hrel.2.1, by rw [ht]; exact hrel.2.2.1, zKx.moved hW.alike hK, hrel.2.2.2.1⟩, hrel.2.2.2.2.F ht⟩
    match v, hrt, fin with
    | none, hrt, fin => exact W.vret B.exec B.bytes (hr.trans hrt.1) fin hrel.2.2.2.2.2.2 hrt.2 hlk
    | some (.int x), hrt, fin =>
      rcases hrt with ⟨h1 | ⟨h1, h2⟩, h3⟩
      · exact W.iret B.exec B.bytes (hr.trans h1) fin hrel.2.2.2.2.2.2 h3 hlk
      · exact W.zret (ty := .boolean) B.exec B.bytes (hr.trans h1) (by rcases h2 with rfl | rfl <;> decide +kernel) fin hrel.2.2.2.2.2.2 h3 hlk
    | some (.long x), hrt, fin => exact W.lret B.exec B.bytes (hr.trans hrt.1) fin hrel.2.2.2.2.2.2 hrt.2 hlk
section ZC
variable {M : zM} {al : Bool} {n0 kc ks pc nxt a b : Nat} {c0 : Int} {l : zL} {st : List Value} {w : zW} {Q : Option Value → zW → Prop} {tb : List zE}
theorem zv_iret (ok : zTb M tb) {x : Int32} (hl : zlook tb pc = some (.ireturn, pc + 1, a, b, c0)) (hr : (M.2.2.2.2.2.1 = some .int) ∨ (M.2.2.2.2.2.1 = some .boolean ∧ (x = 0 ∨ x = 1))) (hk : kc ≤ M.2.2.2.2.1.cells) (hs : ks ≤ M.2.2.2.2.1.slots) (hq : Q (some (.int x)) w) : zV M al n0 kc ks pc l [.int x] w Q := by
  intro p l0 e s m args below meth c dC dI dA ad0 A Z h9t hctx hfin ad H locs ls hrel hlv
  obtain ⟨F, hF, ok⟩ := ok
  have h1 := ok _ (zlook_mem hl)
  simp only [zgood, Bool.and_eq_true, decide_eq_true_eq, Nat.add_sub_cancel_left] at h1
  exact hfin ad H locs kc ks pc ls (some (.int x)) w hrel hq hk hs ⟨hr, h1.1.1⟩
theorem zv_lret (ok : zTb M tb) {x : Int64} (hl : zlook tb pc = some (.lreturn, pc + 1, a, b, c0)) (hr : M.2.2.2.2.2.1 = some .long) (hk : kc ≤ M.2.2.2.2.1.cells) (hs : ks ≤ M.2.2.2.2.1.slots) (hq : Q (some (.long x)) w) : zV M al n0 kc ks pc l [.long x] w Q := by
  intro p l0 e s m args below meth c dC dI dA ad0 A Z h9t hctx hfin ad H locs ls hrel hlv
  obtain ⟨F, hF, ok⟩ := ok
  have h1 := ok _ (zlook_mem hl)
  simp only [zgood, Bool.and_eq_true, decide_eq_true_eq, Nat.add_sub_cancel_left] at h1
  exact hfin ad H locs kc ks pc ls (some (.long x)) w hrel hq hk hs ⟨hr, h1.1.1⟩
theorem zv_ret (ok : zTb M tb) (hl : zlook tb pc = some (.return_, pc + 1, a, b, c0)) (hr : M.2.2.2.2.2.1 = none) (hk : kc ≤ M.2.2.2.2.1.cells) (hs : ks ≤ M.2.2.2.2.1.slots) (hq : Q none w) : zV M al n0 kc ks pc l [] w Q := by
  intro p l0 e s m args below meth c dC dI dA ad0 A Z h9t hctx hfin ad H locs ls hrel hlv
  obtain ⟨F, hF, ok⟩ := ok
  have h1 := ok _ (zlook_mem hl)
  simp only [zgood, Bool.and_eq_true, decide_eq_true_eq, Nat.add_sub_cancel_left] at h1
  exact hfin ad H locs kc ks pc ls none w hrel hq hk hs ⟨hr, h1.1.1⟩
theorem zv_mono {Q' : Option Value → zW → Prop} (h : zV M al n0 kc ks pc l st w Q) (hq : ∀ r w', Q r w' → Q' r w') : zV M al n0 kc ks pc l st w Q' := by
  intro p l0 e s m args below meth c dC dI dA ad0 A Z h9t hctx hfin
  exact h p l0 e s m args below meth c dC dI dA ad0 A Z h9t hctx (fun ad H locs kc ks pc ls v w h1 h2 => hfin ad H locs kc ks pc ls v w h1 (hq v w h2))
end ZC
section ZA
variable {p : Program} {l0 : Launch} {e : Env} {R : Room} {s : State} {m : MethodId} {args : Array Value} {below : List Frame} {meth : Method} {c : Code} {H H0 : Heap} {locs : List Loc} {cells slots mc ms pc n : Nat} {Z : State → Prop} {ls : Array Slot} {st0 rest : List Value} {dC : Nat → ClassId} {dI : Nat → Nat → Nat} {dA : Nat → ClassId} {ad : Nat → Nat} {A : Nat → Prop} {w : zW} {al : Bool} {Qc : Option Value → zW → Prop} {a : Array Value}
theorem zafter (hr : va_Run p l0 e R s m args below meth c H locs cells slots mc ms (F0 m pc ls st0) rest (zQc dC dI dA ad (va_A (zw dA ad w) H.size) n al Qc a) (va_A (zw dA ad w) H.size)) (hD : va_D A (zw dA ad w)) (hS : va_S A H0 H locs) (hA : ∀ q, H0.size ≤ q → A q)
    (kk : ∀ (r : Option Value) (w' : zW) (ad' : Nat → Nat) (H1 : Heap) (locs1 : List Loc), Qc r w' → (al = false → ad' = ad) → (∀ k, (k < n ∨ zsent ≤ k) → ad' k = ad k) → va_P (dC, dI) vwCl (zw dA ad' w') H1 → va_D A (zw dA ad' w') → va_S A H0 H1 locs1 → W p l0 e R s m args below meth c H1 locs1 (cells + mc) (slots + ms) Z (F0 m (pc + 3) ls ((r.map (zv ad')).toList ++ rest))) : W p l0 e R s m args below meth c H locs cells slots Z (F0 m pc ls st0) := by
  have hF : ∀ q, va_A (zw dA ad w) H.size q → A q := fun q h => by
    rcases h with ⟨k, x, h⟩ | h
    · exact hD.2 k _ h
    · exact hA q (Nat.le_trans hS.1 h)
  intro T hT X
  obtain ⟨v, st₀, t, T', L, h0, X', hL, e1, e2, ⟨⟨r, w', ad', hv, hq, hal, had, hP, hK, hD'⟩, hz, hk⟩, st⟩ := hr T hT X
  cases hv
  rw [h0] at hz hk
  obtain ⟨t2, a1, b1⟩ := kk r w' ad' T'.heap (locs ++ L) hq hal had (by rw [e1]; exact hP) (hD'.weaken (fun _ _ _ h => hF _ h))
    ⟨Nat.le_trans hS.1 (by rw [e1]; exact hz), fun q h1 h2 => by rw [e1, hk q (Nat.lt_of_lt_of_le h1 hS.1) (fun z => h2 (hF q z))]; exact hS.2.1 q h1 h2, fun q hq => by
      rcases List.mem_append.mp hq with h | h
      · exact hS.2.2 q h
      · exact hF _ (hL q h)⟩ T' rfl X'
  exact ⟨t2, st t2 a1, b1⟩
end ZA
theorem zgoodIn (z : zMt) (h : Cond.code z.1 z.2.1 z.2.2.1 z.2.2.2.1 ∈ zG) : GoodIn zG (zws z) := fun x hx => by
  rcases List.mem_cons.mp hx with rfl | hx
  · exact ⟨h, good_of_word (zG_good h)⟩
  · exact ⟨hx, good_of_word (zG_good hx)⟩
theorem zblind (dC : Nat → ClassId) (dI : Nat → Nat → Nat) (dA : Nat → ClassId) (ad : Nat → Nat) (as : List Value) (w : zW) (sz : Nat) : FrameBlind (zPc dC dI dA ad as w sz) := fun a U g mk q => by
  obtain ⟨q0, q1, qP, qK, qD⟩ := q
  exact ⟨q0, q1, qP, zKx.moved (u := U) (U := U.calling g mk a) (Vm.Alike.refl U.vm) qK, qD⟩
theorem zcats (ad : Nat → Nat) : ∀ r : List Value, ((r.map (zv ad)).map fun v => v.category).sum = (r.map fun v => v.category).sum
  | [] => rfl
  | v :: r => by
    simp only [List.map_cons, List.sum_cons, zv_cat]
    have := zcats ad r
    simp only [List.map_map] at this ⊢
    rw [this]
end
section
section ZI
variable {M : zM} {al : Bool} {n0 kc ks pc nxt a b : Nat} {c0 : Int} {l : zL} {st : List Value} {w : zW} {Q : Option Value → zW → Prop} {tb : List zE}
/-- what a value list keeps when cells come -/
def zokv (n : Nat) : Value → Bool
  | .ref k => Nat.blt k n || Nat.ble zsent k
  | _ => true
theorem zokv_eq {n : Nat} {ad ad' : Nat → Nat} (h : ∀ k, (k < n ∨ zsent ≤ k) → ad' k = ad k) {v : Value} (hv : zokv n v = true) : zv ad' v = zv ad v := by
  cases v with
  | ref k =>
    simp only [zokv, Bool.or_eq_true] at hv
    show Value.ref (ad' k) = Value.ref (ad k)
    rw [h k (hv.elim (fun q => Or.inl (Nat.le_of_ble_eq_true q)) (fun q => Or.inr (Nat.le_of_ble_eq_true q)))]
  | _ => rfl
theorem zokv_map {n : Nat} {ad ad' : Nat → Nat} (h : ∀ k, (k < n ∨ zsent ≤ k) → ad' k = ad k) {r : List Value} (hr : r.all (zokv n) = true) : r.map (zv ad') = r.map (zv ad) :=
  List.map_congr_left fun v hv => zokv_eq h (List.all_eq_true.mp hr v hv)
theorem zokv_l {n : Nat} {ad ad' : Nat → Nat} (h : ∀ k, (k < n ∨ zsent ≤ k) → ad' k = ad k) {l : zL} (hr : l.all (fun q => zokv n q.2) = true) : zl ad' l = zl ad l :=
  List.map_congr_left fun q hq => by rw [zokv_eq h (List.all_eq_true.mp hr q hq)]
/-- behind a call: the callee makes no cells, or all references that the caller holds are of cells that were there -/
theorem zjoin {dC : Nat → ClassId} {dI : Nat → Nat → Nat} {dA : Nat → ClassId} {ad0 ad ad' : Nat → Nat} {A : Nat → Prop} {H0 H H1 : Heap} {locs locs1 : List Loc} {w w' : zW} {al' : Bool} {rest : List Value} {ls : Array Slot} {nL : Nat}
    (hrel : zrel dC dI dA ad0 ad A n0 al H0 H locs w) (hl : lv_has ls nL (zl ad l)) (hc : al' = false ∨ (al = true ∧ n0 ≤ w.length ∧ rest.all (zokv w.length) = true ∧ l.all (fun q => zokv w.length q.2) = true)) (hal : al' = false → ad' = ad) (had : ∀ k, (k < w.length ∨ zsent ≤ k) → ad' k = ad k) (hP : va_P (dC, dI) vwCl (zw dA ad' w') H1) (hD : va_D A (zw dA ad' w')) (hS : va_S A H0 H1 locs1) :
    zrel dC dI dA ad0 ad' A n0 al H0 H1 locs1 w' ∧ lv_has ls nL (zl ad' l) ∧ rest.map (zv ad') = rest.map (zv ad) := by
  rcases hc with hc | ⟨h1, h2, h3, h4⟩
  · have e := hal hc
    subst e
    exact ⟨⟨hrel.1, hrel.2.1, hP, hD, hS⟩, hl, rfl⟩
  · refine ⟨⟨(fun q => by rw [h1] at q; cases q), fun k hk => (had k (hk.imp (fun q => Nat.lt_of_lt_of_le q h2) id)).trans (hrel.2.1 k hk), hP, hD, hS⟩, by rw [zokv_l had h4]; exact hl, zokv_map had h3⟩
set_option maxHeartbeats 1000000 in
theorem zv_callV (ok : zTb M tb) {idx : Nat} (hlook : zlook tb pc = some (.invokevirtual idx, pc + 3, a, b, c0)) {z : zMt} (hz : zms[a]? = some z) {As rest : List Value} {o d : Nat} {Qc : Option Value → zW → Prop}
    (hst : st = As.reverse ++ .ref o :: rest) (hn : As.length = b) (ha : Nat.ble 9000 a = false) {ci : Nat} {fs : List Value} {r0 : vw_C} (ho : w[o]? = some (zO ci fs)) (hci : vwCl[ci]? = some r0) (hcl : r0.1 = z.1.cls) (hcat : (rest.map fun v => v.category).sum ≤ 8)
    (hal : z.2.2.2.2.1 = false ∨ (al = true ∧ n0 ≤ w.length ∧ rest.all (zokv w.length) = true ∧ l.all (fun q => zokv w.length q.2) = true)) (hR : d + 1 ≤ M.2.2.2.2.1.frames ∧ 8 + (z.2.2.1 + 11) + 64 * d ≤ M.2.2.2.2.1.locals) (hf : kc + z.2.2.2.2.2.1 ≤ M.2.2.2.2.1.cells ∧ ks + z.2.2.2.2.2.2.1 ≤ M.2.2.2.2.1.slots)
    (hK : zK d z (.ref o :: As) w Qc) (kk : ∀ (r : Option Value) (w' : zW), Qc r w' → zV M al n0 (kc + z.2.2.2.2.2.1) (ks + z.2.2.2.2.2.2.1) (pc + 3) l (r.toList ++ rest) w' Q) : zV M al n0 kc ks pc l st w Q := by
  intro p l0 e s m args below meth c dC dI dA ad0 A Z h9t hctx hfin ad H locs ls hrel hl
  obtain ⟨F, hF, ok⟩ := ok
  have h1 := ok _ (zlook_mem hlook)
  simp only [zgood, Bool.and_eq_true, decide_eq_true_eq, Nat.add_sub_cancel_left] at h1
  obtain ⟨hk0, hkd⟩ : (idx, a) ∈ F.2.1 ∧ (zms[a]?).map (fun z => z.2.2.2.2.2.2.2) = some (0, b) := by
    have h2 := h1.2
    simpa only [zgd, ha, Bool.false_or, Bool.and_eq_true, decide_eq_true_eq] using h2
  obtain ⟨z', hz', k1⟩ := hF.2.1 _ hk0
  rw [show zms[a]? = some z' from hz'] at hz
  cases hz
  rw [show zms[a]? = some z from hz'] at hkd
  have hkd : z.2.2.2.2.2.2.2 = _ := Option.some.inj hkd
  obtain ⟨hc, ⟨k5, k6, k7⟩, k4, m0, m1, m2⟩ := zms_ok z (List.mem_of_getElem? hz')
  have hkk : z.2.2.2.2.2.2.2.1 = 0 := by rw [hkd]
  have hnn : z.2.2.2.2.2.2.2.2 = b := by rw [hkd]
  rw [hnn] at k7
  obtain ⟨k2, k3⟩ := m0 hkk
  obtain ⟨hx, hb, hml, hown, hts, hKc, hA, hin⟩ := id hctx
  obtain ⟨e1, e2, hP, hD, hS⟩ := id hrel
  have hM := hK l0 h9t dC dI dA ad H.size
  subst hst
  subst hn
  have cw : CallW M.2.2.2.2.1 s args M.1 z.1.cls idx z.1 z.2.1 z.2.2.1 z.2.2.2.1 (zws z) (zrm d z) z.2.2.2.2.2.1 z.2.2.2.2.2.2.1 As.length :=
    ⟨callB_of As.length hts (zgoodIn z hc) rfl rfl rfl (hts _ k4) (hts _ k1) ⟨k5, k6, k7⟩ hR, hts _ k2, hts _ k3⟩
  have hp : PreV s H z.1.cls (ad o) (zPc dC dI dA ad (.ref o :: As) w H.size) (As.map (zv ad)) :=
    ⟨zblind dC dI dA ad _ w H.size, hcl ▸ va_recv hKc.1 hP hci (zw_at ho), fun U hU hW => ⟨rfl, by rw [hU], by rw [hU]; exact hP, zKx.moved hW.alike hKc, hD.weaken (fun _ _ _ _ => trivial)⟩⟩
  have hr := va_runV (g := F0 m pc ls ((As.reverse ++ .ref o :: rest).map (zv ad))) (As := As.map (zv ad)) (rest := rest.map (zv ad)) (cells := kc) (slots := ks) (locs := locs) (e := e) (below := below) (meth := meth) ⟨hx, hb, hml, hown, hts⟩ hM cw hp rfl (by rw [List.length_map]) hl.1 (by show List.map (zv ad) (As.reverse ++ .ref o :: rest) = _; rw [List.map_append, List.map_reverse]; rfl) (lv_room (by rw [zcats]; exact hcat)) h1.1.1 hf
  refine zafter hr hD hS hA (fun r w' ad' H1 locs1 hq hal' had hP1 hD1 hS1 => ?_)
  obtain ⟨j1, j2, j3⟩ := zjoin hrel hl hal hal' had hP1 hD1 hS1
  have k9 := kk r w' hq p l0 e s m args below meth c dC dI dA ad0 A Z h9t hctx hfin ad' H1 locs1 ls j1 j2
  rw [← j3]
  rw [List.map_append] at k9
  cases r <;> exact k9
set_option maxHeartbeats 1000000 in
theorem zv_callS (ok : zTb M tb) {idx : Nat} (hlook : zlook tb pc = some (.invokestatic idx, pc + 3, a, b, c0)) {z : zMt} (hz : zms[a]? = some z) {As rest : List Value} {d : Nat} {Qc : Option Value → zW → Prop}
    (hst : st = As.reverse ++ rest) (hn : As.length = b) (ha : Nat.ble 9000 a = false) (hcat : (rest.map fun v => v.category).sum ≤ 8)
    (hal : z.2.2.2.2.1 = false ∨ (al = true ∧ n0 ≤ w.length ∧ rest.all (zokv w.length) = true ∧ l.all (fun q => zokv w.length q.2) = true)) (hR : d + 1 ≤ M.2.2.2.2.1.frames ∧ 8 + (z.2.2.1 + 11) + 64 * d ≤ M.2.2.2.2.1.locals) (hf : kc + z.2.2.2.2.2.1 ≤ M.2.2.2.2.1.cells ∧ ks + z.2.2.2.2.2.2.1 ≤ M.2.2.2.2.1.slots)
    (hK : zK d z As w Qc) (kk : ∀ (r : Option Value) (w' : zW), Qc r w' → zV M al n0 (kc + z.2.2.2.2.2.1) (ks + z.2.2.2.2.2.2.1) (pc + 3) l (r.toList ++ rest) w' Q) : zV M al n0 kc ks pc l st w Q := by
  intro p l0 e s m args below meth c dC dI dA ad0 A Z h9t hctx hfin ad H locs ls hrel hl
  obtain ⟨F, hF, ok⟩ := ok
  have h1 := ok _ (zlook_mem hlook)
  simp only [zgood, Bool.and_eq_true, decide_eq_true_eq, Nat.add_sub_cancel_left] at h1
  obtain ⟨hk0, hkd⟩ : (idx, a) ∈ F.2.1 ∧ (zms[a]?).map (fun z => z.2.2.2.2.2.2.2) = some (1, b) := by
    have h2 := h1.2
    simpa only [zgd, ha, Bool.false_or, Bool.and_eq_true, decide_eq_true_eq] using h2
  obtain ⟨z', hz', k1⟩ := hF.2.1 _ hk0
  rw [show zms[a]? = some z' from hz'] at hz
  cases hz
  rw [show zms[a]? = some z from hz'] at hkd
  have hkd : z.2.2.2.2.2.2.2 = _ := Option.some.inj hkd
  obtain ⟨hc, ⟨k5, k6, k7⟩, k4, m0, m1, m2⟩ := zms_ok z (List.mem_of_getElem? hz')
  have hkk : z.2.2.2.2.2.2.2.1 = 1 := by rw [hkd]
  have hnn : z.2.2.2.2.2.2.2.2 = b := by rw [hkd]
  rw [hnn] at k7
  have k2 := m1 hkk
  obtain ⟨hx, hb, hml, hown, hts, hKc, hA, hin⟩ := id hctx
  obtain ⟨e1, e2, hP, hD, hS⟩ := id hrel
  have hM := hK l0 h9t dC dI dA ad H.size
  subst hst
  subst hn
  have cw : CallB M.2.2.2.2.1 s args M.1 idx z.1 z.2.1 z.2.2.1 z.2.2.2.1 (zws z) (zrm d z) z.2.2.2.2.2.1 z.2.2.2.2.2.2.1 As.length ∧ (Cond.static z.1).before args s = true :=
    ⟨callB_of As.length hts (zgoodIn z hc) rfl rfl rfl (hts _ k4) (hts _ k1) ⟨k5, k6, k7⟩ hR, hts _ k2⟩
  have hp : PreS s H (zPc dC dI dA ad As w H.size) (As.map (zv ad)) :=
    ⟨zblind dC dI dA ad _ w H.size, fun U hU hW => ⟨rfl, by rw [hU], by rw [hU]; exact hP, zKx.moved hW.alike hKc, hD.weaken (fun _ _ _ _ => trivial)⟩⟩
  have hr := va_runS (g := F0 m pc ls ((As.reverse ++ rest).map (zv ad))) (As := As.map (zv ad)) (rest := rest.map (zv ad)) (cells := kc) (slots := ks) (locs := locs) (e := e) (below := below) (meth := meth) ⟨hx, hb, hml, hown, hts⟩ hM cw hp rfl (by rw [List.length_map]) hl.1 (by show List.map (zv ad) (As.reverse ++ rest) = _; rw [List.map_append, List.map_reverse]) (lv_room (by rw [zcats]; exact hcat)) h1.1.1 hf
  refine zafter hr hD hS hA (fun r w' ad' H1 locs1 hq hal' had hP1 hD1 hS1 => ?_)
  obtain ⟨j1, j2, j3⟩ := zjoin hrel hl hal hal' had hP1 hD1 hS1
  have k9 := kk r w' hq p l0 e s m args below meth c dC dI dA ad0 A Z h9t hctx hfin ad' H1 locs1 ls j1 j2
  rw [← j3]
  rw [List.map_append] at k9
  cases r <;> exact k9
set_option maxHeartbeats 1000000 in
theorem zv_callI (ok : zTb M tb) {idx : Nat} (hlook : zlook tb pc = some (.invokespecial idx, pc + 3, a, b, c0)) {z : zMt} (hz : zms[a]? = some z) {As rest : List Value} {o d : Nat} {Qc : Option Value → zW → Prop}
    (hst : st = As.reverse ++ .ref o :: rest) (hn : As.length = b) (ha : Nat.ble 9000 a = false) (hcat : (rest.map fun v => v.category).sum ≤ 8)
    (hal : z.2.2.2.2.1 = false ∨ (al = true ∧ n0 ≤ w.length ∧ rest.all (zokv w.length) = true ∧ l.all (fun q => zokv w.length q.2) = true)) (hR : d + 1 ≤ M.2.2.2.2.1.frames ∧ 8 + (z.2.2.1 + 11) + 64 * d ≤ M.2.2.2.2.1.locals) (hf : kc + z.2.2.2.2.2.1 ≤ M.2.2.2.2.1.cells ∧ ks + z.2.2.2.2.2.2.1 ≤ M.2.2.2.2.1.slots)
    (hK : zK d z (.ref o :: As) w Qc) (kk : ∀ (r : Option Value) (w' : zW), Qc r w' → zV M al n0 (kc + z.2.2.2.2.2.1) (ks + z.2.2.2.2.2.2.1) (pc + 3) l (r.toList ++ rest) w' Q) : zV M al n0 kc ks pc l st w Q := by
  intro p l0 e s m args below meth c dC dI dA ad0 A Z h9t hctx hfin ad H locs ls hrel hl
  obtain ⟨F, hF, ok⟩ := ok
  have h1 := ok _ (zlook_mem hlook)
  simp only [zgood, Bool.and_eq_true, decide_eq_true_eq, Nat.add_sub_cancel_left] at h1
  obtain ⟨hk0, hkd⟩ : (idx, a) ∈ F.2.1 ∧ (zms[a]?).map (fun z => z.2.2.2.2.2.2.2) = some (2, b) := by
    have h2 := h1.2
    have e1 : Nat.beq a 9999 = false := by cases hq : Nat.beq a 9999 with
      | false => rfl
      | true => rw [Nat.eq_of_beq_eq_true hq] at ha; cases ha
    have e2 : Nat.beq a 9998 = false := by cases hq : Nat.beq a 9998 with
      | false => rfl
      | true => rw [Nat.eq_of_beq_eq_true hq] at ha; cases ha
    simpa only [zgd, e1, e2, Bool.false_and, Bool.false_or, Bool.and_eq_true, decide_eq_true_eq] using h2
  obtain ⟨z', hz', k1⟩ := hF.2.1 _ hk0
  rw [show zms[a]? = some z' from hz'] at hz
  cases hz
  rw [show zms[a]? = some z from hz'] at hkd
  have hkd : z.2.2.2.2.2.2.2 = _ := Option.some.inj hkd
  obtain ⟨hc, ⟨k5, k6, k7⟩, k4, m0, m1, m2⟩ := zms_ok z (List.mem_of_getElem? hz')
  have hkk : z.2.2.2.2.2.2.2.1 = 2 := by rw [hkd]
  have hnn : z.2.2.2.2.2.2.2.2 = b := by rw [hkd]
  rw [hnn] at k7
  obtain ⟨k2, k3, k8⟩ := m2 hkk
  obtain ⟨hx, hb, hml, hown, hts, hKc, hA, hin⟩ := id hctx
  obtain ⟨e1, e2, hP, hD, hS⟩ := id hrel
  have hM := hK l0 h9t dC dI dA ad H.size
  subst hst
  subst hn
  have cw : CallB M.2.2.2.2.1 s args M.1 idx z.1 z.2.1 z.2.2.1 none (zws z) (zrm d z) z.2.2.2.2.2.1 z.2.2.2.2.2.2.1 As.length ∧ z.1.name = "<init>" ∧ (Cond.instanceMethod z.1).before args s = true :=
    ⟨k8 ▸ callB_of (ret := z.2.2.2.1) As.length hts (zgoodIn z hc) rfl rfl rfl (hts _ k4) (hts _ k1) ⟨k5, k6, k7⟩ hR, k3, hts _ k2⟩
  have hp : PreS s H (zPc dC dI dA ad (.ref o :: As) w H.size) (.ref (ad o) :: As.map (zv ad)) :=
    ⟨zblind dC dI dA ad _ w H.size, fun U hU hW => ⟨rfl, by rw [hU], by rw [hU]; exact hP, zKx.moved hW.alike hKc, hD.weaken (fun _ _ _ _ => trivial)⟩⟩
  have hr := va_runI (g := F0 m pc ls ((As.reverse ++ .ref o :: rest).map (zv ad))) (As := As.map (zv ad)) (rest := rest.map (zv ad)) (cells := kc) (slots := ks) (locs := locs) (e := e) (below := below) (meth := meth) ⟨hx, hb, hml, hown, hts⟩ hM cw hp rfl (by rw [List.length_map]) hl.1 (by show List.map (zv ad) (As.reverse ++ .ref o :: rest) = _; rw [List.map_append, List.map_reverse]; rfl) (lv_room (by rw [zcats]; exact hcat)) h1.1.1 hf
  refine zafter hr hD hS hA (fun r w' ad' H1 locs1 hq hal' had hP1 hD1 hS1 => ?_)
  obtain ⟨j1, j2, j3⟩ := zjoin hrel hl hal hal' had hP1 hD1 hS1
  have k9 := kk r w' hq p l0 e s m args below meth c dC dI dA ad0 A Z h9t hctx hfin ad' H1 locs1 ls j1 j2
  rw [← j3]
  rw [List.map_append] at k9
  cases r <;> exact k9
/-- Object's own constructor -/
theorem zv_obj (ok : zTb M tb) (hO : Cond.instanceMethod Lib.objectInit ∈ zG ∧ Cond.code Lib.objectInit ⟨#[0xb1]⟩ 1 none ∈ zG) {idx : Nat} (hlook : zlook tb pc = some (.invokespecial idx, pc + 3, 9999, b, c0)) (h99 : zms[9999]? = none) {o : Nat} {rest : List Value} (hcat : (rest.map fun v => v.category).sum ≤ 8) (hR : 1 ≤ M.2.2.2.2.1.frames ∧ 20 ≤ M.2.2.2.2.1.locals)
    (kk : zV M al n0 kc ks (pc + 3) l rest w Q) : zV M al n0 kc ks pc l (.ref o :: rest) w Q := by
  intro p l0 e s m args below meth c dC dI dA ad0 A Z h9t hctx hfin ad H locs ls hrel hl
  obtain ⟨F, hF, ok⟩ := ok
  have h1 := ok _ (zlook_mem hlook)
  simp only [zgood, Bool.and_eq_true, decide_eq_true_eq, Nat.add_sub_cancel_left] at h1
  have h2 := h1.2
  have h3 : idx ∈ F.2.2.2.2 := by
    have e1 : Nat.beq 9999 9999 = true := rfl
    have e2 : Nat.beq 9999 9998 = false := rfl
    simpa only [zgd, e1, e2, h99, Option.map_none, Bool.true_and, Bool.false_or, Bool.or_eq_true, Bool.and_eq_true, decide_eq_true_eq, reduceCtorEq, and_false, or_false] using h2
  obtain ⟨hx, hb, hml, hown, hts, hKc, hA, hin⟩ := id hctx
  refine W.objInit (g := F0 m pc ls (.ref (ad o) :: rest.map (zv ad))) hx hb hown (hts _ (hF.2.2.2.2 _ h3)) (hts _ hO.1) (hts _ hO.2) rfl (hl.1.trans hml.symm) rfl h1.1.1 hR.1 ?_ (kk p l0 e s m args below meth c dC dI dA ad0 A Z h9t hctx hfin ad H locs ls hrel hl)
  have h4 : (((rest.map (zv ad)).map fun v => v.category).sum) ≤ 8 := by rw [zcats]; exact hcat
  have h5 := lv_room (m := m) (pc := pc) (ls := ls) (rest := .ref (ad o) :: rest.map (zv ad)) h4
  omega
end ZI
end
section
section ZN
variable {M : zM} {n0 kc ks pc nxt a b : Nat} {c0 : Int} {l : zL} {st rest : List Value} {w : zW} {Q : Option Value → zW → Prop} {tb : List zE}
def zokc (n : Nat) : zC → Bool
  | .inl _ => true
  | .inr (.inl _) => true
  | .inr (.inr (.inl (_, es))) => es.all (fun e => match e with | none => true | some k => Nat.blt k n || Nat.ble zsent k)
  | .inr (.inr (.inr (_, fs))) => fs.all (zokv n)
theorem zokc_eq {n : Nat} {dA : Nat → ClassId} {ad ad' : Nat → Nat} (h : ∀ k, (k < n ∨ zsent ≤ k) → ad' k = ad k) {c : zC} (hc : zokc n c = true) : zc dA ad' c = zc dA ad c := by
  match c, hc with
  | .inl (t, n, f), _ => rfl
  | .inr (.inl (n, f)), _ => rfl
  | .inr (.inr (.inl (t, es))), hc =>
    have e : (fun i : Nat => (es.getD i none).map ad') = (fun i : Nat => (es.getD i none).map ad) := by
      funext i
      by_cases hi : i < es.length
      · have hm : es.getD i none ∈ es := by rw [List.getD_eq_getElem?_getD, List.getElem?_eq_getElem hi]; exact List.getElem_mem hi
        have := List.all_eq_true.mp hc _ hm
        cases hv : es.getD i none with
        | none => rfl
        | some k =>
          rw [hv] at this
          simp only [Bool.or_eq_true] at this
          show some (ad' k) = some (ad k)
          rw [h k (this.elim (fun q => Or.inl (Nat.le_of_ble_eq_true q)) (fun q => Or.inr (Nat.le_of_ble_eq_true q)))]
      · rw [List.getD_eq_getElem?_getD, List.getElem?_eq_none (by omega)]; rfl
    show Sum.inl (dA t, es.length, Sum.inr (Sum.inr (Sum.inr (Sum.inr _)))) = Sum.inl (dA t, es.length, Sum.inr (Sum.inr (Sum.inr (Sum.inr _))))
    rw [e]
  | .inr (.inr (.inr (ci, fs))), hc => exact congrArg (fun x => Sum.inr (ci, x)) (zokv_map h hc)
theorem zw_push {dA : Nat → ClassId} {ad ad' : Nat → Nat} (h : ∀ k, (k < w.length ∨ zsent ≤ k) → ad' k = ad k) (hw : w.all (zokc w.length) = true) (c : zC) : zw dA ad' (w ++ [c]) = zw dA ad w ++ [(ad' w.length, zc dA ad' c)] := by
  apply List.ext_getElem?
  intro i
  by_cases hi : i < w.length
  · rw [List.getElem?_append_left (by rw [zw_len]; exact hi)]
    have h1 : w[i]? = some w[i] := List.getElem?_eq_getElem hi
    rw [zw_at h1, zw_at (show (w ++ [c])[i]? = some w[i] by rw [List.getElem?_append_left hi]; exact h1), h i (Or.inl hi), zokc_eq h (List.all_eq_true.mp hw _ (List.getElem_mem hi))]
  · rw [List.getElem?_append_right (by rw [zw_len]; omega), zw_len]
    by_cases hj : i = w.length
    · subst hj
      rw [zw_at (show (w ++ [c])[w.length]? = some c by simp), Nat.sub_self]
      rfl
    · rw [List.getElem?_eq_none (by rw [zw_len, List.length_append]; simp; omega), List.getElem?_eq_none (by simp; omega)]
/-- what must hold where a cell is made -/
def zokA (n0 : Nat) (l : zL) (st : List Value) (w : zW) : Prop := n0 ≤ w.length ∧ w.length < zsent ∧ st.all (zokv w.length) = true ∧ l.all (fun q => zokv w.length q.2) = true ∧ w.all (zokc w.length) = true
theorem zpush {dC : Nat → ClassId} {dI : Nat → Nat → Nat} {dA : Nat → ClassId} {ad0 ad : Nat → Nat} {A : Nat → Prop} {H0 H H1 : Heap} {locs : List Loc} {ls : Array Slot} {nL q : Nat} {c : zC} (ok : zokA n0 l st w) (hc : ∀ ad1 ad2, zc dA ad1 c = zc dA ad2 c) (hrel : zrel dC dI dA ad0 ad A n0 true H0 H locs w) (hl : lv_has ls nL (zl ad l))
    (hP : va_P (dC, dI) vwCl (zw dA ad w ++ [(q, zc dA ad c)]) H1) (hD : va_D A (zw dA ad w ++ [(q, zc dA ad c)])) (hS : va_S A H0 H1 locs) :
    zrel dC dI dA ad0 (va_up ad w.length q) A n0 true H0 H1 locs (w ++ [c]) ∧ lv_has ls nL (zl (va_up ad w.length q) l) ∧ st.map (zv (va_up ad w.length q)) = st.map (zv ad) ∧ va_up ad w.length q w.length = q := by
  obtain ⟨o1, o2, o3, o4, o5⟩ := ok
  have h : ∀ k, (k < w.length ∨ zsent ≤ k) → va_up ad w.length q k = ad k := fun k hk => by
    have : k ≠ w.length := by omega
    simp [va_up, this]
  have hq : va_up ad w.length q w.length = q := by simp [va_up]
  have e : zw dA (va_up ad w.length q) (w ++ [c]) = zw dA ad w ++ [(q, zc dA ad c)] := by rw [zw_push h o5, hq, hc _ ad]
  exact ⟨⟨fun q => (by cases q), fun k hk => (h k (hk.imp (fun z => Nat.lt_of_lt_of_le z o1) id)).trans (hrel.2.1 k hk), by rw [e]; exact hP, by rw [e]; exact hD, hS⟩, by rw [zokv_l h o4]; exact hl, zokv_map h o3, hq⟩
def znoref : Value → Bool
  | .ref _ => false
  | _ => true
theorem znoref_map {ad : Nat → Nat} {fs : List Value} (h : fs.all znoref = true) : fs.map (zv ad) = fs := by
  have h2 : fs.map (zv ad) = fs.map id := List.map_congr_left fun v hv => by
    have := List.all_eq_true.mp h v hv
    cases v <;> first | rfl | cases this
  rw [h2, List.map_id]
theorem zv_new (ok : zTb M tb) {idx : Nat} (hlook : zlook tb pc = some (.new idx, pc + 3, a, b, c0)) {ci : Nat} {r0 : vw_C} (hci : vwCl[ci]? = some r0) (h1 : Cond.classLink M.1 idx r0.1 ∈ zG) (h2 : Cond.instantiable r0.1 r0.2.2 ∈ zG) (h3 : Cond.initialized r0.1 ∈ zG) (fs : List Value) (hfs : ∀ j, j < r0.2.2 → defaultValue (zty ci j) = vp_V fs j) (hnr : fs.all znoref = true)
    (hok : zokA n0 l st w) (hk : kc + 1 ≤ M.2.2.2.2.1.cells) (hs : ks + r0.2.2 ≤ M.2.2.2.2.1.slots) (kk : zV M true n0 (kc + 1) (ks + r0.2.2) (pc + 3) l (.ref w.length :: st) (w ++ [zO ci fs]) Q) : zV M true n0 kc ks pc l st w Q := by
  intro p l0 e s m args below meth c dC dI dA ad0 A Z h9t hctx hfin ad H locs ls hrel hl
  obtain ⟨F, hF, ok⟩ := ok
  have h0 := ok _ (zlook_mem hlook)
  simp only [zgood, Bool.and_eq_true, decide_eq_true_eq, Nat.add_sub_cancel_left] at h0
  obtain ⟨hx, hb, hml, hown, hts, hKc, hA, hin⟩ := id hctx
  obtain ⟨e1, e2, hP, hD, hS⟩ := id hrel
  refine va_new (ci := ci) (fs := fs) (C := r0.1) (T := r0.2.1) (N := r0.2.2) hx hb hts (zin_ok hci) (zty ci) (zty_ok ci (zlt7 hci) r0 hci) hown (hts _ h1) (hts _ h2) (hts _ h3) hKc.1 hP hD hS hA hci hfs hk hs h0.1.1 (fun q H1 hP1 hD1 hS1 => ?_)
  have hzc : ∀ a1, zc dA a1 (zO ci fs) = Sum.inr (ci, fs) := fun a1 => congrArg (fun x => Sum.inr (ci, x)) (znoref_map hnr)
  obtain ⟨j1, j2, j3, j4⟩ := zpush (c := zO ci fs) (q := q) hok (fun a1 a2 => (hzc a1).trans (hzc a2).symm) hrel hl (by rw [hzc]; exact hP1) (by rw [hzc]; exact hD1) hS1
  have k9 := kk p l0 e s m args below meth c dC dI dA ad0 A Z h9t hctx hfin _ H1 locs ls j1 j2
  rw [List.map_cons, j3] at k9
  have k10 : zv (va_up ad w.length q) (.ref w.length) = .ref q := congrArg Value.ref j4
  rw [k10] at k9
  exact k9
theorem zv_newI (ok : zTb M tb) {at_ : ArrayType} (hlook : zlook tb pc = some (.newarray at_, pc + 2, a, b, c0)) (t N : Nat) {n : Int32} (hty : (t = 0 ∧ at_ = .int) ∨ (t = 1 ∧ at_ = .boolean)) (hn : ¬ n < 0) (hN : n.toNatClampNeg = N) (hb : N ≤ 100000) (h1 : Cond.arrayClass .int ∈ zG) (h2 : Cond.arrayClass .boolean ∈ zG)
    (hok : zokA n0 l st w) (hk : kc + 1 ≤ M.2.2.2.2.1.cells) (hs : ks + N ≤ M.2.2.2.2.1.slots) (kk : zV M true n0 (kc + 1) (ks + N) (pc + 2) l (.ref w.length :: st) (w ++ [zI t N (fun _ => 0)]) Q) : zV M true n0 kc ks pc l (.int n :: st) w Q := by
  intro p l0 e s m args below meth c dC dI dA ad0 A Z h9t hctx hfin ad H locs ls hrel hl
  obtain ⟨F, hF, ok⟩ := ok
  have h0 := ok _ (zlook_mem hlook)
  simp only [zgood, Bool.and_eq_true, decide_eq_true_eq, Nat.add_sub_cancel_left] at h0
  obtain ⟨hx, hbb, hml, hown, hts, hKc, hA, hin⟩ := id hctx
  obtain ⟨e1, e2, hP, hD, hS⟩ := id hrel
  have key : ∀ (ty : FieldType) (t9 : Nat), newarray.typeOf at_ = ty → Cond.arrayClass ty ∈ zG → (∀ cA : ClassId, vp_cell cA (N, .inl (fun _ => 0)) = arrV cA N (fun _ => defaultValue ty)) → componentBytes ty ≤ 4 → (ztys dA)[t9]? = some (dA t, ty) → va_RA s (dA t) ty → (∀ cA, va_RA s cA ty → va_RA s (dA t) ty → cA = dA t) →
      W p l0 e M.2.2.2.2.1 s m args below meth c H locs kc ks Z (F0 m pc ls ((.int n :: st).map (zv ad))) := by
    intro ty t9 g1 g2 g3 g4 g5 g6 g7
    refine va_newa (atype := at_) (ty := ty) (N' := N) (a0 := (N, .inl (fun _ => 0))) hx hbb (g1 ▸ hts _ g2) g1 hKc.1 hP hD hS hA g3 hn hN (by have := Nat.mul_le_mul hb g4; omega) hk hs h0.1.1 (fun q cA H1 hK1 hP1 hD1 hS1 => ?_)
    have ec : cA = dA t := g7 cA (hK1.2 5 (cA, ty) rfl).2 g6
    subst ec
    obtain ⟨j1, j2, j3, j4⟩ := zpush (c := zI t N (fun _ => 0)) (q := q) hok (fun a1 a2 => rfl) hrel hl hP1 hD1 hS1
    have k9 := kk p l0 e s m args below meth c dC dI dA ad0 A Z h9t hctx hfin _ H1 locs ls j1 j2
    rw [List.map_cons, j3] at k9
    have k10 : zv (va_up ad w.length q) (.ref w.length) = .ref q := congrArg Value.ref j4
    rw [k10] at k9
    exact k9
  rcases hty with ⟨rfl, rfl⟩ | ⟨rfl, rfl⟩
  · exact key .int 0 rfl h1 (fun _ => rfl) (by decide) rfl (hKc.1.2 0 _ rfl).2 (fun cA h1 h2 => Option.some.inj (Eq.trans (Eq.symm (h1 : s.vm.findClass _ = some cA)) h2))
  · exact key .boolean 1 rfl h2 (fun _ => rfl) (by decide) rfl (hKc.1.2 1 _ rfl).2 (fun cA h1 h2 => Option.some.inj (Eq.trans (Eq.symm (h1 : s.vm.findClass _ = some cA)) h2))
theorem zv_newJ (ok : zTb M tb) (hlook : zlook tb pc = some (.newarray .long, pc + 2, a, b, c0)) (N : Nat) {n : Int32} (hn : ¬ n < 0) (hN : n.toNatClampNeg = N) (hb : N ≤ 100000) (h1 : Cond.arrayClass .long ∈ zG)
    (hok : zokA n0 l st w) (hk : kc + 1 ≤ M.2.2.2.2.1.cells) (hs : ks + N ≤ M.2.2.2.2.1.slots) (kk : zV M true n0 (kc + 1) (ks + N) (pc + 2) l (.ref w.length :: st) (w ++ [zJ N (fun _ => 0)]) Q) : zV M true n0 kc ks pc l (.int n :: st) w Q := by
  intro p l0 e s m args below meth c dC dI dA ad0 A Z h9t hctx hfin ad H locs ls hrel hl
  obtain ⟨F, hF, ok⟩ := ok
  have h0 := ok _ (zlook_mem hlook)
  simp only [zgood, Bool.and_eq_true, decide_eq_true_eq, Nat.add_sub_cancel_left] at h0
  obtain ⟨hx, hbb, hml, hown, hts, hKc, hA, hin⟩ := id hctx
  obtain ⟨e1, e2, hP, hD, hS⟩ := id hrel
  refine va_newa (atype := .long) (ty := .long) (N' := N) (a0 := (N, .inr (.inl (fun _ => 0)))) hx hbb (hts _ h1) rfl hKc.1 hP hD hS hA (fun _ => rfl) hn hN (by have := Nat.mul_le_mul hb (show componentBytes .long ≤ 8 by decide); omega) hk hs h0.1.1 (fun q cA H1 hK1 hP1 hD1 hS1 => ?_)
  have g1 : s.vm.findClass _ = some cA := (hK1.2 5 (cA, .long) rfl).2
  have g2 : s.vm.findClass _ = some (dA 2) := (hKc.1.2 2 _ rfl).2
  have ec : cA = dA 2 := Option.some.inj (g1.symm.trans g2)
  subst ec
  obtain ⟨j1, j2, j3, j4⟩ := zpush (c := zJ N (fun _ => 0)) (q := q) hok (fun a1 a2 => rfl) hrel hl hP1 hD1 hS1
  have k9 := kk p l0 e s m args below meth c dC dI dA ad0 A Z h9t hctx hfin _ H1 locs ls j1 j2
  rw [List.map_cons, j3] at k9
  have k10 : zv (va_up ad w.length q) (.ref w.length) = .ref q := congrArg Value.ref j4
  rw [k10] at k9
  exact k9
end ZN
end
section
theorem vr_outer (c : ClassId) (N h0 : Nat) : ∀ i : Nat, Jvm.Free.Multi.outerC c N h0 i = arrV c N (fun j => va_rf (if j < i then some (h0 + 1 + j) else none))
  | 0 => by
    show ({ cls := c, slots := Array.replicate N .null, vm := .none } : Cell) = _
    rw [arrV_new]
    refine congrArg (arrV c N) (funext fun j => ?_)
    simp [va_rf]
  | i + 1 => by
    show (Jvm.Free.Multi.outerC c N h0 i).setSlot i (.ref (h0 + 1 + i)) = _
    rw [vr_outer c N h0 i, arrV_store]
    refine congrArg (arrV c N) (funext fun j => ?_)
    by_cases e : j = i
    · subst e
      simp [updV, va_rf]
    · by_cases h : j < i
      · simp [updV, e, h, Nat.lt_succ_of_lt h]
      · simp [updV, e, h, show ¬ j < i + 1 by omega]
section ZR
variable {M : zM} {al : Bool} {n0 kc ks pc nxt a b : Nat} {c0 : Int} {l : zL} {st rest : List Value} {w : zW} {Q : Option Value → zW → Prop} {tb : List zE}
theorem zv_aald (ok : zTb M tb) (hlook : zlook tb pc = some (.aaload, pc + 1, a, b, c0)) {t k v : Nat} {es : List (Option Nat)} {i : Int32} (ht : t = 3 ∨ t = 4) (hw : w[k]? = some (zR t es)) (hin : vp_in i es.length) (hv : es.getD i.toNatClampNeg none = some v) (kk : zV M al n0 kc ks (pc + 1) l (.ref v :: st) w Q) : zV M al n0 kc ks pc l (.int i :: .ref k :: st) w Q := by
  intro p l0 e s m args below meth c dC dI dA ad0 A Z h9t hctx hfin ad H locs ls hrel hl
  obtain ⟨F, hF, ok⟩ := ok
  have h0 := ok _ (zlook_mem hlook)
  simp only [zgood, Bool.and_eq_true, decide_eq_true_eq, Nat.add_sub_cancel_left] at h0
  have k9 := kk p l0 e s m args below meth c dC dI dA ad0 A Z h9t hctx hfin ad H locs ls hrel hl
  obtain ⟨hx, hbb, hml, hown, hts, hKc, hA, hxn⟩ := id hctx
  obtain ⟨e1, e2, hP, hD, hS⟩ := id hrel
  have hlt : i.toNatClampNeg < es.length := Nat.not_le.mp fun q => hin (Or.inr q)
  have hva : va_rf ((es.getD i.toNatClampNeg none).map ad) = .ref (ad v) := by rw [hv]; rfl
  rcases ht with rfl | rfl
  · refine va_aldq hx hbb hKc.1 hP k 3 (zw_at hw) rfl hin h0.1.1 ?_
    rw [hva]; exact k9
  · refine W.aald (v := va_rf ((es.getD i.toNatClampNeg none).map ad)) (ty := .array .long) (g := F0 m pc ls (.int i :: .ref (ad k) :: st.map (zv ad))) hx hbb (hP k _ (zw_at hw)) ((hKc.1.2 4 _ rfl).1 es.length (fun j => va_rf ((es.getD j none).map ad))) rfl (fun q => by cases q) (by show ¬ (i < 0 ∨ (arrV _ _ _).slots.size ≤ _); rw [arrV_size]; exact hin) (by show (arrV _ _ _).slots[_]? = _; rw [arrV_read _ _ hlt]) rfl rfl h0.1.1 ?_
    rw [hva]; exact k9
theorem zv_aast (ok : zTb M tb) (hlook : zlook tb pc = some (.aastore, pc + 1, a, b, c0)) {k v : Nat} {es : List (Option Nat)} {fs : List Value} {i : Int32} (hw : w[k]? = some (zR 3 es)) (hv : w[v]? = some (zO 2 fs)) (hin : vp_in i es.length) (kk : zV M al n0 kc ks (pc + 1) l st (w.set k (zR 3 (es.set i.toNatClampNeg (some v)))) Q) : zV M al n0 kc ks pc l (.ref v :: .int i :: .ref k :: st) w Q := by
  intro p l0 e s m args below meth c dC dI dA ad0 A Z h9t hctx hfin ad H locs ls hrel hl
  obtain ⟨F, hF, ok⟩ := ok
  have h0 := ok _ (zlook_mem hlook)
  simp only [zgood, Bool.and_eq_true, decide_eq_true_eq, Nat.add_sub_cancel_left] at h0
  obtain ⟨hx, hbb, hml, hown, hts, hKc, hA, hxn⟩ := id hctx
  obtain ⟨e1, e2, hP, hD, hS⟩ := id hrel
  have hlt : i.toNatClampNeg < es.length := Nat.not_le.mp fun q => hin (Or.inr q)
  refine va_astq (r := (RX3, TX3, 6)) hx hbb hKc.1 hP hD hS k 3 v 2 (zw_at hw) rfl (zw_at hv) rfl hin h0.1.1 (fun H1 locs1 hP1 hD1 hS1 => ?_)
  have hfe : va_up (fun j : Nat => (es.getD j none).map ad) i.toNatClampNeg (some (ad v)) = (fun j : Nat => ((es.set i.toNatClampNeg (some v)).getD j none).map ad) := by
    funext j
    by_cases hj : j = i.toNatClampNeg
    · subst hj
      rw [List.getD_eq_getElem?_getD, List.getElem?_set_self hlt]
      simp [va_up]
    · rw [List.getD_eq_getElem?_getD, List.getElem?_set_ne (Ne.symm hj), ← List.getD_eq_getElem?_getD]
      simp [va_up, hj]
  have ew : (zw dA ad w).set k (ad k, .inl (dA 3, es.length, .inr (.inr (.inr (.inr (va_up (fun j : Nat => (es.getD j none).map ad) i.toNatClampNeg (some (ad v)))))))) = zw dA ad (w.set k (zR 3 (es.set i.toNatClampNeg (some v)))) := by
    rw [hfe, ← zw_set]
    show List.set _ _ (ad k, Sum.inl (dA 3, es.length, _)) = List.set _ _ (ad k, Sum.inl (dA 3, (es.set i.toNatClampNeg (some v)).length, _))
    rw [List.length_set]
  rw [ew] at hP1 hD1
  exact kk p l0 e s m args below meth c dC dI dA ad0 A Z h9t hctx hfin ad H1 locs1 ls ⟨e1, e2, hP1, hD1, hS1⟩ hl
theorem zv_anew (ok : zTb M tb) {idx : Nat} (hlook : zlook tb pc = some (.anewarray idx, pc + 3, a, b, c0)) (N : Nat) {n : Int32} (hn : ¬ n < 0) (hN : n.toNatClampNeg = N) (hb : N ≤ 100000) (h1 : Cond.classLink M.1 idx RX3 ∈ zG)
    (hok : zokA n0 l st w) (hk : kc + 1 ≤ M.2.2.2.2.1.cells) (hs : ks + N ≤ M.2.2.2.2.1.slots) (kk : zV M true n0 (kc + 1) (ks + N) (pc + 3) l (.ref w.length :: st) (w ++ [zR 3 (List.replicate N none)]) Q) : zV M true n0 kc ks pc l (.int n :: st) w Q := by
  intro p l0 e s m args below meth c dC dI dA ad0 A Z h9t hctx hfin ad H locs ls hrel hl
  obtain ⟨F, hF, ok⟩ := ok
  have h0 := ok _ (zlook_mem hlook)
  simp only [zgood, Bool.and_eq_true, decide_eq_true_eq, Nat.add_sub_cancel_left] at h0
  obtain ⟨hx, hbb, hml, hown, hts, hKc, hA, hxn⟩ := id hctx
  obtain ⟨e1, e2, hP, hD, hS⟩ := id hrel
  refine va_newq (C := RX3) (N' := N) hx hbb hown (hts _ h1) hKc.2.1 hKc.1 hP hD hS hA hn hN (by omega) hk hs h0.1.1 (fun q cA H1 hK1 hP1 hD1 hS1 => ?_)
  have ec : cA = dA 3 := by
    obtain ⟨_, _, _, _, _, g1⟩ := (hK1.2 5 (cA, .object RX3) rfl).2
    obtain ⟨_, _, _, _, _, g2⟩ := (hKc.1.2 3 _ rfl).2
    exact Option.some.inj (g1.symm.trans g2)
  subst ec
  have hz : ∀ a1, zc dA a1 (zR 3 (List.replicate N none)) = Sum.inl (dA 3, N, Sum.inr (Sum.inr (Sum.inr (Sum.inr (fun _ => none))))) := fun a1 => by
    have e : (fun j : Nat => ((List.replicate N (none : Option Nat)).getD j none).map a1) = (fun _ => none) := by
      funext j
      rw [List.getD_eq_getElem?_getD, List.getElem?_replicate]
      split <;> rfl
    show Sum.inl (dA 3, (List.replicate N (none : Option Nat)).length, _) = _
    rw [e, List.length_replicate]
  obtain ⟨j1, j2, j3, j4⟩ := zpush (c := zR 3 (List.replicate N none)) (q := q) hok (fun a1 a2 => (hz a1).trans (hz a2).symm) hrel hl (by rw [hz]; exact hP1) (by rw [hz]; exact hD1) hS1
  have k9 := kk p l0 e s m args below meth c dC dI dA ad0 A Z h9t hctx hfin _ H1 locs ls j1 j2
  rw [List.map_cons, j3] at k9
  have k10 : zv (va_up ad w.length q) (.ref w.length) = .ref q := congrArg Value.ref j4
  rw [k10] at k9
  exact k9
theorem zw_pushes {dA : Nat → ClassId} {ad ad' : Nat → Nat} (h : ∀ k, (k < w.length ∨ zsent ≤ k) → ad' k = ad k) (hw : w.all (zokc w.length) = true) {cs : zW} {k : Nat} {q : Nat × va_E} (hq : (zw dA ad' (w ++ cs))[k]? = some q) : q.1 = ad' k ∧ ((k < w.length ∧ (zw dA ad w)[k]? = some q) ∨ (w.length ≤ k ∧ ∃ c, cs[k - w.length]? = some c ∧ q = (ad' k, zc dA ad' c))) := by
  by_cases hk : k < w.length
  · have h1 : w[k]? = some w[k] := List.getElem?_eq_getElem hk
    rw [zw_at (show (w ++ cs)[k]? = some w[k] by rw [List.getElem?_append_left hk]; exact h1)] at hq
    cases hq
    refine ⟨rfl, Or.inl ⟨hk, ?_⟩⟩
    rw [zw_at h1, h k (Or.inl hk), zokc_eq h (List.all_eq_true.mp hw _ (List.getElem_mem hk))]
  · cases hc : cs[k - w.length]? with
    | none =>
      have : (zw dA ad' (w ++ cs))[k]? = none := List.getElem?_eq_none (by rw [zw_len, List.length_append]; have := List.getElem?_eq_none_iff.mp hc; omega)
      rw [this] at hq; cases hq
    | some c =>
      rw [zw_at (show (w ++ cs)[k]? = some c by rw [List.getElem?_append_right (by omega)]; exact hc)] at hq
      cases hq
      exact ⟨rfl, Or.inr ⟨by omega, c, rfl, rfl⟩⟩
def zgrid (L N K : Nat) : zW := zR 4 ((List.range N).map (fun i => some (L + 1 + i))) :: List.replicate N (zJ K (fun _ => 0))
set_option maxHeartbeats 1000000 in
theorem zv_mna (ok : zTb M tb) {idx : Nat} (hlook : zlook tb pc = some (.multianewarray idx 2, pc + 4, a, b, c0)) (N K : Nat) {n k : Int32} (hn : ¬ n < 0) (hk : ¬ k < 0) (hN : n.toNatClampNeg = N) (hK : k.toNatClampNeg = K) (hb : N ≤ 1000) (hb' : K ≤ 1000) (h1 : Cond.classLink M.1 idx ("[" ++ (FieldType.array .long).toString) ∈ zG) (h2 : Cond.arrayClass .long ∈ zG)
    (hok : zokA n0 l st w) (hz : w.length + 1 + N ≤ zsent) (hkc : kc + (1 + N) ≤ M.2.2.2.2.1.cells) (hs : ks + (N + N * K) ≤ M.2.2.2.2.1.slots) (kk : zV M true n0 (kc + 1 + N) (ks + N + N * K) (pc + 4) l (.ref w.length :: st) (w ++ zgrid w.length N K) Q) : zV M true n0 kc ks pc l (.int k :: .int n :: st) w Q := by
  subst hN
  subst hK
  intro p l0 e s m args below meth c dC dI dA ad0 A Z h9t hctx hfin ad H locs ls hrel hl
  obtain ⟨F, hF, ok⟩ := ok
  have h0 := ok _ (zlook_mem hlook)
  simp only [zgood, Bool.and_eq_true, decide_eq_true_eq, Nat.add_sub_cancel_left] at h0
  obtain ⟨hx, hbb, hml, hown, hts, hKc, hA, hxn⟩ := id hctx
  obtain ⟨e1, e2, hP, hD, hS⟩ := id hrel
  obtain ⟨o1, o2, o3, o4, o5⟩ := id hok
  intro T hT Xs
  obtain ⟨vm₁, cA, comp, -, fA, fC, hO, -, X', step⟩ := Xs.multianewarray2F (ty := .long) hx hown (hts _ h1) hKc.2.2 (hts _ h2) (g := F0 m pc ls (.int k :: .int n :: st.map (zv ad))) rfl (by rw [hbb]; exact h0.1.1) rfl hn hk (by omega) (by have := Nat.mul_le_mul hb' (show componentBytes .long ≤ 8 by decide); omega) (by omega) rfl rfl hkc hs
  have ec : comp = dA 2 := Option.some.inj (fC.symm.trans (hKc.1.2 2 _ rfl).2)
  have eA : cA = dA 4 := Option.some.inj (fA.symm.trans (hKc.1.2 4 _ rfl).2)
  subst ec
  subst eA
  generalize hFl : Jvm.Free.Multi.fill (T.setVm vm₁) (dA 4) (dA 2) n.toNatClampNeg k.toNatClampNeg (defaultValue .long) n.toNatClampNeg = Fl at X' step
  have hTh : (T.setVm vm₁).heap = H := hT
  obtain ⟨f1, f2, -, -⟩ := Jvm.Free.Multi.fill_facts (T.setVm vm₁) (dA 4) (dA 2) n.toNatClampNeg k.toNatClampNeg (defaultValue .long) n.toNatClampNeg
  rw [hFl, hTh] at f1 f2
  have hold : ∀ x : Nat, x < H.size → Fl.heap[x]? = H[x]? := fun x hx => by
    have := Jvm.Free.Multi.fill_old (T.setVm vm₁) (dA 4) (dA 2) n.toNatClampNeg k.toNatClampNeg (defaultValue .long) (a := x) (by rw [hTh]; exact hx) n.toNatClampNeg
    rw [hFl, hTh] at this
    exact this
  have hrow : ∀ j : Nat, j < n.toNatClampNeg → Fl.heap[H.size + 1 + j]? = some (vp_cell (dA 2) (k.toNatClampNeg, .inr (.inl (fun _ => 0)))) := fun j hj => by
    have := Jvm.Free.Multi.fill_inner (T.setVm vm₁) (dA 4) (dA 2) n.toNatClampNeg k.toNatClampNeg (defaultValue .long) n.toNatClampNeg j hj
    rw [hFl, hTh] at this
    rw [this]
    exact congrArg some (arrV_new (dA 2) k.toNatClampNeg (defaultValue .long))
  rw [vr_outer] at f2
  have had : ∀ j, (j < w.length ∨ zsent ≤ j) → (fun j : Nat => if w.length ≤ j ∧ j < w.length + 1 + n.toNatClampNeg then H.size + (j - w.length) else ad j) j = ad j := fun j hj => by
    show (if w.length ≤ j ∧ j < w.length + 1 + n.toNatClampNeg then H.size + (j - w.length) else ad j) = ad j
    rw [if_neg (by omega)]
  generalize hade : (fun j : Nat => if w.length ≤ j ∧ j < w.length + 1 + n.toNatClampNeg then H.size + (j - w.length) else ad j) = ad' at had
  have hnew : ∀ j, w.length ≤ j → j < w.length + 1 + n.toNatClampNeg → ad' j = H.size + (j - w.length) := fun j h1 h2 => by rw [← hade]; exact if_pos ⟨h1, h2⟩
  have hlen : (zgrid w.length n.toNatClampNeg k.toNatClampNeg).length = 1 + n.toNatClampNeg := by simp [zgrid]; omega
  have hP1 : va_P (dC, dI) vwCl (zw dA ad' (w ++ zgrid w.length n.toNatClampNeg k.toNatClampNeg)) Fl.heap := by
    intro k9 q hq
    obtain ⟨-, ⟨g1, g2⟩ | ⟨g1, cc, g2, rfl⟩⟩ := zw_pushes had o5 hq
    · exact (hP k9 q g2).kept (hold _ (hP k9 q g2).lt)
    · have g3 := (List.getElem?_eq_some_iff.mp g2).1
      rw [hlen] at g3
      rw [hnew k9 g1 (by omega)]
      cases hj : k9 - w.length with
      | zero =>
        rw [hj] at g2
        cases g2
        show Fl.heap[H.size + 0]? = some (vp_cell (dA 4) _)
        rw [Nat.add_zero, f2, vp_cell_q]
        refine congrArg some ?_
        simp only [List.length_map, List.length_range]
        refine congrArg (arrV (dA 4) n.toNatClampNeg) (funext fun j => ?_)
        by_cases hjn : j < n.toNatClampNeg
        · have e5 : ((List.range n.toNatClampNeg).map (fun i => some (w.length + 1 + i))).getD j none = some (w.length + 1 + j) := by
            rw [List.getD_eq_getElem?_getD, List.getElem?_map, List.getElem?_range hjn]; rfl
          rw [e5, if_pos hjn]
          show va_rf (some (H.size + 1 + j)) = va_rf (some (ad' (w.length + 1 + j)))
          rw [hnew _ (by omega) (by omega), show H.size + (w.length + 1 + j - w.length) = H.size + 1 + j by omega]
        · have e5 : ((List.range n.toNatClampNeg).map (fun i => some (w.length + 1 + i))).getD j none = none := by
            rw [List.getD_eq_getElem?_getD, List.getElem?_eq_none (by simp; omega)]; rfl
          rw [e5, if_neg hjn]
          rfl
      | succ j =>
        rw [hj] at g2
        have g4 : (List.replicate n.toNatClampNeg (zJ k.toNatClampNeg (fun _ => 0)))[j]? = some cc := g2
        rw [List.getElem?_replicate] at g4
        split at g4
        · rename_i hjn
          cases g4
          show Fl.heap[H.size + (j + 1)]? = some _
          rw [show H.size + (j + 1) = H.size + 1 + j by omega]
          exact hrow j hjn
        · cases g4
  have hD1 : va_D A (zw dA ad' (w ++ zgrid w.length n.toNatClampNeg k.toNatClampNeg)) := by
    have key : ∀ (k9 : Nat) (q : Nat × va_E), (zw dA ad' (w ++ zgrid w.length n.toNatClampNeg k.toNatClampNeg))[k9]? = some q → (k9 < w.length ∧ (zw dA ad w)[k9]? = some q ∧ q.1 < H.size) ∨ (w.length ≤ k9 ∧ q.1 = H.size + (k9 - w.length)) := by
      intro k9 q hq
      obtain ⟨g0, ⟨g1, g2⟩ | ⟨g1, cc, g2, -⟩⟩ := zw_pushes had o5 hq
      · exact Or.inl ⟨g1, g2, (hP k9 q g2).lt⟩
      · have g3 := (List.getElem?_eq_some_iff.mp g2).1
        rw [hlen] at g3
        exact Or.inr ⟨g1, by rw [g0, hnew k9 g1 (by omega)]⟩
    refine ⟨fun i j x y hi hj hxy => ?_, fun k9 q hq => ?_⟩
    · rcases key i x hi with ⟨a1, a2, a3⟩ | ⟨a1, a2⟩ <;> rcases key j y hj with ⟨b1, b2, b3⟩ | ⟨b1, b2⟩
      · exact hD.1 i j x y a2 b2 hxy
      · omega
      · omega
      · omega
    · rcases key k9 q hq with ⟨a1, a2, -⟩ | ⟨a1, a2⟩
      · exact hD.2 k9 q a2
      · rw [a2]; exact hA _ (by have := hS.1; omega)
  have hS1 : va_S A s.heap Fl.heap locs := ⟨by rw [f1]; have := hS.1; omega, fun x h1 h2 => (hold x (Nat.lt_of_lt_of_le h1 hS.1)).trans (hS.2.1 x h1 h2), hS.2.2⟩
  have k9 := kk p l0 e s m args below meth c dC dI dA ad0 A Z h9t hctx hfin ad' Fl.heap locs ls ⟨fun q => (by cases q), fun j hj => (had j (hj.imp (fun z => Nat.lt_of_lt_of_le z o1) id)).trans (hrel.2.1 j hj), hP1, hD1, hS1⟩ (by rw [zokv_l had o4]; exact hl)
  rw [List.map_cons, zokv_map had o3] at k9
  have k10 : zv ad' (.ref w.length) = .ref H.size := congrArg Value.ref (by rw [hnew _ (Nat.le_refl _) (by omega), Nat.sub_self, Nat.add_zero])
  rw [k10] at k9
  obtain ⟨t, a1, b1⟩ := k9 Fl rfl X'
  refine ⟨t, step t ?_, b1⟩
  have e7 : T.heap.size = H.size := by rw [hT]
  rw [e7]
  exact a1
end ZR
end
section
theorem bX0_init (d : Nat) : zTb (zMo d zX0_init) tX0_init := ⟨fRX0, gRX0, oX0_init⟩
theorem bX0_add (d : Nat) : zTb (zMo d zX0_add) tX0_add := ⟨fRX0, gRX0, oX0_add⟩
theorem bX0_tally (d : Nat) : zTb (zMo d zX0_tally) tX0_tally := ⟨fRX0, gRX0, oX0_tally⟩
theorem bX0_waysOf (d : Nat) : zTb (zMo d zX0_waysOf) tX0_waysOf := ⟨fRX0, gRX0, oX0_waysOf⟩
theorem bX0_isBracketed (d : Nat) : zTb (zMo d zX0_isBracketed) tX0_isBracketed := ⟨fRX0, gRX0, oX0_isBracketed⟩
theorem bX0_bareWays (d : Nat) : zTb (zMo d zX0_bareWays) tX0_bareWays := ⟨fRX0, gRX0, oX0_bareWays⟩
theorem bX0_kindByEnds (d : Nat) : zTb (zMo d zX0_kindByEnds) tX0_kindByEnds := ⟨fRX0, gRX0, oX0_kindByEnds⟩
theorem bX0_partFrom (d : Nat) : zTb (zMo d zX0_partFrom) tX0_partFrom := ⟨fRX0, gRX0, oX0_partFrom⟩
theorem bX0_partTo (d : Nat) : zTb (zMo d zX0_partTo) tX0_partTo := ⟨fRX0, gRX0, oX0_partTo⟩
theorem bX0_numberIn (d : Nat) : zTb (zMo d zX0_numberIn) tX0_numberIn := ⟨fRX0, gRX0, oX0_numberIn⟩
theorem bX0_build (d : Nat) : zTb (zMo d zX0_build) tX0_build := ⟨fRX0, gRX0, oX0_build⟩
theorem bX0_buildSpan (d : Nat) : zTb (zMo d zX0_buildSpan) tX0_buildSpan := ⟨fRX0, gRX0, oX0_buildSpan⟩
theorem bX0_buildBare (d : Nat) : zTb (zMo d zX0_buildBare) tX0_buildBare := ⟨fRX0, gRX0, oX0_buildBare⟩
theorem bX0_buildPair (d : Nat) : zTb (zMo d zX0_buildPair) tX0_buildPair := ⟨fRX0, gRX0, oX0_buildPair⟩
theorem bX0_placeOf (d : Nat) : zTb (zMo d zX0_placeOf) tX0_placeOf := ⟨fRX0, gRX0, oX0_placeOf⟩
theorem bX0_placeIn (d : Nat) : zTb (zMo d zX0_placeIn) tX0_placeIn := ⟨fRX0, gRX0, oX0_placeIn⟩
theorem bX0_placeBare (d : Nat) : zTb (zMo d zX0_placeBare) tX0_placeBare := ⟨fRX0, gRX0, oX0_placeBare⟩
theorem bX0_placePair (d : Nat) : zTb (zMo d zX0_placePair) tX0_placePair := ⟨fRX0, gRX0, oX0_placePair⟩
theorem bX1_isPair (d : Nat) : zTb (zMo d zX1_isPair) tX1_isPair := ⟨fRX1, gRX1, oX1_isPair⟩
theorem bX1_isPrefix (d : Nat) : zTb (zMo d zX1_isPrefix) tX1_isPrefix := ⟨fRX1, gRX1, oX1_isPrefix⟩
theorem bX1_hasBit (d : Nat) : zTb (zMo d zX1_hasBit) tX1_hasBit := ⟨fRX1, gRX1, oX1_hasBit⟩
theorem bX1_withBit (d : Nat) : zTb (zMo d zX1_withBit) tX1_withBit := ⟨fRX1, gRX1, oX1_withBit⟩
theorem bX1_isDoubtful (d : Nat) : zTb (zMo d zX1_isDoubtful) tX1_isDoubtful := ⟨fRX1, gRX1, oX1_isDoubtful⟩
theorem bX2_init (d : Nat) : zTb (zMo d zX2_init) tX2_init := ⟨fRX2, gRX2, oX2_init⟩
theorem bX2_has (d : Nat) : zTb (zMo d zX2_has) tX2_has := ⟨fRX2, gRX2, oX2_has⟩
theorem bX2_isFull (d : Nat) : zTb (zMo d zX2_isFull) tX2_isFull := ⟨fRX2, gRX2, oX2_isFull⟩
theorem bX2_sizeOf (d : Nat) : zTb (zMo d zX2_sizeOf) tX2_sizeOf := ⟨fRX2, gRX2, oX2_sizeOf⟩
theorem bX2_partOf (d : Nat) : zTb (zMo d zX2_partOf) tX2_partOf := ⟨fRX2, gRX2, oX2_partOf⟩
theorem bX2_put (d : Nat) : zTb (zMo d zX2_put) tX2_put := ⟨fRX2, gRX2, oX2_put⟩
theorem bX2_addPart (d : Nat) : zTb (zMo d zX2_addPart) tX2_addPart := ⟨fRX2, gRX2, oX2_addPart⟩
theorem bX2_ownWords (d : Nat) : zTb (zMo d zX2_ownWords) tX2_ownWords := ⟨fRX2, gRX2, oX2_ownWords⟩
theorem bX2_firstAlike (d : Nat) : zTb (zMo d zX2_firstAlike) tX2_firstAlike := ⟨fRX2, gRX2, oX2_firstAlike⟩
theorem bX2_shapeOf (d : Nat) : zTb (zMo d zX2_shapeOf) tX2_shapeOf := ⟨fRX2, gRX2, oX2_shapeOf⟩
theorem bX2_isSameTop (d : Nat) : zTb (zMo d zX2_isSameTop) tX2_isSameTop := ⟨fRX2, gRX2, oX2_isSameTop⟩
theorem bX2_isAlike (d : Nat) : zTb (zMo d zX2_isAlike) tX2_isAlike := ⟨fRX2, gRX2, oX2_isAlike⟩
theorem bX2_isRight (d : Nat) : zTb (zMo d zX2_isRight) tX2_isRight := ⟨fRX2, gRX2, oX2_isRight⟩
theorem bX2_timesWithin (d : Nat) : zTb (zMo d zX2_timesWithin) tX2_timesWithin := ⟨fRX2, gRX2, oX2_timesWithin⟩
theorem bX2_tallyOf (d : Nat) : zTb (zMo d zX2_tallyOf) tX2_tallyOf := ⟨fRX2, gRX2, oX2_tallyOf⟩
theorem bX2_firstUnlike (d : Nat) : zTb (zMo d zX2_firstUnlike) tX2_firstUnlike := ⟨fRX2, gRX2, oX2_firstUnlike⟩
theorem bX2_differenceOf (d : Nat) : zTb (zMo d zX2_differenceOf) tX2_differenceOf := ⟨fRX2, gRX2, oX2_differenceOf⟩
theorem bX2_exchangesOf (d : Nat) : zTb (zMo d zX2_exchangesOf) tX2_exchangesOf := ⟨fRX2, gRX2, oX2_exchangesOf⟩
theorem bX2_layKinds (d : Nat) : zTb (zMo d zX2_layKinds) tX2_layKinds := ⟨fRX2, gRX2, oX2_layKinds⟩
theorem bX2_difference (d : Nat) : zTb (zMo d zX2_difference) tX2_difference := ⟨fRX2, gRX2, oX2_difference⟩
theorem bX2_exchanges (d : Nat) : zTb (zMo d zX2_exchanges) tX2_exchanges := ⟨fRX2, gRX2, oX2_exchanges⟩
theorem bX2_layKindsFrom (d : Nat) : zTb (zMo d zX2_layKindsFrom) tX2_layKindsFrom := ⟨fRX2, gRX2, oX2_layKindsFrom⟩
theorem bX3_init (d : Nat) : zTb (zMo d zX3_init) tX3_init := ⟨fRX3, gRX3, oX3_init⟩
theorem bX3_drop (d : Nat) : zTb (zMo d zX3_drop) tX3_drop := ⟨fRX3, gRX3, oX3_drop⟩
theorem bX3_holdNode (d : Nat) : zTb (zMo d zX3_holdNode) tX3_holdNode := ⟨fRX3, gRX3, oX3_holdNode⟩
theorem bX3_holdNoughts (d : Nat) : zTb (zMo d zX3_holdNoughts) tX3_holdNoughts := ⟨fRX3, gRX3, oX3_holdNoughts⟩
theorem bX3_holdRow (d : Nat) : zTb (zMo d zX3_holdRow) tX3_holdRow := ⟨fRX3, gRX3, oX3_holdRow⟩
theorem bX3_hasRow (d : Nat) : zTb (zMo d zX3_hasRow) tX3_hasRow := ⟨fRX3, gRX3, oX3_hasRow⟩
theorem bX3_hasSpan (d : Nat) : zTb (zMo d zX3_hasSpan) tX3_hasSpan := ⟨fRX3, gRX3, oX3_hasSpan⟩
theorem bX3_weighNode (d : Nat) : zTb (zMo d zX3_weighNode) tX3_weighNode := ⟨fRX3, gRX3, oX3_weighNode⟩
theorem bX4_init (d : Nat) : zTb (zMo d zX4_init) tX4_init := ⟨fRX4, gRX4, oX4_init⟩
theorem bX4_isTooLong (d : Nat) : zTb (zMo d zX4_isTooLong) tX4_isTooLong := ⟨fRX4, gRX4, oX4_isTooLong⟩
theorem bX4_sayInStyle (d : Nat) : zTb (zMo d zX4_sayInStyle) tX4_sayInStyle := ⟨fRX4, gRX4, oX4_sayInStyle⟩
theorem bX4_saySparingly (d : Nat) : zTb (zMo d zX4_saySparingly) tX4_saySparingly := ⟨fRX4, gRX4, oX4_saySparingly⟩
theorem bX4_isSameAs (d : Nat) : zTb (zMo d zX4_isSameAs) tX4_isSameAs := ⟨fRX4, gRX4, oX4_isSameAs⟩
theorem bX4_tell (d : Nat) : zTb (zMo d zX4_tell) tX4_tell := ⟨fRX4, gRX4, oX4_tell⟩
theorem bX4_tellBare (d : Nat) : zTb (zMo d zX4_tellBare) tX4_tellBare := ⟨fRX4, gRX4, oX4_tellBare⟩
theorem bX4_isPartKept (d : Nat) : zTb (zMo d zX4_isPartKept) tX4_isPartKept := ⟨fRX4, gRX4, oX4_isPartKept⟩
theorem bX4_addDigits (d : Nat) : zTb (zMo d zX4_addDigits) tX4_addDigits := ⟨fRX4, gRX4, oX4_addDigits⟩
theorem bX4_add (d : Nat) : zTb (zMo d zX4_add) tX4_add := ⟨fRX4, gRX4, oX4_add⟩
theorem bX5_init (d : Nat) : zTb (zMo d zX5_init) tX5_init := ⟨fRX5, gRX5, oX5_init⟩
theorem bX5_isBegun (d : Nat) : zTb (zMo d zX5_isBegun) tX5_isBegun := ⟨fRX5, gRX5, oX5_isBegun⟩
theorem bX5_top (d : Nat) : zTb (zMo d zX5_top) tX5_top := ⟨fRX5, gRX5, oX5_top⟩
theorem bX5_here (d : Nat) : zTb (zMo d zX5_here) tX5_here := ⟨fRX5, gRX5, oX5_here⟩
theorem bX5_beginAt (d : Nat) : zTb (zMo d zX5_beginAt) tX5_beginAt := ⟨fRX5, gRX5, oX5_beginAt⟩
theorem bX5_stepDown (d : Nat) : zTb (zMo d zX5_stepDown) tX5_stepDown := ⟨fRX5, gRX5, oX5_stepDown⟩
theorem bX5_stepUp (d : Nat) : zTb (zMo d zX5_stepUp) tX5_stepUp := ⟨fRX5, gRX5, oX5_stepUp⟩
theorem bX5_stepBeside (d : Nat) : zTb (zMo d zX5_stepBeside) tX5_stepBeside := ⟨fRX5, gRX5, oX5_stepBeside⟩
theorem bX5_asNumber (d : Nat) : zTb (zMo d zX5_asNumber) tX5_asNumber := ⟨fRX5, gRX5, oX5_asNumber⟩
theorem bX5_follow (d : Nat) : zTb (zMo d zX5_follow) tX5_follow := ⟨fRX5, gRX5, oX5_follow⟩
theorem bX5_leadsSomewhere (d : Nat) : zTb (zMo d zX5_leadsSomewhere) tX5_leadsSomewhere := ⟨fRX5, gRX5, oX5_leadsSomewhere⟩
theorem bX6_init (d : Nat) : zTb (zMo d zX6_init) tX6_init := ⟨fRX6, gRX6, oX6_init⟩
theorem bX6_leaf (d : Nat) : zTb (zMo d zX6_leaf) tX6_leaf := ⟨fRX6, gRX6, oX6_leaf⟩
theorem bX6_node (d : Nat) : zTb (zMo d zX6_node) tX6_node := ⟨fRX6, gRX6, oX6_node⟩
theorem bX6_undo (d : Nat) : zTb (zMo d zX6_undo) tX6_undo := ⟨fRX6, gRX6, oX6_undo⟩
theorem bX6_means (d : Nat) : zTb (zMo d zX6_means) tX6_means := ⟨fRX6, gRX6, oX6_means⟩
theorem bX6_look (d : Nat) : zTb (zMo d zX6_look) tX6_look := ⟨fRX6, gRX6, oX6_look⟩
theorem bX6_alike (d : Nat) : zTb (zMo d zX6_alike) tX6_alike := ⟨fRX6, gRX6, oX6_alike⟩
theorem bX6_times (d : Nat) : zTb (zMo d zX6_times) tX6_times := ⟨fRX6, gRX6, oX6_times⟩
theorem bX6_keeps (d : Nat) : zTb (zMo d zX6_keeps) tX6_keeps := ⟨fRX6, gRX6, oX6_keeps⟩
theorem bX6_words (d : Nat) : zTb (zMo d zX6_words) tX6_words := ⟨fRX6, gRX6, oX6_words⟩
theorem bX6_word (d : Nat) : zTb (zMo d zX6_word) tX6_word := ⟨fRX6, gRX6, oX6_word⟩
theorem bX6_sound (d : Nat) : zTb (zMo d zX6_sound) tX6_sound := ⟨fRX6, gRX6, oX6_sound⟩
theorem bX6_clear (d : Nat) : zTb (zMo d zX6_clear) tX6_clear := ⟨fRX6, gRX6, oX6_clear⟩
theorem bX6_hear (d : Nat) : zTb (zMo d zX6_hear) tX6_hear := ⟨fRX6, gRX6, oX6_hear⟩
theorem bX6_listen (d : Nat) : zTb (zMo d zX6_listen) tX6_listen := ⟨fRX6, gRX6, oX6_listen⟩
theorem bX6_hush (d : Nat) : zTb (zMo d zX6_hush) tX6_hush := ⟨fRX6, gRX6, oX6_hush⟩
theorem bX6_ear (d : Nat) : zTb (zMo d zX6_ear) tX6_ear := ⟨fRX6, gRX6, oX6_ear⟩
theorem bX6_readings (d : Nat) : zTb (zMo d zX6_readings) tX6_readings := ⟨fRX6, gRX6, oX6_readings⟩
theorem bX6_write (d : Nat) : zTb (zMo d zX6_write) tX6_write := ⟨fRX6, gRX6, oX6_write⟩
theorem bX6_place (d : Nat) : zTb (zMo d zX6_place) tX6_place := ⟨fRX6, gRX6, oX6_place⟩
theorem bX6_doubt (d : Nat) : zTb (zMo d zX6_doubt) tX6_doubt := ⟨fRX6, gRX6, oX6_doubt⟩
theorem bX6_fewest (d : Nat) : zTb (zMo d zX6_fewest) tX6_fewest := ⟨fRX6, gRX6, oX6_fewest⟩
theorem bX6_walk (d : Nat) : zTb (zMo d zX6_walk) tX6_walk := ⟨fRX6, gRX6, oX6_walk⟩
theorem bX6_go (d : Nat) : zTb (zMo d zX6_go) tX6_go := ⟨fRX6, gRX6, oX6_go⟩
theorem bX6_where (d : Nat) : zTb (zMo d zX6_where) tX6_where := ⟨fRX6, gRX6, oX6_where⟩
theorem bX6_lead (d : Nat) : zTb (zMo d zX6_lead) tX6_lead := ⟨fRX6, gRX6, oX6_lead⟩
theorem bX6_glance (d : Nat) : zTb (zMo d zX6_glance) tX6_glance := ⟨fRX6, gRX6, oX6_glance⟩
theorem bX6_changed (d : Nat) : zTb (zMo d zX6_changed) tX6_changed := ⟨fRX6, gRX6, oX6_changed⟩
theorem bX6_exchanged (d : Nat) : zTb (zMo d zX6_exchanged) tX6_exchanged := ⟨fRX6, gRX6, oX6_exchanged⟩
theorem bX6_count (d : Nat) : zTb (zMo d zX6_count) tX6_count := ⟨fRX6, gRX6, oX6_count⟩
theorem bX6_keep (d : Nat) : zTb (zMo d zX6_keep) tX6_keep := ⟨fRX6, gRX6, oX6_keep⟩
theorem bX6_make (d : Nat) : zTb (zMo d zX6_make) tX6_make := ⟨fRX6, gRX6, oX6_make⟩
theorem bX6_element (d : Nat) : zTb (zMo d zX6_element) tX6_element := ⟨fRX6, gRX6, oX6_element⟩
theorem bX6_copy (d : Nat) : zTb (zMo d zX6_copy) tX6_copy := ⟨fRX6, gRX6, oX6_copy⟩
theorem bX6_weight (d : Nat) : zTb (zMo d zX6_weight) tX6_weight := ⟨fRX6, gRX6, oX6_weight⟩
theorem bX6_toss (d : Nat) : zTb (zMo d zX6_toss) tX6_toss := ⟨fRX6, gRX6, oX6_toss⟩
theorem bX6_isLetter (d : Nat) : zTb (zMo d zX6_isLetter) tX6_isLetter := ⟨fRX6, gRX6, oX6_isLetter⟩
theorem bX6_isStyle (d : Nat) : zTb (zMo d zX6_isStyle) tX6_isStyle := ⟨fRX6, gRX6, oX6_isStyle⟩
theorem bX6_isStyleOrFree (d : Nat) : zTb (zMo d zX6_isStyleOrFree) tX6_isStyleOrFree := ⟨fRX6, gRX6, oX6_isStyleOrFree⟩
theorem bX6_isShelf (d : Nat) : zTb (zMo d zX6_isShelf) tX6_isShelf := ⟨fRX6, gRX6, oX6_isShelf⟩
theorem bX6_orMissing (d : Nat) : zTb (zMo d zX6_orMissing) tX6_orMissing := ⟨fRX6, gRX6, oX6_orMissing⟩
theorem bX6_digitOf (d : Nat) : zTb (zMo d zX6_digitOf) tX6_digitOf := ⟨fRX6, gRX6, oX6_digitOf⟩
theorem bX6_hearSpeech (d : Nat) : zTb (zMo d zX6_hearSpeech) tX6_hearSpeech := ⟨fRX6, gRX6, oX6_hearSpeech⟩
theorem bX6_tallyIn (d : Nat) : zTb (zMo d zX6_tallyIn) tX6_tallyIn := ⟨fRX6, gRX6, oX6_tallyIn⟩
theorem bX6_keepNode (d : Nat) : zTb (zMo d zX6_keepNode) tX6_keepNode := ⟨fRX6, gRX6, oX6_keepNode⟩
theorem bX6_nodeRefusal (d : Nat) : zTb (zMo d zX6_nodeRefusal) tX6_nodeRefusal := ⟨fRX6, gRX6, oX6_nodeRefusal⟩
theorem bX7_init (d : Nat) : zTb (zMo d zX7_init) tX7_init := ⟨fRX7, gRX7, oX7_init⟩
theorem bX7_in (d : Nat) : zTb (zMo d zX7_in) tX7_in := ⟨fRX7, gRX7, oX7_in⟩
theorem bX7_isNode (d : Nat) : zTb (zMo d zX7_isNode) tX7_isNode := ⟨fRX7, gRX7, oX7_isNode⟩
theorem bX7_isTwo (d : Nat) : zTb (zMo d zX7_isTwo) tX7_isTwo := ⟨fRX7, gRX7, oX7_isTwo⟩
theorem bX7_mayKeep (d : Nat) : zTb (zMo d zX7_mayKeep) tX7_mayKeep := ⟨fRX7, gRX7, oX7_mayKeep⟩
theorem bX7_isStyle (d : Nat) : zTb (zMo d zX7_isStyle) tX7_isStyle := ⟨fRX7, gRX7, oX7_isStyle⟩
theorem bX7_sets (d : Nat) : zTb (zMo d zX7_sets) tX7_sets := ⟨fRX7, gRX7, oX7_sets⟩
theorem bX7_leaf (d : Nat) : zTb (zMo d zX7_leaf) tX7_leaf := ⟨fRX7, gRX7, oX7_leaf⟩
theorem bX7_node (d : Nat) : zTb (zMo d zX7_node) tX7_node := ⟨fRX7, gRX7, oX7_node⟩
theorem bX7_undo (d : Nat) : zTb (zMo d zX7_undo) tX7_undo := ⟨fRX7, gRX7, oX7_undo⟩
theorem bX7_means (d : Nat) : zTb (zMo d zX7_means) tX7_means := ⟨fRX7, gRX7, oX7_means⟩
theorem bX7_isRight (d : Nat) : zTb (zMo d zX7_isRight) tX7_isRight := ⟨fRX7, gRX7, oX7_isRight⟩
theorem bX7_look (d : Nat) : zTb (zMo d zX7_look) tX7_look := ⟨fRX7, gRX7, oX7_look⟩
theorem bX7_areAlike (d : Nat) : zTb (zMo d zX7_areAlike) tX7_areAlike := ⟨fRX7, gRX7, oX7_areAlike⟩
theorem bX7_alike (d : Nat) : zTb (zMo d zX7_alike) tX7_alike := ⟨fRX7, gRX7, oX7_alike⟩
theorem bX7_has (d : Nat) : zTb (zMo d zX7_has) tX7_has := ⟨fRX7, gRX7, oX7_has⟩
theorem bX7_times (d : Nat) : zTb (zMo d zX7_times) tX7_times := ⟨fRX7, gRX7, oX7_times⟩
theorem bX7_keeps (d : Nat) : zTb (zMo d zX7_keeps) tX7_keeps := ⟨fRX7, gRX7, oX7_keeps⟩
theorem bX7_digits (d : Nat) : zTb (zMo d zX7_digits) tX7_digits := ⟨fRX7, gRX7, oX7_digits⟩
theorem bX7_own (d : Nat) : zTb (zMo d zX7_own) tX7_own := ⟨fRX7, gRX7, oX7_own⟩
theorem bX7_length (d : Nat) : zTb (zMo d zX7_length) tX7_length := ⟨fRX7, gRX7, oX7_length⟩
theorem bX7_says (d : Nat) : zTb (zMo d zX7_says) tX7_says := ⟨fRX7, gRX7, oX7_says⟩
theorem bX7_keepsIt (d : Nat) : zTb (zMo d zX7_keepsIt) tX7_keepsIt := ⟨fRX7, gRX7, oX7_keepsIt⟩
theorem bX7_say (d : Nat) : zTb (zMo d zX7_say) tX7_say := ⟨fRX7, gRX7, oX7_say⟩
theorem bX7_sayAll (d : Nat) : zTb (zMo d zX7_sayAll) tX7_sayAll := ⟨fRX7, gRX7, oX7_sayAll⟩
theorem bX7_words (d : Nat) : zTb (zMo d zX7_words) tX7_words := ⟨fRX7, gRX7, oX7_words⟩
theorem bX7_word (d : Nat) : zTb (zMo d zX7_word) tX7_word := ⟨fRX7, gRX7, oX7_word⟩
theorem bX7_sound (d : Nat) : zTb (zMo d zX7_sound) tX7_sound := ⟨fRX7, gRX7, oX7_sound⟩
theorem bX7_adds (d : Nat) : zTb (zMo d zX7_adds) tX7_adds := ⟨fRX7, gRX7, oX7_adds⟩
theorem bX7_grows (d : Nat) : zTb (zMo d zX7_grows) tX7_grows := ⟨fRX7, gRX7, oX7_grows⟩
theorem bX7_isSame (d : Nat) : zTb (zMo d zX7_isSame) tX7_isSame := ⟨fRX7, gRX7, oX7_isSame⟩
theorem bX7_clear (d : Nat) : zTb (zMo d zX7_clear) tX7_clear := ⟨fRX7, gRX7, oX7_clear⟩
theorem bX7_hear (d : Nat) : zTb (zMo d zX7_hear) tX7_hear := ⟨fRX7, gRX7, oX7_hear⟩
theorem bX7_listen (d : Nat) : zTb (zMo d zX7_listen) tX7_listen := ⟨fRX7, gRX7, oX7_listen⟩
theorem bX7_hears (d : Nat) : zTb (zMo d zX7_hears) tX7_hears := ⟨fRX7, gRX7, oX7_hears⟩
theorem bX7_hush (d : Nat) : zTb (zMo d zX7_hush) tX7_hush := ⟨fRX7, gRX7, oX7_hush⟩
theorem bX7_ear (d : Nat) : zTb (zMo d zX7_ear) tX7_ear := ⟨fRX7, gRX7, oX7_ear⟩
theorem bX7_times_ (d : Nat) : zTb (zMo d zX7_times_) tX7_times_ := ⟨fRX7, gRX7, oX7_times_⟩
theorem bX7_plus (d : Nat) : zTb (zMo d zX7_plus) tX7_plus := ⟨fRX7, gRX7, oX7_plus⟩
theorem bX7_isLet (d : Nat) : zTb (zMo d zX7_isLet) tX7_isLet := ⟨fRX7, gRX7, oX7_isLet⟩
theorem bX7_isNumber (d : Nat) : zTb (zMo d zX7_isNumber) tX7_isNumber := ⟨fRX7, gRX7, oX7_isNumber⟩
theorem bX7_within (d : Nat) : zTb (zMo d zX7_within) tX7_within := ⟨fRX7, gRX7, oX7_within⟩
theorem bX7_reckons (d : Nat) : zTb (zMo d zX7_reckons) tX7_reckons := ⟨fRX7, gRX7, oX7_reckons⟩
theorem bX7_counted (d : Nat) : zTb (zMo d zX7_counted) tX7_counted := ⟨fRX7, gRX7, oX7_counted⟩
theorem bX7_readings (d : Nat) : zTb (zMo d zX7_readings) tX7_readings := ⟨fRX7, gRX7, oX7_readings⟩
theorem bX7_makes (d : Nat) : zTb (zMo d zX7_makes) tX7_makes := ⟨fRX7, gRX7, oX7_makes⟩
theorem bX7_takes (d : Nat) : zTb (zMo d zX7_takes) tX7_takes := ⟨fRX7, gRX7, oX7_takes⟩
theorem bX7_takesTwo (d : Nat) : zTb (zMo d zX7_takesTwo) tX7_takesTwo := ⟨fRX7, gRX7, oX7_takesTwo⟩
theorem bX7_write (d : Nat) : zTb (zMo d zX7_write) tX7_write := ⟨fRX7, gRX7, oX7_write⟩
theorem bX7_copies (d : Nat) : zTb (zMo d zX7_copies) tX7_copies := ⟨fRX7, gRX7, oX7_copies⟩
theorem bX7_rank (d : Nat) : zTb (zMo d zX7_rank) tX7_rank := ⟨fRX7, gRX7, oX7_rank⟩
theorem bX7_inner (d : Nat) : zTb (zMo d zX7_inner) tX7_inner := ⟨fRX7, gRX7, oX7_inner⟩
theorem bX7_innerTwo (d : Nat) : zTb (zMo d zX7_innerTwo) tX7_innerTwo := ⟨fRX7, gRX7, oX7_innerTwo⟩
theorem bX7_place (d : Nat) : zTb (zMo d zX7_place) tX7_place := ⟨fRX7, gRX7, oX7_place⟩
theorem bX7_doubt (d : Nat) : zTb (zMo d zX7_doubt) tX7_doubt := ⟨fRX7, gRX7, oX7_doubt⟩
theorem bX7_keepable (d : Nat) : zTb (zMo d zX7_keepable) tX7_keepable := ⟨fRX7, gRX7, oX7_keepable⟩
theorem bX7_bits (d : Nat) : zTb (zMo d zX7_bits) tX7_bits := ⟨fRX7, gRX7, oX7_bits⟩
theorem bX7_fewest (d : Nat) : zTb (zMo d zX7_fewest) tX7_fewest := ⟨fRX7, gRX7, oX7_fewest⟩
theorem bX7_isOnly (d : Nat) : zTb (zMo d zX7_isOnly) tX7_isOnly := ⟨fRX7, gRX7, oX7_isOnly⟩
theorem bX7_walk (d : Nat) : zTb (zMo d zX7_walk) tX7_walk := ⟨fRX7, gRX7, oX7_walk⟩
theorem bX7_down (d : Nat) : zTb (zMo d zX7_down) tX7_down := ⟨fRX7, gRX7, oX7_down⟩
theorem bX7_go (d : Nat) : zTb (zMo d zX7_go) tX7_go := ⟨fRX7, gRX7, oX7_go⟩
theorem bX7_where (d : Nat) : zTb (zMo d zX7_where) tX7_where := ⟨fRX7, gRX7, oX7_where⟩
theorem bX7_lead (d : Nat) : zTb (zMo d zX7_lead) tX7_lead := ⟨fRX7, gRX7, oX7_lead⟩
theorem bX7_glanced (d : Nat) : zTb (zMo d zX7_glanced) tX7_glanced := ⟨fRX7, gRX7, oX7_glanced⟩
theorem bX7_glance (d : Nat) : zTb (zMo d zX7_glance) tX7_glance := ⟨fRX7, gRX7, oX7_glance⟩
theorem bX7_inside (d : Nat) : zTb (zMo d zX7_inside) tX7_inside := ⟨fRX7, gRX7, oX7_inside⟩
theorem bX7_difference (d : Nat) : zTb (zMo d zX7_difference) tX7_difference := ⟨fRX7, gRX7, oX7_difference⟩
theorem bX7_wholes (d : Nat) : zTb (zMo d zX7_wholes) tX7_wholes := ⟨fRX7, gRX7, oX7_wholes⟩
theorem bX7_changed (d : Nat) : zTb (zMo d zX7_changed) tX7_changed := ⟨fRX7, gRX7, oX7_changed⟩
theorem bX7_exchanged (d : Nat) : zTb (zMo d zX7_exchanged) tX7_exchanged := ⟨fRX7, gRX7, oX7_exchanged⟩
theorem bX7_functions (d : Nat) : zTb (zMo d zX7_functions) tX7_functions := ⟨fRX7, gRX7, oX7_functions⟩
theorem bX7_count (d : Nat) : zTb (zMo d zX7_count) tX7_count := ⟨fRX7, gRX7, oX7_count⟩
theorem bX7_isShelf (d : Nat) : zTb (zMo d zX7_isShelf) tX7_isShelf := ⟨fRX7, gRX7, oX7_isShelf⟩
theorem bX7_kinds (d : Nat) : zTb (zMo d zX7_kinds) tX7_kinds := ⟨fRX7, gRX7, oX7_kinds⟩
theorem bX7_keep (d : Nat) : zTb (zMo d zX7_keep) tX7_keep := ⟨fRX7, gRX7, oX7_keep⟩
theorem bX7_make (d : Nat) : zTb (zMo d zX7_make) tX7_make := ⟨fRX7, gRX7, oX7_make⟩
theorem bX7_element (d : Nat) : zTb (zMo d zX7_element) tX7_element := ⟨fRX7, gRX7, oX7_element⟩
theorem bX7_copy (d : Nat) : zTb (zMo d zX7_copy) tX7_copy := ⟨fRX7, gRX7, oX7_copy⟩
theorem bX7_held (d : Nat) : zTb (zMo d zX7_held) tX7_held := ⟨fRX7, gRX7, oX7_held⟩
theorem bX7_weight (d : Nat) : zTb (zMo d zX7_weight) tX7_weight := ⟨fRX7, gRX7, oX7_weight⟩
theorem bX7_toss (d : Nat) : zTb (zMo d zX7_toss) tX7_toss := ⟨fRX7, gRX7, oX7_toss⟩
theorem bJ6_bitCount_0f7a4 (d : Nat) : zTb (zMo d zJ6_bitCount_0f7a4) tJ6_bitCount_0f7a4 := ⟨fRJ6, gRJ6, oJ6_bitCount_0f7a4⟩
theorem bJ9_max_7cf53 (d : Nat) : zTb (zMo d zJ9_max_7cf53) tJ9_max_7cf53 := ⟨fRJ9, gRJ9, oJ9_max_7cf53⟩
theorem bJ9_min_7cf53 (d : Nat) : zTb (zMo d zJ9_min_7cf53) tJ9_min_7cf53 := ⟨fRJ9, gRJ9, oJ9_min_7cf53⟩
theorem bJ9_min_f86c9 (d : Nat) : zTb (zMo d zJ9_min_f86c9) tJ9_min_f86c9 := ⟨fRJ9, gRJ9, oJ9_min_f86c9⟩
end
section
/-! ===== BEGIN exceptions that leave a method, and their catching by the caller (launches without stack traces) ===== -/
section VXA
/-! The laws vx_back, vx_callV, vx_callS, vx_callSW, vx_throw0, vx_throwS follow proofs of the library, with one case more: JvmDerived/Free/Laws.lean (Back.of_free), Shelf42/LK1.lean (callV, callS), Shelf/KitTraced.lean (throwNew0V, throwNewS). -/
/-- where a method has thrown q: the class by its name, the cell, what was written, the world -/
def vx_T (XC : String → State → State → Prop) (st : State) (q : Addr) (t : State) (mc ms : Nat) (free : Addr → Prop) : Prop :=
  ∃ (E : String) (ce : Cell) (L : List Loc), XC E st t ∧ t.heap[q]? = some ce ∧ ce.vm = .none ∧ st.vm.findClass E = some ce.cls ∧ st.WarmedH t.vm ∧ st.sameButNew ({ t with vm := st.vm } : State) L mc ms ∧ ∀ z ∈ L, free z.base
def vx_Q (Qc : Array Value → State → Outcome → State → Prop) (XC : String → State → State → Prop) (mc ms : Nat) (free : Addr → Prop) : Array Value → State → Outcome → State → Prop := fun a st o t =>
  (Qc a st o t ∧ ∃ L, FrameEnd st o t L mc ms ∧ ∀ q ∈ L, free q.base) ∨ ∃ q, o = .threw q ∧ vx_T XC st q t mc ms free
/-- a callee that returns or throws -/
def vx_Met (l : Launch) (y : MethodName) (ws : List Cond) (rm : Room) (Pc : Array Value → State → Prop) (Qc : Array Value → State → Outcome → State → Prop) (XC : String → State → State → Prop) (mc ms : Nat) (free : Addr → Prop) : Prop :=
  MetFree l y (headSpec ws rm) Pc (fun _ _ _ _ _ => True) (vx_Q Qc XC mc ms free)
def vx_Post (XC : String → State → State → Prop) (mc ms : Nat) (free : Addr → Prop) : Pt → Array Value → Addr → Pt → Prop := fun A a q B =>
  ∃ (g : JFrame) (mk : MethodId) (t : State) (L : List Loc) (E : String) (ce : Cell), B.U.heap = t.heap ∧ B.U.vm = t.vm ∧ XC E (A.U.calling g mk a) t ∧ t.heap[q]? = some ce ∧ ce.vm = .none ∧ A.U.vm.findClass E = some ce.cls ∧ B.locs = A.locs ++ L ∧ (∀ z ∈ L, free z.base) ∧ B.cells = A.cells + mc ∧ B.slots = A.slots + ms
def vx_Back (l : Launch) (R : Room) (p : Program) (e : Env) (below : List Frame) (s : State) (sargs : Array Value) (y : MethodName) (len W9 : Nat)
    (Pre : Pt → Array Value → Prop) (Post : Pt → Array Value → Option Value → Pt → Prop) (PostX : Pt → Array Value → Addr → Pt → Prop) : Prop :=
  ∀ (m : MethodId) (meth : Method) (c : Code) (A : Pt) (g : JFrame) (ig : Instr) (mk : MethodId) (a : Array Value),
    Stand p l e R s m sargs below meth c A.U A.locs A.cells A.slots → g.method = m → g.locals.size = c.maxLocals → decode c.code g.pc = .ok (ig, len) →
    2 * g.monitorRoom + (g.stack.map fun v => v.category).sum ≤ W9 → A.U.methodNamed? y = some mk → Pre A a →
    (∃ (v : Option Value) (B : Pt), Stand p l e R s m sargs below meth c B.U B.locs B.cells B.slots ∧ Post A a v B ∧
      Steps p.tables e below (doInvoke e (A.U.setTop g) [] mk a).1 (B.U.setTop { g with pc := g.pc + len, stack := v.toList ++ g.stack })) ∨
    (∃ (q : Addr) (B : Pt), Stand p l e R s m sargs below meth c B.U B.locs B.cells B.slots ∧ PostX A a q B ∧
      Steps p.tables e below (doInvoke e (A.U.setTop g) [] mk a).1 ((B.U.setTop g).pushFrame (.throwing q)))
section Payer
variable {l : Launch} {R : Room} {p : Program} {e : Env} {below : List Frame} {s : State} {sargs : Array Value} {y : MethodName} {len W9 : Nat}
theorem vx_back {ws : List Cond} {rm : Room} {Pc : Array Value → State → Prop} {Qc : Array Value → State → Outcome → State → Prop} {XC : String → State → State → Prop} {mc ms : Nat} {free : Addr → Prop} {bytes : ByteArray} {maxL : Nat} {ret : Option FieldType}
    (hM : vx_Met l y ws rm Pc Qc XC mc ms free) (hblind : FrameBlind Pc) (hrc : rm.cells = mc) (hrs : rm.slots = ms)
    (hframes : rm.frames + 1 ≤ R.frames) (hlocals : W9 + (maxL + 11) + rm.locals ≤ R.locals)
    (hws : ∀ w ∈ ws, ∀ a' U, s.WarmedH U.vm → w.before a' U = true) (hcode : Cond.code y bytes maxL ret ∈ ws) (hinit : ∀ a' U, s.WarmedH U.vm → (Cond.initialized y.cls).before a' U = true) :
    vx_Back l R p e below s sargs y len W9 (PreOf R mc ms Pc) (PostOf Qc mc ms free) (vx_Post XC mc ms free) := by
  intro m meth c A g ig mk a X hg hsize hdg hW hn hp
  have h1 : (headSpec ws rm).pre.before a A.U = true := atoms_intro fun w hw => hws w hw _ _ X.warmed
  have h2 : (Cond.code y bytes maxL ret).before a A.U = true := hws _ hcode _ _ X.warmed
  have h3 : (Cond.initialized y.cls).before a A.U = true := hinit _ _ X.warmed
  have h4 : A.cells + (headSpec ws rm).room.cells ≤ R.cells := by rw [show (headSpec ws rm).room.cells = mc from hrc]; exact hp.1
  have h5 : A.slots + (headSpec ws rm).room.slots ≤ R.slots := by rw [show (headSpec ws rm).room.slots = ms from hrs]; exact hp.2.1
  have hPc : Pc a (A.U.calling g mk a) := hblind _ _ _ _ hp.2.2
  obtain ⟨U, Ls, c0, s0⟩ := A
  dsimp only [Pt.U, Pt.locs, Pt.cells, Pt.slots] at h1 h2 h3 h4 h5 X hn hPc ⊢
  obtain ⟨methY, cY, hmY, hcY, -, hlY, -, -, -, -⟩ := Cond.code_spec hn h2
  obtain ⟨kY, hkY, -⟩ := className_of_methodNamed hn
  have hinitY : kY.init = .initialized := Cond.initialized_spec (findClass_of_methodNamed hn) hkY h3
  have h : At U g.method c below := by rw [hg]; exact X.here
  have hlocals9 : W9 + (maxL + 11) + (headSpec ws rm).room.locals ≤ R.locals := hlocals
  have happ : (headSpec ws rm).appliesLoose y e.platform (U.calling g mk a) = true :=
    Spec.appliesLoose_calling (g := g) h hdg hn hkY hinitY
      (X.room_calling (g := g) (R' := (headSpec ws rm).room) hsize hmY hcY hframes (by rw [hlY]; omega) h4 h5) h1
  obtain ⟨mid, hmid⟩ := h.above
  have hfr : (U.setTop g).frames = (.java g :: mid) ++ below := by rw [State.frames_setTop' g h.top, hmid]; rfl
  obtain ⟨o, s₂, hsteps, -, hend, hq⟩ := Steps.callFree hM p X.admits X.cas X.clock (acts := []) hfr happ hPc trivial
  have hq' : vx_Q Qc XC mc ms free a (U.calling g mk a) o s₂ := hq
  rw [State.frames_setTop' g h.top] at hend
  obtain ⟨g₀, hg0⟩ := Option.isSome_iff_exists.mp h.top
  obtain ⟨r, hr⟩ := State.topJava?_eq_some.mp hg0
  have hr' : (({ U with heap := s₂.heap, slotsUsed := s₂.slotsUsed } : State).setVm s₂.vm).frames = .java g₀ :: r := hr
  rcases hq' with ⟨hqc, L, hfe, hL⟩ | ⟨q, rfl, E, ce, L, hx, hce, hcv, hcl, hW₂, hsm, hL⟩
  · obtain ⟨⟨v, rfl⟩, hW₂, e2, q2, q3, q4, q5, q6⟩ := id hfe
    have e3 : s₂ = ({ (U.calling g mk a).setFrames s₂.frames with heap := s₂.heap, slotsUsed := s₂.slotsUsed } : State).setVm s₂.vm := by
      have : s₂ = ({ s₂ with vm := (U.calling g mk a).vm } : State).setVm s₂.vm := rfl
      rw [e2] at this
      exact this
    obtain ⟨c₂, i₂, len₂, hc₂, hd₂, hf₂⟩ := hend
    have hW' : U.WarmedH s₂.vm := hW₂
    have hcc : c₂ = c := by
      have h1 : s₂.code? g.method = U.code? g.method := by
        rw [State.code?_eq, State.code?_eq, hW'.alike.method?]
      exact Option.some.inj (hc₂.symm.trans (h1.trans h.code))
    subst hcc
    have hlen : len₂ = len := by rw [hdg] at hd₂; cases hd₂; rfl
    subst hlen
    have hs₂ : s₂ = (({ U with heap := s₂.heap, slotsUsed := s₂.slotsUsed } : State).setVm s₂.vm).setTop { g with pc := g.pc + len₂, stack := v.toList ++ g.stack } := by
      refine e3.trans ?_
      rw [hf₂, State.calling_eq h.top, State.setFrames_setFrames, State.setTop_of_frames _ hr', hr]
      rfl
    have hsame : U.sameButNew ({ U with heap := s₂.heap, slotsUsed := s₂.slotsUsed } : State) L mc ms := by
      refine ⟨?_, q2, q3, q4, q5, q6⟩
      obtain ⟨t, ht, -⟩ := State.frames_cons hr
      show ({ U with heap := s₂.heap, slotsUsed := s₂.slotsUsed } : State) = { U.setFrames U.frames with heap := s₂.heap, slotsUsed := s₂.slotsUsed }
      rw [State.setFrames_self ht]
    subst hg
    refine Or.inl ⟨v, ⟨(({ U with heap := s₂.heap, slotsUsed := s₂.slotsUsed } : State).setVm s₂.vm), Ls ++ L, c0 + mc, s0 + ms⟩,
      ⟨X.admits, X.cas, X.clock, X.frames, X.room, X.hears, X.method, X.code, (X.here.setHeapUsed s₂.heap s₂.slotsUsed).setVm hW'.alike, X.tail, State.WarmedH.trans X.warmed hW', X.limits, X.bytes, X.same.trans (hsame.setVm s.vm)⟩,
      ⟨g, mk, s₂, L, rfl, rfl, hqc, rfl, hL, rfl, rfl⟩, ?_⟩
    show Steps p.tables e below _ ((({ U with heap := s₂.heap, slotsUsed := s₂.slotsUsed } : State).setVm s₂.vm).setTop { g with pc := g.pc + len₂, stack := v.toList ++ g.stack })
    rw [← hs₂]
    exact hsteps
  · obtain ⟨e2, q2, q3, q4, q5, q6⟩ := id hsm
    have e3 : s₂ = ({ (U.calling g mk a).setFrames s₂.frames with heap := s₂.heap, slotsUsed := s₂.slotsUsed } : State).setVm s₂.vm := by
      have : s₂ = ({ s₂ with vm := (U.calling g mk a).vm } : State).setVm s₂.vm := rfl
      rw [e2] at this
      exact this
    have hf₂ : s₂.frames = .throwing q :: .java g :: U.frames.tail := hend
    have hW' : U.WarmedH s₂.vm := hW₂
    have hs₂ : s₂ = ((({ U with heap := s₂.heap, slotsUsed := s₂.slotsUsed } : State).setVm s₂.vm).setTop g).pushFrame (.throwing q) := by
      refine e3.trans ?_
      rw [hf₂, State.calling_eq h.top, State.setFrames_setFrames, State.pushFrame, State.frames_setTop _ hr', State.setTop_of_frames _ hr', State.setFrames_setFrames, hr]
      rfl
    have hsame : U.sameButNew ({ U with heap := s₂.heap, slotsUsed := s₂.slotsUsed } : State) L mc ms := by
      refine ⟨?_, q2, q3, q4, q5, q6⟩
      obtain ⟨t, ht, -⟩ := State.frames_cons hr
      show ({ U with heap := s₂.heap, slotsUsed := s₂.slotsUsed } : State) = { U.setFrames U.frames with heap := s₂.heap, slotsUsed := s₂.slotsUsed }
      rw [State.setFrames_self ht]
    subst hg
    refine Or.inr ⟨q, ⟨(({ U with heap := s₂.heap, slotsUsed := s₂.slotsUsed } : State).setVm s₂.vm), Ls ++ L, c0 + mc, s0 + ms⟩,
      ⟨X.admits, X.cas, X.clock, X.frames, X.room, X.hears, X.method, X.code, (X.here.setHeapUsed s₂.heap s₂.slotsUsed).setVm hW'.alike, X.tail, State.WarmedH.trans X.warmed hW', X.limits, X.bytes, X.same.trans (hsame.setVm s.vm)⟩,
      ⟨g, mk, s₂, L, E, ce, rfl, rfl, hx, hce, hcv, hcl, rfl, hL, rfl, rfl⟩, ?_⟩
    show Steps p.tables e below _ (((({ U with heap := s₂.heap, slotsUsed := s₂.slotsUsed } : State).setVm s₂.vm).setTop g).pushFrame (.throwing q))
    rw [← hs₂]
    exact hsteps
end Payer
section Calls
variable {p : Program} {l : Launch} {e : Env} {R : Room} {s : State} {m : MethodId} {args : Array Value} {below : List Frame} {meth : Method} {c : Code} {T : State} {locs : List Loc} {cells slots : Nat}
theorem vx_callV (X : Stand p l e R s m args below meth c T locs cells slots) (hexec : p.tables.exec = Jvm.exec) {own C : String} {index : Nat} {y : MethodName} {bytes : ByteArray} {maxL : Nat} {ret : Option FieldType}
    (hown : s.vm.findClass own = some m.cls) (hlink : (Cond.methodLink own index y).before args s = true) (hinst : (Cond.instanceMethod y).before args s = true) (hsel : (Cond.selects C y y).before args s = true)
    (hcode : (Cond.code y bytes maxL ret).before args s = true) (hy : y.cls ≠ "java/lang/invoke/MethodHandle" ∧ y.cls ≠ "java/lang/invoke/VarHandle")
    {W9 : Nat} {Pre : Pt → Array Value → Prop} {Post : Pt → Array Value → Option Value → Pt → Prop} {PostX : Pt → Array Value → Addr → Pt → Prop} (hK : vx_Back l R p e below s args y 3 W9 Pre Post PostX)
    {b : Addr} {cellB : Cell} (hcell : T.heap[b]? = some cellB) (hobj : cellB.vm.isStatics = false) (hcls : s.vm.findClass C = some cellB.cls)
    {g : JFrame} (hg : g.method = m) (hsize : g.locals.size = c.maxLocals) {argsL rest : List Value} (hlen : ∀ sig, parseMethodDescriptor y.desc = some sig → argsL.length = sig.parameters.length)
    (hstack : g.stack = argsL.reverse ++ .ref b :: rest) (hW : 2 * g.monitorRoom + (rest.map fun v => v.category).sum ≤ W9) (hdg : decode c.code g.pc = .ok (.invokevirtual index, 3))
    (hpre : ∀ vm₁, s.WarmedH vm₁ → Pre ⟨T.setVm vm₁, locs, cells, slots⟩ (Value.ref b :: argsL).toArray) :
    (∃ (v : Option Value) (vm₁ : Vm) (B : Pt), s.WarmedH vm₁ ∧ Stand p l e R s m args below meth c B.U B.locs B.cells B.slots ∧ Post ⟨T.setVm vm₁, locs, cells, slots⟩ (Value.ref b :: argsL).toArray v B ∧
      ∀ target, Steps p.tables e below (B.U.setTop { g with pc := g.pc + 3, stack := v.toList ++ rest }) target → Steps p.tables e below (T.setTop g) target) ∨
    (∃ (q : Addr) (vm₁ : Vm) (B : Pt), s.WarmedH vm₁ ∧ Stand p l e R s m args below meth c B.U B.locs B.cells B.slots ∧ PostX ⟨T.setVm vm₁, locs, cells, slots⟩ (Value.ref b :: argsL).toArray q B ∧
      Steps p.tables e below (T.setTop g) ((B.U.setTop { g with stack := rest }).pushFrame (.throwing q))) := by
  obtain ⟨mk, methM, hnamed, hmethM, hstM, habM⟩ := Cond.instanceMethod_spec hinst
  obtain ⟨methM', cM, hmethM', -, -, -, -, -, -, hsigM⟩ := Cond.code_spec hnamed hcode
  cases hmethM.symm.trans hmethM'
  obtain ⟨c2, r2, m2, q1, q2, q3, q4, kP, hkP, hkPi⟩ := Cond.selects_spec hsel
  cases hcls.symm.trans q1
  cases (State.methodFound?_of_named hnamed hy).symm.trans q2
  cases hnamed.symm.trans q3
  have hselP : selectMethod e.platform s.vm cellB.cls mk = .method mk := by rw [Launch.admits_selectMethod X.admits]; exact q4
  obtain ⟨vm₁, X₁, hstep₁⟩ := X.invokevirtual hexec hown hlink hnamed hmethM hstM hkP hkPi hy (a := b) (cell := cellB) hcell
    (fun z h => by rw [h] at hobj; cases hobj) hselP hmethM habM hkP hkPi (g := g) hg (argsL := argsL) (rest := rest) (hlen _ hsigM) hstack hdg
  rcases hK m meth c ⟨T.setVm vm₁, locs, cells, slots⟩ { g with stack := rest } (.invokevirtual index) mk (Value.ref b :: argsL).toArray X₁ hg hsize hdg hW (X₁.named hnamed) (hpre vm₁ X₁.warmed) with ⟨v, B, X', hpost, hsteps⟩ | ⟨q, B, X', hpost, hsteps⟩
  · exact Or.inl ⟨v, vm₁, B, X₁.warmed, X', hpost, fun target h => hstep₁ _ fun acts => by rw [doInvoke_state]; exact hsteps.trans h⟩
  · exact Or.inr ⟨q, vm₁, B, X₁.warmed, X', hpost, hstep₁ _ fun acts => by rw [doInvoke_state]; exact hsteps⟩
theorem vx_callS (X : Stand p l e R s m args below meth c T locs cells slots) (hexec : p.tables.exec = Jvm.exec) {own : String} {index : Nat} {y : MethodName} {bytes : ByteArray} {maxL : Nat} {ret : Option FieldType}
    (hown : s.vm.findClass own = some m.cls) (hlink : (Cond.methodLink own index y).before args s = true) (hstat : (Cond.static y).before args s = true) (hinit : (Cond.initialized y.cls).before args s = true)
    (hcode : (Cond.code y bytes maxL ret).before args s = true) (hy : y.cls ≠ "java/lang/invoke/MethodHandle" ∧ y.cls ≠ "java/lang/invoke/VarHandle")
    {W9 : Nat} {Pre : Pt → Array Value → Prop} {Post : Pt → Array Value → Option Value → Pt → Prop} {PostX : Pt → Array Value → Addr → Pt → Prop} (hK : vx_Back l R p e below s args y 3 W9 Pre Post PostX)
    {g : JFrame} (hg : g.method = m) (hsize : g.locals.size = c.maxLocals) {argsL rest : List Value} (hlen : ∀ sig, parseMethodDescriptor y.desc = some sig → argsL.length = sig.parameters.length)
    (hstack : g.stack = argsL.reverse ++ rest) (hW : 2 * g.monitorRoom + (rest.map fun v => v.category).sum ≤ W9) (hdg : decode c.code g.pc = .ok (.invokestatic index, 3))
    (hpre : ∀ vm₁, s.WarmedH vm₁ → Pre ⟨T.setVm vm₁, locs, cells, slots⟩ argsL.toArray) :
    (∃ (v : Option Value) (vm₁ : Vm) (B : Pt), s.WarmedH vm₁ ∧ Stand p l e R s m args below meth c B.U B.locs B.cells B.slots ∧ Post ⟨T.setVm vm₁, locs, cells, slots⟩ argsL.toArray v B ∧
      ∀ target, Steps p.tables e below (B.U.setTop { g with pc := g.pc + 3, stack := v.toList ++ rest }) target → Steps p.tables e below (T.setTop g) target) ∨
    (∃ (q : Addr) (vm₁ : Vm) (B : Pt), s.WarmedH vm₁ ∧ Stand p l e R s m args below meth c B.U B.locs B.cells B.slots ∧ PostX ⟨T.setVm vm₁, locs, cells, slots⟩ argsL.toArray q B ∧
      Steps p.tables e below (T.setTop g) ((B.U.setTop { g with stack := rest }).pushFrame (.throwing q))) := by
  obtain ⟨mk, hnamed⟩ := Cond.code_named hcode
  obtain ⟨methM, cM, hmethM, -, -, -, -, -, -, hsigM⟩ := Cond.code_spec hnamed hcode
  have hstatic : methM.isStatic = true := Cond.static_spec hnamed hmethM hstat
  obtain ⟨kP, hkP, -⟩ := className_of_methodNamed hnamed
  have hinitP : kP.init = .initialized := Cond.initialized_spec (findClass_of_methodNamed hnamed) hkP hinit
  obtain ⟨vm₁, X₁, hstep₁⟩ := X.invokestatic hexec hown hlink hnamed hmethM hstatic hkP hinitP hy (g := g) hg (argsL := argsL) (rest := rest) (hlen _ hsigM) hstack hdg
  rcases hK m meth c ⟨T.setVm vm₁, locs, cells, slots⟩ { g with stack := rest } (.invokestatic index) mk argsL.toArray X₁ hg hsize hdg hW (X₁.named hnamed) (hpre vm₁ X₁.warmed) with ⟨v, B, X', hpost, hsteps⟩ | ⟨q, B, X', hpost, hsteps⟩
  · exact Or.inl ⟨v, vm₁, B, X₁.warmed, X', hpost, fun target h => hstep₁ _ fun acts => by rw [doInvoke_state]; exact hsteps.trans h⟩
  · exact Or.inr ⟨q, vm₁, B, X₁.warmed, X', hpost, hstep₁ _ fun acts => by rw [doInvoke_state]; exact hsteps⟩
end Calls
theorem vx_cls {s : State} {T : State} {vm₁ : Vm} {E : String} {k : ClassId} (hW : s.WarmedH vm₁) (h : (T.setVm vm₁).vm.findClass E = some k) : s.vm.findClass E = some k := by
  have h1 : vm₁.findClass E = some k := h
  rw [hW.alike.findClass] at h1
  exact h1
/-- the method's frame g, with q thrown over it -/
def vx_W (p : Program) (l : Launch) (e : Env) (R : Room) (s : State) (m : MethodId) (args : Array Value) (below : List Frame) (meth : Method) (c : Code) (H : Heap) (locs : List Loc) (cells slots : Nat) (Q : State → Prop) (g : JFrame) (q : Addr) : Prop :=
  ∀ T : State, T.heap = H → Stand p l e R s m args below meth c T locs cells slots → ∃ t, Steps p.tables e below ((T.setTop g).pushFrame (.throwing q)) t ∧ Q t
def vx_Run (p : Program) (l : Launch) (e : Env) (R : Room) (s : State) (m : MethodId) (args : Array Value) (below : List Frame) (meth : Method) (c : Code) (H : Heap) (locs : List Loc) (cells slots mc ms : Nat) (g : JFrame) (rest : List Value) (Qa : State → Outcome → State → Prop) (XC : String → State → State → Prop) (free : Addr → Prop) : Prop :=
  ∀ T : State, T.heap = H → Stand p l e R s m args below meth c T locs cells slots →
    (∃ (v : Option Value) (st₀ t T' : State) (L : List Loc), st₀.heap = H ∧ Stand p l e R s m args below meth c T' (locs ++ L) (cells + mc) (slots + ms) ∧ (∀ q ∈ L, free q.base) ∧ T'.heap = t.heap ∧ T'.vm = t.vm ∧ Qa st₀ (.returned v) t ∧
      Goes p e below T g T' { g with pc := g.pc + 3, stack := v.toList ++ rest }) ∨
    (∃ (q : Addr) (st₀ t T' : State) (L : List Loc) (E : String) (ce : Cell), st₀.heap = H ∧ Stand p l e R s m args below meth c T' (locs ++ L) (cells + mc) (slots + ms) ∧ (∀ z ∈ L, free z.base) ∧ T'.heap = t.heap ∧ T'.vm = t.vm ∧ XC E st₀ t ∧ t.heap[q]? = some ce ∧ ce.vm = .none ∧ s.vm.findClass E = some ce.cls ∧
      Steps p.tables e below (T.setTop g) ((T'.setTop { g with stack := rest }).pushFrame (.throwing q)))
def vx_X {S : Type} (px : S → Prop) (B : String → S → State → Prop) (A : Nat → Prop) : String → State → State → Prop := fun E st t => ∃ u : S, px u ∧ B E u t ∧ va_F A st t
section Runs
variable {p : Program} {l : Launch} {e : Env} {R : Room} {s : State} {m : MethodId} {args : Array Value} {below : List Frame} {meth : Method} {c : Code} {H : Heap} {locs : List Loc} {cells slots : Nat}
variable {y : MethodName} {bytes cc : ByteArray} {maxL nL mc ms n index : Nat} {ret : Option FieldType} {ws : List Cond} {rm : Room} {Pc : Array Value → State → Prop} {Qc : Array Value → State → Outcome → State → Prop} {XC : String → State → State → Prop} {free : Addr → Prop} {Ts : List Cond} {own C : String} {b : Addr} {As rest : List Value} {g : JFrame}
theorem vx_callBack (cb : CallB R s args own index y bytes maxL ret ws rm mc ms n) (hM : vx_Met l y ws rm Pc Qc XC mc ms free) (hbl : FrameBlind Pc) : vx_Back l R p e below s args y 3 8 (PreOf R mc ms Pc) (PostOf Qc mc ms free) (vx_Post XC mc ms free) := by
  obtain ⟨hrc, hrs, hfr, hlo, hws, hcw, -, hini, -⟩ := cb
  exact vx_back (bytes := bytes) (maxL := maxL) (ret := ret) hM hbl hrc hrs hfr hlo hws hcw (fun a' U hW => word_at hW (Or.inl (by first | rfl | simp [Cond.onTables, Cond.keeps, Cond.steady])) hini)
theorem vx_runV (S : CallFix p m c cc nL s args Ts own) (hM : vx_Met l y ws rm Pc Qc XC mc ms free) (cw : CallW R s args own C index y bytes maxL ret ws rm mc ms n) (hp : PreV s H C b Pc As)
    (hg : g.method = m) (hn : As.length = n) (hsize : g.locals.size = nL) (hstack : g.stack = As.reverse ++ .ref b :: rest) (hW : 2 * g.monitorRoom + (rest.map fun v => v.category).sum ≤ 8) (hdg : decode cc g.pc = .ok (.invokevirtual index, 3)) (hf : cells + mc ≤ R.cells ∧ slots + ms ≤ R.slots) :
    vx_Run p l e R s m args below meth c H locs cells slots mc ms g rest (Qc (Value.ref b :: As).toArray) XC free := by
  have hK : vx_Back l R p e below s args y 3 8 (PreOf R mc ms Pc) (PostOf Qc mc ms free) (vx_Post XC mc ms free) := vx_callBack cw.1 hM hp.1
  obtain ⟨⟨-, -, -, -, -, -, hcode, -, hy, hlen, hl⟩, hin, hse⟩ := cw
  obtain ⟨hx, hb, hml, ho, -⟩ := S
  obtain ⟨-, ⟨cellB, hcB, hoB, hclB⟩, hPc⟩ := hp
  intro T hT X
  rcases vx_callV X hx (C := C) (bytes := bytes) (maxL := maxL) (ret := ret) ho hl hin hse hcode hy hK (by rw [hT]; exact hcB) hoB hclB hg (hsize.trans hml.symm) (argsL := As) (rest := rest) (fun sig h => hn.trans (hlen sig h)) hstack hW (by rw [hb]; exact hdg)
    (fun vm₁ hW₁ => ⟨hf.1, hf.2, hPc (T.setVm vm₁) hT hW₁⟩) with ⟨v, vm₁, ⟨U', l2, c2, s2⟩, hW₁, X', ⟨g', mk, t, L, e1, e2, hq, h1, hL, h2, h3⟩, st⟩ | ⟨q, vm₁, ⟨U', l2, c2, s2⟩, hW₁, X', ⟨g', mk, t, L, E, ce, e1, e2, hq, hce, hcv, hcl, h1, hL, h2, h3⟩, st⟩
  · dsimp only [Pt.U, Pt.locs, Pt.cells, Pt.slots] at X' e1 e2 h1 h2 h3 st
    subst h1; subst h2; subst h3
    exact Or.inl ⟨v, (T.setVm vm₁).calling g' mk (Value.ref b :: As).toArray, t, U', L, hT, X', hL, e1, e2, hq, st⟩
  · dsimp only [Pt.U, Pt.locs, Pt.cells, Pt.slots] at X' e1 e2 h1 h2 h3 st hcl
    subst h1; subst h2; subst h3
    exact Or.inr ⟨q, (T.setVm vm₁).calling g' mk (Value.ref b :: As).toArray, t, U', L, E, ce, hT, X', hL, e1, e2, hq, hce, hcv, vx_cls hW₁ hcl, st⟩
theorem vx_runS (S : CallFix p m c cc nL s args Ts own) (hM : vx_Met l y ws rm Pc Qc XC mc ms free) (cw : CallB R s args own index y bytes maxL ret ws rm mc ms n ∧ (Cond.static y).before args s = true) (hp : PreS s H Pc As)
    (hg : g.method = m) (hn : As.length = n) (hsize : g.locals.size = nL) (hstack : g.stack = As.reverse ++ rest) (hW : 2 * g.monitorRoom + (rest.map fun v => v.category).sum ≤ 8) (hdg : decode cc g.pc = .ok (.invokestatic index, 3)) (hf : cells + mc ≤ R.cells ∧ slots + ms ≤ R.slots) :
    vx_Run p l e R s m args below meth c H locs cells slots mc ms g rest (Qc As.toArray) XC free := by
  have hK : vx_Back l R p e below s args y 3 8 (PreOf R mc ms Pc) (PostOf Qc mc ms free) (vx_Post XC mc ms free) := vx_callBack cw.1 hM hp.1
  obtain ⟨⟨-, -, -, -, -, -, hcode, hini, hy, hlen, hl⟩, hstt⟩ := cw
  obtain ⟨hx, hb, hml, ho, -⟩ := S
  intro T hT X
  rcases vx_callS X hx (bytes := bytes) (maxL := maxL) (ret := ret) ho hl hstt hini hcode hy hK hg (hsize.trans hml.symm) (argsL := As) (rest := rest) (fun sig h => hn.trans (hlen sig h)) hstack hW (by rw [hb]; exact hdg)
    (fun vm₁ hW₁ => ⟨hf.1, hf.2, hp.2 (T.setVm vm₁) hT hW₁⟩) with ⟨v, vm₁, ⟨U', l2, c2, s2⟩, hW₁, X', ⟨g', mk, t, L, e1, e2, hq, h1, hL, h2, h3⟩, st⟩ | ⟨q, vm₁, ⟨U', l2, c2, s2⟩, hW₁, X', ⟨g', mk, t, L, E, ce, e1, e2, hq, hce, hcv, hcl, h1, hL, h2, h3⟩, st⟩
  · dsimp only [Pt.U, Pt.locs, Pt.cells, Pt.slots] at X' e1 e2 h1 h2 h3 st
    subst h1; subst h2; subst h3
    exact Or.inl ⟨v, (T.setVm vm₁).calling g' mk As.toArray, t, U', L, hT, X', hL, e1, e2, hq, st⟩
  · dsimp only [Pt.U, Pt.locs, Pt.cells, Pt.slots] at X' e1 e2 h1 h2 h3 st hcl
    subst h1; subst h2; subst h3
    exact Or.inr ⟨q, (T.setVm vm₁).calling g' mk As.toArray, t, U', L, E, ce, hT, X', hL, e1, e2, hq, hce, hcv, vx_cls hW₁ hcl, st⟩
end Runs
section Rows
variable {p : Program} {l : Launch} {e : Env} {R : Room} {s : State} {m : MethodId} {args : Array Value} {below : List Frame} {meth : Method} {c : Code} {H : Heap} {locs : List Loc} {cells slots : Nat} {Q : State → Prop}
variable {mc ms : Nat} {free : Addr → Prop} {A0 A1 : Nat → Prop} {H0 : Heap} {a : Array Value} {pc : Nat} {ls : Array Slot} {st0 rest : List Value}
theorem vx_keep {st₀ t T' : State} {L : List Loc} (h0 : st₀.heap = H) (e1 : T'.heap = t.heap) (hS : va_S A0 H0 H locs) (hA : ∀ q, q < H.size → A1 q → A0 q) (hf : ∀ q, free q → A0 q) (hL : ∀ q ∈ L, free q.base) (hF : va_F A1 st₀ t) :
    H.size ≤ T'.heap.size ∧ (∀ q : Nat, q < H.size → ¬ A1 q → T'.heap[q]? = H[q]?) ∧ va_S A0 H0 T'.heap (locs ++ L) := by
  obtain ⟨hz, hk⟩ := hF
  rw [h0] at hz hk
  exact ⟨by rw [e1]; exact hz, fun q h1 h2 => by rw [e1]; exact hk q h1 h2,
    ⟨Nat.le_trans hS.1 (by rw [e1]; exact hz), fun q h1 h2 => by rw [e1, hk q (Nat.lt_of_lt_of_le h1 hS.1) (fun z => h2 (hA q (Nat.lt_of_lt_of_le h1 hS.1) z))]; exact hS.2.1 q h1 h2, fun q hq => by
      rcases List.mem_append.mp hq with h | h
      · exact hS.2.2 q h
      · exact hf _ (hL q h)⟩⟩
theorem vx_calli {S SX : Type} {post : Int32 → S → Prop} {px : SX → Prop} {B : S → State → Prop} {BX : String → SX → State → Prop} {AX : Nat → Prop} (hr : vx_Run p l e R s m args below meth c H locs cells slots mc ms (F0 m pc ls st0) rest (va_Qi post B A1 a) (vx_X px BX AX) free) (hS : va_S A0 H0 H locs) (hA : ∀ q, q < H.size → A1 q → A0 q) (hf : ∀ q, free q → A0 q) (hAX : ∀ q, q < H.size → AX q → A0 q)
    (kx : ∀ (E : String) (ce : Cell) (q9 : Addr) (u : SX) (t : State) (H1 : Heap) (locs1 : List Loc), t.heap = H1 → s.vm.Alike t.vm → px u → BX E u t → H.size ≤ H1.size → (∀ q : Nat, q < H.size → ¬ AX q → H1[q]? = H[q]?) → va_S A0 H0 H1 locs1 → H1[q9]? = some ce → ce.vm = .none → s.vm.findClass E = some ce.cls → vx_W p l e R s m args below meth c H1 locs1 (cells + mc) (slots + ms) Q (F0 m pc ls rest) q9)
    (kk : ∀ (r : Int32) (u : S) (t : State) (H1 : Heap) (locs1 : List Loc), t.heap = H1 → s.vm.Alike t.vm → post r u → B u t → H.size ≤ H1.size → (∀ q : Nat, q < H.size → ¬ A1 q → H1[q]? = H[q]?) → va_S A0 H0 H1 locs1 → W p l e R s m args below meth c H1 locs1 (cells + mc) (slots + ms) Q (F0 m (pc + 3) ls (.int r :: rest))) : W p l e R s m args below meth c H locs cells slots Q (F0 m pc ls st0) := by
  intro T hT X
  rcases hr T hT X with ⟨v, st₀, t, T', L, h0, X', hL, e1, e2, ⟨⟨r, u, hv, hp, hb⟩, hF⟩, st⟩ | ⟨q, st₀, t, T', L, E, ce, h0, X', hL, e1, e2, ⟨u, hp, hb, hF⟩, hce, hcv, hcl, st⟩
  · cases hv
    obtain ⟨k1, k2, k3⟩ := vx_keep h0 e1 hS hA hf hL hF
    obtain ⟨t2, a1, b1⟩ := kk r u t T'.heap (locs ++ L) e1.symm (by rw [← e2]; exact X'.warmed.alike) hp hb k1 k2 k3 T' rfl X'
    exact ⟨t2, st t2 a1, b1⟩
  · obtain ⟨k1, k2, k3⟩ := vx_keep h0 e1 hS hAX hf hL hF
    obtain ⟨t2, a1, b1⟩ := kx E ce q u t T'.heap (locs ++ L) e1.symm (by rw [← e2]; exact X'.warmed.alike) hp hb k1 k2 k3 (by rw [e1]; exact hce) hcv hcl T' rfl X'
    exact ⟨t2, st.trans a1, b1⟩
theorem vx_calll {S SX : Type} {post : Int64 → S → Prop} {px : SX → Prop} {B : S → State → Prop} {BX : String → SX → State → Prop} {AX : Nat → Prop} (hr : vx_Run p l e R s m args below meth c H locs cells slots mc ms (F0 m pc ls st0) rest (va_Ql post B A1 a) (vx_X px BX AX) free) (hS : va_S A0 H0 H locs) (hA : ∀ q, q < H.size → A1 q → A0 q) (hf : ∀ q, free q → A0 q) (hAX : ∀ q, q < H.size → AX q → A0 q)
    (kx : ∀ (E : String) (ce : Cell) (q9 : Addr) (u : SX) (t : State) (H1 : Heap) (locs1 : List Loc), t.heap = H1 → s.vm.Alike t.vm → px u → BX E u t → H.size ≤ H1.size → (∀ q : Nat, q < H.size → ¬ AX q → H1[q]? = H[q]?) → va_S A0 H0 H1 locs1 → H1[q9]? = some ce → ce.vm = .none → s.vm.findClass E = some ce.cls → vx_W p l e R s m args below meth c H1 locs1 (cells + mc) (slots + ms) Q (F0 m pc ls rest) q9)
    (kk : ∀ (r : Int64) (u : S) (t : State) (H1 : Heap) (locs1 : List Loc), t.heap = H1 → s.vm.Alike t.vm → post r u → B u t → H.size ≤ H1.size → (∀ q : Nat, q < H.size → ¬ A1 q → H1[q]? = H[q]?) → va_S A0 H0 H1 locs1 → W p l e R s m args below meth c H1 locs1 (cells + mc) (slots + ms) Q (F0 m (pc + 3) ls (.long r :: rest))) : W p l e R s m args below meth c H locs cells slots Q (F0 m pc ls st0) := by
  intro T hT X
  rcases hr T hT X with ⟨v, st₀, t, T', L, h0, X', hL, e1, e2, ⟨⟨r, u, hv, hp, hb⟩, hF⟩, st⟩ | ⟨q, st₀, t, T', L, E, ce, h0, X', hL, e1, e2, ⟨u, hp, hb, hF⟩, hce, hcv, hcl, st⟩
  · cases hv
    obtain ⟨k1, k2, k3⟩ := vx_keep h0 e1 hS hA hf hL hF
    obtain ⟨t2, a1, b1⟩ := kk r u t T'.heap (locs ++ L) e1.symm (by rw [← e2]; exact X'.warmed.alike) hp hb k1 k2 k3 T' rfl X'
    exact ⟨t2, st t2 a1, b1⟩
  · obtain ⟨k1, k2, k3⟩ := vx_keep h0 e1 hS hAX hf hL hF
    obtain ⟨t2, a1, b1⟩ := kx E ce q u t T'.heap (locs ++ L) e1.symm (by rw [← e2]; exact X'.warmed.alike) hp hb k1 k2 k3 (by rw [e1]; exact hce) hcv hcl T' rfl X'
    exact ⟨t2, st.trans a1, b1⟩
theorem vx_callf {S SX : Type} {post : UInt32 → S → Prop} {px : SX → Prop} {B : S → State → Prop} {BX : String → SX → State → Prop} {AX : Nat → Prop} (hr : vx_Run p l e R s m args below meth c H locs cells slots mc ms (F0 m pc ls st0) rest (va_Qf post B A1 a) (vx_X px BX AX) free) (hS : va_S A0 H0 H locs) (hA : ∀ q, q < H.size → A1 q → A0 q) (hf : ∀ q, free q → A0 q) (hAX : ∀ q, q < H.size → AX q → A0 q)
    (kx : ∀ (E : String) (ce : Cell) (q9 : Addr) (u : SX) (t : State) (H1 : Heap) (locs1 : List Loc), t.heap = H1 → s.vm.Alike t.vm → px u → BX E u t → H.size ≤ H1.size → (∀ q : Nat, q < H.size → ¬ AX q → H1[q]? = H[q]?) → va_S A0 H0 H1 locs1 → H1[q9]? = some ce → ce.vm = .none → s.vm.findClass E = some ce.cls → vx_W p l e R s m args below meth c H1 locs1 (cells + mc) (slots + ms) Q (F0 m pc ls rest) q9)
    (kk : ∀ (r : UInt32) (u : S) (t : State) (H1 : Heap) (locs1 : List Loc), t.heap = H1 → s.vm.Alike t.vm → post r u → B u t → H.size ≤ H1.size → (∀ q : Nat, q < H.size → ¬ A1 q → H1[q]? = H[q]?) → va_S A0 H0 H1 locs1 → W p l e R s m args below meth c H1 locs1 (cells + mc) (slots + ms) Q (F0 m (pc + 3) ls (.float r :: rest))) : W p l e R s m args below meth c H locs cells slots Q (F0 m pc ls st0) := by
  intro T hT X
  rcases hr T hT X with ⟨v, st₀, t, T', L, h0, X', hL, e1, e2, ⟨⟨r, u, hv, hp, hb⟩, hF⟩, st⟩ | ⟨q, st₀, t, T', L, E, ce, h0, X', hL, e1, e2, ⟨u, hp, hb, hF⟩, hce, hcv, hcl, st⟩
  · cases hv
    obtain ⟨k1, k2, k3⟩ := vx_keep h0 e1 hS hA hf hL hF
    obtain ⟨t2, a1, b1⟩ := kk r u t T'.heap (locs ++ L) e1.symm (by rw [← e2]; exact X'.warmed.alike) hp hb k1 k2 k3 T' rfl X'
    exact ⟨t2, st t2 a1, b1⟩
  · obtain ⟨k1, k2, k3⟩ := vx_keep h0 e1 hS hAX hf hL hF
    obtain ⟨t2, a1, b1⟩ := kx E ce q u t T'.heap (locs ++ L) e1.symm (by rw [← e2]; exact X'.warmed.alike) hp hb k1 k2 k3 (by rw [e1]; exact hce) hcv hcl T' rfl X'
    exact ⟨t2, st.trans a1, b1⟩
theorem vx_calld {S SX : Type} {post : UInt64 → S → Prop} {px : SX → Prop} {B : S → State → Prop} {BX : String → SX → State → Prop} {AX : Nat → Prop} (hr : vx_Run p l e R s m args below meth c H locs cells slots mc ms (F0 m pc ls st0) rest (va_Qd post B A1 a) (vx_X px BX AX) free) (hS : va_S A0 H0 H locs) (hA : ∀ q, q < H.size → A1 q → A0 q) (hf : ∀ q, free q → A0 q) (hAX : ∀ q, q < H.size → AX q → A0 q)
    (kx : ∀ (E : String) (ce : Cell) (q9 : Addr) (u : SX) (t : State) (H1 : Heap) (locs1 : List Loc), t.heap = H1 → s.vm.Alike t.vm → px u → BX E u t → H.size ≤ H1.size → (∀ q : Nat, q < H.size → ¬ AX q → H1[q]? = H[q]?) → va_S A0 H0 H1 locs1 → H1[q9]? = some ce → ce.vm = .none → s.vm.findClass E = some ce.cls → vx_W p l e R s m args below meth c H1 locs1 (cells + mc) (slots + ms) Q (F0 m pc ls rest) q9)
    (kk : ∀ (r : UInt64) (u : S) (t : State) (H1 : Heap) (locs1 : List Loc), t.heap = H1 → s.vm.Alike t.vm → post r u → B u t → H.size ≤ H1.size → (∀ q : Nat, q < H.size → ¬ A1 q → H1[q]? = H[q]?) → va_S A0 H0 H1 locs1 → W p l e R s m args below meth c H1 locs1 (cells + mc) (slots + ms) Q (F0 m (pc + 3) ls (.double r :: rest))) : W p l e R s m args below meth c H locs cells slots Q (F0 m pc ls st0) := by
  intro T hT X
  rcases hr T hT X with ⟨v, st₀, t, T', L, h0, X', hL, e1, e2, ⟨⟨r, u, hv, hp, hb⟩, hF⟩, st⟩ | ⟨q, st₀, t, T', L, E, ce, h0, X', hL, e1, e2, ⟨u, hp, hb, hF⟩, hce, hcv, hcl, st⟩
  · cases hv
    obtain ⟨k1, k2, k3⟩ := vx_keep h0 e1 hS hA hf hL hF
    obtain ⟨t2, a1, b1⟩ := kk r u t T'.heap (locs ++ L) e1.symm (by rw [← e2]; exact X'.warmed.alike) hp hb k1 k2 k3 T' rfl X'
    exact ⟨t2, st t2 a1, b1⟩
  · obtain ⟨k1, k2, k3⟩ := vx_keep h0 e1 hS hAX hf hL hF
    obtain ⟨t2, a1, b1⟩ := kx E ce q u t T'.heap (locs ++ L) e1.symm (by rw [← e2]; exact X'.warmed.alike) hp hb k1 k2 k3 (by rw [e1]; exact hce) hcv hcl T' rfl X'
    exact ⟨t2, st.trans a1, b1⟩
theorem vx_callv {S SX : Type} {post : S → Prop} {px : SX → Prop} {B : S → State → Prop} {BX : String → SX → State → Prop} {AX : Nat → Prop} (hr : vx_Run p l e R s m args below meth c H locs cells slots mc ms (F0 m pc ls st0) rest (va_Qv post B A1 a) (vx_X px BX AX) free) (hS : va_S A0 H0 H locs) (hA : ∀ q, q < H.size → A1 q → A0 q) (hf : ∀ q, free q → A0 q) (hAX : ∀ q, q < H.size → AX q → A0 q)
    (kx : ∀ (E : String) (ce : Cell) (q9 : Addr) (u : SX) (t : State) (H1 : Heap) (locs1 : List Loc), t.heap = H1 → s.vm.Alike t.vm → px u → BX E u t → H.size ≤ H1.size → (∀ q : Nat, q < H.size → ¬ AX q → H1[q]? = H[q]?) → va_S A0 H0 H1 locs1 → H1[q9]? = some ce → ce.vm = .none → s.vm.findClass E = some ce.cls → vx_W p l e R s m args below meth c H1 locs1 (cells + mc) (slots + ms) Q (F0 m pc ls rest) q9)
    (kk : ∀ (u : S) (t : State) (H1 : Heap) (locs1 : List Loc), t.heap = H1 → s.vm.Alike t.vm → post u → B u t → H.size ≤ H1.size → (∀ q : Nat, q < H.size → ¬ A1 q → H1[q]? = H[q]?) → va_S A0 H0 H1 locs1 → W p l e R s m args below meth c H1 locs1 (cells + mc) (slots + ms) Q (F0 m (pc + 3) ls (rest))) : W p l e R s m args below meth c H locs cells slots Q (F0 m pc ls st0) := by
  intro T hT X
  rcases hr T hT X with ⟨v, st₀, t, T', L, h0, X', hL, e1, e2, ⟨⟨u, hv, hp, hb⟩, hF⟩, st⟩ | ⟨q, st₀, t, T', L, E, ce, h0, X', hL, e1, e2, ⟨u, hp, hb, hF⟩, hce, hcv, hcl, st⟩
  · cases hv
    obtain ⟨k1, k2, k3⟩ := vx_keep h0 e1 hS hA hf hL hF
    obtain ⟨t2, a1, b1⟩ := kk u t T'.heap (locs ++ L) e1.symm (by rw [← e2]; exact X'.warmed.alike) hp hb k1 k2 k3 T' rfl X'
    exact ⟨t2, st t2 a1, b1⟩
  · obtain ⟨k1, k2, k3⟩ := vx_keep h0 e1 hS hAX hf hL hF
    obtain ⟨t2, a1, b1⟩ := kx E ce q u t T'.heap (locs ++ L) e1.symm (by rw [← e2]; exact X'.warmed.alike) hp hb k1 k2 k3 (by rw [e1]; exact hce) hcv hcl T' rfl X'
    exact ⟨t2, st.trans a1, b1⟩
/-- caught by the row x of this method's table; the rows ahead don't take it -/
theorem vx_catch {own name : String} {E : String} {ce : Cell} {q : Addr} (hown : s.vm.findClass own = some m.cls) (pre : List ExceptionTableEntry) (x : ExceptionTableEntry) (suf : List ExceptionTableEntry) (hsplit : c.exceptionTable.toList = pre ++ x :: suf)
    (hpass : ∀ z ∈ pre, covers z pc = false ∨ (z.catchType ≠ 0 ∧ ∃ nm : String, (Cond.classLink own z.catchType nm).before args s = true ∧ va_Nc E nm s)) (hx : covers x pc = true) (h0 : x.catchType ≠ 0)
    (hlink : (Cond.classLink own x.catchType name).before args s = true) (hcast : (Cond.castable E name).before args s = true) (hcell : H[q]? = some ce) (hv : ce.vm = .none) (hcl : s.vm.findClass E = some ce.cls)
    (kk : W p l e R s m args below meth c H locs cells slots Q (F0 m x.handlerPc ls [.ref q])) : vx_W p l e R s m args below meth c H locs cells slots Q (F0 m pc ls rest) q := by
  intro T hT X
  have hpl : e.platform.magicAccessors = ({} : Platform).magicAccessors := by rw [X.admits.platform]
  obtain ⟨c3, c4, hc3, hc4, hasg⟩ := Cond.castable_spec hcast
  cases Option.some.inj (hc3.symm.trans hcl)
  obtain ⟨c5, hc5, hcl5⟩ := Cond.classLink_spec hown hlink e.platform hpl
  cases Option.some.inj (hc4.symm.trans hc5)
  obtain ⟨vm', X', st⟩ := X.thenCaughtThrough q (g := F0 m pc ls rest) rfl (Steps.refl _) (by rw [hT]; exact hcell) (by rw [hv]; rfl) (by obtain ⟨k9, h9, -⟩ := Vm.findClass_spec hcl; exact ⟨k9, h9⟩) pre x suf hsplit
    (fun z hz => by
      rcases hpass z hz with h | ⟨hz0, nm, hl1, hn1⟩
      · exact Or.inl h
      · obtain ⟨c6, hc6, hcl6⟩ := Cond.classLink_spec hown hl1 e.platform hpl
        obtain ⟨a8, b8, h1, h2, h3⟩ := hn1
        cases Option.some.inj (h1.symm.trans hcl)
        cases Option.some.inj (h2.symm.trans hc6)
        exact Or.inr ⟨hz0, _, hcl6, h3⟩) hx (Or.inr ⟨h0, c4, hcl5, hasg⟩)
  obtain ⟨t, a1, b1⟩ := kk (T.setVm vm') hT X'
  exact ⟨t, st.trans a1, b1⟩
end Rows
section Ends
variable {p : Program} {l : Launch} {e : Env} {R : Room} {s : State} {m : MethodId} {args : Array Value} {below : List Frame} {meth : Method} {c : Code} {H : Heap} {locs : List Loc} {cells slots : Nat} {Q : State → Prop}
variable {mc ms : Nat} {free : Addr → Prop} {A0 A1 : Nat → Prop} {H0 : Heap} {a : Array Value} {ls : Array Slot} {st0 rest : List Value}
variable {Qc : Array Value → State → Outcome → State → Prop} {XC : String → State → State → Prop}
/-- what a body that may throw owes at its end -/
def vx_MQ (below : List Frame) (Qc : Array Value → State → Outcome → State → Prop) (XC : String → State → State → Prop) (a : Array Value) (s : State) (mc ms : Nat) (free : Addr → Prop) : State → Prop := fun t =>
  ∃ o, t.status = .running ∧ Ended t below o ∧ vx_Q Qc XC mc ms free a s o t
theorem vx_ret {g : JFrame} {mc ms : Nat} (k : W p l e R s m args below meth c H locs cells slots (MQ below Qc args s mc ms free) g) : W p l e R s m args below meth c H locs cells slots (vx_MQ below Qc XC args s mc ms free) g := by
  intro T hT X
  obtain ⟨t, a1, o, b1, b2, b3, b4⟩ := k T hT X
  exact ⟨t, a1, o, b1, b2, Or.inl ⟨b3, b4⟩⟩
/-- not caught here: it goes on to the caller -/
theorem vx_widen {g : JFrame} {q : Addr} {k n : Nat} (h1 : cells ≤ k) (h2 : slots ≤ n) (kk : vx_W p l e R s m args below meth c H locs k n Q g q) : vx_W p l e R s m args below meth c H locs cells slots Q g q := fun T hT X => kk T hT (stand_widen X h1 h2)
theorem vx_out {pc : Nat} {E : String} {ce : Cell} {q : Addr} {mc ms : Nat} (hout : ∀ x ∈ c.exceptionTable.toList, covers x pc = false) (hlocks : meth.locks = false) (hcell : H[q]? = some ce) (hv : ce.vm = .none) (hcl : s.vm.findClass E = some ce.cls)
    (hx : ∀ t : State, t.heap = H → s.vm.Alike t.vm → XC E s t) (hf : ∀ z ∈ locs, free z.base) (hc : cells ≤ mc) (hs : slots ≤ ms) :
    vx_W p l e R s m args below meth c H locs cells slots (vx_MQ below Qc XC args s mc ms free) (F0 m pc ls rest) q := by
  intro T hT X
  obtain ⟨st1, hrun, hend, hW, hsm⟩ := X.leaveThrown q (g := F0 m pc ls rest) rfl rfl rfl hout hlocks
  have hcell9 : (T.setFrames (.throwing q :: below)).heap[q]? = some ce := by
    show T.heap[q]? = some ce
    rw [hT]; exact hcell
  exact ⟨_, st1, .threw q, hrun, hend, Or.inr ⟨q, rfl, E, ce, locs, hx _ hT hW.alike, hcell9, hv, hcl, hW, hsm.mono hc hs, hf⟩⟩
theorem vx_frame {U : State} {k n : Nat} (h : s.sameButNew ({ U with vm := s.vm } : State) locs k n) : s.heap.size ≤ U.heap.size ∧ ∀ q : Nat, q < s.heap.size → (∀ z ∈ locs, z.base ≠ q) → U.heap[q]? = s.heap[q]? := by
  obtain ⟨-, h2, -, -, -, h6⟩ := h
  refine ⟨h2, fun q hq hz => ?_⟩
  obtain ⟨c9, e1, e2, e3, e4⟩ := h6 q _ (Array.getElem?_eq_getElem hq)
  have hs : c9.slots = (s.heap[q]).slots := Array.ext_getElem? fun i => e4 i fun hm => hz _ hm rfl
  have h9 : c9 = s.heap[q] := by
    rw [hs] at e2
    exact e2
  have e5 : U.heap[q]? = some c9 := e1
  rw [e5, h9, Array.getElem?_eq_getElem hq]
/-- the words of a throw but the four that speak of the heap -/
def vx_no (w : Cond) : Bool := decide (w ≠ .isRef (.static Bundle.tN "UNASSIGNED_STACK" Bundle.steD)) && decide (w ≠ .isRef (.static Bundle.tN "SUPPRESSED_SENTINEL" Bundle.listD)) && decide (w ≠ .laysStatic Bundle.tN "UNASSIGNED_STACK" Bundle.steD) && decide (w ≠ .laysStatic Bundle.tN "SUPPRESSED_SENTINEL" Bundle.listD)
def vx_at0 (own : String) (ic : Nat) (X : String) (names : List String) : List Cond := (Bundle.ownAtoms0 own ic X names).filter vx_no
def vx_atS (own : String) (ic : Nat) (X : String) (names : List String) : List Cond := (Bundle.ownAtoms own ic X names).filter vx_no
/-- a word that the tables alone decide, or a good one -/
def vx_ot (w : Cond) : Bool := w.onTables || goodWord w
theorem vx_ot_at {args a' : Array Value} {s U : State} {w : Cond} (hW : s.WarmedH U.vm) (hvm : s.vm = U.vm) (hg : vx_ot w = true) (h : w.before args s = true) : w.before a' U = true := by
  simp only [vx_ot, Bool.or_eq_true] at hg
  rcases hg with hg | hg
  · exact va_tabs hg hvm h
  · exact word_at hW (good_of_word hg) h
/-- a list's words: the good ones out of the method's own list, the others by premises of their own -/
theorem vx_hat {args : Array Value} {s : State} {L B : List Cond} (h1 : ∀ w ∈ L.filter goodWord, w.before args s = true) (h2 : ∀ w ∈ L.filter (fun w => !goodWord w), w ∈ B) (h3 : ∀ w ∈ B, w.before args s = true) : ∀ w ∈ L, w.before args s = true := by
  intro w hw
  by_cases g : goodWord w = true
  · exact h1 w (List.mem_filter.mpr ⟨hw, g⟩)
  · refine h3 w (h2 w (List.mem_filter.mpr ⟨hw, ?_⟩))
    show (!goodWord w) = true
    cases hgw : goodWord w
    · rfl
    · exact absurd hgw g
theorem vx_c {args : Array Value} {s : State} {w : Cond} {B : List Cond} (h : w.before args s = true) (t : ∀ w ∈ B, w.before args s = true) : ∀ w' ∈ w :: B, w'.before args s = true := fun w' h' => (List.mem_cons.mp h').elim (fun e => by rw [e]; exact h) (t w')
theorem vx_n {args : Array Value} {s : State} : ∀ w ∈ ([] : List Cond), w.before args s = true := fun _ h => nomatch h
theorem vx_own {args : Array Value} {s : State} {L : List Cond} (h1 : ∀ w ∈ L.filter vx_no, w.before args s = true)
    (hU : (Cond.isRef (.static Bundle.tN "UNASSIGNED_STACK" Bundle.steD)).before args s = true) (hN : (Cond.isRef (.static Bundle.tN "SUPPRESSED_SENTINEL" Bundle.listD)).before args s = true)
    (lU : (Cond.laysStatic Bundle.tN "UNASSIGNED_STACK" Bundle.steD).before args s = true) (lN : (Cond.laysStatic Bundle.tN "SUPPRESSED_SENTINEL" Bundle.listD).before args s = true) : ∀ w ∈ L, w.before args s = true := by
  intro w hw
  by_cases e1 : w = .isRef (.static Bundle.tN "UNASSIGNED_STACK" Bundle.steD)
  · rw [e1]; exact hU
  · by_cases e2 : w = .isRef (.static Bundle.tN "SUPPRESSED_SENTINEL" Bundle.listD)
    · rw [e2]; exact hN
    · by_cases e3 : w = .laysStatic Bundle.tN "UNASSIGNED_STACK" Bundle.steD
      · rw [e3]; exact lU
      · by_cases e4 : w = .laysStatic Bundle.tN "SUPPRESSED_SENTINEL" Bundle.listD
        · rw [e4]; exact lN
        · exact h1 w (List.mem_filter.mpr ⟨hw, by unfold vx_no; rw [decide_eq_true e1, decide_eq_true e2, decide_eq_true e3, decide_eq_true e4]; rfl⟩)
/-- where a static field lies, its class's statics cell in H -/
def vx_L (C n d : String) (A : Nat → Prop) (U : State) (H : Heap) : Prop := ∃ (c : ClassId) (k : Class) (i : Nat) (f : Field) (a : Nat) (cell : Cell), U.vm.findClass C = some c ∧ U.fieldFound? C n d = some (c, k, i, f) ∧ f.isStatic = true ∧ k.statics = some a ∧ H[a]? = some cell ∧ cell.vm.isStatics = true ∧ cell.cls = c ∧ f.slot < cell.slots.size ∧ k.staticTypes[f.slot]? = some f.type ∧ ¬ A a
theorem vx_L.moved {C n d : String} {A : Nat → Prop} {u U : State} {H : Heap} (hvm : u.vm.Alike U.vm) (h : vx_L C n d A u H) : vx_L C n d A U H := by
  obtain ⟨c, k, i, f, a, cell, h1, h2, h3, h4, h5, h6, h7, h8, h9, h10⟩ := h
  obtain ⟨k', hi', he⟩ := State.fieldFound?_setVm hvm h2
  exact ⟨c, k', i, f, a, cell, by rw [hvm.findClass]; exact h1, hi', h3, by rw [he]; exact h4, h5, h6, h7, h8, by rw [he]; exact h9, h10⟩
theorem vx_L.kept {C n d : String} {A : Nat → Prop} {U : State} {H H1 : Heap} (h : vx_L C n d A U H) (hq : ∀ a : Nat, a < H.size → ¬ A a → H1[a]? = H[a]?) : vx_L C n d A U H1 := by
  obtain ⟨c, k, i, f, a, cell, h1, h2, h3, h4, h5, h6, h7, h8, h9, h10⟩ := h
  exact ⟨c, k, i, f, a, cell, h1, h2, h3, h4, by rw [hq a (Array.getElem?_eq_some_iff.mp h5).1 h10]; exact h5, h6, h7, h8, h9, h10⟩
theorem vx_L.narrow {C n d : String} {A B : Nat → Prop} {U : State} {H : Heap} (h : vx_L C n d A U H) (hAB : ∀ q, B q → A q) : vx_L C n d B U H := by
  obtain ⟨c, k, i, f, a, cell, h1, h2, h3, h4, h5, h6, h7, h8, h9, h10⟩ := h
  exact ⟨c, k, i, f, a, cell, h1, h2, h3, h4, h5, h6, h7, h8, h9, fun z => h10 (hAB _ z)⟩
theorem vx_L.word {C n d : String} {A : Nat → Prop} {s : State} {args : Array Value} (h : vx_L C n d A s s.heap) : (Cond.laysStatic C n d).before args s = true := by
  obtain ⟨c, k, i, f, a, cell, h1, h2, h3, h4, h5, h6, h7, h8, h9, -⟩ := h
  show (Cond.laysStatic C n d).holds args s none s [] = true
  exact Cond.laysStatic_of h1 h2 h3 h4 h5 h6 h7 h8 h9
/-- .. and what it holds: null or some reference -/
def vx_Zq (C n d : String) (A : Nat → Prop) (U : State) (H : Heap) : Prop := va_Zq C n d A U H ∧ vx_L C n d A U H
theorem vx_Zq.moved {C n d : String} {A : Nat → Prop} {u U : State} {H : Heap} (hvm : u.vm.Alike U.vm) (h : vx_Zq C n d A u H) : vx_Zq C n d A U H := ⟨va_Zq.moved hvm h.1, vx_L.moved hvm h.2⟩
theorem vx_Zq.kept {C n d : String} {A : Nat → Prop} {U : State} {H H1 : Heap} (h : vx_Zq C n d A U H) (hq : ∀ a : Nat, a < H.size → ¬ A a → H1[a]? = H[a]?) : vx_Zq C n d A U H1 := ⟨va_Zq.kept h.1 hq, vx_L.kept h.2 hq⟩
theorem vx_Zq.narrow {C n d : String} {A B : Nat → Prop} {U : State} {H : Heap} (h : vx_Zq C n d A U H) (hAB : ∀ q, B q → A q) : vx_Zq C n d B U H := ⟨va_Zq.narrow h.1 hAB, vx_L.narrow h.2 hAB⟩
theorem vx_Zqof {args : Array Value} {s : State} {C n d : String} {A : Nat → Prop} (hl : (Cond.laysStatic C n d).before args s = true) (hini : (Cond.initialized C).before args s = true) (h : (Cond.isRef (.static C n d)).before args s = true) (hA : ∀ a : Nat, a < s.heap.size → ¬ A a) : vx_Zq C n d A s s.heap := by
  refine ⟨va_Zqof hl hini h hA, ?_⟩
  obtain ⟨c, k, i, f, a, cell, h1, h2, h3, h4, h5, h6, h7, h8, h9⟩ := Cond.laysStatic_spec hl
  exact ⟨c, k, i, f, a, cell, h1, h2, h3, h4, h5, h6, h7, h8, h9, hA a (Array.getElem?_eq_some_iff.mp h5).1⟩
theorem vx_isRef {C n d : String} {v : Value} {A : Nat → Prop} {s : State} {args : Array Value} (h : va_Z C n d v A s s.heap) (hv : v.isRef = true) : (Cond.isRef (.static C n d)).before args s = true := by
  obtain ⟨cf, kf, fi, f, a, cell, h1, h2, h3, h4, h5, h6, h7, -⟩ := h
  have he : (Term.static C n d).eval args s none [] s = some v := by
    simp [Term.eval, State.fieldNamed?, h1, h2, h4, h5, h6, h7]
  simp only [Cond.before, Cond.holds, Cond.value, he]
  cases v <;> simp_all [Value.isRef]
theorem vx_isRefq {C n d : String} {A : Nat → Prop} {s : State} {args : Array Value} (h : va_Zq C n d A s s.heap) : (Cond.isRef (.static C n d)).before args s = true := by
  rcases h with h | ⟨t, h⟩
  · exact vx_isRef h rfl
  · exact vx_isRef h rfl
/-- the same frame, seen from here: as if the method were called anew in this heap -/
theorem vx_rebase {T : State} (X : Stand p l e R s m args below meth c T locs cells slots) {R' : Room} (hf : R'.frames ≤ R.frames) (hl : R'.locals ≤ R.locals) (hc : cells + R'.cells ≤ R.cells) (hs : slots + R'.slots ≤ R.slots) :
    Stand p l e R' ((T.setVm s.vm).setFrames (.invoking m args :: below)) m args below meth c T [] 0 0 := by
  have htop : (T.setVm s.vm).topJava?.isSome := X.here.top
  have hF : ((T.setVm s.vm).setFrames (.invoking m args :: below)).frames = .invoking m args :: below := State.frames_setFrames _ (State.cur_lt_of_top htop)
  obtain ⟨g₀, hg0⟩ := Option.isSome_iff_exists.mp htop
  obtain ⟨r, hr⟩ := State.topJava?_eq_some.mp hg0
  have hl9 : e.platform.stackLimits (T.setVm s.vm).me = e.platform.stackLimits s.me := X.limits
  have hb9 : (T.setVm s.vm).me.stackBytes = s.me.stackBytes := X.bytes
  refine ⟨X.admits, X.cas, X.clock, hF, ?_, X.hears, X.method, X.code, X.here, X.tail, X.warmed, ?_, ?_, ?_⟩
  · have h := X.room
    have hU : ((T.setVm s.vm).setFrames (.invoking m args :: below)).localsInUse = s.localsInUse := by
      rw [State.localsInUse_invoking hF (meth := meth) (c := c) X.method X.code, State.localsInUse_invoking X.frames X.method X.code]
    simp only [State.hasRoom, Bool.and_eq_true, decide_eq_true_eq] at h ⊢
    obtain ⟨⟨⟨⟨h1, h2, h3, h4, h5, h6⟩, h7⟩, h8⟩, h9⟩ := h
    rw [X.frames, List.length_cons] at h2 h3
    have q1 := X.heapSize
    have q2 := X.used
    simp only [hF, hU, List.length_cons, State.stackLimits_setFrames, State.stackBytes_setFrames, hl9, hb9]
    refine ⟨⟨⟨⟨by omega, by omega, by omega, by omega, by omega, h6⟩, ?_⟩, ?_⟩, X.book⟩
    · show T.heap.size + R'.cells ≤ e.platform.maxCells
      omega
    · show T.slotsUsed + R'.slots ≤ e.platform.maxSlots
      omega
  · rw [State.stackLimits_setFrames]; rfl
  · rw [State.stackBytes_setFrames]; rfl
  · refine ⟨?_, Nat.le_refl _, Nat.le_refl _, ?_, ?_, fun a c9 h9 => ⟨c9, h9, rfl, rfl, fun _ _ => rfl⟩⟩
    · obtain ⟨t, ht, -⟩ := State.frames_cons hr
      show T.setVm s.vm = { ((T.setVm s.vm).setFrames (.invoking m args :: below)).setFrames (T.setVm s.vm).frames with heap := T.heap, slotsUsed := T.slotsUsed }
      rw [State.setFrames_setFrames, State.setFrames_self ht]
      rfl
    · show T.slotsUsed = T.slotsUsed + ((T.heap.toList.drop T.heap.size).map (·.slots.size)).sum
      rw [List.drop_eq_nil_of_le (Nat.le_of_eq Array.length_toList)]
      rfl
    · show ((T.heap.toList.drop T.heap.size).map (·.slots.size)).sum ≤ 0
      rw [List.drop_eq_nil_of_le (Nat.le_of_eq Array.length_toList)]
      exact Nat.le_refl _
/-- 'throw new E()': new; dup; invokespecial; athrow -/
theorem vx_throw0 {cc : ByteArray} {pc : Nat} (hexec : p.tables.exec = Jvm.exec) (hb : c.code = cc) (hl : l.stackTraces = false) {own cls : String} {names : List String} {ik ic mc ms : Nat} {A : Nat → Prop}
    (hown : s.vm.findClass own = some m.cls) (hcls : Bundle.fit cls = true) (hnames : ∀ n ∈ names, Bundle.fit n = true)
    (hk : (Cond.classLink own ik cls).before args s = true) (hini : (Cond.initialized cls).before args s = true) (hat : ∀ w ∈ vx_at0 own ic cls names, w.before args s = true)
    (hgood : ∀ w ∈ Cond.classLink own ik cls :: Cond.initialized cls :: vx_at0 own ic cls names, vx_ot w = true)
    (hU : vx_Zq Bundle.tN "UNASSIGNED_STACK" Bundle.steD A s s.heap) (hN : vx_Zq Bundle.tN "SUPPRESSED_SENTINEL" Bundle.listD A s s.heap) (hS : va_S A s.heap H locs) (hsize : ls.size = c.maxLocals)
    (d0 : decode cc pc = .ok (.new ik, 3)) (d3 : decode cc (pc + 3) = .ok (.dup, 1)) (d4 : decode cc (pc + 4) = .ok (.invokespecial ic, 3)) (d7 : decode cc (pc + 7) = .ok (.athrow, 1))
    (hout : ∀ x ∈ c.exceptionTable.toList, covers x (pc + 7) = false)
    (hRframes : names.length + 3 < R.frames) (hRlocals : (rest.map fun v => v.category).sum + (13 * (names.length + 1) + 42) ≤ R.locals) (hRcells : cells + 1 ≤ R.cells) (hRslots : slots + 6 ≤ R.slots) (hlocks : meth.locks = false)
    (hx : ∀ t : State, s.vm.Alike t.vm → H.size ≤ t.heap.size → (∀ q : Nat, q < H.size → t.heap[q]? = H[q]?) → XC cls s t)
    (hf : ∀ z ∈ locs, free z.base) (hc : cells + 1 ≤ mc) (hs : slots + 6 ≤ ms) :
    W p l e R s m args below meth c H locs cells slots (vx_MQ below Qc XC args s mc ms free) (F0 m pc ls rest) := by
  intro T hT X
  have htr : e.platform.stackTraces = false := (show e.platform.stackTraces = l.stackTraces by rw [X.admits.platform]).trans hl
  have Y := vx_rebase X (R' := { frames := R.frames, locals := R.locals, cells := 1, slots := 6 }) (Nat.le_refl _) (Nat.le_refl _) hRcells hRslots
  obtain ⟨s', hA⟩ : ∃ z, z = (T.setVm s.vm).setFrames (.invoking m args :: below) := ⟨_, rfl⟩
  rw [← hA] at Y
  have hvm : s'.vm = s.vm := by rw [hA]; rfl
  have hhp : s'.heap = H := by rw [hA]; exact hT
  have hW0 : s.WarmedH s'.vm := by rw [hvm]; exact State.WarmedH.refl s
  have hat' : ∀ w ∈ vx_at0 own ic cls names, w.before args s' = true := fun w hw => vx_ot_at hW0 hvm.symm (hgood w (List.mem_cons_of_mem _ (List.mem_cons_of_mem _ hw))) (hat w hw)
  have hk' : (Cond.classLink own ik cls).before args s' = true := vx_ot_at hW0 hvm.symm (hgood _ List.mem_cons_self) hk
  have hini' : (Cond.initialized cls).before args s' = true := vx_ot_at hW0 hvm.symm (hgood _ (List.mem_cons_of_mem _ List.mem_cons_self)) hini
  have hU' : vx_Zq Bundle.tN "UNASSIGNED_STACK" Bundle.steD A s' s'.heap := by rw [hhp]; exact vx_Zq.moved hW0.alike (hU.kept hS.2.1)
  have hN' : vx_Zq Bundle.tN "SUPPRESSED_SENTINEL" Bundle.listD A s' s'.heap := by rw [hhp]; exact vx_Zq.moved hW0.alike (hN.kept hS.2.1)
  have h : ∀ w ∈ Bundle.ownAtoms0 own ic cls names, w.before args s' = true := vx_own hat' (vx_isRefq hU'.1) (vx_isRefq hN'.1) hU'.2.word hN'.2.word
  have hown' : s'.vm.findClass own = some m.cls := by rw [hvm]; exact hown
  have hins : (Cond.instantiable cls 6).before args s' = true := h _ (by simp [Bundle.ownAtoms0])
  obtain ⟨vm₁, cX, kX, hfX, hkX, -, -, X₁, st1⟩ := Y.newCold hexec (own := own) (C := cls) (index := ik) (n := 6) hown' hk' hins hini'
    (g := F0 m pc ls rest) rfl (by rw [hb]; exact d0) (Nat.le_refl _) (Nat.le_refl _)
  generalize hT1 : (T.setVm vm₁).pushCell { cls := cX, slots := kX.instanceTypes.map defaultValue, vm := .none } = T1 at X₁ st1
  have hcat : (Value.ref T.heap.size).category = 1 := rfl
  have hcellA : T1.heap[T.heap.size]? = some (freshCell cX kX) := by rw [← hT1]; exact State.heap_pushCell_size _ _
  have d3' : decode c.code (pc + 3) = .ok (.dup, 1) := by rw [hb]; exact d3
  obtain ⟨U, hsteps, hrun, hend, hW, hsame, ce, hce, hO⟩ := X₁.ctorThrow0 hexec htr (own := own) (cls := cls) (names := names) (ic := ic) hown' hcls hnames h (fun x hx => nomatch hx) hfX hkX hcellA (by rw [hhp, hT]; exact Nat.le_refl _)
    (g := { method := m, pc := pc + 4, locals := ls, stack := .ref T.heap.size :: .ref T.heap.size :: rest, locked := none }) rfl hsize rfl rfl (rest := rest) rfl
    (by rw [hb]; exact d4) (by rw [hb]; exact d7) hout hRframes (by simp only [List.map_cons, List.sum_cons, hcat]; omega) hlocks
  obtain ⟨f1, f2⟩ := vx_frame hsame
  rw [hhp] at f1 f2
  have hWs : s.WarmedH U.vm := State.WarmedH.trans hW0 hW
  have hcl : s.vm.findClass cls = some ce.cls := by
    have h9 := hO.cls
    rw [hvm] at h9
    exact h9
  have hall : s.sameButNew ({ U with vm := s.vm } : State) locs mc ms := by
    subst hA
    obtain ⟨e1, e2⟩ := hsame
    rw [State.setFrames_setFrames] at e1
    have h2 : (T.setVm s.vm).sameButNew ({ U with vm := s.vm } : State) [] (0 + 1) (0 + 6) := ⟨e1, e2⟩
    have h3 := X.same.trans h2
    rw [List.append_nil] at h3
    exact h3.mono hc hs
  refine ⟨U, ?_, .threw T.heap.size, hrun, hend, Or.inr ⟨T.heap.size, rfl, cls, ce, locs, hx U hWs.alike f1 (fun q hq => f2 q hq (fun z hz => nomatch hz)), hce, hO.vm, hcl, hWs, hall, hf⟩⟩
  refine st1 _ ?_
  show Steps p.tables e below (T1.setTop { method := m, pc := pc + 3, locals := ls, stack := .ref T.heap.size :: rest, locked := none }) _
  jvm_step X₁.here [X₁.here.top, hexec, d3', Value.category]
  exact hsteps
/-- 'throw new E("text")': new; dup; ldc; invokespecial; athrow -/
theorem vx_throwS {cc : ByteArray} {pc : Nat} (hexec : p.tables.exec = Jvm.exec) (hb : c.code = cc) (hl : l.stackTraces = false) {own cls text : String} {names : List String} {ik is ic mc ms sa : Nat} {A : Nat → Prop}
    (hown : s.vm.findClass own = some m.cls) (hcls : Bundle.fit cls = true) (hnames : ∀ n ∈ names, Bundle.fit n = true)
    (hk : (Cond.classLink own ik cls).before args s = true) (hini : (Cond.initialized cls).before args s = true) (hstr : vk_R own is text sa s) (hat : ∀ w ∈ vx_atS own ic cls names, w.before args s = true)
    (hgood : ∀ w ∈ Cond.classLink own ik cls :: Cond.initialized cls :: vx_atS own ic cls names, vx_ot w = true)
    (hU : vx_Zq Bundle.tN "UNASSIGNED_STACK" Bundle.steD A s s.heap) (hN : vx_Zq Bundle.tN "SUPPRESSED_SENTINEL" Bundle.listD A s s.heap) (hS : va_S A s.heap H locs) (hsize : ls.size = c.maxLocals)
    (d0 : decode cc pc = .ok (.new ik, 3)) (d3 : decode cc (pc + 3) = .ok (.dup, 1)) (d4 : decode cc (pc + 4) = .ok (.ldc is, 2)) (d6 : decode cc (pc + 6) = .ok (.invokespecial ic, 3)) (d9 : decode cc (pc + 9) = .ok (.athrow, 1))
    (hout : ∀ x ∈ c.exceptionTable.toList, covers x (pc + 9) = false)
    (hRframes : names.length + 3 < R.frames) (hRlocals : (rest.map fun v => v.category).sum + (13 * (names.length + 1) + 43) ≤ R.locals) (hRcells : cells + 1 ≤ R.cells) (hRslots : slots + 6 ≤ R.slots) (hlocks : meth.locks = false)
    (hx : ∀ t : State, s.vm.Alike t.vm → H.size ≤ t.heap.size → (∀ q : Nat, q < H.size → t.heap[q]? = H[q]?) → XC cls s t)
    (hf : ∀ z ∈ locs, free z.base) (hc : cells + 1 ≤ mc) (hs : slots + 6 ≤ ms) :
    W p l e R s m args below meth c H locs cells slots (vx_MQ below Qc XC args s mc ms free) (F0 m pc ls rest) := by
  intro T hT X
  have htr : e.platform.stackTraces = false := (show e.platform.stackTraces = l.stackTraces by rw [X.admits.platform]).trans hl
  have Y := vx_rebase X (R' := { frames := R.frames, locals := R.locals, cells := 1, slots := 6 }) (Nat.le_refl _) (Nat.le_refl _) hRcells hRslots
  obtain ⟨s', hA⟩ : ∃ z, z = (T.setVm s.vm).setFrames (.invoking m args :: below) := ⟨_, rfl⟩
  rw [← hA] at Y
  have hvm : s'.vm = s.vm := by rw [hA]; rfl
  have hhp : s'.heap = H := by rw [hA]; exact hT
  have hW0 : s.WarmedH s'.vm := by rw [hvm]; exact State.WarmedH.refl s
  have hat' : ∀ w ∈ vx_atS own ic cls names, w.before args s' = true := fun w hw => vx_ot_at hW0 hvm.symm (hgood w (List.mem_cons_of_mem _ (List.mem_cons_of_mem _ hw))) (hat w hw)
  have hk' : (Cond.classLink own ik cls).before args s' = true := vx_ot_at hW0 hvm.symm (hgood _ List.mem_cons_self) hk
  have hini' : (Cond.initialized cls).before args s' = true := vx_ot_at hW0 hvm.symm (hgood _ (List.mem_cons_of_mem _ List.mem_cons_self)) hini
  have hU' : vx_Zq Bundle.tN "UNASSIGNED_STACK" Bundle.steD A s' s'.heap := by rw [hhp]; exact vx_Zq.moved hW0.alike (hU.kept hS.2.1)
  have hN' : vx_Zq Bundle.tN "SUPPRESSED_SENTINEL" Bundle.listD A s' s'.heap := by rw [hhp]; exact vx_Zq.moved hW0.alike (hN.kept hS.2.1)
  have h : ∀ w ∈ Bundle.ownAtoms own ic cls names, w.before args s' = true := vx_own hat' (vx_isRefq hU'.1) (vx_isRefq hN'.1) hU'.2.word hN'.2.word
  have hown' : s'.vm.findClass own = some m.cls := by rw [hvm]; exact hown
  have hins : (Cond.instantiable cls 6).before args s' = true := h _ (by simp [Bundle.ownAtoms])
  obtain ⟨vm₁, cX, kX, hfX, hkX, -, -, X₁, st1⟩ := Y.newCold hexec (own := own) (C := cls) (index := ik) (n := 6) hown' hk' hins hini'
    (g := F0 m pc ls rest) rfl (by rw [hb]; exact d0) (Nat.le_refl _) (Nat.le_refl _)
  generalize hT1 : (T.setVm vm₁).pushCell { cls := cX, slots := kX.instanceTypes.map defaultValue, vm := .none } = T1 at X₁ st1
  have hcat : (Value.ref T.heap.size).category = 1 := rfl
  have hcellA : T1.heap[T.heap.size]? = some (freshCell cX kX) := by rw [← hT1]; exact State.heap_pushCell_size _ _
  have d3' : decode c.code (pc + 3) = .ok (.dup, 1) := by rw [hb]; exact d3
  have d4' : decode c.code (pc + 4) = .ok (.ldc is, 2) := by rw [hb]; exact d4
  have hstr' : vk_R own is text sa s' := vk_R.warm hW0 hstr
  obtain ⟨U, hsteps, hrun, hend, hW, hsame, ce, hce, hO⟩ := X₁.ctorThrowS hexec htr (own := own) (cls := cls) (names := names) (ic := ic) hown' hcls hnames h (fun x hx => nomatch hx) hfX hkX hcellA (by rw [hhp, hT]; exact Nat.le_refl _) (msg := .ref sa) rfl
    (g := { method := m, pc := pc + 6, locals := ls, stack := .ref sa :: .ref T.heap.size :: .ref T.heap.size :: rest, locked := none }) rfl hsize rfl rfl (rest := rest) rfl
    (by rw [hb]; exact d6) (by rw [hb]; exact d9) hout hRframes (by simp only [List.map_cons, List.sum_cons, hcat]; omega) hlocks
  obtain ⟨f1, f2⟩ := vx_frame hsame
  rw [hhp] at f1 f2
  have hWs : s.WarmedH U.vm := State.WarmedH.trans hW0 hW
  have hcl : s.vm.findClass cls = some ce.cls := by
    have h9 := hO.cls
    rw [hvm] at h9
    exact h9
  have hall : s.sameButNew ({ U with vm := s.vm } : State) locs mc ms := by
    subst hA
    obtain ⟨e1, e2⟩ := hsame
    rw [State.setFrames_setFrames] at e1
    have h2 : (T.setVm s.vm).sameButNew ({ U with vm := s.vm } : State) [] (0 + 1) (0 + 6) := ⟨e1, e2⟩
    have h3 := X.same.trans h2
    rw [List.append_nil] at h3
    exact h3.mono hc hs
  refine ⟨U, ?_, .threw T.heap.size, hrun, hend, Or.inr ⟨T.heap.size, rfl, cls, ce, locs, hx U hWs.alike f1 (fun q hq => f2 q hq (fun z hz => nomatch hz)), hce, hO.vm, hcl, hWs, hall, hf⟩⟩
  refine st1 _ ?_
  show Steps p.tables e below (T1.setTop { method := m, pc := pc + 3, locals := ls, stack := .ref T.heap.size :: rest, locked := none }) _
  jvm_step X₁.here [X₁.here.top, hexec, d3', Value.category]
  exact X₁.ldcString hexec (own := own) (text := text) (index := is) (a := sa) hown' hstr'.1 hstr'.2
    (g := { method := m, pc := pc + 4, locals := ls, stack := .ref T.heap.size :: .ref T.heap.size :: rest, locked := none }) rfl d4' _ hsteps
/-- 'throw new E("text")', the text by a wide index -/
theorem vx_throwSW {cc : ByteArray} {pc : Nat} (hexec : p.tables.exec = Jvm.exec) (hb : c.code = cc) (hl : l.stackTraces = false) {own cls text : String} {names : List String} {ik is ic mc ms sa : Nat} {A : Nat → Prop}
    (hown : s.vm.findClass own = some m.cls) (hcls : Bundle.fit cls = true) (hnames : ∀ n ∈ names, Bundle.fit n = true)
    (hk : (Cond.classLink own ik cls).before args s = true) (hini : (Cond.initialized cls).before args s = true) (hstr : vk_R own is text sa s) (hat : ∀ w ∈ vx_atS own ic cls names, w.before args s = true)
    (hgood : ∀ w ∈ Cond.classLink own ik cls :: Cond.initialized cls :: vx_atS own ic cls names, vx_ot w = true)
    (hU : vx_Zq Bundle.tN "UNASSIGNED_STACK" Bundle.steD A s s.heap) (hN : vx_Zq Bundle.tN "SUPPRESSED_SENTINEL" Bundle.listD A s s.heap) (hS : va_S A s.heap H locs) (hsize : ls.size = c.maxLocals)
    (d0 : decode cc pc = .ok (.new ik, 3)) (d3 : decode cc (pc + 3) = .ok (.dup, 1)) (d4 : decode cc (pc + 4) = .ok (.ldc_w is, 3)) (d7 : decode cc (pc + 7) = .ok (.invokespecial ic, 3)) (d10 : decode cc (pc + 10) = .ok (.athrow, 1))
    (hout : ∀ x ∈ c.exceptionTable.toList, covers x (pc + 10) = false)
    (hRframes : names.length + 3 < R.frames) (hRlocals : (rest.map fun v => v.category).sum + (13 * (names.length + 1) + 43) ≤ R.locals) (hRcells : cells + 1 ≤ R.cells) (hRslots : slots + 6 ≤ R.slots) (hlocks : meth.locks = false)
    (hx : ∀ t : State, s.vm.Alike t.vm → H.size ≤ t.heap.size → (∀ q : Nat, q < H.size → t.heap[q]? = H[q]?) → XC cls s t)
    (hf : ∀ z ∈ locs, free z.base) (hc : cells + 1 ≤ mc) (hs : slots + 6 ≤ ms) :
    W p l e R s m args below meth c H locs cells slots (vx_MQ below Qc XC args s mc ms free) (F0 m pc ls rest) := by
  intro T hT X
  have htr : e.platform.stackTraces = false := (show e.platform.stackTraces = l.stackTraces by rw [X.admits.platform]).trans hl
  have Y := vx_rebase X (R' := { frames := R.frames, locals := R.locals, cells := 1, slots := 6 }) (Nat.le_refl _) (Nat.le_refl _) hRcells hRslots
  obtain ⟨s', hA⟩ : ∃ z, z = (T.setVm s.vm).setFrames (.invoking m args :: below) := ⟨_, rfl⟩
  rw [← hA] at Y
  have hvm : s'.vm = s.vm := by rw [hA]; rfl
  have hhp : s'.heap = H := by rw [hA]; exact hT
  have hW0 : s.WarmedH s'.vm := by rw [hvm]; exact State.WarmedH.refl s
  have hat' : ∀ w ∈ vx_atS own ic cls names, w.before args s' = true := fun w hw => vx_ot_at hW0 hvm.symm (hgood w (List.mem_cons_of_mem _ (List.mem_cons_of_mem _ hw))) (hat w hw)
  have hk' : (Cond.classLink own ik cls).before args s' = true := vx_ot_at hW0 hvm.symm (hgood _ List.mem_cons_self) hk
  have hini' : (Cond.initialized cls).before args s' = true := vx_ot_at hW0 hvm.symm (hgood _ (List.mem_cons_of_mem _ List.mem_cons_self)) hini
  have hU' : vx_Zq Bundle.tN "UNASSIGNED_STACK" Bundle.steD A s' s'.heap := by rw [hhp]; exact vx_Zq.moved hW0.alike (hU.kept hS.2.1)
  have hN' : vx_Zq Bundle.tN "SUPPRESSED_SENTINEL" Bundle.listD A s' s'.heap := by rw [hhp]; exact vx_Zq.moved hW0.alike (hN.kept hS.2.1)
  have h : ∀ w ∈ Bundle.ownAtoms own ic cls names, w.before args s' = true := vx_own hat' (vx_isRefq hU'.1) (vx_isRefq hN'.1) hU'.2.word hN'.2.word
  have hown' : s'.vm.findClass own = some m.cls := by rw [hvm]; exact hown
  have hins : (Cond.instantiable cls 6).before args s' = true := h _ (by simp [Bundle.ownAtoms])
  obtain ⟨vm₁, cX, kX, hfX, hkX, -, -, X₁, st1⟩ := Y.newCold hexec (own := own) (C := cls) (index := ik) (n := 6) hown' hk' hins hini'
    (g := F0 m pc ls rest) rfl (by rw [hb]; exact d0) (Nat.le_refl _) (Nat.le_refl _)
  generalize hT1 : (T.setVm vm₁).pushCell { cls := cX, slots := kX.instanceTypes.map defaultValue, vm := .none } = T1 at X₁ st1
  have hcat : (Value.ref T.heap.size).category = 1 := rfl
  have hcellA : T1.heap[T.heap.size]? = some (freshCell cX kX) := by rw [← hT1]; exact State.heap_pushCell_size _ _
  have d3' : decode c.code (pc + 3) = .ok (.dup, 1) := by rw [hb]; exact d3
  have d4' : decode c.code (pc + 4) = .ok (.ldc_w is, 3) := by rw [hb]; exact d4
  have hstr' : vk_R own is text sa s' := vk_R.warm hW0 hstr
  obtain ⟨U, hsteps, hrun, hend, hW, hsame, ce, hce, hO⟩ := X₁.ctorThrowS hexec htr (own := own) (cls := cls) (names := names) (ic := ic) hown' hcls hnames h (fun x hx => nomatch hx) hfX hkX hcellA (by rw [hhp, hT]; exact Nat.le_refl _) (msg := .ref sa) rfl
    (g := { method := m, pc := pc + 7, locals := ls, stack := .ref sa :: .ref T.heap.size :: .ref T.heap.size :: rest, locked := none }) rfl hsize rfl rfl (rest := rest) rfl
    (by rw [hb]; exact d7) (by rw [hb]; exact d10) hout hRframes (by simp only [List.map_cons, List.sum_cons, hcat]; omega) hlocks
  obtain ⟨f1, f2⟩ := vx_frame hsame
  rw [hhp] at f1 f2
  have hWs : s.WarmedH U.vm := State.WarmedH.trans hW0 hW
  have hcl : s.vm.findClass cls = some ce.cls := by
    have h9 := hO.cls
    rw [hvm] at h9
    exact h9
  have hall : s.sameButNew ({ U with vm := s.vm } : State) locs mc ms := by
    subst hA
    obtain ⟨e1, e2⟩ := hsame
    rw [State.setFrames_setFrames] at e1
    have h2 : (T.setVm s.vm).sameButNew ({ U with vm := s.vm } : State) [] (0 + 1) (0 + 6) := ⟨e1, e2⟩
    have h3 := X.same.trans h2
    rw [List.append_nil] at h3
    exact h3.mono hc hs
  refine ⟨U, ?_, .threw T.heap.size, hrun, hend, Or.inr ⟨T.heap.size, rfl, cls, ce, locs, hx U hWs.alike f1 (fun q hq => f2 q hq (fun z hz => nomatch hz)), hce, hO.vm, hcl, hWs, hall, hf⟩⟩
  refine st1 _ ?_
  show Steps p.tables e below (T1.setTop { method := m, pc := pc + 3, locals := ls, stack := .ref T.heap.size :: rest, locked := none }) _
  jvm_step X₁.here [X₁.here.top, hexec, d3', Value.category]
  exact X₁.ldcStringW hexec (own := own) (text := text) (index := is) (a := sa) hown' hstr'.1 hstr'.2
    (g := { method := m, pc := pc + 4, locals := ls, stack := .ref T.heap.size :: .ref T.heap.size :: rest, locked := none }) rfl d4' _ hsteps
end Ends
section Bodies
variable {l : Launch}
theorem vx_ofW {y : MethodName} {ws ws' : List Cond} {rm : Room} {Pc : Array Value → State → Prop} {Qc : Array Value → State → Outcome → State → Prop} {XC : String → State → State → Prop} {mc ms : Nat} {free : Addr → Prop} {cc : ByteArray} {maxL : Nat} {ret : Option FieldType}
    (hy : plainName y.cls = true) (hw : ws = Cond.code y cc maxL ret :: ws')
    (body : ∀ p e s m args below meth c s₁, BodyLoose p l y (headSpec ws rm) cc maxL ret e s m args below meth c s₁ → c.maxLocals = maxL → (∀ x ∈ c.exceptionTable.toList, False) → Pc args s →
      W p l e (headSpec ws rm).room s m args below meth c s.heap [] 0 0 (vx_MQ below Qc XC args s mc ms free) (entryFrame m args maxL)) : vx_Met l y ws rm Pc Qc XC mc ms free := by
  refine MetFree.of_bodyS (code := cc) (maxLocals := maxL) (ret := ret) hy ?_ ?_
  · intro args s m h hn
    obtain ⟨meth, c, h1, h2, h3, h4, h5, h6, -, -⟩ := Cond.code_spec hn (atoms_spec (ws := ws) h _ (by rw [hw]; exact List.mem_cons_self))
    exact ⟨meth, c, h1, h2, h3, h4, h5, h6⟩
  · intro p e s m args below meth c s₁ B hml hP _
    have hh0 : s₁.heap = s.heap := by rw [B.state]; rfl
    have ht : ∀ x ∈ c.exceptionTable.toList, False := by
      obtain ⟨meth9, c9, h1, h2, -, -, -, -, h7, -⟩ := Cond.code_spec B.named (atoms_spec (ws := ws) B.pre _ (by rw [hw]; exact List.mem_cons_self))
      cases Option.some.inj (h1.symm.trans B.method)
      cases Option.some.inj (h2.symm.trans (Stand.of_body B).code)
      intro x hx
      rw [Array.isEmpty_iff.mp h7] at hx
      cases hx
    obtain ⟨t, a1, o, b1, b2, b3⟩ := body p e s m args below meth c s₁ B hml ht hP s₁ hh0 (Stand.of_body B)
    exact ⟨t, o, a1, b1, b2, b3⟩
/-- the table of a body with handlers -/
theorem vx_table {p : Program} {x y : MethodName} {S : Spec} {cc bytes : ByteArray} {maxL maxL' : Nat} {ret ret' : Option FieldType} {e : Env} {s s₁ : State} {m : MethodId} {args : Array Value} {below : List Frame} {meth : Method} {c : Code} {hh : List (Nat × Nat × Nat × Nat)}
    (B : BodyLoose p l y S cc maxL ret e s m args below meth c s₁) (h : (Cond.codeWith y bytes maxL' ret' hh).before args s = true) : c.exceptionTable.toList = tableOf hh := by
  obtain ⟨m9, meth9, c9, hn9, h1, h2, -, -, h6, -⟩ := Cond.codeWith_spec h
  cases Option.some.inj (hn9.symm.trans B.named)
  cases Option.some.inj (h1.symm.trans B.method)
  cases Option.some.inj (h2.symm.trans (Stand.of_body B).code)
  rw [← h6, table_eq]
end Bodies
end VXA
/-! ===== END ===== -/
/-! ===== BEGIN a static call of a method with an exception table ===== -/
section VXS
variable {p : Program} {l : Launch} {e : Env} {R : Room} {s : State} {m : MethodId} {args : Array Value} {below : List Frame} {meth : Method} {c : Code} {T : State} {H : Heap} {locs : List Loc} {cells slots : Nat}
abbrev vx_CSW (R : Room) (s : State) (args : Array Value) (own : String) (index : Nat) (y : MethodName) (bytes : ByteArray) (maxL : Nat) (ret : Option FieldType) (hh : List (Nat × Nat × Nat × Nat)) (ws : List Cond) (rm : Room) (mc ms n : Nat) : Prop :=
  (rm.cells = mc ∧ rm.slots = ms ∧ rm.frames + 1 ≤ R.frames ∧ 8 + (maxL + 11) + rm.locals ≤ R.locals ∧ (∀ w ∈ ws, ∀ (a' : Array Value) (U : State), s.WarmedH U.vm → w.before a' U = true) ∧ Cond.codeWith y bytes maxL ret hh ∈ ws) ∧
  (Cond.codeWith y bytes maxL ret hh).before args s = true ∧ (Cond.initialized y.cls).before args s = true ∧ (y.cls ≠ "java/lang/invoke/MethodHandle" ∧ y.cls ≠ "java/lang/invoke/VarHandle") ∧
  (∀ sig, parseMethodDescriptor y.desc = some sig → n = sig.parameters.length) ∧ (Cond.methodLink own index y).before args s = true ∧ (Cond.static y).before args s = true
theorem vx_cwSW {own : String} {index maxL mc ms : Nat} {y : MethodName} {bytes : ByteArray} {ret : Option FieldType} {hh : List (Nat × Nat × Nat × Nat)} {Ts ws ws' : List Cond} {rm : Room} (n : Nat) (ht : ∀ w ∈ Ts, w.before args s = true) (hT : GoodIn Ts (va_wsS own index y ws)) (hw : ws = Cond.codeWith y bytes maxL ret hh :: ws') (hrc : rm.cells = mc) (hrs : rm.slots = ms)
    (hd : y.cls ≠ "java/lang/invoke/MethodHandle" ∧ y.cls ≠ "java/lang/invoke/VarHandle" ∧ (parseMethodDescriptor y.desc).map (fun d => d.parameters.length) = some n) (hR : rm.frames + 1 ≤ R.frames ∧ 8 + (maxL + 11) + rm.locals ≤ R.locals) :
    vx_CSW R s args own index y bytes maxL ret hh ws rm mc ms n := by
  have ok : ∀ w ∈ va_wsS own index y ws, w.before args s = true := fun w h => ht w (hT w h).1
  have hG : GoodIn Ts ws := fun w h => hT w (by unfold va_wsS; exact List.mem_append_right _ h)
  have hc : Cond.codeWith y bytes maxL ret hh ∈ ws := by rw [hw]; exact List.mem_cons_self
  refine ⟨⟨hrc, hrs, hR.1, hR.2, pay_in ht hG, hc⟩, ht _ (hG _ hc).1, ok _ (by simp [va_wsS]), ⟨hd.1, hd.2.1⟩, fun sig h => ?_, ok _ (by simp [va_wsS]), ok _ (by simp [va_wsS])⟩
  have h2 := hd.2.2
  rw [h] at h2
  exact (Option.some.inj h2).symm
theorem vx_callSW (X : Stand p l e R s m args below meth c T locs cells slots) (hexec : p.tables.exec = Jvm.exec) {own : String} {index : Nat} {y : MethodName} {bytes : ByteArray} {maxL : Nat} {ret : Option FieldType} {hh : List (Nat × Nat × Nat × Nat)}
    (hown : s.vm.findClass own = some m.cls) (hlink : (Cond.methodLink own index y).before args s = true) (hstat : (Cond.static y).before args s = true) (hinit : (Cond.initialized y.cls).before args s = true)
    (hcode : (Cond.codeWith y bytes maxL ret hh).before args s = true) (hy : y.cls ≠ "java/lang/invoke/MethodHandle" ∧ y.cls ≠ "java/lang/invoke/VarHandle")
    {W9 : Nat} {Pre : Pt → Array Value → Prop} {Post : Pt → Array Value → Option Value → Pt → Prop} (hK : Back l R p e below s args y 3 W9 Pre Post)
    {g : JFrame} (hg : g.method = m) (hsize : g.locals.size = c.maxLocals) {argsL rest : List Value} (hlen : ∀ sig, parseMethodDescriptor y.desc = some sig → argsL.length = sig.parameters.length)
    (hstack : g.stack = argsL.reverse ++ rest) (hW : 2 * g.monitorRoom + (rest.map fun v => v.category).sum ≤ W9) (hdg : decode c.code g.pc = .ok (.invokestatic index, 3))
    (hpre : ∀ vm₁, s.WarmedH vm₁ → Pre ⟨T.setVm vm₁, locs, cells, slots⟩ argsL.toArray) :
    ∃ (v : Option Value) (vm₁ : Vm) (B : Pt), s.WarmedH vm₁ ∧ Stand p l e R s m args below meth c B.U B.locs B.cells B.slots ∧ Post ⟨T.setVm vm₁, locs, cells, slots⟩ argsL.toArray v B ∧
      ∀ target, Steps p.tables e below (B.U.setTop { g with pc := g.pc + 3, stack := v.toList ++ rest }) target → Steps p.tables e below (T.setTop g) target := by
  obtain ⟨mk, methM, cM, hnamed, hmethM, -, -, -, -, -, -, hsigM⟩ := Cond.codeWith_spec hcode
  have hstatic : methM.isStatic = true := Cond.static_spec hnamed hmethM hstat
  obtain ⟨kP, hkP, -⟩ := className_of_methodNamed hnamed
  have hinitP : kP.init = .initialized := Cond.initialized_spec (findClass_of_methodNamed hnamed) hkP hinit
  obtain ⟨vm₁, X₁, hstep₁⟩ := X.invokestatic hexec hown hlink hnamed hmethM hstatic hkP hinitP hy (g := g) hg (argsL := argsL) (rest := rest) (hlen _ hsigM) hstack hdg
  obtain ⟨v, B, X', hpost, hsteps⟩ := hK m meth c ⟨T.setVm vm₁, locs, cells, slots⟩ { g with stack := rest } (.invokestatic index) mk argsL.toArray X₁ hg hsize hdg hW (X₁.named hnamed) (hpre vm₁ X₁.warmed)
  exact ⟨v, vm₁, B, X₁.warmed, X', hpost, fun target h => hstep₁ _ fun acts => by rw [doInvoke_state]; exact hsteps.trans h⟩
theorem vx_runSW {y : MethodName} {bytes cc : ByteArray} {maxL nL mc ms n index : Nat} {ret : Option FieldType} {hh : List (Nat × Nat × Nat × Nat)} {ws : List Cond} {rm : Room} {Pc : Array Value → State → Prop} {Qc : Array Value → State → Outcome → State → Prop} {free : Addr → Prop} {Ts : List Cond} {own : String} {As rest : List Value} {g : JFrame}
    (S : CallFix p m c cc nL s args Ts own) (hM : Met l y ws rm Pc Qc mc ms free) (cw : vx_CSW R s args own index y bytes maxL ret hh ws rm mc ms n) (hp : PreS s H Pc As)
    (hg : g.method = m) (hn : As.length = n) (hsize : g.locals.size = nL) (hstack : g.stack = As.reverse ++ rest) (hW : 2 * g.monitorRoom + (rest.map fun v => v.category).sum ≤ 8) (hdg : decode cc g.pc = .ok (.invokestatic index, 3)) (hf : cells + mc ≤ R.cells ∧ slots + ms ≤ R.slots) :
    va_Run p l e R s m args below meth c H locs cells slots mc ms g rest (Qc As.toArray) (free) := by
  obtain ⟨⟨hrc, hrs, hfr, hlo, hws, hcw⟩, hcode, hini, hy, hlen, hl, hstt⟩ := cw
  have hK : Back l R p e below s args y 3 8 (PreOf R mc ms Pc) (PostOf Qc mc ms free) := va_backW (hh := hh) (bytes := bytes) (maxL := maxL) (ret := ret) hM hp.1 hrc hrs hfr hlo hws hcw (fun a' U hW => word_at hW (Or.inl (by first | rfl | simp [Cond.onTables, Cond.keeps, Cond.steady])) hini)
  obtain ⟨hx, hb, hml, ho, -⟩ := S
  intro T hT X
  obtain ⟨v, vm₁, ⟨U', l2, c2, s2⟩, hW₁, X', ⟨g', mk, t, L, e1, e2, hq, h1, hL, h2, h3⟩, st⟩ := vx_callSW X hx (hh := hh) (bytes := bytes) (maxL := maxL) (ret := ret) ho hl hstt hini hcode hy hK hg (hsize.trans hml.symm) (argsL := As) (rest := rest) (fun sig h => hn.trans (hlen sig h)) hstack hW (by rw [hb]; exact hdg)
    (fun vm₁ hW₁ => ⟨hf.1, hf.2, hp.2 (T.setVm vm₁) hT hW₁⟩)
  dsimp only [Pt.U, Pt.locs, Pt.cells, Pt.slots] at X' e1 e2 h1 h2 h3 st
  subst h1; subst h2; subst h3
  exact ⟨v, (T.setVm vm₁).calling g' mk As.toArray, t, U', L, hT, X', hL, e1, e2, hq, st⟩
/-- not caught here, past rows that name other classes: it goes on to the caller -/
theorem vx_outP {p : Program} {l : Launch} {e : Env} {R : Room} {s : State} {m : MethodId} {args : Array Value} {below : List Frame} {meth : Method} {c : Code} {H : Heap} {locs : List Loc} {cells slots : Nat} {free : Addr → Prop} {ls : Array Slot} {rest : List Value} {Qc : Array Value → State → Outcome → State → Prop} {XC : String → State → State → Prop}
    {pc : Nat} {own E : String} {ce : Cell} {q : Addr} {mc ms : Nat} (hown : s.vm.findClass own = some m.cls) (hlocks : meth.locks = false)
    (hpass : ∀ z ∈ c.exceptionTable.toList, covers z pc = false ∨ (z.catchType ≠ 0 ∧ ∃ nm : String, (Cond.classLink own z.catchType nm).before args s = true ∧ va_Nc E nm s)) (hcell : H[q]? = some ce) (hv : ce.vm = .none) (hcl : s.vm.findClass E = some ce.cls)
    (hx : ∀ t : State, t.heap = H → s.vm.Alike t.vm → XC E s t) (hf : ∀ z ∈ locs, free z.base) (hc : cells ≤ mc) (hs : slots ≤ ms) :
    vx_W p l e R s m args below meth c H locs cells slots (vx_MQ below Qc XC args s mc ms free) (F0 m pc ls rest) q := by
  intro T hT X
  have hpl : e.platform.magicAccessors = ({} : Platform).magicAccessors := by rw [X.admits.platform]
  obtain ⟨vm', hW', X', st⟩ := X.outThrough hlocks q (g := F0 m pc ls rest) rfl rfl rfl (cell := ce) (by rw [hT]; exact hcell) (by rw [hv]; rfl)
    (by obtain ⟨k9, h9, -⟩ := Vm.findClass_spec hcl; exact ⟨k9, h9⟩) (fun z hz => by
      rcases hpass z hz with h | ⟨hz0, nm, hl1, hn1⟩
      · exact Or.inl h
      · obtain ⟨c6, hc6, hcl6⟩ := Cond.classLink_spec hown hl1 e.platform hpl
        obtain ⟨a8, b8, h1, h2, h3⟩ := hn1
        cases Option.some.inj (h1.symm.trans hcl)
        cases Option.some.inj (h2.symm.trans hc6)
        exact Or.inr ⟨hz0, _, hcl6, h3⟩)
  obtain ⟨g₀, hfr⟩ := X'.frames_eq
  have hcell9 : ((T.setVm vm').setFrames (.throwing q :: below)).heap[q]? = some ce := by
    show T.heap[q]? = some ce
    rw [hT]; exact hcell
  have hend : Ended ((T.setVm vm').setFrames (.throwing q :: below)) below (.threw q) := State.frames_setFrames _ (State.cur_lt_of_frames hfr)
  refine ⟨(T.setVm vm').setFrames (.throwing q :: below), ?_, .threw q, X'.here.running, hend, Or.inr ⟨q, rfl, E, ce, locs, hx _ hT (X'.ends _).1.alike, hcell9, hv, hcl, (X'.ends _).1, (X'.ends _).2.mono hc hs, hf⟩⟩
  rw [X.pushThrowing_eq]
  exact st
/-- a thing of a world lies in the heap -/
theorem vx_lt {D : va_G} {cl : List vw_C} {ws : va_W} {H1 : Heap} (h : va_P D cl ws H1) {k : Nat} {q : Nat × va_E} (hk : ws[k]? = some q) : q.1 < H1.size := (h k q hk).lt
end VXS
/-! ===== END ===== -/
/-! ===== BEGIN methods with a table of their own: called by a name, returning or throwing ===== -/
section VXH
/-! vx_backW, vx_callVX, vx_callSX, vx_callVW, vx_runVW, vx_runVX, vx_runSX, vx_ofWH follow the same proofs as their sisters above (Free/Laws.lean, Shelf42/LK1.lean); vx_outP calls Shelf42/NT130.lean (outThrough). -/
section
variable {l : Launch} {R : Room} {p : Program} {e : Env} {below : List Frame} {s : State} {sargs : Array Value} {y : MethodName} {len W9 : Nat}
theorem vx_backW {ws : List Cond} {rm : Room} {Pc : Array Value → State → Prop} {Qc : Array Value → State → Outcome → State → Prop} {XC : String → State → State → Prop} {mc ms : Nat} {free : Addr → Prop} {bytes : ByteArray} {maxL : Nat} {ret : Option FieldType} {hh : List (Nat × Nat × Nat × Nat)}
    (hM : vx_Met l y ws rm Pc Qc XC mc ms free) (hblind : FrameBlind Pc) (hrc : rm.cells = mc) (hrs : rm.slots = ms)
    (hframes : rm.frames + 1 ≤ R.frames) (hlocals : W9 + (maxL + 11) + rm.locals ≤ R.locals)
    (hws : ∀ w ∈ ws, ∀ a' U, s.WarmedH U.vm → w.before a' U = true) (hcode : Cond.codeWith y bytes maxL ret hh ∈ ws) (hinit : ∀ a' U, s.WarmedH U.vm → (Cond.initialized y.cls).before a' U = true) :
    vx_Back l R p e below s sargs y len W9 (PreOf R mc ms Pc) (PostOf Qc mc ms free) (vx_Post XC mc ms free) := by
  intro m meth c A g ig mk a X hg hsize hdg hW hn hp
  have h1 : (headSpec ws rm).pre.before a A.U = true := atoms_intro fun w hw => hws w hw _ _ X.warmed
  have h2 : (Cond.codeWith y bytes maxL ret hh).before a A.U = true := hws _ hcode _ _ X.warmed
  have h3 : (Cond.initialized y.cls).before a A.U = true := hinit _ _ X.warmed
  have h4 : A.cells + (headSpec ws rm).room.cells ≤ R.cells := by rw [show (headSpec ws rm).room.cells = mc from hrc]; exact hp.1
  have h5 : A.slots + (headSpec ws rm).room.slots ≤ R.slots := by rw [show (headSpec ws rm).room.slots = ms from hrs]; exact hp.2.1
  have hPc : Pc a (A.U.calling g mk a) := hblind _ _ _ _ hp.2.2
  obtain ⟨U, Ls, c0, s0⟩ := A
  dsimp only [Pt.U, Pt.locs, Pt.cells, Pt.slots] at h1 h2 h3 h4 h5 X hn hPc ⊢
  obtain ⟨m9, methY, cY, hn9, hmY, hcY, -, hlY, -⟩ := Cond.codeWith_spec h2
  cases Option.some.inj (hn9.symm.trans hn)
  obtain ⟨kY, hkY, -⟩ := className_of_methodNamed hn
  have hinitY : kY.init = .initialized := Cond.initialized_spec (findClass_of_methodNamed hn) hkY h3
  have h : At U g.method c below := by rw [hg]; exact X.here
  have hlocals9 : W9 + (maxL + 11) + (headSpec ws rm).room.locals ≤ R.locals := hlocals
  have happ : (headSpec ws rm).appliesLoose y e.platform (U.calling g mk a) = true :=
    Spec.appliesLoose_calling (g := g) h hdg hn hkY hinitY
      (X.room_calling (g := g) (R' := (headSpec ws rm).room) hsize hmY hcY hframes (by rw [hlY]; omega) h4 h5) h1
  obtain ⟨mid, hmid⟩ := h.above
  have hfr : (U.setTop g).frames = (.java g :: mid) ++ below := by rw [State.frames_setTop' g h.top, hmid]; rfl
  obtain ⟨o, s₂, hsteps, -, hend, hq⟩ := Steps.callFree hM p X.admits X.cas X.clock (acts := []) hfr happ hPc trivial
  have hq' : vx_Q Qc XC mc ms free a (U.calling g mk a) o s₂ := hq
  rw [State.frames_setTop' g h.top] at hend
  obtain ⟨g₀, hg0⟩ := Option.isSome_iff_exists.mp h.top
  obtain ⟨r, hr⟩ := State.topJava?_eq_some.mp hg0
  have hr' : (({ U with heap := s₂.heap, slotsUsed := s₂.slotsUsed } : State).setVm s₂.vm).frames = .java g₀ :: r := hr
  rcases hq' with ⟨hqc, L, hfe, hL⟩ | ⟨q, rfl, E, ce, L, hx, hce, hcv, hcl, hW₂, hsm, hL⟩
  · obtain ⟨⟨v, rfl⟩, hW₂, e2, q2, q3, q4, q5, q6⟩ := id hfe
    have e3 : s₂ = ({ (U.calling g mk a).setFrames s₂.frames with heap := s₂.heap, slotsUsed := s₂.slotsUsed } : State).setVm s₂.vm := by
      have : s₂ = ({ s₂ with vm := (U.calling g mk a).vm } : State).setVm s₂.vm := rfl
      rw [e2] at this
      exact this
    obtain ⟨c₂, i₂, len₂, hc₂, hd₂, hf₂⟩ := hend
    have hW' : U.WarmedH s₂.vm := hW₂
    have hcc : c₂ = c := by
      have h1 : s₂.code? g.method = U.code? g.method := by
        rw [State.code?_eq, State.code?_eq, hW'.alike.method?]
      exact Option.some.inj (hc₂.symm.trans (h1.trans h.code))
    subst hcc
    have hlen : len₂ = len := by rw [hdg] at hd₂; cases hd₂; rfl
    subst hlen
    have hs₂ : s₂ = (({ U with heap := s₂.heap, slotsUsed := s₂.slotsUsed } : State).setVm s₂.vm).setTop { g with pc := g.pc + len₂, stack := v.toList ++ g.stack } := by
      refine e3.trans ?_
      rw [hf₂, State.calling_eq h.top, State.setFrames_setFrames, State.setTop_of_frames _ hr', hr]
      rfl
    have hsame : U.sameButNew ({ U with heap := s₂.heap, slotsUsed := s₂.slotsUsed } : State) L mc ms := by
      refine ⟨?_, q2, q3, q4, q5, q6⟩
      obtain ⟨t, ht, -⟩ := State.frames_cons hr
      show ({ U with heap := s₂.heap, slotsUsed := s₂.slotsUsed } : State) = { U.setFrames U.frames with heap := s₂.heap, slotsUsed := s₂.slotsUsed }
      rw [State.setFrames_self ht]
    subst hg
    refine Or.inl ⟨v, ⟨(({ U with heap := s₂.heap, slotsUsed := s₂.slotsUsed } : State).setVm s₂.vm), Ls ++ L, c0 + mc, s0 + ms⟩,
      ⟨X.admits, X.cas, X.clock, X.frames, X.room, X.hears, X.method, X.code, (X.here.setHeapUsed s₂.heap s₂.slotsUsed).setVm hW'.alike, X.tail, State.WarmedH.trans X.warmed hW', X.limits, X.bytes, X.same.trans (hsame.setVm s.vm)⟩,
      ⟨g, mk, s₂, L, rfl, rfl, hqc, rfl, hL, rfl, rfl⟩, ?_⟩
    show Steps p.tables e below _ ((({ U with heap := s₂.heap, slotsUsed := s₂.slotsUsed } : State).setVm s₂.vm).setTop { g with pc := g.pc + len₂, stack := v.toList ++ g.stack })
    rw [← hs₂]
    exact hsteps
  · obtain ⟨e2, q2, q3, q4, q5, q6⟩ := id hsm
    have e3 : s₂ = ({ (U.calling g mk a).setFrames s₂.frames with heap := s₂.heap, slotsUsed := s₂.slotsUsed } : State).setVm s₂.vm := by
      have : s₂ = ({ s₂ with vm := (U.calling g mk a).vm } : State).setVm s₂.vm := rfl
      rw [e2] at this
      exact this
    have hf₂ : s₂.frames = .throwing q :: .java g :: U.frames.tail := hend
    have hW' : U.WarmedH s₂.vm := hW₂
    have hs₂ : s₂ = ((({ U with heap := s₂.heap, slotsUsed := s₂.slotsUsed } : State).setVm s₂.vm).setTop g).pushFrame (.throwing q) := by
      refine e3.trans ?_
      rw [hf₂, State.calling_eq h.top, State.setFrames_setFrames, State.pushFrame, State.frames_setTop _ hr', State.setTop_of_frames _ hr', State.setFrames_setFrames, hr]
      rfl
    have hsame : U.sameButNew ({ U with heap := s₂.heap, slotsUsed := s₂.slotsUsed } : State) L mc ms := by
      refine ⟨?_, q2, q3, q4, q5, q6⟩
      obtain ⟨t, ht, -⟩ := State.frames_cons hr
      show ({ U with heap := s₂.heap, slotsUsed := s₂.slotsUsed } : State) = { U.setFrames U.frames with heap := s₂.heap, slotsUsed := s₂.slotsUsed }
      rw [State.setFrames_self ht]
    subst hg
    refine Or.inr ⟨q, ⟨(({ U with heap := s₂.heap, slotsUsed := s₂.slotsUsed } : State).setVm s₂.vm), Ls ++ L, c0 + mc, s0 + ms⟩,
      ⟨X.admits, X.cas, X.clock, X.frames, X.room, X.hears, X.method, X.code, (X.here.setHeapUsed s₂.heap s₂.slotsUsed).setVm hW'.alike, X.tail, State.WarmedH.trans X.warmed hW', X.limits, X.bytes, X.same.trans (hsame.setVm s.vm)⟩,
      ⟨g, mk, s₂, L, E, ce, rfl, rfl, hx, hce, hcv, hcl, rfl, hL, rfl, rfl⟩, ?_⟩
    show Steps p.tables e below _ (((({ U with heap := s₂.heap, slotsUsed := s₂.slotsUsed } : State).setVm s₂.vm).setTop g).pushFrame (.throwing q))
    rw [← hs₂]
    exact hsteps
end
variable {p : Program} {l : Launch} {e : Env} {R : Room} {s : State} {m : MethodId} {args : Array Value} {below : List Frame} {meth : Method} {c : Code} {T : State} {H : Heap} {locs : List Loc} {cells slots : Nat}
theorem vx_callVX (X : Stand p l e R s m args below meth c T locs cells slots) (hexec : p.tables.exec = Jvm.exec) {own C : String} {index : Nat} {y : MethodName} {bytes : ByteArray} {maxL : Nat} {ret : Option FieldType} {hh : List (Nat × Nat × Nat × Nat)}
    (hown : s.vm.findClass own = some m.cls) (hlink : (Cond.methodLink own index y).before args s = true) (hinst : (Cond.instanceMethod y).before args s = true) (hsel : (Cond.selects C y y).before args s = true)
    (hcode : (Cond.codeWith y bytes maxL ret hh).before args s = true) (hy : y.cls ≠ "java/lang/invoke/MethodHandle" ∧ y.cls ≠ "java/lang/invoke/VarHandle")
    {W9 : Nat} {Pre : Pt → Array Value → Prop} {Post : Pt → Array Value → Option Value → Pt → Prop} {PostX : Pt → Array Value → Addr → Pt → Prop} (hK : vx_Back l R p e below s args y 3 W9 Pre Post PostX)
    {b : Addr} {cellB : Cell} (hcell : T.heap[b]? = some cellB) (hobj : cellB.vm.isStatics = false) (hcls : s.vm.findClass C = some cellB.cls)
    {g : JFrame} (hg : g.method = m) (hsize : g.locals.size = c.maxLocals) {argsL rest : List Value} (hlen : ∀ sig, parseMethodDescriptor y.desc = some sig → argsL.length = sig.parameters.length)
    (hstack : g.stack = argsL.reverse ++ .ref b :: rest) (hW : 2 * g.monitorRoom + (rest.map fun v => v.category).sum ≤ W9) (hdg : decode c.code g.pc = .ok (.invokevirtual index, 3))
    (hpre : ∀ vm₁, s.WarmedH vm₁ → Pre ⟨T.setVm vm₁, locs, cells, slots⟩ (Value.ref b :: argsL).toArray) :
    (∃ (v : Option Value) (vm₁ : Vm) (B : Pt), s.WarmedH vm₁ ∧ Stand p l e R s m args below meth c B.U B.locs B.cells B.slots ∧ Post ⟨T.setVm vm₁, locs, cells, slots⟩ (Value.ref b :: argsL).toArray v B ∧
      ∀ target, Steps p.tables e below (B.U.setTop { g with pc := g.pc + 3, stack := v.toList ++ rest }) target → Steps p.tables e below (T.setTop g) target) ∨
    (∃ (q : Addr) (vm₁ : Vm) (B : Pt), s.WarmedH vm₁ ∧ Stand p l e R s m args below meth c B.U B.locs B.cells B.slots ∧ PostX ⟨T.setVm vm₁, locs, cells, slots⟩ (Value.ref b :: argsL).toArray q B ∧
      Steps p.tables e below (T.setTop g) ((B.U.setTop { g with stack := rest }).pushFrame (.throwing q))) := by
  obtain ⟨mk, methM, hnamed, hmethM, hstM, habM⟩ := Cond.instanceMethod_spec hinst
  obtain ⟨m8, methM', cM, hn8, hmethM', -, -, -, -, -, -, hsigM⟩ := Cond.codeWith_spec hcode
  cases Option.some.inj (hn8.symm.trans hnamed)
  cases hmethM.symm.trans hmethM'
  obtain ⟨c2, r2, m2, q1, q2, q3, q4, kP, hkP, hkPi⟩ := Cond.selects_spec hsel
  cases hcls.symm.trans q1
  cases (State.methodFound?_of_named hnamed hy).symm.trans q2
  cases hnamed.symm.trans q3
  have hselP : selectMethod e.platform s.vm cellB.cls mk = .method mk := by rw [Launch.admits_selectMethod X.admits]; exact q4
  obtain ⟨vm₁, X₁, hstep₁⟩ := X.invokevirtual hexec hown hlink hnamed hmethM hstM hkP hkPi hy (a := b) (cell := cellB) hcell
    (fun z h => by rw [h] at hobj; cases hobj) hselP hmethM habM hkP hkPi (g := g) hg (argsL := argsL) (rest := rest) (hlen _ hsigM) hstack hdg
  rcases hK m meth c ⟨T.setVm vm₁, locs, cells, slots⟩ { g with stack := rest } (.invokevirtual index) mk (Value.ref b :: argsL).toArray X₁ hg hsize hdg hW (X₁.named hnamed) (hpre vm₁ X₁.warmed) with ⟨v, B, X', hpost, hsteps⟩ | ⟨q, B, X', hpost, hsteps⟩
  · exact Or.inl ⟨v, vm₁, B, X₁.warmed, X', hpost, fun target h => hstep₁ _ fun acts => by rw [doInvoke_state]; exact hsteps.trans h⟩
  · exact Or.inr ⟨q, vm₁, B, X₁.warmed, X', hpost, hstep₁ _ fun acts => by rw [doInvoke_state]; exact hsteps⟩
theorem vx_callSX (X : Stand p l e R s m args below meth c T locs cells slots) (hexec : p.tables.exec = Jvm.exec) {own : String} {index : Nat} {y : MethodName} {bytes : ByteArray} {maxL : Nat} {ret : Option FieldType} {hh : List (Nat × Nat × Nat × Nat)}
    (hown : s.vm.findClass own = some m.cls) (hlink : (Cond.methodLink own index y).before args s = true) (hstat : (Cond.static y).before args s = true) (hinit : (Cond.initialized y.cls).before args s = true)
    (hcode : (Cond.codeWith y bytes maxL ret hh).before args s = true) (hy : y.cls ≠ "java/lang/invoke/MethodHandle" ∧ y.cls ≠ "java/lang/invoke/VarHandle")
    {W9 : Nat} {Pre : Pt → Array Value → Prop} {Post : Pt → Array Value → Option Value → Pt → Prop} {PostX : Pt → Array Value → Addr → Pt → Prop} (hK : vx_Back l R p e below s args y 3 W9 Pre Post PostX)
    {g : JFrame} (hg : g.method = m) (hsize : g.locals.size = c.maxLocals) {argsL rest : List Value} (hlen : ∀ sig, parseMethodDescriptor y.desc = some sig → argsL.length = sig.parameters.length)
    (hstack : g.stack = argsL.reverse ++ rest) (hW : 2 * g.monitorRoom + (rest.map fun v => v.category).sum ≤ W9) (hdg : decode c.code g.pc = .ok (.invokestatic index, 3))
    (hpre : ∀ vm₁, s.WarmedH vm₁ → Pre ⟨T.setVm vm₁, locs, cells, slots⟩ argsL.toArray) :
    (∃ (v : Option Value) (vm₁ : Vm) (B : Pt), s.WarmedH vm₁ ∧ Stand p l e R s m args below meth c B.U B.locs B.cells B.slots ∧ Post ⟨T.setVm vm₁, locs, cells, slots⟩ argsL.toArray v B ∧
      ∀ target, Steps p.tables e below (B.U.setTop { g with pc := g.pc + 3, stack := v.toList ++ rest }) target → Steps p.tables e below (T.setTop g) target) ∨
    (∃ (q : Addr) (vm₁ : Vm) (B : Pt), s.WarmedH vm₁ ∧ Stand p l e R s m args below meth c B.U B.locs B.cells B.slots ∧ PostX ⟨T.setVm vm₁, locs, cells, slots⟩ argsL.toArray q B ∧
      Steps p.tables e below (T.setTop g) ((B.U.setTop { g with stack := rest }).pushFrame (.throwing q))) := by
  obtain ⟨mk, methM, cM, hnamed, hmethM, -, -, -, -, -, -, hsigM⟩ := Cond.codeWith_spec hcode
  have hstatic : methM.isStatic = true := Cond.static_spec hnamed hmethM hstat
  obtain ⟨kP, hkP, -⟩ := className_of_methodNamed hnamed
  have hinitP : kP.init = .initialized := Cond.initialized_spec (findClass_of_methodNamed hnamed) hkP hinit
  obtain ⟨vm₁, X₁, hstep₁⟩ := X.invokestatic hexec hown hlink hnamed hmethM hstatic hkP hinitP hy (g := g) hg (argsL := argsL) (rest := rest) (hlen _ hsigM) hstack hdg
  rcases hK m meth c ⟨T.setVm vm₁, locs, cells, slots⟩ { g with stack := rest } (.invokestatic index) mk argsL.toArray X₁ hg hsize hdg hW (X₁.named hnamed) (hpre vm₁ X₁.warmed) with ⟨v, B, X', hpost, hsteps⟩ | ⟨q, B, X', hpost, hsteps⟩
  · exact Or.inl ⟨v, vm₁, B, X₁.warmed, X', hpost, fun target h => hstep₁ _ fun acts => by rw [doInvoke_state]; exact hsteps.trans h⟩
  · exact Or.inr ⟨q, vm₁, B, X₁.warmed, X', hpost, hstep₁ _ fun acts => by rw [doInvoke_state]; exact hsteps⟩
theorem vx_callVW (X : Stand p l e R s m args below meth c T locs cells slots) (hexec : p.tables.exec = Jvm.exec) {own C : String} {index : Nat} {y : MethodName} {bytes : ByteArray} {maxL : Nat} {ret : Option FieldType} {hh : List (Nat × Nat × Nat × Nat)}
    (hown : s.vm.findClass own = some m.cls) (hlink : (Cond.methodLink own index y).before args s = true) (hinst : (Cond.instanceMethod y).before args s = true) (hsel : (Cond.selects C y y).before args s = true)
    (hcode : (Cond.codeWith y bytes maxL ret hh).before args s = true) (hy : y.cls ≠ "java/lang/invoke/MethodHandle" ∧ y.cls ≠ "java/lang/invoke/VarHandle")
    {W9 : Nat} {Pre : Pt → Array Value → Prop} {Post : Pt → Array Value → Option Value → Pt → Prop} (hK : Back l R p e below s args y 3 W9 Pre Post)
    {b : Addr} {cellB : Cell} (hcell : T.heap[b]? = some cellB) (hobj : cellB.vm.isStatics = false) (hcls : s.vm.findClass C = some cellB.cls)
    {g : JFrame} (hg : g.method = m) (hsize : g.locals.size = c.maxLocals) {argsL rest : List Value} (hlen : ∀ sig, parseMethodDescriptor y.desc = some sig → argsL.length = sig.parameters.length)
    (hstack : g.stack = argsL.reverse ++ .ref b :: rest) (hW : 2 * g.monitorRoom + (rest.map fun v => v.category).sum ≤ W9) (hdg : decode c.code g.pc = .ok (.invokevirtual index, 3))
    (hpre : ∀ vm₁, s.WarmedH vm₁ → Pre ⟨T.setVm vm₁, locs, cells, slots⟩ (Value.ref b :: argsL).toArray) :
    ∃ (v : Option Value) (vm₁ : Vm) (B : Pt), s.WarmedH vm₁ ∧ Stand p l e R s m args below meth c B.U B.locs B.cells B.slots ∧ Post ⟨T.setVm vm₁, locs, cells, slots⟩ (Value.ref b :: argsL).toArray v B ∧
      ∀ target, Steps p.tables e below (B.U.setTop { g with pc := g.pc + 3, stack := v.toList ++ rest }) target → Steps p.tables e below (T.setTop g) target := by
  obtain ⟨mk, methM, hnamed, hmethM, hstM, habM⟩ := Cond.instanceMethod_spec hinst
  obtain ⟨m8, methM', cM, hn8, hmethM', -, -, -, -, -, -, hsigM⟩ := Cond.codeWith_spec hcode
  cases Option.some.inj (hn8.symm.trans hnamed)
  cases hmethM.symm.trans hmethM'
  obtain ⟨c2, r2, m2, q1, q2, q3, q4, kP, hkP, hkPi⟩ := Cond.selects_spec hsel
  cases hcls.symm.trans q1
  cases (State.methodFound?_of_named hnamed hy).symm.trans q2
  cases hnamed.symm.trans q3
  have hselP : selectMethod e.platform s.vm cellB.cls mk = .method mk := by rw [Launch.admits_selectMethod X.admits]; exact q4
  obtain ⟨vm₁, X₁, hstep₁⟩ := X.invokevirtual hexec hown hlink hnamed hmethM hstM hkP hkPi hy (a := b) (cell := cellB) hcell
    (fun z h => by rw [h] at hobj; cases hobj) hselP hmethM habM hkP hkPi (g := g) hg (argsL := argsL) (rest := rest) (hlen _ hsigM) hstack hdg
  obtain ⟨v, B, X', hpost, hsteps⟩ := hK m meth c ⟨T.setVm vm₁, locs, cells, slots⟩ { g with stack := rest } (.invokevirtual index) mk (Value.ref b :: argsL).toArray X₁ hg hsize hdg hW (X₁.named hnamed) (hpre vm₁ X₁.warmed)
  exact ⟨v, vm₁, B, X₁.warmed, X', hpost, fun target h => hstep₁ _ fun acts => by rw [doInvoke_state]; exact hsteps.trans h⟩
abbrev vx_CVW (R : Room) (s : State) (args : Array Value) (own C : String) (index : Nat) (y : MethodName) (bytes : ByteArray) (maxL : Nat) (ret : Option FieldType) (hh : List (Nat × Nat × Nat × Nat)) (ws : List Cond) (rm : Room) (mc ms n : Nat) : Prop :=
  (rm.cells = mc ∧ rm.slots = ms ∧ rm.frames + 1 ≤ R.frames ∧ 8 + (maxL + 11) + rm.locals ≤ R.locals ∧ (∀ w ∈ ws, ∀ (a' : Array Value) (U : State), s.WarmedH U.vm → w.before a' U = true) ∧ Cond.codeWith y bytes maxL ret hh ∈ ws) ∧
  (Cond.codeWith y bytes maxL ret hh).before args s = true ∧ (Cond.initialized y.cls).before args s = true ∧ (y.cls ≠ "java/lang/invoke/MethodHandle" ∧ y.cls ≠ "java/lang/invoke/VarHandle") ∧
  (∀ sig, parseMethodDescriptor y.desc = some sig → n = sig.parameters.length) ∧ (Cond.methodLink own index y).before args s = true ∧ (Cond.instanceMethod y).before args s = true ∧ (Cond.selects C y y).before args s = true
theorem vx_cwVW {own C : String} {index maxL mc ms : Nat} {y : MethodName} {bytes : ByteArray} {ret : Option FieldType} {hh : List (Nat × Nat × Nat × Nat)} {Ts ws ws' : List Cond} {rm : Room} (n : Nat) (ht : ∀ w ∈ Ts, w.before args s = true) (hT : GoodIn Ts (wsV own index C y ws)) (hw : ws = Cond.codeWith y bytes maxL ret hh :: ws') (hrc : rm.cells = mc) (hrs : rm.slots = ms)
    (hd : y.cls = C ∧ y.cls ≠ "java/lang/invoke/MethodHandle" ∧ y.cls ≠ "java/lang/invoke/VarHandle" ∧ (parseMethodDescriptor y.desc).map (fun d => d.parameters.length) = some n) (hR : rm.frames + 1 ≤ R.frames ∧ 8 + (maxL + 11) + rm.locals ≤ R.locals) :
    vx_CVW R s args own C index y bytes maxL ret hh ws rm mc ms n := by
  obtain ⟨hC, hd⟩ := hd
  subst hC
  have ok : ∀ w ∈ wsV own index y.cls y ws, w.before args s = true := fun w h => ht w (hT w h).1
  have hG : GoodIn Ts ws := fun w h => hT w (by unfold wsV; exact List.mem_append_right _ h)
  have hc : Cond.codeWith y bytes maxL ret hh ∈ ws := by rw [hw]; exact List.mem_cons_self
  refine ⟨⟨hrc, hrs, hR.1, hR.2, pay_in ht hG, hc⟩, ht _ (hG _ hc).1, ok _ (by simp [wsV]), ⟨hd.1, hd.2.1⟩, fun sig h => ?_, ok _ (by simp [wsV]), ok _ (by simp [wsV]), ok _ (by simp [wsV])⟩
  have h2 := hd.2.2
  rw [h] at h2
  exact (Option.some.inj h2).symm
theorem vx_runVW {y : MethodName} {bytes cc : ByteArray} {maxL nL mc ms n index : Nat} {ret : Option FieldType} {hh : List (Nat × Nat × Nat × Nat)} {ws : List Cond} {rm : Room} {Pc : Array Value → State → Prop} {Qc : Array Value → State → Outcome → State → Prop} {free : Addr → Prop} {Ts : List Cond} {own C : String} {b : Addr} {As rest : List Value} {g : JFrame}
    (S : CallFix p m c cc nL s args Ts own) (hM : Met l y ws rm Pc Qc mc ms free) (cw : vx_CVW R s args own C index y bytes maxL ret hh ws rm mc ms n) (hp : PreV s H C b Pc As)
    (hg : g.method = m) (hn : As.length = n) (hsize : g.locals.size = nL) (hstack : g.stack = As.reverse ++ .ref b :: rest) (hW : 2 * g.monitorRoom + (rest.map fun v => v.category).sum ≤ 8) (hdg : decode cc g.pc = .ok (.invokevirtual index, 3)) (hf : cells + mc ≤ R.cells ∧ slots + ms ≤ R.slots) :
    va_Run p l e R s m args below meth c H locs cells slots mc ms g rest (Qc (Value.ref b :: As).toArray) free := by
  obtain ⟨⟨hrc, hrs, hfr, hlo, hws, hcw⟩, hcode, hini, hy, hlen, hl, hin, hse⟩ := cw
  have hK : Back l R p e below s args y 3 8 (PreOf R mc ms Pc) (PostOf Qc mc ms free) := va_backW (hh := hh) (bytes := bytes) (maxL := maxL) (ret := ret) hM hp.1 hrc hrs hfr hlo hws hcw (fun a' U hW => word_at hW (Or.inl (by first | rfl | simp [Cond.onTables, Cond.keeps, Cond.steady])) hini)
  obtain ⟨hx, hb, hml, ho, -⟩ := S
  obtain ⟨-, ⟨cellB, hcB, hoB, hclB⟩, hPc⟩ := hp
  intro T hT X
  obtain ⟨v, vm₁, ⟨U', l2, c2, s2⟩, hW₁, X', ⟨g', mk, t, L, e1, e2, hq, h1, hL, h2, h3⟩, st⟩ := vx_callVW X hx (C := C) (hh := hh) (bytes := bytes) (maxL := maxL) (ret := ret) ho hl hin hse hcode hy hK (by rw [hT]; exact hcB) hoB hclB hg (hsize.trans hml.symm) (argsL := As) (rest := rest) (fun sig h => hn.trans (hlen sig h)) hstack hW (by rw [hb]; exact hdg)
    (fun vm₁ hW₁ => ⟨hf.1, hf.2, hPc (T.setVm vm₁) hT hW₁⟩)
  dsimp only [Pt.U, Pt.locs, Pt.cells, Pt.slots] at X' e1 e2 h1 h2 h3 st
  subst h1; subst h2; subst h3
  exact ⟨v, (T.setVm vm₁).calling g' mk (Value.ref b :: As).toArray, t, U', L, hT, X', hL, e1, e2, hq, st⟩
section
variable {y : MethodName} {bytes cc : ByteArray} {maxL nL mc ms n index : Nat} {ret : Option FieldType} {ws : List Cond} {rm : Room} {Pc : Array Value → State → Prop} {Qc : Array Value → State → Outcome → State → Prop} {XC : String → State → State → Prop} {free : Addr → Prop} {Ts : List Cond} {own C : String} {b : Addr} {As rest : List Value} {g : JFrame}
theorem vx_runVX {hh : List (Nat × Nat × Nat × Nat)} (S : CallFix p m c cc nL s args Ts own) (hM : vx_Met l y ws rm Pc Qc XC mc ms free) (cw : vx_CVW R s args own C index y bytes maxL ret hh ws rm mc ms n) (hp : PreV s H C b Pc As)
    (hg : g.method = m) (hn : As.length = n) (hsize : g.locals.size = nL) (hstack : g.stack = As.reverse ++ .ref b :: rest) (hW : 2 * g.monitorRoom + (rest.map fun v => v.category).sum ≤ 8) (hdg : decode cc g.pc = .ok (.invokevirtual index, 3)) (hf : cells + mc ≤ R.cells ∧ slots + ms ≤ R.slots) :
    vx_Run p l e R s m args below meth c H locs cells slots mc ms g rest (Qc (Value.ref b :: As).toArray) XC free := by
  obtain ⟨⟨hrc, hrs, hfr, hlo, hws, hcw⟩, hcode, hini, hy, hlen, hl, hin, hse⟩ := cw
  have hK : vx_Back l R p e below s args y 3 8 (PreOf R mc ms Pc) (PostOf Qc mc ms free) (vx_Post XC mc ms free) := vx_backW (hh := hh) (bytes := bytes) (maxL := maxL) (ret := ret) hM hp.1 hrc hrs hfr hlo hws hcw (fun a' U hW => word_at hW (Or.inl (by first | rfl | simp [Cond.onTables, Cond.keeps, Cond.steady])) hini)
  obtain ⟨hx, hb, hml, ho, -⟩ := S
  obtain ⟨-, ⟨cellB, hcB, hoB, hclB⟩, hPc⟩ := hp
  intro T hT X
  rcases vx_callVX X hx (C := C) (hh := hh) (bytes := bytes) (maxL := maxL) (ret := ret) ho hl hin hse hcode hy hK (by rw [hT]; exact hcB) hoB hclB hg (hsize.trans hml.symm) (argsL := As) (rest := rest) (fun sig h => hn.trans (hlen sig h)) hstack hW (by rw [hb]; exact hdg)
    (fun vm₁ hW₁ => ⟨hf.1, hf.2, hPc (T.setVm vm₁) hT hW₁⟩) with ⟨v, vm₁, ⟨U', l2, c2, s2⟩, hW₁, X', ⟨g', mk, t, L, e1, e2, hq, h1, hL, h2, h3⟩, st⟩ | ⟨q, vm₁, ⟨U', l2, c2, s2⟩, hW₁, X', ⟨g', mk, t, L, E, ce, e1, e2, hq, hce, hcv, hcl, h1, hL, h2, h3⟩, st⟩
  · dsimp only [Pt.U, Pt.locs, Pt.cells, Pt.slots] at X' e1 e2 h1 h2 h3 st
    subst h1; subst h2; subst h3
    exact Or.inl ⟨v, (T.setVm vm₁).calling g' mk (Value.ref b :: As).toArray, t, U', L, hT, X', hL, e1, e2, hq, st⟩
  · dsimp only [Pt.U, Pt.locs, Pt.cells, Pt.slots] at X' e1 e2 h1 h2 h3 st hcl
    subst h1; subst h2; subst h3
    exact Or.inr ⟨q, (T.setVm vm₁).calling g' mk (Value.ref b :: As).toArray, t, U', L, E, ce, hT, X', hL, e1, e2, hq, hce, hcv, vx_cls hW₁ hcl, st⟩
theorem vx_runSX {hh : List (Nat × Nat × Nat × Nat)} (S : CallFix p m c cc nL s args Ts own) (hM : vx_Met l y ws rm Pc Qc XC mc ms free) (cw : vx_CSW R s args own index y bytes maxL ret hh ws rm mc ms n) (hp : PreS s H Pc As)
    (hg : g.method = m) (hn : As.length = n) (hsize : g.locals.size = nL) (hstack : g.stack = As.reverse ++ rest) (hW : 2 * g.monitorRoom + (rest.map fun v => v.category).sum ≤ 8) (hdg : decode cc g.pc = .ok (.invokestatic index, 3)) (hf : cells + mc ≤ R.cells ∧ slots + ms ≤ R.slots) :
    vx_Run p l e R s m args below meth c H locs cells slots mc ms g rest (Qc As.toArray) XC free := by
  obtain ⟨⟨hrc, hrs, hfr, hlo, hws, hcw⟩, hcode, hini, hy, hlen, hl, hstt⟩ := cw
  have hK : vx_Back l R p e below s args y 3 8 (PreOf R mc ms Pc) (PostOf Qc mc ms free) (vx_Post XC mc ms free) := vx_backW (hh := hh) (bytes := bytes) (maxL := maxL) (ret := ret) hM hp.1 hrc hrs hfr hlo hws hcw (fun a' U hW => word_at hW (Or.inl (by first | rfl | simp [Cond.onTables, Cond.keeps, Cond.steady])) hini)
  obtain ⟨hx, hb, hml, ho, -⟩ := S
  intro T hT X
  rcases vx_callSX X hx (hh := hh) (bytes := bytes) (maxL := maxL) (ret := ret) ho hl hstt hini hcode hy hK hg (hsize.trans hml.symm) (argsL := As) (rest := rest) (fun sig h => hn.trans (hlen sig h)) hstack hW (by rw [hb]; exact hdg)
    (fun vm₁ hW₁ => ⟨hf.1, hf.2, hp.2 (T.setVm vm₁) hT hW₁⟩) with ⟨v, vm₁, ⟨U', l2, c2, s2⟩, hW₁, X', ⟨g', mk, t, L, e1, e2, hq, h1, hL, h2, h3⟩, st⟩ | ⟨q, vm₁, ⟨U', l2, c2, s2⟩, hW₁, X', ⟨g', mk, t, L, E, ce, e1, e2, hq, hce, hcv, hcl, h1, hL, h2, h3⟩, st⟩
  · dsimp only [Pt.U, Pt.locs, Pt.cells, Pt.slots] at X' e1 e2 h1 h2 h3 st
    subst h1; subst h2; subst h3
    exact Or.inl ⟨v, (T.setVm vm₁).calling g' mk As.toArray, t, U', L, hT, X', hL, e1, e2, hq, st⟩
  · dsimp only [Pt.U, Pt.locs, Pt.cells, Pt.slots] at X' e1 e2 h1 h2 h3 st hcl
    subst h1; subst h2; subst h3
    exact Or.inr ⟨q, (T.setVm vm₁).calling g' mk As.toArray, t, U', L, E, ce, hT, X', hL, e1, e2, hq, hce, hcv, vx_cls hW₁ hcl, st⟩
end
end VXH
theorem vx_ofWH {l : Launch} {y : MethodName} {ws ws' : List Cond} {rm : Room} {Pc : Array Value → State → Prop} {Qc : Array Value → State → Outcome → State → Prop} {XC : String → State → State → Prop} {mc ms : Nat} {free : Addr → Prop} {cc : ByteArray} {maxL : Nat} {ret : Option FieldType} {hh : List (Nat × Nat × Nat × Nat)}
    (hy : plainName y.cls = true) (hw : ws = Cond.codeWith y cc maxL ret hh :: ws')
    (body : ∀ p e s m args below meth c s₁, BodyLoose p l y (headSpec ws rm) cc maxL ret e s m args below meth c s₁ → c.maxLocals = maxL → Pc args s →
      W p l e (headSpec ws rm).room s m args below meth c s.heap [] 0 0 (vx_MQ below Qc XC args s mc ms free) (entryFrame m args maxL)) : vx_Met l y ws rm Pc Qc XC mc ms free := by
  refine MetFree.of_bodyS (code := cc) (maxLocals := maxL) (ret := ret) hy ?_ ?_
  · intro args s m h hn
    obtain ⟨m9, meth, c, hn9, h1, h2, h3, h4, -, h5, h6, -⟩ := Cond.codeWith_spec (atoms_spec (ws := ws) h _ (by rw [hw]; exact List.mem_cons_self))
    cases hn.symm.trans hn9
    exact ⟨meth, c, h1, h2, h3, h4, h5, h6⟩
  · intro p e s m args below meth c s₁ B hml hP _
    have hh0 : s₁.heap = s.heap := by rw [B.state]; rfl
    obtain ⟨t, a1, o, b1, b2, b3⟩ := body p e s m args below meth c s₁ B hml hP s₁ hh0 (Stand.of_body B)
    exact ⟨t, o, a1, b1, b2, b3⟩
/-! ===== END ===== -/
end
section
set_option maxRecDepth 100000 in
theorem zObj : Cond.instanceMethod Lib.objectInit ∈ zG ∧ Cond.code Lib.objectInit ⟨#[0xb1]⟩ 1 none ∈ zG := ⟨zmemT 23 rfl rfl, zmemT 24 rfl rfl⟩
set_option maxRecDepth 100000 in
theorem zAI : Cond.arrayClass .int ∈ zG := zmemT 88 rfl rfl
set_option maxRecDepth 100000 in
theorem zAZ : Cond.arrayClass .boolean ∈ zG := zmemT 906 rfl rfl
set_option maxRecDepth 100000 in
theorem zAJ : Cond.arrayClass .long ∈ zG := zmemT 139 rfl rfl
set_option maxRecDepth 100000 in
theorem zIn0 : Cond.instantiable RX0 6 ∈ zG ∧ Cond.initialized RX0 ∈ zG := ⟨zmemT 111 rfl rfl, zmemT 4 rfl rfl⟩
set_option maxRecDepth 100000 in
theorem zIn1 : Cond.instantiable RX2 13 ∈ zG ∧ Cond.initialized RX2 ∈ zG := ⟨zmemT 26 rfl rfl, zmemT 2 rfl rfl⟩
set_option maxRecDepth 100000 in
theorem zIn2 : Cond.instantiable RX3 6 ∈ zG ∧ Cond.initialized RX3 ∈ zG := ⟨zmemT 162 rfl rfl, zmemT 6 rfl rfl⟩
set_option maxRecDepth 100000 in
theorem zIn3 : Cond.instantiable RX4 4 ∈ zG ∧ Cond.initialized RX4 ∈ zG := ⟨zmemT 90 rfl rfl, zmemT 3 rfl rfl⟩
set_option maxRecDepth 100000 in
theorem zIn4 : Cond.instantiable RX5 4 ∈ zG ∧ Cond.initialized RX5 ∈ zG := ⟨zmemT 141 rfl rfl, zmemT 5 rfl rfl⟩
set_option maxRecDepth 100000 in
theorem zIn5 : Cond.instantiable RX6 9 ∈ zG ∧ Cond.initialized RX6 ∈ zG := ⟨zmemT 18 rfl rfl, zmemT 1 rfl rfl⟩
set_option maxRecDepth 100000 in
theorem zIn6 : Cond.instantiable RX7 35 ∈ zG ∧ Cond.initialized RX7 ∈ zG := ⟨zmemT 795 rfl rfl, zmemT 7 rfl rfl⟩
set_option maxRecDepth 100000 in
theorem zCl_RL_8 : Cond.classLink RL 8 RX6 ∈ zG := zmemT 17 rfl rfl
set_option maxRecDepth 100000 in
theorem zCl_RX6_7 : Cond.classLink RX6 7 RX2 ∈ zG := zmemT 25 rfl rfl
set_option maxRecDepth 100000 in
theorem zCl_RX6_19 : Cond.classLink RX6 19 RX4 ∈ zG := zmemT 89 rfl rfl
set_option maxRecDepth 100000 in
theorem zCl_RX6_29 : Cond.classLink RX6 29 RX0 ∈ zG := zmemT 110 rfl rfl
set_option maxRecDepth 100000 in
theorem zCl_RX0_19 : Cond.classLink RX0 19 ("[" ++ (FieldType.array .long).toString) ∈ zG := zmemT 116 rfl rfl
set_option maxRecDepth 100000 in
theorem zCl_RX6_36 : Cond.classLink RX6 36 RX5 ∈ zG := zmemT 140 rfl rfl
set_option maxRecDepth 100000 in
theorem zCl_RX6_43 : Cond.classLink RX6 43 RX3 ∈ zG := zmemT 160 rfl rfl
set_option maxRecDepth 100000 in
theorem zCl_RL_26 : Cond.classLink RL 26 RX7 ∈ zG := zmemT 794 rfl rfl
set_option maxHeartbeats 4000000 in
set_option maxRecDepth 100000 in
theorem i0 : zK 1 zX2_init [.ref 1] [zO 5 [.null, .null, .null, .null, .null, .null, .null, .null, .int 0], zO 1 [.null, .null, .null, .null, .null, .null, .null, .null, .null, .null, .null, .null, .int 0]] (fun r w' => r = none ∧ w' = [zO 5 [.null, .null, .null, .null, .null, .null, .null, .null, .int 0], zO 1 [.ref 2, .ref 3, .ref 4, .ref 5, .ref 6, .ref 7, .ref 8, .ref 9, .ref 10, .ref 11, .ref 12, .ref 13, .int 0], zI 0 120 (fun _ => 0), zI 0 120 (fun _ => 0), zI 0 120 (fun _ => 0), zI 0 120 (fun _ => 0), zI 0 120 (fun _ => 0), zI 0 120 (fun _ => 0), zI 0 120 (fun _ => 0), zI 0 120 (fun _ => 0), zI 0 120 (fun _ => 0), zI 0 120 (fun _ => 0), zI 0 120 (fun _ => 0), zI 0 120 (fun _ => 0)]) := by
  refine zK_of qX2_init (by decide +kernel) rfl ?_
  refine zv_step (bX2_init 1) rfl rfl trivial ?_
  refine zv_obj (bX2_init 1) zObj rfl rfl (by decide) ⟨by decide, by decide⟩ ?_
  repeat (first
    | refine zv_step (bX2_init 1) rfl rfl trivial ?_
    | refine zv_newI (bX2_init 1) rfl 0 120 (Or.inl ⟨rfl, rfl⟩) (by decide) (by decide) (by decide) zAI zAZ ⟨by decide, by decide, rfl, rfl, rfl⟩ (by decide) (by decide) ?_)
  exact zv_ret (bX2_init 1) rfl rfl (by decide) (by decide) ⟨rfl, rfl⟩
set_option maxHeartbeats 4000000 in
set_option maxRecDepth 100000 in
theorem i1 : zK 1 zX2_init [.ref 14] [zO 5 [.ref 1, .null, .null, .null, .null, .null, .null, .null, .int 0], zO 1 [.ref 2, .ref 3, .ref 4, .ref 5, .ref 6, .ref 7, .ref 8, .ref 9, .ref 10, .ref 11, .ref 12, .ref 13, .int 0], zI 0 120 (fun _ => 0), zI 0 120 (fun _ => 0), zI 0 120 (fun _ => 0), zI 0 120 (fun _ => 0), zI 0 120 (fun _ => 0), zI 0 120 (fun _ => 0), zI 0 120 (fun _ => 0), zI 0 120 (fun _ => 0), zI 0 120 (fun _ => 0), zI 0 120 (fun _ => 0), zI 0 120 (fun _ => 0), zI 0 120 (fun _ => 0), zO 1 [.null, .null, .null, .null, .null, .null, .null, .null, .null, .null, .null, .null, .int 0]] (fun r w' => r = none ∧ w' = [zO 5 [.ref 1, .null, .null, .null, .null, .null, .null, .null, .int 0], zO 1 [.ref 2, .ref 3, .ref 4, .ref 5, .ref 6, .ref 7, .ref 8, .ref 9, .ref 10, .ref 11, .ref 12, .ref 13, .int 0], zI 0 120 (fun _ => 0), zI 0 120 (fun _ => 0), zI 0 120 (fun _ => 0), zI 0 120 (fun _ => 0), zI 0 120 (fun _ => 0), zI 0 120 (fun _ => 0), zI 0 120 (fun _ => 0), zI 0 120 (fun _ => 0), zI 0 120 (fun _ => 0), zI 0 120 (fun _ => 0), zI 0 120 (fun _ => 0), zI 0 120 (fun _ => 0), zO 1 [.ref 15, .ref 16, .ref 17, .ref 18, .ref 19, .ref 20, .ref 21, .ref 22, .ref 23, .ref 24, .ref 25, .ref 26, .int 0], zI 0 120 (fun _ => 0), zI 0 120 (fun _ => 0), zI 0 120 (fun _ => 0), zI 0 120 (fun _ => 0), zI 0 120 (fun _ => 0), zI 0 120 (fun _ => 0), zI 0 120 (fun _ => 0), zI 0 120 (fun _ => 0), zI 0 120 (fun _ => 0), zI 0 120 (fun _ => 0), zI 0 120 (fun _ => 0), zI 0 120 (fun _ => 0)]) := by
  refine zK_of qX2_init (by decide +kernel) rfl ?_
  refine zv_step (bX2_init 1) rfl rfl trivial ?_
  refine zv_obj (bX2_init 1) zObj rfl rfl (by decide) ⟨by decide, by decide⟩ ?_
  repeat (first
    | refine zv_step (bX2_init 1) rfl rfl trivial ?_
    | refine zv_newI (bX2_init 1) rfl 0 120 (Or.inl ⟨rfl, rfl⟩) (by decide) (by decide) (by decide) zAI zAZ ⟨by decide, by decide, rfl, rfl, rfl⟩ (by decide) (by decide) ?_)
  exact zv_ret (bX2_init 1) rfl rfl (by decide) (by decide) ⟨rfl, rfl⟩
set_option maxHeartbeats 4000000 in
set_option maxRecDepth 100000 in
theorem i2 : zK 1 zX4_init [.ref 27] [zO 5 [.ref 1, .ref 14, .null, .null, .null, .null, .null, .null, .int 0], zO 1 [.ref 2, .ref 3, .ref 4, .ref 5, .ref 6, .ref 7, .ref 8, .ref 9, .ref 10, .ref 11, .ref 12, .ref 13, .int 0], zI 0 120 (fun _ => 0), zI 0 120 (fun _ => 0), zI 0 120 (fun _ => 0), zI 0 120 (fun _ => 0), zI 0 120 (fun _ => 0), zI 0 120 (fun _ => 0), zI 0 120 (fun _ => 0), zI 0 120 (fun _ => 0), zI 0 120 (fun _ => 0), zI 0 120 (fun _ => 0), zI 0 120 (fun _ => 0), zI 0 120 (fun _ => 0), zO 1 [.ref 15, .ref 16, .ref 17, .ref 18, .ref 19, .ref 20, .ref 21, .ref 22, .ref 23, .ref 24, .ref 25, .ref 26, .int 0], zI 0 120 (fun _ => 0), zI 0 120 (fun _ => 0), zI 0 120 (fun _ => 0), zI 0 120 (fun _ => 0), zI 0 120 (fun _ => 0), zI 0 120 (fun _ => 0), zI 0 120 (fun _ => 0), zI 0 120 (fun _ => 0), zI 0 120 (fun _ => 0), zI 0 120 (fun _ => 0), zI 0 120 (fun _ => 0), zI 0 120 (fun _ => 0), zO 3 [.null, .int 0, .int 0, .int 0]] (fun r w' => r = none ∧ w' = [zO 5 [.ref 1, .ref 14, .null, .null, .null, .null, .null, .null, .int 0], zO 1 [.ref 2, .ref 3, .ref 4, .ref 5, .ref 6, .ref 7, .ref 8, .ref 9, .ref 10, .ref 11, .ref 12, .ref 13, .int 0], zI 0 120 (fun _ => 0), zI 0 120 (fun _ => 0), zI 0 120 (fun _ => 0), zI 0 120 (fun _ => 0), zI 0 120 (fun _ => 0), zI 0 120 (fun _ => 0), zI 0 120 (fun _ => 0), zI 0 120 (fun _ => 0), zI 0 120 (fun _ => 0), zI 0 120 (fun _ => 0), zI 0 120 (fun _ => 0), zI 0 120 (fun _ => 0), zO 1 [.ref 15, .ref 16, .ref 17, .ref 18, .ref 19, .ref 20, .ref 21, .ref 22, .ref 23, .ref 24, .ref 25, .ref 26, .int 0], zI 0 120 (fun _ => 0), zI 0 120 (fun _ => 0), zI 0 120 (fun _ => 0), zI 0 120 (fun _ => 0), zI 0 120 (fun _ => 0), zI 0 120 (fun _ => 0), zI 0 120 (fun _ => 0), zI 0 120 (fun _ => 0), zI 0 120 (fun _ => 0), zI 0 120 (fun _ => 0), zI 0 120 (fun _ => 0), zI 0 120 (fun _ => 0), zO 3 [.ref 28, .int 0, .int 0, .int 0], zI 0 80 (fun _ => 0)]) := by
  refine zK_of qX4_init (by decide +kernel) rfl ?_
  refine zv_step (bX4_init 1) rfl rfl trivial ?_
  refine zv_obj (bX4_init 1) zObj rfl rfl (by decide) ⟨by decide, by decide⟩ ?_
  repeat (first
    | refine zv_step (bX4_init 1) rfl rfl trivial ?_
    | refine zv_newI (bX4_init 1) rfl 0 80 (Or.inl ⟨rfl, rfl⟩) (by decide) (by decide) (by decide) zAI zAZ ⟨by decide, by decide, rfl, rfl, rfl⟩ (by decide) (by decide) ?_)
  exact zv_ret (bX4_init 1) rfl rfl (by decide) (by decide) ⟨rfl, rfl⟩
set_option maxHeartbeats 4000000 in
set_option maxRecDepth 100000 in
theorem i3 : zK 1 zX4_init [.ref 29] [zO 5 [.ref 1, .ref 14, .ref 27, .null, .null, .null, .null, .null, .int 0], zO 1 [.ref 2, .ref 3, .ref 4, .ref 5, .ref 6, .ref 7, .ref 8, .ref 9, .ref 10, .ref 11, .ref 12, .ref 13, .int 0], zI 0 120 (fun _ => 0), zI 0 120 (fun _ => 0), zI 0 120 (fun _ => 0), zI 0 120 (fun _ => 0), zI 0 120 (fun _ => 0), zI 0 120 (fun _ => 0), zI 0 120 (fun _ => 0), zI 0 120 (fun _ => 0), zI 0 120 (fun _ => 0), zI 0 120 (fun _ => 0), zI 0 120 (fun _ => 0), zI 0 120 (fun _ => 0), zO 1 [.ref 15, .ref 16, .ref 17, .ref 18, .ref 19, .ref 20, .ref 21, .ref 22, .ref 23, .ref 24, .ref 25, .ref 26, .int 0], zI 0 120 (fun _ => 0), zI 0 120 (fun _ => 0), zI 0 120 (fun _ => 0), zI 0 120 (fun _ => 0), zI 0 120 (fun _ => 0), zI 0 120 (fun _ => 0), zI 0 120 (fun _ => 0), zI 0 120 (fun _ => 0), zI 0 120 (fun _ => 0), zI 0 120 (fun _ => 0), zI 0 120 (fun _ => 0), zI 0 120 (fun _ => 0), zO 3 [.ref 28, .int 0, .int 0, .int 0], zI 0 80 (fun _ => 0), zO 3 [.null, .int 0, .int 0, .int 0]] (fun r w' => r = none ∧ w' = [zO 5 [.ref 1, .ref 14, .ref 27, .null, .null, .null, .null, .null, .int 0], zO 1 [.ref 2, .ref 3, .ref 4, .ref 5, .ref 6, .ref 7, .ref 8, .ref 9, .ref 10, .ref 11, .ref 12, .ref 13, .int 0], zI 0 120 (fun _ => 0), zI 0 120 (fun _ => 0), zI 0 120 (fun _ => 0), zI 0 120 (fun _ => 0), zI 0 120 (fun _ => 0), zI 0 120 (fun _ => 0), zI 0 120 (fun _ => 0), zI 0 120 (fun _ => 0), zI 0 120 (fun _ => 0), zI 0 120 (fun _ => 0), zI 0 120 (fun _ => 0), zI 0 120 (fun _ => 0), zO 1 [.ref 15, .ref 16, .ref 17, .ref 18, .ref 19, .ref 20, .ref 21, .ref 22, .ref 23, .ref 24, .ref 25, .ref 26, .int 0], zI 0 120 (fun _ => 0), zI 0 120 (fun _ => 0), zI 0 120 (fun _ => 0), zI 0 120 (fun _ => 0), zI 0 120 (fun _ => 0), zI 0 120 (fun _ => 0), zI 0 120 (fun _ => 0), zI 0 120 (fun _ => 0), zI 0 120 (fun _ => 0), zI 0 120 (fun _ => 0), zI 0 120 (fun _ => 0), zI 0 120 (fun _ => 0), zO 3 [.ref 28, .int 0, .int 0, .int 0], zI 0 80 (fun _ => 0), zO 3 [.ref 30, .int 0, .int 0, .int 0], zI 0 80 (fun _ => 0)]) := by
  refine zK_of qX4_init (by decide +kernel) rfl ?_
  refine zv_step (bX4_init 1) rfl rfl trivial ?_
  refine zv_obj (bX4_init 1) zObj rfl rfl (by decide) ⟨by decide, by decide⟩ ?_
  repeat (first
    | refine zv_step (bX4_init 1) rfl rfl trivial ?_
    | refine zv_newI (bX4_init 1) rfl 0 80 (Or.inl ⟨rfl, rfl⟩) (by decide) (by decide) (by decide) zAI zAZ ⟨by decide, by decide, rfl, rfl, rfl⟩ (by decide) (by decide) ?_)
  exact zv_ret (bX4_init 1) rfl rfl (by decide) (by decide) ⟨rfl, rfl⟩
set_option maxHeartbeats 4000000 in
set_option maxRecDepth 100000 in
theorem i4 : zK 1 zX0_init [.ref 31] [zO 5 [.ref 1, .ref 14, .ref 27, .ref 29, .null, .null, .null, .null, .int 0], zO 1 [.ref 2, .ref 3, .ref 4, .ref 5, .ref 6, .ref 7, .ref 8, .ref 9, .ref 10, .ref 11, .ref 12, .ref 13, .int 0], zI 0 120 (fun _ => 0), zI 0 120 (fun _ => 0), zI 0 120 (fun _ => 0), zI 0 120 (fun _ => 0), zI 0 120 (fun _ => 0), zI 0 120 (fun _ => 0), zI 0 120 (fun _ => 0), zI 0 120 (fun _ => 0), zI 0 120 (fun _ => 0), zI 0 120 (fun _ => 0), zI 0 120 (fun _ => 0), zI 0 120 (fun _ => 0), zO 1 [.ref 15, .ref 16, .ref 17, .ref 18, .ref 19, .ref 20, .ref 21, .ref 22, .ref 23, .ref 24, .ref 25, .ref 26, .int 0], zI 0 120 (fun _ => 0), zI 0 120 (fun _ => 0), zI 0 120 (fun _ => 0), zI 0 120 (fun _ => 0), zI 0 120 (fun _ => 0), zI 0 120 (fun _ => 0), zI 0 120 (fun _ => 0), zI 0 120 (fun _ => 0), zI 0 120 (fun _ => 0), zI 0 120 (fun _ => 0), zI 0 120 (fun _ => 0), zI 0 120 (fun _ => 0), zO 3 [.ref 28, .int 0, .int 0, .int 0], zI 0 80 (fun _ => 0), zO 3 [.ref 30, .int 0, .int 0, .int 0], zI 0 80 (fun _ => 0), zO 0 [.null, .int 0, .null, .int 0, .int 0, .int 0]] (fun r w' => r = none ∧ w' = [zO 5 [.ref 1, .ref 14, .ref 27, .ref 29, .null, .null, .null, .null, .int 0], zO 1 [.ref 2, .ref 3, .ref 4, .ref 5, .ref 6, .ref 7, .ref 8, .ref 9, .ref 10, .ref 11, .ref 12, .ref 13, .int 0], zI 0 120 (fun _ => 0), zI 0 120 (fun _ => 0), zI 0 120 (fun _ => 0), zI 0 120 (fun _ => 0), zI 0 120 (fun _ => 0), zI 0 120 (fun _ => 0), zI 0 120 (fun _ => 0), zI 0 120 (fun _ => 0), zI 0 120 (fun _ => 0), zI 0 120 (fun _ => 0), zI 0 120 (fun _ => 0), zI 0 120 (fun _ => 0), zO 1 [.ref 15, .ref 16, .ref 17, .ref 18, .ref 19, .ref 20, .ref 21, .ref 22, .ref 23, .ref 24, .ref 25, .ref 26, .int 0], zI 0 120 (fun _ => 0), zI 0 120 (fun _ => 0), zI 0 120 (fun _ => 0), zI 0 120 (fun _ => 0), zI 0 120 (fun _ => 0), zI 0 120 (fun _ => 0), zI 0 120 (fun _ => 0), zI 0 120 (fun _ => 0), zI 0 120 (fun _ => 0), zI 0 120 (fun _ => 0), zI 0 120 (fun _ => 0), zI 0 120 (fun _ => 0), zO 3 [.ref 28, .int 0, .int 0, .int 0], zI 0 80 (fun _ => 0), zO 3 [.ref 30, .int 0, .int 0, .int 0], zI 0 80 (fun _ => 0), zO 0 [.ref 32, .int 0, .ref 33, .int 0, .int 0, .int 0], zI 0 20 (fun _ => 0), zR 4 [some 34, some 35, some 36, some 37, some 38, some 39, some 40, some 41, some 42, some 43, some 44, some 45, some 46, some 47, some 48, some 49, some 50, some 51, some 52, some 53, some 54], zJ 21 (fun _ => 0), zJ 21 (fun _ => 0), zJ 21 (fun _ => 0), zJ 21 (fun _ => 0), zJ 21 (fun _ => 0), zJ 21 (fun _ => 0), zJ 21 (fun _ => 0), zJ 21 (fun _ => 0), zJ 21 (fun _ => 0), zJ 21 (fun _ => 0), zJ 21 (fun _ => 0), zJ 21 (fun _ => 0), zJ 21 (fun _ => 0), zJ 21 (fun _ => 0), zJ 21 (fun _ => 0), zJ 21 (fun _ => 0), zJ 21 (fun _ => 0), zJ 21 (fun _ => 0), zJ 21 (fun _ => 0), zJ 21 (fun _ => 0), zJ 21 (fun _ => 0)]) := by
  refine zK_of qX0_init (by decide +kernel) rfl ?_
  refine zv_step (bX0_init 1) rfl rfl trivial ?_
  refine zv_obj (bX0_init 1) zObj rfl rfl (by decide) ⟨by decide, by decide⟩ ?_
  repeat (first
    | refine zv_step (bX0_init 1) rfl rfl trivial ?_
    | refine zv_newI (bX0_init 1) rfl 0 20 (Or.inl ⟨rfl, rfl⟩) (by decide) (by decide) (by decide) zAI zAZ ⟨by decide, by decide, rfl, rfl, rfl⟩ (by decide) (by decide) ?_
    | refine zv_mna (bX0_init 1) rfl 21 21 (by decide) (by decide) (by decide) (by decide) (by decide) (by decide) zCl_RX0_19 zAJ ⟨by decide, by decide, rfl, rfl, rfl⟩ (by decide) (by decide) (by decide) ?_)
  exact zv_ret (bX0_init 1) rfl rfl (by decide) (by decide) ⟨rfl, rfl⟩
set_option maxHeartbeats 4000000 in
set_option maxRecDepth 100000 in
theorem i5 : zK 1 zX5_init [.ref 55] [zO 5 [.ref 1, .ref 14, .ref 27, .ref 29, .ref 31, .null, .null, .null, .int 0], zO 1 [.ref 2, .ref 3, .ref 4, .ref 5, .ref 6, .ref 7, .ref 8, .ref 9, .ref 10, .ref 11, .ref 12, .ref 13, .int 0], zI 0 120 (fun _ => 0), zI 0 120 (fun _ => 0), zI 0 120 (fun _ => 0), zI 0 120 (fun _ => 0), zI 0 120 (fun _ => 0), zI 0 120 (fun _ => 0), zI 0 120 (fun _ => 0), zI 0 120 (fun _ => 0), zI 0 120 (fun _ => 0), zI 0 120 (fun _ => 0), zI 0 120 (fun _ => 0), zI 0 120 (fun _ => 0), zO 1 [.ref 15, .ref 16, .ref 17, .ref 18, .ref 19, .ref 20, .ref 21, .ref 22, .ref 23, .ref 24, .ref 25, .ref 26, .int 0], zI 0 120 (fun _ => 0), zI 0 120 (fun _ => 0), zI 0 120 (fun _ => 0), zI 0 120 (fun _ => 0), zI 0 120 (fun _ => 0), zI 0 120 (fun _ => 0), zI 0 120 (fun _ => 0), zI 0 120 (fun _ => 0), zI 0 120 (fun _ => 0), zI 0 120 (fun _ => 0), zI 0 120 (fun _ => 0), zI 0 120 (fun _ => 0), zO 3 [.ref 28, .int 0, .int 0, .int 0], zI 0 80 (fun _ => 0), zO 3 [.ref 30, .int 0, .int 0, .int 0], zI 0 80 (fun _ => 0), zO 0 [.ref 32, .int 0, .ref 33, .int 0, .int 0, .int 0], zI 0 20 (fun _ => 0), zR 4 [some 34, some 35, some 36, some 37, some 38, some 39, some 40, some 41, some 42, some 43, some 44, some 45, some 46, some 47, some 48, some 49, some 50, some 51, some 52, some 53, some 54], zJ 21 (fun _ => 0), zJ 21 (fun _ => 0), zJ 21 (fun _ => 0), zJ 21 (fun _ => 0), zJ 21 (fun _ => 0), zJ 21 (fun _ => 0), zJ 21 (fun _ => 0), zJ 21 (fun _ => 0), zJ 21 (fun _ => 0), zJ 21 (fun _ => 0), zJ 21 (fun _ => 0), zJ 21 (fun _ => 0), zJ 21 (fun _ => 0), zJ 21 (fun _ => 0), zJ 21 (fun _ => 0), zJ 21 (fun _ => 0), zJ 21 (fun _ => 0), zJ 21 (fun _ => 0), zJ 21 (fun _ => 0), zJ 21 (fun _ => 0), zJ 21 (fun _ => 0), zO 4 [.null, .null, .int 0, .int 0]] (fun r w' => r = none ∧ w' = [zO 5 [.ref 1, .ref 14, .ref 27, .ref 29, .ref 31, .null, .null, .null, .int 0], zO 1 [.ref 2, .ref 3, .ref 4, .ref 5, .ref 6, .ref 7, .ref 8, .ref 9, .ref 10, .ref 11, .ref 12, .ref 13, .int 0], zI 0 120 (fun _ => 0), zI 0 120 (fun _ => 0), zI 0 120 (fun _ => 0), zI 0 120 (fun _ => 0), zI 0 120 (fun _ => 0), zI 0 120 (fun _ => 0), zI 0 120 (fun _ => 0), zI 0 120 (fun _ => 0), zI 0 120 (fun _ => 0), zI 0 120 (fun _ => 0), zI 0 120 (fun _ => 0), zI 0 120 (fun _ => 0), zO 1 [.ref 15, .ref 16, .ref 17, .ref 18, .ref 19, .ref 20, .ref 21, .ref 22, .ref 23, .ref 24, .ref 25, .ref 26, .int 0], zI 0 120 (fun _ => 0), zI 0 120 (fun _ => 0), zI 0 120 (fun _ => 0), zI 0 120 (fun _ => 0), zI 0 120 (fun _ => 0), zI 0 120 (fun _ => 0), zI 0 120 (fun _ => 0), zI 0 120 (fun _ => 0), zI 0 120 (fun _ => 0), zI 0 120 (fun _ => 0), zI 0 120 (fun _ => 0), zI 0 120 (fun _ => 0), zO 3 [.ref 28, .int 0, .int 0, .int 0], zI 0 80 (fun _ => 0), zO 3 [.ref 30, .int 0, .int 0, .int 0], zI 0 80 (fun _ => 0), zO 0 [.ref 32, .int 0, .ref 33, .int 0, .int 0, .int 0], zI 0 20 (fun _ => 0), zR 4 [some 34, some 35, some 36, some 37, some 38, some 39, some 40, some 41, some 42, some 43, some 44, some 45, some 46, some 47, some 48, some 49, some 50, some 51, some 52, some 53, some 54], zJ 21 (fun _ => 0), zJ 21 (fun _ => 0), zJ 21 (fun _ => 0), zJ 21 (fun _ => 0), zJ 21 (fun _ => 0), zJ 21 (fun _ => 0), zJ 21 (fun _ => 0), zJ 21 (fun _ => 0), zJ 21 (fun _ => 0), zJ 21 (fun _ => 0), zJ 21 (fun _ => 0), zJ 21 (fun _ => 0), zJ 21 (fun _ => 0), zJ 21 (fun _ => 0), zJ 21 (fun _ => 0), zJ 21 (fun _ => 0), zJ 21 (fun _ => 0), zJ 21 (fun _ => 0), zJ 21 (fun _ => 0), zJ 21 (fun _ => 0), zJ 21 (fun _ => 0), zO 4 [.ref 56, .ref 57, .int 0, .int 0], zI 0 40 (fun _ => 0), zI 0 40 (fun _ => 0)]) := by
  refine zK_of qX5_init (by decide +kernel) rfl ?_
  refine zv_step (bX5_init 1) rfl rfl trivial ?_
  refine zv_obj (bX5_init 1) zObj rfl rfl (by decide) ⟨by decide, by decide⟩ ?_
  repeat (first
    | refine zv_step (bX5_init 1) rfl rfl trivial ?_
    | refine zv_newI (bX5_init 1) rfl 0 40 (Or.inl ⟨rfl, rfl⟩) (by decide) (by decide) (by decide) zAI zAZ ⟨by decide, by decide, rfl, rfl, rfl⟩ (by decide) (by decide) ?_)
  exact zv_ret (bX5_init 1) rfl rfl (by decide) (by decide) ⟨rfl, rfl⟩
set_option maxHeartbeats 4000000 in
set_option maxRecDepth 100000 in
theorem i6 : zK 1 zX3_init [.ref 59] [zO 5 [.ref 1, .ref 14, .ref 27, .ref 29, .ref 31, .ref 55, .ref 58, .null, .int 0], zO 1 [.ref 2, .ref 3, .ref 4, .ref 5, .ref 6, .ref 7, .ref 8, .ref 9, .ref 10, .ref 11, .ref 12, .ref 13, .int 0], zI 0 120 (fun _ => 0), zI 0 120 (fun _ => 0), zI 0 120 (fun _ => 0), zI 0 120 (fun _ => 0), zI 0 120 (fun _ => 0), zI 0 120 (fun _ => 0), zI 0 120 (fun _ => 0), zI 0 120 (fun _ => 0), zI 0 120 (fun _ => 0), zI 0 120 (fun _ => 0), zI 0 120 (fun _ => 0), zI 0 120 (fun _ => 0), zO 1 [.ref 15, .ref 16, .ref 17, .ref 18, .ref 19, .ref 20, .ref 21, .ref 22, .ref 23, .ref 24, .ref 25, .ref 26, .int 0], zI 0 120 (fun _ => 0), zI 0 120 (fun _ => 0), zI 0 120 (fun _ => 0), zI 0 120 (fun _ => 0), zI 0 120 (fun _ => 0), zI 0 120 (fun _ => 0), zI 0 120 (fun _ => 0), zI 0 120 (fun _ => 0), zI 0 120 (fun _ => 0), zI 0 120 (fun _ => 0), zI 0 120 (fun _ => 0), zI 0 120 (fun _ => 0), zO 3 [.ref 28, .int 0, .int 0, .int 0], zI 0 80 (fun _ => 0), zO 3 [.ref 30, .int 0, .int 0, .int 0], zI 0 80 (fun _ => 0), zO 0 [.ref 32, .int 0, .ref 33, .int 0, .int 0, .int 0], zI 0 20 (fun _ => 0), zR 4 [some 34, some 35, some 36, some 37, some 38, some 39, some 40, some 41, some 42, some 43, some 44, some 45, some 46, some 47, some 48, some 49, some 50, some 51, some 52, some 53, some 54], zJ 21 (fun _ => 0), zJ 21 (fun _ => 0), zJ 21 (fun _ => 0), zJ 21 (fun _ => 0), zJ 21 (fun _ => 0), zJ 21 (fun _ => 0), zJ 21 (fun _ => 0), zJ 21 (fun _ => 0), zJ 21 (fun _ => 0), zJ 21 (fun _ => 0), zJ 21 (fun _ => 0), zJ 21 (fun _ => 0), zJ 21 (fun _ => 0), zJ 21 (fun _ => 0), zJ 21 (fun _ => 0), zJ 21 (fun _ => 0), zJ 21 (fun _ => 0), zJ 21 (fun _ => 0), zJ 21 (fun _ => 0), zJ 21 (fun _ => 0), zJ 21 (fun _ => 0), zO 4 [.ref 56, .ref 57, .int 0, .int 0], zI 0 40 (fun _ => 0), zI 0 40 (fun _ => 0), zR 3 [none, none, none, none, none, none, none, none], zO 2 [.int 0, .int 0, .int 0, .int 0, .null, .int 0]] (fun r w' => r = none ∧ w' = [zO 5 [.ref 1, .ref 14, .ref 27, .ref 29, .ref 31, .ref 55, .ref 58, .null, .int 0], zO 1 [.ref 2, .ref 3, .ref 4, .ref 5, .ref 6, .ref 7, .ref 8, .ref 9, .ref 10, .ref 11, .ref 12, .ref 13, .int 0], zI 0 120 (fun _ => 0), zI 0 120 (fun _ => 0), zI 0 120 (fun _ => 0), zI 0 120 (fun _ => 0), zI 0 120 (fun _ => 0), zI 0 120 (fun _ => 0), zI 0 120 (fun _ => 0), zI 0 120 (fun _ => 0), zI 0 120 (fun _ => 0), zI 0 120 (fun _ => 0), zI 0 120 (fun _ => 0), zI 0 120 (fun _ => 0), zO 1 [.ref 15, .ref 16, .ref 17, .ref 18, .ref 19, .ref 20, .ref 21, .ref 22, .ref 23, .ref 24, .ref 25, .ref 26, .int 0], zI 0 120 (fun _ => 0), zI 0 120 (fun _ => 0), zI 0 120 (fun _ => 0), zI 0 120 (fun _ => 0), zI 0 120 (fun _ => 0), zI 0 120 (fun _ => 0), zI 0 120 (fun _ => 0), zI 0 120 (fun _ => 0), zI 0 120 (fun _ => 0), zI 0 120 (fun _ => 0), zI 0 120 (fun _ => 0), zI 0 120 (fun _ => 0), zO 3 [.ref 28, .int 0, .int 0, .int 0], zI 0 80 (fun _ => 0), zO 3 [.ref 30, .int 0, .int 0, .int 0], zI 0 80 (fun _ => 0), zO 0 [.ref 32, .int 0, .ref 33, .int 0, .int 0, .int 0], zI 0 20 (fun _ => 0), zR 4 [some 34, some 35, some 36, some 37, some 38, some 39, some 40, some 41, some 42, some 43, some 44, some 45, some 46, some 47, some 48, some 49, some 50, some 51, some 52, some 53, some 54], zJ 21 (fun _ => 0), zJ 21 (fun _ => 0), zJ 21 (fun _ => 0), zJ 21 (fun _ => 0), zJ 21 (fun _ => 0), zJ 21 (fun _ => 0), zJ 21 (fun _ => 0), zJ 21 (fun _ => 0), zJ 21 (fun _ => 0), zJ 21 (fun _ => 0), zJ 21 (fun _ => 0), zJ 21 (fun _ => 0), zJ 21 (fun _ => 0), zJ 21 (fun _ => 0), zJ 21 (fun _ => 0), zJ 21 (fun _ => 0), zJ 21 (fun _ => 0), zJ 21 (fun _ => 0), zJ 21 (fun _ => 0), zJ 21 (fun _ => 0), zJ 21 (fun _ => 0), zO 4 [.ref 56, .ref 57, .int 0, .int 0], zI 0 40 (fun _ => 0), zI 0 40 (fun _ => 0), zR 3 [none, none, none, none, none, none, none, none], zO 2 [.int 0, .int (-1), .int 0, .int 0, .ref 60, .int 0], zI 0 60 (fun _ => 0)]) := by
  refine zK_of qX3_init (by decide +kernel) rfl ?_
  refine zv_step (bX3_init 1) rfl rfl trivial ?_
  refine zv_obj (bX3_init 1) zObj rfl rfl (by decide) ⟨by decide, by decide⟩ ?_
  repeat (first
    | refine zv_step (bX3_init 1) rfl rfl trivial ?_
    | refine zv_newI (bX3_init 1) rfl 0 60 (Or.inl ⟨rfl, rfl⟩) (by decide) (by decide) (by decide) zAI zAZ ⟨by decide, by decide, rfl, rfl, rfl⟩ (by decide) (by decide) ?_)
  exact zv_ret (bX3_init 1) rfl rfl (by decide) (by decide) ⟨rfl, rfl⟩
set_option maxHeartbeats 4000000 in
set_option maxRecDepth 100000 in
theorem i7 : zK 1 zX3_init [.ref 61] [zO 5 [.ref 1, .ref 14, .ref 27, .ref 29, .ref 31, .ref 55, .ref 58, .null, .int 0], zO 1 [.ref 2, .ref 3, .ref 4, .ref 5, .ref 6, .ref 7, .ref 8, .ref 9, .ref 10, .ref 11, .ref 12, .ref 13, .int 0], zI 0 120 (fun _ => 0), zI 0 120 (fun _ => 0), zI 0 120 (fun _ => 0), zI 0 120 (fun _ => 0), zI 0 120 (fun _ => 0), zI 0 120 (fun _ => 0), zI 0 120 (fun _ => 0), zI 0 120 (fun _ => 0), zI 0 120 (fun _ => 0), zI 0 120 (fun _ => 0), zI 0 120 (fun _ => 0), zI 0 120 (fun _ => 0), zO 1 [.ref 15, .ref 16, .ref 17, .ref 18, .ref 19, .ref 20, .ref 21, .ref 22, .ref 23, .ref 24, .ref 25, .ref 26, .int 0], zI 0 120 (fun _ => 0), zI 0 120 (fun _ => 0), zI 0 120 (fun _ => 0), zI 0 120 (fun _ => 0), zI 0 120 (fun _ => 0), zI 0 120 (fun _ => 0), zI 0 120 (fun _ => 0), zI 0 120 (fun _ => 0), zI 0 120 (fun _ => 0), zI 0 120 (fun _ => 0), zI 0 120 (fun _ => 0), zI 0 120 (fun _ => 0), zO 3 [.ref 28, .int 0, .int 0, .int 0], zI 0 80 (fun _ => 0), zO 3 [.ref 30, .int 0, .int 0, .int 0], zI 0 80 (fun _ => 0), zO 0 [.ref 32, .int 0, .ref 33, .int 0, .int 0, .int 0], zI 0 20 (fun _ => 0), zR 4 [some 34, some 35, some 36, some 37, some 38, some 39, some 40, some 41, some 42, some 43, some 44, some 45, some 46, some 47, some 48, some 49, some 50, some 51, some 52, some 53, some 54], zJ 21 (fun _ => 0), zJ 21 (fun _ => 0), zJ 21 (fun _ => 0), zJ 21 (fun _ => 0), zJ 21 (fun _ => 0), zJ 21 (fun _ => 0), zJ 21 (fun _ => 0), zJ 21 (fun _ => 0), zJ 21 (fun _ => 0), zJ 21 (fun _ => 0), zJ 21 (fun _ => 0), zJ 21 (fun _ => 0), zJ 21 (fun _ => 0), zJ 21 (fun _ => 0), zJ 21 (fun _ => 0), zJ 21 (fun _ => 0), zJ 21 (fun _ => 0), zJ 21 (fun _ => 0), zJ 21 (fun _ => 0), zJ 21 (fun _ => 0), zJ 21 (fun _ => 0), zO 4 [.ref 56, .ref 57, .int 0, .int 0], zI 0 40 (fun _ => 0), zI 0 40 (fun _ => 0), zR 3 [some 59, none, none, none, none, none, none, none], zO 2 [.int 0, .int (-1), .int 0, .int 0, .ref 60, .int 0], zI 0 60 (fun _ => 0), zO 2 [.int 0, .int 0, .int 0, .int 0, .null, .int 0]] (fun r w' => r = none ∧ w' = [zO 5 [.ref 1, .ref 14, .ref 27, .ref 29, .ref 31, .ref 55, .ref 58, .null, .int 0], zO 1 [.ref 2, .ref 3, .ref 4, .ref 5, .ref 6, .ref 7, .ref 8, .ref 9, .ref 10, .ref 11, .ref 12, .ref 13, .int 0], zI 0 120 (fun _ => 0), zI 0 120 (fun _ => 0), zI 0 120 (fun _ => 0), zI 0 120 (fun _ => 0), zI 0 120 (fun _ => 0), zI 0 120 (fun _ => 0), zI 0 120 (fun _ => 0), zI 0 120 (fun _ => 0), zI 0 120 (fun _ => 0), zI 0 120 (fun _ => 0), zI 0 120 (fun _ => 0), zI 0 120 (fun _ => 0), zO 1 [.ref 15, .ref 16, .ref 17, .ref 18, .ref 19, .ref 20, .ref 21, .ref 22, .ref 23, .ref 24, .ref 25, .ref 26, .int 0], zI 0 120 (fun _ => 0), zI 0 120 (fun _ => 0), zI 0 120 (fun _ => 0), zI 0 120 (fun _ => 0), zI 0 120 (fun _ => 0), zI 0 120 (fun _ => 0), zI 0 120 (fun _ => 0), zI 0 120 (fun _ => 0), zI 0 120 (fun _ => 0), zI 0 120 (fun _ => 0), zI 0 120 (fun _ => 0), zI 0 120 (fun _ => 0), zO 3 [.ref 28, .int 0, .int 0, .int 0], zI 0 80 (fun _ => 0), zO 3 [.ref 30, .int 0, .int 0, .int 0], zI 0 80 (fun _ => 0), zO 0 [.ref 32, .int 0, .ref 33, .int 0, .int 0, .int 0], zI 0 20 (fun _ => 0), zR 4 [some 34, some 35, some 36, some 37, some 38, some 39, some 40, some 41, some 42, some 43, some 44, some 45, some 46, some 47, some 48, some 49, some 50, some 51, some 52, some 53, some 54], zJ 21 (fun _ => 0), zJ 21 (fun _ => 0), zJ 21 (fun _ => 0), zJ 21 (fun _ => 0), zJ 21 (fun _ => 0), zJ 21 (fun _ => 0), zJ 21 (fun _ => 0), zJ 21 (fun _ => 0), zJ 21 (fun _ => 0), zJ 21 (fun _ => 0), zJ 21 (fun _ => 0), zJ 21 (fun _ => 0), zJ 21 (fun _ => 0), zJ 21 (fun _ => 0), zJ 21 (fun _ => 0), zJ 21 (fun _ => 0), zJ 21 (fun _ => 0), zJ 21 (fun _ => 0), zJ 21 (fun _ => 0), zJ 21 (fun _ => 0), zJ 21 (fun _ => 0), zO 4 [.ref 56, .ref 57, .int 0, .int 0], zI 0 40 (fun _ => 0), zI 0 40 (fun _ => 0), zR 3 [some 59, none, none, none, none, none, none, none], zO 2 [.int 0, .int (-1), .int 0, .int 0, .ref 60, .int 0], zI 0 60 (fun _ => 0), zO 2 [.int 0, .int (-1), .int 0, .int 0, .ref 62, .int 0], zI 0 60 (fun _ => 0)]) := by
  refine zK_of qX3_init (by decide +kernel) rfl ?_
  refine zv_step (bX3_init 1) rfl rfl trivial ?_
  refine zv_obj (bX3_init 1) zObj rfl rfl (by decide) ⟨by decide, by decide⟩ ?_
  repeat (first
    | refine zv_step (bX3_init 1) rfl rfl trivial ?_
    | refine zv_newI (bX3_init 1) rfl 0 60 (Or.inl ⟨rfl, rfl⟩) (by decide) (by decide) (by decide) zAI zAZ ⟨by decide, by decide, rfl, rfl, rfl⟩ (by decide) (by decide) ?_)
  exact zv_ret (bX3_init 1) rfl rfl (by decide) (by decide) ⟨rfl, rfl⟩
set_option maxHeartbeats 4000000 in
set_option maxRecDepth 100000 in
theorem i8 : zK 1 zX3_init [.ref 63] [zO 5 [.ref 1, .ref 14, .ref 27, .ref 29, .ref 31, .ref 55, .ref 58, .null, .int 0], zO 1 [.ref 2, .ref 3, .ref 4, .ref 5, .ref 6, .ref 7, .ref 8, .ref 9, .ref 10, .ref 11, .ref 12, .ref 13, .int 0], zI 0 120 (fun _ => 0), zI 0 120 (fun _ => 0), zI 0 120 (fun _ => 0), zI 0 120 (fun _ => 0), zI 0 120 (fun _ => 0), zI 0 120 (fun _ => 0), zI 0 120 (fun _ => 0), zI 0 120 (fun _ => 0), zI 0 120 (fun _ => 0), zI 0 120 (fun _ => 0), zI 0 120 (fun _ => 0), zI 0 120 (fun _ => 0), zO 1 [.ref 15, .ref 16, .ref 17, .ref 18, .ref 19, .ref 20, .ref 21, .ref 22, .ref 23, .ref 24, .ref 25, .ref 26, .int 0], zI 0 120 (fun _ => 0), zI 0 120 (fun _ => 0), zI 0 120 (fun _ => 0), zI 0 120 (fun _ => 0), zI 0 120 (fun _ => 0), zI 0 120 (fun _ => 0), zI 0 120 (fun _ => 0), zI 0 120 (fun _ => 0), zI 0 120 (fun _ => 0), zI 0 120 (fun _ => 0), zI 0 120 (fun _ => 0), zI 0 120 (fun _ => 0), zO 3 [.ref 28, .int 0, .int 0, .int 0], zI 0 80 (fun _ => 0), zO 3 [.ref 30, .int 0, .int 0, .int 0], zI 0 80 (fun _ => 0), zO 0 [.ref 32, .int 0, .ref 33, .int 0, .int 0, .int 0], zI 0 20 (fun _ => 0), zR 4 [some 34, some 35, some 36, some 37, some 38, some 39, some 40, some 41, some 42, some 43, some 44, some 45, some 46, some 47, some 48, some 49, some 50, some 51, some 52, some 53, some 54], zJ 21 (fun _ => 0), zJ 21 (fun _ => 0), zJ 21 (fun _ => 0), zJ 21 (fun _ => 0), zJ 21 (fun _ => 0), zJ 21 (fun _ => 0), zJ 21 (fun _ => 0), zJ 21 (fun _ => 0), zJ 21 (fun _ => 0), zJ 21 (fun _ => 0), zJ 21 (fun _ => 0), zJ 21 (fun _ => 0), zJ 21 (fun _ => 0), zJ 21 (fun _ => 0), zJ 21 (fun _ => 0), zJ 21 (fun _ => 0), zJ 21 (fun _ => 0), zJ 21 (fun _ => 0), zJ 21 (fun _ => 0), zJ 21 (fun _ => 0), zJ 21 (fun _ => 0), zO 4 [.ref 56, .ref 57, .int 0, .int 0], zI 0 40 (fun _ => 0), zI 0 40 (fun _ => 0), zR 3 [some 59, some 61, none, none, none, none, none, none], zO 2 [.int 0, .int (-1), .int 0, .int 0, .ref 60, .int 0], zI 0 60 (fun _ => 0), zO 2 [.int 0, .int (-1), .int 0, .int 0, .ref 62, .int 0], zI 0 60 (fun _ => 0), zO 2 [.int 0, .int 0, .int 0, .int 0, .null, .int 0]] (fun r w' => r = none ∧ w' = [zO 5 [.ref 1, .ref 14, .ref 27, .ref 29, .ref 31, .ref 55, .ref 58, .null, .int 0], zO 1 [.ref 2, .ref 3, .ref 4, .ref 5, .ref 6, .ref 7, .ref 8, .ref 9, .ref 10, .ref 11, .ref 12, .ref 13, .int 0], zI 0 120 (fun _ => 0), zI 0 120 (fun _ => 0), zI 0 120 (fun _ => 0), zI 0 120 (fun _ => 0), zI 0 120 (fun _ => 0), zI 0 120 (fun _ => 0), zI 0 120 (fun _ => 0), zI 0 120 (fun _ => 0), zI 0 120 (fun _ => 0), zI 0 120 (fun _ => 0), zI 0 120 (fun _ => 0), zI 0 120 (fun _ => 0), zO 1 [.ref 15, .ref 16, .ref 17, .ref 18, .ref 19, .ref 20, .ref 21, .ref 22, .ref 23, .ref 24, .ref 25, .ref 26, .int 0], zI 0 120 (fun _ => 0), zI 0 120 (fun _ => 0), zI 0 120 (fun _ => 0), zI 0 120 (fun _ => 0), zI 0 120 (fun _ => 0), zI 0 120 (fun _ => 0), zI 0 120 (fun _ => 0), zI 0 120 (fun _ => 0), zI 0 120 (fun _ => 0), zI 0 120 (fun _ => 0), zI 0 120 (fun _ => 0), zI 0 120 (fun _ => 0), zO 3 [.ref 28, .int 0, .int 0, .int 0], zI 0 80 (fun _ => 0), zO 3 [.ref 30, .int 0, .int 0, .int 0], zI 0 80 (fun _ => 0), zO 0 [.ref 32, .int 0, .ref 33, .int 0, .int 0, .int 0], zI 0 20 (fun _ => 0), zR 4 [some 34, some 35, some 36, some 37, some 38, some 39, some 40, some 41, some 42, some 43, some 44, some 45, some 46, some 47, some 48, some 49, some 50, some 51, some 52, some 53, some 54], zJ 21 (fun _ => 0), zJ 21 (fun _ => 0), zJ 21 (fun _ => 0), zJ 21 (fun _ => 0), zJ 21 (fun _ => 0), zJ 21 (fun _ => 0), zJ 21 (fun _ => 0), zJ 21 (fun _ => 0), zJ 21 (fun _ => 0), zJ 21 (fun _ => 0), zJ 21 (fun _ => 0), zJ 21 (fun _ => 0), zJ 21 (fun _ => 0), zJ 21 (fun _ => 0), zJ 21 (fun _ => 0), zJ 21 (fun _ => 0), zJ 21 (fun _ => 0), zJ 21 (fun _ => 0), zJ 21 (fun _ => 0), zJ 21 (fun _ => 0), zJ 21 (fun _ => 0), zO 4 [.ref 56, .ref 57, .int 0, .int 0], zI 0 40 (fun _ => 0), zI 0 40 (fun _ => 0), zR 3 [some 59, some 61, none, none, none, none, none, none], zO 2 [.int 0, .int (-1), .int 0, .int 0, .ref 60, .int 0], zI 0 60 (fun _ => 0), zO 2 [.int 0, .int (-1), .int 0, .int 0, .ref 62, .int 0], zI 0 60 (fun _ => 0), zO 2 [.int 0, .int (-1), .int 0, .int 0, .ref 64, .int 0], zI 0 60 (fun _ => 0)]) := by
  refine zK_of qX3_init (by decide +kernel) rfl ?_
  refine zv_step (bX3_init 1) rfl rfl trivial ?_
  refine zv_obj (bX3_init 1) zObj rfl rfl (by decide) ⟨by decide, by decide⟩ ?_
  repeat (first
    | refine zv_step (bX3_init 1) rfl rfl trivial ?_
    | refine zv_newI (bX3_init 1) rfl 0 60 (Or.inl ⟨rfl, rfl⟩) (by decide) (by decide) (by decide) zAI zAZ ⟨by decide, by decide, rfl, rfl, rfl⟩ (by decide) (by decide) ?_)
  exact zv_ret (bX3_init 1) rfl rfl (by decide) (by decide) ⟨rfl, rfl⟩
set_option maxHeartbeats 4000000 in
set_option maxRecDepth 100000 in
theorem i9 : zK 1 zX3_init [.ref 65] [zO 5 [.ref 1, .ref 14, .ref 27, .ref 29, .ref 31, .ref 55, .ref 58, .null, .int 0], zO 1 [.ref 2, .ref 3, .ref 4, .ref 5, .ref 6, .ref 7, .ref 8, .ref 9, .ref 10, .ref 11, .ref 12, .ref 13, .int 0], zI 0 120 (fun _ => 0), zI 0 120 (fun _ => 0), zI 0 120 (fun _ => 0), zI 0 120 (fun _ => 0), zI 0 120 (fun _ => 0), zI 0 120 (fun _ => 0), zI 0 120 (fun _ => 0), zI 0 120 (fun _ => 0), zI 0 120 (fun _ => 0), zI 0 120 (fun _ => 0), zI 0 120 (fun _ => 0), zI 0 120 (fun _ => 0), zO 1 [.ref 15, .ref 16, .ref 17, .ref 18, .ref 19, .ref 20, .ref 21, .ref 22, .ref 23, .ref 24, .ref 25, .ref 26, .int 0], zI 0 120 (fun _ => 0), zI 0 120 (fun _ => 0), zI 0 120 (fun _ => 0), zI 0 120 (fun _ => 0), zI 0 120 (fun _ => 0), zI 0 120 (fun _ => 0), zI 0 120 (fun _ => 0), zI 0 120 (fun _ => 0), zI 0 120 (fun _ => 0), zI 0 120 (fun _ => 0), zI 0 120 (fun _ => 0), zI 0 120 (fun _ => 0), zO 3 [.ref 28, .int 0, .int 0, .int 0], zI 0 80 (fun _ => 0), zO 3 [.ref 30, .int 0, .int 0, .int 0], zI 0 80 (fun _ => 0), zO 0 [.ref 32, .int 0, .ref 33, .int 0, .int 0, .int 0], zI 0 20 (fun _ => 0), zR 4 [some 34, some 35, some 36, some 37, some 38, some 39, some 40, some 41, some 42, some 43, some 44, some 45, some 46, some 47, some 48, some 49, some 50, some 51, some 52, some 53, some 54], zJ 21 (fun _ => 0), zJ 21 (fun _ => 0), zJ 21 (fun _ => 0), zJ 21 (fun _ => 0), zJ 21 (fun _ => 0), zJ 21 (fun _ => 0), zJ 21 (fun _ => 0), zJ 21 (fun _ => 0), zJ 21 (fun _ => 0), zJ 21 (fun _ => 0), zJ 21 (fun _ => 0), zJ 21 (fun _ => 0), zJ 21 (fun _ => 0), zJ 21 (fun _ => 0), zJ 21 (fun _ => 0), zJ 21 (fun _ => 0), zJ 21 (fun _ => 0), zJ 21 (fun _ => 0), zJ 21 (fun _ => 0), zJ 21 (fun _ => 0), zJ 21 (fun _ => 0), zO 4 [.ref 56, .ref 57, .int 0, .int 0], zI 0 40 (fun _ => 0), zI 0 40 (fun _ => 0), zR 3 [some 59, some 61, some 63, none, none, none, none, none], zO 2 [.int 0, .int (-1), .int 0, .int 0, .ref 60, .int 0], zI 0 60 (fun _ => 0), zO 2 [.int 0, .int (-1), .int 0, .int 0, .ref 62, .int 0], zI 0 60 (fun _ => 0), zO 2 [.int 0, .int (-1), .int 0, .int 0, .ref 64, .int 0], zI 0 60 (fun _ => 0), zO 2 [.int 0, .int 0, .int 0, .int 0, .null, .int 0]] (fun r w' => r = none ∧ w' = [zO 5 [.ref 1, .ref 14, .ref 27, .ref 29, .ref 31, .ref 55, .ref 58, .null, .int 0], zO 1 [.ref 2, .ref 3, .ref 4, .ref 5, .ref 6, .ref 7, .ref 8, .ref 9, .ref 10, .ref 11, .ref 12, .ref 13, .int 0], zI 0 120 (fun _ => 0), zI 0 120 (fun _ => 0), zI 0 120 (fun _ => 0), zI 0 120 (fun _ => 0), zI 0 120 (fun _ => 0), zI 0 120 (fun _ => 0), zI 0 120 (fun _ => 0), zI 0 120 (fun _ => 0), zI 0 120 (fun _ => 0), zI 0 120 (fun _ => 0), zI 0 120 (fun _ => 0), zI 0 120 (fun _ => 0), zO 1 [.ref 15, .ref 16, .ref 17, .ref 18, .ref 19, .ref 20, .ref 21, .ref 22, .ref 23, .ref 24, .ref 25, .ref 26, .int 0], zI 0 120 (fun _ => 0), zI 0 120 (fun _ => 0), zI 0 120 (fun _ => 0), zI 0 120 (fun _ => 0), zI 0 120 (fun _ => 0), zI 0 120 (fun _ => 0), zI 0 120 (fun _ => 0), zI 0 120 (fun _ => 0), zI 0 120 (fun _ => 0), zI 0 120 (fun _ => 0), zI 0 120 (fun _ => 0), zI 0 120 (fun _ => 0), zO 3 [.ref 28, .int 0, .int 0, .int 0], zI 0 80 (fun _ => 0), zO 3 [.ref 30, .int 0, .int 0, .int 0], zI 0 80 (fun _ => 0), zO 0 [.ref 32, .int 0, .ref 33, .int 0, .int 0, .int 0], zI 0 20 (fun _ => 0), zR 4 [some 34, some 35, some 36, some 37, some 38, some 39, some 40, some 41, some 42, some 43, some 44, some 45, some 46, some 47, some 48, some 49, some 50, some 51, some 52, some 53, some 54], zJ 21 (fun _ => 0), zJ 21 (fun _ => 0), zJ 21 (fun _ => 0), zJ 21 (fun _ => 0), zJ 21 (fun _ => 0), zJ 21 (fun _ => 0), zJ 21 (fun _ => 0), zJ 21 (fun _ => 0), zJ 21 (fun _ => 0), zJ 21 (fun _ => 0), zJ 21 (fun _ => 0), zJ 21 (fun _ => 0), zJ 21 (fun _ => 0), zJ 21 (fun _ => 0), zJ 21 (fun _ => 0), zJ 21 (fun _ => 0), zJ 21 (fun _ => 0), zJ 21 (fun _ => 0), zJ 21 (fun _ => 0), zJ 21 (fun _ => 0), zJ 21 (fun _ => 0), zO 4 [.ref 56, .ref 57, .int 0, .int 0], zI 0 40 (fun _ => 0), zI 0 40 (fun _ => 0), zR 3 [some 59, some 61, some 63, none, none, none, none, none], zO 2 [.int 0, .int (-1), .int 0, .int 0, .ref 60, .int 0], zI 0 60 (fun _ => 0), zO 2 [.int 0, .int (-1), .int 0, .int 0, .ref 62, .int 0], zI 0 60 (fun _ => 0), zO 2 [.int 0, .int (-1), .int 0, .int 0, .ref 64, .int 0], zI 0 60 (fun _ => 0), zO 2 [.int 0, .int (-1), .int 0, .int 0, .ref 66, .int 0], zI 0 60 (fun _ => 0)]) := by
  refine zK_of qX3_init (by decide +kernel) rfl ?_
  refine zv_step (bX3_init 1) rfl rfl trivial ?_
  refine zv_obj (bX3_init 1) zObj rfl rfl (by decide) ⟨by decide, by decide⟩ ?_
  repeat (first
    | refine zv_step (bX3_init 1) rfl rfl trivial ?_
    | refine zv_newI (bX3_init 1) rfl 0 60 (Or.inl ⟨rfl, rfl⟩) (by decide) (by decide) (by decide) zAI zAZ ⟨by decide, by decide, rfl, rfl, rfl⟩ (by decide) (by decide) ?_)
  exact zv_ret (bX3_init 1) rfl rfl (by decide) (by decide) ⟨rfl, rfl⟩
set_option maxHeartbeats 4000000 in
set_option maxRecDepth 100000 in
theorem i10 : zK 1 zX3_init [.ref 67] [zO 5 [.ref 1, .ref 14, .ref 27, .ref 29, .ref 31, .ref 55, .ref 58, .null, .int 0], zO 1 [.ref 2, .ref 3, .ref 4, .ref 5, .ref 6, .ref 7, .ref 8, .ref 9, .ref 10, .ref 11, .ref 12, .ref 13, .int 0], zI 0 120 (fun _ => 0), zI 0 120 (fun _ => 0), zI 0 120 (fun _ => 0), zI 0 120 (fun _ => 0), zI 0 120 (fun _ => 0), zI 0 120 (fun _ => 0), zI 0 120 (fun _ => 0), zI 0 120 (fun _ => 0), zI 0 120 (fun _ => 0), zI 0 120 (fun _ => 0), zI 0 120 (fun _ => 0), zI 0 120 (fun _ => 0), zO 1 [.ref 15, .ref 16, .ref 17, .ref 18, .ref 19, .ref 20, .ref 21, .ref 22, .ref 23, .ref 24, .ref 25, .ref 26, .int 0], zI 0 120 (fun _ => 0), zI 0 120 (fun _ => 0), zI 0 120 (fun _ => 0), zI 0 120 (fun _ => 0), zI 0 120 (fun _ => 0), zI 0 120 (fun _ => 0), zI 0 120 (fun _ => 0), zI 0 120 (fun _ => 0), zI 0 120 (fun _ => 0), zI 0 120 (fun _ => 0), zI 0 120 (fun _ => 0), zI 0 120 (fun _ => 0), zO 3 [.ref 28, .int 0, .int 0, .int 0], zI 0 80 (fun _ => 0), zO 3 [.ref 30, .int 0, .int 0, .int 0], zI 0 80 (fun _ => 0), zO 0 [.ref 32, .int 0, .ref 33, .int 0, .int 0, .int 0], zI 0 20 (fun _ => 0), zR 4 [some 34, some 35, some 36, some 37, some 38, some 39, some 40, some 41, some 42, some 43, some 44, some 45, some 46, some 47, some 48, some 49, some 50, some 51, some 52, some 53, some 54], zJ 21 (fun _ => 0), zJ 21 (fun _ => 0), zJ 21 (fun _ => 0), zJ 21 (fun _ => 0), zJ 21 (fun _ => 0), zJ 21 (fun _ => 0), zJ 21 (fun _ => 0), zJ 21 (fun _ => 0), zJ 21 (fun _ => 0), zJ 21 (fun _ => 0), zJ 21 (fun _ => 0), zJ 21 (fun _ => 0), zJ 21 (fun _ => 0), zJ 21 (fun _ => 0), zJ 21 (fun _ => 0), zJ 21 (fun _ => 0), zJ 21 (fun _ => 0), zJ 21 (fun _ => 0), zJ 21 (fun _ => 0), zJ 21 (fun _ => 0), zJ 21 (fun _ => 0), zO 4 [.ref 56, .ref 57, .int 0, .int 0], zI 0 40 (fun _ => 0), zI 0 40 (fun _ => 0), zR 3 [some 59, some 61, some 63, some 65, none, none, none, none], zO 2 [.int 0, .int (-1), .int 0, .int 0, .ref 60, .int 0], zI 0 60 (fun _ => 0), zO 2 [.int 0, .int (-1), .int 0, .int 0, .ref 62, .int 0], zI 0 60 (fun _ => 0), zO 2 [.int 0, .int (-1), .int 0, .int 0, .ref 64, .int 0], zI 0 60 (fun _ => 0), zO 2 [.int 0, .int (-1), .int 0, .int 0, .ref 66, .int 0], zI 0 60 (fun _ => 0), zO 2 [.int 0, .int 0, .int 0, .int 0, .null, .int 0]] (fun r w' => r = none ∧ w' = [zO 5 [.ref 1, .ref 14, .ref 27, .ref 29, .ref 31, .ref 55, .ref 58, .null, .int 0], zO 1 [.ref 2, .ref 3, .ref 4, .ref 5, .ref 6, .ref 7, .ref 8, .ref 9, .ref 10, .ref 11, .ref 12, .ref 13, .int 0], zI 0 120 (fun _ => 0), zI 0 120 (fun _ => 0), zI 0 120 (fun _ => 0), zI 0 120 (fun _ => 0), zI 0 120 (fun _ => 0), zI 0 120 (fun _ => 0), zI 0 120 (fun _ => 0), zI 0 120 (fun _ => 0), zI 0 120 (fun _ => 0), zI 0 120 (fun _ => 0), zI 0 120 (fun _ => 0), zI 0 120 (fun _ => 0), zO 1 [.ref 15, .ref 16, .ref 17, .ref 18, .ref 19, .ref 20, .ref 21, .ref 22, .ref 23, .ref 24, .ref 25, .ref 26, .int 0], zI 0 120 (fun _ => 0), zI 0 120 (fun _ => 0), zI 0 120 (fun _ => 0), zI 0 120 (fun _ => 0), zI 0 120 (fun _ => 0), zI 0 120 (fun _ => 0), zI 0 120 (fun _ => 0), zI 0 120 (fun _ => 0), zI 0 120 (fun _ => 0), zI 0 120 (fun _ => 0), zI 0 120 (fun _ => 0), zI 0 120 (fun _ => 0), zO 3 [.ref 28, .int 0, .int 0, .int 0], zI 0 80 (fun _ => 0), zO 3 [.ref 30, .int 0, .int 0, .int 0], zI 0 80 (fun _ => 0), zO 0 [.ref 32, .int 0, .ref 33, .int 0, .int 0, .int 0], zI 0 20 (fun _ => 0), zR 4 [some 34, some 35, some 36, some 37, some 38, some 39, some 40, some 41, some 42, some 43, some 44, some 45, some 46, some 47, some 48, some 49, some 50, some 51, some 52, some 53, some 54], zJ 21 (fun _ => 0), zJ 21 (fun _ => 0), zJ 21 (fun _ => 0), zJ 21 (fun _ => 0), zJ 21 (fun _ => 0), zJ 21 (fun _ => 0), zJ 21 (fun _ => 0), zJ 21 (fun _ => 0), zJ 21 (fun _ => 0), zJ 21 (fun _ => 0), zJ 21 (fun _ => 0), zJ 21 (fun _ => 0), zJ 21 (fun _ => 0), zJ 21 (fun _ => 0), zJ 21 (fun _ => 0), zJ 21 (fun _ => 0), zJ 21 (fun _ => 0), zJ 21 (fun _ => 0), zJ 21 (fun _ => 0), zJ 21 (fun _ => 0), zJ 21 (fun _ => 0), zO 4 [.ref 56, .ref 57, .int 0, .int 0], zI 0 40 (fun _ => 0), zI 0 40 (fun _ => 0), zR 3 [some 59, some 61, some 63, some 65, none, none, none, none], zO 2 [.int 0, .int (-1), .int 0, .int 0, .ref 60, .int 0], zI 0 60 (fun _ => 0), zO 2 [.int 0, .int (-1), .int 0, .int 0, .ref 62, .int 0], zI 0 60 (fun _ => 0), zO 2 [.int 0, .int (-1), .int 0, .int 0, .ref 64, .int 0], zI 0 60 (fun _ => 0), zO 2 [.int 0, .int (-1), .int 0, .int 0, .ref 66, .int 0], zI 0 60 (fun _ => 0), zO 2 [.int 0, .int (-1), .int 0, .int 0, .ref 68, .int 0], zI 0 60 (fun _ => 0)]) := by
  refine zK_of qX3_init (by decide +kernel) rfl ?_
  refine zv_step (bX3_init 1) rfl rfl trivial ?_
  refine zv_obj (bX3_init 1) zObj rfl rfl (by decide) ⟨by decide, by decide⟩ ?_
  repeat (first
    | refine zv_step (bX3_init 1) rfl rfl trivial ?_
    | refine zv_newI (bX3_init 1) rfl 0 60 (Or.inl ⟨rfl, rfl⟩) (by decide) (by decide) (by decide) zAI zAZ ⟨by decide, by decide, rfl, rfl, rfl⟩ (by decide) (by decide) ?_)
  exact zv_ret (bX3_init 1) rfl rfl (by decide) (by decide) ⟨rfl, rfl⟩
set_option maxHeartbeats 4000000 in
set_option maxRecDepth 100000 in
theorem i11 : zK 1 zX3_init [.ref 69] [zO 5 [.ref 1, .ref 14, .ref 27, .ref 29, .ref 31, .ref 55, .ref 58, .null, .int 0], zO 1 [.ref 2, .ref 3, .ref 4, .ref 5, .ref 6, .ref 7, .ref 8, .ref 9, .ref 10, .ref 11, .ref 12, .ref 13, .int 0], zI 0 120 (fun _ => 0), zI 0 120 (fun _ => 0), zI 0 120 (fun _ => 0), zI 0 120 (fun _ => 0), zI 0 120 (fun _ => 0), zI 0 120 (fun _ => 0), zI 0 120 (fun _ => 0), zI 0 120 (fun _ => 0), zI 0 120 (fun _ => 0), zI 0 120 (fun _ => 0), zI 0 120 (fun _ => 0), zI 0 120 (fun _ => 0), zO 1 [.ref 15, .ref 16, .ref 17, .ref 18, .ref 19, .ref 20, .ref 21, .ref 22, .ref 23, .ref 24, .ref 25, .ref 26, .int 0], zI 0 120 (fun _ => 0), zI 0 120 (fun _ => 0), zI 0 120 (fun _ => 0), zI 0 120 (fun _ => 0), zI 0 120 (fun _ => 0), zI 0 120 (fun _ => 0), zI 0 120 (fun _ => 0), zI 0 120 (fun _ => 0), zI 0 120 (fun _ => 0), zI 0 120 (fun _ => 0), zI 0 120 (fun _ => 0), zI 0 120 (fun _ => 0), zO 3 [.ref 28, .int 0, .int 0, .int 0], zI 0 80 (fun _ => 0), zO 3 [.ref 30, .int 0, .int 0, .int 0], zI 0 80 (fun _ => 0), zO 0 [.ref 32, .int 0, .ref 33, .int 0, .int 0, .int 0], zI 0 20 (fun _ => 0), zR 4 [some 34, some 35, some 36, some 37, some 38, some 39, some 40, some 41, some 42, some 43, some 44, some 45, some 46, some 47, some 48, some 49, some 50, some 51, some 52, some 53, some 54], zJ 21 (fun _ => 0), zJ 21 (fun _ => 0), zJ 21 (fun _ => 0), zJ 21 (fun _ => 0), zJ 21 (fun _ => 0), zJ 21 (fun _ => 0), zJ 21 (fun _ => 0), zJ 21 (fun _ => 0), zJ 21 (fun _ => 0), zJ 21 (fun _ => 0), zJ 21 (fun _ => 0), zJ 21 (fun _ => 0), zJ 21 (fun _ => 0), zJ 21 (fun _ => 0), zJ 21 (fun _ => 0), zJ 21 (fun _ => 0), zJ 21 (fun _ => 0), zJ 21 (fun _ => 0), zJ 21 (fun _ => 0), zJ 21 (fun _ => 0), zJ 21 (fun _ => 0), zO 4 [.ref 56, .ref 57, .int 0, .int 0], zI 0 40 (fun _ => 0), zI 0 40 (fun _ => 0), zR 3 [some 59, some 61, some 63, some 65, some 67, none, none, none], zO 2 [.int 0, .int (-1), .int 0, .int 0, .ref 60, .int 0], zI 0 60 (fun _ => 0), zO 2 [.int 0, .int (-1), .int 0, .int 0, .ref 62, .int 0], zI 0 60 (fun _ => 0), zO 2 [.int 0, .int (-1), .int 0, .int 0, .ref 64, .int 0], zI 0 60 (fun _ => 0), zO 2 [.int 0, .int (-1), .int 0, .int 0, .ref 66, .int 0], zI 0 60 (fun _ => 0), zO 2 [.int 0, .int (-1), .int 0, .int 0, .ref 68, .int 0], zI 0 60 (fun _ => 0), zO 2 [.int 0, .int 0, .int 0, .int 0, .null, .int 0]] (fun r w' => r = none ∧ w' = [zO 5 [.ref 1, .ref 14, .ref 27, .ref 29, .ref 31, .ref 55, .ref 58, .null, .int 0], zO 1 [.ref 2, .ref 3, .ref 4, .ref 5, .ref 6, .ref 7, .ref 8, .ref 9, .ref 10, .ref 11, .ref 12, .ref 13, .int 0], zI 0 120 (fun _ => 0), zI 0 120 (fun _ => 0), zI 0 120 (fun _ => 0), zI 0 120 (fun _ => 0), zI 0 120 (fun _ => 0), zI 0 120 (fun _ => 0), zI 0 120 (fun _ => 0), zI 0 120 (fun _ => 0), zI 0 120 (fun _ => 0), zI 0 120 (fun _ => 0), zI 0 120 (fun _ => 0), zI 0 120 (fun _ => 0), zO 1 [.ref 15, .ref 16, .ref 17, .ref 18, .ref 19, .ref 20, .ref 21, .ref 22, .ref 23, .ref 24, .ref 25, .ref 26, .int 0], zI 0 120 (fun _ => 0), zI 0 120 (fun _ => 0), zI 0 120 (fun _ => 0), zI 0 120 (fun _ => 0), zI 0 120 (fun _ => 0), zI 0 120 (fun _ => 0), zI 0 120 (fun _ => 0), zI 0 120 (fun _ => 0), zI 0 120 (fun _ => 0), zI 0 120 (fun _ => 0), zI 0 120 (fun _ => 0), zI 0 120 (fun _ => 0), zO 3 [.ref 28, .int 0, .int 0, .int 0], zI 0 80 (fun _ => 0), zO 3 [.ref 30, .int 0, .int 0, .int 0], zI 0 80 (fun _ => 0), zO 0 [.ref 32, .int 0, .ref 33, .int 0, .int 0, .int 0], zI 0 20 (fun _ => 0), zR 4 [some 34, some 35, some 36, some 37, some 38, some 39, some 40, some 41, some 42, some 43, some 44, some 45, some 46, some 47, some 48, some 49, some 50, some 51, some 52, some 53, some 54], zJ 21 (fun _ => 0), zJ 21 (fun _ => 0), zJ 21 (fun _ => 0), zJ 21 (fun _ => 0), zJ 21 (fun _ => 0), zJ 21 (fun _ => 0), zJ 21 (fun _ => 0), zJ 21 (fun _ => 0), zJ 21 (fun _ => 0), zJ 21 (fun _ => 0), zJ 21 (fun _ => 0), zJ 21 (fun _ => 0), zJ 21 (fun _ => 0), zJ 21 (fun _ => 0), zJ 21 (fun _ => 0), zJ 21 (fun _ => 0), zJ 21 (fun _ => 0), zJ 21 (fun _ => 0), zJ 21 (fun _ => 0), zJ 21 (fun _ => 0), zJ 21 (fun _ => 0), zO 4 [.ref 56, .ref 57, .int 0, .int 0], zI 0 40 (fun _ => 0), zI 0 40 (fun _ => 0), zR 3 [some 59, some 61, some 63, some 65, some 67, none, none, none], zO 2 [.int 0, .int (-1), .int 0, .int 0, .ref 60, .int 0], zI 0 60 (fun _ => 0), zO 2 [.int 0, .int (-1), .int 0, .int 0, .ref 62, .int 0], zI 0 60 (fun _ => 0), zO 2 [.int 0, .int (-1), .int 0, .int 0, .ref 64, .int 0], zI 0 60 (fun _ => 0), zO 2 [.int 0, .int (-1), .int 0, .int 0, .ref 66, .int 0], zI 0 60 (fun _ => 0), zO 2 [.int 0, .int (-1), .int 0, .int 0, .ref 68, .int 0], zI 0 60 (fun _ => 0), zO 2 [.int 0, .int (-1), .int 0, .int 0, .ref 70, .int 0], zI 0 60 (fun _ => 0)]) := by
  refine zK_of qX3_init (by decide +kernel) rfl ?_
  refine zv_step (bX3_init 1) rfl rfl trivial ?_
  refine zv_obj (bX3_init 1) zObj rfl rfl (by decide) ⟨by decide, by decide⟩ ?_
  repeat (first
    | refine zv_step (bX3_init 1) rfl rfl trivial ?_
    | refine zv_newI (bX3_init 1) rfl 0 60 (Or.inl ⟨rfl, rfl⟩) (by decide) (by decide) (by decide) zAI zAZ ⟨by decide, by decide, rfl, rfl, rfl⟩ (by decide) (by decide) ?_)
  exact zv_ret (bX3_init 1) rfl rfl (by decide) (by decide) ⟨rfl, rfl⟩
set_option maxHeartbeats 4000000 in
set_option maxRecDepth 100000 in
theorem i12 : zK 1 zX3_init [.ref 71] [zO 5 [.ref 1, .ref 14, .ref 27, .ref 29, .ref 31, .ref 55, .ref 58, .null, .int 0], zO 1 [.ref 2, .ref 3, .ref 4, .ref 5, .ref 6, .ref 7, .ref 8, .ref 9, .ref 10, .ref 11, .ref 12, .ref 13, .int 0], zI 0 120 (fun _ => 0), zI 0 120 (fun _ => 0), zI 0 120 (fun _ => 0), zI 0 120 (fun _ => 0), zI 0 120 (fun _ => 0), zI 0 120 (fun _ => 0), zI 0 120 (fun _ => 0), zI 0 120 (fun _ => 0), zI 0 120 (fun _ => 0), zI 0 120 (fun _ => 0), zI 0 120 (fun _ => 0), zI 0 120 (fun _ => 0), zO 1 [.ref 15, .ref 16, .ref 17, .ref 18, .ref 19, .ref 20, .ref 21, .ref 22, .ref 23, .ref 24, .ref 25, .ref 26, .int 0], zI 0 120 (fun _ => 0), zI 0 120 (fun _ => 0), zI 0 120 (fun _ => 0), zI 0 120 (fun _ => 0), zI 0 120 (fun _ => 0), zI 0 120 (fun _ => 0), zI 0 120 (fun _ => 0), zI 0 120 (fun _ => 0), zI 0 120 (fun _ => 0), zI 0 120 (fun _ => 0), zI 0 120 (fun _ => 0), zI 0 120 (fun _ => 0), zO 3 [.ref 28, .int 0, .int 0, .int 0], zI 0 80 (fun _ => 0), zO 3 [.ref 30, .int 0, .int 0, .int 0], zI 0 80 (fun _ => 0), zO 0 [.ref 32, .int 0, .ref 33, .int 0, .int 0, .int 0], zI 0 20 (fun _ => 0), zR 4 [some 34, some 35, some 36, some 37, some 38, some 39, some 40, some 41, some 42, some 43, some 44, some 45, some 46, some 47, some 48, some 49, some 50, some 51, some 52, some 53, some 54], zJ 21 (fun _ => 0), zJ 21 (fun _ => 0), zJ 21 (fun _ => 0), zJ 21 (fun _ => 0), zJ 21 (fun _ => 0), zJ 21 (fun _ => 0), zJ 21 (fun _ => 0), zJ 21 (fun _ => 0), zJ 21 (fun _ => 0), zJ 21 (fun _ => 0), zJ 21 (fun _ => 0), zJ 21 (fun _ => 0), zJ 21 (fun _ => 0), zJ 21 (fun _ => 0), zJ 21 (fun _ => 0), zJ 21 (fun _ => 0), zJ 21 (fun _ => 0), zJ 21 (fun _ => 0), zJ 21 (fun _ => 0), zJ 21 (fun _ => 0), zJ 21 (fun _ => 0), zO 4 [.ref 56, .ref 57, .int 0, .int 0], zI 0 40 (fun _ => 0), zI 0 40 (fun _ => 0), zR 3 [some 59, some 61, some 63, some 65, some 67, some 69, none, none], zO 2 [.int 0, .int (-1), .int 0, .int 0, .ref 60, .int 0], zI 0 60 (fun _ => 0), zO 2 [.int 0, .int (-1), .int 0, .int 0, .ref 62, .int 0], zI 0 60 (fun _ => 0), zO 2 [.int 0, .int (-1), .int 0, .int 0, .ref 64, .int 0], zI 0 60 (fun _ => 0), zO 2 [.int 0, .int (-1), .int 0, .int 0, .ref 66, .int 0], zI 0 60 (fun _ => 0), zO 2 [.int 0, .int (-1), .int 0, .int 0, .ref 68, .int 0], zI 0 60 (fun _ => 0), zO 2 [.int 0, .int (-1), .int 0, .int 0, .ref 70, .int 0], zI 0 60 (fun _ => 0), zO 2 [.int 0, .int 0, .int 0, .int 0, .null, .int 0]] (fun r w' => r = none ∧ w' = [zO 5 [.ref 1, .ref 14, .ref 27, .ref 29, .ref 31, .ref 55, .ref 58, .null, .int 0], zO 1 [.ref 2, .ref 3, .ref 4, .ref 5, .ref 6, .ref 7, .ref 8, .ref 9, .ref 10, .ref 11, .ref 12, .ref 13, .int 0], zI 0 120 (fun _ => 0), zI 0 120 (fun _ => 0), zI 0 120 (fun _ => 0), zI 0 120 (fun _ => 0), zI 0 120 (fun _ => 0), zI 0 120 (fun _ => 0), zI 0 120 (fun _ => 0), zI 0 120 (fun _ => 0), zI 0 120 (fun _ => 0), zI 0 120 (fun _ => 0), zI 0 120 (fun _ => 0), zI 0 120 (fun _ => 0), zO 1 [.ref 15, .ref 16, .ref 17, .ref 18, .ref 19, .ref 20, .ref 21, .ref 22, .ref 23, .ref 24, .ref 25, .ref 26, .int 0], zI 0 120 (fun _ => 0), zI 0 120 (fun _ => 0), zI 0 120 (fun _ => 0), zI 0 120 (fun _ => 0), zI 0 120 (fun _ => 0), zI 0 120 (fun _ => 0), zI 0 120 (fun _ => 0), zI 0 120 (fun _ => 0), zI 0 120 (fun _ => 0), zI 0 120 (fun _ => 0), zI 0 120 (fun _ => 0), zI 0 120 (fun _ => 0), zO 3 [.ref 28, .int 0, .int 0, .int 0], zI 0 80 (fun _ => 0), zO 3 [.ref 30, .int 0, .int 0, .int 0], zI 0 80 (fun _ => 0), zO 0 [.ref 32, .int 0, .ref 33, .int 0, .int 0, .int 0], zI 0 20 (fun _ => 0), zR 4 [some 34, some 35, some 36, some 37, some 38, some 39, some 40, some 41, some 42, some 43, some 44, some 45, some 46, some 47, some 48, some 49, some 50, some 51, some 52, some 53, some 54], zJ 21 (fun _ => 0), zJ 21 (fun _ => 0), zJ 21 (fun _ => 0), zJ 21 (fun _ => 0), zJ 21 (fun _ => 0), zJ 21 (fun _ => 0), zJ 21 (fun _ => 0), zJ 21 (fun _ => 0), zJ 21 (fun _ => 0), zJ 21 (fun _ => 0), zJ 21 (fun _ => 0), zJ 21 (fun _ => 0), zJ 21 (fun _ => 0), zJ 21 (fun _ => 0), zJ 21 (fun _ => 0), zJ 21 (fun _ => 0), zJ 21 (fun _ => 0), zJ 21 (fun _ => 0), zJ 21 (fun _ => 0), zJ 21 (fun _ => 0), zJ 21 (fun _ => 0), zO 4 [.ref 56, .ref 57, .int 0, .int 0], zI 0 40 (fun _ => 0), zI 0 40 (fun _ => 0), zR 3 [some 59, some 61, some 63, some 65, some 67, some 69, none, none], zO 2 [.int 0, .int (-1), .int 0, .int 0, .ref 60, .int 0], zI 0 60 (fun _ => 0), zO 2 [.int 0, .int (-1), .int 0, .int 0, .ref 62, .int 0], zI 0 60 (fun _ => 0), zO 2 [.int 0, .int (-1), .int 0, .int 0, .ref 64, .int 0], zI 0 60 (fun _ => 0), zO 2 [.int 0, .int (-1), .int 0, .int 0, .ref 66, .int 0], zI 0 60 (fun _ => 0), zO 2 [.int 0, .int (-1), .int 0, .int 0, .ref 68, .int 0], zI 0 60 (fun _ => 0), zO 2 [.int 0, .int (-1), .int 0, .int 0, .ref 70, .int 0], zI 0 60 (fun _ => 0), zO 2 [.int 0, .int (-1), .int 0, .int 0, .ref 72, .int 0], zI 0 60 (fun _ => 0)]) := by
  refine zK_of qX3_init (by decide +kernel) rfl ?_
  refine zv_step (bX3_init 1) rfl rfl trivial ?_
  refine zv_obj (bX3_init 1) zObj rfl rfl (by decide) ⟨by decide, by decide⟩ ?_
  repeat (first
    | refine zv_step (bX3_init 1) rfl rfl trivial ?_
    | refine zv_newI (bX3_init 1) rfl 0 60 (Or.inl ⟨rfl, rfl⟩) (by decide) (by decide) (by decide) zAI zAZ ⟨by decide, by decide, rfl, rfl, rfl⟩ (by decide) (by decide) ?_)
  exact zv_ret (bX3_init 1) rfl rfl (by decide) (by decide) ⟨rfl, rfl⟩
set_option maxHeartbeats 4000000 in
set_option maxRecDepth 100000 in
theorem i13 : zK 1 zX3_init [.ref 73] [zO 5 [.ref 1, .ref 14, .ref 27, .ref 29, .ref 31, .ref 55, .ref 58, .null, .int 0], zO 1 [.ref 2, .ref 3, .ref 4, .ref 5, .ref 6, .ref 7, .ref 8, .ref 9, .ref 10, .ref 11, .ref 12, .ref 13, .int 0], zI 0 120 (fun _ => 0), zI 0 120 (fun _ => 0), zI 0 120 (fun _ => 0), zI 0 120 (fun _ => 0), zI 0 120 (fun _ => 0), zI 0 120 (fun _ => 0), zI 0 120 (fun _ => 0), zI 0 120 (fun _ => 0), zI 0 120 (fun _ => 0), zI 0 120 (fun _ => 0), zI 0 120 (fun _ => 0), zI 0 120 (fun _ => 0), zO 1 [.ref 15, .ref 16, .ref 17, .ref 18, .ref 19, .ref 20, .ref 21, .ref 22, .ref 23, .ref 24, .ref 25, .ref 26, .int 0], zI 0 120 (fun _ => 0), zI 0 120 (fun _ => 0), zI 0 120 (fun _ => 0), zI 0 120 (fun _ => 0), zI 0 120 (fun _ => 0), zI 0 120 (fun _ => 0), zI 0 120 (fun _ => 0), zI 0 120 (fun _ => 0), zI 0 120 (fun _ => 0), zI 0 120 (fun _ => 0), zI 0 120 (fun _ => 0), zI 0 120 (fun _ => 0), zO 3 [.ref 28, .int 0, .int 0, .int 0], zI 0 80 (fun _ => 0), zO 3 [.ref 30, .int 0, .int 0, .int 0], zI 0 80 (fun _ => 0), zO 0 [.ref 32, .int 0, .ref 33, .int 0, .int 0, .int 0], zI 0 20 (fun _ => 0), zR 4 [some 34, some 35, some 36, some 37, some 38, some 39, some 40, some 41, some 42, some 43, some 44, some 45, some 46, some 47, some 48, some 49, some 50, some 51, some 52, some 53, some 54], zJ 21 (fun _ => 0), zJ 21 (fun _ => 0), zJ 21 (fun _ => 0), zJ 21 (fun _ => 0), zJ 21 (fun _ => 0), zJ 21 (fun _ => 0), zJ 21 (fun _ => 0), zJ 21 (fun _ => 0), zJ 21 (fun _ => 0), zJ 21 (fun _ => 0), zJ 21 (fun _ => 0), zJ 21 (fun _ => 0), zJ 21 (fun _ => 0), zJ 21 (fun _ => 0), zJ 21 (fun _ => 0), zJ 21 (fun _ => 0), zJ 21 (fun _ => 0), zJ 21 (fun _ => 0), zJ 21 (fun _ => 0), zJ 21 (fun _ => 0), zJ 21 (fun _ => 0), zO 4 [.ref 56, .ref 57, .int 0, .int 0], zI 0 40 (fun _ => 0), zI 0 40 (fun _ => 0), zR 3 [some 59, some 61, some 63, some 65, some 67, some 69, some 71, none], zO 2 [.int 0, .int (-1), .int 0, .int 0, .ref 60, .int 0], zI 0 60 (fun _ => 0), zO 2 [.int 0, .int (-1), .int 0, .int 0, .ref 62, .int 0], zI 0 60 (fun _ => 0), zO 2 [.int 0, .int (-1), .int 0, .int 0, .ref 64, .int 0], zI 0 60 (fun _ => 0), zO 2 [.int 0, .int (-1), .int 0, .int 0, .ref 66, .int 0], zI 0 60 (fun _ => 0), zO 2 [.int 0, .int (-1), .int 0, .int 0, .ref 68, .int 0], zI 0 60 (fun _ => 0), zO 2 [.int 0, .int (-1), .int 0, .int 0, .ref 70, .int 0], zI 0 60 (fun _ => 0), zO 2 [.int 0, .int (-1), .int 0, .int 0, .ref 72, .int 0], zI 0 60 (fun _ => 0), zO 2 [.int 0, .int 0, .int 0, .int 0, .null, .int 0]] (fun r w' => r = none ∧ w' = [zO 5 [.ref 1, .ref 14, .ref 27, .ref 29, .ref 31, .ref 55, .ref 58, .null, .int 0], zO 1 [.ref 2, .ref 3, .ref 4, .ref 5, .ref 6, .ref 7, .ref 8, .ref 9, .ref 10, .ref 11, .ref 12, .ref 13, .int 0], zI 0 120 (fun _ => 0), zI 0 120 (fun _ => 0), zI 0 120 (fun _ => 0), zI 0 120 (fun _ => 0), zI 0 120 (fun _ => 0), zI 0 120 (fun _ => 0), zI 0 120 (fun _ => 0), zI 0 120 (fun _ => 0), zI 0 120 (fun _ => 0), zI 0 120 (fun _ => 0), zI 0 120 (fun _ => 0), zI 0 120 (fun _ => 0), zO 1 [.ref 15, .ref 16, .ref 17, .ref 18, .ref 19, .ref 20, .ref 21, .ref 22, .ref 23, .ref 24, .ref 25, .ref 26, .int 0], zI 0 120 (fun _ => 0), zI 0 120 (fun _ => 0), zI 0 120 (fun _ => 0), zI 0 120 (fun _ => 0), zI 0 120 (fun _ => 0), zI 0 120 (fun _ => 0), zI 0 120 (fun _ => 0), zI 0 120 (fun _ => 0), zI 0 120 (fun _ => 0), zI 0 120 (fun _ => 0), zI 0 120 (fun _ => 0), zI 0 120 (fun _ => 0), zO 3 [.ref 28, .int 0, .int 0, .int 0], zI 0 80 (fun _ => 0), zO 3 [.ref 30, .int 0, .int 0, .int 0], zI 0 80 (fun _ => 0), zO 0 [.ref 32, .int 0, .ref 33, .int 0, .int 0, .int 0], zI 0 20 (fun _ => 0), zR 4 [some 34, some 35, some 36, some 37, some 38, some 39, some 40, some 41, some 42, some 43, some 44, some 45, some 46, some 47, some 48, some 49, some 50, some 51, some 52, some 53, some 54], zJ 21 (fun _ => 0), zJ 21 (fun _ => 0), zJ 21 (fun _ => 0), zJ 21 (fun _ => 0), zJ 21 (fun _ => 0), zJ 21 (fun _ => 0), zJ 21 (fun _ => 0), zJ 21 (fun _ => 0), zJ 21 (fun _ => 0), zJ 21 (fun _ => 0), zJ 21 (fun _ => 0), zJ 21 (fun _ => 0), zJ 21 (fun _ => 0), zJ 21 (fun _ => 0), zJ 21 (fun _ => 0), zJ 21 (fun _ => 0), zJ 21 (fun _ => 0), zJ 21 (fun _ => 0), zJ 21 (fun _ => 0), zJ 21 (fun _ => 0), zJ 21 (fun _ => 0), zO 4 [.ref 56, .ref 57, .int 0, .int 0], zI 0 40 (fun _ => 0), zI 0 40 (fun _ => 0), zR 3 [some 59, some 61, some 63, some 65, some 67, some 69, some 71, none], zO 2 [.int 0, .int (-1), .int 0, .int 0, .ref 60, .int 0], zI 0 60 (fun _ => 0), zO 2 [.int 0, .int (-1), .int 0, .int 0, .ref 62, .int 0], zI 0 60 (fun _ => 0), zO 2 [.int 0, .int (-1), .int 0, .int 0, .ref 64, .int 0], zI 0 60 (fun _ => 0), zO 2 [.int 0, .int (-1), .int 0, .int 0, .ref 66, .int 0], zI 0 60 (fun _ => 0), zO 2 [.int 0, .int (-1), .int 0, .int 0, .ref 68, .int 0], zI 0 60 (fun _ => 0), zO 2 [.int 0, .int (-1), .int 0, .int 0, .ref 70, .int 0], zI 0 60 (fun _ => 0), zO 2 [.int 0, .int (-1), .int 0, .int 0, .ref 72, .int 0], zI 0 60 (fun _ => 0), zO 2 [.int 0, .int (-1), .int 0, .int 0, .ref 74, .int 0], zI 0 60 (fun _ => 0)]) := by
  refine zK_of qX3_init (by decide +kernel) rfl ?_
  refine zv_step (bX3_init 1) rfl rfl trivial ?_
  refine zv_obj (bX3_init 1) zObj rfl rfl (by decide) ⟨by decide, by decide⟩ ?_
  repeat (first
    | refine zv_step (bX3_init 1) rfl rfl trivial ?_
    | refine zv_newI (bX3_init 1) rfl 0 60 (Or.inl ⟨rfl, rfl⟩) (by decide) (by decide) (by decide) zAI zAZ ⟨by decide, by decide, rfl, rfl, rfl⟩ (by decide) (by decide) ?_)
  exact zv_ret (bX3_init 1) rfl rfl (by decide) (by decide) ⟨rfl, rfl⟩
set_option maxHeartbeats 8000000 in
set_option maxRecDepth 100000 in
theorem iX : zK 2 zX6_init [.ref 0] [zO 5 [.null, .null, .null, .null, .null, .null, .null, .null, .int 0]] (fun r w' => r = none ∧ w' = [zO 5 [.ref 1, .ref 14, .ref 27, .ref 29, .ref 31, .ref 55, .ref 58, .ref 75, .int 0], zO 1 [.ref 2, .ref 3, .ref 4, .ref 5, .ref 6, .ref 7, .ref 8, .ref 9, .ref 10, .ref 11, .ref 12, .ref 13, .int 0], zI 0 120 (fun _ => 0), zI 0 120 (fun _ => 0), zI 0 120 (fun _ => 0), zI 0 120 (fun _ => 0), zI 0 120 (fun _ => 0), zI 0 120 (fun _ => 0), zI 0 120 (fun _ => 0), zI 0 120 (fun _ => 0), zI 0 120 (fun _ => 0), zI 0 120 (fun _ => 0), zI 0 120 (fun _ => 0), zI 0 120 (fun _ => 0), zO 1 [.ref 15, .ref 16, .ref 17, .ref 18, .ref 19, .ref 20, .ref 21, .ref 22, .ref 23, .ref 24, .ref 25, .ref 26, .int 0], zI 0 120 (fun _ => 0), zI 0 120 (fun _ => 0), zI 0 120 (fun _ => 0), zI 0 120 (fun _ => 0), zI 0 120 (fun _ => 0), zI 0 120 (fun _ => 0), zI 0 120 (fun _ => 0), zI 0 120 (fun _ => 0), zI 0 120 (fun _ => 0), zI 0 120 (fun _ => 0), zI 0 120 (fun _ => 0), zI 0 120 (fun _ => 0), zO 3 [.ref 28, .int 0, .int 0, .int 0], zI 0 80 (fun _ => 0), zO 3 [.ref 30, .int 0, .int 0, .int 0], zI 0 80 (fun _ => 0), zO 0 [.ref 32, .int 0, .ref 33, .int 0, .int 0, .int 0], zI 0 20 (fun _ => 0), zR 4 [some 34, some 35, some 36, some 37, some 38, some 39, some 40, some 41, some 42, some 43, some 44, some 45, some 46, some 47, some 48, some 49, some 50, some 51, some 52, some 53, some 54], zJ 21 (fun _ => 0), zJ 21 (fun _ => 0), zJ 21 (fun _ => 0), zJ 21 (fun _ => 0), zJ 21 (fun _ => 0), zJ 21 (fun _ => 0), zJ 21 (fun _ => 0), zJ 21 (fun _ => 0), zJ 21 (fun _ => 0), zJ 21 (fun _ => 0), zJ 21 (fun _ => 0), zJ 21 (fun _ => 0), zJ 21 (fun _ => 0), zJ 21 (fun _ => 0), zJ 21 (fun _ => 0), zJ 21 (fun _ => 0), zJ 21 (fun _ => 0), zJ 21 (fun _ => 0), zJ 21 (fun _ => 0), zJ 21 (fun _ => 0), zJ 21 (fun _ => 0), zO 4 [.ref 56, .ref 57, .int 0, .int 0], zI 0 40 (fun _ => 0), zI 0 40 (fun _ => 0), zR 3 [some 59, some 61, some 63, some 65, some 67, some 69, some 71, some 73], zO 2 [.int 0, .int (-1), .int 0, .int 0, .ref 60, .int 0], zI 0 60 (fun _ => 0), zO 2 [.int 0, .int (-1), .int 0, .int 0, .ref 62, .int 0], zI 0 60 (fun _ => 0), zO 2 [.int 0, .int (-1), .int 0, .int 0, .ref 64, .int 0], zI 0 60 (fun _ => 0), zO 2 [.int 0, .int (-1), .int 0, .int 0, .ref 66, .int 0], zI 0 60 (fun _ => 0), zO 2 [.int 0, .int (-1), .int 0, .int 0, .ref 68, .int 0], zI 0 60 (fun _ => 0), zO 2 [.int 0, .int (-1), .int 0, .int 0, .ref 70, .int 0], zI 0 60 (fun _ => 0), zO 2 [.int 0, .int (-1), .int 0, .int 0, .ref 72, .int 0], zI 0 60 (fun _ => 0), zO 2 [.int 0, .int (-1), .int 0, .int 0, .ref 74, .int 0], zI 0 60 (fun _ => 0), zI 0 8 (upd (fun _ => 0) 0 764)]) := by
  refine zK_of qX6_init (by decide +kernel) rfl ?_
  refine zv_step (bX6_init 2) rfl rfl trivial ?_
  refine zv_obj (bX6_init 2) zObj rfl rfl (by decide) ⟨by decide, by decide⟩ ?_
  repeat (refine zv_step (bX6_init 2) rfl rfl trivial ?_)
  refine zv_new (bX6_init 2) rfl (ci := 1) rfl zCl_RX6_7 zIn1.1 zIn1.2 [.null, .null, .null, .null, .null, .null, .null, .null, .null, .null, .null, .null, .int 0] (by decide +kernel) rfl ⟨by decide, by decide, rfl, rfl, rfl⟩ (by decide) (by decide) ?_
  repeat (refine zv_step (bX6_init 2) rfl rfl trivial ?_)
  refine zv_callI (bX6_init 2) rfl rfl (As := []) rfl rfl rfl (by decide) (Or.inr ⟨rfl, by decide, rfl, rfl⟩) ⟨by decide, by decide⟩ ⟨by decide, by decide⟩ i0 (fun r w' hw => ?_)
  obtain ⟨rfl, rfl⟩ := hw
  repeat (refine zv_step (bX6_init 2) rfl rfl trivial ?_)
  refine zv_new (bX6_init 2) rfl (ci := 1) rfl zCl_RX6_7 zIn1.1 zIn1.2 [.null, .null, .null, .null, .null, .null, .null, .null, .null, .null, .null, .null, .int 0] (by decide +kernel) rfl ⟨by decide, by decide, rfl, rfl, rfl⟩ (by decide) (by decide) ?_
  repeat (refine zv_step (bX6_init 2) rfl rfl trivial ?_)
  refine zv_callI (bX6_init 2) rfl rfl (As := []) rfl rfl rfl (by decide) (Or.inr ⟨rfl, by decide, rfl, rfl⟩) ⟨by decide, by decide⟩ ⟨by decide, by decide⟩ i1 (fun r w' hw => ?_)
  obtain ⟨rfl, rfl⟩ := hw
  repeat (refine zv_step (bX6_init 2) rfl rfl trivial ?_)
  refine zv_new (bX6_init 2) rfl (ci := 3) rfl zCl_RX6_19 zIn3.1 zIn3.2 [.null, .int 0, .int 0, .int 0] (by decide +kernel) rfl ⟨by decide, by decide, rfl, rfl, rfl⟩ (by decide) (by decide) ?_
  repeat (refine zv_step (bX6_init 2) rfl rfl trivial ?_)
  refine zv_callI (bX6_init 2) rfl rfl (As := []) rfl rfl rfl (by decide) (Or.inr ⟨rfl, by decide, rfl, rfl⟩) ⟨by decide, by decide⟩ ⟨by decide, by decide⟩ i2 (fun r w' hw => ?_)
  obtain ⟨rfl, rfl⟩ := hw
  repeat (refine zv_step (bX6_init 2) rfl rfl trivial ?_)
  refine zv_new (bX6_init 2) rfl (ci := 3) rfl zCl_RX6_19 zIn3.1 zIn3.2 [.null, .int 0, .int 0, .int 0] (by decide +kernel) rfl ⟨by decide, by decide, rfl, rfl, rfl⟩ (by decide) (by decide) ?_
  repeat (refine zv_step (bX6_init 2) rfl rfl trivial ?_)
  refine zv_callI (bX6_init 2) rfl rfl (As := []) rfl rfl rfl (by decide) (Or.inr ⟨rfl, by decide, rfl, rfl⟩) ⟨by decide, by decide⟩ ⟨by decide, by decide⟩ i3 (fun r w' hw => ?_)
  obtain ⟨rfl, rfl⟩ := hw
  repeat (refine zv_step (bX6_init 2) rfl rfl trivial ?_)
  refine zv_new (bX6_init 2) rfl (ci := 0) rfl zCl_RX6_29 zIn0.1 zIn0.2 [.null, .int 0, .null, .int 0, .int 0, .int 0] (by decide +kernel) rfl ⟨by decide, by decide, rfl, rfl, rfl⟩ (by decide) (by decide) ?_
  repeat (refine zv_step (bX6_init 2) rfl rfl trivial ?_)
  refine zv_callI (bX6_init 2) rfl rfl (As := []) rfl rfl rfl (by decide) (Or.inr ⟨rfl, by decide, rfl, rfl⟩) ⟨by decide, by decide⟩ ⟨by decide, by decide⟩ i4 (fun r w' hw => ?_)
  obtain ⟨rfl, rfl⟩ := hw
  repeat (refine zv_step (bX6_init 2) rfl rfl trivial ?_)
  refine zv_new (bX6_init 2) rfl (ci := 4) rfl zCl_RX6_36 zIn4.1 zIn4.2 [.null, .null, .int 0, .int 0] (by decide +kernel) rfl ⟨by decide, by decide, rfl, rfl, rfl⟩ (by decide) (by decide) ?_
  repeat (refine zv_step (bX6_init 2) rfl rfl trivial ?_)
  refine zv_callI (bX6_init 2) rfl rfl (As := []) rfl rfl rfl (by decide) (Or.inr ⟨rfl, by decide, rfl, rfl⟩) ⟨by decide, by decide⟩ ⟨by decide, by decide⟩ i5 (fun r w' hw => ?_)
  obtain ⟨rfl, rfl⟩ := hw
  repeat (refine zv_step (bX6_init 2) rfl rfl trivial ?_)
  refine zv_anew (bX6_init 2) rfl 8 (by decide) (by decide) (by decide) zCl_RX6_43 ⟨by decide, by decide, rfl, rfl, rfl⟩ (by decide) (by decide) ?_
  repeat (refine zv_step (bX6_init 2) rfl rfl trivial ?_)
  refine zv_new (bX6_init 2) rfl (ci := 2) rfl zCl_RX6_43 zIn2.1 zIn2.2 [.int 0, .int 0, .int 0, .int 0, .null, .int 0] (by decide +kernel) rfl ⟨by decide, by decide, rfl, rfl, rfl⟩ (by decide) (by decide) ?_
  repeat (refine zv_step (bX6_init 2) rfl rfl trivial ?_)
  refine zv_callI (bX6_init 2) rfl rfl (As := []) rfl rfl rfl (by decide) (Or.inr ⟨rfl, by decide, rfl, rfl⟩) ⟨by decide, by decide⟩ ⟨by decide, by decide⟩ i6 (fun r w' hw => ?_)
  obtain ⟨rfl, rfl⟩ := hw
  refine zv_aast (bX6_init 2) rfl rfl rfl (by unfold vp_in; decide) ?_
  repeat (refine zv_step (bX6_init 2) rfl rfl trivial ?_)
  refine zv_new (bX6_init 2) rfl (ci := 2) rfl zCl_RX6_43 zIn2.1 zIn2.2 [.int 0, .int 0, .int 0, .int 0, .null, .int 0] (by decide +kernel) rfl ⟨by decide, by decide, rfl, rfl, rfl⟩ (by decide) (by decide) ?_
  repeat (refine zv_step (bX6_init 2) rfl rfl trivial ?_)
  refine zv_callI (bX6_init 2) rfl rfl (As := []) rfl rfl rfl (by decide) (Or.inr ⟨rfl, by decide, rfl, rfl⟩) ⟨by decide, by decide⟩ ⟨by decide, by decide⟩ i7 (fun r w' hw => ?_)
  obtain ⟨rfl, rfl⟩ := hw
  refine zv_aast (bX6_init 2) rfl rfl rfl (by unfold vp_in; decide) ?_
  repeat (refine zv_step (bX6_init 2) rfl rfl trivial ?_)
  refine zv_new (bX6_init 2) rfl (ci := 2) rfl zCl_RX6_43 zIn2.1 zIn2.2 [.int 0, .int 0, .int 0, .int 0, .null, .int 0] (by decide +kernel) rfl ⟨by decide, by decide, rfl, rfl, rfl⟩ (by decide) (by decide) ?_
  repeat (refine zv_step (bX6_init 2) rfl rfl trivial ?_)
  refine zv_callI (bX6_init 2) rfl rfl (As := []) rfl rfl rfl (by decide) (Or.inr ⟨rfl, by decide, rfl, rfl⟩) ⟨by decide, by decide⟩ ⟨by decide, by decide⟩ i8 (fun r w' hw => ?_)
  obtain ⟨rfl, rfl⟩ := hw
  refine zv_aast (bX6_init 2) rfl rfl rfl (by unfold vp_in; decide) ?_
  repeat (refine zv_step (bX6_init 2) rfl rfl trivial ?_)
  refine zv_new (bX6_init 2) rfl (ci := 2) rfl zCl_RX6_43 zIn2.1 zIn2.2 [.int 0, .int 0, .int 0, .int 0, .null, .int 0] (by decide +kernel) rfl ⟨by decide, by decide, rfl, rfl, rfl⟩ (by decide) (by decide) ?_
  repeat (refine zv_step (bX6_init 2) rfl rfl trivial ?_)
  refine zv_callI (bX6_init 2) rfl rfl (As := []) rfl rfl rfl (by decide) (Or.inr ⟨rfl, by decide, rfl, rfl⟩) ⟨by decide, by decide⟩ ⟨by decide, by decide⟩ i9 (fun r w' hw => ?_)
  obtain ⟨rfl, rfl⟩ := hw
  refine zv_aast (bX6_init 2) rfl rfl rfl (by unfold vp_in; decide) ?_
  repeat (refine zv_step (bX6_init 2) rfl rfl trivial ?_)
  refine zv_new (bX6_init 2) rfl (ci := 2) rfl zCl_RX6_43 zIn2.1 zIn2.2 [.int 0, .int 0, .int 0, .int 0, .null, .int 0] (by decide +kernel) rfl ⟨by decide, by decide, rfl, rfl, rfl⟩ (by decide) (by decide) ?_
  repeat (refine zv_step (bX6_init 2) rfl rfl trivial ?_)
  refine zv_callI (bX6_init 2) rfl rfl (As := []) rfl rfl rfl (by decide) (Or.inr ⟨rfl, by decide, rfl, rfl⟩) ⟨by decide, by decide⟩ ⟨by decide, by decide⟩ i10 (fun r w' hw => ?_)
  obtain ⟨rfl, rfl⟩ := hw
  refine zv_aast (bX6_init 2) rfl rfl rfl (by unfold vp_in; decide) ?_
  repeat (refine zv_step (bX6_init 2) rfl rfl trivial ?_)
  refine zv_new (bX6_init 2) rfl (ci := 2) rfl zCl_RX6_43 zIn2.1 zIn2.2 [.int 0, .int 0, .int 0, .int 0, .null, .int 0] (by decide +kernel) rfl ⟨by decide, by decide, rfl, rfl, rfl⟩ (by decide) (by decide) ?_
  repeat (refine zv_step (bX6_init 2) rfl rfl trivial ?_)
  refine zv_callI (bX6_init 2) rfl rfl (As := []) rfl rfl rfl (by decide) (Or.inr ⟨rfl, by decide, rfl, rfl⟩) ⟨by decide, by decide⟩ ⟨by decide, by decide⟩ i11 (fun r w' hw => ?_)
  obtain ⟨rfl, rfl⟩ := hw
  refine zv_aast (bX6_init 2) rfl rfl rfl (by unfold vp_in; decide) ?_
  repeat (refine zv_step (bX6_init 2) rfl rfl trivial ?_)
  refine zv_new (bX6_init 2) rfl (ci := 2) rfl zCl_RX6_43 zIn2.1 zIn2.2 [.int 0, .int 0, .int 0, .int 0, .null, .int 0] (by decide +kernel) rfl ⟨by decide, by decide, rfl, rfl, rfl⟩ (by decide) (by decide) ?_
  repeat (refine zv_step (bX6_init 2) rfl rfl trivial ?_)
  refine zv_callI (bX6_init 2) rfl rfl (As := []) rfl rfl rfl (by decide) (Or.inr ⟨rfl, by decide, rfl, rfl⟩) ⟨by decide, by decide⟩ ⟨by decide, by decide⟩ i12 (fun r w' hw => ?_)
  obtain ⟨rfl, rfl⟩ := hw
  refine zv_aast (bX6_init 2) rfl rfl rfl (by unfold vp_in; decide) ?_
  repeat (refine zv_step (bX6_init 2) rfl rfl trivial ?_)
  refine zv_new (bX6_init 2) rfl (ci := 2) rfl zCl_RX6_43 zIn2.1 zIn2.2 [.int 0, .int 0, .int 0, .int 0, .null, .int 0] (by decide +kernel) rfl ⟨by decide, by decide, rfl, rfl, rfl⟩ (by decide) (by decide) ?_
  repeat (refine zv_step (bX6_init 2) rfl rfl trivial ?_)
  refine zv_callI (bX6_init 2) rfl rfl (As := []) rfl rfl rfl (by decide) (Or.inr ⟨rfl, by decide, rfl, rfl⟩) ⟨by decide, by decide⟩ ⟨by decide, by decide⟩ i13 (fun r w' hw => ?_)
  obtain ⟨rfl, rfl⟩ := hw
  refine zv_aast (bX6_init 2) rfl rfl rfl (by unfold vp_in; decide) ?_
  repeat (refine zv_step (bX6_init 2) rfl rfl trivial ?_)
  refine zv_newI (bX6_init 2) rfl 0 8 (Or.inl ⟨rfl, rfl⟩) (by decide) (by decide) (by decide) zAI zAZ ⟨by decide, by decide, rfl, rfl, rfl⟩ (by decide) (by decide) ?_
  refine zv_step (bX6_init 2) rfl rfl trivial ?_
  refine zv_step (bX6_init 2) rfl rfl trivial ?_
  repeat (first | refine zv_step (bX6_init 2) rfl rfl trivial ?_ | refine zv_step (bX6_init 2) rfl rfl (by unfold vp_in; decide) ?_)
  exact zv_ret (bX6_init 2) rfl rfl (by decide) (by decide) ⟨rfl, rfl⟩
end
section
set_option maxHeartbeats 8000000 in
set_option maxRecDepth 100000 in
theorem iM : zK 1 zX7_init [.ref 76] [zO 5 [.ref 1, .ref 14, .ref 27, .ref 29, .ref 31, .ref 55, .ref 58, .ref 75, .int 0], zO 1 [.ref 2, .ref 3, .ref 4, .ref 5, .ref 6, .ref 7, .ref 8, .ref 9, .ref 10, .ref 11, .ref 12, .ref 13, .int 0], zI 0 120 (fun _ => 0), zI 0 120 (fun _ => 0), zI 0 120 (fun _ => 0), zI 0 120 (fun _ => 0), zI 0 120 (fun _ => 0), zI 0 120 (fun _ => 0), zI 0 120 (fun _ => 0), zI 0 120 (fun _ => 0), zI 0 120 (fun _ => 0), zI 0 120 (fun _ => 0), zI 0 120 (fun _ => 0), zI 0 120 (fun _ => 0), zO 1 [.ref 15, .ref 16, .ref 17, .ref 18, .ref 19, .ref 20, .ref 21, .ref 22, .ref 23, .ref 24, .ref 25, .ref 26, .int 0], zI 0 120 (fun _ => 0), zI 0 120 (fun _ => 0), zI 0 120 (fun _ => 0), zI 0 120 (fun _ => 0), zI 0 120 (fun _ => 0), zI 0 120 (fun _ => 0), zI 0 120 (fun _ => 0), zI 0 120 (fun _ => 0), zI 0 120 (fun _ => 0), zI 0 120 (fun _ => 0), zI 0 120 (fun _ => 0), zI 0 120 (fun _ => 0), zO 3 [.ref 28, .int 0, .int 0, .int 0], zI 0 80 (fun _ => 0), zO 3 [.ref 30, .int 0, .int 0, .int 0], zI 0 80 (fun _ => 0), zO 0 [.ref 32, .int 0, .ref 33, .int 0, .int 0, .int 0], zI 0 20 (fun _ => 0), zR 4 [some 34, some 35, some 36, some 37, some 38, some 39, some 40, some 41, some 42, some 43, some 44, some 45, some 46, some 47, some 48, some 49, some 50, some 51, some 52, some 53, some 54], zJ 21 (fun _ => 0), zJ 21 (fun _ => 0), zJ 21 (fun _ => 0), zJ 21 (fun _ => 0), zJ 21 (fun _ => 0), zJ 21 (fun _ => 0), zJ 21 (fun _ => 0), zJ 21 (fun _ => 0), zJ 21 (fun _ => 0), zJ 21 (fun _ => 0), zJ 21 (fun _ => 0), zJ 21 (fun _ => 0), zJ 21 (fun _ => 0), zJ 21 (fun _ => 0), zJ 21 (fun _ => 0), zJ 21 (fun _ => 0), zJ 21 (fun _ => 0), zJ 21 (fun _ => 0), zJ 21 (fun _ => 0), zJ 21 (fun _ => 0), zJ 21 (fun _ => 0), zO 4 [.ref 56, .ref 57, .int 0, .int 0], zI 0 40 (fun _ => 0), zI 0 40 (fun _ => 0), zR 3 [some 59, some 61, some 63, some 65, some 67, some 69, some 71, some 73], zO 2 [.int 0, .int (-1), .int 0, .int 0, .ref 60, .int 0], zI 0 60 (fun _ => 0), zO 2 [.int 0, .int (-1), .int 0, .int 0, .ref 62, .int 0], zI 0 60 (fun _ => 0), zO 2 [.int 0, .int (-1), .int 0, .int 0, .ref 64, .int 0], zI 0 60 (fun _ => 0), zO 2 [.int 0, .int (-1), .int 0, .int 0, .ref 66, .int 0], zI 0 60 (fun _ => 0), zO 2 [.int 0, .int (-1), .int 0, .int 0, .ref 68, .int 0], zI 0 60 (fun _ => 0), zO 2 [.int 0, .int (-1), .int 0, .int 0, .ref 70, .int 0], zI 0 60 (fun _ => 0), zO 2 [.int 0, .int (-1), .int 0, .int 0, .ref 72, .int 0], zI 0 60 (fun _ => 0), zO 2 [.int 0, .int (-1), .int 0, .int 0, .ref 74, .int 0], zI 0 60 (fun _ => 0), zI 0 8 (upd (fun _ => 0) 0 764), zO 6 [.int 0, .null, .null, .null, .null, .null, .null, .null, .null, .null, .int 0, .null, .null, .null, .null, .null, .int 0, .null, .int 0, .int 0, .int 0, .int 0, .null, .int 0, .null, .null, .null, .null, .int 0, .int 0, .int 0, .null, .null, .int 0, .int 0]] (fun r w' => r = none ∧ w' = [zO 5 [.ref 1, .ref 14, .ref 27, .ref 29, .ref 31, .ref 55, .ref 58, .ref 75, .int 0], zO 1 [.ref 2, .ref 3, .ref 4, .ref 5, .ref 6, .ref 7, .ref 8, .ref 9, .ref 10, .ref 11, .ref 12, .ref 13, .int 0], zI 0 120 (fun _ => 0), zI 0 120 (fun _ => 0), zI 0 120 (fun _ => 0), zI 0 120 (fun _ => 0), zI 0 120 (fun _ => 0), zI 0 120 (fun _ => 0), zI 0 120 (fun _ => 0), zI 0 120 (fun _ => 0), zI 0 120 (fun _ => 0), zI 0 120 (fun _ => 0), zI 0 120 (fun _ => 0), zI 0 120 (fun _ => 0), zO 1 [.ref 15, .ref 16, .ref 17, .ref 18, .ref 19, .ref 20, .ref 21, .ref 22, .ref 23, .ref 24, .ref 25, .ref 26, .int 0], zI 0 120 (fun _ => 0), zI 0 120 (fun _ => 0), zI 0 120 (fun _ => 0), zI 0 120 (fun _ => 0), zI 0 120 (fun _ => 0), zI 0 120 (fun _ => 0), zI 0 120 (fun _ => 0), zI 0 120 (fun _ => 0), zI 0 120 (fun _ => 0), zI 0 120 (fun _ => 0), zI 0 120 (fun _ => 0), zI 0 120 (fun _ => 0), zO 3 [.ref 28, .int 0, .int 0, .int 0], zI 0 80 (fun _ => 0), zO 3 [.ref 30, .int 0, .int 0, .int 0], zI 0 80 (fun _ => 0), zO 0 [.ref 32, .int 0, .ref 33, .int 0, .int 0, .int 0], zI 0 20 (fun _ => 0), zR 4 [some 34, some 35, some 36, some 37, some 38, some 39, some 40, some 41, some 42, some 43, some 44, some 45, some 46, some 47, some 48, some 49, some 50, some 51, some 52, some 53, some 54], zJ 21 (fun _ => 0), zJ 21 (fun _ => 0), zJ 21 (fun _ => 0), zJ 21 (fun _ => 0), zJ 21 (fun _ => 0), zJ 21 (fun _ => 0), zJ 21 (fun _ => 0), zJ 21 (fun _ => 0), zJ 21 (fun _ => 0), zJ 21 (fun _ => 0), zJ 21 (fun _ => 0), zJ 21 (fun _ => 0), zJ 21 (fun _ => 0), zJ 21 (fun _ => 0), zJ 21 (fun _ => 0), zJ 21 (fun _ => 0), zJ 21 (fun _ => 0), zJ 21 (fun _ => 0), zJ 21 (fun _ => 0), zJ 21 (fun _ => 0), zJ 21 (fun _ => 0), zO 4 [.ref 56, .ref 57, .int 0, .int 0], zI 0 40 (fun _ => 0), zI 0 40 (fun _ => 0), zR 3 [some 59, some 61, some 63, some 65, some 67, some 69, some 71, some 73], zO 2 [.int 0, .int (-1), .int 0, .int 0, .ref 60, .int 0], zI 0 60 (fun _ => 0), zO 2 [.int 0, .int (-1), .int 0, .int 0, .ref 62, .int 0], zI 0 60 (fun _ => 0), zO 2 [.int 0, .int (-1), .int 0, .int 0, .ref 64, .int 0], zI 0 60 (fun _ => 0), zO 2 [.int 0, .int (-1), .int 0, .int 0, .ref 66, .int 0], zI 0 60 (fun _ => 0), zO 2 [.int 0, .int (-1), .int 0, .int 0, .ref 68, .int 0], zI 0 60 (fun _ => 0), zO 2 [.int 0, .int (-1), .int 0, .int 0, .ref 70, .int 0], zI 0 60 (fun _ => 0), zO 2 [.int 0, .int (-1), .int 0, .int 0, .ref 72, .int 0], zI 0 60 (fun _ => 0), zO 2 [.int 0, .int (-1), .int 0, .int 0, .ref 74, .int 0], zI 0 60 (fun _ => 0), zI 0 8 (upd (fun _ => 0) 0 764), zO 6 [.int 0, .ref 77, .ref 78, .ref 79, .ref 80, .ref 81, .ref 82, .ref 83, .ref 84, .ref 85, .int 0, .ref 86, .ref 87, .ref 88, .ref 89, .ref 90, .int 0, .ref 91, .int 0, .int (-1), .int 0, .int 0, .ref 92, .int 0, .ref 93, .ref 94, .ref 95, .ref 96, .int 0, .int 0, .int 0, .ref 97, .ref 98, .int 0, .int 0], zI 0 450 (fun _ => 0), zI 0 450 (fun _ => 0), zI 0 450 (fun _ => 0), zI 0 450 (fun _ => 0), zI 0 450 (fun _ => 0), zI 0 450 (fun _ => 0), zI 1 10 (fun _ => 0), zI 1 90 (upd (upd (upd (upd (upd (upd (upd (upd ((fun _ => 0)) 2 1) 3 1) 4 1) 5 1) 6 1) 7 1) 8 0) 9 1), zI 0 20 (fun _ => 0), zI 0 8 (fun _ => 0), zI 0 8 (fun _ => 0), zI 0 8 (fun _ => 0), zI 0 8 (fun _ => 0), zI 0 480 (fun _ => 0), zI 0 256 (fun _ => 0), zI 0 256 (fun _ => 0), zI 0 5600 (fun _ => 0), zI 0 280 (fun _ => 0), zJ 8820 (fun _ => 0), zJ 441 (fun _ => 0), zI 0 41 (fun _ => 0), zI 0 41 (fun _ => 0)]) := by
  refine zK_of qX7_init (by decide +kernel) rfl ?_
  refine zv_step (bX7_init 1) rfl rfl trivial ?_
  refine zv_obj (bX7_init 1) zObj rfl rfl (by decide) ⟨by decide, by decide⟩ ?_
  repeat (refine zv_step (bX7_init 1) rfl rfl trivial ?_)
  refine zv_newI (bX7_init 1) rfl 0 450 (Or.inl ⟨rfl, rfl⟩) (by decide) (by decide) (by decide) zAI zAZ ⟨by decide, by decide, rfl, rfl, rfl⟩ (by decide) (by decide) ?_
  repeat (refine zv_step (bX7_init 1) rfl rfl trivial ?_)
  refine zv_newI (bX7_init 1) rfl 0 450 (Or.inl ⟨rfl, rfl⟩) (by decide) (by decide) (by decide) zAI zAZ ⟨by decide, by decide, rfl, rfl, rfl⟩ (by decide) (by decide) ?_
  repeat (refine zv_step (bX7_init 1) rfl rfl trivial ?_)
  refine zv_newI (bX7_init 1) rfl 0 450 (Or.inl ⟨rfl, rfl⟩) (by decide) (by decide) (by decide) zAI zAZ ⟨by decide, by decide, rfl, rfl, rfl⟩ (by decide) (by decide) ?_
  repeat (refine zv_step (bX7_init 1) rfl rfl trivial ?_)
  refine zv_newI (bX7_init 1) rfl 0 450 (Or.inl ⟨rfl, rfl⟩) (by decide) (by decide) (by decide) zAI zAZ ⟨by decide, by decide, rfl, rfl, rfl⟩ (by decide) (by decide) ?_
  repeat (refine zv_step (bX7_init 1) rfl rfl trivial ?_)
  refine zv_newI (bX7_init 1) rfl 0 450 (Or.inl ⟨rfl, rfl⟩) (by decide) (by decide) (by decide) zAI zAZ ⟨by decide, by decide, rfl, rfl, rfl⟩ (by decide) (by decide) ?_
  repeat (refine zv_step (bX7_init 1) rfl rfl trivial ?_)
  refine zv_newI (bX7_init 1) rfl 0 450 (Or.inl ⟨rfl, rfl⟩) (by decide) (by decide) (by decide) zAI zAZ ⟨by decide, by decide, rfl, rfl, rfl⟩ (by decide) (by decide) ?_
  repeat (refine zv_step (bX7_init 1) rfl rfl trivial ?_)
  refine zv_newI (bX7_init 1) rfl 1 10 (Or.inr ⟨rfl, rfl⟩) (by decide) (by decide) (by decide) zAI zAZ ⟨by decide, by decide, rfl, rfl, rfl⟩ (by decide) (by decide) ?_
  repeat (refine zv_step (bX7_init 1) rfl rfl trivial ?_)
  refine zv_newI (bX7_init 1) rfl 1 90 (Or.inr ⟨rfl, rfl⟩) (by decide) (by decide) (by decide) zAI zAZ ⟨by decide, by decide, rfl, rfl, rfl⟩ (by decide) (by decide) ?_
  repeat (refine zv_step (bX7_init 1) rfl rfl trivial ?_)
  refine zv_newI (bX7_init 1) rfl 0 20 (Or.inl ⟨rfl, rfl⟩) (by decide) (by decide) (by decide) zAI zAZ ⟨by decide, by decide, rfl, rfl, rfl⟩ (by decide) (by decide) ?_
  repeat (refine zv_step (bX7_init 1) rfl rfl trivial ?_)
  refine zv_newI (bX7_init 1) rfl 0 8 (Or.inl ⟨rfl, rfl⟩) (by decide) (by decide) (by decide) zAI zAZ ⟨by decide, by decide, rfl, rfl, rfl⟩ (by decide) (by decide) ?_
  repeat (refine zv_step (bX7_init 1) rfl rfl trivial ?_)
  refine zv_newI (bX7_init 1) rfl 0 8 (Or.inl ⟨rfl, rfl⟩) (by decide) (by decide) (by decide) zAI zAZ ⟨by decide, by decide, rfl, rfl, rfl⟩ (by decide) (by decide) ?_
  repeat (refine zv_step (bX7_init 1) rfl rfl trivial ?_)
  refine zv_newI (bX7_init 1) rfl 0 8 (Or.inl ⟨rfl, rfl⟩) (by decide) (by decide) (by decide) zAI zAZ ⟨by decide, by decide, rfl, rfl, rfl⟩ (by decide) (by decide) ?_
  repeat (refine zv_step (bX7_init 1) rfl rfl trivial ?_)
  refine zv_newI (bX7_init 1) rfl 0 8 (Or.inl ⟨rfl, rfl⟩) (by decide) (by decide) (by decide) zAI zAZ ⟨by decide, by decide, rfl, rfl, rfl⟩ (by decide) (by decide) ?_
  repeat (refine zv_step (bX7_init 1) rfl rfl trivial ?_)
  refine zv_newI (bX7_init 1) rfl 0 480 (Or.inl ⟨rfl, rfl⟩) (by decide) (by decide) (by decide) zAI zAZ ⟨by decide, by decide, rfl, rfl, rfl⟩ (by decide) (by decide) ?_
  repeat (refine zv_step (bX7_init 1) rfl rfl trivial ?_)
  refine zv_newI (bX7_init 1) rfl 0 256 (Or.inl ⟨rfl, rfl⟩) (by decide) (by decide) (by decide) zAI zAZ ⟨by decide, by decide, rfl, rfl, rfl⟩ (by decide) (by decide) ?_
  repeat (refine zv_step (bX7_init 1) rfl rfl trivial ?_)
  refine zv_newI (bX7_init 1) rfl 0 256 (Or.inl ⟨rfl, rfl⟩) (by decide) (by decide) (by decide) zAI zAZ ⟨by decide, by decide, rfl, rfl, rfl⟩ (by decide) (by decide) ?_
  repeat (refine zv_step (bX7_init 1) rfl rfl trivial ?_)
  refine zv_newI (bX7_init 1) rfl 0 5600 (Or.inl ⟨rfl, rfl⟩) (by decide) (by decide) (by decide) zAI zAZ ⟨by decide, by decide, rfl, rfl, rfl⟩ (by decide) (by decide) ?_
  repeat (refine zv_step (bX7_init 1) rfl rfl trivial ?_)
  refine zv_newI (bX7_init 1) rfl 0 280 (Or.inl ⟨rfl, rfl⟩) (by decide) (by decide) (by decide) zAI zAZ ⟨by decide, by decide, rfl, rfl, rfl⟩ (by decide) (by decide) ?_
  repeat (refine zv_step (bX7_init 1) rfl rfl trivial ?_)
  refine zv_newJ (bX7_init 1) rfl 8820 (by decide) (by decide) (by decide) zAJ ⟨by decide, by decide, rfl, rfl, rfl⟩ (by decide) (by decide) ?_
  repeat (refine zv_step (bX7_init 1) rfl rfl trivial ?_)
  refine zv_newJ (bX7_init 1) rfl 441 (by decide) (by decide) (by decide) zAJ ⟨by decide, by decide, rfl, rfl, rfl⟩ (by decide) (by decide) ?_
  repeat (refine zv_step (bX7_init 1) rfl rfl trivial ?_)
  refine zv_newI (bX7_init 1) rfl 0 41 (Or.inl ⟨rfl, rfl⟩) (by decide) (by decide) (by decide) zAI zAZ ⟨by decide, by decide, rfl, rfl, rfl⟩ (by decide) (by decide) ?_
  repeat (refine zv_step (bX7_init 1) rfl rfl trivial ?_)
  refine zv_newI (bX7_init 1) rfl 0 41 (Or.inl ⟨rfl, rfl⟩) (by decide) (by decide) (by decide) zAI zAZ ⟨by decide, by decide, rfl, rfl, rfl⟩ (by decide) (by decide) ?_
  repeat (first | refine zv_step (bX7_init 1) rfl rfl trivial ?_ | refine zv_step (bX7_init 1) rfl rfl (by unfold vp_in; decide) ?_)
  exact zv_ret (bX7_init 1) rfl rfl (by decide) (by decide) ⟨rfl, rfl⟩
end
section
section ZX
variable {M : zM} {al : Bool} {n0 kc ks pc nxt a b : Nat} {c0 : Int} {l : zL} {st rest : List Value} {w : zW} {Q : Option Value → zW → Prop} {tb : List zE}
theorem zv_V0 (ok : zTb M tb) {idx : Nat} (hlook : zlook tb pc = some (.invokevirtual idx, pc + 3, a, 0, c0)) {z : zMt} (hz : zms[a]? = some z) (ha : Nat.ble 9000 a = false) {o d : Nat} {Qc : Option Value → zW → Prop} {ci : Nat} {fs : List Value} {r0 : vw_C} (ho : w[o]? = some (zO ci fs)) (hci : vwCl[ci]? = some r0) (hcl : r0.1 = z.1.cls) (hcat : Nat.ble (rest.map fun v => v.category).sum 8 = true)
    (hal : z.2.2.2.2.1 = false ∧ z.2.2.2.2.2.1 = 0 ∧ z.2.2.2.2.2.2.1 = 0) (hR : d + 1 ≤ M.2.2.2.2.1.frames ∧ 8 + (z.2.2.1 + 11) + 64 * d ≤ M.2.2.2.2.1.locals) (hf : kc ≤ M.2.2.2.2.1.cells ∧ ks ≤ M.2.2.2.2.1.slots)
    (hK : zK d z [.ref o] w Qc) (kk : ∀ (r : Option Value) (w' : zW), Qc r w' → zV M al n0 kc ks (pc + 3) l (r.toList ++ rest) w' Q) : zV M al n0 kc ks pc l (.ref o :: rest) w Q :=
  zv_callV ok hlook hz (As := []) (rest := rest) rfl rfl ha ho hci hcl (Nat.le_of_ble_eq_true hcat) (Or.inl hal.1) hR (by rw [hal.2.1, hal.2.2]; exact hf) hK (by rw [hal.2.1, hal.2.2]; exact kk)
theorem zv_V1 (ok : zTb M tb) {idx : Nat} (hlook : zlook tb pc = some (.invokevirtual idx, pc + 3, a, 1, c0)) {z : zMt} (hz : zms[a]? = some z) (ha : Nat.ble 9000 a = false) {o d : Nat} {v1 : Value} {Qc : Option Value → zW → Prop} {ci : Nat} {fs : List Value} {r0 : vw_C} (ho : w[o]? = some (zO ci fs)) (hci : vwCl[ci]? = some r0) (hcl : r0.1 = z.1.cls) (hcat : Nat.ble (rest.map fun v => v.category).sum 8 = true)
    (hal : z.2.2.2.2.1 = false ∧ z.2.2.2.2.2.1 = 0 ∧ z.2.2.2.2.2.2.1 = 0) (hR : d + 1 ≤ M.2.2.2.2.1.frames ∧ 8 + (z.2.2.1 + 11) + 64 * d ≤ M.2.2.2.2.1.locals) (hf : kc ≤ M.2.2.2.2.1.cells ∧ ks ≤ M.2.2.2.2.1.slots)
    (hK : zK d z [.ref o, v1] w Qc) (kk : ∀ (r : Option Value) (w' : zW), Qc r w' → zV M al n0 kc ks (pc + 3) l (r.toList ++ rest) w' Q) : zV M al n0 kc ks pc l (v1 :: .ref o :: rest) w Q :=
  zv_callV ok hlook hz (As := [v1]) (rest := rest) rfl rfl ha ho hci hcl (Nat.le_of_ble_eq_true hcat) (Or.inl hal.1) hR (by rw [hal.2.1, hal.2.2]; exact hf) hK (by rw [hal.2.1, hal.2.2]; exact kk)
theorem zv_V2 (ok : zTb M tb) {idx : Nat} (hlook : zlook tb pc = some (.invokevirtual idx, pc + 3, a, 2, c0)) {z : zMt} (hz : zms[a]? = some z) (ha : Nat.ble 9000 a = false) {o d : Nat} {v1 v2 : Value} {Qc : Option Value → zW → Prop} {ci : Nat} {fs : List Value} {r0 : vw_C} (ho : w[o]? = some (zO ci fs)) (hci : vwCl[ci]? = some r0) (hcl : r0.1 = z.1.cls) (hcat : Nat.ble (rest.map fun v => v.category).sum 8 = true)
    (hal : z.2.2.2.2.1 = false ∧ z.2.2.2.2.2.1 = 0 ∧ z.2.2.2.2.2.2.1 = 0) (hR : d + 1 ≤ M.2.2.2.2.1.frames ∧ 8 + (z.2.2.1 + 11) + 64 * d ≤ M.2.2.2.2.1.locals) (hf : kc ≤ M.2.2.2.2.1.cells ∧ ks ≤ M.2.2.2.2.1.slots)
    (hK : zK d z [.ref o, v1, v2] w Qc) (kk : ∀ (r : Option Value) (w' : zW), Qc r w' → zV M al n0 kc ks (pc + 3) l (r.toList ++ rest) w' Q) : zV M al n0 kc ks pc l (v2 :: v1 :: .ref o :: rest) w Q :=
  zv_callV ok hlook hz (As := [v1, v2]) (rest := rest) rfl rfl ha ho hci hcl (Nat.le_of_ble_eq_true hcat) (Or.inl hal.1) hR (by rw [hal.2.1, hal.2.2]; exact hf) hK (by rw [hal.2.1, hal.2.2]; exact kk)
theorem zv_V3 (ok : zTb M tb) {idx : Nat} (hlook : zlook tb pc = some (.invokevirtual idx, pc + 3, a, 3, c0)) {z : zMt} (hz : zms[a]? = some z) (ha : Nat.ble 9000 a = false) {o d : Nat} {v1 v2 v3 : Value} {Qc : Option Value → zW → Prop} {ci : Nat} {fs : List Value} {r0 : vw_C} (ho : w[o]? = some (zO ci fs)) (hci : vwCl[ci]? = some r0) (hcl : r0.1 = z.1.cls) (hcat : Nat.ble (rest.map fun v => v.category).sum 8 = true)
    (hal : z.2.2.2.2.1 = false ∧ z.2.2.2.2.2.1 = 0 ∧ z.2.2.2.2.2.2.1 = 0) (hR : d + 1 ≤ M.2.2.2.2.1.frames ∧ 8 + (z.2.2.1 + 11) + 64 * d ≤ M.2.2.2.2.1.locals) (hf : kc ≤ M.2.2.2.2.1.cells ∧ ks ≤ M.2.2.2.2.1.slots)
    (hK : zK d z [.ref o, v1, v2, v3] w Qc) (kk : ∀ (r : Option Value) (w' : zW), Qc r w' → zV M al n0 kc ks (pc + 3) l (r.toList ++ rest) w' Q) : zV M al n0 kc ks pc l (v3 :: v2 :: v1 :: .ref o :: rest) w Q :=
  zv_callV ok hlook hz (As := [v1, v2, v3]) (rest := rest) rfl rfl ha ho hci hcl (Nat.le_of_ble_eq_true hcat) (Or.inl hal.1) hR (by rw [hal.2.1, hal.2.2]; exact hf) hK (by rw [hal.2.1, hal.2.2]; exact kk)
theorem zv_V4 (ok : zTb M tb) {idx : Nat} (hlook : zlook tb pc = some (.invokevirtual idx, pc + 3, a, 4, c0)) {z : zMt} (hz : zms[a]? = some z) (ha : Nat.ble 9000 a = false) {o d : Nat} {v1 v2 v3 v4 : Value} {Qc : Option Value → zW → Prop} {ci : Nat} {fs : List Value} {r0 : vw_C} (ho : w[o]? = some (zO ci fs)) (hci : vwCl[ci]? = some r0) (hcl : r0.1 = z.1.cls) (hcat : Nat.ble (rest.map fun v => v.category).sum 8 = true)
    (hal : z.2.2.2.2.1 = false ∧ z.2.2.2.2.2.1 = 0 ∧ z.2.2.2.2.2.2.1 = 0) (hR : d + 1 ≤ M.2.2.2.2.1.frames ∧ 8 + (z.2.2.1 + 11) + 64 * d ≤ M.2.2.2.2.1.locals) (hf : kc ≤ M.2.2.2.2.1.cells ∧ ks ≤ M.2.2.2.2.1.slots)
    (hK : zK d z [.ref o, v1, v2, v3, v4] w Qc) (kk : ∀ (r : Option Value) (w' : zW), Qc r w' → zV M al n0 kc ks (pc + 3) l (r.toList ++ rest) w' Q) : zV M al n0 kc ks pc l (v4 :: v3 :: v2 :: v1 :: .ref o :: rest) w Q :=
  zv_callV ok hlook hz (As := [v1, v2, v3, v4]) (rest := rest) rfl rfl ha ho hci hcl (Nat.le_of_ble_eq_true hcat) (Or.inl hal.1) hR (by rw [hal.2.1, hal.2.2]; exact hf) hK (by rw [hal.2.1, hal.2.2]; exact kk)
theorem zv_V5 (ok : zTb M tb) {idx : Nat} (hlook : zlook tb pc = some (.invokevirtual idx, pc + 3, a, 5, c0)) {z : zMt} (hz : zms[a]? = some z) (ha : Nat.ble 9000 a = false) {o d : Nat} {v1 v2 v3 v4 v5 : Value} {Qc : Option Value → zW → Prop} {ci : Nat} {fs : List Value} {r0 : vw_C} (ho : w[o]? = some (zO ci fs)) (hci : vwCl[ci]? = some r0) (hcl : r0.1 = z.1.cls) (hcat : Nat.ble (rest.map fun v => v.category).sum 8 = true)
    (hal : z.2.2.2.2.1 = false ∧ z.2.2.2.2.2.1 = 0 ∧ z.2.2.2.2.2.2.1 = 0) (hR : d + 1 ≤ M.2.2.2.2.1.frames ∧ 8 + (z.2.2.1 + 11) + 64 * d ≤ M.2.2.2.2.1.locals) (hf : kc ≤ M.2.2.2.2.1.cells ∧ ks ≤ M.2.2.2.2.1.slots)
    (hK : zK d z [.ref o, v1, v2, v3, v4, v5] w Qc) (kk : ∀ (r : Option Value) (w' : zW), Qc r w' → zV M al n0 kc ks (pc + 3) l (r.toList ++ rest) w' Q) : zV M al n0 kc ks pc l (v5 :: v4 :: v3 :: v2 :: v1 :: .ref o :: rest) w Q :=
  zv_callV ok hlook hz (As := [v1, v2, v3, v4, v5]) (rest := rest) rfl rfl ha ho hci hcl (Nat.le_of_ble_eq_true hcat) (Or.inl hal.1) hR (by rw [hal.2.1, hal.2.2]; exact hf) hK (by rw [hal.2.1, hal.2.2]; exact kk)
theorem zv_S1 (ok : zTb M tb) {idx : Nat} (hlook : zlook tb pc = some (.invokestatic idx, pc + 3, a, 1, c0)) {z : zMt} (hz : zms[a]? = some z) (ha : Nat.ble 9000 a = false) {d : Nat} {v1 : Value} {Qc : Option Value → zW → Prop} (hcat : Nat.ble (rest.map fun v => v.category).sum 8 = true)
    (hal : z.2.2.2.2.1 = false ∧ z.2.2.2.2.2.1 = 0 ∧ z.2.2.2.2.2.2.1 = 0) (hR : d + 1 ≤ M.2.2.2.2.1.frames ∧ 8 + (z.2.2.1 + 11) + 64 * d ≤ M.2.2.2.2.1.locals) (hf : kc ≤ M.2.2.2.2.1.cells ∧ ks ≤ M.2.2.2.2.1.slots)
    (hK : zK d z [v1] w Qc) (kk : ∀ (r : Option Value) (w' : zW), Qc r w' → zV M al n0 kc ks (pc + 3) l (r.toList ++ rest) w' Q) : zV M al n0 kc ks pc l (v1 :: rest) w Q :=
  zv_callS ok hlook hz (As := [v1]) (rest := rest) rfl rfl ha (Nat.le_of_ble_eq_true hcat) (Or.inl hal.1) hR (by rw [hal.2.1, hal.2.2]; exact hf) hK (by rw [hal.2.1, hal.2.2]; exact kk)
theorem zv_S2 (ok : zTb M tb) {idx : Nat} (hlook : zlook tb pc = some (.invokestatic idx, pc + 3, a, 2, c0)) {z : zMt} (hz : zms[a]? = some z) (ha : Nat.ble 9000 a = false) {d : Nat} {v1 v2 : Value} {Qc : Option Value → zW → Prop} (hcat : Nat.ble (rest.map fun v => v.category).sum 8 = true)
    (hal : z.2.2.2.2.1 = false ∧ z.2.2.2.2.2.1 = 0 ∧ z.2.2.2.2.2.2.1 = 0) (hR : d + 1 ≤ M.2.2.2.2.1.frames ∧ 8 + (z.2.2.1 + 11) + 64 * d ≤ M.2.2.2.2.1.locals) (hf : kc ≤ M.2.2.2.2.1.cells ∧ ks ≤ M.2.2.2.2.1.slots)
    (hK : zK d z [v1, v2] w Qc) (kk : ∀ (r : Option Value) (w' : zW), Qc r w' → zV M al n0 kc ks (pc + 3) l (r.toList ++ rest) w' Q) : zV M al n0 kc ks pc l (v2 :: v1 :: rest) w Q :=
  zv_callS ok hlook hz (As := [v1, v2]) (rest := rest) rfl rfl ha (Nat.le_of_ble_eq_true hcat) (Or.inl hal.1) hR (by rw [hal.2.1, hal.2.2]; exact hf) hK (by rw [hal.2.1, hal.2.2]; exact kk)
theorem zv_S3 (ok : zTb M tb) {idx : Nat} (hlook : zlook tb pc = some (.invokestatic idx, pc + 3, a, 3, c0)) {z : zMt} (hz : zms[a]? = some z) (ha : Nat.ble 9000 a = false) {d : Nat} {v1 v2 v3 : Value} {Qc : Option Value → zW → Prop} (hcat : Nat.ble (rest.map fun v => v.category).sum 8 = true)
    (hal : z.2.2.2.2.1 = false ∧ z.2.2.2.2.2.1 = 0 ∧ z.2.2.2.2.2.2.1 = 0) (hR : d + 1 ≤ M.2.2.2.2.1.frames ∧ 8 + (z.2.2.1 + 11) + 64 * d ≤ M.2.2.2.2.1.locals) (hf : kc ≤ M.2.2.2.2.1.cells ∧ ks ≤ M.2.2.2.2.1.slots)
    (hK : zK d z [v1, v2, v3] w Qc) (kk : ∀ (r : Option Value) (w' : zW), Qc r w' → zV M al n0 kc ks (pc + 3) l (r.toList ++ rest) w' Q) : zV M al n0 kc ks pc l (v3 :: v2 :: v1 :: rest) w Q :=
  zv_callS ok hlook hz (As := [v1, v2, v3]) (rest := rest) rfl rfl ha (Nat.le_of_ble_eq_true hcat) (Or.inl hal.1) hR (by rw [hal.2.1, hal.2.2]; exact hf) hK (by rw [hal.2.1, hal.2.2]; exact kk)
theorem zv_getf (ok : zTb M tb) {i : Nat} (hlook : zlook tb pc = some (.getfield i, nxt, a, b, c0)) {k : Nat} {fs : List Value} {v : Value} (hw : w[k]? = some (zO a fs)) (hv : fs[b]? = some v) (kk : zV M al n0 kc ks nxt l (v :: st) w Q) : zV M al n0 kc ks pc l (.ref k :: st) w Q := by
  refine zv_step ok hlook (P := True) (pc' := nxt) (l' := l) (st' := v :: st) (w' := w) ?_ trivial kk
  have e : Nat.beq a a = true := Nat.beq_refl a
  simp only [zstep, hw, hv, e, cond]
theorem zv_putf (ok : zTb M tb) {i : Nat} (hlook : zlook tb pc = some (.putfield i, nxt, a, b, c0)) {k : Nat} {fs : List Value} {v : Value} (hw : w[k]? = some (zO a fs)) (hb : Nat.blt b fs.length = true) (hf : zfit (zty a b) v = true) (kk : zV M al n0 kc ks nxt l st (w.set k (zO a (fs.set b v))) Q) : zV M al n0 kc ks pc l (v :: .ref k :: st) w Q := by
  refine zv_step ok hlook (P := True) (pc' := nxt) (l' := l) (st' := st) (w' := w.set k (zO a (fs.set b v))) ?_ trivial kk
  have e : Nat.beq a a = true := Nat.beq_refl a
  simp only [zstep, hw, hb, hf, e, cond, Bool.and_self]
theorem zv_iald (ok : zTb M tb) (hlook : zlook tb pc = some (.iaload, nxt, a, b, c0)) {k n : Nat} {f : Nat → Int32} {i : Int32} (hw : w[k]? = some (zI 0 n f)) (hi : vp_in i n) (kk : zV M al n0 kc ks nxt l (.int (f i.toNatClampNeg) :: st) w Q) : zV M al n0 kc ks pc l (.int i :: .ref k :: st) w Q := by
  refine zv_step ok hlook (P := vp_in i n) (pc' := nxt) (l' := l) (st' := .int (f i.toNatClampNeg) :: st) (w' := w) ?_ hi kk
  simp only [zstep, hw]
theorem zv_zald (ok : zTb M tb) (hlook : zlook tb pc = some (.baload, nxt, a, b, c0)) {k n : Nat} {f : Nat → Int32} {i : Int32} (hw : w[k]? = some (zI 1 n f)) (hi : vp_in i n) (kk : zV M al n0 kc ks nxt l (.int (f i.toNatClampNeg) :: st) w Q) : zV M al n0 kc ks pc l (.int i :: .ref k :: st) w Q := by
  refine zv_step ok hlook (P := vp_in i n) (pc' := nxt) (l' := l) (st' := .int (f i.toNatClampNeg) :: st) (w' := w) ?_ hi kk
  simp only [zstep, hw]
theorem zv_iast (ok : zTb M tb) (hlook : zlook tb pc = some (.iastore, nxt, a, b, c0)) {k n : Nat} {f : Nat → Int32} {i x : Int32} (hw : w[k]? = some (zI 0 n f)) (hi : vp_in i n) (kk : zV M al n0 kc ks nxt l st (w.set k (zI 0 n (upd f i.toNatClampNeg x))) Q) : zV M al n0 kc ks pc l (.int x :: .int i :: .ref k :: st) w Q := by
  refine zv_step ok hlook (P := vp_in i n) (pc' := nxt) (l' := l) (st' := st) (w' := w.set k (zI 0 n (upd f i.toNatClampNeg x))) ?_ hi kk
  simp only [zstep, hw]
theorem zv_zast (ok : zTb M tb) (hlook : zlook tb pc = some (.bastore, nxt, a, b, c0)) {k n : Nat} {f : Nat → Int32} {i x : Int32} (hw : w[k]? = some (zI 1 n f)) (hi : vp_in i n) (kk : zV M al n0 kc ks nxt l st (w.set k (zI 1 n (upd f i.toNatClampNeg (vp_nar .boolean x)))) Q) : zV M al n0 kc ks pc l (.int x :: .int i :: .ref k :: st) w Q := by
  refine zv_step ok hlook (P := vp_in i n) (pc' := nxt) (l' := l) (st' := st) (w' := w.set k (zI 1 n (upd f i.toNatClampNeg (vp_nar .boolean x)))) ?_ hi kk
  simp only [zstep, hw]
end ZX
/-- what a throw rests on: two static fields of Throwable, and the five texts -/
def zTh (A : Nat → Prop) (U : State) (H : Heap) : Prop := vx_Zq Bundle.tN "UNASSIGNED_STACK" Bundle.steD A U H ∧ vx_Zq Bundle.tN "SUPPRESSED_SENTINEL" Bundle.listD A U H ∧ (∃ a, vk_R RX6 171 "no such style" a U) ∧ (∃ a, vk_R RX6 262 "no such shelf" a U) ∧ (∃ a, vk_R RX6 267 "the shelf holds no row" a U) ∧ (∃ a, vk_R RX6 272 "the row has no such place" a U) ∧ (∃ a, vk_R RX6 224 "the walk is too deep for a path" a U) ∧ va_Nw (.castable "java/lang/IllegalArgumentException" "java/lang/IllegalArgumentException") U ∧ va_Nw (.castable "java/lang/IllegalStateException" "java/lang/IllegalStateException") U ∧ va_Nc "java/lang/IllegalStateException" "java/lang/IllegalArgumentException" U
/-! the law's own point of view: its script lies outside the world, at the number zsent -/
abbrev zLw (b L : Nat) (xs : Nat → Int32) : zM := (RL, cL_law, 8, false, room_1, some .boolean, fun _ _ _ s _ _ _ _ _ _ _ _ ad0 A _ => ad0 zsent = b ∧ va_X b L xs s s.heap ∧ b < s.heap.size ∧ ¬ A b ∧ zTh A s s.heap)
theorem bLw (b L : Nat) (xs : Nat → Int32) : zTb (zLw b L xs) tL_law := ⟨fRL, gRL, oL_law⟩
section ZLW
variable {bb L : Nat} {xs : Nat → Int32} {al : Bool} {n0 kc ks pc a b : Nat} {c0 : Int} {l : zL} {st : List Value} {w : zW} {Q : Option Value → zW → Prop}
theorem zv_slen (hlook : zlook tL_law pc = some (.arraylength, pc + 1, a, b, c0)) (kk : zV (zLw bb L xs) al n0 kc ks (pc + 1) l (.int (Int32.ofNat L) :: st) w Q) : zV (zLw bb L xs) al n0 kc ks pc l (.ref zsent :: st) w Q := by
  intro p l0 e s m args below meth c dC dI dA ad0 A Z h9t hctx hfin ad H locs ls hrel hl
  have h0 := oL_law _ (zlook_mem hlook)
  simp only [zgood, Bool.and_eq_true, decide_eq_true_eq, Nat.add_sub_cancel_left] at h0
  have k9 := kk p l0 e s m args below meth c dC dI dA ad0 A Z h9t hctx hfin ad H locs ls hrel hl
  obtain ⟨hx, hbb, hml, hown, hts, hKc, hA, hxn, hE1, hE2, hE3, hE4, -⟩ := id hctx
  have ee : ad zsent = bb := (hrel.2.1 zsent (Or.inr (Nat.le_refl _))).trans hE1
  show W p l0 e room_1 s m args below meth c H locs kc ks Z (F0 m pc ls (.ref (ad zsent) :: st.map (zv ad)))
  rw [ee]
  exact va_slen hx hbb hE2 hE3 hE4 hrel.2.2.2.2 h0.1.1 k9
theorem zv_sld (hlook : zlook tL_law pc = some (.iaload, pc + 1, a, b, c0)) {i : Int32} (hi : vp_in i L) (kk : zV (zLw bb L xs) al n0 kc ks (pc + 1) l (.int (xs i.toNatClampNeg) :: st) w Q) : zV (zLw bb L xs) al n0 kc ks pc l (.int i :: .ref zsent :: st) w Q := by
  intro p l0 e s m args below meth c dC dI dA ad0 A Z h9t hctx hfin ad H locs ls hrel hl
  have h0 := oL_law _ (zlook_mem hlook)
  simp only [zgood, Bool.and_eq_true, decide_eq_true_eq, Nat.add_sub_cancel_left] at h0
  have k9 := kk p l0 e s m args below meth c dC dI dA ad0 A Z h9t hctx hfin ad H locs ls hrel hl
  obtain ⟨hx, hbb, hml, hown, hts, hKc, hA, hxn, hE1, hE2, hE3, hE4, -⟩ := id hctx
  have ee : ad zsent = bb := (hrel.2.1 zsent (Or.inr (Nat.le_refl _))).trans hE1
  show W p l0 e room_1 s m args below meth c H locs kc ks Z (F0 m pc ls (.int i :: .ref (ad zsent) :: st.map (zv ad)))
  rw [ee]
  exact va_sld hx hbb hE2 hE3 hE4 hrel.2.2.2.2 hi h0.1.1 k9
end ZLW
end
section
/-- the world behind the two constructors: the class 0 .. 75, the reference 76 .. 98, the law's long row 99 -/
def w0 : zW := [zO 5 [.ref 1, .ref 14, .ref 27, .ref 29, .ref 31, .ref 55, .ref 58, .ref 75, .int 0], zO 1 [.ref 2, .ref 3, .ref 4, .ref 5, .ref 6, .ref 7, .ref 8, .ref 9, .ref 10, .ref 11, .ref 12, .ref 13, .int 0], zI 0 120 (fun _ => 0), zI 0 120 (fun _ => 0), zI 0 120 (fun _ => 0), zI 0 120 (fun _ => 0), zI 0 120 (fun _ => 0), zI 0 120 (fun _ => 0), zI 0 120 (fun _ => 0), zI 0 120 (fun _ => 0), zI 0 120 (fun _ => 0), zI 0 120 (fun _ => 0), zI 0 120 (fun _ => 0), zI 0 120 (fun _ => 0), zO 1 [.ref 15, .ref 16, .ref 17, .ref 18, .ref 19, .ref 20, .ref 21, .ref 22, .ref 23, .ref 24, .ref 25, .ref 26, .int 0], zI 0 120 (fun _ => 0), zI 0 120 (fun _ => 0), zI 0 120 (fun _ => 0), zI 0 120 (fun _ => 0), zI 0 120 (fun _ => 0), zI 0 120 (fun _ => 0), zI 0 120 (fun _ => 0), zI 0 120 (fun _ => 0), zI 0 120 (fun _ => 0), zI 0 120 (fun _ => 0), zI 0 120 (fun _ => 0), zI 0 120 (fun _ => 0), zO 3 [.ref 28, .int 0, .int 0, .int 0], zI 0 80 (fun _ => 0), zO 3 [.ref 30, .int 0, .int 0, .int 0], zI 0 80 (fun _ => 0), zO 0 [.ref 32, .int 0, .ref 33, .int 0, .int 0, .int 0], zI 0 20 (fun _ => 0), zR 4 [some 34, some 35, some 36, some 37, some 38, some 39, some 40, some 41, some 42, some 43, some 44, some 45, some 46, some 47, some 48, some 49, some 50, some 51, some 52, some 53, some 54], zJ 21 (fun _ => 0), zJ 21 (fun _ => 0), zJ 21 (fun _ => 0), zJ 21 (fun _ => 0), zJ 21 (fun _ => 0), zJ 21 (fun _ => 0), zJ 21 (fun _ => 0), zJ 21 (fun _ => 0), zJ 21 (fun _ => 0), zJ 21 (fun _ => 0), zJ 21 (fun _ => 0), zJ 21 (fun _ => 0), zJ 21 (fun _ => 0), zJ 21 (fun _ => 0), zJ 21 (fun _ => 0), zJ 21 (fun _ => 0), zJ 21 (fun _ => 0), zJ 21 (fun _ => 0), zJ 21 (fun _ => 0), zJ 21 (fun _ => 0), zJ 21 (fun _ => 0), zO 4 [.ref 56, .ref 57, .int 0, .int 0], zI 0 40 (fun _ => 0), zI 0 40 (fun _ => 0), zR 3 [some 59, some 61, some 63, some 65, some 67, some 69, some 71, some 73], zO 2 [.int 0, .int (-1), .int 0, .int 0, .ref 60, .int 0], zI 0 60 (fun _ => 0), zO 2 [.int 0, .int (-1), .int 0, .int 0, .ref 62, .int 0], zI 0 60 (fun _ => 0), zO 2 [.int 0, .int (-1), .int 0, .int 0, .ref 64, .int 0], zI 0 60 (fun _ => 0), zO 2 [.int 0, .int (-1), .int 0, .int 0, .ref 66, .int 0], zI 0 60 (fun _ => 0), zO 2 [.int 0, .int (-1), .int 0, .int 0, .ref 68, .int 0], zI 0 60 (fun _ => 0), zO 2 [.int 0, .int (-1), .int 0, .int 0, .ref 70, .int 0], zI 0 60 (fun _ => 0), zO 2 [.int 0, .int (-1), .int 0, .int 0, .ref 72, .int 0], zI 0 60 (fun _ => 0), zO 2 [.int 0, .int (-1), .int 0, .int 0, .ref 74, .int 0], zI 0 60 (fun _ => 0), zI 0 8 (upd (fun _ => 0) 0 764), zO 6 [.int 0, .ref 77, .ref 78, .ref 79, .ref 80, .ref 81, .ref 82, .ref 83, .ref 84, .ref 85, .int 0, .ref 86, .ref 87, .ref 88, .ref 89, .ref 90, .int 0, .ref 91, .int 0, .int (-1), .int 0, .int 0, .ref 92, .int 0, .ref 93, .ref 94, .ref 95, .ref 96, .int 0, .int 0, .int 0, .ref 97, .ref 98, .int 0, .int 0], zI 0 450 (fun _ => 0), zI 0 450 (fun _ => 0), zI 0 450 (fun _ => 0), zI 0 450 (fun _ => 0), zI 0 450 (fun _ => 0), zI 0 450 (fun _ => 0), zI 1 10 (fun _ => 0), zI 1 90 (upd (upd (upd (upd (upd (upd (upd (upd ((fun _ => 0)) 2 1) 3 1) 4 1) 5 1) 6 1) 7 1) 8 0) 9 1), zI 0 20 (fun _ => 0), zI 0 8 (fun _ => 0), zI 0 8 (fun _ => 0), zI 0 8 (fun _ => 0), zI 0 8 (fun _ => 0), zI 0 480 (fun _ => 0), zI 0 256 (fun _ => 0), zI 0 256 (fun _ => 0), zI 0 5600 (fun _ => 0), zI 0 280 (fun _ => 0), zJ 8820 (fun _ => 0), zJ 441 (fun _ => 0), zI 0 41 (fun _ => 0), zI 0 41 (fun _ => 0), zJ 1 (fun _ => 0)]
theorem i8c (n : Int) (h : -128 ≤ n ∧ n < 128) : ((Int8.ofInt n).toInt32).toInt = n := by
  rw [Int8.toInt_toInt32, Int8.toInt_ofInt, show (Int8.size : Nat) = 256 from rfl]
  exact Int.bmod_eq_of_le (by omega) (by omega)
theorem i16c (n : Int) (h : -32768 ≤ n ∧ n < 32768) : ((Int16.ofInt n).toInt32).toInt = n := by
  rw [Int16.toInt_toInt32, Int16.toInt_ofInt, show (Int16.size : Nat) = 65536 from rfl]
  exact Int.bmod_eq_of_le (by omega) (by omega)
theorem i32c (n : Int) (h : -2147483648 ≤ n ∧ n < 2147483648) : (Int32.ofInt n).toInt = n := by
  rw [Int32.toInt_ofInt, show (Int32.size : Nat) = 4294967296 from rfl]
  exact Int.bmod_eq_of_le (by omega) (by omega)
theorem i64c (n : Int) (h : -9223372036854775808 ≤ n ∧ n < 9223372036854775808) : (Int64.ofInt n).toInt = n := by
  rw [Int64.toInt_ofInt, show (Int64.size : Nat) = 18446744073709551616 from rfl]
  exact Int.bmod_eq_of_le (by omega) (by omega)
end
section
theorem zcase2 (x : Int32) : x = 0 ∨ x = 1 ∨ x = 2 ∨ (x.toInt < 0 ∨ 2 < x.toInt) := by
  by_cases h : x.toInt < 0 ∨ 2 < x.toInt
  · exact Or.inr (Or.inr (Or.inr (h)))
  · have hx : x = Int32.ofInt x.toInt := (Int32.ofInt_toInt x).symm
    obtain ⟨k, hk⟩ : ∃ k : Nat, x.toInt = (k : Int) := ⟨x.toInt.toNat, by omega⟩
    rw [hk] at hx h
    have hk2 : k < 3 := by omega
    match k, hk2, hx with
    | 0, _, hx => exact Or.inl (hx.trans (by decide +kernel))
    | 1, _, hx => exact Or.inr (Or.inl (hx.trans (by decide +kernel)))
    | 2, _, hx => exact Or.inr (Or.inr (Or.inl (hx.trans (by decide +kernel))))
theorem zcase4 (x : Int32) : x = 0 ∨ x = 1 ∨ x = 2 ∨ x = 3 ∨ x = 4 ∨ (x.toInt < 0 ∨ 4 < x.toInt) := by
  by_cases h : x.toInt < 0 ∨ 4 < x.toInt
  · exact Or.inr (Or.inr (Or.inr (Or.inr (Or.inr (h)))))
  · have hx : x = Int32.ofInt x.toInt := (Int32.ofInt_toInt x).symm
    obtain ⟨k, hk⟩ : ∃ k : Nat, x.toInt = (k : Int) := ⟨x.toInt.toNat, by omega⟩
    rw [hk] at hx h
    have hk2 : k < 5 := by omega
    match k, hk2, hx with
    | 0, _, hx => exact Or.inl (hx.trans (by decide +kernel))
    | 1, _, hx => exact Or.inr (Or.inl (hx.trans (by decide +kernel)))
    | 2, _, hx => exact Or.inr (Or.inr (Or.inl (hx.trans (by decide +kernel))))
    | 3, _, hx => exact Or.inr (Or.inr (Or.inr (Or.inl (hx.trans (by decide +kernel)))))
    | 4, _, hx => exact Or.inr (Or.inr (Or.inr (Or.inr (Or.inl (hx.trans (by decide +kernel))))))
theorem zcase7 (x : Int32) : x = 0 ∨ x = 1 ∨ x = 2 ∨ x = 3 ∨ x = 4 ∨ x = 5 ∨ x = 6 ∨ x = 7 ∨ (x.toInt < 0 ∨ 7 < x.toInt) := by
  by_cases h : x.toInt < 0 ∨ 7 < x.toInt
  · exact Or.inr (Or.inr (Or.inr (Or.inr (Or.inr (Or.inr (Or.inr (Or.inr (h))))))))
  · have hx : x = Int32.ofInt x.toInt := (Int32.ofInt_toInt x).symm
    obtain ⟨k, hk⟩ : ∃ k : Nat, x.toInt = (k : Int) := ⟨x.toInt.toNat, by omega⟩
    rw [hk] at hx h
    have hk2 : k < 8 := by omega
    match k, hk2, hx with
    | 0, _, hx => exact Or.inl (hx.trans (by decide +kernel))
    | 1, _, hx => exact Or.inr (Or.inl (hx.trans (by decide +kernel)))
    | 2, _, hx => exact Or.inr (Or.inr (Or.inl (hx.trans (by decide +kernel))))
    | 3, _, hx => exact Or.inr (Or.inr (Or.inr (Or.inl (hx.trans (by decide +kernel)))))
    | 4, _, hx => exact Or.inr (Or.inr (Or.inr (Or.inr (Or.inl (hx.trans (by decide +kernel))))))
    | 5, _, hx => exact Or.inr (Or.inr (Or.inr (Or.inr (Or.inr (Or.inl (hx.trans (by decide +kernel)))))))
    | 6, _, hx => exact Or.inr (Or.inr (Or.inr (Or.inr (Or.inr (Or.inr (Or.inl (hx.trans (by decide +kernel))))))))
    | 7, _, hx => exact Or.inr (Or.inr (Or.inr (Or.inr (Or.inr (Or.inr (Or.inr (Or.inl (hx.trans (by decide +kernel)))))))))
theorem l0c : (Int64.ofNat ((0 : Fin 2) : Nat)).toInt = 0 := by decide +kernel
theorem l1c : (Int64.ofNat ((1 : Fin 2) : Nat)).toInt = 1 := by decide +kernel
theorem z32 (x : Int32) : x = 0 ↔ x.toInt = 0 := ⟨fun h => by rw [h]; rfl, fun h => Int32.toInt_inj.mp (by rw [h]; rfl)⟩
theorem i8e (x : Int32) (n : Int) (h : -128 ≤ n ∧ n < 128) : x = (Int8.ofInt n).toInt32 ↔ x.toInt = n := ⟨fun q => by rw [q, i8c n h], fun q => Int32.toInt_inj.mp (by rw [q, i8c n h])⟩
theorem i32e (x : Int32) (n : Int) (h : -2147483648 ≤ n ∧ n < 2147483648) : x = Int32.ofInt n ↔ x.toInt = n := ⟨fun q => by rw [q, i32c n h], fun q => Int32.toInt_inj.mp (by rw [q, i32c n h])⟩
set_option maxHeartbeats 4000000 in
set_option maxRecDepth 20000 in
theorem hX6_isShelf (w : zW) (x : Int32) : zK 0 zX6_isShelf [.int x] w (fun r w' => w' = w ∧ (((0 ≤ x.toInt ∧ x.toInt ≤ 7) ∧ r = some (.int 1)) ∨ (¬ ((0 ≤ x.toInt ∧ x.toInt ≤ 7)) ∧ r = some (.int 0)))) := by
  refine zK_of qX6_isShelf (by decide +kernel) rfl ?_
  repeat' (first
    | refine zv_step (bX6_isShelf 0) rfl rfl trivial ?_
    | (dsimp only; split)
    | refine zv_iret (bX6_isShelf 0) rfl (Or.inr ⟨rfl, Or.inl rfl⟩) (Nat.zero_le _) (Nat.zero_le _) ?_
    | refine zv_iret (bX6_isShelf 0) rfl (Or.inr ⟨rfl, Or.inr rfl⟩) (Nat.zero_le _) (Nat.zero_le _) ?_)
  all_goals first | exact ⟨rfl, Or.inl ⟨(by first | decide | ((try simp only [lg_cmp_lt, lg_cmp_gt, lg_cmp_ge, lg_cmp_le, lg_cmp_eq] at *); (try simp only [Int32.lt_iff_toInt_lt, Int32.le_iff_toInt_le, Int64.lt_iff_toInt_lt, Int64.le_iff_toInt_le, Int32.toInt_toInt64, lg_cmp_lt, lg_cmp_gt, lg_cmp_ge, lg_cmp_le, i8c, i16c, i32c, i64c, l0c, l1c, z32, i8e, i32e, Decidable.not_not, Int.reduceNeg, Int.reduceLE, Int.reduceLT, and_self, Int32.toInt_zero, Int.not_lt, Int.not_le] at *); omega)), rfl⟩⟩ | exact ⟨rfl, Or.inr ⟨(by first | decide | ((try simp only [lg_cmp_lt, lg_cmp_gt, lg_cmp_ge, lg_cmp_le, lg_cmp_eq] at *); (try simp only [Int32.lt_iff_toInt_lt, Int32.le_iff_toInt_le, Int64.lt_iff_toInt_lt, Int64.le_iff_toInt_le, Int32.toInt_toInt64, lg_cmp_lt, lg_cmp_gt, lg_cmp_ge, lg_cmp_le, i8c, i16c, i32c, i64c, l0c, l1c, z32, i8e, i32e, Decidable.not_not, Int.reduceNeg, Int.reduceLE, Int.reduceLT, and_self, Int32.toInt_zero, Int.not_lt, Int.not_le] at *); omega)), rfl⟩⟩ | (exfalso; (try simp only [lg_cmp_lt, lg_cmp_gt, lg_cmp_ge, lg_cmp_le, lg_cmp_eq] at *); (try simp only [Int32.lt_iff_toInt_lt, Int32.le_iff_toInt_le, Int64.lt_iff_toInt_lt, Int64.le_iff_toInt_le, Int32.toInt_toInt64, lg_cmp_lt, lg_cmp_gt, lg_cmp_ge, lg_cmp_le, i8c, i16c, i32c, i64c, l0c, l1c, z32, i8e, i32e, Decidable.not_not, Int.reduceNeg, Int.reduceLE, Int.reduceLT, and_self, Int32.toInt_zero, Int.not_lt, Int.not_le] at *); omega)

set_option maxHeartbeats 4000000 in
set_option maxRecDepth 20000 in
theorem hX6_isStyle (w : zW) (x : Int32) : zK 0 zX6_isStyle [.int x] w (fun r w' => w' = w ∧ (((0 ≤ x.toInt ∧ x.toInt ≤ 7) ∧ r = some (.int 1)) ∨ (¬ ((0 ≤ x.toInt ∧ x.toInt ≤ 7)) ∧ r = some (.int 0)))) := by
  refine zK_of qX6_isStyle (by decide +kernel) rfl ?_
  repeat' (first
    | refine zv_step (bX6_isStyle 0) rfl rfl trivial ?_
    | (dsimp only; split)
    | refine zv_iret (bX6_isStyle 0) rfl (Or.inr ⟨rfl, Or.inl rfl⟩) (Nat.zero_le _) (Nat.zero_le _) ?_
    | refine zv_iret (bX6_isStyle 0) rfl (Or.inr ⟨rfl, Or.inr rfl⟩) (Nat.zero_le _) (Nat.zero_le _) ?_)
  all_goals first | exact ⟨rfl, Or.inl ⟨(by first | decide | ((try simp only [lg_cmp_lt, lg_cmp_gt, lg_cmp_ge, lg_cmp_le, lg_cmp_eq] at *); (try simp only [Int32.lt_iff_toInt_lt, Int32.le_iff_toInt_le, Int64.lt_iff_toInt_lt, Int64.le_iff_toInt_le, Int32.toInt_toInt64, lg_cmp_lt, lg_cmp_gt, lg_cmp_ge, lg_cmp_le, i8c, i16c, i32c, i64c, l0c, l1c, z32, i8e, i32e, Decidable.not_not, Int.reduceNeg, Int.reduceLE, Int.reduceLT, and_self, Int32.toInt_zero, Int.not_lt, Int.not_le] at *); omega)), rfl⟩⟩ | exact ⟨rfl, Or.inr ⟨(by first | decide | ((try simp only [lg_cmp_lt, lg_cmp_gt, lg_cmp_ge, lg_cmp_le, lg_cmp_eq] at *); (try simp only [Int32.lt_iff_toInt_lt, Int32.le_iff_toInt_le, Int64.lt_iff_toInt_lt, Int64.le_iff_toInt_le, Int32.toInt_toInt64, lg_cmp_lt, lg_cmp_gt, lg_cmp_ge, lg_cmp_le, i8c, i16c, i32c, i64c, l0c, l1c, z32, i8e, i32e, Decidable.not_not, Int.reduceNeg, Int.reduceLE, Int.reduceLT, and_self, Int32.toInt_zero, Int.not_lt, Int.not_le] at *); omega)), rfl⟩⟩ | (exfalso; (try simp only [lg_cmp_lt, lg_cmp_gt, lg_cmp_ge, lg_cmp_le, lg_cmp_eq] at *); (try simp only [Int32.lt_iff_toInt_lt, Int32.le_iff_toInt_le, Int64.lt_iff_toInt_lt, Int64.le_iff_toInt_le, Int32.toInt_toInt64, lg_cmp_lt, lg_cmp_gt, lg_cmp_ge, lg_cmp_le, i8c, i16c, i32c, i64c, l0c, l1c, z32, i8e, i32e, Decidable.not_not, Int.reduceNeg, Int.reduceLE, Int.reduceLT, and_self, Int32.toInt_zero, Int.not_lt, Int.not_le] at *); omega)

set_option maxHeartbeats 4000000 in
set_option maxRecDepth 20000 in
theorem hX6_isLetter (w : zW) (x : Int32) : zK 0 zX6_isLetter [.int x] w (fun r w' => w' = w ∧ (((0 ≤ x.toInt ∧ x.toInt ≤ 9) ∧ r = some (.int 1)) ∨ (¬ ((0 ≤ x.toInt ∧ x.toInt ≤ 9)) ∧ r = some (.int 0)))) := by
  refine zK_of qX6_isLetter (by decide +kernel) rfl ?_
  repeat' (first
    | refine zv_step (bX6_isLetter 0) rfl rfl trivial ?_
    | (dsimp only; split)
    | refine zv_iret (bX6_isLetter 0) rfl (Or.inr ⟨rfl, Or.inl rfl⟩) (Nat.zero_le _) (Nat.zero_le _) ?_
    | refine zv_iret (bX6_isLetter 0) rfl (Or.inr ⟨rfl, Or.inr rfl⟩) (Nat.zero_le _) (Nat.zero_le _) ?_)
  all_goals first | exact ⟨rfl, Or.inl ⟨(by first | decide | ((try simp only [lg_cmp_lt, lg_cmp_gt, lg_cmp_ge, lg_cmp_le, lg_cmp_eq] at *); (try simp only [Int32.lt_iff_toInt_lt, Int32.le_iff_toInt_le, Int64.lt_iff_toInt_lt, Int64.le_iff_toInt_le, Int32.toInt_toInt64, lg_cmp_lt, lg_cmp_gt, lg_cmp_ge, lg_cmp_le, i8c, i16c, i32c, i64c, l0c, l1c, z32, i8e, i32e, Decidable.not_not, Int.reduceNeg, Int.reduceLE, Int.reduceLT, and_self, Int32.toInt_zero, Int.not_lt, Int.not_le] at *); omega)), rfl⟩⟩ | exact ⟨rfl, Or.inr ⟨(by first | decide | ((try simp only [lg_cmp_lt, lg_cmp_gt, lg_cmp_ge, lg_cmp_le, lg_cmp_eq] at *); (try simp only [Int32.lt_iff_toInt_lt, Int32.le_iff_toInt_le, Int64.lt_iff_toInt_lt, Int64.le_iff_toInt_le, Int32.toInt_toInt64, lg_cmp_lt, lg_cmp_gt, lg_cmp_ge, lg_cmp_le, i8c, i16c, i32c, i64c, l0c, l1c, z32, i8e, i32e, Decidable.not_not, Int.reduceNeg, Int.reduceLE, Int.reduceLT, and_self, Int32.toInt_zero, Int.not_lt, Int.not_le] at *); omega)), rfl⟩⟩ | (exfalso; (try simp only [lg_cmp_lt, lg_cmp_gt, lg_cmp_ge, lg_cmp_le, lg_cmp_eq] at *); (try simp only [Int32.lt_iff_toInt_lt, Int32.le_iff_toInt_le, Int64.lt_iff_toInt_lt, Int64.le_iff_toInt_le, Int32.toInt_toInt64, lg_cmp_lt, lg_cmp_gt, lg_cmp_ge, lg_cmp_le, i8c, i16c, i32c, i64c, l0c, l1c, z32, i8e, i32e, Decidable.not_not, Int.reduceNeg, Int.reduceLE, Int.reduceLT, and_self, Int32.toInt_zero, Int.not_lt, Int.not_le] at *); omega)

set_option maxHeartbeats 4000000 in
set_option maxRecDepth 20000 in
theorem hX6_isStyleOrFree (w : zW) (x : Int32) : zK 1 zX6_isStyleOrFree [.int x] w (fun r w' => w' = w ∧ (((0 ≤ x.toInt ∧ x.toInt ≤ 8) ∧ r = some (.int 1)) ∨ (¬ ((0 ≤ x.toInt ∧ x.toInt ≤ 8)) ∧ r = some (.int 0)))) := by
  refine zK_of qX6_isStyleOrFree (by decide +kernel) rfl ?_
  repeat' (first
    | refine zv_step (bX6_isStyleOrFree 1) rfl rfl trivial ?_
    | (dsimp only; split)
    | (refine zv_S1 (bX6_isStyleOrFree 1) rfl rfl rfl rfl ⟨rfl, rfl, rfl⟩ ⟨by decide, by decide⟩ ⟨Nat.zero_le _, Nat.zero_le _⟩ (hX6_isStyle _ _) ?_; rintro _ _ ⟨rfl, ⟨hh, rfl⟩ | ⟨hh, rfl⟩⟩)
    | refine zv_iret (bX6_isStyleOrFree 1) rfl (Or.inr ⟨rfl, Or.inl rfl⟩) (Nat.zero_le _) (Nat.zero_le _) ?_
    | refine zv_iret (bX6_isStyleOrFree 1) rfl (Or.inr ⟨rfl, Or.inr rfl⟩) (Nat.zero_le _) (Nat.zero_le _) ?_)
  all_goals first | exact ⟨rfl, Or.inl ⟨(by first | decide | ((try simp only [lg_cmp_lt, lg_cmp_gt, lg_cmp_ge, lg_cmp_le, lg_cmp_eq] at *); (try simp only [Int32.lt_iff_toInt_lt, Int32.le_iff_toInt_le, Int64.lt_iff_toInt_lt, Int64.le_iff_toInt_le, Int32.toInt_toInt64, lg_cmp_lt, lg_cmp_gt, lg_cmp_ge, lg_cmp_le, i8c, i16c, i32c, i64c, l0c, l1c, z32, i8e, i32e, Decidable.not_not, Int.reduceNeg, Int.reduceLE, Int.reduceLT, and_self, Int32.toInt_zero, Int.not_lt, Int.not_le] at *); omega)), rfl⟩⟩ | exact ⟨rfl, Or.inr ⟨(by first | decide | ((try simp only [lg_cmp_lt, lg_cmp_gt, lg_cmp_ge, lg_cmp_le, lg_cmp_eq] at *); (try simp only [Int32.lt_iff_toInt_lt, Int32.le_iff_toInt_le, Int64.lt_iff_toInt_lt, Int64.le_iff_toInt_le, Int32.toInt_toInt64, lg_cmp_lt, lg_cmp_gt, lg_cmp_ge, lg_cmp_le, i8c, i16c, i32c, i64c, l0c, l1c, z32, i8e, i32e, Decidable.not_not, Int.reduceNeg, Int.reduceLE, Int.reduceLT, and_self, Int32.toInt_zero, Int.not_lt, Int.not_le] at *); omega)), rfl⟩⟩ | (exfalso; (try simp only [lg_cmp_lt, lg_cmp_gt, lg_cmp_ge, lg_cmp_le, lg_cmp_eq] at *); (try simp only [Int32.lt_iff_toInt_lt, Int32.le_iff_toInt_le, Int64.lt_iff_toInt_lt, Int64.le_iff_toInt_le, Int32.toInt_toInt64, lg_cmp_lt, lg_cmp_gt, lg_cmp_ge, lg_cmp_le, i8c, i16c, i32c, i64c, l0c, l1c, z32, i8e, i32e, Decidable.not_not, Int.reduceNeg, Int.reduceLE, Int.reduceLT, and_self, Int32.toInt_zero, Int.not_lt, Int.not_le] at *); omega)

set_option maxHeartbeats 4000000 in
set_option maxRecDepth 20000 in
theorem hX1_isPair (w : zW) (x : Int32) : zK 0 zX1_isPair [.int x] w (fun r w' => w' = w ∧ (((2 ≤ x.toInt ∧ x.toInt ≤ 6) ∧ r = some (.int 1)) ∨ (¬ ((2 ≤ x.toInt ∧ x.toInt ≤ 6)) ∧ r = some (.int 0)))) := by
  refine zK_of qX1_isPair (by decide +kernel) rfl ?_
  repeat' (first
    | refine zv_step (bX1_isPair 0) rfl rfl trivial ?_
    | (dsimp only; split)
    | refine zv_iret (bX1_isPair 0) rfl (Or.inr ⟨rfl, Or.inl rfl⟩) (Nat.zero_le _) (Nat.zero_le _) ?_
    | refine zv_iret (bX1_isPair 0) rfl (Or.inr ⟨rfl, Or.inr rfl⟩) (Nat.zero_le _) (Nat.zero_le _) ?_)
  all_goals first | exact ⟨rfl, Or.inl ⟨(by first | decide | ((try simp only [lg_cmp_lt, lg_cmp_gt, lg_cmp_ge, lg_cmp_le, lg_cmp_eq] at *); (try simp only [Int32.lt_iff_toInt_lt, Int32.le_iff_toInt_le, Int64.lt_iff_toInt_lt, Int64.le_iff_toInt_le, Int32.toInt_toInt64, lg_cmp_lt, lg_cmp_gt, lg_cmp_ge, lg_cmp_le, i8c, i16c, i32c, i64c, l0c, l1c, z32, i8e, i32e, Decidable.not_not, Int.reduceNeg, Int.reduceLE, Int.reduceLT, and_self, Int32.toInt_zero, Int.not_lt, Int.not_le] at *); omega)), rfl⟩⟩ | exact ⟨rfl, Or.inr ⟨(by first | decide | ((try simp only [lg_cmp_lt, lg_cmp_gt, lg_cmp_ge, lg_cmp_le, lg_cmp_eq] at *); (try simp only [Int32.lt_iff_toInt_lt, Int32.le_iff_toInt_le, Int64.lt_iff_toInt_lt, Int64.le_iff_toInt_le, Int32.toInt_toInt64, lg_cmp_lt, lg_cmp_gt, lg_cmp_ge, lg_cmp_le, i8c, i16c, i32c, i64c, l0c, l1c, z32, i8e, i32e, Decidable.not_not, Int.reduceNeg, Int.reduceLE, Int.reduceLT, and_self, Int32.toInt_zero, Int.not_lt, Int.not_le] at *); omega)), rfl⟩⟩ | (exfalso; (try simp only [lg_cmp_lt, lg_cmp_gt, lg_cmp_ge, lg_cmp_le, lg_cmp_eq] at *); (try simp only [Int32.lt_iff_toInt_lt, Int32.le_iff_toInt_le, Int64.lt_iff_toInt_lt, Int64.le_iff_toInt_le, Int32.toInt_toInt64, lg_cmp_lt, lg_cmp_gt, lg_cmp_ge, lg_cmp_le, i8c, i16c, i32c, i64c, l0c, l1c, z32, i8e, i32e, Decidable.not_not, Int.reduceNeg, Int.reduceLE, Int.reduceLT, and_self, Int32.toInt_zero, Int.not_lt, Int.not_le] at *); omega)

set_option maxHeartbeats 4000000 in
set_option maxRecDepth 20000 in
theorem hX1_isPrefix (w : zW) (x : Int32) : zK 0 zX1_isPrefix [.int x] w (fun r w' => w' = w ∧ (((x.toInt = 7 ∨ x.toInt = 9) ∧ r = some (.int 1)) ∨ (¬ ((x.toInt = 7 ∨ x.toInt = 9)) ∧ r = some (.int 0)))) := by
  refine zK_of qX1_isPrefix (by decide +kernel) rfl ?_
  repeat' (first
    | refine zv_step (bX1_isPrefix 0) rfl rfl trivial ?_
    | (dsimp only; split)
    | refine zv_iret (bX1_isPrefix 0) rfl (Or.inr ⟨rfl, Or.inl rfl⟩) (Nat.zero_le _) (Nat.zero_le _) ?_
    | refine zv_iret (bX1_isPrefix 0) rfl (Or.inr ⟨rfl, Or.inr rfl⟩) (Nat.zero_le _) (Nat.zero_le _) ?_)
  all_goals first | exact ⟨rfl, Or.inl ⟨(by first | decide | ((try simp only [lg_cmp_lt, lg_cmp_gt, lg_cmp_ge, lg_cmp_le, lg_cmp_eq] at *); (try simp only [Int32.lt_iff_toInt_lt, Int32.le_iff_toInt_le, Int64.lt_iff_toInt_lt, Int64.le_iff_toInt_le, Int32.toInt_toInt64, lg_cmp_lt, lg_cmp_gt, lg_cmp_ge, lg_cmp_le, i8c, i16c, i32c, i64c, l0c, l1c, z32, i8e, i32e, Decidable.not_not, Int.reduceNeg, Int.reduceLE, Int.reduceLT, and_self, Int32.toInt_zero, Int.not_lt, Int.not_le] at *); omega)), rfl⟩⟩ | exact ⟨rfl, Or.inr ⟨(by first | decide | ((try simp only [lg_cmp_lt, lg_cmp_gt, lg_cmp_ge, lg_cmp_le, lg_cmp_eq] at *); (try simp only [Int32.lt_iff_toInt_lt, Int32.le_iff_toInt_le, Int64.lt_iff_toInt_lt, Int64.le_iff_toInt_le, Int32.toInt_toInt64, lg_cmp_lt, lg_cmp_gt, lg_cmp_ge, lg_cmp_le, i8c, i16c, i32c, i64c, l0c, l1c, z32, i8e, i32e, Decidable.not_not, Int.reduceNeg, Int.reduceLE, Int.reduceLT, and_self, Int32.toInt_zero, Int.not_lt, Int.not_le] at *); omega)), rfl⟩⟩ | (exfalso; (try simp only [lg_cmp_lt, lg_cmp_gt, lg_cmp_ge, lg_cmp_le, lg_cmp_eq] at *); (try simp only [Int32.lt_iff_toInt_lt, Int32.le_iff_toInt_le, Int64.lt_iff_toInt_lt, Int64.le_iff_toInt_le, Int32.toInt_toInt64, lg_cmp_lt, lg_cmp_gt, lg_cmp_ge, lg_cmp_le, i8c, i16c, i32c, i64c, l0c, l1c, z32, i8e, i32e, Decidable.not_not, Int.reduceNeg, Int.reduceLE, Int.reduceLT, and_self, Int32.toInt_zero, Int.not_lt, Int.not_le] at *); omega)

set_option maxHeartbeats 4000000 in
set_option maxRecDepth 20000 in
theorem hX7_in (w : zW) (v l u : Int64) : zK 0 zX7_in [.long v, .long l, .long u] w (fun r w' => w' = w ∧ (((l.toInt ≤ v.toInt ∧ v.toInt ≤ u.toInt) ∧ r = some (.int 1)) ∨ (¬ ((l.toInt ≤ v.toInt ∧ v.toInt ≤ u.toInt)) ∧ r = some (.int 0)))) := by
  refine zK_of qX7_in (by decide +kernel) rfl ?_
  repeat' (first
    | refine zv_step (bX7_in 0) rfl rfl trivial ?_
    | (dsimp only; split)
    | refine zv_iret (bX7_in 0) rfl (Or.inr ⟨rfl, Or.inl rfl⟩) (Nat.zero_le _) (Nat.zero_le _) ?_
    | refine zv_iret (bX7_in 0) rfl (Or.inr ⟨rfl, Or.inr rfl⟩) (Nat.zero_le _) (Nat.zero_le _) ?_)
  all_goals first | exact ⟨rfl, Or.inl ⟨(by first | decide | ((try simp only [lg_cmp_lt, lg_cmp_gt, lg_cmp_ge, lg_cmp_le, lg_cmp_eq] at *); (try simp only [Int32.lt_iff_toInt_lt, Int32.le_iff_toInt_le, Int64.lt_iff_toInt_lt, Int64.le_iff_toInt_le, Int32.toInt_toInt64, lg_cmp_lt, lg_cmp_gt, lg_cmp_ge, lg_cmp_le, i8c, i16c, i32c, i64c, l0c, l1c, z32, i8e, i32e, Decidable.not_not, Int.reduceNeg, Int.reduceLE, Int.reduceLT, and_self, Int32.toInt_zero, Int.not_lt, Int.not_le] at *); omega)), rfl⟩⟩ | exact ⟨rfl, Or.inr ⟨(by first | decide | ((try simp only [lg_cmp_lt, lg_cmp_gt, lg_cmp_ge, lg_cmp_le, lg_cmp_eq] at *); (try simp only [Int32.lt_iff_toInt_lt, Int32.le_iff_toInt_le, Int64.lt_iff_toInt_lt, Int64.le_iff_toInt_le, Int32.toInt_toInt64, lg_cmp_lt, lg_cmp_gt, lg_cmp_ge, lg_cmp_le, i8c, i16c, i32c, i64c, l0c, l1c, z32, i8e, i32e, Decidable.not_not, Int.reduceNeg, Int.reduceLE, Int.reduceLT, and_self, Int32.toInt_zero, Int.not_lt, Int.not_le] at *); omega)), rfl⟩⟩ | (exfalso; (try simp only [lg_cmp_lt, lg_cmp_gt, lg_cmp_ge, lg_cmp_le, lg_cmp_eq] at *); (try simp only [Int32.lt_iff_toInt_lt, Int32.le_iff_toInt_le, Int64.lt_iff_toInt_lt, Int64.le_iff_toInt_le, Int32.toInt_toInt64, lg_cmp_lt, lg_cmp_gt, lg_cmp_ge, lg_cmp_le, i8c, i16c, i32c, i64c, l0c, l1c, z32, i8e, i32e, Decidable.not_not, Int.reduceNeg, Int.reduceLE, Int.reduceLT, and_self, Int32.toInt_zero, Int.not_lt, Int.not_le] at *); omega)

set_option maxHeartbeats 4000000 in
set_option maxRecDepth 20000 in
theorem hX7_isTwo (w : zW) (x : Int32) : zK 0 zX7_isTwo [.int x] w (fun r w' => w' = w ∧ (((2 ≤ x.toInt ∧ x.toInt ≤ 6) ∧ r = some (.int 1)) ∨ (¬ ((2 ≤ x.toInt ∧ x.toInt ≤ 6)) ∧ r = some (.int 0)))) := by
  refine zK_of qX7_isTwo (by decide +kernel) rfl ?_
  repeat' (first
    | refine zv_step (bX7_isTwo 0) rfl rfl trivial ?_
    | (dsimp only; split)
    | refine zv_iret (bX7_isTwo 0) rfl (Or.inr ⟨rfl, Or.inl rfl⟩) (Nat.zero_le _) (Nat.zero_le _) ?_
    | refine zv_iret (bX7_isTwo 0) rfl (Or.inr ⟨rfl, Or.inr rfl⟩) (Nat.zero_le _) (Nat.zero_le _) ?_)
  all_goals first | exact ⟨rfl, Or.inl ⟨(by first | decide | ((try simp only [lg_cmp_lt, lg_cmp_gt, lg_cmp_ge, lg_cmp_le, lg_cmp_eq] at *); (try simp only [Int32.lt_iff_toInt_lt, Int32.le_iff_toInt_le, Int64.lt_iff_toInt_lt, Int64.le_iff_toInt_le, Int32.toInt_toInt64, lg_cmp_lt, lg_cmp_gt, lg_cmp_ge, lg_cmp_le, i8c, i16c, i32c, i64c, l0c, l1c, z32, i8e, i32e, Decidable.not_not, Int.reduceNeg, Int.reduceLE, Int.reduceLT, and_self, Int32.toInt_zero, Int.not_lt, Int.not_le] at *); omega)), rfl⟩⟩ | exact ⟨rfl, Or.inr ⟨(by first | decide | ((try simp only [lg_cmp_lt, lg_cmp_gt, lg_cmp_ge, lg_cmp_le, lg_cmp_eq] at *); (try simp only [Int32.lt_iff_toInt_lt, Int32.le_iff_toInt_le, Int64.lt_iff_toInt_lt, Int64.le_iff_toInt_le, Int32.toInt_toInt64, lg_cmp_lt, lg_cmp_gt, lg_cmp_ge, lg_cmp_le, i8c, i16c, i32c, i64c, l0c, l1c, z32, i8e, i32e, Decidable.not_not, Int.reduceNeg, Int.reduceLE, Int.reduceLT, and_self, Int32.toInt_zero, Int.not_lt, Int.not_le] at *); omega)), rfl⟩⟩ | (exfalso; (try simp only [lg_cmp_lt, lg_cmp_gt, lg_cmp_ge, lg_cmp_le, lg_cmp_eq] at *); (try simp only [Int32.lt_iff_toInt_lt, Int32.le_iff_toInt_le, Int64.lt_iff_toInt_lt, Int64.le_iff_toInt_le, Int32.toInt_toInt64, lg_cmp_lt, lg_cmp_gt, lg_cmp_ge, lg_cmp_le, i8c, i16c, i32c, i64c, l0c, l1c, z32, i8e, i32e, Decidable.not_not, Int.reduceNeg, Int.reduceLE, Int.reduceLT, and_self, Int32.toInt_zero, Int.not_lt, Int.not_le] at *); omega)

set_option maxHeartbeats 4000000 in
set_option maxRecDepth 20000 in
theorem hX7_mayKeep (w : zW) (x : Int32) : zK 0 zX7_mayKeep [.int x] w (fun r w' => w' = w ∧ (((2 ≤ x.toInt ∧ x.toInt ≤ 9 ∧ x.toInt ≠ 8) ∧ r = some (.int 1)) ∨ (¬ ((2 ≤ x.toInt ∧ x.toInt ≤ 9 ∧ x.toInt ≠ 8)) ∧ r = some (.int 0)))) := by
  refine zK_of qX7_mayKeep (by decide +kernel) rfl ?_
  repeat' (first
    | refine zv_step (bX7_mayKeep 0) rfl rfl trivial ?_
    | (dsimp only; split)
    | refine zv_iret (bX7_mayKeep 0) rfl (Or.inr ⟨rfl, Or.inl rfl⟩) (Nat.zero_le _) (Nat.zero_le _) ?_
    | refine zv_iret (bX7_mayKeep 0) rfl (Or.inr ⟨rfl, Or.inr rfl⟩) (Nat.zero_le _) (Nat.zero_le _) ?_)
  all_goals first | exact ⟨rfl, Or.inl ⟨(by first | decide | ((try simp only [lg_cmp_lt, lg_cmp_gt, lg_cmp_ge, lg_cmp_le, lg_cmp_eq] at *); (try simp only [Int32.lt_iff_toInt_lt, Int32.le_iff_toInt_le, Int64.lt_iff_toInt_lt, Int64.le_iff_toInt_le, Int32.toInt_toInt64, lg_cmp_lt, lg_cmp_gt, lg_cmp_ge, lg_cmp_le, i8c, i16c, i32c, i64c, l0c, l1c, z32, i8e, i32e, Decidable.not_not, Int.reduceNeg, Int.reduceLE, Int.reduceLT, and_self, Int32.toInt_zero, Int.not_lt, Int.not_le] at *); omega)), rfl⟩⟩ | exact ⟨rfl, Or.inr ⟨(by first | decide | ((try simp only [lg_cmp_lt, lg_cmp_gt, lg_cmp_ge, lg_cmp_le, lg_cmp_eq] at *); (try simp only [Int32.lt_iff_toInt_lt, Int32.le_iff_toInt_le, Int64.lt_iff_toInt_lt, Int64.le_iff_toInt_le, Int32.toInt_toInt64, lg_cmp_lt, lg_cmp_gt, lg_cmp_ge, lg_cmp_le, i8c, i16c, i32c, i64c, l0c, l1c, z32, i8e, i32e, Decidable.not_not, Int.reduceNeg, Int.reduceLE, Int.reduceLT, and_self, Int32.toInt_zero, Int.not_lt, Int.not_le] at *); omega)), rfl⟩⟩ | (exfalso; (try simp only [lg_cmp_lt, lg_cmp_gt, lg_cmp_ge, lg_cmp_le, lg_cmp_eq] at *); (try simp only [Int32.lt_iff_toInt_lt, Int32.le_iff_toInt_le, Int64.lt_iff_toInt_lt, Int64.le_iff_toInt_le, Int32.toInt_toInt64, lg_cmp_lt, lg_cmp_gt, lg_cmp_ge, lg_cmp_le, i8c, i16c, i32c, i64c, l0c, l1c, z32, i8e, i32e, Decidable.not_not, Int.reduceNeg, Int.reduceLE, Int.reduceLT, and_self, Int32.toInt_zero, Int.not_lt, Int.not_le] at *); omega)

set_option maxHeartbeats 4000000 in
set_option maxRecDepth 20000 in
theorem hX7_isStyle (w : zW) (x : Int32) : zK 1 zX7_isStyle [.int x] w (fun r w' => w' = w ∧ (((0 ≤ x.toInt ∧ x.toInt ≤ 7) ∧ r = some (.int 1)) ∨ (¬ ((0 ≤ x.toInt ∧ x.toInt ≤ 7)) ∧ r = some (.int 0)))) := by
  refine zK_of qX7_isStyle (by decide +kernel) rfl ?_
  repeat' (first
    | refine zv_step (bX7_isStyle 1) rfl rfl trivial ?_
    | (dsimp only; split)
    | (refine zv_S3 (bX7_isStyle 1) rfl rfl rfl rfl ⟨rfl, rfl, rfl⟩ ⟨by decide, by decide⟩ ⟨Nat.zero_le _, Nat.zero_le _⟩ (hX7_in _ _ _ _) ?_; rintro _ _ ⟨rfl, ⟨hh, rfl⟩ | ⟨hh, rfl⟩⟩)
    | refine zv_iret (bX7_isStyle 1) rfl (Or.inr ⟨rfl, Or.inl rfl⟩) (Nat.zero_le _) (Nat.zero_le _) ?_
    | refine zv_iret (bX7_isStyle 1) rfl (Or.inr ⟨rfl, Or.inr rfl⟩) (Nat.zero_le _) (Nat.zero_le _) ?_)
  all_goals first | exact ⟨rfl, Or.inl ⟨(by first | decide | ((try simp only [lg_cmp_lt, lg_cmp_gt, lg_cmp_ge, lg_cmp_le, lg_cmp_eq] at *); (try simp only [Int32.lt_iff_toInt_lt, Int32.le_iff_toInt_le, Int64.lt_iff_toInt_lt, Int64.le_iff_toInt_le, Int32.toInt_toInt64, lg_cmp_lt, lg_cmp_gt, lg_cmp_ge, lg_cmp_le, i8c, i16c, i32c, i64c, l0c, l1c, z32, i8e, i32e, Decidable.not_not, Int.reduceNeg, Int.reduceLE, Int.reduceLT, and_self, Int32.toInt_zero, Int.not_lt, Int.not_le] at *); omega)), rfl⟩⟩ | exact ⟨rfl, Or.inr ⟨(by first | decide | ((try simp only [lg_cmp_lt, lg_cmp_gt, lg_cmp_ge, lg_cmp_le, lg_cmp_eq] at *); (try simp only [Int32.lt_iff_toInt_lt, Int32.le_iff_toInt_le, Int64.lt_iff_toInt_lt, Int64.le_iff_toInt_le, Int32.toInt_toInt64, lg_cmp_lt, lg_cmp_gt, lg_cmp_ge, lg_cmp_le, i8c, i16c, i32c, i64c, l0c, l1c, z32, i8e, i32e, Decidable.not_not, Int.reduceNeg, Int.reduceLE, Int.reduceLT, and_self, Int32.toInt_zero, Int.not_lt, Int.not_le] at *); omega)), rfl⟩⟩ | (exfalso; (try simp only [lg_cmp_lt, lg_cmp_gt, lg_cmp_ge, lg_cmp_le, lg_cmp_eq] at *); (try simp only [Int32.lt_iff_toInt_lt, Int32.le_iff_toInt_le, Int64.lt_iff_toInt_lt, Int64.le_iff_toInt_le, Int32.toInt_toInt64, lg_cmp_lt, lg_cmp_gt, lg_cmp_ge, lg_cmp_le, i8c, i16c, i32c, i64c, l0c, l1c, z32, i8e, i32e, Decidable.not_not, Int.reduceNeg, Int.reduceLE, Int.reduceLT, and_self, Int32.toInt_zero, Int.not_lt, Int.not_le] at *); omega)

set_option maxHeartbeats 4000000 in
set_option maxRecDepth 20000 in
theorem hX7_isShelf (w : zW) (x : Int32) : zK 1 zX7_isShelf [.int x] w (fun r w' => w' = w ∧ (((0 ≤ x.toInt ∧ x.toInt ≤ 7) ∧ r = some (.int 1)) ∨ (¬ ((0 ≤ x.toInt ∧ x.toInt ≤ 7)) ∧ r = some (.int 0)))) := by
  refine zK_of qX7_isShelf (by decide +kernel) rfl ?_
  repeat' (first
    | refine zv_step (bX7_isShelf 1) rfl rfl trivial ?_
    | (dsimp only; split)
    | (refine zv_S3 (bX7_isShelf 1) rfl rfl rfl rfl ⟨rfl, rfl, rfl⟩ ⟨by decide, by decide⟩ ⟨Nat.zero_le _, Nat.zero_le _⟩ (hX7_in _ _ _ _) ?_; rintro _ _ ⟨rfl, ⟨hh, rfl⟩ | ⟨hh, rfl⟩⟩)
    | refine zv_iret (bX7_isShelf 1) rfl (Or.inr ⟨rfl, Or.inl rfl⟩) (Nat.zero_le _) (Nat.zero_le _) ?_
    | refine zv_iret (bX7_isShelf 1) rfl (Or.inr ⟨rfl, Or.inr rfl⟩) (Nat.zero_le _) (Nat.zero_le _) ?_)
  all_goals first | exact ⟨rfl, Or.inl ⟨(by first | decide | ((try simp only [lg_cmp_lt, lg_cmp_gt, lg_cmp_ge, lg_cmp_le, lg_cmp_eq] at *); (try simp only [Int32.lt_iff_toInt_lt, Int32.le_iff_toInt_le, Int64.lt_iff_toInt_lt, Int64.le_iff_toInt_le, Int32.toInt_toInt64, lg_cmp_lt, lg_cmp_gt, lg_cmp_ge, lg_cmp_le, i8c, i16c, i32c, i64c, l0c, l1c, z32, i8e, i32e, Decidable.not_not, Int.reduceNeg, Int.reduceLE, Int.reduceLT, and_self, Int32.toInt_zero, Int.not_lt, Int.not_le] at *); omega)), rfl⟩⟩ | exact ⟨rfl, Or.inr ⟨(by first | decide | ((try simp only [lg_cmp_lt, lg_cmp_gt, lg_cmp_ge, lg_cmp_le, lg_cmp_eq] at *); (try simp only [Int32.lt_iff_toInt_lt, Int32.le_iff_toInt_le, Int64.lt_iff_toInt_lt, Int64.le_iff_toInt_le, Int32.toInt_toInt64, lg_cmp_lt, lg_cmp_gt, lg_cmp_ge, lg_cmp_le, i8c, i16c, i32c, i64c, l0c, l1c, z32, i8e, i32e, Decidable.not_not, Int.reduceNeg, Int.reduceLE, Int.reduceLT, and_self, Int32.toInt_zero, Int.not_lt, Int.not_le] at *); omega)), rfl⟩⟩ | (exfalso; (try simp only [lg_cmp_lt, lg_cmp_gt, lg_cmp_ge, lg_cmp_le, lg_cmp_eq] at *); (try simp only [Int32.lt_iff_toInt_lt, Int32.le_iff_toInt_le, Int64.lt_iff_toInt_lt, Int64.le_iff_toInt_le, Int32.toInt_toInt64, lg_cmp_lt, lg_cmp_gt, lg_cmp_ge, lg_cmp_le, i8c, i16c, i32c, i64c, l0c, l1c, z32, i8e, i32e, Decidable.not_not, Int.reduceNeg, Int.reduceLE, Int.reduceLT, and_self, Int32.toInt_zero, Int.not_lt, Int.not_le] at *); omega)

set_option maxHeartbeats 4000000 in
set_option maxRecDepth 20000 in
theorem hHas (x : Int32) : zK 0 zX2_has [.ref 1, .int x] w0 (fun r w' => w' = w0 ∧ r = some (.int 0)) := by
  refine zK_of qX2_has (by decide +kernel) rfl ?_
  repeat' (first
    | refine zv_step (bX2_has 0) rfl rfl trivial ?_
    | (dsimp only; split)
    | refine zv_iret (bX2_has 0) rfl (Or.inr ⟨rfl, Or.inl rfl⟩) (Nat.zero_le _) (Nat.zero_le _) ?_
    | refine zv_iret (bX2_has 0) rfl (Or.inr ⟨rfl, Or.inr rfl⟩) (Nat.zero_le _) (Nat.zero_le _) ?_)
  all_goals first | exact ⟨rfl, rfl⟩ | (exfalso; (try simp only [lg_cmp_lt, lg_cmp_gt, lg_cmp_ge, lg_cmp_le, lg_cmp_eq] at *); (try simp only [Int32.lt_iff_toInt_lt, Int32.le_iff_toInt_le, Int64.lt_iff_toInt_lt, Int64.le_iff_toInt_le, Int32.toInt_toInt64, lg_cmp_lt, lg_cmp_gt, lg_cmp_ge, lg_cmp_le, i8c, i16c, i32c, i64c, l0c, l1c, z32, i8e, i32e, Decidable.not_not, Int.reduceNeg, Int.reduceLE, Int.reduceLT, and_self, Int32.toInt_zero, Int.not_lt, Int.not_le] at *); omega) | (exfalso; (try simp only [lg_cmp_lt, lg_cmp_gt, lg_cmp_ge, lg_cmp_le, lg_cmp_eq] at *); (try simp only [Int32.lt_iff_toInt_lt, Int32.le_iff_toInt_le, Int64.lt_iff_toInt_lt, Int64.le_iff_toInt_le, Int32.toInt_toInt64, lg_cmp_lt, lg_cmp_gt, lg_cmp_ge, lg_cmp_le, i8c, i16c, i32c, i64c, l0c, l1c, z32, i8e, i32e, Decidable.not_not, Int.reduceNeg, Int.reduceLE, Int.reduceLT, and_self, Int32.toInt_zero, Int.not_lt, Int.not_le] at *); omega)

set_option maxHeartbeats 4000000 in
set_option maxRecDepth 20000 in
theorem hBegun  : zK 0 zX5_isBegun [.ref 55] w0 (fun r w' => w' = w0 ∧ r = some (.int 0)) := by
  refine zK_of qX5_isBegun (by decide +kernel) rfl ?_
  repeat' (first
    | refine zv_step (bX5_isBegun 0) rfl rfl trivial ?_
    | (dsimp only; split)
    | refine zv_iret (bX5_isBegun 0) rfl (Or.inr ⟨rfl, Or.inl rfl⟩) (Nat.zero_le _) (Nat.zero_le _) ?_
    | refine zv_iret (bX5_isBegun 0) rfl (Or.inr ⟨rfl, Or.inr rfl⟩) (Nat.zero_le _) (Nat.zero_le _) ?_)
  all_goals first | exact ⟨rfl, rfl⟩ | (exfalso; (try simp only [lg_cmp_lt, lg_cmp_gt, lg_cmp_ge, lg_cmp_le, lg_cmp_eq] at *); (try simp only [Int32.lt_iff_toInt_lt, Int32.le_iff_toInt_le, Int64.lt_iff_toInt_lt, Int64.le_iff_toInt_le, Int32.toInt_toInt64, lg_cmp_lt, lg_cmp_gt, lg_cmp_ge, lg_cmp_le, i8c, i16c, i32c, i64c, l0c, l1c, z32, i8e, i32e, Decidable.not_not, Int.reduceNeg, Int.reduceLE, Int.reduceLT, and_self, Int32.toInt_zero, Int.not_lt, Int.not_le] at *); omega)
end
section
section ZIF
variable {M : zM} {al : Bool} {n0 kc ks a b : Nat} {l : zL} {st : List Value} {w : zW} {Q : Option Value → zW → Prop}
theorem zv_ift {c : Prop} [Decidable c] (h : c) (k : zV M al n0 kc ks a l st w Q) : zV M al n0 kc ks (if c then a else b) l st w Q := by rw [if_pos h]; exact k
theorem zv_iff {c : Prop} [Decidable c] (h : ¬ c) (k : zV M al n0 kc ks b l st w Q) : zV M al n0 kc ks (if c then a else b) l st w Q := by rw [if_neg h]; exact k
theorem zv_ifb {c : Prop} [Decidable c] (kt : c → zV M al n0 kc ks a l st w Q) (kf : ¬ c → zV M al n0 kc ks b l st w Q) : zV M al n0 kc ks (if c then a else b) l st w Q := by
  by_cases h : c
  · rw [if_pos h]; exact kt h
  · rw [if_neg h]; exact kf h
end ZIF
end
section
theorem zset_self {w : zW} {k : Nat} {c c' : zC} (h : w[k]? = some c) : (w.set k c')[k]? = some c' := List.getElem?_set_self (List.getElem?_eq_some_iff.mp h).1
theorem upd_self (f : Nat → Int32) (i : Nat) (x : Int32) : upd f i x i = x := if_pos rfl
theorem upd_ne (f : Nat → Int32) {i j : Nat} (x : Int32) (h : j ≠ i) : upd f i x j = f j := if_neg h
def updA (A : Nat → Nat → Int32) (k : Nat) (g : Nat → Int32) : Nat → Nat → Int32 := fun j => if j = k then g else A j
theorem updA_ne (A : Nat → Nat → Int32) {k j : Nat} (g : Nat → Int32) (h : j ≠ k) : updA A k g j = A j := if_neg h
abbrev c8 (n : Int) : Int32 := (Int8.ofInt n).toInt32
/-- the class's cells, all of them open: O its numbers, P its rows of ints by their cells, Y its rows of longs; g the cells behind -/
def wX (O : Nat → Int32) (P : Nat → Nat → Int32) (Y : Nat → Nat → Int64) (g : Nat → zC) : zW := zO 5 [.ref 1, .ref 14, .ref 27, .ref 29, .ref 31, .ref 55, .ref 58, .ref 75, .int (O 0)] :: zO 1 [.ref 2, .ref 3, .ref 4, .ref 5, .ref 6, .ref 7, .ref 8, .ref 9, .ref 10, .ref 11, .ref 12, .ref 13, .int (O 1)] :: zI 0 120 (P 2) :: zI 0 120 (P 3) :: zI 0 120 (P 4) :: zI 0 120 (P 5) :: zI 0 120 (P 6) :: zI 0 120 (P 7) :: zI 0 120 (P 8) :: zI 0 120 (P 9) :: zI 0 120 (P 10) :: zI 0 120 (P 11) :: zI 0 120 (P 12) :: zI 0 120 (P 13) :: zO 1 [.ref 15, .ref 16, .ref 17, .ref 18, .ref 19, .ref 20, .ref 21, .ref 22, .ref 23, .ref 24, .ref 25, .ref 26, .int (O 2)] :: zI 0 120 (P 15) :: zI 0 120 (P 16) :: zI 0 120 (P 17) :: zI 0 120 (P 18) :: zI 0 120 (P 19) :: zI 0 120 (P 20) :: zI 0 120 (P 21) :: zI 0 120 (P 22) :: zI 0 120 (P 23) :: zI 0 120 (P 24) :: zI 0 120 (P 25) :: zI 0 120 (P 26) :: zO 3 [.ref 28, .int (O 3), .int (O 4), .int (O 5)] :: zI 0 80 (P 28) :: zO 3 [.ref 30, .int (O 6), .int (O 7), .int (O 8)] :: zI 0 80 (P 30) :: zO 0 [.ref 32, .int (O 9), .ref 33, .int (O 10), .int (O 11), .int (O 12)] :: zI 0 20 (P 32) :: zR 4 [some 34, some 35, some 36, some 37, some 38, some 39, some 40, some 41, some 42, some 43, some 44, some 45, some 46, some 47, some 48, some 49, some 50, some 51, some 52, some 53, some 54] :: zJ 21 (Y 34) :: zJ 21 (Y 35) :: zJ 21 (Y 36) :: zJ 21 (Y 37) :: zJ 21 (Y 38) :: zJ 21 (Y 39) :: zJ 21 (Y 40) :: zJ 21 (Y 41) :: zJ 21 (Y 42) :: zJ 21 (Y 43) :: zJ 21 (Y 44) :: zJ 21 (Y 45) :: zJ 21 (Y 46) :: zJ 21 (Y 47) :: zJ 21 (Y 48) :: zJ 21 (Y 49) :: zJ 21 (Y 50) :: zJ 21 (Y 51) :: zJ 21 (Y 52) :: zJ 21 (Y 53) :: zJ 21 (Y 54) :: zO 4 [.ref 56, .ref 57, .int (O 13), .int (O 14)] :: zI 0 40 (P 56) :: zI 0 40 (P 57) :: zR 3 [some 59, some 61, some 63, some 65, some 67, some 69, some 71, some 73] :: zO 2 [.int (O 20), .int (O 21), .int (O 22), .int (O 23), .ref 60, .int (O 24)] :: zI 0 60 (P 60) :: zO 2 [.int (O 30), .int (O 31), .int (O 32), .int (O 33), .ref 62, .int (O 34)] :: zI 0 60 (P 62) :: zO 2 [.int (O 40), .int (O 41), .int (O 42), .int (O 43), .ref 64, .int (O 44)] :: zI 0 60 (P 64) :: zO 2 [.int (O 50), .int (O 51), .int (O 52), .int (O 53), .ref 66, .int (O 54)] :: zI 0 60 (P 66) :: zO 2 [.int (O 60), .int (O 61), .int (O 62), .int (O 63), .ref 68, .int (O 64)] :: zI 0 60 (P 68) :: zO 2 [.int (O 70), .int (O 71), .int (O 72), .int (O 73), .ref 70, .int (O 74)] :: zI 0 60 (P 70) :: zO 2 [.int (O 80), .int (O 81), .int (O 82), .int (O 83), .ref 72, .int (O 84)] :: zI 0 60 (P 72) :: zO 2 [.int (O 90), .int (O 91), .int (O 92), .int (O 93), .ref 74, .int (O 94)] :: zI 0 60 (P 74) :: zI 0 8 (P 75) :: g 76 :: g 77 :: g 78 :: g 79 :: g 80 :: g 81 :: g 82 :: g 83 :: g 84 :: g 85 :: g 86 :: g 87 :: g 88 :: g 89 :: g 90 :: g 91 :: g 92 :: g 93 :: g 94 :: g 95 :: g 96 :: g 97 :: g 98 :: g 99 :: []
/-- the reference's cells and the law's long row, all of them open -/
def wR (f : Nat → zC) (o : Nat → Int32) (A : Nat → Nat → Int32) (J : Nat → Nat → Int64) : zW := f 0 :: f 1 :: f 2 :: f 3 :: f 4 :: f 5 :: f 6 :: f 7 :: f 8 :: f 9 :: f 10 :: f 11 :: f 12 :: f 13 :: f 14 :: f 15 :: f 16 :: f 17 :: f 18 :: f 19 :: f 20 :: f 21 :: f 22 :: f 23 :: f 24 :: f 25 :: f 26 :: f 27 :: f 28 :: f 29 :: f 30 :: f 31 :: f 32 :: f 33 :: f 34 :: f 35 :: f 36 :: f 37 :: f 38 :: f 39 :: f 40 :: f 41 :: f 42 :: f 43 :: f 44 :: f 45 :: f 46 :: f 47 :: f 48 :: f 49 :: f 50 :: f 51 :: f 52 :: f 53 :: f 54 :: f 55 :: f 56 :: f 57 :: f 58 :: f 59 :: f 60 :: f 61 :: f 62 :: f 63 :: f 64 :: f 65 :: f 66 :: f 67 :: f 68 :: f 69 :: f 70 :: f 71 :: f 72 :: f 73 :: f 74 :: f 75 :: zO 6 [.int (o 0), .ref 77, .ref 78, .ref 79, .ref 80, .ref 81, .ref 82, .ref 83, .ref 84, .ref 85, .int (o 10), .ref 86, .ref 87, .ref 88, .ref 89, .ref 90, .int (o 16), .ref 91, .int (o 18), .int (o 19), .int (o 20), .int (o 21), .ref 92, .int (o 23), .ref 93, .ref 94, .ref 95, .ref 96, .int (o 28), .int (o 29), .int (o 30), .ref 97, .ref 98, .int (o 33), .int (o 34)] :: zI 0 450 (A 0) :: zI 0 450 (A 1) :: zI 0 450 (A 2) :: zI 0 450 (A 3) :: zI 0 450 (A 4) :: zI 0 450 (A 5) :: zI 1 10 (A 6) :: zI 1 90 (A 7) :: zI 0 20 (A 8) :: zI 0 8 (A 9) :: zI 0 8 (A 10) :: zI 0 8 (A 11) :: zI 0 8 (A 12) :: zI 0 480 (A 13) :: zI 0 256 (A 14) :: zI 0 256 (A 15) :: zI 0 5600 (A 16) :: zI 0 280 (A 17) :: zJ 8820 (J 0) :: zJ 441 (J 1) :: zI 0 41 (A 20) :: zI 0 41 (A 21) :: zJ 1 (J 2) :: []
def fX (O : Nat → Int32) (P : Nat → Nat → Int32) (Y : Nat → Nat → Int64) (i : Nat) : zC := ([zO 5 [.ref 1, .ref 14, .ref 27, .ref 29, .ref 31, .ref 55, .ref 58, .ref 75, .int (O 0)], zO 1 [.ref 2, .ref 3, .ref 4, .ref 5, .ref 6, .ref 7, .ref 8, .ref 9, .ref 10, .ref 11, .ref 12, .ref 13, .int (O 1)], zI 0 120 (P 2), zI 0 120 (P 3), zI 0 120 (P 4), zI 0 120 (P 5), zI 0 120 (P 6), zI 0 120 (P 7), zI 0 120 (P 8), zI 0 120 (P 9), zI 0 120 (P 10), zI 0 120 (P 11), zI 0 120 (P 12), zI 0 120 (P 13), zO 1 [.ref 15, .ref 16, .ref 17, .ref 18, .ref 19, .ref 20, .ref 21, .ref 22, .ref 23, .ref 24, .ref 25, .ref 26, .int (O 2)], zI 0 120 (P 15), zI 0 120 (P 16), zI 0 120 (P 17), zI 0 120 (P 18), zI 0 120 (P 19), zI 0 120 (P 20), zI 0 120 (P 21), zI 0 120 (P 22), zI 0 120 (P 23), zI 0 120 (P 24), zI 0 120 (P 25), zI 0 120 (P 26), zO 3 [.ref 28, .int (O 3), .int (O 4), .int (O 5)], zI 0 80 (P 28), zO 3 [.ref 30, .int (O 6), .int (O 7), .int (O 8)], zI 0 80 (P 30), zO 0 [.ref 32, .int (O 9), .ref 33, .int (O 10), .int (O 11), .int (O 12)], zI 0 20 (P 32), zR 4 [some 34, some 35, some 36, some 37, some 38, some 39, some 40, some 41, some 42, some 43, some 44, some 45, some 46, some 47, some 48, some 49, some 50, some 51, some 52, some 53, some 54], zJ 21 (Y 34), zJ 21 (Y 35), zJ 21 (Y 36), zJ 21 (Y 37), zJ 21 (Y 38), zJ 21 (Y 39), zJ 21 (Y 40), zJ 21 (Y 41), zJ 21 (Y 42), zJ 21 (Y 43), zJ 21 (Y 44), zJ 21 (Y 45), zJ 21 (Y 46), zJ 21 (Y 47), zJ 21 (Y 48), zJ 21 (Y 49), zJ 21 (Y 50), zJ 21 (Y 51), zJ 21 (Y 52), zJ 21 (Y 53), zJ 21 (Y 54), zO 4 [.ref 56, .ref 57, .int (O 13), .int (O 14)], zI 0 40 (P 56), zI 0 40 (P 57), zR 3 [some 59, some 61, some 63, some 65, some 67, some 69, some 71, some 73], zO 2 [.int (O 20), .int (O 21), .int (O 22), .int (O 23), .ref 60, .int (O 24)], zI 0 60 (P 60), zO 2 [.int (O 30), .int (O 31), .int (O 32), .int (O 33), .ref 62, .int (O 34)], zI 0 60 (P 62), zO 2 [.int (O 40), .int (O 41), .int (O 42), .int (O 43), .ref 64, .int (O 44)], zI 0 60 (P 64), zO 2 [.int (O 50), .int (O 51), .int (O 52), .int (O 53), .ref 66, .int (O 54)], zI 0 60 (P 66), zO 2 [.int (O 60), .int (O 61), .int (O 62), .int (O 63), .ref 68, .int (O 64)], zI 0 60 (P 68), zO 2 [.int (O 70), .int (O 71), .int (O 72), .int (O 73), .ref 70, .int (O 74)], zI 0 60 (P 70), zO 2 [.int (O 80), .int (O 81), .int (O 82), .int (O 83), .ref 72, .int (O 84)], zI 0 60 (P 72), zO 2 [.int (O 90), .int (O 91), .int (O 92), .int (O 93), .ref 74, .int (O 94)], zI 0 60 (P 74), zI 0 8 (P 75)] : List zC).getD i (zI 0 0 (fun _ => 0))
def gR (o : Nat → Int32) (A : Nat → Nat → Int32) (J : Nat → Nat → Int64) (i : Nat) : zC := ([zO 6 [.int (o 0), .ref 77, .ref 78, .ref 79, .ref 80, .ref 81, .ref 82, .ref 83, .ref 84, .ref 85, .int (o 10), .ref 86, .ref 87, .ref 88, .ref 89, .ref 90, .int (o 16), .ref 91, .int (o 18), .int (o 19), .int (o 20), .int (o 21), .ref 92, .int (o 23), .ref 93, .ref 94, .ref 95, .ref 96, .int (o 28), .int (o 29), .int (o 30), .ref 97, .ref 98, .int (o 33), .int (o 34)], zI 0 450 (A 0), zI 0 450 (A 1), zI 0 450 (A 2), zI 0 450 (A 3), zI 0 450 (A 4), zI 0 450 (A 5), zI 1 10 (A 6), zI 1 90 (A 7), zI 0 20 (A 8), zI 0 8 (A 9), zI 0 8 (A 10), zI 0 8 (A 11), zI 0 8 (A 12), zI 0 480 (A 13), zI 0 256 (A 14), zI 0 256 (A 15), zI 0 5600 (A 16), zI 0 280 (A 17), zJ 8820 (J 0), zJ 441 (J 1), zI 0 41 (A 20), zI 0 41 (A 21), zJ 1 (J 2)] : List zC).getD (i - 76) (zI 0 0 (fun _ => 0))
theorem wXR (O : Nat → Int32) (P : Nat → Nat → Int32) (Y : Nat → Nat → Int64) (o : Nat → Int32) (A : Nat → Nat → Int32) (J : Nat → Nat → Int64) : wX O P Y (gR o A J) = wR (fX O P Y) o A J := rfl
def O00 : Nat → Int32 := fun i => if i = 21 ∨ i = 31 ∨ i = 41 ∨ i = 51 ∨ i = 61 ∨ i = 71 ∨ i = 81 ∨ i = 91 then -1 else 0
def P00 : Nat → Nat → Int32 := fun k => if k = 75 then (upd (fun _ => 0) 0 764) else fun _ => 0
def o00 : Nat → Int32 := fun i => if i = 19 then -1 else 0
def A00 : Nat → Nat → Int32 := fun k => if k = 7 then (upd (upd (upd (upd (upd (upd (upd (upd ((fun _ => 0)) 2 1) 3 1) 4 1) 5 1) 6 1) 7 1) 8 0) 9 1) else fun _ => 0
theorem w0_X : w0 = wX O00 P00 (fun _ _ => 0) (gR o00 A00 (fun _ _ => 0)) := rfl
section ZMX
variable {M : zM} {al : Bool} {n0 kc ks pc nxt a b : Nat} {c0 : Int} {l : zL} {st rest : List Value} {w : zW} {Q : Option Value → zW → Prop} {tb : List zE}
theorem zv_iale (ok : zTb M tb) (hlook : zlook tb pc = some (.iaload, nxt, a, b, c0)) {k n : Nat} {f : Nat → Int32} {i v : Int32} (hw : w[k]? = some (zI 0 n f)) (hi : vp_in i n) (hv : f i.toNatClampNeg = v) (kk : zV M al n0 kc ks nxt l (.int v :: st) w Q) : zV M al n0 kc ks pc l (.int i :: .ref k :: st) w Q := by
  subst hv
  exact zv_iald ok hlook hw hi kk
theorem zv_zale (ok : zTb M tb) (hlook : zlook tb pc = some (.baload, nxt, a, b, c0)) {k n : Nat} {f : Nat → Int32} {i v : Int32} (hw : w[k]? = some (zI 1 n f)) (hi : vp_in i n) (hv : f i.toNatClampNeg = v) (kk : zV M al n0 kc ks nxt l (.int v :: st) w Q) : zV M al n0 kc ks pc l (.int i :: .ref k :: st) w Q := by
  subst hv
  exact zv_zald ok hlook hw hi kk
theorem zv_locals {l' : zL} (hs : ∀ q ∈ l', q ∈ l) (h : zV M al n0 kc ks pc l' st w Q) : zV M al n0 kc ks pc l st w Q := by
  intro p l0 e s m args below meth c dC dI dA ad0 A Z h9t hctx hfin ad H locs ls hrel hl
  refine h p l0 e s m args below meth c dC dI dA ad0 A Z h9t hctx hfin ad H locs ls hrel ⟨hl.1, hl.2.1, fun q hq => hl.2.2 q ?_⟩
  obtain ⟨x, hx, rfl⟩ := List.mem_map.mp hq
  exact List.mem_map.mpr ⟨x, hs x hx, rfl⟩
theorem zv_maxI (ok : zTb M tb) {idx : Nat} (hlook : zlook tb pc = some (.invokestatic idx, pc + 3, a, b, c0)) (hm : Cond.methodLink M.1 idx Lib.Math.max.name ∈ zG ∧ Cond.static Lib.Math.max.name ∈ zG ∧ Cond.initialized "java/lang/Math" ∈ zG ∧ Cond.code Lib.Math.max.name Lib.Math.max.code 2 (some .int) ∈ zG) (hcat : Nat.ble (rest.map fun v => v.category).sum 8 = true) (hR : 1 ≤ M.2.2.2.2.1.frames ∧ 21 ≤ M.2.2.2.2.1.locals) (hf : kc ≤ M.2.2.2.2.1.cells ∧ ks ≤ M.2.2.2.2.1.slots) {x y : Int32}
    (kk : zV M al n0 kc ks (pc + 3) l (.int (if x < y then y else x) :: rest) w Q) : zV M al n0 kc ks pc l (.int y :: .int x :: rest) w Q := by
  intro p l0 e s m args below meth c dC dI dA ad0 A Z h9t hctx hfin ad H locs ls hrel hl
  obtain ⟨F, hF, ok⟩ := ok
  have h0 := ok _ (zlook_mem hlook)
  simp only [zgood, Bool.and_eq_true, decide_eq_true_eq, Nat.add_sub_cancel_left] at h0
  have k9 := kk p l0 e s m args below meth c dC dI dA ad0 A Z h9t hctx hfin ad H locs ls hrel hl
  obtain ⟨hx, hbb, hml, hown, hts, hKc, hA, hxn⟩ := id hctx
  refine va_mmax (rest := rest.map (zv ad)) hx hbb (hml.trans hl.1.symm) hown (hts _ hm.1) (hts _ hm.2.1) (hts _ hm.2.2.1) (hts _ hm.2.2.2) hR.1 ?_ hf.1 hf.2 h0.1.1 k9
  rw [zcats]
  have := Nat.le_of_ble_eq_true hcat
  omega
theorem zv_minI (ok : zTb M tb) {idx : Nat} (hlook : zlook tb pc = some (.invokestatic idx, pc + 3, a, b, c0)) (hm : Cond.methodLink M.1 idx Lib.Math.min.name ∈ zG ∧ Cond.static Lib.Math.min.name ∈ zG ∧ Cond.initialized "java/lang/Math" ∈ zG ∧ Cond.code Lib.Math.min.name Lib.Math.min.code 2 (some .int) ∈ zG) (hcat : Nat.ble (rest.map fun v => v.category).sum 8 = true) (hR : 1 ≤ M.2.2.2.2.1.frames ∧ 21 ≤ M.2.2.2.2.1.locals) (hf : kc ≤ M.2.2.2.2.1.cells ∧ ks ≤ M.2.2.2.2.1.slots) {x y : Int32}
    (kk : zV M al n0 kc ks (pc + 3) l (.int (if y < x then y else x) :: rest) w Q) : zV M al n0 kc ks pc l (.int y :: .int x :: rest) w Q := by
  intro p l0 e s m args below meth c dC dI dA ad0 A Z h9t hctx hfin ad H locs ls hrel hl
  obtain ⟨F, hF, ok⟩ := ok
  have h0 := ok _ (zlook_mem hlook)
  simp only [zgood, Bool.and_eq_true, decide_eq_true_eq, Nat.add_sub_cancel_left] at h0
  have k9 := kk p l0 e s m args below meth c dC dI dA ad0 A Z h9t hctx hfin ad H locs ls hrel hl
  obtain ⟨hx, hbb, hml, hown, hts, hKc, hA, hxn⟩ := id hctx
  refine va_mmin (rest := rest.map (zv ad)) hx hbb (hml.trans hl.1.symm) hown (hts _ hm.1) (hts _ hm.2.1) (hts _ hm.2.2.1) (hts _ hm.2.2.2) hR.1 ?_ hf.1 hf.2 h0.1.1 k9
  rw [zcats]
  have := Nat.le_of_ble_eq_true hcat
  omega
theorem zv_minJ (ok : zTb M tb) {idx : Nat} (hlook : zlook tb pc = some (.invokestatic idx, pc + 3, a, b, c0)) (hm : Cond.methodLink M.1 idx Lib.MathLoose.min_long.x ∈ zG ∧ Cond.static Lib.MathLoose.min_long.x ∈ zG ∧ Cond.initialized "java/lang/Math" ∈ zG ∧ Cond.code Lib.MathLoose.min_long.x Lib.MathLoose.min_long.code 4 (some .long) ∈ zG) (hcat : Nat.ble (rest.map fun v => v.category).sum 8 = true) (hR : 1 ≤ M.2.2.2.2.1.frames ∧ 23 ≤ M.2.2.2.2.1.locals) (hf : kc ≤ M.2.2.2.2.1.cells ∧ ks ≤ M.2.2.2.2.1.slots) {x y : Int64}
    (kk : zV M al n0 kc ks (pc + 3) l (.long (if y < x then y else x) :: rest) w Q) : zV M al n0 kc ks pc l (.long y :: .long x :: rest) w Q := by
  intro p l0 e s m args below meth c dC dI dA ad0 A Z h9t hctx hfin ad H locs ls hrel hl
  obtain ⟨F, hF, ok⟩ := ok
  have h0 := ok _ (zlook_mem hlook)
  simp only [zgood, Bool.and_eq_true, decide_eq_true_eq, Nat.add_sub_cancel_left] at h0
  have k9 := kk p l0 e s m args below meth c dC dI dA ad0 A Z h9t hctx hfin ad H locs ls hrel hl
  obtain ⟨hx, hbb, hml, hown, hts, hKc, hA, hxn⟩ := id hctx
  refine va_mmin_long (rest := rest.map (zv ad)) hx hbb (hml.trans hl.1.symm) hown (hts _ hm.1) (hts _ hm.2.1) (hts _ hm.2.2.1) (hts _ hm.2.2.2) hR.1 ?_ hf.1 hf.2 h0.1.1 k9
  rw [zcats]
  have := Nat.le_of_ble_eq_true hcat
  omega
end ZMX
set_option maxRecDepth 100000 in
theorem zMaxI : Cond.methodLink RX2 78 Lib.Math.max.name ∈ zG ∧ Cond.static Lib.Math.max.name ∈ zG ∧ Cond.initialized "java/lang/Math" ∈ zG ∧ Cond.code Lib.Math.max.name Lib.Math.max.code 2 (some .int) ∈ zG := by decide +kernel
set_option maxRecDepth 100000 in
theorem zMinI : Cond.methodLink RX5 36 Lib.Math.min.name ∈ zG ∧ Cond.static Lib.Math.min.name ∈ zG ∧ Cond.initialized "java/lang/Math" ∈ zG ∧ Cond.code Lib.Math.min.name Lib.Math.min.code 2 (some .int) ∈ zG := by decide +kernel
set_option maxRecDepth 100000 in
theorem zMinL : Cond.methodLink RX6 299 Lib.MathLoose.min_long.x ∈ zG ∧ Cond.static Lib.MathLoose.min_long.x ∈ zG ∧ Cond.initialized "java/lang/Math" ∈ zG ∧ Cond.code Lib.MathLoose.min_long.x Lib.MathLoose.min_long.code 4 (some .long) ∈ zG := by decide +kernel
end
section
set_option maxHeartbeats 1000000 in
set_option maxRecDepth 20000 in
theorem pHas1 (O : Nat → Int32) (P : Nat → Nat → Int32) (Y : Nat → Nat → Int64) (g : Nat → zC) (x : Int32) : zK 0 zX2_has [.ref 1, .int x] (wX O P Y g) (fun r w' => w' = wX O P Y g ∧ (((0 ≤ x.toInt ∧ x.toInt < (O 1).toInt) ∧ r = some (.int 1)) ∨ (¬ (0 ≤ x.toInt ∧ x.toInt < (O 1).toInt) ∧ r = some (.int 0)))) := by
  refine zK_of qX2_has (by decide +kernel) rfl ?_
  iterate 2 (refine zv_step (bX2_has 0) rfl rfl trivial ?_)
  refine zv_ifb (fun hc => ?_) (fun hc => ?_)
  · rw [Int32.lt_iff_toInt_lt, Int32.toInt_zero] at hc
    iterate 1 (refine zv_step (bX2_has 0) rfl rfl trivial ?_)
    exact zv_iret (bX2_has 0) rfl (Or.inr ⟨rfl, Or.inl rfl⟩) (Nat.zero_le _) (Nat.zero_le _) ⟨rfl, Or.inr ⟨by omega, rfl⟩⟩
  · rw [Int32.lt_iff_toInt_lt, Int32.toInt_zero] at hc
    iterate 4 (refine zv_step (bX2_has 0) rfl rfl trivial ?_)
    refine zv_ifb (fun hd => ?_) (fun hd => ?_)
    · have hd : O 1 ≤ x := hd
      rw [Int32.le_iff_toInt_le] at hd
      iterate 1 (refine zv_step (bX2_has 0) rfl rfl trivial ?_)
      exact zv_iret (bX2_has 0) rfl (Or.inr ⟨rfl, Or.inl rfl⟩) (Nat.zero_le _) (Nat.zero_le _) ⟨rfl, Or.inr ⟨by omega, rfl⟩⟩
    · have hd : ¬ O 1 ≤ x := hd
      rw [Int32.le_iff_toInt_le] at hd
      iterate 2 (refine zv_step (bX2_has 0) rfl rfl trivial ?_)
      exact zv_iret (bX2_has 0) rfl (Or.inr ⟨rfl, Or.inr rfl⟩) (Nat.zero_le _) (Nat.zero_le _) ⟨rfl, Or.inl ⟨by omega, rfl⟩⟩
set_option maxHeartbeats 1000000 in
set_option maxRecDepth 20000 in
theorem pFull1 (O : Nat → Int32) (P : Nat → Nat → Int32) (Y : Nat → Nat → Int64) (g : Nat → zC) : zK 0 zX2_isFull [.ref 1] (wX O P Y g) (fun r w' => w' = wX O P Y g ∧ ((120 ≤ (O 1).toInt ∧ r = some (.int 1)) ∨ (¬ 120 ≤ (O 1).toInt ∧ r = some (.int 0)))) := by
  refine zK_of qX2_isFull (by decide +kernel) rfl ?_
  iterate 4 (refine zv_step (bX2_isFull 0) rfl rfl trivial ?_)
  refine zv_ifb (fun hc => ?_) (fun hc => ?_)
  · have hc : O 1 < c8 120 := hc
    rw [Int32.lt_iff_toInt_lt, i8c 120 (by decide)] at hc
    iterate 1 (refine zv_step (bX2_isFull 0) rfl rfl trivial ?_)
    exact zv_iret (bX2_isFull 0) rfl (Or.inr ⟨rfl, Or.inl rfl⟩) (Nat.zero_le _) (Nat.zero_le _) ⟨rfl, Or.inr ⟨by omega, rfl⟩⟩
  · have hc : ¬ O 1 < c8 120 := hc
    rw [Int32.lt_iff_toInt_lt, i8c 120 (by decide)] at hc
    iterate 2 (refine zv_step (bX2_isFull 0) rfl rfl trivial ?_)
    exact zv_iret (bX2_isFull 0) rfl (Or.inr ⟨rfl, Or.inr rfl⟩) (Nat.zero_le _) (Nat.zero_le _) ⟨rfl, Or.inl ⟨by omega, rfl⟩⟩
set_option maxHeartbeats 1000000 in
set_option maxRecDepth 20000 in
theorem pSizeOf1 (O : Nat → Int32) (P : Nat → Nat → Int32) (Y : Nat → Nat → Int64) (g : Nat → zC) (hu : (O 1).toInt ≤ 120) (x : Int32) : zK 1 zX2_sizeOf [.ref 1, .int x] (wX O P Y g) (fun r w' => w' = wX O P Y g ∧ (((0 ≤ x.toInt ∧ x.toInt < (O 1).toInt) ∧ r = some (.int (P 6 x.toNatClampNeg))) ∨ (¬ (0 ≤ x.toInt ∧ x.toInt < (O 1).toInt) ∧ r = some (.int 0)))) := by
  refine zK_of qX2_sizeOf (by decide +kernel) rfl ?_
  iterate 2 (refine zv_step (bX2_sizeOf 1) rfl rfl trivial ?_)
  refine zv_V1 (bX2_sizeOf 1) rfl rfl rfl rfl rfl rfl rfl ⟨rfl, rfl, rfl⟩ ⟨by decide, by decide⟩ ⟨Nat.zero_le _, Nat.zero_le _⟩ (pHas1 O P Y g _) ?_
  rintro _ _ ⟨rfl, ⟨hh, rfl⟩ | ⟨hh, rfl⟩⟩
  · iterate 1 (refine zv_step (bX2_sizeOf 1) rfl rfl trivial ?_)
    refine zv_iff (by decide) ?_
    iterate 3 (refine zv_step (bX2_sizeOf 1) rfl rfl trivial ?_)
    refine zv_step (bX2_sizeOf 1) rfl rfl (vp_in_iff.mpr ⟨hh.1, Int.lt_of_lt_of_le hh.2 hu⟩) ?_
    iterate 1 (refine zv_step (bX2_sizeOf 1) rfl rfl trivial ?_)
    exact zv_iret (bX2_sizeOf 1) rfl (Or.inl rfl) (Nat.zero_le _) (Nat.zero_le _) ⟨rfl, Or.inl ⟨hh, rfl⟩⟩
  · iterate 1 (refine zv_step (bX2_sizeOf 1) rfl rfl trivial ?_)
    refine zv_ift (by decide) ?_
    iterate 1 (refine zv_step (bX2_sizeOf 1) rfl rfl trivial ?_)
    exact zv_iret (bX2_sizeOf 1) rfl (Or.inl rfl) (Nat.zero_le _) (Nat.zero_le _) ⟨rfl, Or.inr ⟨hh, rfl⟩⟩
set_option maxHeartbeats 1000000 in
set_option maxRecDepth 20000 in
theorem pPartOf1 (O : Nat → Int32) (P : Nat → Nat → Int32) (Y : Nat → Nat → Int64) (g : Nat → zC) (hu : (O 1).toInt ≤ 120) (x d : Int32) : zK 1 zX2_partOf [.ref 1, .int x, .int d] (wX O P Y g) (fun r w' => w' = wX O P Y g ∧ (((0 ≤ x.toInt ∧ x.toInt < (O 1).toInt) ∧ ((d.toInt = 1 ∧ r = some (.int (P 4 x.toNatClampNeg))) ∨ (d.toInt = 2 ∧ r = some (.int (P 5 x.toNatClampNeg))))) ∨ (¬ ((0 ≤ x.toInt ∧ x.toInt < (O 1).toInt) ∧ (d.toInt = 1 ∨ d.toInt = 2)) ∧ r = some (.int (-1))))) := by
  refine zK_of qX2_partOf (by decide +kernel) rfl ?_
  iterate 2 (refine zv_step (bX2_partOf 1) rfl rfl trivial ?_)
  refine zv_V1 (bX2_partOf 1) rfl rfl rfl rfl rfl rfl rfl ⟨rfl, rfl, rfl⟩ ⟨by decide, by decide⟩ ⟨Nat.zero_le _, Nat.zero_le _⟩ (pHas1 O P Y g _) ?_
  rintro _ _ ⟨rfl, ⟨hh, rfl⟩ | ⟨hh, rfl⟩⟩
  · iterate 1 (refine zv_step (bX2_partOf 1) rfl rfl trivial ?_)
    refine zv_iff (by decide) ?_
    iterate 3 (refine zv_step (bX2_partOf 1) rfl rfl trivial ?_)
    refine zv_ifb (fun hc => ?_) (fun hc => ?_)
    · rw [Int32.lt_iff_toInt_lt, i32c 1 (by decide)] at hc
      iterate 1 (refine zv_step (bX2_partOf 1) rfl rfl trivial ?_)
      exact zv_iret (bX2_partOf 1) rfl (Or.inl rfl) (Nat.zero_le _) (Nat.zero_le _) ⟨rfl, Or.inr ⟨by omega, rfl⟩⟩
    · rw [Int32.lt_iff_toInt_lt, i32c 1 (by decide)] at hc
      iterate 3 (refine zv_step (bX2_partOf 1) rfl rfl trivial ?_)
      refine zv_ifb (fun hd => ?_) (fun hd => ?_)
      · rw [Int32.le_iff_toInt_le, i32c 2 (by decide)] at hd
        iterate 3 (refine zv_step (bX2_partOf 1) rfl rfl trivial ?_)
        refine zv_ifb (fun he => ?_) (fun he => ?_)
        · rw [i32e _ 1 (by decide)] at he
          iterate 3 (refine zv_step (bX2_partOf 1) rfl rfl trivial ?_)
          refine zv_step (bX2_partOf 1) rfl rfl (vp_in_iff.mpr ⟨hh.1, Int.lt_of_lt_of_le hh.2 hu⟩) ?_
          exact zv_iret (bX2_partOf 1) rfl (Or.inl rfl) (Nat.zero_le _) (Nat.zero_le _) ⟨rfl, Or.inl ⟨hh, Or.inr ⟨by omega, rfl⟩⟩⟩
        · rw [i32e _ 1 (by decide)] at he
          iterate 3 (refine zv_step (bX2_partOf 1) rfl rfl trivial ?_)
          refine zv_step (bX2_partOf 1) rfl rfl (vp_in_iff.mpr ⟨hh.1, Int.lt_of_lt_of_le hh.2 hu⟩) ?_
          iterate 1 (refine zv_step (bX2_partOf 1) rfl rfl trivial ?_)
          exact zv_iret (bX2_partOf 1) rfl (Or.inl rfl) (Nat.zero_le _) (Nat.zero_le _) ⟨rfl, Or.inl ⟨hh, Or.inl ⟨by omega, rfl⟩⟩⟩
      · rw [Int32.le_iff_toInt_le, i32c 2 (by decide)] at hd
        iterate 1 (refine zv_step (bX2_partOf 1) rfl rfl trivial ?_)
        exact zv_iret (bX2_partOf 1) rfl (Or.inl rfl) (Nat.zero_le _) (Nat.zero_le _) ⟨rfl, Or.inr ⟨by omega, rfl⟩⟩
  · iterate 1 (refine zv_step (bX2_partOf 1) rfl rfl trivial ?_)
    refine zv_ift (by decide) ?_
    iterate 1 (refine zv_step (bX2_partOf 1) rfl rfl trivial ?_)
    exact zv_iret (bX2_partOf 1) rfl (Or.inl rfl) (Nat.zero_le _) (Nat.zero_le _) ⟨rfl, Or.inr ⟨by omega, rfl⟩⟩
end
section
set_option maxHeartbeats 1000000 in
set_option maxRecDepth 20000 in
theorem pHas14 (O : Nat → Int32) (P : Nat → Nat → Int32) (Y : Nat → Nat → Int64) (g : Nat → zC) (x : Int32) : zK 0 zX2_has [.ref 14, .int x] (wX O P Y g) (fun r w' => w' = wX O P Y g ∧ (((0 ≤ x.toInt ∧ x.toInt < (O 2).toInt) ∧ r = some (.int 1)) ∨ (¬ (0 ≤ x.toInt ∧ x.toInt < (O 2).toInt) ∧ r = some (.int 0)))) := by
  refine zK_of qX2_has (by decide +kernel) rfl ?_
  iterate 2 (refine zv_step (bX2_has 0) rfl rfl trivial ?_)
  refine zv_ifb (fun hc => ?_) (fun hc => ?_)
  · rw [Int32.lt_iff_toInt_lt, Int32.toInt_zero] at hc
    iterate 1 (refine zv_step (bX2_has 0) rfl rfl trivial ?_)
    exact zv_iret (bX2_has 0) rfl (Or.inr ⟨rfl, Or.inl rfl⟩) (Nat.zero_le _) (Nat.zero_le _) ⟨rfl, Or.inr ⟨by omega, rfl⟩⟩
  · rw [Int32.lt_iff_toInt_lt, Int32.toInt_zero] at hc
    iterate 4 (refine zv_step (bX2_has 0) rfl rfl trivial ?_)
    refine zv_ifb (fun hd => ?_) (fun hd => ?_)
    · have hd : O 2 ≤ x := hd
      rw [Int32.le_iff_toInt_le] at hd
      iterate 1 (refine zv_step (bX2_has 0) rfl rfl trivial ?_)
      exact zv_iret (bX2_has 0) rfl (Or.inr ⟨rfl, Or.inl rfl⟩) (Nat.zero_le _) (Nat.zero_le _) ⟨rfl, Or.inr ⟨by omega, rfl⟩⟩
    · have hd : ¬ O 2 ≤ x := hd
      rw [Int32.le_iff_toInt_le] at hd
      iterate 2 (refine zv_step (bX2_has 0) rfl rfl trivial ?_)
      exact zv_iret (bX2_has 0) rfl (Or.inr ⟨rfl, Or.inr rfl⟩) (Nat.zero_le _) (Nat.zero_le _) ⟨rfl, Or.inl ⟨by omega, rfl⟩⟩
set_option maxHeartbeats 1000000 in
set_option maxRecDepth 20000 in
theorem pFull14 (O : Nat → Int32) (P : Nat → Nat → Int32) (Y : Nat → Nat → Int64) (g : Nat → zC) : zK 0 zX2_isFull [.ref 14] (wX O P Y g) (fun r w' => w' = wX O P Y g ∧ ((120 ≤ (O 2).toInt ∧ r = some (.int 1)) ∨ (¬ 120 ≤ (O 2).toInt ∧ r = some (.int 0)))) := by
  refine zK_of qX2_isFull (by decide +kernel) rfl ?_
  iterate 4 (refine zv_step (bX2_isFull 0) rfl rfl trivial ?_)
  refine zv_ifb (fun hc => ?_) (fun hc => ?_)
  · have hc : O 2 < c8 120 := hc
    rw [Int32.lt_iff_toInt_lt, i8c 120 (by decide)] at hc
    iterate 1 (refine zv_step (bX2_isFull 0) rfl rfl trivial ?_)
    exact zv_iret (bX2_isFull 0) rfl (Or.inr ⟨rfl, Or.inl rfl⟩) (Nat.zero_le _) (Nat.zero_le _) ⟨rfl, Or.inr ⟨by omega, rfl⟩⟩
  · have hc : ¬ O 2 < c8 120 := hc
    rw [Int32.lt_iff_toInt_lt, i8c 120 (by decide)] at hc
    iterate 2 (refine zv_step (bX2_isFull 0) rfl rfl trivial ?_)
    exact zv_iret (bX2_isFull 0) rfl (Or.inr ⟨rfl, Or.inr rfl⟩) (Nat.zero_le _) (Nat.zero_le _) ⟨rfl, Or.inl ⟨by omega, rfl⟩⟩
set_option maxHeartbeats 1000000 in
set_option maxRecDepth 20000 in
theorem pSizeOf14 (O : Nat → Int32) (P : Nat → Nat → Int32) (Y : Nat → Nat → Int64) (g : Nat → zC) (hu : (O 2).toInt ≤ 120) (x : Int32) : zK 1 zX2_sizeOf [.ref 14, .int x] (wX O P Y g) (fun r w' => w' = wX O P Y g ∧ (((0 ≤ x.toInt ∧ x.toInt < (O 2).toInt) ∧ r = some (.int (P 19 x.toNatClampNeg))) ∨ (¬ (0 ≤ x.toInt ∧ x.toInt < (O 2).toInt) ∧ r = some (.int 0)))) := by
  refine zK_of qX2_sizeOf (by decide +kernel) rfl ?_
  iterate 2 (refine zv_step (bX2_sizeOf 1) rfl rfl trivial ?_)
  refine zv_V1 (bX2_sizeOf 1) rfl rfl rfl rfl rfl rfl rfl ⟨rfl, rfl, rfl⟩ ⟨by decide, by decide⟩ ⟨Nat.zero_le _, Nat.zero_le _⟩ (pHas14 O P Y g _) ?_
  rintro _ _ ⟨rfl, ⟨hh, rfl⟩ | ⟨hh, rfl⟩⟩
  · iterate 1 (refine zv_step (bX2_sizeOf 1) rfl rfl trivial ?_)
    refine zv_iff (by decide) ?_
    iterate 3 (refine zv_step (bX2_sizeOf 1) rfl rfl trivial ?_)
    refine zv_step (bX2_sizeOf 1) rfl rfl (vp_in_iff.mpr ⟨hh.1, Int.lt_of_lt_of_le hh.2 hu⟩) ?_
    iterate 1 (refine zv_step (bX2_sizeOf 1) rfl rfl trivial ?_)
    exact zv_iret (bX2_sizeOf 1) rfl (Or.inl rfl) (Nat.zero_le _) (Nat.zero_le _) ⟨rfl, Or.inl ⟨hh, rfl⟩⟩
  · iterate 1 (refine zv_step (bX2_sizeOf 1) rfl rfl trivial ?_)
    refine zv_ift (by decide) ?_
    iterate 1 (refine zv_step (bX2_sizeOf 1) rfl rfl trivial ?_)
    exact zv_iret (bX2_sizeOf 1) rfl (Or.inl rfl) (Nat.zero_le _) (Nat.zero_le _) ⟨rfl, Or.inr ⟨hh, rfl⟩⟩
set_option maxHeartbeats 1000000 in
set_option maxRecDepth 20000 in
theorem pPartOf14 (O : Nat → Int32) (P : Nat → Nat → Int32) (Y : Nat → Nat → Int64) (g : Nat → zC) (hu : (O 2).toInt ≤ 120) (x d : Int32) : zK 1 zX2_partOf [.ref 14, .int x, .int d] (wX O P Y g) (fun r w' => w' = wX O P Y g ∧ (((0 ≤ x.toInt ∧ x.toInt < (O 2).toInt) ∧ ((d.toInt = 1 ∧ r = some (.int (P 17 x.toNatClampNeg))) ∨ (d.toInt = 2 ∧ r = some (.int (P 18 x.toNatClampNeg))))) ∨ (¬ ((0 ≤ x.toInt ∧ x.toInt < (O 2).toInt) ∧ (d.toInt = 1 ∨ d.toInt = 2)) ∧ r = some (.int (-1))))) := by
  refine zK_of qX2_partOf (by decide +kernel) rfl ?_
  iterate 2 (refine zv_step (bX2_partOf 1) rfl rfl trivial ?_)
  refine zv_V1 (bX2_partOf 1) rfl rfl rfl rfl rfl rfl rfl ⟨rfl, rfl, rfl⟩ ⟨by decide, by decide⟩ ⟨Nat.zero_le _, Nat.zero_le _⟩ (pHas14 O P Y g _) ?_
  rintro _ _ ⟨rfl, ⟨hh, rfl⟩ | ⟨hh, rfl⟩⟩
  · iterate 1 (refine zv_step (bX2_partOf 1) rfl rfl trivial ?_)
    refine zv_iff (by decide) ?_
    iterate 3 (refine zv_step (bX2_partOf 1) rfl rfl trivial ?_)
    refine zv_ifb (fun hc => ?_) (fun hc => ?_)
    · rw [Int32.lt_iff_toInt_lt, i32c 1 (by decide)] at hc
      iterate 1 (refine zv_step (bX2_partOf 1) rfl rfl trivial ?_)
      exact zv_iret (bX2_partOf 1) rfl (Or.inl rfl) (Nat.zero_le _) (Nat.zero_le _) ⟨rfl, Or.inr ⟨by omega, rfl⟩⟩
    · rw [Int32.lt_iff_toInt_lt, i32c 1 (by decide)] at hc
      iterate 3 (refine zv_step (bX2_partOf 1) rfl rfl trivial ?_)
      refine zv_ifb (fun hd => ?_) (fun hd => ?_)
      · rw [Int32.le_iff_toInt_le, i32c 2 (by decide)] at hd
        iterate 3 (refine zv_step (bX2_partOf 1) rfl rfl trivial ?_)
        refine zv_ifb (fun he => ?_) (fun he => ?_)
        · rw [i32e _ 1 (by decide)] at he
          iterate 3 (refine zv_step (bX2_partOf 1) rfl rfl trivial ?_)
          refine zv_step (bX2_partOf 1) rfl rfl (vp_in_iff.mpr ⟨hh.1, Int.lt_of_lt_of_le hh.2 hu⟩) ?_
          exact zv_iret (bX2_partOf 1) rfl (Or.inl rfl) (Nat.zero_le _) (Nat.zero_le _) ⟨rfl, Or.inl ⟨hh, Or.inr ⟨by omega, rfl⟩⟩⟩
        · rw [i32e _ 1 (by decide)] at he
          iterate 3 (refine zv_step (bX2_partOf 1) rfl rfl trivial ?_)
          refine zv_step (bX2_partOf 1) rfl rfl (vp_in_iff.mpr ⟨hh.1, Int.lt_of_lt_of_le hh.2 hu⟩) ?_
          iterate 1 (refine zv_step (bX2_partOf 1) rfl rfl trivial ?_)
          exact zv_iret (bX2_partOf 1) rfl (Or.inl rfl) (Nat.zero_le _) (Nat.zero_le _) ⟨rfl, Or.inl ⟨hh, Or.inl ⟨by omega, rfl⟩⟩⟩
      · rw [Int32.le_iff_toInt_le, i32c 2 (by decide)] at hd
        iterate 1 (refine zv_step (bX2_partOf 1) rfl rfl trivial ?_)
        exact zv_iret (bX2_partOf 1) rfl (Or.inl rfl) (Nat.zero_le _) (Nat.zero_le _) ⟨rfl, Or.inr ⟨by omega, rfl⟩⟩
  · iterate 1 (refine zv_step (bX2_partOf 1) rfl rfl trivial ?_)
    refine zv_ift (by decide) ?_
    iterate 1 (refine zv_step (bX2_partOf 1) rfl rfl trivial ?_)
    exact zv_iret (bX2_partOf 1) rfl (Or.inl rfl) (Nat.zero_le _) (Nat.zero_le _) ⟨rfl, Or.inr ⟨by omega, rfl⟩⟩
end
