section
-- begun from the given skeleton's PART A and the given printed names (kit/laws/SKELETON.whole, claim/NAMES.whole); the rest by a program (wip/whole/gen1.py)
-- ===== PART A: goes FIRST, ahead of the names: the tables' words, and 'selects' of the private methods out of them =====
/-- a private method of a class that the tables say can be made, by its rows of tables_1 -/
def lw_okq (q : MethodName × Nat) : Prop := (q.1.cls ≠ "java/lang/invoke/MethodHandle" ∧ q.1.cls ≠ "java/lang/invoke/VarHandle") ∧ Cond.instantiable q.1.cls q.2 ∈ tables_1 ∧ Cond.privateMethod q.1 ∈ tables_1 ∧ Cond.instanceMethod q.1 ∈ tables_1
theorem lw_p0 : lw_okq (⟨"FiguredBasses$History", "dropOldest", "()V"⟩, 2) := ⟨⟨by decide +kernel, by decide +kernel⟩, List.mem_of_getElem? (i := 53) (by decide +kernel), List.mem_of_getElem? (i := 189) (by decide +kernel), List.mem_of_getElem? (i := 190) (by decide +kernel)⟩
theorem lw_p1 : lw_okq (⟨"FiguredBasses$Piece", "takeFrom", "(LFiguredBasses$Piece;II)V"⟩, 5) := ⟨⟨by decide +kernel, by decide +kernel⟩, List.mem_of_getElem? (i := 21) (by decide +kernel), List.mem_of_getElem? (i := 197) (by decide +kernel), List.mem_of_getElem? (i := 198) (by decide +kernel)⟩
theorem lw_p2 : lw_okq (⟨"FiguredBasses$Realiser", "gather", "(LFiguredBasses$Piece;)V"⟩, 4) := ⟨⟨by decide +kernel, by decide +kernel⟩, List.mem_of_getElem? (i := 119) (by decide +kernel), List.mem_of_getElem? (i := 390) (by decide +kernel), List.mem_of_getElem? (i := 391) (by decide +kernel)⟩
theorem lw_p3 : lw_okq (⟨"FiguredBasses$Voicings", "add", "(I)V"⟩, 2) := ⟨⟨by decide +kernel, by decide +kernel⟩, List.mem_of_getElem? (i := 106) (by decide +kernel), List.mem_of_getElem? (i := 400) (by decide +kernel), List.mem_of_getElem? (i := 401) (by decide +kernel)⟩
theorem lw_p4 : lw_okq (⟨"FiguredBasses$Realiser", "weigh", "(LFiguredBasses$Piece;II)V"⟩, 4) := ⟨⟨by decide +kernel, by decide +kernel⟩, List.mem_of_getElem? (i := 119) (by decide +kernel), List.mem_of_getElem? (i := 423) (by decide +kernel), List.mem_of_getElem? (i := 424) (by decide +kernel)⟩
theorem lw_p5 : lw_okq (⟨"FiguredBasses$PadReader", "readChord", "(LFiguredBasses$Pad;)Z"⟩, 5) := ⟨⟨by decide +kernel, by decide +kernel⟩, List.mem_of_getElem? (i := 84) (by decide +kernel), List.mem_of_getElem? (i := 454) (by decide +kernel), List.mem_of_getElem? (i := 455) (by decide +kernel)⟩
theorem lw_p6 : lw_okq (⟨"FiguredBasses$PadReader", "readNote", "(LFiguredBasses$Pad;)I"⟩, 5) := ⟨⟨by decide +kernel, by decide +kernel⟩, List.mem_of_getElem? (i := 84) (by decide +kernel), List.mem_of_getElem? (i := 458) (by decide +kernel), List.mem_of_getElem? (i := 459) (by decide +kernel)⟩
theorem lw_p7 : lw_okq (⟨"FiguredBasses$PadReader", "skip", "(LFiguredBasses$Pad;C)Z"⟩, 5) := ⟨⟨by decide +kernel, by decide +kernel⟩, List.mem_of_getElem? (i := 84) (by decide +kernel), List.mem_of_getElem? (i := 469) (by decide +kernel), List.mem_of_getElem? (i := 470) (by decide +kernel)⟩
theorem lw_p8 : lw_okq (⟨"FiguredBasses$PadReader", "readFigure", "(LFiguredBasses$Pad;)I"⟩, 5) := ⟨⟨by decide +kernel, by decide +kernel⟩, List.mem_of_getElem? (i := 84) (by decide +kernel), List.mem_of_getElem? (i := 473) (by decide +kernel), List.mem_of_getElem? (i := 474) (by decide +kernel)⟩
theorem lw_p9 : lw_okq (⟨"FiguredBasses$PadReader", "readVoices", "(LFiguredBasses$Pad;)I"⟩, 5) := ⟨⟨by decide +kernel, by decide +kernel⟩, List.mem_of_getElem? (i := 84) (by decide +kernel), List.mem_of_getElem? (i := 477) (by decide +kernel), List.mem_of_getElem? (i := 478) (by decide +kernel)⟩
theorem lw_p10 : lw_okq (⟨"FiguredBasses$PadReader", "keep", "(III)V"⟩, 5) := ⟨⟨by decide +kernel, by decide +kernel⟩, List.mem_of_getElem? (i := 84) (by decide +kernel), List.mem_of_getElem? (i := 482) (by decide +kernel), List.mem_of_getElem? (i := 483) (by decide +kernel)⟩
theorem lw_p11 : lw_okq (⟨"FiguredBassesModel", "solves", "()I"⟩, 12) := ⟨⟨by decide +kernel, by decide +kernel⟩, List.mem_of_getElem? (i := 642) (by decide +kernel), List.mem_of_getElem? (i := 689) (by decide +kernel), List.mem_of_getElem? (i := 690) (by decide +kernel)⟩
theorem lw_p12 : lw_okq (⟨"FiguredBassesModel", "listsAll", "()V"⟩, 12) := ⟨⟨by decide +kernel, by decide +kernel⟩, List.mem_of_getElem? (i := 642) (by decide +kernel), List.mem_of_getElem? (i := 693) (by decide +kernel), List.mem_of_getElem? (i := 694) (by decide +kernel)⟩
theorem lw_p13 : lw_okq (⟨"FiguredBassesModel", "has", "(I)Z"⟩, 12) := ⟨⟨by decide +kernel, by decide +kernel⟩, List.mem_of_getElem? (i := 642) (by decide +kernel), List.mem_of_getElem? (i := 697) (by decide +kernel), List.mem_of_getElem? (i := 698) (by decide +kernel)⟩
theorem lw_p14 : lw_okq (⟨"FiguredBassesModel", "isChord", "(I)Z"⟩, 12) := ⟨⟨by decide +kernel, by decide +kernel⟩, List.mem_of_getElem? (i := 642) (by decide +kernel), List.mem_of_getElem? (i := 701) (by decide +kernel), List.mem_of_getElem? (i := 702) (by decide +kernel)⟩
theorem lw_p15 : lw_okq (⟨"FiguredBassesModel", "of6", "(II)I"⟩, 12) := ⟨⟨by decide +kernel, by decide +kernel⟩, List.mem_of_getElem? (i := 642) (by decide +kernel), List.mem_of_getElem? (i := 708) (by decide +kernel), List.mem_of_getElem? (i := 709) (by decide +kernel)⟩
def lw_privs_1 : List (MethodName × Nat) := [(⟨"FiguredBasses$History", "dropOldest", "()V"⟩, 2), (⟨"FiguredBasses$Piece", "takeFrom", "(LFiguredBasses$Piece;II)V"⟩, 5), (⟨"FiguredBasses$Realiser", "gather", "(LFiguredBasses$Piece;)V"⟩, 4), (⟨"FiguredBasses$Voicings", "add", "(I)V"⟩, 2), (⟨"FiguredBasses$Realiser", "weigh", "(LFiguredBasses$Piece;II)V"⟩, 4), (⟨"FiguredBasses$PadReader", "readChord", "(LFiguredBasses$Pad;)Z"⟩, 5), (⟨"FiguredBasses$PadReader", "readNote", "(LFiguredBasses$Pad;)I"⟩, 5), (⟨"FiguredBasses$PadReader", "skip", "(LFiguredBasses$Pad;C)Z"⟩, 5), (⟨"FiguredBasses$PadReader", "readFigure", "(LFiguredBasses$Pad;)I"⟩, 5), (⟨"FiguredBasses$PadReader", "readVoices", "(LFiguredBasses$Pad;)I"⟩, 5), (⟨"FiguredBasses$PadReader", "keep", "(III)V"⟩, 5), (⟨"FiguredBassesModel", "solves", "()I"⟩, 12), (⟨"FiguredBassesModel", "listsAll", "()V"⟩, 12), (⟨"FiguredBassesModel", "has", "(I)Z"⟩, 12), (⟨"FiguredBassesModel", "isChord", "(I)Z"⟩, 12), (⟨"FiguredBassesModel", "of6", "(II)I"⟩, 12)]
theorem lw_r1 : ∀ q ∈ lw_privs_1, lw_okq q := List.forall_mem_cons.mpr ⟨lw_p0, List.forall_mem_cons.mpr ⟨lw_p1, List.forall_mem_cons.mpr ⟨lw_p2, List.forall_mem_cons.mpr ⟨lw_p3, List.forall_mem_cons.mpr ⟨lw_p4, List.forall_mem_cons.mpr ⟨lw_p5, List.forall_mem_cons.mpr ⟨lw_p6, List.forall_mem_cons.mpr ⟨lw_p7, List.forall_mem_cons.mpr ⟨lw_p8, List.forall_mem_cons.mpr ⟨lw_p9, List.forall_mem_cons.mpr ⟨lw_p10, List.forall_mem_cons.mpr ⟨lw_p11, List.forall_mem_cons.mpr ⟨lw_p12, List.forall_mem_cons.mpr ⟨lw_p13, List.forall_mem_cons.mpr ⟨lw_p14, List.forall_mem_cons.mpr ⟨lw_p15, fun _ h => absurd h List.not_mem_nil⟩⟩⟩⟩⟩⟩⟩⟩⟩⟩⟩⟩⟩⟩⟩⟩
theorem lw_p16 : lw_okq (⟨"FiguredBassesModel", "listsOf", "(I)V"⟩, 12) := ⟨⟨by decide +kernel, by decide +kernel⟩, List.mem_of_getElem? (i := 642) (by decide +kernel), List.mem_of_getElem? (i := 712) (by decide +kernel), List.mem_of_getElem? (i := 713) (by decide +kernel)⟩
theorem lw_p17 : lw_okq (⟨"FiguredBassesModel", "sings", "(IIII)V"⟩, 12) := ⟨⟨by decide +kernel, by decide +kernel⟩, List.mem_of_getElem? (i := 642) (by decide +kernel), List.mem_of_getElem? (i := 716) (by decide +kernel), List.mem_of_getElem? (i := 717) (by decide +kernel)⟩
theorem lw_p18 : lw_okq (⟨"FiguredBassesModel", "ownFaults", "(I)I"⟩, 12) := ⟨⟨by decide +kernel, by decide +kernel⟩, List.mem_of_getElem? (i := 642) (by decide +kernel), List.mem_of_getElem? (i := 720) (by decide +kernel), List.mem_of_getElem? (i := 721) (by decide +kernel)⟩
theorem lw_p19 : lw_okq (⟨"FiguredBassesModel", "tones", "(I)I"⟩, 12) := ⟨⟨by decide +kernel, by decide +kernel⟩, List.mem_of_getElem? (i := 642) (by decide +kernel), List.mem_of_getElem? (i := 724) (by decide +kernel), List.mem_of_getElem? (i := 725) (by decide +kernel)⟩
theorem lw_p20 : lw_okq (⟨"FiguredBassesModel", "tonic", "()I"⟩, 12) := ⟨⟨by decide +kernel, by decide +kernel⟩, List.mem_of_getElem? (i := 642) (by decide +kernel), List.mem_of_getElem? (i := 728) (by decide +kernel), List.mem_of_getElem? (i := 729) (by decide +kernel)⟩
theorem lw_p21 : lw_okq (⟨"FiguredBassesModel", "leading", "()I"⟩, 12) := ⟨⟨by decide +kernel, by decide +kernel⟩, List.mem_of_getElem? (i := 642) (by decide +kernel), List.mem_of_getElem? (i := 738) (by decide +kernel), List.mem_of_getElem? (i := 739) (by decide +kernel)⟩
theorem lw_p22 : lw_okq (⟨"FiguredBassesModel", "leastFrom", "(II)I"⟩, 12) := ⟨⟨by decide +kernel, by decide +kernel⟩, List.mem_of_getElem? (i := 642) (by decide +kernel), List.mem_of_getElem? (i := 742) (by decide +kernel), List.mem_of_getElem? (i := 743) (by decide +kernel)⟩
theorem lw_p23 : lw_okq (⟨"FiguredBassesModel", "joins", "(III)I"⟩, 12) := ⟨⟨by decide +kernel, by decide +kernel⟩, List.mem_of_getElem? (i := 642) (by decide +kernel), List.mem_of_getElem? (i := 747) (by decide +kernel), List.mem_of_getElem? (i := 748) (by decide +kernel)⟩
theorem lw_p24 : lw_okq (⟨"FiguredBassesModel", "hearsListed", "(II)V"⟩, 12) := ⟨⟨by decide +kernel, by decide +kernel⟩, List.mem_of_getElem? (i := 642) (by decide +kernel), List.mem_of_getElem? (i := 751) (by decide +kernel), List.mem_of_getElem? (i := 752) (by decide +kernel)⟩
theorem lw_p25 : lw_okq (⟨"FiguredBassesModel", "hears", "(IIII)V"⟩, 12) := ⟨⟨by decide +kernel, by decide +kernel⟩, List.mem_of_getElem? (i := 642) (by decide +kernel), List.mem_of_getElem? (i := 755) (by decide +kernel), List.mem_of_getElem? (i := 756) (by decide +kernel)⟩
theorem lw_p26 : lw_okq (⟨"FiguredBassesModel", "singsListed", "(II)V"⟩, 12) := ⟨⟨by decide +kernel, by decide +kernel⟩, List.mem_of_getElem? (i := 642) (by decide +kernel), List.mem_of_getElem? (i := 759) (by decide +kernel), List.mem_of_getElem? (i := 760) (by decide +kernel)⟩
theorem lw_p27 : lw_okq (⟨"FiguredBassesModel", "jointFaults", "(I)I"⟩, 12) := ⟨⟨by decide +kernel, by decide +kernel⟩, List.mem_of_getElem? (i := 642) (by decide +kernel), List.mem_of_getElem? (i := 763) (by decide +kernel), List.mem_of_getElem? (i := 764) (by decide +kernel)⟩
theorem lw_p28 : lw_okq (⟨"FiguredBassesModel", "parallels", "(I)I"⟩, 12) := ⟨⟨by decide +kernel, by decide +kernel⟩, List.mem_of_getElem? (i := 642) (by decide +kernel), List.mem_of_getElem? (i := 770) (by decide +kernel), List.mem_of_getElem? (i := 771) (by decide +kernel)⟩
theorem lw_p29 : lw_okq (⟨"FiguredBassesModel", "steps", "()I"⟩, 12) := ⟨⟨by decide +kernel, by decide +kernel⟩, List.mem_of_getElem? (i := 642) (by decide +kernel), List.mem_of_getElem? (i := 777) (by decide +kernel), List.mem_of_getElem? (i := 778) (by decide +kernel)⟩
theorem lw_p30 : lw_okq (⟨"FiguredBassesModel", "remembers", "()V"⟩, 12) := ⟨⟨by decide +kernel, by decide +kernel⟩, List.mem_of_getElem? (i := 642) (by decide +kernel), List.mem_of_getElem? (i := 785) (by decide +kernel), List.mem_of_getElem? (i := 786) (by decide +kernel)⟩
theorem lw_p31 : lw_okq (⟨"FiguredBassesModel", "firstWith", "(III)I"⟩, 12) := ⟨⟨by decide +kernel, by decide +kernel⟩, List.mem_of_getElem? (i := 642) (by decide +kernel), List.mem_of_getElem? (i := 789) (by decide +kernel), List.mem_of_getElem? (i := 790) (by decide +kernel)⟩
def lw_privs_2 : List (MethodName × Nat) := [(⟨"FiguredBassesModel", "listsOf", "(I)V"⟩, 12), (⟨"FiguredBassesModel", "sings", "(IIII)V"⟩, 12), (⟨"FiguredBassesModel", "ownFaults", "(I)I"⟩, 12), (⟨"FiguredBassesModel", "tones", "(I)I"⟩, 12), (⟨"FiguredBassesModel", "tonic", "()I"⟩, 12), (⟨"FiguredBassesModel", "leading", "()I"⟩, 12), (⟨"FiguredBassesModel", "leastFrom", "(II)I"⟩, 12), (⟨"FiguredBassesModel", "joins", "(III)I"⟩, 12), (⟨"FiguredBassesModel", "hearsListed", "(II)V"⟩, 12), (⟨"FiguredBassesModel", "hears", "(IIII)V"⟩, 12), (⟨"FiguredBassesModel", "singsListed", "(II)V"⟩, 12), (⟨"FiguredBassesModel", "jointFaults", "(I)I"⟩, 12), (⟨"FiguredBassesModel", "parallels", "(I)I"⟩, 12), (⟨"FiguredBassesModel", "steps", "()I"⟩, 12), (⟨"FiguredBassesModel", "remembers", "()V"⟩, 12), (⟨"FiguredBassesModel", "firstWith", "(III)I"⟩, 12)]
theorem lw_r2 : ∀ q ∈ lw_privs_2, lw_okq q := List.forall_mem_cons.mpr ⟨lw_p16, List.forall_mem_cons.mpr ⟨lw_p17, List.forall_mem_cons.mpr ⟨lw_p18, List.forall_mem_cons.mpr ⟨lw_p19, List.forall_mem_cons.mpr ⟨lw_p20, List.forall_mem_cons.mpr ⟨lw_p21, List.forall_mem_cons.mpr ⟨lw_p22, List.forall_mem_cons.mpr ⟨lw_p23, List.forall_mem_cons.mpr ⟨lw_p24, List.forall_mem_cons.mpr ⟨lw_p25, List.forall_mem_cons.mpr ⟨lw_p26, List.forall_mem_cons.mpr ⟨lw_p27, List.forall_mem_cons.mpr ⟨lw_p28, List.forall_mem_cons.mpr ⟨lw_p29, List.forall_mem_cons.mpr ⟨lw_p30, List.forall_mem_cons.mpr ⟨lw_p31, fun _ h => absurd h List.not_mem_nil⟩⟩⟩⟩⟩⟩⟩⟩⟩⟩⟩⟩⟩⟩⟩⟩
theorem lw_p32 : lw_okq (⟨"FiguredBassesModel", "gives", "(II)V"⟩, 12) := ⟨⟨by decide +kernel, by decide +kernel⟩, List.mem_of_getElem? (i := 642) (by decide +kernel), List.mem_of_getElem? (i := 793) (by decide +kernel), List.mem_of_getElem? (i := 794) (by decide +kernel)⟩
theorem lw_p33 : lw_okq (⟨"FiguredBassesModel", "lays", "(III)V"⟩, 12) := ⟨⟨by decide +kernel, by decide +kernel⟩, List.mem_of_getElem? (i := 642) (by decide +kernel), List.mem_of_getElem? (i := 808) (by decide +kernel), List.mem_of_getElem? (i := 809) (by decide +kernel)⟩
theorem lw_p34 : lw_okq (⟨"FiguredBassesModel", "sets", "(IIII)V"⟩, 12) := ⟨⟨by decide +kernel, by decide +kernel⟩, List.mem_of_getElem? (i := 642) (by decide +kernel), List.mem_of_getElem? (i := 823) (by decide +kernel), List.mem_of_getElem? (i := 824) (by decide +kernel)⟩
theorem lw_p35 : lw_okq (⟨"FiguredBassesModel", "faults", "(I)I"⟩, 12) := ⟨⟨by decide +kernel, by decide +kernel⟩, List.mem_of_getElem? (i := 642) (by decide +kernel), List.mem_of_getElem? (i := 827) (by decide +kernel), List.mem_of_getElem? (i := 828) (by decide +kernel)⟩
theorem lw_p36 : lw_okq (⟨"FiguredBassesModel", "faultsWith", "(IIII)I"⟩, 12) := ⟨⟨by decide +kernel, by decide +kernel⟩, List.mem_of_getElem? (i := 642) (by decide +kernel), List.mem_of_getElem? (i := 831) (by decide +kernel), List.mem_of_getElem? (i := 832) (by decide +kernel)⟩
theorem lw_p37 : lw_okq (⟨"FiguredBassesModel", "hearsAhead", "(I)V"⟩, 12) := ⟨⟨by decide +kernel, by decide +kernel⟩, List.mem_of_getElem? (i := 642) (by decide +kernel), List.mem_of_getElem? (i := 835) (by decide +kernel), List.mem_of_getElem? (i := 836) (by decide +kernel)⟩
theorem lw_p38 : lw_okq (⟨"FiguredBassesModel", "voiced", "()I"⟩, 12) := ⟨⟨by decide +kernel, by decide +kernel⟩, List.mem_of_getElem? (i := 642) (by decide +kernel), List.mem_of_getElem? (i := 843) (by decide +kernel), List.mem_of_getElem? (i := 844) (by decide +kernel)⟩
theorem lw_p39 : lw_okq (⟨"FiguredBassesModel", "canMove", "(I)Z"⟩, 12) := ⟨⟨by decide +kernel, by decide +kernel⟩, List.mem_of_getElem? (i := 642) (by decide +kernel), List.mem_of_getElem? (i := 851) (by decide +kernel), List.mem_of_getElem? (i := 852) (by decide +kernel)⟩
theorem lw_p40 : lw_okq (⟨"FiguredBassesModel", "cost", "(I)I"⟩, 12) := ⟨⟨by decide +kernel, by decide +kernel⟩, List.mem_of_getElem? (i := 642) (by decide +kernel), List.mem_of_getElem? (i := 859) (by decide +kernel), List.mem_of_getElem? (i := 860) (by decide +kernel)⟩
theorem lw_p41 : lw_okq (⟨"FiguredBassesModel", "ofAll", "(I)I"⟩, 12) := ⟨⟨by decide +kernel, by decide +kernel⟩, List.mem_of_getElem? (i := 642) (by decide +kernel), List.mem_of_getElem? (i := 871) (by decide +kernel), List.mem_of_getElem? (i := 872) (by decide +kernel)⟩
theorem lw_p42 : lw_okq (⟨"FiguredBassesModel", "costs", "()I"⟩, 12) := ⟨⟨by decide +kernel, by decide +kernel⟩, List.mem_of_getElem? (i := 642) (by decide +kernel), List.mem_of_getElem? (i := 878) (by decide +kernel), List.mem_of_getElem? (i := 879) (by decide +kernel)⟩
theorem lw_p43 : lw_okq (⟨"FiguredBassesModel", "chordEnd", "(I)I"⟩, 12) := ⟨⟨by decide +kernel, by decide +kernel⟩, List.mem_of_getElem? (i := 642) (by decide +kernel), List.mem_of_getElem? (i := 911) (by decide +kernel), List.mem_of_getElem? (i := 912) (by decide +kernel)⟩
theorem lw_p44 : lw_okq (⟨"FiguredBassesModel", "noteEnd", "(I)I"⟩, 12) := ⟨⟨by decide +kernel, by decide +kernel⟩, List.mem_of_getElem? (i := 642) (by decide +kernel), List.mem_of_getElem? (i := 915) (by decide +kernel), List.mem_of_getElem? (i := 916) (by decide +kernel)⟩
theorem lw_p45 : lw_okq (⟨"FiguredBassesModel", "digit", "(I)I"⟩, 12) := ⟨⟨by decide +kernel, by decide +kernel⟩, List.mem_of_getElem? (i := 642) (by decide +kernel), List.mem_of_getElem? (i := 919) (by decide +kernel), List.mem_of_getElem? (i := 920) (by decide +kernel)⟩
theorem lw_p46 : lw_okq (⟨"FiguredBassesModel", "sign", "(I)I"⟩, 12) := ⟨⟨by decide +kernel, by decide +kernel⟩, List.mem_of_getElem? (i := 642) (by decide +kernel), List.mem_of_getElem? (i := 923) (by decide +kernel), List.mem_of_getElem? (i := 924) (by decide +kernel)⟩
theorem lw_p47 : lw_okq (⟨"FiguredBassesModel", "figureEnd", "(I)I"⟩, 12) := ⟨⟨by decide +kernel, by decide +kernel⟩, List.mem_of_getElem? (i := 642) (by decide +kernel), List.mem_of_getElem? (i := 927) (by decide +kernel), List.mem_of_getElem? (i := 928) (by decide +kernel)⟩
def lw_privs_3 : List (MethodName × Nat) := [(⟨"FiguredBassesModel", "gives", "(II)V"⟩, 12), (⟨"FiguredBassesModel", "lays", "(III)V"⟩, 12), (⟨"FiguredBassesModel", "sets", "(IIII)V"⟩, 12), (⟨"FiguredBassesModel", "faults", "(I)I"⟩, 12), (⟨"FiguredBassesModel", "faultsWith", "(IIII)I"⟩, 12), (⟨"FiguredBassesModel", "hearsAhead", "(I)V"⟩, 12), (⟨"FiguredBassesModel", "voiced", "()I"⟩, 12), (⟨"FiguredBassesModel", "canMove", "(I)Z"⟩, 12), (⟨"FiguredBassesModel", "cost", "(I)I"⟩, 12), (⟨"FiguredBassesModel", "ofAll", "(I)I"⟩, 12), (⟨"FiguredBassesModel", "costs", "()I"⟩, 12), (⟨"FiguredBassesModel", "chordEnd", "(I)I"⟩, 12), (⟨"FiguredBassesModel", "noteEnd", "(I)I"⟩, 12), (⟨"FiguredBassesModel", "digit", "(I)I"⟩, 12), (⟨"FiguredBassesModel", "sign", "(I)I"⟩, 12), (⟨"FiguredBassesModel", "figureEnd", "(I)I"⟩, 12)]
theorem lw_r3 : ∀ q ∈ lw_privs_3, lw_okq q := List.forall_mem_cons.mpr ⟨lw_p32, List.forall_mem_cons.mpr ⟨lw_p33, List.forall_mem_cons.mpr ⟨lw_p34, List.forall_mem_cons.mpr ⟨lw_p35, List.forall_mem_cons.mpr ⟨lw_p36, List.forall_mem_cons.mpr ⟨lw_p37, List.forall_mem_cons.mpr ⟨lw_p38, List.forall_mem_cons.mpr ⟨lw_p39, List.forall_mem_cons.mpr ⟨lw_p40, List.forall_mem_cons.mpr ⟨lw_p41, List.forall_mem_cons.mpr ⟨lw_p42, List.forall_mem_cons.mpr ⟨lw_p43, List.forall_mem_cons.mpr ⟨lw_p44, List.forall_mem_cons.mpr ⟨lw_p45, List.forall_mem_cons.mpr ⟨lw_p46, List.forall_mem_cons.mpr ⟨lw_p47, fun _ h => absurd h List.not_mem_nil⟩⟩⟩⟩⟩⟩⟩⟩⟩⟩⟩⟩⟩⟩⟩⟩
theorem lw_p48 : lw_okq (⟨"FiguredBassesModel", "voicesEnd", "(I)I"⟩, 12) := ⟨⟨by decide +kernel, by decide +kernel⟩, List.mem_of_getElem? (i := 642) (by decide +kernel), List.mem_of_getElem? (i := 931) (by decide +kernel), List.mem_of_getElem? (i := 932) (by decide +kernel)⟩
theorem lw_p49 : lw_okq (⟨"FiguredBassesModel", "behind", "(II)I"⟩, 12) := ⟨⟨by decide +kernel, by decide +kernel⟩, List.mem_of_getElem? (i := 642) (by decide +kernel), List.mem_of_getElem? (i := 935) (by decide +kernel), List.mem_of_getElem? (i := 936) (by decide +kernel)⟩
theorem lw_p50 : lw_okq (⟨"FiguredBassesModel", "chordsOfPad", "(I)I"⟩, 12) := ⟨⟨by decide +kernel, by decide +kernel⟩, List.mem_of_getElem? (i := 642) (by decide +kernel), List.mem_of_getElem? (i := 944) (by decide +kernel), List.mem_of_getElem? (i := 945) (by decide +kernel)⟩
theorem lw_p51 : lw_okq (⟨"FiguredBassesModel", "noteAt", "(I)I"⟩, 12) := ⟨⟨by decide +kernel, by decide +kernel⟩, List.mem_of_getElem? (i := 642) (by decide +kernel), List.mem_of_getElem? (i := 948) (by decide +kernel), List.mem_of_getElem? (i := 949) (by decide +kernel)⟩
theorem lw_p52 : lw_okq (⟨"FiguredBassesModel", "reads", "(II)V"⟩, 12) := ⟨⟨by decide +kernel, by decide +kernel⟩, List.mem_of_getElem? (i := 642) (by decide +kernel), List.mem_of_getElem? (i := 952) (by decide +kernel), List.mem_of_getElem? (i := 953) (by decide +kernel)⟩
def lw_privs_4 : List (MethodName × Nat) := [(⟨"FiguredBassesModel", "voicesEnd", "(I)I"⟩, 12), (⟨"FiguredBassesModel", "behind", "(II)I"⟩, 12), (⟨"FiguredBassesModel", "chordsOfPad", "(I)I"⟩, 12), (⟨"FiguredBassesModel", "noteAt", "(I)I"⟩, 12), (⟨"FiguredBassesModel", "reads", "(II)V"⟩, 12)]
theorem lw_r4 : ∀ q ∈ lw_privs_4, lw_okq q := List.forall_mem_cons.mpr ⟨lw_p48, List.forall_mem_cons.mpr ⟨lw_p49, List.forall_mem_cons.mpr ⟨lw_p50, List.forall_mem_cons.mpr ⟨lw_p51, List.forall_mem_cons.mpr ⟨lw_p52, fun _ h => absurd h List.not_mem_nil⟩⟩⟩⟩⟩
def lw_privs : List (MethodName × Nat) := lw_privs_1 ++ (lw_privs_2 ++ (lw_privs_3 ++ (lw_privs_4)))
def lw_tbl : List Cond := k2_sels lw_privs ++ tables_1
theorem lw_privs_ok : ∀ q ∈ lw_privs, lw_okq q := by
  show ∀ q ∈ lw_privs_1 ++ (lw_privs_2 ++ (lw_privs_3 ++ (lw_privs_4))), lw_okq q
  exact List.forall_mem_append.mpr ⟨lw_r1, List.forall_mem_append.mpr ⟨lw_r2, List.forall_mem_append.mpr ⟨lw_r3, lw_r4⟩⟩⟩
def RX0 : String := "FiguredBasses$History"
def TX0 : u_T := fun k => match k with
  | 0 => ("FiguredBasses$History", "states", "[LFiguredBasses$Piece;", true)
  | _ => ("FiguredBasses$History", "size", "I", false)
def tyX0 : Nat → FieldType := fun k => match k with
  | 0 => .array (.object "FiguredBasses$Piece")
  | _ => .int
abbrev wsX00 : List Cond := u_ws RX0 TX0 2
theorem nmX0 : ∀ a, a < 2 → ∀ b, b < 2 → a ≠ b → (TX0 a).2.1 ≠ (TX0 b).2.1 := by decide +kernel
theorem tyX0_ok : ∀ k, k < 2 → parseFieldDescriptor (TX0 k).2.2.1 = some (tyX0 k) := by decide +kernel
abbrev cX0_init : ByteArray := prog_2_method_1_code
def yX0_init : MethodName := ⟨RX0, "<init>", "()V"⟩
abbrev cX0_size : ByteArray := prog_2_method_2_code
def yX0_size : MethodName := ⟨RX0, "size", "()I"⟩
abbrev cX0_record : ByteArray := prog_2_method_3_code
def yX0_record : MethodName := ⟨RX0, "record", "(LFiguredBasses$Piece;)V"⟩
abbrev cX0_dropOldest : ByteArray := prog_2_method_4_code
def yX0_dropOldest : MethodName := ⟨RX0, "dropOldest", "()V"⟩
abbrev cX0_takeBack : ByteArray := prog_2_method_5_code
def yX0_takeBack : MethodName := ⟨RX0, "takeBack", "(LFiguredBasses$Piece;)V"⟩
def RX1 : String := "FiguredBasses$Pad"
def TX1 : u_T := fun k => match k with
  | 0 => ("FiguredBasses$Pad", "text", "[C", true)
  | _ => ("FiguredBasses$Pad", "length", "I", false)
def tyX1 : Nat → FieldType := fun k => match k with
  | 0 => .array .char
  | _ => .int
abbrev wsX10 : List Cond := u_ws RX1 TX1 2
theorem nmX1 : ∀ a, a < 2 → ∀ b, b < 2 → a ≠ b → (TX1 a).2.1 ≠ (TX1 b).2.1 := by decide +kernel
theorem tyX1_ok : ∀ k, k < 2 → parseFieldDescriptor (TX1 k).2.2.1 = some (tyX1 k) := by decide +kernel
abbrev cX1_init : ByteArray := prog_3_method_1_code
def yX1_init : MethodName := ⟨RX1, "<init>", "()V"⟩
abbrev cX1_length : ByteArray := prog_3_method_2_code
def yX1_length : MethodName := ⟨RX1, "length", "()I"⟩
abbrev cX1_empty : ByteArray := prog_3_method_3_code
def yX1_empty : MethodName := ⟨RX1, "empty", "()V"⟩
abbrev cX1_at : ByteArray := prog_3_method_4_code
def yX1_at : MethodName := ⟨RX1, "at", "(I)C"⟩
abbrev cX1_charactersIn : ByteArray := prog_3_method_5_code
def yX1_charactersIn : MethodName := ⟨RX1, "charactersIn", "(J)I"⟩
abbrev cX1_codeIn : ByteArray := prog_3_method_6_code
def yX1_codeIn : MethodName := ⟨RX1, "codeIn", "(JI)I"⟩
abbrev cX1_append : ByteArray := prog_3_method_7_code
def yX1_append : MethodName := ⟨RX1, "append", "(JI)V"⟩
def RX2 : String := "FiguredBasses$PadReader"
def TX2 : u_T := fun k => match k with
  | 0 => ("FiguredBasses$PadReader", "basses", "[I", true)
  | 1 => ("FiguredBasses$PadReader", "figures", "[I", true)
  | 2 => ("FiguredBasses$PadReader", "voices", "[I", true)
  | 3 => ("FiguredBasses$PadReader", "told", "I", false)
  | _ => ("FiguredBasses$PadReader", "next", "I", false)
def tyX2 : Nat → FieldType := fun k => match k with
  | 0 => .array .int
  | 1 => .array .int
  | 2 => .array .int
  | 3 => .int
  | _ => .int
abbrev wsX20 : List Cond := u_ws RX2 TX2 5
theorem nmX2 : ∀ a, a < 5 → ∀ b, b < 5 → a ≠ b → (TX2 a).2.1 ≠ (TX2 b).2.1 := by decide +kernel
theorem tyX2_ok : ∀ k, k < 5 → parseFieldDescriptor (TX2 k).2.2.1 = some (tyX2 k) := by decide +kernel
abbrev cX2_init : ByteArray := prog_4_method_1_code
def yX2_init : MethodName := ⟨RX2, "<init>", "()V"⟩
abbrev cX2_told : ByteArray := prog_4_method_2_code
def yX2_told : MethodName := ⟨RX2, "told", "()I"⟩
abbrev cX2_readAll : ByteArray := prog_4_method_3_code
def yX2_readAll : MethodName := ⟨RX2, "readAll", "(LFiguredBasses$Pad;)I"⟩
abbrev cX2_readChord : ByteArray := prog_4_method_4_code
def yX2_readChord : MethodName := ⟨RX2, "readChord", "(LFiguredBasses$Pad;)Z"⟩
abbrev cX2_keep : ByteArray := prog_4_method_5_code
def yX2_keep : MethodName := ⟨RX2, "keep", "(III)V"⟩
abbrev cX2_readFigure : ByteArray := prog_4_method_6_code
def yX2_readFigure : MethodName := ⟨RX2, "readFigure", "(LFiguredBasses$Pad;)I"⟩
abbrev cX2_readVoices : ByteArray := prog_4_method_7_code
def yX2_readVoices : MethodName := ⟨RX2, "readVoices", "(LFiguredBasses$Pad;)I"⟩
abbrev cX2_readNote : ByteArray := prog_4_method_8_code
def yX2_readNote : MethodName := ⟨RX2, "readNote", "(LFiguredBasses$Pad;)I"⟩
abbrev cX2_isDigit : ByteArray := prog_4_method_9_code
def yX2_isDigit : MethodName := ⟨RX2, "isDigit", "(C)Z"⟩
abbrev cX2_skip : ByteArray := prog_4_method_10_code
def yX2_skip : MethodName := ⟨RX2, "skip", "(LFiguredBasses$Pad;C)Z"⟩
abbrev cX2_hasGoodBasses : ByteArray := prog_4_method_11_code
def yX2_hasGoodBasses : MethodName := ⟨RX2, "hasGoodBasses", "()Z"⟩
abbrev cX2_giveChordsTo : ByteArray := prog_4_method_12_code
def yX2_giveChordsTo : MethodName := ⟨RX2, "giveChordsTo", "(LFiguredBasses$Piece;)V"⟩
def RX3 : String := "FiguredBasses$Piece"
def TX3 : u_T := fun k => match k with
  | 0 => ("FiguredBasses$Piece", "settings", "[I", true)
  | 1 => ("FiguredBasses$Piece", "basses", "[I", true)
  | 2 => ("FiguredBasses$Piece", "figures", "[I", true)
  | 3 => ("FiguredBasses$Piece", "voices", "[I", true)
  | _ => ("FiguredBasses$Piece", "size", "I", false)
def tyX3 : Nat → FieldType := fun k => match k with
  | 0 => .array .int
  | 1 => .array .int
  | 2 => .array .int
  | 3 => .array .int
  | _ => .int
abbrev wsX30 : List Cond := u_ws RX3 TX3 5
theorem nmX3 : ∀ a, a < 5 → ∀ b, b < 5 → a ≠ b → (TX3 a).2.1 ≠ (TX3 b).2.1 := by decide +kernel
theorem tyX3_ok : ∀ k, k < 5 → parseFieldDescriptor (TX3 k).2.2.1 = some (tyX3 k) := by decide +kernel
abbrev cX3_init : ByteArray := prog_5_method_1_code
def yX3_init : MethodName := ⟨RX3, "<init>", "()V"⟩
abbrev cX3_size : ByteArray := prog_5_method_2_code
def yX3_size : MethodName := ⟨RX3, "size", "()I"⟩
abbrev cX3_has : ByteArray := prog_5_method_3_code
def yX3_has : MethodName := ⟨RX3, "has", "(I)Z"⟩
abbrev cX3_setting : ByteArray := prog_5_method_4_code
def yX3_setting : MethodName := ⟨RX3, "setting", "(I)I"⟩
abbrev cX3_change : ByteArray := prog_5_method_5_code
def yX3_change : MethodName := ⟨RX3, "change", "(II)V"⟩
abbrev cX3_bassOf : ByteArray := prog_5_method_6_code
def yX3_bassOf : MethodName := ⟨RX3, "bassOf", "(I)I"⟩
abbrev cX3_figureOf : ByteArray := prog_5_method_7_code
def yX3_figureOf : MethodName := ⟨RX3, "figureOf", "(I)I"⟩
abbrev cX3_voicesOf : ByteArray := prog_5_method_8_code
def yX3_voicesOf : MethodName := ⟨RX3, "voicesOf", "(I)I"⟩
abbrev cX3_isVoiced : ByteArray := prog_5_method_9_code
def yX3_isVoiced : MethodName := ⟨RX3, "isVoiced", "(I)Z"⟩
abbrev cX3_allVoices : ByteArray := prog_5_method_10_code
def yX3_allVoices : MethodName := ⟨RX3, "allVoices", "(II)I"⟩
abbrev cX3_allVoicesNow : ByteArray := prog_5_method_11_code
def yX3_allVoicesNow : MethodName := ⟨RX3, "allVoicesNow", "(I)I"⟩
abbrev cX3_leadingTone : ByteArray := prog_5_method_12_code
def yX3_leadingTone : MethodName := ⟨RX3, "leadingTone", "()I"⟩
abbrev cX3_stepOf : ByteArray := prog_5_method_13_code
def yX3_stepOf : MethodName := ⟨RX3, "stepOf", "(I)I"⟩
abbrev cX3_tonesOf : ByteArray := prog_5_method_14_code
def yX3_tonesOf : MethodName := ⟨RX3, "tonesOf", "(I)I"⟩
abbrev cX3_isOnScaleOf : ByteArray := prog_5_method_15_code
def yX3_isOnScaleOf : MethodName := ⟨RX3, "isOnScaleOf", "(I)Z"⟩
abbrev cX3_voicedChords : ByteArray := prog_5_method_16_code
def yX3_voicedChords : MethodName := ⟨RX3, "voicedChords", "()I"⟩
abbrev cX3_highestSoprano : ByteArray := prog_5_method_17_code
def yX3_highestSoprano : MethodName := ⟨RX3, "highestSoprano", "()I"⟩
abbrev cX3_insert : ByteArray := prog_5_method_18_code
def yX3_insert : MethodName := ⟨RX3, "insert", "(IIII)V"⟩
abbrev cX3_remove : ByteArray := prog_5_method_19_code
def yX3_remove : MethodName := ⟨RX3, "remove", "(I)V"⟩
abbrev cX3_clear : ByteArray := prog_5_method_20_code
def yX3_clear : MethodName := ⟨RX3, "clear", "()V"⟩
abbrev cX3_giveVoices : ByteArray := prog_5_method_21_code
def yX3_giveVoices : MethodName := ⟨RX3, "giveVoices", "(II)V"⟩
abbrev cX3_canMove : ByteArray := prog_5_method_22_code
def yX3_canMove : MethodName := ⟨RX3, "canMove", "(I)Z"⟩
abbrev cX3_move : ByteArray := prog_5_method_23_code
def yX3_move : MethodName := ⟨RX3, "move", "(I)V"⟩
abbrev cX3_copyFrom : ByteArray := prog_5_method_24_code
def yX3_copyFrom : MethodName := ⟨RX3, "copyFrom", "(LFiguredBasses$Piece;)V"⟩
abbrev cX3_takeFrom : ByteArray := prog_5_method_25_code
def yX3_takeFrom : MethodName := ⟨RX3, "takeFrom", "(LFiguredBasses$Piece;II)V"⟩
def RX4 : String := "FiguredBasses$Realiser"
def TX4 : u_T := fun k => match k with
  | 0 => ("FiguredBasses$Realiser", "choices", "[LFiguredBasses$Voicings;", true)
  | 1 => ("FiguredBasses$Realiser", "costs", "[[I", true)
  | 2 => ("FiguredBasses$Realiser", "nexts", "[[I", true)
  | _ => ("FiguredBasses$Realiser", "firstWay", "I", false)
def tyX4 : Nat → FieldType := fun k => match k with
  | 0 => .array (.object "FiguredBasses$Voicings")
  | 1 => .array (.array .int)
  | 2 => .array (.array .int)
  | _ => .int
abbrev wsX40 : List Cond := u_ws RX4 TX4 4
theorem nmX4 : ∀ a, a < 4 → ∀ b, b < 4 → a ≠ b → (TX4 a).2.1 ≠ (TX4 b).2.1 := by decide +kernel
theorem tyX4_ok : ∀ k, k < 4 → parseFieldDescriptor (TX4 k).2.2.1 = some (tyX4 k) := by decide +kernel
abbrev cX4_init : ByteArray := prog_6_method_1_code
def yX4_init : MethodName := ⟨RX4, "<init>", "()V"⟩
abbrev cX4_leastCosts : ByteArray := prog_6_method_2_code
def yX4_leastCosts : MethodName := ⟨RX4, "leastCosts", "(LFiguredBasses$Piece;)I"⟩
abbrev cX4_gather : ByteArray := prog_6_method_3_code
def yX4_gather : MethodName := ⟨RX4, "gather", "(LFiguredBasses$Piece;)V"⟩
abbrev cX4_weigh : ByteArray := prog_6_method_4_code
def yX4_weigh : MethodName := ⟨RX4, "weigh", "(LFiguredBasses$Piece;II)V"⟩
abbrev cX4_giveVoicesTo : ByteArray := prog_6_method_5_code
def yX4_giveVoicesTo : MethodName := ⟨RX4, "giveVoicesTo", "(LFiguredBasses$Piece;)V"⟩
def RX5 : String := "FiguredBasses$Rules"
def TX5 : u_T := fun k => match k with
  | _ => ("", "", "", false)
def tyX5 : Nat → FieldType := fun k => match k with
  | _ => .int
abbrev wsX50 : List Cond := u_ws RX5 TX5 0
theorem nmX5 : ∀ a, a < 0 → ∀ b, b < 0 → a ≠ b → (TX5 a).2.1 ≠ (TX5 b).2.1 := by decide +kernel
theorem tyX5_ok : ∀ k, k < 0 → parseFieldDescriptor (TX5 k).2.2.1 = some (tyX5 k) := by decide +kernel
abbrev cX5_faultsNow : ByteArray := prog_7_method_2_code
def yX5_faultsNow : MethodName := ⟨RX5, "faultsNow", "(LFiguredBasses$Piece;I)I"⟩
abbrev cX5_faultsWith : ByteArray := prog_7_method_3_code
def yX5_faultsWith : MethodName := ⟨RX5, "faultsWith", "(LFiguredBasses$Piece;II)I"⟩
abbrev cX5_ownFaults : ByteArray := prog_7_method_4_code
def yX5_ownFaults : MethodName := ⟨RX5, "ownFaults", "(LFiguredBasses$Piece;II)I"⟩
abbrev cX5_faultsBehind : ByteArray := prog_7_method_5_code
def yX5_faultsBehind : MethodName := ⟨RX5, "faultsBehind", "(LFiguredBasses$Piece;III)I"⟩
abbrev cX5_isOutOfPlace : ByteArray := prog_7_method_6_code
def yX5_isOutOfPlace : MethodName := ⟨RX5, "isOutOfPlace", "(I)Z"⟩
abbrev cX5_isTooWide : ByteArray := prog_7_method_7_code
def yX5_isTooWide : MethodName := ⟨RX5, "isTooWide", "(II)Z"⟩
abbrev cX5_hasStrangeTone : ByteArray := prog_7_method_8_code
def yX5_hasStrangeTone : MethodName := ⟨RX5, "hasStrangeTone", "(II)Z"⟩
abbrev cX5_lacksTone : ByteArray := prog_7_method_9_code
def yX5_lacksTone : MethodName := ⟨RX5, "lacksTone", "(II)Z"⟩
abbrev cX5_doubles : ByteArray := prog_7_method_10_code
def yX5_doubles : MethodName := ⟨RX5, "doubles", "(II)Z"⟩
abbrev cX5_parallelPair : ByteArray := prog_7_method_11_code
def yX5_parallelPair : MethodName := ⟨RX5, "parallelPair", "(III)I"⟩
abbrev cX5_leaps : ByteArray := prog_7_method_12_code
def yX5_leaps : MethodName := ⟨RX5, "leaps", "(III)Z"⟩
abbrev cX5_holdsBack : ByteArray := prog_7_method_13_code
def yX5_holdsBack : MethodName := ⟨RX5, "holdsBack", "(III)Z"⟩
abbrev cX5_costNow : ByteArray := prog_7_method_14_code
def yX5_costNow : MethodName := ⟨RX5, "costNow", "(LFiguredBasses$Piece;I)I"⟩
abbrev cX5_allCosts : ByteArray := prog_7_method_15_code
def yX5_allCosts : MethodName := ⟨RX5, "allCosts", "(LFiguredBasses$Piece;)I"⟩
abbrev cX5_faultyChords : ByteArray := prog_7_method_16_code
def yX5_faultyChords : MethodName := ⟨RX5, "faultyChords", "(LFiguredBasses$Piece;)I"⟩
abbrev cX5_allFaults : ByteArray := prog_7_method_17_code
def yX5_allFaults : MethodName := ⟨RX5, "allFaults", "(LFiguredBasses$Piece;)I"⟩
def RX6 : String := "FiguredBasses$Voicings"
def TX6 : u_T := fun k => match k with
  | 0 => ("FiguredBasses$Voicings", "ways", "[I", true)
  | _ => ("FiguredBasses$Voicings", "size", "I", false)
def tyX6 : Nat → FieldType := fun k => match k with
  | 0 => .array .int
  | _ => .int
abbrev wsX60 : List Cond := u_ws RX6 TX6 2
theorem nmX6 : ∀ a, a < 2 → ∀ b, b < 2 → a ≠ b → (TX6 a).2.1 ≠ (TX6 b).2.1 := by decide +kernel
theorem tyX6_ok : ∀ k, k < 2 → parseFieldDescriptor (TX6 k).2.2.1 = some (tyX6 k) := by decide +kernel
abbrev cX6_init : ByteArray := prog_8_method_1_code
def yX6_init : MethodName := ⟨RX6, "<init>", "()V"⟩
abbrev cX6_size : ByteArray := prog_8_method_2_code
def yX6_size : MethodName := ⟨RX6, "size", "()I"⟩
abbrev cX6_at : ByteArray := prog_8_method_3_code
def yX6_at : MethodName := ⟨RX6, "at", "(I)I"⟩
abbrev cX6_setOnly : ByteArray := prog_8_method_4_code
def yX6_setOnly : MethodName := ⟨RX6, "setOnly", "(I)V"⟩
abbrev cX6_find : ByteArray := prog_8_method_5_code
def yX6_find : MethodName := ⟨RX6, "find", "(LFiguredBasses$Piece;I)V"⟩
abbrev cX6_isOf : ByteArray := prog_8_method_6_code
def yX6_isOf : MethodName := ⟨RX6, "isOf", "(II)Z"⟩
abbrev cX6_add : ByteArray := prog_8_method_7_code
def yX6_add : MethodName := ⟨RX6, "add", "(I)V"⟩
abbrev cX6_nearestTo : ByteArray := prog_8_method_8_code
def yX6_nearestTo : MethodName := ⟨RX6, "nearestTo", "(LFiguredBasses$Piece;II)I"⟩
def RX7 : String := "FiguredBasses"
def TX7 : u_T := fun k => match k with
  | 0 => ("FiguredBasses", "piece", "LFiguredBasses$Piece;", true)
  | 1 => ("FiguredBasses", "history", "LFiguredBasses$History;", true)
  | 2 => ("FiguredBasses", "slots", "[LFiguredBasses$Piece;", true)
  | 3 => ("FiguredBasses", "filled", "[Z", true)
  | 4 => ("FiguredBasses", "pad", "LFiguredBasses$Pad;", true)
  | 5 => ("FiguredBasses", "reader", "LFiguredBasses$PadReader;", true)
  | 6 => ("FiguredBasses", "voicings", "LFiguredBasses$Voicings;", true)
  | _ => ("FiguredBasses", "realiser", "LFiguredBasses$Realiser;", true)
def tyX7 : Nat → FieldType := fun k => match k with
  | 0 => .object "FiguredBasses$Piece"
  | 1 => .object "FiguredBasses$History"
  | 2 => .array (.object "FiguredBasses$Piece")
  | 3 => .array .boolean
  | 4 => .object "FiguredBasses$Pad"
  | 5 => .object "FiguredBasses$PadReader"
  | 6 => .object "FiguredBasses$Voicings"
  | _ => .object "FiguredBasses$Realiser"
abbrev wsX70 : List Cond := u_ws RX7 TX7 8
theorem nmX7 : ∀ a, a < 8 → ∀ b, b < 8 → a ≠ b → (TX7 a).2.1 ≠ (TX7 b).2.1 := by decide +kernel
theorem tyX7_ok : ∀ k, k < 8 → parseFieldDescriptor (TX7 k).2.2.1 = some (tyX7 k) := by decide +kernel
abbrev cX7_init : ByteArray := prog_1_method_1_code
def yX7_init : MethodName := ⟨RX7, "<init>", "()V"⟩
abbrev cX7_set : ByteArray := prog_1_method_2_code
def yX7_set : MethodName := ⟨RX7, "set", "(II)I"⟩
abbrev cX7_chord : ByteArray := prog_1_method_3_code
def yX7_chord : MethodName := ⟨RX7, "chord", "(III)I"⟩
abbrev cX7_takeOut : ByteArray := prog_1_method_4_code
def yX7_takeOut : MethodName := ⟨RX7, "takeOut", "(I)I"⟩
abbrev cX7_voice : ByteArray := prog_1_method_5_code
def yX7_voice : MethodName := ⟨RX7, "voice", "(IIII)I"⟩
abbrev cX7_silence : ByteArray := prog_1_method_6_code
def yX7_silence : MethodName := ⟨RX7, "silence", "(I)I"⟩
abbrev cX7_transpose : ByteArray := prog_1_method_7_code
def yX7_transpose : MethodName := ⟨RX7, "transpose", "(I)I"⟩
abbrev cX7_realise : ByteArray := prog_1_method_8_code
def yX7_realise : MethodName := ⟨RX7, "realise", "()I"⟩
abbrev cX7_read : ByteArray := prog_1_method_9_code
def yX7_read : MethodName := ⟨RX7, "read", "()I"⟩
abbrev cX7_of : ByteArray := prog_1_method_10_code
def yX7_of : MethodName := ⟨RX7, "of", "(II)I"⟩
abbrev cX7_voicing : ByteArray := prog_1_method_11_code
def yX7_voicing : MethodName := ⟨RX7, "voicing", "(III)I"⟩
abbrev cX7_count : ByteArray := prog_1_method_12_code
def yX7_count : MethodName := ⟨RX7, "count", "(I)I"⟩
abbrev cX7_parallel : ByteArray := prog_1_method_13_code
def yX7_parallel : MethodName := ⟨RX7, "parallel", "(II)I"⟩
abbrev cX7_ifRealised : ByteArray := prog_1_method_14_code
def yX7_ifRealised : MethodName := ⟨RX7, "ifRealised", "()I"⟩
abbrev cX7_nearest : ByteArray := prog_1_method_15_code
def yX7_nearest : MethodName := ⟨RX7, "nearest", "(II)I"⟩
abbrev cX7_ifVoiced : ByteArray := prog_1_method_16_code
def yX7_ifVoiced : MethodName := ⟨RX7, "ifVoiced", "(IIII)I"⟩
abbrev cX7_keys : ByteArray := prog_1_method_17_code
def yX7_keys : MethodName := ⟨RX7, "keys", "()I"⟩
abbrev cX7_put : ByteArray := prog_1_method_18_code
def yX7_put : MethodName := ⟨RX7, "put", "(J)I"⟩
abbrev cX7_wipe : ByteArray := prog_1_method_19_code
def yX7_wipe : MethodName := ⟨RX7, "wipe", "()I"⟩
abbrev cX7_fault : ByteArray := prog_1_method_20_code
def yX7_fault : MethodName := ⟨RX7, "fault", "()I"⟩
abbrev cX7_undo : ByteArray := prog_1_method_21_code
def yX7_undo : MethodName := ⟨RX7, "undo", "()I"⟩
abbrev cX7_save : ByteArray := prog_1_method_22_code
def yX7_save : MethodName := ⟨RX7, "save", "(I)I"⟩
abbrev cX7_restore : ByteArray := prog_1_method_23_code
def yX7_restore : MethodName := ⟨RX7, "restore", "(I)I"⟩
abbrev cX7_isSetting : ByteArray := prog_1_method_24_code
def yX7_isSetting : MethodName := ⟨RX7, "isSetting", "(I)Z"⟩
abbrev cX7_isSlot : ByteArray := prog_1_method_25_code
def yX7_isSlot : MethodName := ⟨RX7, "isSlot", "(I)Z"⟩
abbrev cX7_isBass : ByteArray := prog_1_method_26_code
def yX7_isBass : MethodName := ⟨RX7, "isBass", "(I)Z"⟩
abbrev cX7_isNote : ByteArray := prog_1_method_27_code
def yX7_isNote : MethodName := ⟨RX7, "isNote", "(I)Z"⟩
abbrev cX7_toneOf : ByteArray := prog_1_method_28_code
def yX7_toneOf : MethodName := ⟨RX7, "toneOf", "(I)I"⟩
abbrev cX7_isIn : ByteArray := prog_1_method_29_code
def yX7_isIn : MethodName := ⟨RX7, "isIn", "(II)Z"⟩
abbrev cX7_stepsOfFigure : ByteArray := prog_1_method_30_code
def yX7_stepsOfFigure : MethodName := ⟨RX7, "stepsOfFigure", "(I)I"⟩
abbrev cX7_stepIn : ByteArray := prog_1_method_31_code
def yX7_stepIn : MethodName := ⟨RX7, "stepIn", "(II)I"⟩
abbrev cX7_packed : ByteArray := prog_1_method_32_code
def yX7_packed : MethodName := ⟨RX7, "packed", "(III)I"⟩
abbrev cX7_noteOf : ByteArray := prog_1_method_33_code
def yX7_noteOf : MethodName := ⟨RX7, "noteOf", "(II)I"⟩
abbrev cX7_distance : ByteArray := prog_1_method_34_code
def yX7_distance : MethodName := ⟨RX7, "distance", "(II)I"⟩
def RX8 : String := "FiguredBassesModel"
def TX8 : u_T := fun k => match k with
  | 0 => ("FiguredBassesModel", "s", "[I", true)
  | 1 => ("FiguredBassesModel", "past", "[I", true)
  | 2 => ("FiguredBassesModel", "known", "I", false)
  | 3 => ("FiguredBassesModel", "slots", "[I", true)
  | 4 => ("FiguredBassesModel", "isSaved", "[Z", true)
  | 5 => ("FiguredBassesModel", "pad", "[I", true)
  | 6 => ("FiguredBassesModel", "length", "I", false)
  | 7 => ("FiguredBassesModel", "one", "[I", true)
  | 8 => ("FiguredBassesModel", "two", "[I", true)
  | 9 => ("FiguredBassesModel", "list", "[I", true)
  | 10 => ("FiguredBassesModel", "lists", "[I", true)
  | _ => ("FiguredBassesModel", "togo", "[I", true)
def tyX8 : Nat → FieldType := fun k => match k with
  | 0 => .array .int
  | 1 => .array .int
  | 2 => .int
  | 3 => .array .int
  | 4 => .array .boolean
  | 5 => .array .int
  | 6 => .int
  | 7 => .array .int
  | 8 => .array .int
  | 9 => .array .int
  | 10 => .array .int
  | _ => .array .int
abbrev wsX80 : List Cond := u_ws RX8 TX8 12
theorem nmX8 : ∀ a, a < 12 → ∀ b, b < 12 → a ≠ b → (TX8 a).2.1 ≠ (TX8 b).2.1 := by decide +kernel
theorem tyX8_ok : ∀ k, k < 12 → parseFieldDescriptor (TX8 k).2.2.1 = some (tyX8 k) := by decide +kernel
abbrev cX8_init : ByteArray := prog_10_method_1_code
def yX8_init : MethodName := ⟨RX8, "<init>", "()V"⟩
abbrev cX8_in : ByteArray := prog_10_method_3_code
def yX8_in : MethodName := ⟨RX8, "in", "(III)Z"⟩
abbrev cX8_isFigure : ByteArray := prog_10_method_4_code
def yX8_isFigure : MethodName := ⟨RX8, "isFigure", "(I)Z"⟩
abbrev cX8_isNote : ByteArray := prog_10_method_5_code
def yX8_isNote : MethodName := ⟨RX8, "isNote", "(I)Z"⟩
abbrev cX8_isChord : ByteArray := prog_10_method_6_code
def yX8_isChord : MethodName := ⟨RX8, "isChord", "(I)Z"⟩
abbrev cX8_of6 : ByteArray := prog_10_method_7_code
def yX8_of6 : MethodName := ⟨RX8, "of6", "(II)I"⟩
abbrev cX8_has : ByteArray := prog_10_method_8_code
def yX8_has : MethodName := ⟨RX8, "has", "(I)Z"⟩
abbrev cX8_size : ByteArray := prog_10_method_9_code
def yX8_size : MethodName := ⟨RX8, "size", "(I)I"⟩
abbrev cX8_remembers : ByteArray := prog_10_method_10_code
def yX8_remembers : MethodName := ⟨RX8, "remembers", "()V"⟩
abbrev cX8_toneOf : ByteArray := prog_10_method_11_code
def yX8_toneOf : MethodName := ⟨RX8, "toneOf", "(II)I"⟩
abbrev cX8_stepIn : ByteArray := prog_10_method_12_code
def yX8_stepIn : MethodName := ⟨RX8, "stepIn", "(II)I"⟩
abbrev cX8_tonic : ByteArray := prog_10_method_13_code
def yX8_tonic : MethodName := ⟨RX8, "tonic", "()I"⟩
abbrev cX8_leading : ByteArray := prog_10_method_14_code
def yX8_leading : MethodName := ⟨RX8, "leading", "()I"⟩
abbrev cX8_tones : ByteArray := prog_10_method_15_code
def yX8_tones : MethodName := ⟨RX8, "tones", "(I)I"⟩
abbrev cX8_ownFaults : ByteArray := prog_10_method_16_code
def yX8_ownFaults : MethodName := ⟨RX8, "ownFaults", "(I)I"⟩
abbrev cX8_between : ByteArray := prog_10_method_17_code
def yX8_between : MethodName := ⟨RX8, "between", "(II)I"⟩
abbrev cX8_parallels : ByteArray := prog_10_method_18_code
def yX8_parallels : MethodName := ⟨RX8, "parallels", "(I)I"⟩
abbrev cX8_jointFaults : ByteArray := prog_10_method_19_code
def yX8_jointFaults : MethodName := ⟨RX8, "jointFaults", "(I)I"⟩
abbrev cX8_sings : ByteArray := prog_10_method_20_code
def yX8_sings : MethodName := ⟨RX8, "sings", "(IIII)V"⟩
abbrev cX8_hears : ByteArray := prog_10_method_21_code
def yX8_hears : MethodName := ⟨RX8, "hears", "(IIII)V"⟩
abbrev cX8_hearsAhead : ByteArray := prog_10_method_22_code
def yX8_hearsAhead : MethodName := ⟨RX8, "hearsAhead", "(I)V"⟩
abbrev cX8_faultsWith : ByteArray := prog_10_method_23_code
def yX8_faultsWith : MethodName := ⟨RX8, "faultsWith", "(IIII)I"⟩
abbrev cX8_faults : ByteArray := prog_10_method_24_code
def yX8_faults : MethodName := ⟨RX8, "faults", "(I)I"⟩
abbrev cX8_steps : ByteArray := prog_10_method_25_code
def yX8_steps : MethodName := ⟨RX8, "steps", "()I"⟩
abbrev cX8_cost : ByteArray := prog_10_method_26_code
def yX8_cost : MethodName := ⟨RX8, "cost", "(I)I"⟩
abbrev cX8_costs : ByteArray := prog_10_method_27_code
def yX8_costs : MethodName := ⟨RX8, "costs", "()I"⟩
abbrev cX8_listsOf : ByteArray := prog_10_method_28_code
def yX8_listsOf : MethodName := ⟨RX8, "listsOf", "(I)V"⟩
abbrev cX8_singsListed : ByteArray := prog_10_method_29_code
def yX8_singsListed : MethodName := ⟨RX8, "singsListed", "(II)V"⟩
abbrev cX8_hearsListed : ByteArray := prog_10_method_30_code
def yX8_hearsListed : MethodName := ⟨RX8, "hearsListed", "(II)V"⟩
abbrev cX8_joins : ByteArray := prog_10_method_31_code
def yX8_joins : MethodName := ⟨RX8, "joins", "(III)I"⟩
abbrev cX8_listsAll : ByteArray := prog_10_method_32_code
def yX8_listsAll : MethodName := ⟨RX8, "listsAll", "()V"⟩
abbrev cX8_leastFrom : ByteArray := prog_10_method_33_code
def yX8_leastFrom : MethodName := ⟨RX8, "leastFrom", "(II)I"⟩
abbrev cX8_solves : ByteArray := prog_10_method_34_code
def yX8_solves : MethodName := ⟨RX8, "solves", "()I"⟩
abbrev cX8_ifRealised : ByteArray := prog_10_method_35_code
def yX8_ifRealised : MethodName := ⟨RX8, "ifRealised", "()I"⟩
abbrev cX8_gives : ByteArray := prog_10_method_36_code
def yX8_gives : MethodName := ⟨RX8, "gives", "(II)V"⟩
abbrev cX8_firstWith : ByteArray := prog_10_method_37_code
def yX8_firstWith : MethodName := ⟨RX8, "firstWith", "(III)I"⟩
abbrev cX8_realise : ByteArray := prog_10_method_38_code
def yX8_realise : MethodName := ⟨RX8, "realise", "()I"⟩
abbrev cX8_set : ByteArray := prog_10_method_39_code
def yX8_set : MethodName := ⟨RX8, "set", "(II)I"⟩
abbrev cX8_lays : ByteArray := prog_10_method_40_code
def yX8_lays : MethodName := ⟨RX8, "lays", "(III)V"⟩
abbrev cX8_chord : ByteArray := prog_10_method_41_code
def yX8_chord : MethodName := ⟨RX8, "chord", "(III)I"⟩
abbrev cX8_takeOut : ByteArray := prog_10_method_42_code
def yX8_takeOut : MethodName := ⟨RX8, "takeOut", "(I)I"⟩
abbrev cX8_voice : ByteArray := prog_10_method_43_code
def yX8_voice : MethodName := ⟨RX8, "voice", "(IIII)I"⟩
abbrev cX8_sets : ByteArray := prog_10_method_44_code
def yX8_sets : MethodName := ⟨RX8, "sets", "(IIII)V"⟩
abbrev cX8_voiced : ByteArray := prog_10_method_45_code
def yX8_voiced : MethodName := ⟨RX8, "voiced", "()I"⟩
abbrev cX8_silence : ByteArray := prog_10_method_46_code
def yX8_silence : MethodName := ⟨RX8, "silence", "(I)I"⟩
abbrev cX8_canMove : ByteArray := prog_10_method_47_code
def yX8_canMove : MethodName := ⟨RX8, "canMove", "(I)Z"⟩
abbrev cX8_transpose : ByteArray := prog_10_method_48_code
def yX8_transpose : MethodName := ⟨RX8, "transpose", "(I)I"⟩
abbrev cX8_of : ByteArray := prog_10_method_49_code
def yX8_of : MethodName := ⟨RX8, "of", "(II)I"⟩
abbrev cX8_voicing : ByteArray := prog_10_method_50_code
def yX8_voicing : MethodName := ⟨RX8, "voicing", "(III)I"⟩
abbrev cX8_ones : ByteArray := prog_10_method_51_code
def yX8_ones : MethodName := ⟨RX8, "ones", "(I)I"⟩
abbrev cX8_ofAll : ByteArray := prog_10_method_52_code
def yX8_ofAll : MethodName := ⟨RX8, "ofAll", "(I)I"⟩
abbrev cX8_count : ByteArray := prog_10_method_53_code
def yX8_count : MethodName := ⟨RX8, "count", "(I)I"⟩
abbrev cX8_parallel : ByteArray := prog_10_method_54_code
def yX8_parallel : MethodName := ⟨RX8, "parallel", "(II)I"⟩
abbrev cX8_nearest : ByteArray := prog_10_method_55_code
def yX8_nearest : MethodName := ⟨RX8, "nearest", "(II)I"⟩
abbrev cX8_ifVoiced : ByteArray := prog_10_method_56_code
def yX8_ifVoiced : MethodName := ⟨RX8, "ifVoiced", "(IIII)I"⟩
abbrev cX8_keys : ByteArray := prog_10_method_57_code
def yX8_keys : MethodName := ⟨RX8, "keys", "()I"⟩
abbrev cX8_put : ByteArray := prog_10_method_58_code
def yX8_put : MethodName := ⟨RX8, "put", "(J)I"⟩
abbrev cX8_wipe : ByteArray := prog_10_method_59_code
def yX8_wipe : MethodName := ⟨RX8, "wipe", "()I"⟩
abbrev cX8_sign : ByteArray := prog_10_method_60_code
def yX8_sign : MethodName := ⟨RX8, "sign", "(I)I"⟩
abbrev cX8_digit : ByteArray := prog_10_method_61_code
def yX8_digit : MethodName := ⟨RX8, "digit", "(I)I"⟩
abbrev cX8_noteEnd : ByteArray := prog_10_method_62_code
def yX8_noteEnd : MethodName := ⟨RX8, "noteEnd", "(I)I"⟩
abbrev cX8_behind : ByteArray := prog_10_method_63_code
def yX8_behind : MethodName := ⟨RX8, "behind", "(II)I"⟩
abbrev cX8_figureEnd : ByteArray := prog_10_method_64_code
def yX8_figureEnd : MethodName := ⟨RX8, "figureEnd", "(I)I"⟩
abbrev cX8_voicesEnd : ByteArray := prog_10_method_65_code
def yX8_voicesEnd : MethodName := ⟨RX8, "voicesEnd", "(I)I"⟩
abbrev cX8_chordEnd : ByteArray := prog_10_method_66_code
def yX8_chordEnd : MethodName := ⟨RX8, "chordEnd", "(I)I"⟩
abbrev cX8_fault : ByteArray := prog_10_method_67_code
def yX8_fault : MethodName := ⟨RX8, "fault", "()I"⟩
abbrev cX8_noteAt : ByteArray := prog_10_method_68_code
def yX8_noteAt : MethodName := ⟨RX8, "noteAt", "(I)I"⟩
abbrev cX8_chordsOfPad : ByteArray := prog_10_method_69_code
def yX8_chordsOfPad : MethodName := ⟨RX8, "chordsOfPad", "(I)I"⟩
abbrev cX8_reads : ByteArray := prog_10_method_70_code
def yX8_reads : MethodName := ⟨RX8, "reads", "(II)V"⟩
abbrev cX8_read : ByteArray := prog_10_method_71_code
def yX8_read : MethodName := ⟨RX8, "read", "()I"⟩
abbrev cX8_undo : ByteArray := prog_10_method_72_code
def yX8_undo : MethodName := ⟨RX8, "undo", "()I"⟩
abbrev cX8_save : ByteArray := prog_10_method_73_code
def yX8_save : MethodName := ⟨RX8, "save", "(I)I"⟩
abbrev cX8_restore : ByteArray := prog_10_method_74_code
def yX8_restore : MethodName := ⟨RX8, "restore", "(I)I"⟩
def RJx8e188 : String := "java/lang/Cloneable"
def TJx8e188 : u_T := fun k => match k with
  | _ => ("", "", "", false)
def tyJx8e188 : Nat → FieldType := fun k => match k with
  | _ => .int
abbrev wsJx8e1880 : List Cond := u_ws RJx8e188 TJx8e188 0
theorem nmJx8e188 : ∀ a, a < 0 → ∀ b, b < 0 → a ≠ b → (TJx8e188 a).2.1 ≠ (TJx8e188 b).2.1 := by decide +kernel
theorem tyJx8e188_ok : ∀ k, k < 0 → parseFieldDescriptor (TJx8e188 k).2.2.1 = some (tyJx8e188 k) := by decide +kernel
def RJ6 : String := "java/lang/Integer"
def TJ6 : u_T := fun k => match k with
  | _ => ("", "", "", false)
def tyJ6 : Nat → FieldType := fun k => match k with
  | _ => .int
abbrev wsJ60 : List Cond := u_ws RJ6 TJ6 0
theorem nmJ6 : ∀ a, a < 0 → ∀ b, b < 0 → a ≠ b → (TJ6 a).2.1 ≠ (TJ6 b).2.1 := by decide +kernel
theorem tyJ6_ok : ∀ k, k < 0 → parseFieldDescriptor (TJ6 k).2.2.1 = some (tyJ6 k) := by decide +kernel
abbrev cJ6_bitCount_0f7a4 : ByteArray := prog_12_method_49_code
def yJ6_bitCount_0f7a4 : MethodName := ⟨RJ6, "bitCount", "(I)I"⟩
def RJ9 : String := "java/lang/Math"
def TJ9 : u_T := fun k => match k with
  | _ => ("", "", "", false)
def tyJ9 : Nat → FieldType := fun k => match k with
  | _ => .int
abbrev wsJ90 : List Cond := u_ws RJ9 TJ9 0
theorem nmJ9 : ∀ a, a < 0 → ∀ b, b < 0 → a ≠ b → (TJ9 a).2.1 ≠ (TJ9 b).2.1 := by decide +kernel
theorem tyJ9_ok : ∀ k, k < 0 → parseFieldDescriptor (TJ9 k).2.2.1 = some (tyJ9 k) := by decide +kernel
abbrev cJ9_abs_0f7a4 : ByteArray := prog_13_method_59_code
def yJ9_abs_0f7a4 : MethodName := ⟨RJ9, "abs", "(I)I"⟩
abbrev cJ9_max_7cf53 : ByteArray := prog_13_method_65_code
def yJ9_max_7cf53 : MethodName := ⟨RJ9, "max", "(II)I"⟩
def RL : String := "FiguredBassesLaw"
abbrev cL_law : ByteArray := code
def yL_law : MethodName := ⟨RL, "law", "([I)Z"⟩
def wsX3_init : List Cond := .code yX3_init cX3_init 1 none :: ([.methodLink RX3 3 objectInit, .instanceMethod objectInit, .code objectInit ⟨#[0xb1]⟩ 1 none, .methodLink RX3 13 ⟨"[I", "clone", "()Ljava/lang/Object;"⟩, .sameMethod "[I" "java/lang/Object" "clone" "()Ljava/lang/Object;", .native ⟨"java/lang/Object", "clone", "()Ljava/lang/Object;"⟩, .instanceMethod ⟨"java/lang/Object", "clone", "()Ljava/lang/Object;"⟩, .selects "[I" ⟨"[I", "clone", "()Ljava/lang/Object;"⟩ ⟨"java/lang/Object", "clone", "()Ljava/lang/Object;"⟩, .classLink RX3 14 "[I", .fieldLink RX3 18 "FiguredBasses$Piece" "settings" "[I", .arrayClass .int, .fieldLink RX3 23 "FiguredBasses$Piece" "basses" "[I", .fieldLink RX3 26 "FiguredBasses$Piece" "figures" "[I", .fieldLink RX3 29 "FiguredBasses$Piece" "voices" "[I"] ++ wsX30)
abbrev vwCl : List vw_C := [(RX0, TX0, 2), (RX1, TX1, 2), (RX2, TX2, 5), (RX3, TX3, 5), (RX4, TX4, 4), (RX6, TX6, 2), (RX7, TX7, 8), (RX8, TX8, 12)]
/-! the methods by number -/
def mY (j : Nat) : MethodName := match j with
  | 0 => yX0_init
  | 1 => yX0_size
  | 2 => yX0_record
  | 3 => yX0_dropOldest
  | 4 => yX0_takeBack
  | 5 => yX1_init
  | 6 => yX1_length
  | 7 => yX1_empty
  | 8 => yX1_at
  | 9 => yX1_charactersIn
  | 10 => yX1_codeIn
  | 11 => yX1_append
  | 12 => yX2_init
  | 13 => yX2_told
  | 14 => yX2_readAll
  | 15 => yX2_readChord
  | 16 => yX2_keep
  | 17 => yX2_readFigure
  | 18 => yX2_readVoices
  | 19 => yX2_readNote
  | 20 => yX2_isDigit
  | 21 => yX2_skip
  | 22 => yX2_hasGoodBasses
  | 23 => yX2_giveChordsTo
  | 24 => yX3_init
  | 25 => yX3_size
  | 26 => yX3_has
  | 27 => yX3_setting
  | 28 => yX3_change
  | 29 => yX3_bassOf
  | 30 => yX3_figureOf
  | 31 => yX3_voicesOf
  | 32 => yX3_isVoiced
  | 33 => yX3_allVoices
  | 34 => yX3_allVoicesNow
  | 35 => yX3_leadingTone
  | 36 => yX3_stepOf
  | 37 => yX3_tonesOf
  | 38 => yX3_isOnScaleOf
  | 39 => yX3_voicedChords
  | 40 => yX3_highestSoprano
  | 41 => yX3_insert
  | 42 => yX3_remove
  | 43 => yX3_clear
  | 44 => yX3_giveVoices
  | 45 => yX3_canMove
  | 46 => yX3_move
  | 47 => yX3_copyFrom
  | 48 => yX3_takeFrom
  | 49 => yX4_init
  | 50 => yX4_leastCosts
  | 51 => yX4_gather
  | 52 => yX4_weigh
  | 53 => yX4_giveVoicesTo
  | 54 => yX5_faultsNow
  | 55 => yX5_faultsWith
  | 56 => yX5_ownFaults
  | 57 => yX5_faultsBehind
  | 58 => yX5_isOutOfPlace
  | 59 => yX5_isTooWide
  | 60 => yX5_hasStrangeTone
  | 61 => yX5_lacksTone
  | 62 => yX5_doubles
  | 63 => yX5_parallelPair
  | 64 => yX5_leaps
  | 65 => yX5_holdsBack
  | 66 => yX5_costNow
  | 67 => yX5_allCosts
  | 68 => yX5_faultyChords
  | 69 => yX5_allFaults
  | 70 => yX6_init
  | 71 => yX6_size
  | 72 => yX6_at
  | 73 => yX6_setOnly
  | 74 => yX6_find
  | 75 => yX6_isOf
  | 76 => yX6_add
  | 77 => yX6_nearestTo
  | 78 => yX7_init
  | 79 => yX7_set
  | 80 => yX7_chord
  | 81 => yX7_takeOut
  | 82 => yX7_voice
  | 83 => yX7_silence
  | 84 => yX7_transpose
  | 85 => yX7_realise
  | 86 => yX7_read
  | 87 => yX7_of
  | 88 => yX7_voicing
  | 89 => yX7_count
  | 90 => yX7_parallel
  | 91 => yX7_ifRealised
  | 92 => yX7_nearest
  | 93 => yX7_ifVoiced
  | 94 => yX7_keys
  | 95 => yX7_put
  | 96 => yX7_wipe
  | 97 => yX7_fault
  | 98 => yX7_undo
  | 99 => yX7_save
  | 100 => yX7_restore
  | 101 => yX7_isSetting
  | 102 => yX7_isSlot
  | 103 => yX7_isBass
  | 104 => yX7_isNote
  | 105 => yX7_toneOf
  | 106 => yX7_isIn
  | 107 => yX7_stepsOfFigure
  | 108 => yX7_stepIn
  | 109 => yX7_packed
  | 110 => yX7_noteOf
  | 111 => yX7_distance
  | 112 => yX8_init
  | 113 => yX8_in
  | 114 => yX8_isFigure
  | 115 => yX8_isNote
  | 116 => yX8_isChord
  | 117 => yX8_of6
  | 118 => yX8_has
  | 119 => yX8_size
  | 120 => yX8_remembers
  | 121 => yX8_toneOf
  | 122 => yX8_stepIn
  | 123 => yX8_tonic
  | 124 => yX8_leading
  | 125 => yX8_tones
  | 126 => yX8_ownFaults
  | 127 => yX8_between
  | 128 => yX8_parallels
  | 129 => yX8_jointFaults
  | 130 => yX8_sings
  | 131 => yX8_hears
  | 132 => yX8_hearsAhead
  | 133 => yX8_faultsWith
  | 134 => yX8_faults
  | 135 => yX8_steps
  | 136 => yX8_cost
  | 137 => yX8_costs
  | 138 => yX8_listsOf
  | 139 => yX8_singsListed
  | 140 => yX8_hearsListed
  | 141 => yX8_joins
  | 142 => yX8_listsAll
  | 143 => yX8_leastFrom
  | 144 => yX8_solves
  | 145 => yX8_ifRealised
  | 146 => yX8_gives
  | 147 => yX8_firstWith
  | 148 => yX8_realise
  | 149 => yX8_set
  | 150 => yX8_lays
  | 151 => yX8_chord
  | 152 => yX8_takeOut
  | 153 => yX8_voice
  | 154 => yX8_sets
  | 155 => yX8_voiced
  | 156 => yX8_silence
  | 157 => yX8_canMove
  | 158 => yX8_transpose
  | 159 => yX8_of
  | 160 => yX8_voicing
  | 161 => yX8_ones
  | 162 => yX8_ofAll
  | 163 => yX8_count
  | 164 => yX8_parallel
  | 165 => yX8_nearest
  | 166 => yX8_ifVoiced
  | 167 => yX8_keys
  | 168 => yX8_put
  | 169 => yX8_wipe
  | 170 => yX8_sign
  | 171 => yX8_digit
  | 172 => yX8_noteEnd
  | 173 => yX8_behind
  | 174 => yX8_figureEnd
  | 175 => yX8_voicesEnd
  | 176 => yX8_chordEnd
  | 177 => yX8_fault
  | 178 => yX8_noteAt
  | 179 => yX8_chordsOfPad
  | 180 => yX8_reads
  | 181 => yX8_read
  | 182 => yX8_undo
  | 183 => yX8_save
  | 184 => yX8_restore
  | 185 => yJ6_bitCount_0f7a4
  | 186 => yJ9_abs_0f7a4
  | 187 => yJ9_max_7cf53
  | 188 => yL_law
  | _ => yL_law
def mB (j : Nat) : ByteArray := match j with
  | 0 => cX0_init
  | 1 => cX0_size
  | 2 => cX0_record
  | 3 => cX0_dropOldest
  | 4 => cX0_takeBack
  | 5 => cX1_init
  | 6 => cX1_length
  | 7 => cX1_empty
  | 8 => cX1_at
  | 9 => cX1_charactersIn
  | 10 => cX1_codeIn
  | 11 => cX1_append
  | 12 => cX2_init
  | 13 => cX2_told
  | 14 => cX2_readAll
  | 15 => cX2_readChord
  | 16 => cX2_keep
  | 17 => cX2_readFigure
  | 18 => cX2_readVoices
  | 19 => cX2_readNote
  | 20 => cX2_isDigit
  | 21 => cX2_skip
  | 22 => cX2_hasGoodBasses
  | 23 => cX2_giveChordsTo
  | 24 => cX3_init
  | 25 => cX3_size
  | 26 => cX3_has
  | 27 => cX3_setting
  | 28 => cX3_change
  | 29 => cX3_bassOf
  | 30 => cX3_figureOf
  | 31 => cX3_voicesOf
  | 32 => cX3_isVoiced
  | 33 => cX3_allVoices
  | 34 => cX3_allVoicesNow
  | 35 => cX3_leadingTone
  | 36 => cX3_stepOf
  | 37 => cX3_tonesOf
  | 38 => cX3_isOnScaleOf
  | 39 => cX3_voicedChords
  | 40 => cX3_highestSoprano
  | 41 => cX3_insert
  | 42 => cX3_remove
  | 43 => cX3_clear
  | 44 => cX3_giveVoices
  | 45 => cX3_canMove
  | 46 => cX3_move
  | 47 => cX3_copyFrom
  | 48 => cX3_takeFrom
  | 49 => cX4_init
  | 50 => cX4_leastCosts
  | 51 => cX4_gather
  | 52 => cX4_weigh
  | 53 => cX4_giveVoicesTo
  | 54 => cX5_faultsNow
  | 55 => cX5_faultsWith
  | 56 => cX5_ownFaults
  | 57 => cX5_faultsBehind
  | 58 => cX5_isOutOfPlace
  | 59 => cX5_isTooWide
  | 60 => cX5_hasStrangeTone
  | 61 => cX5_lacksTone
  | 62 => cX5_doubles
  | 63 => cX5_parallelPair
  | 64 => cX5_leaps
  | 65 => cX5_holdsBack
  | 66 => cX5_costNow
  | 67 => cX5_allCosts
  | 68 => cX5_faultyChords
  | 69 => cX5_allFaults
  | 70 => cX6_init
  | 71 => cX6_size
  | 72 => cX6_at
  | 73 => cX6_setOnly
  | 74 => cX6_find
  | 75 => cX6_isOf
  | 76 => cX6_add
  | 77 => cX6_nearestTo
  | 78 => cX7_init
  | 79 => cX7_set
  | 80 => cX7_chord
  | 81 => cX7_takeOut
  | 82 => cX7_voice
  | 83 => cX7_silence
  | 84 => cX7_transpose
  | 85 => cX7_realise
  | 86 => cX7_read
  | 87 => cX7_of
  | 88 => cX7_voicing
  | 89 => cX7_count
  | 90 => cX7_parallel
  | 91 => cX7_ifRealised
  | 92 => cX7_nearest
  | 93 => cX7_ifVoiced
  | 94 => cX7_keys
  | 95 => cX7_put
  | 96 => cX7_wipe
  | 97 => cX7_fault
  | 98 => cX7_undo
  | 99 => cX7_save
  | 100 => cX7_restore
  | 101 => cX7_isSetting
  | 102 => cX7_isSlot
  | 103 => cX7_isBass
  | 104 => cX7_isNote
  | 105 => cX7_toneOf
  | 106 => cX7_isIn
  | 107 => cX7_stepsOfFigure
  | 108 => cX7_stepIn
  | 109 => cX7_packed
  | 110 => cX7_noteOf
  | 111 => cX7_distance
  | 112 => cX8_init
  | 113 => cX8_in
  | 114 => cX8_isFigure
  | 115 => cX8_isNote
  | 116 => cX8_isChord
  | 117 => cX8_of6
  | 118 => cX8_has
  | 119 => cX8_size
  | 120 => cX8_remembers
  | 121 => cX8_toneOf
  | 122 => cX8_stepIn
  | 123 => cX8_tonic
  | 124 => cX8_leading
  | 125 => cX8_tones
  | 126 => cX8_ownFaults
  | 127 => cX8_between
  | 128 => cX8_parallels
  | 129 => cX8_jointFaults
  | 130 => cX8_sings
  | 131 => cX8_hears
  | 132 => cX8_hearsAhead
  | 133 => cX8_faultsWith
  | 134 => cX8_faults
  | 135 => cX8_steps
  | 136 => cX8_cost
  | 137 => cX8_costs
  | 138 => cX8_listsOf
  | 139 => cX8_singsListed
  | 140 => cX8_hearsListed
  | 141 => cX8_joins
  | 142 => cX8_listsAll
  | 143 => cX8_leastFrom
  | 144 => cX8_solves
  | 145 => cX8_ifRealised
  | 146 => cX8_gives
  | 147 => cX8_firstWith
  | 148 => cX8_realise
  | 149 => cX8_set
  | 150 => cX8_lays
  | 151 => cX8_chord
  | 152 => cX8_takeOut
  | 153 => cX8_voice
  | 154 => cX8_sets
  | 155 => cX8_voiced
  | 156 => cX8_silence
  | 157 => cX8_canMove
  | 158 => cX8_transpose
  | 159 => cX8_of
  | 160 => cX8_voicing
  | 161 => cX8_ones
  | 162 => cX8_ofAll
  | 163 => cX8_count
  | 164 => cX8_parallel
  | 165 => cX8_nearest
  | 166 => cX8_ifVoiced
  | 167 => cX8_keys
  | 168 => cX8_put
  | 169 => cX8_wipe
  | 170 => cX8_sign
  | 171 => cX8_digit
  | 172 => cX8_noteEnd
  | 173 => cX8_behind
  | 174 => cX8_figureEnd
  | 175 => cX8_voicesEnd
  | 176 => cX8_chordEnd
  | 177 => cX8_fault
  | 178 => cX8_noteAt
  | 179 => cX8_chordsOfPad
  | 180 => cX8_reads
  | 181 => cX8_read
  | 182 => cX8_undo
  | 183 => cX8_save
  | 184 => cX8_restore
  | 185 => cJ6_bitCount_0f7a4
  | 186 => cJ9_abs_0f7a4
  | 187 => cJ9_max_7cf53
  | 188 => cL_law
  | _ => cL_law
def mL (j : Nat) : Nat := match j with
  | 0 => 2
  | 1 => 1
  | 2 => 2
  | 3 => 3
  | 4 => 2
  | 5 => 1
  | 6 => 1
  | 7 => 1
  | 8 => 2
  | 9 => 4
  | 10 => 3
  | 11 => 5
  | 12 => 1
  | 13 => 1
  | 14 => 4
  | 15 => 5
  | 16 => 4
  | 17 => 2
  | 18 => 5
  | 19 => 3
  | 20 => 1
  | 21 => 3
  | 22 => 2
  | 23 => 3
  | 24 => 1
  | 25 => 1
  | 26 => 2
  | 27 => 2
  | 28 => 3
  | 29 => 2
  | 30 => 2
  | 31 => 2
  | 32 => 2
  | 33 => 4
  | 34 => 2
  | 35 => 1
  | 36 => 2
  | 37 => 6
  | 38 => 3
  | 39 => 3
  | 40 => 3
  | 41 => 6
  | 42 => 3
  | 43 => 1
  | 44 => 3
  | 45 => 4
  | 46 => 4
  | 47 => 3
  | 48 => 4
  | 49 => 2
  | 50 => 4
  | 51 => 3
  | 52 => 13
  | 53 => 4
  | 54 => 2
  | 55 => 6
  | 56 => 4
  | 57 => 5
  | 58 => 3
  | 59 => 5
  | 60 => 3
  | 61 => 4
  | 62 => 4
  | 63 => 5
  | 64 => 4
  | 65 => 5
  | 66 => 2
  | 67 => 3
  | 68 => 3
  | 69 => 3
  | 70 => 1
  | 71 => 1
  | 72 => 2
  | 73 => 2
  | 74 => 8
  | 75 => 2
  | 76 => 2
  | 77 => 10
  | 78 => 1
  | 79 => 4
  | 80 => 4
  | 81 => 2
  | 82 => 6
  | 83 => 2
  | 84 => 2
  | 85 => 2
  | 86 => 1
  | 87 => 3
  | 88 => 4
  | 89 => 2
  | 90 => 4
  | 91 => 1
  | 92 => 5
  | 93 => 5
  | 94 => 3
  | 95 => 4
  | 96 => 2
  | 97 => 1
  | 98 => 1
  | 99 => 2
  | 100 => 2
  | 101 => 1
  | 102 => 1
  | 103 => 1
  | 104 => 1
  | 105 => 2
  | 106 => 2
  | 107 => 1
  | 108 => 4
  | 109 => 3
  | 110 => 2
  | 111 => 4
  | 112 => 1
  | 113 => 3
  | 114 => 1
  | 115 => 1
  | 116 => 2
  | 117 => 3
  | 118 => 2
  | 119 => 1
  | 120 => 2
  | 121 => 3
  | 122 => 3
  | 123 => 1
  | 124 => 1
  | 125 => 7
  | 126 => 11
  | 127 => 2
  | 128 => 6
  | 129 => 6
  | 130 => 5
  | 131 => 5
  | 132 => 2
  | 133 => 6
  | 134 => 2
  | 135 => 1
  | 136 => 2
  | 137 => 3
  | 138 => 3
  | 139 => 4
  | 140 => 4
  | 141 => 5
  | 142 => 2
  | 143 => 7
  | 144 => 3
  | 145 => 2
  | 146 => 5
  | 147 => 6
  | 148 => 6
  | 149 => 5
  | 150 => 6
  | 151 => 5
  | 152 => 3
  | 153 => 5
  | 154 => 6
  | 155 => 3
  | 156 => 2
  | 157 => 5
  | 158 => 4
  | 159 => 3
  | 160 => 4
  | 161 => 3
  | 162 => 6
  | 163 => 2
  | 164 => 3
  | 165 => 6
  | 166 => 5
  | 167 => 5
  | 168 => 8
  | 169 => 2
  | 170 => 2
  | 171 => 2
  | 172 => 2
  | 173 => 3
  | 174 => 2
  | 175 => 3
  | 176 => 3
  | 177 => 4
  | 178 => 2
  | 179 => 4
  | 180 => 7
  | 181 => 2
  | 182 => 2
  | 183 => 3
  | 184 => 3
  | 185 => 1
  | 186 => 1
  | 187 => 2
  | 188 => 4
  | _ => 0
def mR (j : Nat) : Option FieldType := match j with
  | 0 => none
  | 1 => some .int
  | 2 => none
  | 3 => none
  | 4 => none
  | 5 => none
  | 6 => some .int
  | 7 => none
  | 8 => some .char
  | 9 => some .int
  | 10 => some .int
  | 11 => none
  | 12 => none
  | 13 => some .int
  | 14 => some .int
  | 15 => some .boolean
  | 16 => none
  | 17 => some .int
  | 18 => some .int
  | 19 => some .int
  | 20 => some .boolean
  | 21 => some .boolean
  | 22 => some .boolean
  | 23 => none
  | 24 => none
  | 25 => some .int
  | 26 => some .boolean
  | 27 => some .int
  | 28 => none
  | 29 => some .int
  | 30 => some .int
  | 31 => some .int
  | 32 => some .boolean
  | 33 => some .int
  | 34 => some .int
  | 35 => some .int
  | 36 => some .int
  | 37 => some .int
  | 38 => some .boolean
  | 39 => some .int
  | 40 => some .int
  | 41 => none
  | 42 => none
  | 43 => none
  | 44 => none
  | 45 => some .boolean
  | 46 => none
  | 47 => none
  | 48 => none
  | 49 => none
  | 50 => some .int
  | 51 => none
  | 52 => none
  | 53 => none
  | 54 => some .int
  | 55 => some .int
  | 56 => some .int
  | 57 => some .int
  | 58 => some .boolean
  | 59 => some .boolean
  | 60 => some .boolean
  | 61 => some .boolean
  | 62 => some .boolean
  | 63 => some .int
  | 64 => some .boolean
  | 65 => some .boolean
  | 66 => some .int
  | 67 => some .int
  | 68 => some .int
  | 69 => some .int
  | 70 => none
  | 71 => some .int
  | 72 => some .int
  | 73 => none
  | 74 => none
  | 75 => some .boolean
  | 76 => none
  | 77 => some .int
  | 78 => none
  | 79 => some .int
  | 80 => some .int
  | 81 => some .int
  | 82 => some .int
  | 83 => some .int
  | 84 => some .int
  | 85 => some .int
  | 86 => some .int
  | 87 => some .int
  | 88 => some .int
  | 89 => some .int
  | 90 => some .int
  | 91 => some .int
  | 92 => some .int
  | 93 => some .int
  | 94 => some .int
  | 95 => some .int
  | 96 => some .int
  | 97 => some .int
  | 98 => some .int
  | 99 => some .int
  | 100 => some .int
  | 101 => some .boolean
  | 102 => some .boolean
  | 103 => some .boolean
  | 104 => some .boolean
  | 105 => some .int
  | 106 => some .boolean
  | 107 => some .int
  | 108 => some .int
  | 109 => some .int
  | 110 => some .int
  | 111 => some .int
  | 112 => none
  | 113 => some .boolean
  | 114 => some .boolean
  | 115 => some .boolean
  | 116 => some .boolean
  | 117 => some .int
  | 118 => some .boolean
  | 119 => some .int
  | 120 => none
  | 121 => some .int
  | 122 => some .int
  | 123 => some .int
  | 124 => some .int
  | 125 => some .int
  | 126 => some .int
  | 127 => some .int
  | 128 => some .int
  | 129 => some .int
  | 130 => none
  | 131 => none
  | 132 => none
  | 133 => some .int
  | 134 => some .int
  | 135 => some .int
  | 136 => some .int
  | 137 => some .int
  | 138 => none
  | 139 => none
  | 140 => none
  | 141 => some .int
  | 142 => none
  | 143 => some .int
  | 144 => some .int
  | 145 => some .int
  | 146 => none
  | 147 => some .int
  | 148 => some .int
  | 149 => some .int
  | 150 => none
  | 151 => some .int
  | 152 => some .int
  | 153 => some .int
  | 154 => none
  | 155 => some .int
  | 156 => some .int
  | 157 => some .boolean
  | 158 => some .int
  | 159 => some .int
  | 160 => some .int
  | 161 => some .int
  | 162 => some .int
  | 163 => some .int
  | 164 => some .int
  | 165 => some .int
  | 166 => some .int
  | 167 => some .int
  | 168 => some .int
  | 169 => some .int
  | 170 => some .int
  | 171 => some .int
  | 172 => some .int
  | 173 => some .int
  | 174 => some .int
  | 175 => some .int
  | 176 => some .int
  | 177 => some .int
  | 178 => some .int
  | 179 => some .int
  | 180 => none
  | 181 => some .int
  | 182 => some .int
  | 183 => some .int
  | 184 => some .int
  | 185 => some .int
  | 186 => some .int
  | 187 => some .int
  | 188 => some .boolean
  | _ => none
def mO (j : Nat) : Nat := match j with
  | 0 => 0
  | 1 => 0
  | 2 => 0
  | 3 => 0
  | 4 => 0
  | 5 => 1
  | 6 => 1
  | 7 => 1
  | 8 => 1
  | 9 => 1
  | 10 => 1
  | 11 => 1
  | 12 => 2
  | 13 => 2
  | 14 => 2
  | 15 => 2
  | 16 => 2
  | 17 => 2
  | 18 => 2
  | 19 => 2
  | 20 => 2
  | 21 => 2
  | 22 => 2
  | 23 => 2
  | 24 => 3
  | 25 => 3
  | 26 => 3
  | 27 => 3
  | 28 => 3
  | 29 => 3
  | 30 => 3
  | 31 => 3
  | 32 => 3
  | 33 => 3
  | 34 => 3
  | 35 => 3
  | 36 => 3
  | 37 => 3
  | 38 => 3
  | 39 => 3
  | 40 => 3
  | 41 => 3
  | 42 => 3
  | 43 => 3
  | 44 => 3
  | 45 => 3
  | 46 => 3
  | 47 => 3
  | 48 => 3
  | 49 => 4
  | 50 => 4
  | 51 => 4
  | 52 => 4
  | 53 => 4
  | 54 => 5
  | 55 => 5
  | 56 => 5
  | 57 => 5
  | 58 => 5
  | 59 => 5
  | 60 => 5
  | 61 => 5
  | 62 => 5
  | 63 => 5
  | 64 => 5
  | 65 => 5
  | 66 => 5
  | 67 => 5
  | 68 => 5
  | 69 => 5
  | 70 => 6
  | 71 => 6
  | 72 => 6
  | 73 => 6
  | 74 => 6
  | 75 => 6
  | 76 => 6
  | 77 => 6
  | 78 => 7
  | 79 => 7
  | 80 => 7
  | 81 => 7
  | 82 => 7
  | 83 => 7
  | 84 => 7
  | 85 => 7
  | 86 => 7
  | 87 => 7
  | 88 => 7
  | 89 => 7
  | 90 => 7
  | 91 => 7
  | 92 => 7
  | 93 => 7
  | 94 => 7
  | 95 => 7
  | 96 => 7
  | 97 => 7
  | 98 => 7
  | 99 => 7
  | 100 => 7
  | 101 => 7
  | 102 => 7
  | 103 => 7
  | 104 => 7
  | 105 => 7
  | 106 => 7
  | 107 => 7
  | 108 => 7
  | 109 => 7
  | 110 => 7
  | 111 => 7
  | 112 => 8
  | 113 => 8
  | 114 => 8
  | 115 => 8
  | 116 => 8
  | 117 => 8
  | 118 => 8
  | 119 => 8
  | 120 => 8
  | 121 => 8
  | 122 => 8
  | 123 => 8
  | 124 => 8
  | 125 => 8
  | 126 => 8
  | 127 => 8
  | 128 => 8
  | 129 => 8
  | 130 => 8
  | 131 => 8
  | 132 => 8
  | 133 => 8
  | 134 => 8
  | 135 => 8
  | 136 => 8
  | 137 => 8
  | 138 => 8
  | 139 => 8
  | 140 => 8
  | 141 => 8
  | 142 => 8
  | 143 => 8
  | 144 => 8
  | 145 => 8
  | 146 => 8
  | 147 => 8
  | 148 => 8
  | 149 => 8
  | 150 => 8
  | 151 => 8
  | 152 => 8
  | 153 => 8
  | 154 => 8
  | 155 => 8
  | 156 => 8
  | 157 => 8
  | 158 => 8
  | 159 => 8
  | 160 => 8
  | 161 => 8
  | 162 => 8
  | 163 => 8
  | 164 => 8
  | 165 => 8
  | 166 => 8
  | 167 => 8
  | 168 => 8
  | 169 => 8
  | 170 => 8
  | 171 => 8
  | 172 => 8
  | 173 => 8
  | 174 => 8
  | 175 => 8
  | 176 => 8
  | 177 => 8
  | 178 => 8
  | 179 => 8
  | 180 => 8
  | 181 => 8
  | 182 => 8
  | 183 => 8
  | 184 => 8
  | 185 => 10
  | 186 => 11
  | 187 => 11
  | 188 => 9
  | _ => 99
def mD (j : Nat) : Nat := match j with
  | 0 => 2
  | 1 => 0
  | 2 => 2
  | 3 => 0
  | 4 => 2
  | 5 => 1
  | 6 => 0
  | 7 => 0
  | 8 => 0
  | 9 => 1
  | 10 => 0
  | 11 => 1
  | 12 => 1
  | 13 => 0
  | 14 => 4
  | 15 => 3
  | 16 => 0
  | 17 => 2
  | 18 => 2
  | 19 => 1
  | 20 => 0
  | 21 => 1
  | 22 => 1
  | 23 => 2
  | 24 => 1
  | 25 => 0
  | 26 => 0
  | 27 => 1
  | 28 => 1
  | 29 => 1
  | 30 => 1
  | 31 => 1
  | 32 => 2
  | 33 => 1
  | 34 => 2
  | 35 => 1
  | 36 => 2
  | 37 => 2
  | 38 => 2
  | 39 => 3
  | 40 => 3
  | 41 => 1
  | 42 => 1
  | 43 => 0
  | 44 => 1
  | 45 => 3
  | 46 => 3
  | 47 => 1
  | 48 => 0
  | 49 => 2
  | 50 => 5
  | 51 => 4
  | 52 => 3
  | 53 => 2
  | 54 => 4
  | 55 => 3
  | 56 => 2
  | 57 => 2
  | 58 => 1
  | 59 => 1
  | 60 => 1
  | 61 => 1
  | 62 => 1
  | 63 => 1
  | 64 => 1
  | 65 => 1
  | 66 => 3
  | 67 => 4
  | 68 => 5
  | 69 => 5
  | 70 => 1
  | 71 => 0
  | 72 => 0
  | 73 => 1
  | 74 => 3
  | 75 => 1
  | 76 => 0
  | 77 => 3
  | 78 => 3
  | 79 => 3
  | 80 => 3
  | 81 => 3
  | 82 => 5
  | 83 => 4
  | 84 => 4
  | 85 => 6
  | 86 => 5
  | 87 => 5
  | 88 => 4
  | 89 => 6
  | 90 => 3
  | 91 => 6
  | 92 => 4
  | 93 => 4
  | 94 => 3
  | 95 => 2
  | 96 => 1
  | 97 => 5
  | 98 => 3
  | 99 => 2
  | 100 => 3
  | 101 => 0
  | 102 => 0
  | 103 => 0
  | 104 => 0
  | 105 => 0
  | 106 => 0
  | 107 => 0
  | 108 => 1
  | 109 => 0
  | 110 => 0
  | 111 => 1
  | 112 => 1
  | 113 => 0
  | 114 => 1
  | 115 => 1
  | 116 => 1
  | 117 => 0
  | 118 => 2
  | 119 => 0
  | 120 => 0
  | 121 => 0
  | 122 => 1
  | 123 => 0
  | 124 => 1
  | 125 => 2
  | 126 => 3
  | 127 => 0
  | 128 => 1
  | 129 => 3
  | 130 => 1
  | 131 => 1
  | 132 => 2
  | 133 => 4
  | 134 => 5
  | 135 => 1
  | 136 => 3
  | 137 => 4
  | 138 => 4
  | 139 => 2
  | 140 => 2
  | 141 => 4
  | 142 => 5
  | 143 => 5
  | 144 => 6
  | 145 => 7
  | 146 => 0
  | 147 => 5
  | 148 => 7
  | 149 => 1
  | 150 => 0
  | 151 => 2
  | 152 => 2
  | 153 => 6
  | 154 => 0
  | 155 => 3
  | 156 => 4
  | 157 => 3
  | 158 => 4
  | 159 => 6
  | 160 => 5
  | 161 => 0
  | 162 => 6
  | 163 => 7
  | 164 => 3
  | 165 => 5
  | 166 => 5
  | 167 => 2
  | 168 => 1
  | 169 => 0
  | 170 => 0
  | 171 => 1
  | 172 => 2
  | 173 => 1
  | 174 => 2
  | 175 => 3
  | 176 => 4
  | 177 => 5
  | 178 => 3
  | 179 => 5
  | 180 => 4
  | 181 => 6
  | 182 => 0
  | 183 => 1
  | 184 => 1
  | 185 => 0
  | 186 => 0
  | 187 => 0
  | 188 => 8
  | _ => 0
def mN (j : Nat) : Nat := match j with
  | 0 => 1
  | 1 => 1
  | 2 => 2
  | 3 => 1
  | 4 => 2
  | 5 => 1
  | 6 => 1
  | 7 => 1
  | 8 => 2
  | 9 => 1
  | 10 => 2
  | 11 => 3
  | 12 => 1
  | 13 => 1
  | 14 => 2
  | 15 => 2
  | 16 => 4
  | 17 => 2
  | 18 => 2
  | 19 => 2
  | 20 => 1
  | 21 => 3
  | 22 => 1
  | 23 => 2
  | 24 => 1
  | 25 => 1
  | 26 => 2
  | 27 => 2
  | 28 => 3
  | 29 => 2
  | 30 => 2
  | 31 => 2
  | 32 => 2
  | 33 => 3
  | 34 => 2
  | 35 => 1
  | 36 => 2
  | 37 => 2
  | 38 => 2
  | 39 => 1
  | 40 => 1
  | 41 => 5
  | 42 => 2
  | 43 => 1
  | 44 => 3
  | 45 => 2
  | 46 => 2
  | 47 => 2
  | 48 => 4
  | 49 => 1
  | 50 => 2
  | 51 => 2
  | 52 => 4
  | 53 => 2
  | 54 => 2
  | 55 => 3
  | 56 => 3
  | 57 => 4
  | 58 => 1
  | 59 => 2
  | 60 => 2
  | 61 => 2
  | 62 => 2
  | 63 => 3
  | 64 => 3
  | 65 => 3
  | 66 => 2
  | 67 => 1
  | 68 => 1
  | 69 => 1
  | 70 => 1
  | 71 => 1
  | 72 => 2
  | 73 => 2
  | 74 => 3
  | 75 => 2
  | 76 => 2
  | 77 => 4
  | 78 => 1
  | 79 => 3
  | 80 => 4
  | 81 => 2
  | 82 => 5
  | 83 => 2
  | 84 => 2
  | 85 => 1
  | 86 => 1
  | 87 => 3
  | 88 => 4
  | 89 => 2
  | 90 => 3
  | 91 => 1
  | 92 => 3
  | 93 => 5
  | 94 => 1
  | 95 => 2
  | 96 => 1
  | 97 => 1
  | 98 => 1
  | 99 => 2
  | 100 => 2
  | 101 => 1
  | 102 => 1
  | 103 => 1
  | 104 => 1
  | 105 => 1
  | 106 => 2
  | 107 => 1
  | 108 => 2
  | 109 => 3
  | 110 => 2
  | 111 => 2
  | 112 => 1
  | 113 => 3
  | 114 => 1
  | 115 => 1
  | 116 => 2
  | 117 => 3
  | 118 => 2
  | 119 => 1
  | 120 => 1
  | 121 => 2
  | 122 => 2
  | 123 => 1
  | 124 => 1
  | 125 => 2
  | 126 => 2
  | 127 => 2
  | 128 => 2
  | 129 => 2
  | 130 => 5
  | 131 => 5
  | 132 => 2
  | 133 => 5
  | 134 => 2
  | 135 => 1
  | 136 => 2
  | 137 => 1
  | 138 => 2
  | 139 => 3
  | 140 => 3
  | 141 => 4
  | 142 => 1
  | 143 => 3
  | 144 => 1
  | 145 => 1
  | 146 => 3
  | 147 => 4
  | 148 => 1
  | 149 => 3
  | 150 => 4
  | 151 => 4
  | 152 => 2
  | 153 => 5
  | 154 => 5
  | 155 => 1
  | 156 => 2
  | 157 => 2
  | 158 => 2
  | 159 => 3
  | 160 => 4
  | 161 => 1
  | 162 => 2
  | 163 => 2
  | 164 => 3
  | 165 => 3
  | 166 => 5
  | 167 => 1
  | 168 => 2
  | 169 => 1
  | 170 => 2
  | 171 => 2
  | 172 => 2
  | 173 => 3
  | 174 => 2
  | 175 => 2
  | 176 => 2
  | 177 => 1
  | 178 => 2
  | 179 => 2
  | 180 => 3
  | 181 => 1
  | 182 => 1
  | 183 => 2
  | 184 => 2
  | 185 => 1
  | 186 => 1
  | 187 => 2
  | 188 => 1
  | _ => 0
def mS (j : Nat) : Bool := match j with
  | 0 => false
  | 1 => false
  | 2 => false
  | 3 => false
  | 4 => false
  | 5 => false
  | 6 => false
  | 7 => false
  | 8 => false
  | 9 => true
  | 10 => true
  | 11 => false
  | 12 => false
  | 13 => false
  | 14 => false
  | 15 => false
  | 16 => false
  | 17 => false
  | 18 => false
  | 19 => false
  | 20 => true
  | 21 => false
  | 22 => false
  | 23 => false
  | 24 => false
  | 25 => false
  | 26 => false
  | 27 => false
  | 28 => false
  | 29 => false
  | 30 => false
  | 31 => false
  | 32 => false
  | 33 => false
  | 34 => false
  | 35 => false
  | 36 => false
  | 37 => false
  | 38 => false
  | 39 => false
  | 40 => false
  | 41 => false
  | 42 => false
  | 43 => false
  | 44 => false
  | 45 => false
  | 46 => false
  | 47 => false
  | 48 => false
  | 49 => false
  | 50 => false
  | 51 => false
  | 52 => false
  | 53 => false
  | 54 => true
  | 55 => true
  | 56 => true
  | 57 => true
  | 58 => true
  | 59 => true
  | 60 => true
  | 61 => true
  | 62 => true
  | 63 => true
  | 64 => true
  | 65 => true
  | 66 => true
  | 67 => true
  | 68 => true
  | 69 => true
  | 70 => false
  | 71 => false
  | 72 => false
  | 73 => false
  | 74 => false
  | 75 => true
  | 76 => false
  | 77 => false
  | 78 => false
  | 79 => false
  | 80 => false
  | 81 => false
  | 82 => false
  | 83 => false
  | 84 => false
  | 85 => false
  | 86 => false
  | 87 => false
  | 88 => false
  | 89 => false
  | 90 => false
  | 91 => false
  | 92 => false
  | 93 => false
  | 94 => false
  | 95 => false
  | 96 => false
  | 97 => false
  | 98 => false
  | 99 => false
  | 100 => false
  | 101 => true
  | 102 => true
  | 103 => true
  | 104 => true
  | 105 => true
  | 106 => true
  | 107 => true
  | 108 => true
  | 109 => true
  | 110 => true
  | 111 => true
  | 112 => false
  | 113 => true
  | 114 => true
  | 115 => true
  | 116 => false
  | 117 => false
  | 118 => false
  | 119 => true
  | 120 => false
  | 121 => true
  | 122 => true
  | 123 => false
  | 124 => false
  | 125 => false
  | 126 => false
  | 127 => true
  | 128 => false
  | 129 => false
  | 130 => false
  | 131 => false
  | 132 => false
  | 133 => false
  | 134 => false
  | 135 => false
  | 136 => false
  | 137 => false
  | 138 => false
  | 139 => false
  | 140 => false
  | 141 => false
  | 142 => false
  | 143 => false
  | 144 => false
  | 145 => false
  | 146 => false
  | 147 => false
  | 148 => false
  | 149 => false
  | 150 => false
  | 151 => false
  | 152 => false
  | 153 => false
  | 154 => false
  | 155 => false
  | 156 => false
  | 157 => false
  | 158 => false
  | 159 => false
  | 160 => false
  | 161 => true
  | 162 => false
  | 163 => false
  | 164 => false
  | 165 => false
  | 166 => false
  | 167 => false
  | 168 => false
  | 169 => false
  | 170 => false
  | 171 => false
  | 172 => false
  | 173 => false
  | 174 => false
  | 175 => false
  | 176 => false
  | 177 => false
  | 178 => false
  | 179 => false
  | 180 => false
  | 181 => false
  | 182 => false
  | 183 => false
  | 184 => false
  | 185 => true
  | 186 => true
  | 187 => true
  | 188 => true
  | _ => false
def mP0 (j : Nat) : Nat := match j with
  | 0 => 109
  | 1 => 620
  | 2 => 240
  | 3 => 244
  | 4 => 681
  | 5 => 125
  | 6 => 541
  | 7 => 563
  | 8 => 517
  | 9 => 658
  | 10 => 661
  | 11 => 665
  | 12 => 140
  | 13 => 545
  | 14 => 505
  | 15 => 509
  | 16 => 537
  | 17 => 528
  | 18 => 532
  | 19 => 513
  | 20 => 520
  | 21 => 524
  | 22 => 549
  | 23 => 554
  | 24 => 77
  | 25 => 264
  | 26 => 286
  | 27 => 235
  | 28 => 256
  | 29 => 320
  | 30 => 332
  | 31 => 376
  | 32 => 372
  | 33 => 312
  | 34 => 380
  | 35 => 365
  | 36 => 586
  | 37 => 316
  | 38 => 651
  | 39 => 409
  | 40 => 612
  | 41 => 278
  | 42 => 290
  | 43 => 558
  | 44 => 400
  | 45 => 424
  | 46 => 431
  | 47 => 248
  | 48 => 252
  | 49 => 175
  | 50 => 440
  | 51 => 445
  | 52 => 478
  | 53 => 496
  | 54 => 574
  | 55 => 308
  | 56 => 341
  | 57 => 384
  | 58 => 344
  | 59 => 353
  | 60 => 356
  | 61 => 361
  | 62 => 368
  | 63 => 387
  | 64 => 390
  | 65 => 396
  | 66 => 579
  | 67 => 607
  | 68 => 598
  | 69 => 603
  | 70 => 162
  | 71 => 474
  | 72 => 483
  | 73 => 451
  | 74 => 459
  | 75 => 465
  | 76 => 455
  | 77 => 638
  | 78 => 69
  | 79 => 223
  | 80 => 260
  | 81 => 282
  | 82 => 295
  | 83 => 404
  | 84 => 420
  | 85 => 436
  | 86 => 501
  | 87 => 567
  | 88 => 590
  | 89 => 595
  | 90 => 624
  | 91 => 630
  | 92 => 634
  | 93 => 299
  | 94 => 647
  | 95 => 655
  | 96 => 669
  | 97 => 673
  | 98 => 677
  | 99 => 685
  | 100 => 693
  | 101 => 226
  | 102 => 688
  | 103 => 267
  | 104 => 302
  | 105 => 326
  | 106 => 337
  | 107 => 274
  | 108 => 323
  | 109 => 305
  | 110 => 347
  | 111 => 489
  | 112 => 698
  | 113 => 759
  | 114 => 859
  | 115 => 874
  | 116 => 756
  | 117 => 763
  | 118 => 752
  | 119 => 821
  | 120 => 840
  | 121 => 789
  | 122 => 786
  | 123 => 783
  | 124 => 793
  | 125 => 779
  | 126 => 775
  | 127 => 828
  | 128 => 825
  | 129 => 818
  | 130 => 771
  | 131 => 810
  | 132 => 890
  | 133 => 886
  | 134 => 882
  | 135 => 832
  | 136 => 914
  | 137 => 933
  | 138 => 767
  | 139 => 814
  | 140 => 806
  | 141 => 802
  | 142 => 748
  | 143 => 797
  | 144 => 744
  | 145 => 740
  | 146 => 848
  | 147 => 844
  | 148 => 836
  | 149 => 852
  | 150 => 863
  | 151 => 856
  | 152 => 867
  | 153 => 871
  | 154 => 878
  | 155 => 898
  | 156 => 894
  | 157 => 906
  | 158 => 902
  | 159 => 910
  | 160 => 918
  | 161 => 929
  | 162 => 926
  | 163 => 922
  | 164 => 937
  | 165 => 941
  | 166 => 945
  | 167 => 949
  | 168 => 953
  | 169 => 958
  | 170 => 978
  | 171 => 974
  | 172 => 970
  | 173 => 990
  | 174 => 982
  | 175 => 986
  | 176 => 966
  | 177 => 962
  | 178 => 1003
  | 179 => 999
  | 180 => 1007
  | 181 => 994
  | 182 => 1011
  | 183 => 1015
  | 184 => 1019
  | 185 => 413
  | 186 => 393
  | 187 => 615
  | 188 => 0
  | _ => 0
def mP1 (j : Nat) : Nat := match j with
  | 0 => 108
  | 1 => 618
  | 2 => 238
  | 3 => 243
  | 4 => 679
  | 5 => 124
  | 6 => 539
  | 7 => 561
  | 8 => 515
  | 9 => 657
  | 10 => 660
  | 11 => 663
  | 12 => 139
  | 13 => 543
  | 14 => 503
  | 15 => 508
  | 16 => 536
  | 17 => 527
  | 18 => 531
  | 19 => 512
  | 20 => 519
  | 21 => 523
  | 22 => 547
  | 23 => 552
  | 24 => 76
  | 25 => 262
  | 26 => 284
  | 27 => 233
  | 28 => 254
  | 29 => 318
  | 30 => 330
  | 31 => 374
  | 32 => 370
  | 33 => 310
  | 34 => 378
  | 35 => 363
  | 36 => 584
  | 37 => 314
  | 38 => 649
  | 39 => 407
  | 40 => 610
  | 41 => 276
  | 42 => 288
  | 43 => 556
  | 44 => 398
  | 45 => 422
  | 46 => 429
  | 47 => 246
  | 48 => 251
  | 49 => 174
  | 50 => 438
  | 51 => 444
  | 52 => 477
  | 53 => 494
  | 54 => 573
  | 55 => 307
  | 56 => 340
  | 57 => 383
  | 58 => 343
  | 59 => 352
  | 60 => 355
  | 61 => 360
  | 62 => 367
  | 63 => 386
  | 64 => 389
  | 65 => 395
  | 66 => 578
  | 67 => 606
  | 68 => 597
  | 69 => 602
  | 70 => 161
  | 71 => 472
  | 72 => 481
  | 73 => 449
  | 74 => 457
  | 75 => 464
  | 76 => 454
  | 77 => 636
  | 78 => 68
  | 79 => 221
  | 80 => 258
  | 81 => 280
  | 82 => 293
  | 83 => 402
  | 84 => 418
  | 85 => 434
  | 86 => 499
  | 87 => 565
  | 88 => 588
  | 89 => 593
  | 90 => 622
  | 91 => 628
  | 92 => 632
  | 93 => 297
  | 94 => 645
  | 95 => 653
  | 96 => 667
  | 97 => 671
  | 98 => 675
  | 99 => 683
  | 100 => 691
  | 101 => 225
  | 102 => 687
  | 103 => 266
  | 104 => 301
  | 105 => 325
  | 106 => 336
  | 107 => 273
  | 108 => 322
  | 109 => 304
  | 110 => 346
  | 111 => 488
  | 112 => 697
  | 113 => 758
  | 114 => 858
  | 115 => 873
  | 116 => 755
  | 117 => 762
  | 118 => 751
  | 119 => 820
  | 120 => 839
  | 121 => 788
  | 122 => 785
  | 123 => 782
  | 124 => 792
  | 125 => 778
  | 126 => 774
  | 127 => 827
  | 128 => 824
  | 129 => 817
  | 130 => 770
  | 131 => 809
  | 132 => 889
  | 133 => 885
  | 134 => 881
  | 135 => 831
  | 136 => 913
  | 137 => 932
  | 138 => 766
  | 139 => 813
  | 140 => 805
  | 141 => 801
  | 142 => 747
  | 143 => 796
  | 144 => 743
  | 145 => 738
  | 146 => 847
  | 147 => 843
  | 148 => 834
  | 149 => 850
  | 150 => 862
  | 151 => 854
  | 152 => 865
  | 153 => 869
  | 154 => 877
  | 155 => 897
  | 156 => 892
  | 157 => 905
  | 158 => 900
  | 159 => 908
  | 160 => 916
  | 161 => 928
  | 162 => 925
  | 163 => 920
  | 164 => 935
  | 165 => 939
  | 166 => 943
  | 167 => 947
  | 168 => 951
  | 169 => 956
  | 170 => 977
  | 171 => 973
  | 172 => 969
  | 173 => 989
  | 174 => 981
  | 175 => 985
  | 176 => 965
  | 177 => 960
  | 178 => 1002
  | 179 => 998
  | 180 => 1006
  | 181 => 992
  | 182 => 1009
  | 183 => 1013
  | 184 => 1017
  | 185 => 412
  | 186 => 392
  | 187 => 614
  | 188 => 53
  | _ => 0
def mP2 (j : Nat) : Nat := match j with
  | 0 => 0
  | 1 => 619
  | 2 => 239
  | 3 => 0
  | 4 => 680
  | 5 => 0
  | 6 => 540
  | 7 => 562
  | 8 => 516
  | 9 => 0
  | 10 => 0
  | 11 => 664
  | 12 => 0
  | 13 => 544
  | 14 => 504
  | 15 => 5
  | 16 => 10
  | 17 => 8
  | 18 => 9
  | 19 => 6
  | 20 => 0
  | 21 => 7
  | 22 => 548
  | 23 => 553
  | 24 => 0
  | 25 => 263
  | 26 => 285
  | 27 => 234
  | 28 => 255
  | 29 => 319
  | 30 => 331
  | 31 => 375
  | 32 => 371
  | 33 => 311
  | 34 => 379
  | 35 => 364
  | 36 => 585
  | 37 => 315
  | 38 => 650
  | 39 => 408
  | 40 => 611
  | 41 => 277
  | 42 => 289
  | 43 => 557
  | 44 => 399
  | 45 => 423
  | 46 => 430
  | 47 => 247
  | 48 => 1
  | 49 => 0
  | 50 => 439
  | 51 => 2
  | 52 => 4
  | 53 => 495
  | 54 => 0
  | 55 => 0
  | 56 => 0
  | 57 => 0
  | 58 => 0
  | 59 => 0
  | 60 => 0
  | 61 => 0
  | 62 => 0
  | 63 => 0
  | 64 => 0
  | 65 => 0
  | 66 => 0
  | 67 => 0
  | 68 => 0
  | 69 => 0
  | 70 => 0
  | 71 => 473
  | 72 => 482
  | 73 => 450
  | 74 => 458
  | 75 => 0
  | 76 => 3
  | 77 => 637
  | 78 => 0
  | 79 => 222
  | 80 => 259
  | 81 => 281
  | 82 => 294
  | 83 => 403
  | 84 => 419
  | 85 => 435
  | 86 => 500
  | 87 => 566
  | 88 => 589
  | 89 => 594
  | 90 => 623
  | 91 => 629
  | 92 => 633
  | 93 => 298
  | 94 => 646
  | 95 => 654
  | 96 => 668
  | 97 => 672
  | 98 => 676
  | 99 => 684
  | 100 => 692
  | 101 => 0
  | 102 => 0
  | 103 => 0
  | 104 => 0
  | 105 => 0
  | 106 => 0
  | 107 => 0
  | 108 => 0
  | 109 => 0
  | 110 => 0
  | 111 => 0
  | 112 => 0
  | 113 => 0
  | 114 => 0
  | 115 => 0
  | 116 => 14
  | 117 => 15
  | 118 => 13
  | 119 => 0
  | 120 => 30
  | 121 => 0
  | 122 => 0
  | 123 => 20
  | 124 => 21
  | 125 => 19
  | 126 => 18
  | 127 => 0
  | 128 => 28
  | 129 => 27
  | 130 => 17
  | 131 => 25
  | 132 => 37
  | 133 => 36
  | 134 => 35
  | 135 => 29
  | 136 => 40
  | 137 => 42
  | 138 => 16
  | 139 => 26
  | 140 => 24
  | 141 => 23
  | 142 => 12
  | 143 => 22
  | 144 => 11
  | 145 => 739
  | 146 => 32
  | 147 => 31
  | 148 => 835
  | 149 => 851
  | 150 => 33
  | 151 => 855
  | 152 => 866
  | 153 => 870
  | 154 => 34
  | 155 => 38
  | 156 => 893
  | 157 => 39
  | 158 => 901
  | 159 => 909
  | 160 => 917
  | 161 => 0
  | 162 => 41
  | 163 => 921
  | 164 => 936
  | 165 => 940
  | 166 => 944
  | 167 => 948
  | 168 => 952
  | 169 => 957
  | 170 => 46
  | 171 => 45
  | 172 => 44
  | 173 => 49
  | 174 => 47
  | 175 => 48
  | 176 => 43
  | 177 => 961
  | 178 => 51
  | 179 => 50
  | 180 => 52
  | 181 => 993
  | 182 => 1010
  | 183 => 1014
  | 184 => 1018
  | 185 => 0
  | 186 => 0
  | 187 => 0
  | 188 => 0
  | _ => 0
def oN (j : Nat) : String := match j with
  | 0 => RX0
  | 1 => RX1
  | 2 => RX2
  | 3 => RX3
  | 4 => RX4
  | 5 => RX5
  | 6 => RX6
  | 7 => RX7
  | 8 => RX8
  | 9 => RL
  | 10 => RJ6
  | 11 => RJ9
  | _ => ""
def oP (j : Nat) : Nat := match j with
  | 0 => 56
  | 1 => 57
  | 2 => 58
  | 3 => 55
  | 4 => 60
  | 5 => 62
  | 6 => 59
  | 7 => 54
  | 8 => 61
  | 9 => 53
  | 10 => 64
  | 11 => 63
  | _ => 0
def oC (j : Nat) : Nat := match j with
  | 0 => 0
  | 1 => 1
  | 2 => 2
  | 3 => 3
  | 4 => 4
  | 5 => 50
  | 6 => 5
  | 7 => 6
  | 8 => 7
  | 9 => 50
  | 10 => 50
  | 11 => 50
  | _ => 50
def cN (j : Nat) : Nat := match j with
  | 0 => 2
  | 1 => 2
  | 2 => 5
  | 3 => 5
  | 4 => 4
  | 5 => 2
  | 6 => 8
  | 7 => 12
  | _ => 0
def cK (j : Nat) : Nat → Bool := match j with
  | 0 => fun k => decide (k ∈ ([0] : List Nat))
  | 1 => fun k => decide (k ∈ ([0] : List Nat))
  | 2 => fun k => decide (k ∈ ([0, 1, 2] : List Nat))
  | 3 => fun k => decide (k ∈ ([0, 1, 2, 3] : List Nat))
  | 4 => fun k => decide (k ∈ ([0, 1, 2] : List Nat))
  | 5 => fun k => decide (k ∈ ([0] : List Nat))
  | 6 => fun k => decide (k ∈ ([0, 1, 2, 3, 4, 5, 6, 7] : List Nat))
  | 7 => fun k => decide (k ∈ ([0, 1, 3, 4, 5, 7, 8, 9, 10, 11] : List Nat))
  | _ => fun _ => false
def cI (j : Nat) : Nat := match j with
  | 0 => 106
  | 1 => 122
  | 2 => 137
  | 3 => 74
  | 4 => 172
  | 5 => 159
  | 6 => 66
  | 7 => 695
  | _ => 0
def cO (j : Nat) : Nat := match j with
  | 0 => 0
  | 1 => 1
  | 2 => 2
  | 3 => 3
  | 4 => 4
  | 5 => 6
  | 6 => 7
  | 7 => 8
  | _ => 0
/-! links by key = 1000 * class + entry: (key, what, which, place) -/
def fb_fl : List (Nat × Nat × Nat × Nat) := [(11, 0, 0, 114), (18, 0, 1, 115), (1009, 1, 0, 127), (1015, 1, 1, 128), (2009, 2, 0, 142), (2015, 2, 1, 143), (2018, 2, 2, 144), (2021, 2, 3, 145), (2025, 2, 4, 146), (3018, 3, 0, 88), (3023, 3, 1, 89), (3026, 3, 2, 90), (3029, 3, 3, 91), (3032, 3, 4, 92), (4011, 4, 0, 182), (4019, 4, 1, 183), (4022, 4, 2, 184), (4042, 4, 3, 185), (6009, 5, 0, 164), (6015, 5, 1, 165), (7010, 6, 0, 195), (7019, 6, 1, 196), (7023, 6, 2, 197), (7027, 6, 3, 198), (7034, 6, 4, 199), (7041, 6, 5, 200), (7048, 6, 6, 201), (7055, 6, 7, 202), (8007, 7, 0, 700), (8013, 7, 1, 701), (8016, 7, 3, 703), (8019, 7, 4, 704), (8023, 7, 5, 705), (8026, 7, 7, 707), (8029, 7, 8, 708), (8032, 7, 9, 709), (8035, 7, 10, 710), (8038, 7, 11, 711), (8053, 7, 2, 702), (8177, 7, 6, 706)]
def fb_sl : List (Nat × Nat × Nat × Nat) := [(3009, 1, 1, 79), (3051, 0, 1, 334), (5082, 4, 1, 348), (5086, 5, 1, 349), (6029, 4, 1, 461), (6032, 5, 1, 462), (7063, 2, 0, 228), (7067, 3, 0, 230), (7246, 1, 0, 227), (7249, 4, 0, 268), (7252, 5, 0, 270), (7258, 0, 0, 327)]
def fb_il : List (Nat × Nat × Nat × Nat) := [(3, 6, 0, 110), (17, 5, 24, 113), (22, 0, 3, 241), (25, 0, 47, 245), (1003, 6, 0, 126), (1019, 1, 10, 659), (2003, 6, 0, 141), (2028, 0, 15, 506), (2032, 0, 6, 538), (2038, 0, 21, 521), (2042, 0, 19, 510), (2046, 0, 17, 525), (2049, 0, 18, 529), (2052, 0, 16, 534), (2056, 4, 109, 533), (2060, 0, 8, 514), (2064, 1, 20, 518), (2068, 4, 103, 550), (2072, 0, 43, 555), (2077, 0, 41, 559), (3003, 6, 0, 78), (3013, 9, 0, 81), (3036, 4, 101, 236), (3040, 0, 26, 291), (3043, 0, 31, 373), (3047, 0, 33, 381), (3054, 4, 105, 338), (3057, 0, 29, 317), (3060, 4, 108, 321), (3063, 0, 30, 329), (3066, 4, 107, 333), (3069, 4, 106, 335), (3073, 0, 32, 410), (3076, 4, 110, 426), (3079, 1, 187, 613), (3084, 0, 48, 249), (3088, 4, 103, 425), (3091, 4, 104, 427), (3094, 4, 109, 432), (4003, 6, 0, 176), (4025, 5, 70, 181), (4026, 0, 25, 441), (4032, 0, 51, 442), (4036, 0, 71, 471), (4037, 0, 52, 475), (4046, 0, 32, 446), (4050, 0, 31, 447), (4054, 0, 73, 448), (4058, 0, 74, 456), (4062, 0, 26, 479), (4065, 0, 72, 480), (4068, 0, 33, 484), (4072, 0, 37, 485), (4075, 4, 111, 487), (4078, 1, 57, 492), (4084, 0, 44, 497), (5009, 0, 32, 369), (5015, 0, 31, 575), (5019, 1, 55, 576), (5025, 0, 33, 309), (5029, 0, 37, 313), (5032, 1, 56, 339), (5035, 0, 34, 377), (5038, 1, 57, 382), (5042, 1, 58, 342), (5045, 0, 27, 350), (5048, 1, 59, 351), (5052, 1, 60, 354), (5055, 1, 61, 359), (5058, 0, 35, 362), (5062, 1, 62, 366), (5065, 1, 63, 385), (5069, 1, 64, 388), (5073, 4, 106, 358), (5076, 1, 65, 394), (5079, 4, 110, 345), (5089, 4, 105, 357), (5092, 1, 186, 391), (5097, 4, 111, 580), (5100, 0, 25, 599), (5103, 1, 66, 608), (5107, 1, 54, 600), (5110, 1, 185, 604), (6003, 6, 0, 163), (6019, 0, 76, 452), (6023, 0, 37, 460), (6035, 1, 75, 463), (6039, 4, 109, 468), (6043, 0, 33, 469), (6047, 1, 56, 470), (6053, 4, 105, 466), (6056, 4, 106, 467), (6060, 4, 111, 640), (6063, 1, 57, 641), (7001, 6, 0, 70), (7009, 5, 24, 75), (7018, 2, 0, 107), (7033, 5, 5, 123), (7040, 5, 12, 138), (7047, 5, 70, 160), (7054, 2, 49, 173), (7059, 1, 101, 224), (7070, 0, 27, 232), (7074, 0, 2, 237), (7078, 0, 28, 253), (7082, 0, 25, 261), (7086, 1, 103, 265), (7089, 1, 107, 272), (7092, 0, 41, 275), (7096, 0, 26, 283), (7099, 0, 42, 287), (7103, 0, 93, 296), (7107, 1, 109, 303), (7111, 0, 44, 397), (7114, 0, 32, 405), (7117, 0, 39, 406), (7120, 1, 185, 411), (7125, 0, 45, 421), (7128, 0, 46, 428), (7131, 0, 50, 437), (7135, 0, 53, 493), (7138, 0, 14, 502), (7142, 0, 13, 542), (7145, 0, 22, 546), (7149, 0, 23, 551), (7152, 0, 7, 560), (7155, 0, 29, 568), (7158, 0, 30, 569), (7161, 0, 31, 570), (7164, 1, 110, 490), (7168, 0, 37, 571), (7171, 1, 54, 572), (7177, 1, 66, 577), (7180, 0, 74, 581), (7184, 0, 71, 582), (7185, 0, 36, 583), (7188, 0, 72, 591), (7191, 1, 68, 596), (7194, 1, 69, 601), (7197, 1, 67, 605), (7200, 0, 40, 609), (7203, 0, 6, 616), (7206, 0, 1, 617), (7207, 0, 34, 625), (7210, 1, 63, 626), (7213, 0, 77, 635), (7217, 1, 111, 642), (7220, 1, 104, 300), (7223, 1, 55, 306), (7226, 0, 38, 648), (7229, 1, 9, 656), (7233, 0, 11, 662), (7237, 0, 4, 678), (7240, 1, 102, 686), (7243, 0, 47, 689), (7255, 1, 105, 324), (7261, 1, 186, 491), (8001, 6, 0, 699), (8041, 1, 113, 757), (8045, 0, 116, 753), (8049, 0, 117, 760), (8057, 1, 121, 787), (8060, 0, 123, 780), (8064, 1, 122, 784), (8067, 0, 125, 776), (8071, 0, 124, 790), (8074, 1, 127, 826), (8077, 1, 119, 819), (8080, 0, 128, 822), (8083, 0, 131, 807), (8087, 0, 130, 768), (8090, 0, 126, 772), (8093, 0, 118, 749), (8096, 0, 132, 887), (8100, 0, 129, 815), (8103, 0, 133, 883), (8107, 0, 135, 829), (8110, 0, 136, 911), (8113, 0, 140, 803), (8117, 0, 139, 811), (8121, 0, 138, 764), (8124, 0, 141, 799), (8128, 0, 142, 745), (8131, 0, 143, 794), (8134, 0, 144, 741), (8137, 0, 120, 837), (8140, 0, 147, 841), (8143, 0, 146, 845), (8146, 1, 114, 857), (8149, 0, 150, 860), (8153, 1, 115, 872), (8156, 0, 154, 875), (8159, 0, 134, 879), (8162, 0, 155, 895), (8165, 0, 157, 903), (8168, 1, 161, 927), (8171, 0, 162, 923), (8174, 0, 137, 930), (8182, 0, 170, 975), (8185, 0, 171, 971), (8188, 0, 173, 987), (8191, 0, 172, 967), (8194, 0, 174, 979), (8197, 0, 175, 983), (8200, 0, 176, 963), (8203, 0, 178, 1000), (8206, 0, 177, 995), (8209, 0, 179, 996), (8212, 0, 180, 1004), (9009, 2, 78, 67), (9012, 2, 112, 696), (9013, 0, 79, 220), (9017, 0, 149, 849), (9018, 0, 80, 257), (9022, 0, 151, 853), (9023, 0, 81, 279), (9027, 0, 152, 864), (9028, 0, 82, 292), (9032, 0, 153, 868), (9033, 0, 83, 401), (9036, 0, 156, 891), (9037, 0, 84, 417), (9040, 0, 158, 899), (9041, 0, 85, 433), (9045, 0, 148, 833), (9046, 0, 86, 498), (9049, 0, 181, 991), (9050, 0, 87, 564), (9053, 0, 159, 907), (9054, 0, 88, 587), (9057, 0, 160, 915), (9058, 0, 89, 592), (9061, 0, 163, 919), (9062, 0, 90, 621), (9065, 0, 164, 934), (9066, 0, 91, 627), (9069, 0, 145, 737), (9070, 0, 92, 631), (9073, 0, 165, 938), (9074, 0, 93, 643), (9077, 0, 166, 942), (9078, 0, 94, 644), (9081, 0, 167, 946), (9084, 0, 95, 652), (9088, 0, 168, 950), (9089, 0, 96, 666), (9092, 0, 169, 955), (9093, 0, 97, 670), (9096, 0, 177, 959), (9097, 0, 98, 674), (9100, 0, 182, 1008), (9101, 0, 99, 682), (9104, 0, 183, 1012), (9105, 0, 100, 690), (9108, 0, 184, 1016)]
def fb_cl : List (Nat × Nat × Nat × Nat) := [(9, 13, 0, 111), (9, 3, 0, 111), (3014, 10, 0, 87), (4009, 14, 0, 177), (4017, 15, 0, 179), (4009, 5, 0, 177), (7007, 3, 0, 73), (7016, 0, 0, 105), (7007, 13, 0, 73), (7031, 1, 0, 121), (7038, 2, 0, 136), (7045, 5, 0, 158), (7052, 4, 0, 171), (9007, 6, 0, 65), (9010, 7, 0, 694)]
def fb_kl : List (Nat × Int32 × Nat × Nat) := [(4041, 1000000, 0, 486), (6059, 1000000, 0, 639), (8120, 1000000, 0, 798), (10265, 1431655765, 0, 414), (10266, 858993459, 0, 415), (10267, 252645135, 0, 416)]
def fb_jl : List (Nat × Int64 × Nat × Nat) := [(8180, 255, 0, 954), (9082, 4294967295, 0, 1020)]
def fb_sn (j : Nat) : String := match j with
  | 0 => "SCALE"
  | 1 => "FIRST_SETTING"
  | 2 => "LEAST_SETTING"
  | 3 => "GREATEST_SETTING"
  | 4 => "LOWEST_OF_VOICE"
  | 5 => "HIGHEST_OF_VOICE"
  | _ => ""
def fb_sp (j : Nat) : Nat := match j with
  | 0 => 328
  | 1 => 80
  | 2 => 229
  | 3 => 231
  | 4 => 269
  | 5 => 271
  | _ => 0
/-! what a program decides of them -/
set_option maxRecDepth 100000 in
theorem mP1_ok : ∀ j, j < 188 → lw_tbl[mP1 j]? = some (if mS j then .static (mY j) else .instanceMethod (mY j)) := by decide +kernel
set_option maxRecDepth 100000 in
theorem oP_ok : ∀ j, j < 188 → lw_tbl[oP (mO j)]? = some (.initialized (mY j).cls) ∧ (mY j).cls = oN (mO j) := by decide +kernel
set_option maxRecDepth 100000 in
theorem mP2_ok : ∀ j, j < 188 → mS j = false → (mY j).name ≠ "<init>" → lw_tbl[mP2 j]? = some (.selects (mY j).cls (mY j) (mY j)) := by decide +kernel
set_option maxRecDepth 100000 in
theorem mN_ok : ∀ j, j < 188 → plainFor (mY j) = true ∧ ((mY j).cls ≠ "java/lang/invoke/MethodHandle" ∧ (mY j).cls ≠ "java/lang/invoke/VarHandle") ∧ (parseMethodDescriptor (mY j).desc).map (fun d => d.parameters.length) = some (if mS j then mN j else mN j - 1) ∧ (mS j = false → 0 < mN j) ∧ mL j ≤ 13 := by decide +kernel

set_option maxRecDepth 100000 in
theorem mP0_ok : ∀ j, j < 188 → lw_tbl[mP0 j]? = some (.code (mY j) (mB j) (mL j) (mR j)) := fun j h => match j, h with
  | 0, _ => rfl
  | 1, _ => rfl
  | 2, _ => rfl
  | 3, _ => rfl
  | 4, _ => rfl
  | 5, _ => rfl
  | 6, _ => rfl
  | 7, _ => rfl
  | 8, _ => rfl
  | 9, _ => rfl
  | 10, _ => rfl
  | 11, _ => rfl
  | 12, _ => rfl
  | 13, _ => rfl
  | 14, _ => rfl
  | 15, _ => rfl
  | 16, _ => rfl
  | 17, _ => rfl
  | 18, _ => rfl
  | 19, _ => rfl
  | 20, _ => rfl
  | 21, _ => rfl
  | 22, _ => rfl
  | 23, _ => rfl
  | 24, _ => rfl
  | 25, _ => rfl
  | 26, _ => rfl
  | 27, _ => rfl
  | 28, _ => rfl
  | 29, _ => rfl
  | 30, _ => rfl
  | 31, _ => rfl
  | 32, _ => rfl
  | 33, _ => rfl
  | 34, _ => rfl
  | 35, _ => rfl
  | 36, _ => rfl
  | 37, _ => rfl
  | 38, _ => rfl
  | 39, _ => rfl
  | 40, _ => rfl
  | 41, _ => rfl
  | 42, _ => rfl
  | 43, _ => rfl
  | 44, _ => rfl
  | 45, _ => rfl
  | 46, _ => rfl
  | 47, _ => rfl
  | 48, _ => rfl
  | 49, _ => rfl
  | 50, _ => rfl
  | 51, _ => rfl
  | 52, _ => rfl
  | 53, _ => rfl
  | 54, _ => rfl
  | 55, _ => rfl
  | 56, _ => rfl
  | 57, _ => rfl
  | 58, _ => rfl
  | 59, _ => rfl
  | 60, _ => rfl
  | 61, _ => rfl
  | 62, _ => rfl
  | 63, _ => rfl
  | 64, _ => rfl
  | 65, _ => rfl
  | 66, _ => rfl
  | 67, _ => rfl
  | 68, _ => rfl
  | 69, _ => rfl
  | 70, _ => rfl
  | 71, _ => rfl
  | 72, _ => rfl
  | 73, _ => rfl
  | 74, _ => rfl
  | 75, _ => rfl
  | 76, _ => rfl
  | 77, _ => rfl
  | 78, _ => rfl
  | 79, _ => rfl
  | 80, _ => rfl
  | 81, _ => rfl
  | 82, _ => rfl
  | 83, _ => rfl
  | 84, _ => rfl
  | 85, _ => rfl
  | 86, _ => rfl
  | 87, _ => rfl
  | 88, _ => rfl
  | 89, _ => rfl
  | 90, _ => rfl
  | 91, _ => rfl
  | 92, _ => rfl
  | 93, _ => rfl
  | 94, _ => rfl
  | 95, _ => rfl
  | 96, _ => rfl
  | 97, _ => rfl
  | 98, _ => rfl
  | 99, _ => rfl
  | 100, _ => rfl
  | 101, _ => rfl
  | 102, _ => rfl
  | 103, _ => rfl
  | 104, _ => rfl
  | 105, _ => rfl
  | 106, _ => rfl
  | 107, _ => rfl
  | 108, _ => rfl
  | 109, _ => rfl
  | 110, _ => rfl
  | 111, _ => rfl
  | 112, _ => rfl
  | 113, _ => rfl
  | 114, _ => rfl
  | 115, _ => rfl
  | 116, _ => rfl
  | 117, _ => rfl
  | 118, _ => rfl
  | 119, _ => rfl
  | 120, _ => rfl
  | 121, _ => rfl
  | 122, _ => rfl
  | 123, _ => rfl
  | 124, _ => rfl
  | 125, _ => rfl
  | 126, _ => rfl
  | 127, _ => rfl
  | 128, _ => rfl
  | 129, _ => rfl
  | 130, _ => rfl
  | 131, _ => rfl
  | 132, _ => rfl
  | 133, _ => rfl
  | 134, _ => rfl
  | 135, _ => rfl
  | 136, _ => rfl
  | 137, _ => rfl
  | 138, _ => rfl
  | 139, _ => rfl
  | 140, _ => rfl
  | 141, _ => rfl
  | 142, _ => rfl
  | 143, _ => rfl
  | 144, _ => rfl
  | 145, _ => rfl
  | 146, _ => rfl
  | 147, _ => rfl
  | 148, _ => rfl
  | 149, _ => rfl
  | 150, _ => rfl
  | 151, _ => rfl
  | 152, _ => rfl
  | 153, _ => rfl
  | 154, _ => rfl
  | 155, _ => rfl
  | 156, _ => rfl
  | 157, _ => rfl
  | 158, _ => rfl
  | 159, _ => rfl
  | 160, _ => rfl
  | 161, _ => rfl
  | 162, _ => rfl
  | 163, _ => rfl
  | 164, _ => rfl
  | 165, _ => rfl
  | 166, _ => rfl
  | 167, _ => rfl
  | 168, _ => rfl
  | 169, _ => rfl
  | 170, _ => rfl
  | 171, _ => rfl
  | 172, _ => rfl
  | 173, _ => rfl
  | 174, _ => rfl
  | 175, _ => rfl
  | 176, _ => rfl
  | 177, _ => rfl
  | 178, _ => rfl
  | 179, _ => rfl
  | 180, _ => rfl
  | 181, _ => rfl
  | 182, _ => rfl
  | 183, _ => rfl
  | 184, _ => rfl
  | 185, _ => rfl
  | 186, _ => rfl
  | 187, _ => rfl
  | n + 188, h => absurd h (by omega)
end
section
/-! AN ABSTRACT MACHINE: a heap of numbered cells, an interpreter over the methods by number; part 03 shows that what it answers the machine answers -/
/-- kinds and lengths; how many cells, how many slots; references; ints -/
abbrev fb_H : Type := (Nat → Nat × Nat) × (Nat × Nat) × (Nat → Nat → Option Nat) × (Nat → Nat → Int32)
def fb_T (h : fb_H) : Nat → Nat × Nat := h.1
def fb_N (h : fb_H) : Nat := h.2.1.1
def fb_Z (h : fb_H) : Nat := h.2.1.2
def fb_R (h : fb_H) : Nat → Nat → Option Nat := h.2.2.1
def fb_I (h : fb_H) : Nat → Nat → Int32 := h.2.2.2
def fb_u2 {α : Type} (f : Nat → Nat → α) (i k : Nat) (v : α) : Nat → Nat → α := fun a b => if a = i ∧ b = k then v else f a b
def fb_sI (h : fb_H) (i k : Nat) (v : Int32) : fb_H := (h.1, h.2.1, h.2.2.1, fb_u2 h.2.2.2 i k v)
def fb_sR (h : fb_H) (i k : Nat) (v : Option Nat) : fb_H := (h.1, h.2.1, fb_u2 h.2.2.1 i k v, h.2.2.2)
def fb_nw (h : fb_H) (kd len w : Nat) : fb_H := (fun a => if a = fb_N h then (kd, len) else fb_T h a, (fb_N h + 1, fb_Z h + w), fun a b => if a = fb_N h then none else fb_R h a b, fun a b => if a = fb_N h then 0 else fb_I h a b)
def fb_cp (h : fb_H) (i : Nat) : fb_H := (fun a => if a = fb_N h then (10, (fb_T h i).2) else fb_T h a, (fb_N h + 1, fb_Z h + (fb_T h i).2), fun a b => if a = fb_N h then none else fb_R h a b, fun a b => if a = fb_N h then fb_I h i b else fb_I h a b)
def fb_mn (h : fb_H) (n k : Nat) : fb_H := (fun a => if a = fb_N h then (15, n) else if fb_N h < a ∧ a ≤ fb_N h + n then (10, k) else fb_T h a, (fb_N h + 1 + n, fb_Z h + n + n * k), fun a b => if a = fb_N h then (if b < n then some (fb_N h + 1 + b) else none) else if fb_N h < a ∧ a ≤ fb_N h + n then none else fb_R h a b, fun a b => if fb_N h ≤ a ∧ a ≤ fb_N h + n then 0 else fb_I h a b)
/-- the classes with objects -/
def cX (c : Nat) : String := match c with
  | 0 => RX0 | 1 => RX1 | 2 => RX2 | 3 => RX3 | 4 => RX4 | 5 => RX6 | 6 => RX7 | _ => RX8
def cT (c : Nat) : u_T := match c with
  | 0 => TX0 | 1 => TX1 | 2 => TX2 | 3 => TX3 | 4 => TX4 | 5 => TX6 | 6 => TX7 | _ => TX8
def cY (c : Nat) : Nat → FieldType := match c with
  | 0 => tyX0 | 1 => tyX1 | 2 => tyX2 | 3 => tyX3 | 4 => tyX4 | 5 => tyX6 | 6 => tyX7 | _ => tyX8
theorem cX_at : ∀ c, c < 8 → vwCl[c]? = some (cX c, cT c, cN c) := fun c h => match c, h with
  | 0, _ => rfl | 1, _ => rfl | 2, _ => rfl | 3, _ => rfl | 4, _ => rfl | 5, _ => rfl | 6, _ => rfl | 7, _ => rfl
  | n + 8, h => absurd h (by omega)
theorem cT_nm : ∀ c, c < 8 → ∀ a, a < cN c → ∀ b, b < cN c → a ≠ b → (cT c a).2.1 ≠ (cT c b).2.1 := by decide +kernel
theorem cY_ok : ∀ c, c < 8 → ∀ k, k < cN c → parseFieldDescriptor (cT c k).2.2.1 = some (cY c k) := by decide +kernel
theorem cO_ok : ∀ c, c < 8 → ∀ k, k < cN c → (cT c k).1 = cX c := by decide +kernel
theorem cK_ok : ∀ c, c < 8 → ∀ k, k < cN c → (cK c k = false → cY c k = .int) ∧ (cK c k = true → (∃ t, cY c k = .array t) ∨ ∃ t, cY c k = .object t) := by
  have h : ∀ c, c < 8 → ∀ k, k < cN c → (if cK c k then (match cY c k with | .array _ => true | .object _ => true | _ => false) else decide (cY c k = .int)) = true := by decide +kernel
  intro c hc k hk
  have h1 := h c hc k hk
  refine ⟨fun e => ?_, fun e => ?_⟩
  · rw [e] at h1
    exact of_decide_eq_true h1
  · rw [e, if_pos rfl] at h1
    cases hy : cY c k <;> rw [hy] at h1 <;> first | exact Or.inl ⟨_, rfl⟩ | exact Or.inr ⟨_, rfl⟩ | cases h1
set_option maxRecDepth 100000 in
theorem cW_in : ∀ c, c < 8 → ∀ w ∈ u_ws (cX c) (cT c) (cN c), w ∈ lw_tbl := by decide +kernel
set_option maxRecDepth 100000 in
theorem cI_ok : ∀ c, c < 8 → lw_tbl[cI c]? = some (.instantiable (cX c) (cN c)) ∧ lw_tbl[oP (cO c)]? = some (.initialized (cX c)) := by decide +kernel
/-- the links -/
def fb_fd (l : List (Nat × Nat × Nat × Nat)) (key : Nat) : Option (Nat × Nat) := (l.find? (fun e => e.1 == key)).map (fun e => (e.2.1, e.2.2.1))
def fb_ki (key : Nat) : Option Int32 := (fb_kl.find? (fun e => e.1 == key)).map (fun e => e.2.1)
def fb_kj (key : Nat) : Option Int64 := (fb_jl.find? (fun e => e.1 == key)).map (fun e => e.2.1)
theorem fb_fd_of {l : List (Nat × Nat × Nat × Nat)} {key a b : Nat} (h : fb_fd l key = some (a, b)) : ∃ q, (key, a, b, q) ∈ l := by
  unfold fb_fd at h
  obtain ⟨⟨k, x, y, z⟩, h1, h2⟩ := Option.map_eq_some_iff.mp h
  have h3 := List.find?_some h1
  cases h2
  rw [beq_iff_eq] at h3
  cases h3
  exact ⟨z, List.mem_of_find?_eq_some h1⟩
theorem fb_ki_of {key : Nat} {v : Int32} (h : fb_ki key = some v) : ∃ a q, (key, v, a, q) ∈ fb_kl := by
  unfold fb_ki at h
  obtain ⟨⟨k, x, y, z⟩, h1, h2⟩ := Option.map_eq_some_iff.mp h
  have h3 := List.find?_some h1
  cases h2
  rw [beq_iff_eq] at h3
  cases h3
  exact ⟨y, z, List.mem_of_find?_eq_some h1⟩
theorem fb_kj_of {key : Nat} {v : Int64} (h : fb_kj key = some v) : ∃ a q, (key, v, a, q) ∈ fb_jl := by
  unfold fb_kj at h
  obtain ⟨⟨k, x, y, z⟩, h1, h2⟩ := Option.map_eq_some_iff.mp h
  have h3 := List.find?_some h1
  cases h2
  rw [beq_iff_eq] at h3
  cases h3
  exact ⟨y, z, List.mem_of_find?_eq_some h1⟩
def fb_own (key : Nat) : String := oN (key / 1000)
set_option maxRecDepth 100000 in
theorem fb_fl_ok : ∀ x ∈ fb_fl, x.2.1 < 8 ∧ x.2.2.1 < cN x.2.1 ∧ lw_tbl[x.2.2.2]? = some (.fieldLink (fb_own x.1) (x.1 % 1000) (cX x.2.1) (cT x.2.1 x.2.2.1).2.1 (cT x.2.1 x.2.2.1).2.2.1) := by decide +kernel
set_option maxRecDepth 100000 in
theorem fb_sl_ok : ∀ x ∈ fb_sl, x.2.1 < 6 ∧ lw_tbl[x.2.2.2]? = some (if x.2.2.1 = 0 then .fieldLink (fb_own x.1) (x.1 % 1000) "FiguredBasses" (fb_sn x.2.1) "[I" else .fieldLinkNest (fb_own x.1) (x.1 % 1000) "FiguredBasses" (fb_sn x.2.1) "[I" "FiguredBasses") := by decide +kernel
def fb_cln : MethodName := ⟨"[I", "clone", "()Ljava/lang/Object;"⟩
set_option maxRecDepth 100000 in
theorem fb_il_ok : ∀ x ∈ fb_il, x.2.2.1 < 188 ∧ (x.2.1 < 3 → lw_tbl[x.2.2.2]? = some (.methodLink (fb_own x.1) (x.1 % 1000) (mY x.2.2.1))) ∧ (3 ≤ x.2.1 → x.2.1 < 6 → lw_tbl[x.2.2.2]? = some (.methodLinkNest (fb_own x.1) (x.1 % 1000) (mY x.2.2.1) "FiguredBasses"))
    ∧ (x.2.1 = 6 → lw_tbl[x.2.2.2]? = some (.methodLink (fb_own x.1) (x.1 % 1000) objectInit)) ∧ (x.2.1 = 9 → lw_tbl[x.2.2.2]? = some (.methodLink (fb_own x.1) (x.1 % 1000) fb_cln))
    ∧ (x.2.1 = 0 ∨ x.2.1 = 3 → mS x.2.2.1 = false ∧ (mY x.2.2.1).name ≠ "<init>" ∧ cX (oC (mO x.2.2.1)) = (mY x.2.2.1).cls ∧ oC (mO x.2.2.1) < 8) ∧ (x.2.1 = 1 ∨ x.2.1 = 4 → mS x.2.2.1 = true) ∧ (x.2.1 = 2 ∨ x.2.1 = 5 → mS x.2.2.1 = false ∧ (mY x.2.2.1).name = "<init>" ∧ mR x.2.2.1 = none) := by decide +kernel
set_option maxRecDepth 100000 in
theorem fb_cl_ok : ∀ x ∈ fb_cl, lw_tbl[x.2.2.2]? = some (.classLink (fb_own x.1) (x.1 % 1000) (if x.2.1 < 8 then cX x.2.1 else if x.2.1 = 10 then "[I" else if x.2.1 = 13 then "FiguredBasses$Piece" else if x.2.1 = 14 then "FiguredBasses$Voicings" else "[[I")) := by decide +kernel
set_option maxRecDepth 100000 in
theorem fb_kl_ok : ∀ x ∈ fb_kl, lw_tbl[x.2.2.2]? = some (.constant (fb_own x.1) (x.1 % 1000) x.2.1) := by decide +kernel
set_option maxRecDepth 100000 in
theorem fb_jl_ok : ∀ x ∈ fb_jl, lw_tbl[x.2.2.2]? = some (.constantLong (fb_own x.1) (x.1 % 1000) x.2.1) := by decide +kernel
set_option maxRecDepth 100000 in
theorem fb_sp_ok : ∀ k, k < 6 → lw_tbl[fb_sp k]? = some (.laysStatic "FiguredBasses" (fb_sn k) "[I") := by decide +kernel
/-- comparisons and jumps -/
def fb_ky (j i : Nat) : Nat := if i < 1000 then mO j * 1000 + i else 999999999
set_option maxRecDepth 100000 in
theorem fb_ky_ok : (∀ x ∈ fb_fl, x.1 < 100000) ∧ (∀ x ∈ fb_sl, x.1 < 100000) ∧ (∀ x ∈ fb_il, x.1 < 100000) ∧ (∀ x ∈ fb_cl, x.1 < 100000) ∧ (∀ x ∈ fb_kl, x.1 < 100000) ∧ (∀ x ∈ fb_jl, x.1 < 100000) := by decide +kernel
theorem fb_ky_of {j i : Nat} (h : fb_ky j i < 100000) : fb_own (fb_ky j i) = oN (mO j) ∧ fb_ky j i % 1000 = i := by
  unfold fb_own
  unfold fb_ky at h ⊢
  split at h
  · rename_i hi
    rw [if_pos hi, show (mO j * 1000 + i) / 1000 = mO j by omega, show (mO j * 1000 + i) % 1000 = i by omega]
    exact ⟨rfl, rfl⟩
  · omega

def fb_c (k : Jvm.ClassFile.Cond) (x y : Int32) : Bool := match k with
  | .eq => decide (x = y)
  | .ne => !decide (x = y)
  | .lt => decide (x < y)
  | .ge => decide (y ≤ x)
  | .gt => decide (y < x)
  | .le => decide (x ≤ y)
def fb_to (pc : Nat) (off : Int) : Nat := ((pc : Int) + off).toNat
def fb_in (x : Int32) (n : Nat) : Bool := !decide (x < 0) && decide (x.toNatClampNeg < n)
abbrev fb_O : Type := Option (Nat × List Value × List Value × fb_H)
def fb_j (pc : Nat) (off : Int) (ls st : List Value) (h : fb_H) : fb_O := if 0 ≤ (pc : Int) + off then some (fb_to pc off, ls, st, h) else none
def fb_p1 (ls : List Value) (i : Nat) (v : Value) : Option (List Value) := if i < ls.length ∧ (i = 0 ∨ (ls.getD (i - 1) .null).category = 1) then some (ls.set i v) else none
def fb_b2 (f : Int32 → Int32 → Int32) (pc : Nat) (ls st : List Value) (h : fb_H) : fb_O := match st with
  | .int y :: .int x :: r => some (pc + 1, ls, .int (f x y) :: r, h)
  | _ => none
def fb_l2 (f : Int64 → Int64 → Value) (pc : Nat) (ls st : List Value) (h : fb_H) : fb_O := match st with
  | .long y :: .long x :: r => some (pc + 1, ls, f x y :: r, h)
  | _ => none
def fb_ls (f : Int64 → Int32 → Int64) (pc : Nat) (ls st : List Value) (h : fb_H) : fb_O := match st with
  | .int y :: .long x :: r => some (pc + 1, ls, .long (f x y) :: r, h)
  | _ => none
def fb_sto (i n pc : Nat) (ls st : List Value) (h : fb_H) : fb_O := match st with
  | .int x :: r => (fb_p1 ls i (.int x)).map (fun l => (pc + n, l, r, h))
  | _ => none
def fb_sta (i n pc : Nat) (ls st : List Value) (h : fb_H) : fb_O := match st with
  | .ref x :: r => (fb_p1 ls i (.ref x)).map (fun l => (pc + n, l, r, h))
  | _ => none
def fb_ldi (i n pc : Nat) (ls st : List Value) (h : fb_H) : fb_O := match ls[i]? with
  | some (.int x) => some (pc + n, ls, .int x :: st, h)
  | _ => none
def fb_lda (i n pc : Nat) (ls st : List Value) (h : fb_H) : fb_O := match ls[i]? with
  | some (.ref x) => some (pc + n, ls, .ref x :: st, h)
  | _ => none
def fb_ldl (i n pc : Nat) (ls st : List Value) (h : fb_H) : fb_O := match ls[i]? with
  | some (.long x) => some (pc + n, ls, .long x :: st, h)
  | _ => none
/-- an element of an array of one of two kinds -/
def fb_el (k1 k2 pc : Nat) (ls st : List Value) (h : fb_H) : fb_O := match st with
  | .int x :: .ref a :: r => if ((fb_T h a).1 = k1 ∨ (fb_T h a).1 = k2) ∧ fb_in x (fb_T h a).2 = true then some (pc + 1, ls, .int (fb_I h a x.toNatClampNeg) :: r, h) else none
  | _ => none
def fb_es (k : Nat) (f : Int32 → Int32) (pc : Nat) (ls st : List Value) (h : fb_H) : fb_O := match st with
  | .int v :: .int x :: .ref a :: r => if (fb_T h a).1 = k ∧ fb_in x (fb_T h a).2 = true then some (pc + 1, ls, r, fb_sI h a x.toNatClampNeg (f v)) else none
  | _ => none
def fb_gf (f : Option (Nat × Nat)) (pc : Nat) (ls st : List Value) (h : fb_H) : fb_O := match st, f with
  | .ref a :: r, some (c, k) => if (fb_T h a).1 = c then (if cK c k = true then (match fb_R h a k with
    | some b => some (pc + 3, ls, .ref b :: r, h)
    | none => none) else some (pc + 3, ls, .int (fb_I h a k) :: r, h)) else none
  | _, _ => none
def fb_pf (j : Nat) (f : Option (Nat × Nat)) (pc : Nat) (ls st : List Value) (h : fb_H) : fb_O := match st, f with
  | .int v :: .ref a :: r, some (c, k) => if (fb_T h a).1 = c ∧ cK c k = false ∧ (cT c k).2.2.2 = false then some (pc + 3, ls, r, fb_sI h a k v) else none
  | .ref b :: .ref a :: r, some (c, k) => if (fb_T h a).1 = c ∧ cK c k = true ∧ b < fb_N h ∧ (cT c k).2.2.2 = true ∧ (mY j).name = "<init>" ∧ cX c = oN (mO j) then some (pc + 3, ls, r, fb_sR h a k (some b)) else none
  | _, _ => none
def fb_na (kd n : Nat) (x : Int32) (pc : Nat) (ls r : List Value) (h : fb_H) : fb_O :=
  if ¬ x < 0 ∧ x.toNatClampNeg ≤ 10000 ∧ fb_N h < 900000 then some (pc + n, ls, .ref (fb_N h) :: r, fb_nw h kd x.toNatClampNeg x.toNatClampNeg) else none
def fb_st (j : Nat) (ins : Instr) (len pc : Nat) (ls st : List Value) (h : fb_H) : fb_O :=
  match ins, len with
  | .iconst n, 1 => some (pc + 1, ls, .int (Int32.ofInt n) :: st, h)
  | .bipush n, 2 => some (pc + 2, ls, .int (Int8.ofInt n).toInt32 :: st, h)
  | .sipush n, 3 => some (pc + 3, ls, .int (Int16.ofInt n).toInt32 :: st, h)
  | .lconst n, 1 => some (pc + 1, ls, .long (Int64.ofNat (n : Nat)) :: st, h)
  | .ldc i, 2 => (fb_ki (fb_ky j i)).map (fun v => (pc + 2, ls, .int v :: st, h))
  | .ldc_w i, 3 => (fb_ki (fb_ky j i)).map (fun v => (pc + 3, ls, .int v :: st, h))
  | .ldc2_w i, 3 => (fb_kj (fb_ky j i)).map (fun v => (pc + 3, ls, .long v :: st, h))
  | .iload_n k, 1 => fb_ldi (k : Nat) 1 pc ls st h
  | .iload i, 2 => fb_ldi i 2 pc ls st h
  | .lload_n k, 1 => fb_ldl (k : Nat) 1 pc ls st h
  | .aload_n k, 1 => fb_lda (k : Nat) 1 pc ls st h
  | .aload i, 2 => fb_lda i 2 pc ls st h
  | .istore_n k, 1 => fb_sto (k : Nat) 1 pc ls st h
  | .istore i, 2 => fb_sto i 2 pc ls st h
  | .astore_n k, 1 => fb_sta (k : Nat) 1 pc ls st h
  | .astore i, 2 => fb_sta i 2 pc ls st h
  | .iinc i n, 3 => (match ls[i]? with
    | some (.int x) => (fb_p1 ls i (.int (x + Int32.ofInt n))).map (fun l => (pc + 3, l, st, h))
    | _ => none)
  | .iadd, 1 => fb_b2 (fun x y => x + y) pc ls st h
  | .isub, 1 => fb_b2 (fun x y => x - y) pc ls st h
  | .imul, 1 => fb_b2 (fun x y => x * y) pc ls st h
  | .iand, 1 => fb_b2 (fun x y => x &&& y) pc ls st h
  | .ior, 1 => fb_b2 (fun x y => x ||| y) pc ls st h
  | .ixor, 1 => fb_b2 (fun x y => x ^^^ y) pc ls st h
  | .ishl, 1 => fb_b2 (fun x y => x <<< (y &&& 31)) pc ls st h
  | .ishr, 1 => fb_b2 (fun x y => x >>> (y &&& 31)) pc ls st h
  | .iushr, 1 => fb_b2 (fun x y => (x.toUInt32 >>> (y.toUInt32 &&& Int32.toUInt32 31)).toInt32) pc ls st h
  | .idiv, 1 => (match st with
    | .int y :: .int x :: r => if y = 0 then none else some (pc + 1, ls, .int (x / y) :: r, h)
    | _ => none)
  | .irem, 1 => (match st with
    | .int y :: .int x :: r => if y = 0 then none else some (pc + 1, ls, .int (x - x / y * y) :: r, h)
    | _ => none)
  | .ineg, 1 => (match st with
    | .int x :: r => some (pc + 1, ls, .int (-x) :: r, h)
    | _ => none)
  | .land, 1 => fb_l2 (fun x y => .long (x &&& y)) pc ls st h
  | .lor, 1 => fb_l2 (fun x y => .long (x ||| y)) pc ls st h
  | .lcmp, 1 => fb_l2 (fun x y => .int (lg_cmp x y)) pc ls st h
  | .lshl, 1 => fb_ls (fun x y => x <<< (y.toInt64 &&& 63)) pc ls st h
  | .lshr, 1 => fb_ls (fun x y => x >>> (y.toInt64 &&& 63)) pc ls st h
  | .lushr, 1 => fb_ls (fun x y => (x.toUInt64 >>> (y.toInt64.toUInt64 &&& Int64.toUInt64 63)).toInt64) pc ls st h
  | .i2l, 1 => (match st with
    | .int x :: r => some (pc + 1, ls, .long x.toInt64 :: r, h)
    | _ => none)
  | .l2i, 1 => (match st with
    | .long x :: r => some (pc + 1, ls, .int x.toInt32 :: r, h)
    | _ => none)
  | .i2c, 1 => (match st with
    | .int x :: r => some (pc + 1, ls, .int (x.toUInt32 % 65536).toInt32 :: r, h)
    | _ => none)
  | .dup, 1 => (match st with
    | v :: r => if v.category = 1 then some (pc + 1, ls, v :: v :: r, h) else none
    | _ => none)
  | .dup2, 1 => (match st with
    | v :: w :: r => if v.category = 1 ∧ w.category = 1 then some (pc + 1, ls, v :: w :: v :: w :: r, h) else none
    | _ => none)
  | .goto off, 3 => fb_j pc off ls st h
  | .ifCond k off, 3 => (match st with
    | .int x :: r => if 0 ≤ (pc : Int) + off then (if fb_c k x 0 = true then some (fb_to pc off, ls, r, h) else some (pc + 3, ls, r, h)) else none
    | _ => none)
  | .if_icmp k off, 3 => (match st with
    | .int y :: .int x :: r => if 0 ≤ (pc : Int) + off then (if fb_c k x y = true then some (fb_to pc off, ls, r, h) else some (pc + 3, ls, r, h)) else none
    | _ => none)
  | .tableswitch d lo hi offs, _ => (match st with
    | .int x :: r => if x.toInt < lo ∨ hi < x.toInt then fb_j pc d ls r h else (match offs[(x.toInt - lo).toNat]? with
      | some off => fb_j pc off ls r h
      | none => none)
    | _ => none)
  | .lookupswitch d ps, _ => (match st with
    | .int x :: r => if (ps.toList.zip (ps.toList.drop 1)).all (fun (a, next) => a.1 < next.1) = true then fb_j pc (Op.lookupswitch.offset ps.toList d x.toInt) ls r h else none
    | _ => none)
  | .getfield i, 3 => fb_gf (fb_fd fb_fl (fb_ky j i)) pc ls st h
  | .putfield i, 3 => fb_pf j (fb_fd fb_fl (fb_ky j i)) pc ls st h
  | .getstatic i, 3 => (fb_fd fb_sl (fb_ky j i)).map (fun x => (pc + 3, ls, .ref (1000000 + x.1) :: st, h))
  | .iaload, 1 => fb_el 10 16 pc ls st h
  | .baload, 1 => fb_el 11 11 pc ls st h
  | .caload, 1 => fb_el 12 12 pc ls st h
  | .aaload, 1 => (match st with
    | .int x :: .ref a :: r => if ((fb_T h a).1 = 13 ∨ (fb_T h a).1 = 14 ∨ (fb_T h a).1 = 15) ∧ fb_in x (fb_T h a).2 = true then (fb_R h a x.toNatClampNeg).map (fun b => (pc + 1, ls, .ref b :: r, h)) else none
    | _ => none)
  | .iastore, 1 => fb_es 10 (fun v => v) pc ls st h
  | .bastore, 1 => fb_es 11 (fun v => vp_nar .boolean v) pc ls st h
  | .castore, 1 => fb_es 12 (fun v => vp_nar .char v) pc ls st h
  | .aastore, 1 => (match st with
    | .ref b :: .int x :: .ref a :: r => if ((fb_T h a).1 = 13 ∧ (fb_T h b).1 = 3 ∨ (fb_T h a).1 = 14 ∧ (fb_T h b).1 = 5) ∧ fb_in x (fb_T h a).2 = true then some (pc + 1, ls, r, fb_sR h a x.toNatClampNeg (some b)) else none
    | _ => none)
  | .arraylength, 1 => (match st with
    | .ref a :: r => if 10 ≤ (fb_T h a).1 ∧ (fb_T h a).1 ≤ 16 then some (pc + 1, ls, .int (Int32.ofNat (fb_T h a).2) :: r, h) else none
    | _ => none)
  | .new i, 3 => (match fb_fd fb_cl (fb_ky j i) with
    | some (c, _) => if c < 8 ∧ fb_N h < 900000 then some (pc + 3, ls, .ref (fb_N h) :: st, fb_nw h c 0 (cN c)) else none
    | none => none)
  | .newarray ty, 2 => (match st with
    | .int x :: r => (match ty with
      | .int => fb_na 10 2 x pc ls r h
      | .boolean => fb_na 11 2 x pc ls r h
      | .char => fb_na 12 2 x pc ls r h
      | _ => none)
    | _ => none)
  | .anewarray i, 3 => (match st with
    | .int x :: r => (match fb_fd fb_cl (fb_ky j i) with
      | some (13, _) => fb_na 13 3 x pc ls r h
      | some (14, _) => fb_na 14 3 x pc ls r h
      | _ => none)
    | _ => none)
  | .multianewarray i 2, 4 => (match st with
    | .int k :: .int n :: r => (match fb_fd fb_cl (fb_ky j i) with
      | some (15, _) => if ¬ n < 0 ∧ ¬ k < 0 ∧ n.toNatClampNeg ≤ 1000 ∧ k.toNatClampNeg ≤ 1000 ∧ fb_N h < 900000 then some (pc + 4, ls, .ref (fb_N h) :: r, fb_mn h n.toNatClampNeg k.toNatClampNeg) else none
      | _ => none)
    | _ => none)
  | .checkcast i, 3 => (match st with
    | .ref a :: r => (match fb_fd fb_cl (fb_ky j i) with
      | some (10, _) => if (fb_T h a).1 = 10 then some (pc + 3, ls, .ref a :: r, h) else none
      | _ => none)
    | _ => none)
  | .invokespecial i, 3 => (match st with
    | .ref a :: r => (match fb_fd fb_il (fb_ky j i) with
      | some (6, _) => if 1 ≤ mD j ∧ r.length ≤ 4 then some (pc + 3, ls, r, h) else none
      | _ => none)
    | _ => none)
  | .invokevirtual i, 3 => (match st with
    | .ref a :: r => (match fb_fd fb_il (fb_ky j i) with
      | some (9, _) => if (fb_T h a).1 = 16 ∧ 1000000 ≤ a ∧ a < 1000006 ∧ fb_N h < 900000 ∧ 1 ≤ mD j ∧ r.length ≤ 4 then some (pc + 3, ls, .ref (fb_N h) :: r, fb_cp h a) else none
      | _ => none)
    | _ => none)
  | _, _ => none
def fb_xp : List Value → List Value
  | [] => []
  | v :: r => if v.category = 2 then v :: .null :: fb_xp r else v :: fb_xp r
/-- a method's locals at its entry -/
def fb_en (as : List Value) (n : Nat) : List Value := fb_xp as ++ List.replicate (n - (fb_xp as).length) .null
def fb_as (y : Nat) (st : List Value) : List Value := (st.take (mN y)).reverse
def fb_ck (j y : Nat) (st : List Value) : Bool := decide (mN y ≤ st.length) && decide (mD y < mD j) && decide ((st.drop (mN y)).length ≤ 4) && decide ((fb_xp (fb_as y st)).length ≤ mL y)
/-- a call: the method, its arguments, what stays on the stack -/
def fb_ca (j : Nat) (ins : Instr) (len : Nat) (st : List Value) (h : fb_H) : Option (Nat × List Value × List Value) :=
  match ins, len with
  | .invokevirtual i, 3 => (match fb_fd fb_il (fb_ky j i) with
    | some (k, y) => if k = 0 ∨ k = 3 then (match fb_as y st with
      | .ref b :: As => if fb_ck j y st = true ∧ (fb_T h b).1 = oC (mO y) then some (y, .ref b :: As, st.drop (mN y)) else none
      | _ => none) else none
    | none => none)
  | .invokestatic i, 3 => (match fb_fd fb_il (fb_ky j i) with
    | some (k, y) => if (k = 1 ∨ k = 4) ∧ fb_ck j y st = true then some (y, fb_as y st, st.drop (mN y)) else none
    | none => none)
  | .invokespecial i, 3 => (match fb_fd fb_il (fb_ky j i) with
    | some (k, y) => if k = 2 ∨ k = 5 then (match fb_as y st with
      | .ref b :: As => if fb_ck j y st = true then some (y, .ref b :: As, st.drop (mN y)) else none
      | _ => none) else none
    | none => none)
  | _, _ => none
/-- an end -/
def fb_rt (j : Nat) (ins : Instr) (len : Nat) (st : List Value) : Option (Option Value) :=
  match ins, len with
  | .ireturn, 1 => (match st with
    | [.int v] => (match mR j with
      | some ty => if narrow ty (.int v) = .int v then some (some (.int v)) else none
      | none => none)
    | _ => none)
  | .return_, 1 => (match st with
    | [] => if mR j = none then some none else none
    | _ => none)
  | _, _ => none
def fb_dec (j pc : Nat) : Option (Instr × Nat) := match decode (mB j) pc with
  | .ok x => some x
  | .error _ => none
/-- one turn of the interpreter -/
def fb_bd (ev : Nat → Nat → List Value → List Value → fb_H → Option (Option Value × fb_H)) (j pc : Nat) (ls st : List Value) (h : fb_H) : Option (Option Value × fb_H) :=
  match fb_dec j pc with
    | none => none
    | some (ins, len) => match fb_ca j ins len st h with
      | some (y, as, rest) => (match ev y 0 (fb_en as (mL y)) [] h with
        | some (r, h') => ev j (pc + 3) ls (r.toList ++ rest) h'
        | none => none)
      | none => match fb_rt j ins len st with
        | some r => some (r, h)
        | none => match fb_st j ins len pc ls st h with
          | some (pc', ls', st', h') => ev j pc' ls' st' h'
          | none => none
def fb_ev : Nat → Nat → Nat → List Value → List Value → fb_H → Option (Option Value × fb_H)
  | 0 => fun _ _ _ _ _ => none
  | f + 1 => fb_bd (fb_ev f)
theorem fb_ev_s (f j pc : Nat) (ls st : List Value) (h : fb_H) : fb_ev (f + 1) j pc ls st h = fb_bd (fb_ev f) j pc ls st h := rfl
/-- what one turn of the interpreter is -/
theorem fb_ev_cases {f j pc : Nat} {ls st : List Value} {h : fb_H} {r : Option Value × fb_H} (e : fb_ev (f + 1) j pc ls st h = some r) : ∃ ins len, fb_dec j pc = some (ins, len) ∧
    ((∃ y as rest r1 h1, fb_ca j ins len st h = some (y, as, rest) ∧ fb_ev f y 0 (fb_en as (mL y)) [] h = some (r1, h1) ∧ fb_ev f j (pc + 3) ls (r1.toList ++ rest) h1 = some r) ∨
     (fb_ca j ins len st h = none ∧ ∃ r1, fb_rt j ins len st = some r1 ∧ r = (r1, h)) ∨
     (fb_ca j ins len st h = none ∧ fb_rt j ins len st = none ∧ ∃ pc' ls' st' h', fb_st j ins len pc ls st h = some (pc', ls', st', h') ∧ fb_ev f j pc' ls' st' h' = some r)) := by
  rw [fb_ev_s] at e
  unfold fb_bd at e
  cases hd : fb_dec j pc with
  | none => rw [hd] at e; cases e
  | some x =>
    obtain ⟨ins, len⟩ := x
    rw [hd] at e
    refine ⟨ins, len, rfl, ?_⟩
    dsimp only at e
    cases hc : fb_ca j ins len st h with
    | some z =>
      obtain ⟨y, as, rest⟩ := z
      rw [hc] at e
      dsimp only at e
      cases he : fb_ev f y 0 (fb_en as (mL y)) [] h with
      | none => rw [he] at e; cases e
      | some z =>
        obtain ⟨r1, h1⟩ := z
        rw [he] at e
        exact Or.inl ⟨y, as, rest, r1, h1, rfl, he, e⟩
    | none =>
      rw [hc] at e
      dsimp only at e
      cases hr : fb_rt j ins len st with
      | some r1 =>
        rw [hr] at e
        cases e
        exact Or.inr (Or.inl ⟨rfl, r1, rfl, rfl⟩)
      | none =>
        rw [hr] at e
        dsimp only at e
        cases hs : fb_st j ins len pc ls st h with
        | none => rw [hs] at e; cases e
        | some z =>
          obtain ⟨pc', ls', st', h'⟩ := z
          rw [hs] at e
          exact Or.inr (Or.inr ⟨rfl, rfl, pc', ls', st', h', rfl, e⟩)
theorem fb_ev_call {f j pc : Nat} {ls st : List Value} {h : fb_H} {r : Option Value × fb_H} {ins : Instr} {len : Nat} {y : Nat} {as rest : List Value} {r1 : Option Value} {h1 : fb_H} (hd : fb_dec j pc = some (ins, len)) (hc : fb_ca j ins len st h = some (y, as, rest)) (he : fb_ev f y 0 (fb_en as (mL y)) [] h = some (r1, h1)) (e : fb_ev f j (pc + 3) ls (r1.toList ++ rest) h1 = some r) : fb_ev (f + 1) j pc ls st h = some r := by
  rw [fb_ev_s]
  unfold fb_bd
  rw [hd]
  dsimp only
  rw [hc]
  dsimp only
  rw [he]
  exact e
theorem fb_ev_end {f j pc : Nat} {ls st : List Value} {h : fb_H} {ins : Instr} {len : Nat} {r1 : Option Value} (hd : fb_dec j pc = some (ins, len)) (hc : fb_ca j ins len st h = none) (hr : fb_rt j ins len st = some r1) : fb_ev (f + 1) j pc ls st h = some (r1, h) := by
  rw [fb_ev_s]
  unfold fb_bd
  rw [hd]
  dsimp only
  rw [hc]
  dsimp only
  rw [hr]
theorem fb_ev_step {f j pc : Nat} {ls st : List Value} {h : fb_H} {r : Option Value × fb_H} {ins : Instr} {len pc' : Nat} {ls' st' : List Value} {h' : fb_H} (hd : fb_dec j pc = some (ins, len)) (hc : fb_ca j ins len st h = none) (hr : fb_rt j ins len st = none) (hs : fb_st j ins len pc ls st h = some (pc', ls', st', h')) (e : fb_ev f j pc' ls' st' h' = some r) : fb_ev (f + 1) j pc ls st h = some r := by
  rw [fb_ev_s]
  unfold fb_bd
  rw [hd]
  dsimp only
  rw [hc]
  dsimp only
  rw [hr]
  dsimp only
  rw [hs]
  exact e
theorem fb_mono : ∀ (f j pc : Nat) (ls st : List Value) (h : fb_H) (r : Option Value × fb_H), fb_ev f j pc ls st h = some r → fb_ev (f + 1) j pc ls st h = some r := by
  intro f
  induction f with
  | zero => intro j pc ls st h r e; simp [fb_ev] at e
  | succ f ih =>
    intro j pc ls st h r e
    obtain ⟨ins, len, hd, ⟨y, as, rest, r1, h1, hc, he, e2⟩ | ⟨hc, r1, hr, rfl⟩ | ⟨hc, hr, pc', ls', st', h', hs, e2⟩⟩ := fb_ev_cases e
    · exact fb_ev_call hd hc (ih _ _ _ _ _ _ he) (ih _ _ _ _ _ _ e2)
    · exact fb_ev_end hd hc hr
    · exact fb_ev_step hd hc hr hs (ih _ _ _ _ _ _ e2)
theorem fb_mono_le {f g j pc : Nat} {ls st : List Value} {h : fb_H} {r : Option Value × fb_H} (hfg : f ≤ g) (e : fb_ev f j pc ls st h = some r) : fb_ev g j pc ls st h = some r := by
  obtain ⟨k, rfl⟩ := Nat.exists_eq_add_of_le hfg
  clear hfg
  induction k with
  | zero => exact e
  | succ k ih => exact fb_mono _ _ _ _ _ _ _ ih
end
section
/-! THE ABSTRACT MACHINE AND THE MACHINE: the cells that a heap stands for, and a row an instruction -/
def fb_W : List Cond := lw_tbl.filter goodWord
theorem fb_inW {w : Cond} {i : Nat} (h : lw_tbl[i]? = some w) (hg : goodWord w = true) : w ∈ fb_W := List.mem_filter.mpr ⟨List.mem_of_getElem? h, hg⟩
def fb_wd (j : Nat) : List Cond := .code (mY j) (mB j) (mL j) (mR j) :: fb_W
theorem fb_good (j : Nat) (hj : j < 188) : GoodIn fb_W (fb_wd j) := by
  intro w hw
  rcases List.mem_cons.mp hw with rfl | hw
  · exact ⟨fb_inW (mP0_ok j hj) rfl, good_of_word rfl⟩
  · exact ⟨hw, good_of_word (List.mem_filter.mp hw).2⟩
theorem fb_uin : ∀ c, c < 8 → ∀ w ∈ u_ws (cX c) (cT c) (cN c), w ∈ fb_W := by
  intro c hc w hw
  refine List.mem_filter.mpr ⟨cW_in c hc w hw, ?_⟩
  obtain ⟨k, -, rfl⟩ := List.mem_map.mp hw
  unfold u_lay
  split <;> rfl
def fb_isN : Cond → Bool
  | .methodLinkNest .. => true
  | .fieldLinkNest .. => true
  | _ => false
def fb_ty (aC : Nat → ClassId) : List (ClassId × FieldType) := [(aC 10, .int), (aC 11, .boolean), (aC 12, .char), (aC 13, .object "FiguredBasses$Piece"), (aC 14, .object "FiguredBasses$Voicings"), (aC 15, .array .int)]
/-- a static array, or the script -/
def fb_ro (sa rl : Nat → Nat) (rf : Nat → Nat → Int32) (k : Nat) (U : State) (H : Heap) : Prop := ∃ cell : Cell, H[sa k]? = some cell ∧ U.isArrayOf cell .int ∧ cell.vm ≠ .unknown ∧ cell.slots.size = rl k ∧ (∀ q : Nat, q < rl k → cell.slots[q]? = some (.int (rf k q))) ∧ (k < 6 → U.vm.findClass "[I" = some cell.cls)
def fb_E (D : va_G) (aC : Nat → ClassId) (B : Nat) (sa rl : Nat → Nat) (rf : Nat → Nat → Int32) (U : State) (H : Heap) : Prop :=
  va_K D vwCl (fb_ty aC) U ∧ (∀ w ∈ lw_tbl, fb_isN w = true → va_Nw w U) ∧ va_Nw (.castable "[I" "java/lang/Cloneable") U ∧ va_AO "FiguredBasses$Piece" U ∧ va_AO "FiguredBasses$Voicings" U ∧ (Cond.arrayOver (.array .int)).before #[] U = true ∧
  (∀ k, k < 6 → va_Z "FiguredBasses" (fb_sn k) "[I" (.ref (sa k)) (fun q => B ≤ q) U H) ∧ (∀ k, k < 7 → sa k < B ∧ fb_ro sa rl rf k U H)
theorem fb_over {u U : State} (hvm : u.vm.Alike U.vm) (h : (Cond.arrayOver (.array .int)).before #[] u = true) : (Cond.arrayOver (.array .int)).before #[] U = true := by
  obtain ⟨comp, c, k, h1, h2, h3, h4, h5⟩ : ∃ comp c k, u.vm.findClass (FieldType.array .int).toString = some comp ∧ (u.vm.classes.findIdx? fun (x : Class) => match x.kind with | .array component _ => component == comp | _ => false) = some c ∧ u.vm.classes[c]? = some k ∧ k.kind = .array comp (.array .int) ∧ u.vm.findClass ("[" ++ (FieldType.array .int).toString) = some c := by
    unfold Cond.before Cond.holds at h
    simp only [Cond.value, beq_iff_eq] at h
    cases hc : u.vm.findClass (FieldType.array .int).toString with
    | none => simp [hc] at h
    | some comp =>
      simp only [hc, Option.bind_some, Option.bind_eq_some_iff, Option.map_eq_some_iff] at h
      obtain ⟨c, hi, k, hk, hb⟩ := h
      obtain ⟨hlt, hp, -⟩ := Array.findIdx?_eq_some_iff_getElem.mp hi
      have hkk : u.vm.classes[c] = k := (Array.getElem?_eq_some_iff.mp hk).2
      rw [hkk] at hp
      cases hkind : k.kind with
      | array component ty =>
        rw [hkind] at hb hp
        simp at hb hp
        exact ⟨comp, c, k, rfl, hi, hk, by rw [hkind, hp, hb.1], hb.2⟩
      | _ => rw [hkind] at hb; simp at hb
  obtain ⟨k', hk', he⟩ := hvm.2.2 _ _ h3
  have hi : (U.vm.classes.findIdx? fun (x : Class) => match x.kind with | .array component _ => component == comp | _ => false) = some c := by
    have hb : U.vm.bare = u.vm.bare := by first | exact hvm.bare_eq | exact hvm.bare_eq.symm
    exact (va_idx_bare U.vm comp).symm.trans ((congrArg (fun v : Vm => v.classes.findIdx? fun (x : Class) => match x.kind with | .array component _ => component == comp | _ => false) hb).trans ((va_idx_bare u.vm comp).trans h2))
  have hkind : k'.kind = .array comp (.array .int) := by rw [he]; exact h4
  have f1 : U.vm.findClass (FieldType.array .int).toString = some comp := by rw [hvm.findClass]; exact h1
  have f2 : U.vm.findClass ("[" ++ (FieldType.array .int).toString) = some c := by rw [hvm.findClass]; exact h5
  unfold Cond.before Cond.holds
  simp only [Cond.value, beq_iff_eq]
  rw [f1, Option.bind_some]
  refine (congrArg (fun o : Option Nat => (o.bind (fun c => (U.vm.classes[c]?).map fun (k : Class) => match k.kind with | .array _ ty => decide (ty = FieldType.array .int) && decide (U.vm.findClass ("[" ++ (FieldType.array .int).toString) = some c) | _ => false))) hi).trans ?_
  simp [hk', hkind, f2]
theorem fb_E.moved {D : va_G} {aC : Nat → ClassId} {B : Nat} {sa rl : Nat → Nat} {rf : Nat → Nat → Int32} {u U : State} {H H1 : Heap} (hW : u.WarmedH U.vm) (h : fb_E D aC B sa rl rf u H) (hq : ∀ a : Nat, a < B → H1[a]? = H[a]?) : fb_E D aC B sa rl rf U H1 := by
  obtain ⟨h1, h2, h3, h4, h5, h6, h7, h8⟩ := h
  refine ⟨va_K.moved hW.alike h1, fun w hw hn => ?_, ?_, va_AO.moved hW.alike h4, va_AO.moved hW.alike h5, fb_over hW.alike h6, fun k hk => ?_, fun k hk => ?_⟩
  · have hz := h2 w hw hn
    cases w <;> first | (simp [fb_isN] at hn; done) | exact va_Nw.warmM hW hz | exact va_Nw.warmF hW hz
  · exact va_Nw.warmC hW h3
  · exact ((h7 k hk).kept (H1 := H1) (fun a _ ha => hq a (Nat.not_le.mp ha))).moved hW.alike
  · obtain ⟨g1, cell, g2, g3, g4, g5, g6, g7⟩ := h8 k hk
    exact ⟨g1, cell, by rw [hq _ g1]; exact g2, State.isArrayOf_alike hW.alike g3, g4, g5, g6, fun h => by rw [hW.alike.findClass]; exact g7 h⟩
def fb_ad (B : Nat) (sa : Nat → Nat) (i : Nat) : Nat := if i < 1000000 then B + i else sa (i - 1000000)
def fb_cv (B : Nat) (sa : Nat → Nat) : Value → Value
  | .ref i => .ref (fb_ad B sa i)
  | v => v
theorem fb_cat (B : Nat) (sa : Nat → Nat) (v : Value) : (fb_cv B sa v).category = v.category := by cases v <;> rfl
theorem fb_ad_lo {B : Nat} {sa : Nat → Nat} {i : Nat} (h : i < 1000000) : fb_ad B sa i = B + i := if_pos h
theorem fb_ad_hi {B : Nat} {sa : Nat → Nat} {k : Nat} : fb_ad B sa (1000000 + k) = sa k := by
  unfold fb_ad
  rw [if_neg (by omega), show 1000000 + k - 1000000 = k by omega]
def fb_cell (aC : Nat → ClassId) (B : Nat) (h : fb_H) (i : Nat) : va_E :=
  if (fb_T h i).1 < 10 then .inr ((fb_T h i).1, (List.range (cN (fb_T h i).1)).map (fun k => if cK (fb_T h i).1 k = true then va_rf ((fb_R h i k).map (fun a => B + a)) else .int (fb_I h i k)))
  else if (fb_T h i).1 < 13 then .inl (aC (fb_T h i).1, (fb_T h i).2, .inl (fb_I h i))
  else .inl (aC (fb_T h i).1, (fb_T h i).2, .inr (.inr (.inr (.inr (fun k => (fb_R h i k).map (fun a => B + a))))))
def fb_ws (aC : Nat → ClassId) (B : Nat) (h : fb_H) : va_W := (List.range (fb_N h)).map (fun i => (B + i, fb_cell aC B h i))
theorem fb_ws_len (aC : Nat → ClassId) (B : Nat) (h : fb_H) : (fb_ws aC B h).length = fb_N h := by simp [fb_ws]
theorem fb_ws_at {aC : Nat → ClassId} {B : Nat} {h : fb_H} {i : Nat} (hi : i < fb_N h) : (fb_ws aC B h)[i]? = some (B + i, fb_cell aC B h i) := by
  simp [fb_ws, List.getElem?_map, List.getElem?_range hi]
theorem fb_ws_some {aC : Nat → ClassId} {B : Nat} {h : fb_H} {k : Nat} {q : Nat × va_E} (e : (fb_ws aC B h)[k]? = some q) : k < fb_N h ∧ q = (B + k, fb_cell aC B h k) := by
  have hl := (List.getElem?_eq_some_iff.mp e).1
  rw [fb_ws_len] at hl
  rw [fb_ws_at hl] at e
  cases e
  exact ⟨hl, rfl⟩
theorem fb_ws_D (aC : Nat → ClassId) (B : Nat) (h : fb_H) : va_D (fun q => B ≤ q) (fb_ws aC B h) := by
  refine ⟨fun i j p q hp hq e => ?_, fun k q hq => ?_⟩
  · obtain ⟨-, rfl⟩ := fb_ws_some hp
    obtain ⟨-, rfl⟩ := fb_ws_some hq
    have e : B + i = B + j := e
    omega
  · obtain ⟨-, rfl⟩ := fb_ws_some hq
    exact Nat.le_add_right B k
theorem fb_ws_set {aC : Nat → ClassId} {B : Nat} {h h' : fb_H} {a : Nat} {e : va_E} (hN : fb_N h' = fb_N h) (hc : fb_cell aC B h' a = e) (ho : ∀ i, i ≠ a → fb_cell aC B h' i = fb_cell aC B h i) : (fb_ws aC B h).set a (B + a, e) = fb_ws aC B h' := by
  apply List.ext_getElem?
  intro k
  by_cases hk : k < fb_N h
  · rw [fb_ws_at (h := h') (by rw [hN]; exact hk), List.getElem?_set]
    by_cases ha : a = k
    · subst ha
      rw [if_pos rfl, if_pos (by rw [fb_ws_len]; exact hk), hc]
    · rw [if_neg ha, fb_ws_at hk, ho k (Ne.symm ha)]
  · rw [List.getElem?_eq_none (by rw [List.length_set, fb_ws_len]; omega), List.getElem?_eq_none (by rw [fb_ws_len]; omega)]
/-- what a heap must be -/
def fb_G (rl : Nat → Nat) (rf : Nat → Nat → Int32) (h : fb_H) : Prop := fb_N h < 1000000 ∧ (∀ i k a, fb_R h i k = some a → a < fb_N h) ∧ (∀ i, (fb_T h i).1 < 16 → i < fb_N h) ∧ (∀ i, (fb_T h i).1 = 16 → ∃ k, k < 7 ∧ i = 1000000 + k ∧ (fb_T h i).2 = rl k ∧ ∀ q, fb_I h i q = rf k q) ∧ (∀ i, i < fb_N h → (fb_T h i).1 < 8 ∨ (10 ≤ (fb_T h i).1 ∧ (fb_T h i).1 < 16))
def fb_L (B : Nat) (sa : Nat → Nat) (n : Nat) (ls : List Value) (lsr : Array Slot) : Prop := ls.length = n ∧ ∃ l, lv_has lsr n l ∧ ∀ (i : Nat) (v : Value), ls[i]? = some v → v ≠ .null → (i, fb_cv B sa v) ∈ l
theorem fb_L.at {B : Nat} {sa : Nat → Nat} {n : Nat} {ls : List Value} {lsr : Array Slot} (h : fb_L B sa n ls lsr) {i : Nat} {v : Value} (hi : ls[i]? = some v) (hv : v ≠ .null) : lsr[i]? = some (.val (fb_cv B sa v)) := by
  obtain ⟨-, l, hl, hm⟩ := h
  exact hl.2.2 _ (hm i v hi hv)
theorem fb_put {B : Nat} {sa : Nat → Nat} {ls ls' : List Value} {i n : Nat} {v : Value} {l : List (Nat × Value)} (e : fb_p1 ls i v = some ls') (hl : ls.length = n) (hm : ∀ (i : Nat) (v : Value), ls[i]? = some v → v ≠ .null → (i, fb_cv B sa v) ∈ l) : i < n ∧ ∀ lsr' : Array Slot, lv_has lsr' n ((i, fb_cv B sa v) :: l.filter (fun q => !(q.1 == i) && !(q.1 + 1 == i && q.2.category == 2))) → fb_L B sa n ls' lsr' := by
  unfold fb_p1 at e
  split at e
  · rename_i hc
    cases e
    refine ⟨by rw [← hl]; exact hc.1, fun lsr' h' => ⟨by rw [List.length_set]; exact hl, _, h', fun q w hq hw => ?_⟩⟩
    by_cases hqi : q = i
    · subst hqi
      rw [List.getElem?_set_self hc.1] at hq
      cases hq
      exact List.mem_cons_self
    · rw [List.getElem?_set_ne (Ne.symm hqi)] at hq
      refine List.mem_cons_of_mem _ (List.mem_filter.mpr ⟨hm q w hq hw, ?_⟩)
      have h2 : ¬ (q + 1 = i ∧ (fb_cv B sa w).category = 2) := by
        rintro ⟨h3, h4⟩
        rw [fb_cat] at h4
        rcases hc.2 with h5 | h5
        · omega
        · rw [show i - 1 = q by omega, List.getD_eq_getElem?_getD, hq] at h5
          have h5 : w.category = 1 := h5
          omega
      simp only [Bool.and_eq_true, Bool.not_eq_true', beq_eq_false_iff_ne, ne_eq, Bool.and_eq_false_imp, beq_iff_eq]
      exact ⟨hqi, fun h3 h4 => h2 ⟨h3, h4⟩⟩
  · cases e
theorem fb_xp_len (B : Nat) (sa : Nat → Nat) (as : List Value) : (lg_sl (as.map (fb_cv B sa))).length = (fb_xp as).length := by
  induction as with
  | nil => rfl
  | cons v r ih =>
    simp only [lg_sl, List.map_cons, List.flatMap_cons, List.length_append, fb_cat] at ih ⊢
    unfold fb_xp
    split <;> simp_all <;> omega
theorem fb_xp_at (B : Nat) (sa : Nat → Nat) : ∀ (as : List Value) (k i : Nat) (v : Value), (fb_xp as)[i]? = some v → v ≠ .null → (k + i, fb_cv B sa v) ∈ lv_args k (as.map (fb_cv B sa))
  | [], k, i, v, h, _ => by simp [fb_xp] at h
  | w :: r, k, i, v, h, hv => by
    unfold fb_xp at h
    simp only [List.map_cons, lv_args, fb_cat]
    split at h
    · rename_i hc
      rw [if_pos hc]
      match i, h with
      | 0, h => cases h; exact List.mem_cons_self
      | 1, h => cases h; exact absurd rfl hv
      | i + 2, h =>
        have := fb_xp_at B sa r (k + 2) i v h hv
        rw [show k + (i + 2) = k + 2 + i by omega]
        exact List.mem_cons_of_mem _ this
    · rename_i hc
      rw [if_neg hc]
      match i, h with
      | 0, h => cases h; exact List.mem_cons_self
      | i + 1, h =>
        have := fb_xp_at B sa r (k + 1) i v h hv
        rw [show k + (i + 1) = k + 1 + i by omega]
        exact List.mem_cons_of_mem _ this
theorem fb_L.entry (B : Nat) (sa : Nat → Nat) {as : List Value} {n : Nat} (h : (fb_xp as).length ≤ n) : fb_L B sa n (fb_en as n) ((lg_sl (as.map (fb_cv B sa)) ++ List.replicate (n - (lg_sl (as.map (fb_cv B sa))).length) Slot.unset).toArray) := by
  refine ⟨by simp [fb_en]; omega, _, lv_entry (as.map (fb_cv B sa)) (by rw [fb_xp_len]; exact h), fun i v hi hv => ?_⟩
  unfold fb_en at hi
  by_cases hl : i < (fb_xp as).length
  · rw [List.getElem?_append_left hl] at hi
    have := fb_xp_at B sa as 0 i v hi hv
    rwa [Nat.zero_add] at this
  · rw [List.getElem?_append_right (by omega)] at hi
    have := List.mem_of_getElem? hi
    exact absurd (List.eq_of_mem_replicate this) hv
end
section
/-! an instruction of the abstract machine is one of the machine -/
def fb_X (p : Program) (R : Room) (s : State) (m : MethodId) (args : Array Value) (meth : Method) (c : Code) (D : va_G) (aC : Nat → ClassId) (B : Nat) (sa rl : Nat → Nat) (rf : Nat → Nat → Int32) (n0 j : Nat) : Prop :=
  p.tables.exec = Jvm.exec ∧ c.code = mB j ∧ c.maxLocals = mL j ∧ s.vm.findClass (oN (mO j)) = some m.cls ∧ (∀ w ∈ fb_W, w.before args s = true) ∧ fb_E D aC B sa rl rf s s.heap ∧ s.heap.size = B + n0 ∧ ((mY j).name = "<init>" → meth.name = "<init>") ∧ mD j ≤ R.frames ∧ 40 * mD j ≤ R.locals
def fb_Nx (p : Program) (l : Launch) (e : Env) (R : Room) (s : State) (m : MethodId) (args : Array Value) (below : List Frame) (meth : Method) (c : Code) (Q : State → Prop) (D : va_G) (aC : Nat → ClassId) (B : Nat) (sa : Nat → Nat) (n0 z0 j : Nat) (h : fb_H) (pc : Nat) (ls st : List Value) : Prop :=
  ∀ (H : Heap) (locs : List Loc) (lsr : Array Slot), va_P D vwCl (fb_ws aC B h) H → va_S (fun q => B ≤ q) s.heap H locs → fb_L B sa (mL j) ls lsr → W p l e R s m args below meth c H locs (fb_N h - n0) (fb_Z h - z0) Q (F0 m pc lsr (st.map (fb_cv B sa)))
/-! what a helper's answer tells -/
theorem fb_b2_of {f : Int32 → Int32 → Int32} {pc : Nat} {ls st : List Value} {h : fb_H} {z : Nat × List Value × List Value × fb_H} (e : fb_b2 f pc ls st h = some z) : ∃ x y r, st = .int y :: .int x :: r ∧ z = (pc + 1, ls, .int (f x y) :: r, h) := by
  unfold fb_b2 at e
  split at e
  · cases e; exact ⟨_, _, _, rfl, rfl⟩
  · cases e
theorem fb_l2_of {f : Int64 → Int64 → Value} {pc : Nat} {ls st : List Value} {h : fb_H} {z : Nat × List Value × List Value × fb_H} (e : fb_l2 f pc ls st h = some z) : ∃ x y r, st = .long y :: .long x :: r ∧ z = (pc + 1, ls, f x y :: r, h) := by
  unfold fb_l2 at e
  split at e
  · cases e; exact ⟨_, _, _, rfl, rfl⟩
  · cases e
theorem fb_ls_of {f : Int64 → Int32 → Int64} {pc : Nat} {ls st : List Value} {h : fb_H} {z : Nat × List Value × List Value × fb_H} (e : fb_ls f pc ls st h = some z) : ∃ x y r, st = .int y :: .long x :: r ∧ z = (pc + 1, ls, .long (f x y) :: r, h) := by
  unfold fb_ls at e
  split at e
  · cases e; exact ⟨_, _, _, rfl, rfl⟩
  · cases e
theorem fb_sto_of {i n pc : Nat} {ls st : List Value} {h : fb_H} {z : Nat × List Value × List Value × fb_H} (e : fb_sto i n pc ls st h = some z) : ∃ x r l, st = .int x :: r ∧ fb_p1 ls i (.int x) = some l ∧ z = (pc + n, l, r, h) := by
  unfold fb_sto at e
  split at e
  · obtain ⟨l, h1, h2⟩ := Option.map_eq_some_iff.mp e
    exact ⟨_, _, l, rfl, h1, h2.symm⟩
  · cases e
theorem fb_sta_of {i n pc : Nat} {ls st : List Value} {h : fb_H} {z : Nat × List Value × List Value × fb_H} (e : fb_sta i n pc ls st h = some z) : ∃ (x : Nat) (r : List Value) (l : List Value), st = .ref x :: r ∧ fb_p1 ls i (.ref x) = some l ∧ z = (pc + n, l, r, h) := by
  unfold fb_sta at e
  split at e
  · obtain ⟨l, h1, h2⟩ := Option.map_eq_some_iff.mp e
    exact ⟨_, _, l, rfl, h1, h2.symm⟩
  · cases e
theorem fb_ldi_of {i n pc : Nat} {ls st : List Value} {h : fb_H} {z : Nat × List Value × List Value × fb_H} (e : fb_ldi i n pc ls st h = some z) : ∃ x, ls[i]? = some (.int x) ∧ z = (pc + n, ls, .int x :: st, h) := by
  unfold fb_ldi at e
  split at e
  · rename_i x hx; cases e; exact ⟨_, hx, rfl⟩
  · cases e
theorem fb_lda_of {i n pc : Nat} {ls st : List Value} {h : fb_H} {z : Nat × List Value × List Value × fb_H} (e : fb_lda i n pc ls st h = some z) : ∃ (x : Nat), ls[i]? = some (.ref x) ∧ z = (pc + n, ls, .ref x :: st, h) := by
  unfold fb_lda at e
  split at e
  · rename_i x hx; cases e; exact ⟨_, hx, rfl⟩
  · cases e
theorem fb_ldl_of {i n pc : Nat} {ls st : List Value} {h : fb_H} {z : Nat × List Value × List Value × fb_H} (e : fb_ldl i n pc ls st h = some z) : ∃ x, ls[i]? = some (.long x) ∧ z = (pc + n, ls, .long x :: st, h) := by
  unfold fb_ldl at e
  split at e
  · rename_i x hx; cases e; exact ⟨_, hx, rfl⟩
  · cases e
theorem fb_j_of {pc : Nat} {off : Int} {ls st : List Value} {h : fb_H} {z : Nat × List Value × List Value × fb_H} (e : fb_j pc off ls st h = some z) : (pc : Int) + off = (fb_to pc off : Int) ∧ z = (fb_to pc off, ls, st, h) := by
  unfold fb_j at e
  split at e
  · rename_i hc; cases e; exact ⟨(Int.toNat_of_nonneg hc).symm, rfl⟩
  · cases e
theorem fb_in_of {x : Int32} {n : Nat} (h : fb_in x n = true) : vp_in x n := by
  unfold fb_in at h
  simp only [Bool.and_eq_true, Bool.not_eq_true', decide_eq_false_iff_not, decide_eq_true_eq] at h
  rintro (h1 | h1)
  · exact h.1 h1
  · omega
theorem fb_el_of {k1 k2 pc : Nat} {ls st : List Value} {h : fb_H} {z : Nat × List Value × List Value × fb_H} (e : fb_el k1 k2 pc ls st h = some z) : ∃ (x : Int32) (a : Nat) (r : List Value), st = .int x :: .ref a :: r ∧ ((fb_T h a).1 = k1 ∨ (fb_T h a).1 = k2) ∧ vp_in x (fb_T h a).2 ∧ z = (pc + 1, ls, .int (fb_I h a x.toNatClampNeg) :: r, h) := by
  unfold fb_el at e
  split at e
  · split at e
    · rename_i hc; cases e; exact ⟨_, _, _, rfl, hc.1, fb_in_of hc.2, rfl⟩
    · cases e
  · cases e
theorem fb_es_of {k pc : Nat} {f : Int32 → Int32} {ls st : List Value} {h : fb_H} {z : Nat × List Value × List Value × fb_H} (e : fb_es k f pc ls st h = some z) : ∃ (v x : Int32) (a : Nat) (r : List Value), st = .int v :: .int x :: .ref a :: r ∧ (fb_T h a).1 = k ∧ vp_in x (fb_T h a).2 ∧ z = (pc + 1, ls, r, fb_sI h a x.toNatClampNeg (f v)) := by
  unfold fb_es at e
  split at e
  · split at e
    · rename_i hc; cases e; exact ⟨_, _, _, _, rfl, hc.1, fb_in_of hc.2, rfl⟩
    · cases e
  · cases e
theorem fb_gf_of {f : Option (Nat × Nat)} {pc : Nat} {ls st : List Value} {h : fb_H} {z : Nat × List Value × List Value × fb_H} (e : fb_gf f pc ls st h = some z) : ∃ (a : Nat) (r : List Value) (c k : Nat), st = .ref a :: r ∧ f = some (c, k) ∧ (fb_T h a).1 = c ∧ ((cK c k = true ∧ ∃ (b : Nat), fb_R h a k = some b ∧ z = (pc + 3, ls, .ref b :: r, h)) ∨ (cK c k = false ∧ z = (pc + 3, ls, .int (fb_I h a k) :: r, h))) := by
  unfold fb_gf at e
  split at e
  · split at e
    · rename_i hc
      split at e
      · rename_i hk
        split at e
        · rename_i b hb; cases e; exact ⟨_, _, _, _, rfl, rfl, hc, Or.inl ⟨hk, _, hb, rfl⟩⟩
        · cases e
      · rename_i hk; cases e; exact ⟨_, _, _, _, rfl, rfl, hc, Or.inr ⟨by simpa using hk, rfl⟩⟩
    · cases e
  · cases e
theorem fb_pf_of {f : Option (Nat × Nat)} {j pc : Nat} {ls st : List Value} {h : fb_H} {z : Nat × List Value × List Value × fb_H} (e : fb_pf j f pc ls st h = some z) : ∃ (a : Nat) (r : List Value) (c k : Nat), f = some (c, k) ∧ (fb_T h a).1 = c ∧ ((∃ v, st = .int v :: .ref a :: r ∧ cK c k = false ∧ (cT c k).2.2.2 = false ∧ z = (pc + 3, ls, r, fb_sI h a k v)) ∨ (∃ (b : Nat), st = .ref b :: .ref a :: r ∧ cK c k = true ∧ b < fb_N h ∧ (cT c k).2.2.2 = true ∧ (mY j).name = "<init>" ∧ cX c = oN (mO j) ∧ z = (pc + 3, ls, r, fb_sR h a k (some b)))) := by
  unfold fb_pf at e
  split at e
  · split at e
    · rename_i hc; cases e; exact ⟨_, _, _, _, rfl, hc.1, Or.inl ⟨_, rfl, hc.2.1, hc.2.2, rfl⟩⟩
    · cases e
  · split at e
    · rename_i hc; cases e; exact ⟨_, _, _, _, rfl, hc.1, Or.inr ⟨_, rfl, hc.2.1, hc.2.2.1, hc.2.2.2.1, hc.2.2.2.2.1, hc.2.2.2.2.2, rfl⟩⟩
    · cases e
  · cases e
theorem fb_na_of {kd n : Nat} {x : Int32} {pc : Nat} {ls r : List Value} {h : fb_H} {z : Nat × List Value × List Value × fb_H} (e : fb_na kd n x pc ls r h = some z) : ¬ x < 0 ∧ x.toNatClampNeg ≤ 10000 ∧ fb_N h < 900000 ∧ z = (pc + n, ls, .ref (fb_N h) :: r, fb_nw h kd x.toNatClampNeg x.toNatClampNeg) := by
  unfold fb_na at e
  split at e
  · rename_i hc; cases e; exact ⟨hc.1, hc.2.1, hc.2.2, rfl⟩
  · cases e
/-! cells, one by one -/
section FBC
variable {D : va_G} {aC : Nat → ClassId} {B : Nat} {sa rl : Nat → Nat} {rf : Nat → Nat → Int32} {h : fb_H} {H : Heap} {a : Nat}
theorem fb_cell_o {c : Nat} (hk : (fb_T h a).1 = c) (hc : c < 10) : fb_cell aC B h a = .inr (c, (List.range (cN c)).map (fun k => if cK c k = true then va_rf ((fb_R h a k).map (fun a => B + a)) else .int (fb_I h a k))) := by
  unfold fb_cell
  rw [hk, if_pos hc]
theorem fb_cell_i {c : Nat} (hk : (fb_T h a).1 = c) (h1 : 10 ≤ c) (h2 : c < 13) : fb_cell aC B h a = .inl (aC c, (fb_T h a).2, .inl (fb_I h a)) := by
  unfold fb_cell
  rw [hk, if_neg (by omega), if_pos h2]
theorem fb_cell_q {c : Nat} (hk : (fb_T h a).1 = c) (h1 : 13 ≤ c) : fb_cell aC B h a = .inl (aC c, (fb_T h a).2, .inr (.inr (.inr (.inr (fun k => (fb_R h a k).map (fun a => B + a)))))) := by
  unfold fb_cell
  rw [hk, if_neg (by omega), if_neg (by omega)]
theorem fb_sI_N (h : fb_H) (i k : Nat) (v : Int32) : fb_N (fb_sI h i k v) = fb_N h := rfl
theorem fb_sI_Z (h : fb_H) (i k : Nat) (v : Int32) : fb_Z (fb_sI h i k v) = fb_Z h := rfl
theorem fb_sI_T (h : fb_H) (i k : Nat) (v : Int32) : fb_T (fb_sI h i k v) = fb_T h := rfl
theorem fb_sI_R (h : fb_H) (i k : Nat) (v : Int32) : fb_R (fb_sI h i k v) = fb_R h := rfl
theorem fb_sI_I (h : fb_H) (i k : Nat) (v : Int32) (a b : Nat) : fb_I (fb_sI h i k v) a b = if a = i ∧ b = k then v else fb_I h a b := rfl
theorem fb_sR_N (h : fb_H) (i k : Nat) (v : Option Nat) : fb_N (fb_sR h i k v) = fb_N h := rfl
theorem fb_sR_Z (h : fb_H) (i k : Nat) (v : Option Nat) : fb_Z (fb_sR h i k v) = fb_Z h := rfl
theorem fb_sR_T (h : fb_H) (i k : Nat) (v : Option Nat) : fb_T (fb_sR h i k v) = fb_T h := rfl
theorem fb_sR_I (h : fb_H) (i k : Nat) (v : Option Nat) : fb_I (fb_sR h i k v) = fb_I h := rfl
theorem fb_sR_R (h : fb_H) (i k : Nat) (v : Option Nat) (a b : Nat) : fb_R (fb_sR h i k v) a b = if a = i ∧ b = k then v else fb_R h a b := rfl
theorem fb_cell_eq {h h' : fb_H} {i : Nat} (h1 : fb_T h' i = fb_T h i) (h2 : ∀ k, fb_R h' i k = fb_R h i k) (h3 : ∀ k, fb_I h' i k = fb_I h i k) : fb_cell aC B h' i = fb_cell aC B h i := by
  unfold fb_cell
  have e2 : fb_R h' i = fb_R h i := funext h2
  have e3 : fb_I h' i = fb_I h i := funext h3
  rw [h1, e2, e3]
theorem fb_fields_I {c k : Nat} {v : Int32} (hk : k < cN c) (hK : cK c k = false) : ((List.range (cN c)).map (fun q => if cK c q = true then va_rf ((fb_R h a q).map (fun a => B + a)) else .int (fb_I h a q))).set k (.int v) = (List.range (cN c)).map (fun q => if cK c q = true then va_rf ((fb_R (fb_sI h a k v) a q).map (fun a => B + a)) else .int (fb_I (fb_sI h a k v) a q)) := by
  apply List.ext_getElem?
  intro q
  rw [List.getElem?_set]
  by_cases hq : k = q
  · subst hq
    rw [if_pos rfl, if_pos (by simpa using hk), List.getElem?_map, List.getElem?_range hk]
    simp [hK, fb_sI_I]
  · rw [if_neg hq]
    by_cases hl : q < cN c
    · rw [List.getElem?_map, List.getElem?_map, List.getElem?_range hl]
      simp [fb_sI_I, fb_sI_R, Ne.symm hq]
    · rw [List.getElem?_eq_none (by simpa using hl), List.getElem?_eq_none (by simpa using hl)]
theorem fb_fields_R {c k b : Nat} (hk : k < cN c) (hK : cK c k = true) : ((List.range (cN c)).map (fun q => if cK c q = true then va_rf ((fb_R h a q).map (fun a => B + a)) else .int (fb_I h a q))).set k (.ref (B + b)) = (List.range (cN c)).map (fun q => if cK c q = true then va_rf ((fb_R (fb_sR h a k (some b)) a q).map (fun a => B + a)) else .int (fb_I (fb_sR h a k (some b)) a q)) := by
  apply List.ext_getElem?
  intro q
  rw [List.getElem?_set]
  by_cases hq : k = q
  · subst hq
    rw [if_pos rfl, if_pos (by simpa using hk), List.getElem?_map, List.getElem?_range hk]
    simp [hK, fb_sR_R, va_rf]
  · rw [if_neg hq]
    by_cases hl : q < cN c
    · rw [List.getElem?_map, List.getElem?_map, List.getElem?_range hl]
      simp [fb_sR_I, fb_sR_R, Ne.symm hq]
    · rw [List.getElem?_eq_none (by simpa using hl), List.getElem?_eq_none (by simpa using hl)]
end FBC
end
section
section FBR
variable {p : Program} {l : Launch} {e : Env} {R : Room} {s : State} {m : MethodId} {args : Array Value} {below : List Frame} {meth : Method} {c : Code} {Q : State → Prop}
variable {D : va_G} {aC : Nat → ClassId} {B : Nat} {sa rl : Nat → Nat} {rf : Nat → Nat → Int32} {n0 z0 j pc : Nat} {ls st : List Value} {h : fb_H} {z : Nat × List Value × List Value × fb_H}
theorem fb_g_push {v : Value} {n : Nat} (row : ∀ (H : Heap) (locs : List Loc) (lsr : Array Slot) (rest : List Value), W p l e R s m args below meth c H locs (fb_N h - n0) (fb_Z h - z0) Q (F0 m (pc + n) lsr (fb_cv B sa v :: rest)) → W p l e R s m args below meth c H locs (fb_N h - n0) (fb_Z h - z0) Q (F0 m pc lsr rest)) (k : fb_Nx p l e R s m args below meth c Q D aC B sa n0 z0 j h (pc + n) ls (v :: st)) : fb_Nx p l e R s m args below meth c Q D aC B sa n0 z0 j h pc ls st :=
  fun H locs lsr hP hS hL => row H locs lsr _ (k H locs lsr hP hS hL)
/-- an instruction that pops some and pushes one -/
theorem fb_g_pop {vs : List Value} {v : Value} {r : List Value} {n : Nat} (row : ∀ (H : Heap) (locs : List Loc) (lsr : Array Slot) (rest : List Value), W p l e R s m args below meth c H locs (fb_N h - n0) (fb_Z h - z0) Q (F0 m (pc + n) lsr (fb_cv B sa v :: rest)) → W p l e R s m args below meth c H locs (fb_N h - n0) (fb_Z h - z0) Q (F0 m pc lsr (vs.map (fb_cv B sa) ++ rest))) (k : fb_Nx p l e R s m args below meth c Q D aC B sa n0 z0 j h (pc + n) ls (v :: r)) : fb_Nx p l e R s m args below meth c Q D aC B sa n0 z0 j h pc ls (vs ++ r) := by
  intro H locs lsr hP hS hL
  rw [List.map_append]
  exact row H locs lsr _ (k H locs lsr hP hS hL)
theorem fb_g_b2 {f : Int32 → Int32 → Int32} (hs : fb_b2 f pc ls st h = some z) (row : ∀ (H : Heap) (locs : List Loc) (lsr : Array Slot) (rest : List Value) (x y : Int32), W p l e R s m args below meth c H locs (fb_N h - n0) (fb_Z h - z0) Q (F0 m (pc + 1) lsr (.int (f x y) :: rest)) → W p l e R s m args below meth c H locs (fb_N h - n0) (fb_Z h - z0) Q (F0 m pc lsr (.int y :: .int x :: rest)))
    (k : fb_Nx p l e R s m args below meth c Q D aC B sa n0 z0 j z.2.2.2 z.1 z.2.1 z.2.2.1) : fb_Nx p l e R s m args below meth c Q D aC B sa n0 z0 j h pc ls st := by
  obtain ⟨x, y, r, rfl, rfl⟩ := fb_b2_of hs
  exact fun H locs lsr hP hS hL => row H locs lsr _ x y (k H locs lsr hP hS hL)
theorem fb_g_l2 {f : Int64 → Int64 → Value} (hf : ∀ x y, fb_cv B sa (f x y) = f x y) (hs : fb_l2 f pc ls st h = some z) (row : ∀ (H : Heap) (locs : List Loc) (lsr : Array Slot) (rest : List Value) (x y : Int64), W p l e R s m args below meth c H locs (fb_N h - n0) (fb_Z h - z0) Q (F0 m (pc + 1) lsr (f x y :: rest)) → W p l e R s m args below meth c H locs (fb_N h - n0) (fb_Z h - z0) Q (F0 m pc lsr (.long y :: .long x :: rest)))
    (k : fb_Nx p l e R s m args below meth c Q D aC B sa n0 z0 j z.2.2.2 z.1 z.2.1 z.2.2.1) : fb_Nx p l e R s m args below meth c Q D aC B sa n0 z0 j h pc ls st := by
  obtain ⟨x, y, r, rfl, rfl⟩ := fb_l2_of hs
  intro H locs lsr hP hS hL
  have k1 := k H locs lsr hP hS hL
  rw [List.map_cons, hf] at k1
  exact row H locs lsr _ x y k1
theorem fb_g_ls {f : Int64 → Int32 → Int64} (hs : fb_ls f pc ls st h = some z) (row : ∀ (H : Heap) (locs : List Loc) (lsr : Array Slot) (rest : List Value) (x : Int64) (y : Int32), W p l e R s m args below meth c H locs (fb_N h - n0) (fb_Z h - z0) Q (F0 m (pc + 1) lsr (.long (f x y) :: rest)) → W p l e R s m args below meth c H locs (fb_N h - n0) (fb_Z h - z0) Q (F0 m pc lsr (.int y :: .long x :: rest)))
    (k : fb_Nx p l e R s m args below meth c Q D aC B sa n0 z0 j z.2.2.2 z.1 z.2.1 z.2.2.1) : fb_Nx p l e R s m args below meth c Q D aC B sa n0 z0 j h pc ls st := by
  obtain ⟨x, y, r, rfl, rfl⟩ := fb_ls_of hs
  exact fun H locs lsr hP hS hL => row H locs lsr _ x y (k H locs lsr hP hS hL)
theorem fb_g_ldi {i n : Nat} (hs : fb_ldi i n pc ls st h = some z) (row : ∀ (H : Heap) (locs : List Loc) (lsr : Array Slot) (rest : List Value) (x : Int32), lsr[i]? = some (.val (.int x)) → W p l e R s m args below meth c H locs (fb_N h - n0) (fb_Z h - z0) Q (F0 m (pc + n) lsr (.int x :: rest)) → W p l e R s m args below meth c H locs (fb_N h - n0) (fb_Z h - z0) Q (F0 m pc lsr rest))
    (k : fb_Nx p l e R s m args below meth c Q D aC B sa n0 z0 j z.2.2.2 z.1 z.2.1 z.2.2.1) : fb_Nx p l e R s m args below meth c Q D aC B sa n0 z0 j h pc ls st := by
  obtain ⟨x, hx, rfl⟩ := fb_ldi_of hs
  exact fun H locs lsr hP hS hL => row H locs lsr _ x (hL.at hx (fun q => by cases q)) (k H locs lsr hP hS hL)
theorem fb_g_lda {i n : Nat} (hs : fb_lda i n pc ls st h = some z) (row : ∀ (H : Heap) (locs : List Loc) (lsr : Array Slot) (rest : List Value) (x : Nat), lsr[i]? = some (.val (.ref x)) → W p l e R s m args below meth c H locs (fb_N h - n0) (fb_Z h - z0) Q (F0 m (pc + n) lsr (.ref x :: rest)) → W p l e R s m args below meth c H locs (fb_N h - n0) (fb_Z h - z0) Q (F0 m pc lsr rest))
    (k : fb_Nx p l e R s m args below meth c Q D aC B sa n0 z0 j z.2.2.2 z.1 z.2.1 z.2.2.1) : fb_Nx p l e R s m args below meth c Q D aC B sa n0 z0 j h pc ls st := by
  obtain ⟨x, hx, rfl⟩ := fb_lda_of hs
  exact fun H locs lsr hP hS hL => row H locs lsr _ _ (hL.at hx (fun q => by cases q)) (k H locs lsr hP hS hL)
theorem fb_g_ldl {i n : Nat} (hs : fb_ldl i n pc ls st h = some z) (row : ∀ (H : Heap) (locs : List Loc) (lsr : Array Slot) (rest : List Value) (x : Int64), lsr[i]? = some (.val (.long x)) → W p l e R s m args below meth c H locs (fb_N h - n0) (fb_Z h - z0) Q (F0 m (pc + n) lsr (.long x :: rest)) → W p l e R s m args below meth c H locs (fb_N h - n0) (fb_Z h - z0) Q (F0 m pc lsr rest))
    (k : fb_Nx p l e R s m args below meth c Q D aC B sa n0 z0 j z.2.2.2 z.1 z.2.1 z.2.2.1) : fb_Nx p l e R s m args below meth c Q D aC B sa n0 z0 j h pc ls st := by
  obtain ⟨x, hx, rfl⟩ := fb_ldl_of hs
  exact fun H locs lsr hP hS hL => row H locs lsr _ _ (hL.at hx (fun q => by cases q)) (k H locs lsr hP hS hL)
theorem fb_g_sto {i n : Nat} (hs : fb_sto i n pc ls st h = some z) (row : ∀ (H : Heap) (locs : List Loc) (lsr : Array Slot) (rest : List Value) (x : Int32) (lv : List (Nat × Value)), lv_has lsr (mL j) lv → i < mL j → (∀ ls' : Array Slot, lv_has ls' (mL j) ((i, Value.int x) :: lv.filter (fun q => !(q.1 == i) && !(q.1 + 1 == i && q.2.category == 2))) → W p l e R s m args below meth c H locs (fb_N h - n0) (fb_Z h - z0) Q (F0 m (pc + n) ls' rest)) → W p l e R s m args below meth c H locs (fb_N h - n0) (fb_Z h - z0) Q (F0 m pc lsr (.int x :: rest)))
    (k : fb_Nx p l e R s m args below meth c Q D aC B sa n0 z0 j z.2.2.2 z.1 z.2.1 z.2.2.1) : fb_Nx p l e R s m args below meth c Q D aC B sa n0 z0 j h pc ls st := by
  obtain ⟨x, r, l', rfl, h1, rfl⟩ := fb_sto_of hs
  intro H locs lsr hP hS hL
  obtain ⟨hn, lv, hl, hm⟩ := hL
  obtain ⟨h2, h3⟩ := fb_put h1 hn hm
  exact row H locs lsr _ x lv hl h2 (fun ls' h' => k H locs ls' hP hS (h3 ls' h'))
theorem fb_g_sta {i n : Nat} (hs : fb_sta i n pc ls st h = some z) (row : ∀ (H : Heap) (locs : List Loc) (lsr : Array Slot) (rest : List Value) (x : Nat) (lv : List (Nat × Value)), lv_has lsr (mL j) lv → i < mL j → (∀ ls' : Array Slot, lv_has ls' (mL j) ((i, Value.ref x) :: lv.filter (fun q => !(q.1 == i) && !(q.1 + 1 == i && q.2.category == 2))) → W p l e R s m args below meth c H locs (fb_N h - n0) (fb_Z h - z0) Q (F0 m (pc + n) ls' rest)) → W p l e R s m args below meth c H locs (fb_N h - n0) (fb_Z h - z0) Q (F0 m pc lsr (.ref x :: rest)))
    (k : fb_Nx p l e R s m args below meth c Q D aC B sa n0 z0 j z.2.2.2 z.1 z.2.1 z.2.2.1) : fb_Nx p l e R s m args below meth c Q D aC B sa n0 z0 j h pc ls st := by
  obtain ⟨x, r, l', rfl, h1, rfl⟩ := fb_sta_of hs
  intro H locs lsr hP hS hL
  obtain ⟨hn, lv, hl, hm⟩ := hL
  obtain ⟨h2, h3⟩ := fb_put h1 hn hm
  exact row H locs lsr _ _ lv hl h2 (fun ls' h' => k H locs ls' hP hS (h3 ls' h'))
theorem fb_g_j {off : Int} {ls' st' : List Value} (hs : fb_j pc off ls' st' h = some z) (row : ∀ (H : Heap) (locs : List Loc) (lsr : Array Slot), (pc : Int) + off = (fb_to pc off : Int) → W p l e R s m args below meth c H locs (fb_N h - n0) (fb_Z h - z0) Q (F0 m (fb_to pc off) lsr (st'.map (fb_cv B sa))) → W p l e R s m args below meth c H locs (fb_N h - n0) (fb_Z h - z0) Q (F0 m pc lsr (st.map (fb_cv B sa))))
    (hls : ls' = ls) (k : fb_Nx p l e R s m args below meth c Q D aC B sa n0 z0 j z.2.2.2 z.1 z.2.1 z.2.2.1) : fb_Nx p l e R s m args below meth c Q D aC B sa n0 z0 j h pc ls st := by
  obtain ⟨h1, rfl⟩ := fb_j_of hs
  subst hls
  exact fun H locs lsr hP hS hL => row H locs lsr h1 (k H locs lsr hP hS hL)
/-- links -/
theorem fb_lk_f {i c1 k1 : Nat} (hf : fb_fd fb_fl (fb_ky j i) = some (c1, k1)) : c1 < 8 ∧ k1 < cN c1 ∧ Cond.fieldLink (oN (mO j)) i (cX c1) (cT c1 k1).2.1 (cT c1 k1).2.2.1 ∈ fb_W := by
  obtain ⟨q, hq⟩ := fb_fd_of hf
  obtain ⟨h1, h2, h3⟩ := fb_fl_ok _ hq
  obtain ⟨e1, e2⟩ := fb_ky_of (fb_ky_ok.1 _ hq)
  dsimp only at h1 h2 h3
  rw [e1, e2] at h3
  exact ⟨h1, h2, fb_inW h3 rfl⟩
theorem fb_lk_s {i k1 q1 : Nat} (hf : fb_fd fb_sl (fb_ky j i) = some (k1, q1)) : k1 < 6 ∧ (if q1 = 0 then Cond.fieldLink (oN (mO j)) i "FiguredBasses" (fb_sn k1) "[I" else Cond.fieldLinkNest (oN (mO j)) i "FiguredBasses" (fb_sn k1) "[I" "FiguredBasses") ∈ lw_tbl := by
  obtain ⟨q, hq⟩ := fb_fd_of hf
  obtain ⟨h1, h3⟩ := fb_sl_ok _ hq
  obtain ⟨e1, e2⟩ := fb_ky_of (fb_ky_ok.2.1 _ hq)
  dsimp only at h1 h3
  rw [e1, e2] at h3
  exact ⟨h1, List.mem_of_getElem? h3⟩
theorem fb_lk_c {i k1 q1 : Nat} (hf : fb_fd fb_cl (fb_ky j i) = some (k1, q1)) : Cond.classLink (oN (mO j)) i (if k1 < 8 then cX k1 else if k1 = 10 then "[I" else if k1 = 13 then "FiguredBasses$Piece" else if k1 = 14 then "FiguredBasses$Voicings" else "[[I") ∈ fb_W := by
  obtain ⟨q, hq⟩ := fb_fd_of hf
  have h3 := fb_cl_ok _ hq
  obtain ⟨e1, e2⟩ := fb_ky_of (fb_ky_ok.2.2.2.1 _ hq)
  dsimp only at h3
  rw [e1, e2] at h3
  exact fb_inW h3 rfl
theorem fb_lk_i {i : Nat} {v : Int32} (hf : fb_ki (fb_ky j i) = some v) : Cond.constant (oN (mO j)) i v ∈ fb_W := by
  obtain ⟨a, q, hq⟩ := fb_ki_of hf
  have h3 := fb_kl_ok _ hq
  obtain ⟨e1, e2⟩ := fb_ky_of (fb_ky_ok.2.2.2.2.1 _ hq)
  dsimp only at h3
  rw [e1, e2] at h3
  exact fb_inW h3 rfl
theorem fb_lk_j {i : Nat} {v : Int64} (hf : fb_kj (fb_ky j i) = some v) : Cond.constantLong (oN (mO j)) i v ∈ fb_W := by
  obtain ⟨a, q, hq⟩ := fb_kj_of hf
  have h3 := fb_jl_ok _ hq
  obtain ⟨e1, e2⟩ := fb_ky_of (fb_ky_ok.2.2.2.2.2 _ hq)
  dsimp only at h3
  rw [e1, e2] at h3
  exact fb_inW h3 rfl
theorem fb_mt_o {k : Nat} {f : Nat → Value} {n : Nat} {q : Nat} (hq : q < n) : ((List.range n).map f)[q]? = some (f q) := by
  rw [List.getElem?_map, List.getElem?_range hq]
  rfl
theorem fb_g_gf {i : Nat} (X : fb_X p R s m args meth c D aC B sa rl rf n0 j) (G : fb_G rl rf h) (hd : decode (mB j) pc = .ok (.getfield i, 3)) (hs : fb_gf (fb_fd fb_fl (fb_ky j i)) pc ls st h = some z)
    (k : fb_Nx p l e R s m args below meth c Q D aC B sa n0 z0 j z.2.2.2 z.1 z.2.1 z.2.2.1) : fb_Nx p l e R s m args below meth c Q D aC B sa n0 z0 j h pc ls st := by
  obtain ⟨a, r, c1, k1, rfl, hf, hT, hz⟩ := fb_gf_of hs
  obtain ⟨h8, hk, hlk⟩ := fb_lk_f hf
  have ha : a < fb_N h := G.2.2.1 a (by omega)
  have ha6 : a < 1000000 := by have := G.1; omega
  obtain ⟨hx, hb, hml, hown, hts, hE, -⟩ := X
  intro H locs lsr hP hS hL
  have he : (fb_ws aC B h)[a]? = some (B + a, .inr (c1, (List.range (cN c1)).map (fun k => if cK c1 k = true then va_rf ((fb_R h a k).map (fun a => B + a)) else .int (fb_I h a k)))) := by rw [fb_ws_at ha, fb_cell_o hT (by omega)]
  have hst : (Value.ref a :: r).map (fb_cv B sa) = .ref (B + a) :: r.map (fb_cv B sa) := by rw [List.map_cons]; show Value.ref (fb_ad B sa a) :: _ = _; rw [fb_ad_lo ha6]
  rw [hst]
  refine va_get hx hb hts (fb_uin c1 h8) hown hE.1 hP a he (cX_at c1 h8) k1 hk (hts _ hlk) (fun x hx => by rw [cO_ok c1 h8 k1 hk] at hx; exact hx) (v := if cK c1 k1 = true then va_rf ((fb_R h a k1).map (fun a => B + a)) else .int (fb_I h a k1)) (fb_mt_o (k := 0) hk) hd ?_
  rcases hz with ⟨hK, b, hb', rfl⟩ | ⟨hK, rfl⟩
  · have hb6 : b < 1000000 := by have := G.2.1 _ _ _ hb'; have := G.1; omega
    rw [if_pos hK, hb']
    have k1 := k H locs lsr hP hS hL
    rw [List.map_cons] at k1
    have e1 : fb_cv B sa (.ref b) = va_rf (Option.map (fun a => B + a) (some b)) := by show Value.ref (fb_ad B sa b) = _; rw [fb_ad_lo hb6]; rfl
    rw [e1] at k1
    exact k1
  · rw [if_neg (by rw [hK]; decide)]
    exact k H locs lsr hP hS hL
theorem fb_K_ty (hK : va_K D vwCl (fb_ty aC) s) : True := trivial
theorem fb_g_pf {i : Nat} (X : fb_X p R s m args meth c D aC B sa rl rf n0 j) (G : fb_G rl rf h) (hd : decode (mB j) pc = .ok (.putfield i, 3)) (hs : fb_pf j (fb_fd fb_fl (fb_ky j i)) pc ls st h = some z)
    (k : fb_Nx p l e R s m args below meth c Q D aC B sa n0 z0 j z.2.2.2 z.1 z.2.1 z.2.2.1) : fb_Nx p l e R s m args below meth c Q D aC B sa n0 z0 j h pc ls st := by
  obtain ⟨a, r, c1, k1, hf, hT, hz⟩ := fb_pf_of hs
  obtain ⟨h8, hk, hlk⟩ := fb_lk_f hf
  have ha : a < fb_N h := G.2.2.1 a (by omega)
  have ha6 : a < 1000000 := by have := G.1; omega
  obtain ⟨hx, hb, hml, hown, hts, hE, -, hnm, -⟩ := X
  have he : (fb_ws aC B h)[a]? = some (B + a, .inr (c1, (List.range (cN c1)).map (fun k => if cK c1 k = true then va_rf ((fb_R h a k).map (fun a => B + a)) else .int (fb_I h a k)))) := by rw [fb_ws_at ha, fb_cell_o hT (by omega)]
  intro H locs lsr hP hS hL
  rcases hz with ⟨v, rfl, hK, hfin, rfl⟩ | ⟨b, rfl, hK, hbN, hfin, hin, hco, rfl⟩
  · have hst : (Value.int v :: .ref a :: r).map (fb_cv B sa) = .int v :: .ref (B + a) :: r.map (fb_cv B sa) := by rw [List.map_cons, List.map_cons]; show Value.int v :: Value.ref (fb_ad B sa a) :: _ = _; rw [fb_ad_lo ha6]
    rw [hst]
    have hty := (cK_ok c1 h8 k1 hk).1 hK
    refine va_put hx hb hts (fb_uin c1 h8) (cY c1) (cY_ok c1 h8) (cT_nm c1 h8) hown hE.1 hP (fb_ws_D aC B h) hS a he (cX_at c1 h8) k1 hk (hts _ hlk) (fun x hx => by rw [cO_ok c1 h8 k1 hk] at hx; exact hx) hfin (ty := .int) (by rw [cY_ok c1 h8 k1 hk, hty]) rfl rfl (by simpa using hk) hd (fun H1 locs1 hP1 _ hS1 => ?_)
    rw [fb_fields_I hk hK] at hP1
    rw [fb_ws_set (aC := aC) (B := B) (h := h) (h' := fb_sI h a k1 v) rfl (fb_cell_o hT (by omega)) (fun i hi => fb_cell_eq rfl (fun _ => rfl) (fun q => by rw [fb_sI_I, if_neg (fun hh => hi hh.1)]))] at hP1
    exact k H1 locs1 lsr hP1 hS1 hL
  · have hb6 : b < 1000000 := by have := G.1; omega
    have hst : (Value.ref b :: .ref a :: r).map (fb_cv B sa) = .ref (B + b) :: .ref (B + a) :: r.map (fb_cv B sa) := by rw [List.map_cons, List.map_cons]; show Value.ref (fb_ad B sa b) :: Value.ref (fb_ad B sa a) :: _ = _; rw [fb_ad_lo ha6, fb_ad_lo hb6]
    rw [hst]
    have hpd := cY_ok c1 h8 k1 hk
    refine va_putF hx hb hts (fb_uin c1 h8) (cY c1) (cY_ok c1 h8) (cT_nm c1 h8) hown hE.1 hP (fb_ws_D aC B h) hS a he (cX_at c1 h8) k1 hk (hts _ hlk) (fun x hx => by rw [cO_ok c1 h8 k1 hk] at hx; exact hx) hfin (hnm hin) (by rw [cO_ok c1 h8 k1 hk]; exact hco) (ty := cY c1 k1) hpd ?_ ?_ (by simpa using hk) hd (fun H1 locs1 hP1 _ hS1 => ?_)
    · rcases (cK_ok c1 h8 k1 hk).2 hK with ⟨t, ht⟩ | ⟨t, ht⟩ <;> rw [ht] <;> rfl
    · rcases (cK_ok c1 h8 k1 hk).2 hK with ⟨t, ht⟩ | ⟨t, ht⟩ <;> rw [ht] <;> rfl
    · rw [fb_fields_R hk hK] at hP1
      rw [fb_ws_set (aC := aC) (B := B) (h := h) (h' := fb_sR h a k1 (some b)) rfl (fb_cell_o hT (by omega)) (fun i hi => fb_cell_eq rfl (fun q => by rw [fb_sR_R, if_neg (fun hh => hi hh.1)]) (fun _ => rfl))] at hP1
      exact k H1 locs1 lsr hP1 hS1 hL
end FBR
end
section
section FBA
variable {p : Program} {l : Launch} {e : Env} {R : Room} {s : State} {m : MethodId} {args : Array Value} {below : List Frame} {meth : Method} {c : Code} {Q : State → Prop}
variable {D : va_G} {aC : Nat → ClassId} {B : Nat} {sa rl : Nat → Nat} {rf : Nat → Nat → Int32} {n0 z0 j pc : Nat} {ls st : List Value} {h : fb_H} {z : Nat × List Value × List Value × fb_H}
/-- the read-only arrays, in any heap that the method has come to -/
theorem fb_ro_at {k a : Nat} {H : Heap} {locs : List Loc} (X : fb_X p R s m args meth c D aC B sa rl rf n0 j) (hk : k < 7) (hS : va_S (fun q => B ≤ q) s.heap H locs) : fb_ro sa rl rf k s H := by
  obtain ⟨-, -, -, -, -, hE, hsz, -⟩ := X
  obtain ⟨h1, cell, h2, h3⟩ := hE.2.2.2.2.2.2.2 k hk
  exact ⟨cell, by rw [hS.2.1 _ (by omega) (by show ¬ B ≤ sa k; omega)]; exact h2, h3⟩
theorem fb_ref_lo {a : Nat} {r : List Value} (h : a < 1000000) : (Value.ref a :: r).map (fb_cv B sa) = .ref (B + a) :: r.map (fb_cv B sa) := by
  rw [List.map_cons]
  show Value.ref (fb_ad B sa a) :: _ = _
  rw [fb_ad_lo h]
theorem fb_ref_hi {k : Nat} {r : List Value} : (Value.ref (1000000 + k) :: r).map (fb_cv B sa) = .ref (sa k) :: r.map (fb_cv B sa) := by
  rw [List.map_cons]
  show Value.ref (fb_ad B sa (1000000 + k)) :: _ = _
  rw [fb_ad_hi]
theorem fb_i_cons {x : Int32} {r : List Value} : (Value.int x :: r).map (fb_cv B sa) = .int x :: r.map (fb_cv B sa) := rfl
theorem fb_g_iald (X : fb_X p R s m args meth c D aC B sa rl rf n0 j) (G : fb_G rl rf h) (hd : decode (mB j) pc = .ok (.iaload, 1)) (hs : fb_el 10 16 pc ls st h = some z)
    (k : fb_Nx p l e R s m args below meth c Q D aC B sa n0 z0 j z.2.2.2 z.1 z.2.1 z.2.2.1) : fb_Nx p l e R s m args below meth c Q D aC B sa n0 z0 j h pc ls st := by
  obtain ⟨x, a, r, rfl, hT, hin, rfl⟩ := fb_el_of hs
  intro H locs lsr hP hS hL
  have X' := X
  obtain ⟨hx, hb, hml, hown, hts, hE, hsz, -⟩ := X
  rw [fb_i_cons]
  rcases hT with hT | hT
  · have ha : a < fb_N h := G.2.2.1 a (by omega)
    rw [fb_ref_lo (by have := G.1; omega)]
    exact va_iald hx hb hE.1 hP a 0 (by rw [fb_ws_at ha, fb_cell_i hT (by omega) (by omega)]) rfl hin hd (k H locs lsr hP hS hL)
  · obtain ⟨q, hq, rfl, hlen, hf⟩ := G.2.2.2.1 a hT
    rw [fb_ref_hi]
    obtain ⟨cell, g1, g2, g3, g4, g5, -⟩ := fb_ro_at (a := 0) X' hq hS
    rw [hlen] at hin
    have hlt : x.toNatClampNeg < rl q := Nat.not_le.mp fun w => hin (Or.inr w)
    have k1 := k H locs lsr hP hS hL
    rw [hf] at k1
    exact W.iald hx hb g1 g2 g3 (by rw [g4]; exact hin) (g5 _ hlt) rfl rfl hd k1
theorem fb_g_zald (X : fb_X p R s m args meth c D aC B sa rl rf n0 j) (G : fb_G rl rf h) (hd : decode (mB j) pc = .ok (.baload, 1)) (hs : fb_el 11 11 pc ls st h = some z)
    (k : fb_Nx p l e R s m args below meth c Q D aC B sa n0 z0 j z.2.2.2 z.1 z.2.1 z.2.2.1) : fb_Nx p l e R s m args below meth c Q D aC B sa n0 z0 j h pc ls st := by
  obtain ⟨x, a, r, rfl, hT, hin, rfl⟩ := fb_el_of hs
  have hT : (fb_T h a).1 = 11 := by omega
  intro H locs lsr hP hS hL
  obtain ⟨hx, hb, hml, hown, hts, hE, hsz, -⟩ := X
  rw [fb_i_cons]
  have ha : a < fb_N h := G.2.2.1 a (by omega)
  rw [fb_ref_lo (by have := G.1; omega)]
  exact va_zald hx hb hE.1 hP a 1 (by rw [fb_ws_at ha, fb_cell_i hT (by omega) (by omega)]) rfl hin hd (k H locs lsr hP hS hL)
theorem fb_g_cald (X : fb_X p R s m args meth c D aC B sa rl rf n0 j) (G : fb_G rl rf h) (hd : decode (mB j) pc = .ok (.caload, 1)) (hs : fb_el 12 12 pc ls st h = some z)
    (k : fb_Nx p l e R s m args below meth c Q D aC B sa n0 z0 j z.2.2.2 z.1 z.2.1 z.2.2.1) : fb_Nx p l e R s m args below meth c Q D aC B sa n0 z0 j h pc ls st := by
  obtain ⟨x, a, r, rfl, hT, hin, rfl⟩ := fb_el_of hs
  have hT : (fb_T h a).1 = 12 := by omega
  intro H locs lsr hP hS hL
  obtain ⟨hx, hb, hml, hown, hts, hE, hsz, -⟩ := X
  rw [fb_i_cons]
  have ha : a < fb_N h := G.2.2.1 a (by omega)
  rw [fb_ref_lo (by have := G.1; omega)]
  exact va_cald hx hb hE.1 hP a 2 (by rw [fb_ws_at ha, fb_cell_i hT (by omega) (by omega)]) rfl hin hd (k H locs lsr hP hS hL)
theorem fb_set_I {k : Nat} {v : Int32} {a : Nat} (hT1 : 10 ≤ (fb_T h a).1) (hT2 : (fb_T h a).1 < 13) : (fb_ws aC B h).set a (B + a, .inl (aC (fb_T h a).1, (fb_T h a).2, .inl (upd (fb_I h a) k v))) = fb_ws aC B (fb_sI h a k v) := by
  refine fb_ws_set rfl ?_ (fun i hi => fb_cell_eq rfl (fun _ => rfl) (fun q => by rw [fb_sI_I, if_neg (fun hh => hi hh.1)]))
  rw [fb_cell_i (h := fb_sI h a k v) rfl (by rw [fb_sI_T]; exact hT1) (by rw [fb_sI_T]; exact hT2)]
  have e1 : fb_I (fb_sI h a k v) a = upd (fb_I h a) k v := by
    funext q
    rw [fb_sI_I]
    unfold upd
    simp
  rw [e1, fb_sI_T]
theorem fb_set_R {k b : Nat} {a : Nat} (hT1 : 13 ≤ (fb_T h a).1) : (fb_ws aC B h).set a (B + a, .inl (aC (fb_T h a).1, (fb_T h a).2, .inr (.inr (.inr (.inr (va_up (fun k => (fb_R h a k).map (fun a => B + a)) k (some (B + b)))))))) = fb_ws aC B (fb_sR h a k (some b)) := by
  refine fb_ws_set rfl ?_ (fun i hi => fb_cell_eq rfl (fun q => by rw [fb_sR_R, if_neg (fun hh => hi hh.1)]) (fun _ => rfl))
  rw [fb_cell_q (h := fb_sR h a k (some b)) rfl (by rw [fb_sR_T]; exact hT1)]
  have e1 : (fun q => (fb_R (fb_sR h a k (some b)) a q).map (fun a => B + a)) = va_up (fun k => (fb_R h a k).map (fun a => B + a)) k (some (B + b)) := by
    funext q
    rw [fb_sR_R]
    unfold va_up
    by_cases hq : q = k <;> simp [hq]
  rw [e1, fb_sR_T]
theorem fb_g_iast (X : fb_X p R s m args meth c D aC B sa rl rf n0 j) (G : fb_G rl rf h) (hd : decode (mB j) pc = .ok (.iastore, 1)) (hs : fb_es 10 (fun v => v) pc ls st h = some z)
    (k : fb_Nx p l e R s m args below meth c Q D aC B sa n0 z0 j z.2.2.2 z.1 z.2.1 z.2.2.1) : fb_Nx p l e R s m args below meth c Q D aC B sa n0 z0 j h pc ls st := by
  obtain ⟨v, x, a, r, rfl, hT, hin, rfl⟩ := fb_es_of hs
  intro H locs lsr hP hS hL
  obtain ⟨hx, hb, hml, hown, hts, hE, hsz, -⟩ := X
  have ha : a < fb_N h := G.2.2.1 a (by omega)
  rw [fb_i_cons, fb_i_cons, fb_ref_lo (by have := G.1; omega)]
  refine va_iast hx hb hE.1 hP (fb_ws_D aC B h) hS a 0 (by rw [fb_ws_at ha, fb_cell_i hT (by omega) (by omega)]) rfl hin hd (fun H1 locs1 hP1 _ hS1 => ?_)
  have e1 := fb_set_I (aC := aC) (B := B) (h := h) (k := x.toNatClampNeg) (v := v) (a := a) (by omega) (by omega)
  rw [hT] at e1
  rw [e1] at hP1
  exact k H1 locs1 lsr hP1 hS1 hL
theorem fb_g_zast (X : fb_X p R s m args meth c D aC B sa rl rf n0 j) (G : fb_G rl rf h) (hd : decode (mB j) pc = .ok (.bastore, 1)) (hs : fb_es 11 (fun v => vp_nar .boolean v) pc ls st h = some z)
    (k : fb_Nx p l e R s m args below meth c Q D aC B sa n0 z0 j z.2.2.2 z.1 z.2.1 z.2.2.1) : fb_Nx p l e R s m args below meth c Q D aC B sa n0 z0 j h pc ls st := by
  obtain ⟨v, x, a, r, rfl, hT, hin, rfl⟩ := fb_es_of hs
  intro H locs lsr hP hS hL
  obtain ⟨hx, hb, hml, hown, hts, hE, hsz, -⟩ := X
  have ha : a < fb_N h := G.2.2.1 a (by omega)
  rw [fb_i_cons, fb_i_cons, fb_ref_lo (by have := G.1; omega)]
  refine va_zast hx hb hE.1 hP (fb_ws_D aC B h) hS a 1 (by rw [fb_ws_at ha, fb_cell_i hT (by omega) (by omega)]) rfl hin hd (fun H1 locs1 hP1 _ hS1 => ?_)
  have e1 := fb_set_I (aC := aC) (B := B) (h := h) (k := x.toNatClampNeg) (v := vp_nar .boolean v) (a := a) (by omega) (by omega)
  rw [hT] at e1
  rw [e1] at hP1
  exact k H1 locs1 lsr hP1 hS1 hL
theorem fb_g_cast (X : fb_X p R s m args meth c D aC B sa rl rf n0 j) (G : fb_G rl rf h) (hd : decode (mB j) pc = .ok (.castore, 1)) (hs : fb_es 12 (fun v => vp_nar .char v) pc ls st h = some z)
    (k : fb_Nx p l e R s m args below meth c Q D aC B sa n0 z0 j z.2.2.2 z.1 z.2.1 z.2.2.1) : fb_Nx p l e R s m args below meth c Q D aC B sa n0 z0 j h pc ls st := by
  obtain ⟨v, x, a, r, rfl, hT, hin, rfl⟩ := fb_es_of hs
  intro H locs lsr hP hS hL
  obtain ⟨hx, hb, hml, hown, hts, hE, hsz, -⟩ := X
  have ha : a < fb_N h := G.2.2.1 a (by omega)
  rw [fb_i_cons, fb_i_cons, fb_ref_lo (by have := G.1; omega)]
  refine va_cast hx hb hE.1 hP (fb_ws_D aC B h) hS a 2 (by rw [fb_ws_at ha, fb_cell_i hT (by omega) (by omega)]) rfl hin hd (fun H1 locs1 hP1 _ hS1 => ?_)
  have e1 := fb_set_I (aC := aC) (B := B) (h := h) (k := x.toNatClampNeg) (v := vp_nar .char v) (a := a) (by omega) (by omega)
  rw [hT] at e1
  rw [e1] at hP1
  exact k H1 locs1 lsr hP1 hS1 hL
theorem fb_g_aald {x : Int32} {a : Nat} {r : List Value} {b : Nat} (X : fb_X p R s m args meth c D aC B sa rl rf n0 j) (G : fb_G rl rf h) (hd : decode (mB j) pc = .ok (.aaload, 1)) (hT : (fb_T h a).1 = 13 ∨ (fb_T h a).1 = 14 ∨ (fb_T h a).1 = 15) (hin : vp_in x (fb_T h a).2) (hb' : fb_R h a x.toNatClampNeg = some b)
    (k : fb_Nx p l e R s m args below meth c Q D aC B sa n0 z0 j h (pc + 1) ls (.ref b :: r)) : fb_Nx p l e R s m args below meth c Q D aC B sa n0 z0 j h pc ls (.int x :: .ref a :: r) := by
  intro H locs lsr hP hS hL
  obtain ⟨hx, hb, hml, hown, hts, hE, hsz, -⟩ := X
  have ha : a < fb_N h := G.2.2.1 a (by omega)
  have hb6 : b < 1000000 := by have := G.2.1 _ _ _ hb'; have := G.1; omega
  have k1 := k H locs lsr hP hS hL
  rw [fb_ref_lo hb6] at k1
  rw [fb_i_cons, fb_ref_lo (by have := G.1; omega)]
  have hlt : x.toNatClampNeg < (fb_T h a).2 := Nat.not_le.mp fun w => hin (Or.inr w)
  have hc := hP a _ (fb_ws_at ha)
  rw [fb_cell_q rfl (by omega)] at hc
  have hc : H[B + a]? = some (arrV (aC (fb_T h a).1) (fb_T h a).2 (fun q => va_rf ((fb_R h a q).map (fun a => B + a)))) := hc
  have hval : (arrV (aC (fb_T h a).1) (fb_T h a).2 (fun q => va_rf ((fb_R h a q).map (fun a => B + a)))).slots[x.toNatClampNeg]? = some (.ref (B + b)) := by
    rw [arrV_read _ _ hlt, hb']
    rfl
  have hin' : ¬ (x < 0 ∨ (arrV (aC (fb_T h a).1) (fb_T h a).2 (fun q => va_rf ((fb_R h a q).map (fun a => B + a)))).slots.size ≤ x.toNatClampNeg) := by rw [arrV_size]; exact hin
  rcases hT with hT | hT | hT
  · exact W.aald (ty := .object "FiguredBasses$Piece") hx hb hc (by rw [hT]; exact (hE.1.2 3 _ rfl).1 _ _) rfl (fun q => by cases q) hin' hval rfl rfl hd k1
  · exact W.aald (ty := .object "FiguredBasses$Voicings") hx hb hc (by rw [hT]; exact (hE.1.2 4 _ rfl).1 _ _) rfl (fun q => by cases q) hin' hval rfl rfl hd k1
  · exact W.aald (ty := .array .int) hx hb hc (by rw [hT]; exact (hE.1.2 5 _ rfl).1 _ _) rfl (fun q => by cases q) hin' hval rfl rfl hd k1
theorem fb_g_aast {x : Int32} {a b : Nat} {r : List Value} (X : fb_X p R s m args meth c D aC B sa rl rf n0 j) (G : fb_G rl rf h) (hd : decode (mB j) pc = .ok (.aastore, 1)) (hT : (fb_T h a).1 = 13 ∧ (fb_T h b).1 = 3 ∨ (fb_T h a).1 = 14 ∧ (fb_T h b).1 = 5) (hin : vp_in x (fb_T h a).2)
    (k : fb_Nx p l e R s m args below meth c Q D aC B sa n0 z0 j (fb_sR h a x.toNatClampNeg (some b)) (pc + 1) ls r) : fb_Nx p l e R s m args below meth c Q D aC B sa n0 z0 j h pc ls (.ref b :: .int x :: .ref a :: r) := by
  intro H locs lsr hP hS hL
  obtain ⟨hx, hb, hml, hown, hts, hE, hsz, -⟩ := X
  have ha : a < fb_N h := G.2.2.1 a (by omega)
  have hbN : b < fb_N h := G.2.2.1 b (by omega)
  have hN := G.1
  rw [fb_ref_lo (by omega), fb_i_cons, fb_ref_lo (by omega)]
  have e1 := fb_set_R (aC := aC) (B := B) (h := h) (k := x.toNatClampNeg) (b := b) (a := a) (by omega)
  rcases hT with ⟨hT, hTb⟩ | ⟨hT, hTb⟩
  · rw [hT] at e1
    refine va_astq (r := (RX3, TX3, 5)) hx hb hE.1 hP (fb_ws_D aC B h) hS a 3 b 3 (by rw [fb_ws_at ha, fb_cell_q hT (by omega)]) rfl (by rw [fb_ws_at hbN, fb_cell_o hTb (by omega)]) rfl hin hd (fun H1 locs1 hP1 _ hS1 => ?_)
    rw [e1] at hP1
    exact k H1 locs1 lsr hP1 hS1 hL
  · rw [hT] at e1
    refine va_astq (r := (RX6, TX6, 2)) hx hb hE.1 hP (fb_ws_D aC B h) hS a 4 b 5 (by rw [fb_ws_at ha, fb_cell_q hT (by omega)]) rfl (by rw [fb_ws_at hbN, fb_cell_o hTb (by omega)]) rfl hin hd (fun H1 locs1 hP1 _ hS1 => ?_)
    rw [e1] at hP1
    exact k H1 locs1 lsr hP1 hS1 hL
theorem fb_g_alen {a : Nat} {r : List Value} (X : fb_X p R s m args meth c D aC B sa rl rf n0 j) (G : fb_G rl rf h) (hd : decode (mB j) pc = .ok (.arraylength, 1)) (h1 : 10 ≤ (fb_T h a).1) (h2 : (fb_T h a).1 ≤ 16)
    (k : fb_Nx p l e R s m args below meth c Q D aC B sa n0 z0 j h (pc + 1) ls (.int (Int32.ofNat (fb_T h a).2) :: r)) : fb_Nx p l e R s m args below meth c Q D aC B sa n0 z0 j h pc ls (.ref a :: r) := by
  intro H locs lsr hP hS hL
  have X' := X
  obtain ⟨hx, hb, hml, hown, hts, hE, hsz, -⟩ := X
  have k1 := k H locs lsr hP hS hL
  rw [fb_i_cons] at k1
  by_cases h16 : (fb_T h a).1 = 16
  · obtain ⟨q, hq, rfl, hlen, hf⟩ := G.2.2.2.1 a h16
    rw [fb_ref_hi]
    obtain ⟨cell, g1, g2, g3, g4, g5, -⟩ := fb_ro_at (a := 0) X' hq hS
    exact W.alen hx hb g1 g2 (by rw [g4, ← hlen]) rfl rfl hd k1
  · have ha : a < fb_N h := G.2.2.1 a (by omega)
    rw [fb_ref_lo (by have := G.1; omega)]
    have hcase : (fb_T h a).1 = 10 ∨ (fb_T h a).1 = 11 ∨ (fb_T h a).1 = 12 ∨ (fb_T h a).1 = 13 ∨ (fb_T h a).1 = 14 ∨ (fb_T h a).1 = 15 := by omega
    rcases hcase with hT | hT | hT | hT | hT | hT
    · exact va_alen hx hb hE.1 hP a 0 (by rw [fb_ws_at ha, fb_cell_i hT (by omega) (by omega)]) (ty := .int) rfl rfl hd k1
    · exact va_alen hx hb hE.1 hP a 1 (by rw [fb_ws_at ha, fb_cell_i hT (by omega) (by omega)]) (ty := .boolean) rfl rfl hd k1
    · exact va_alen hx hb hE.1 hP a 2 (by rw [fb_ws_at ha, fb_cell_i hT (by omega) (by omega)]) (ty := .char) rfl rfl hd k1
    · exact va_alen hx hb hE.1 hP a 3 (by rw [fb_ws_at ha, fb_cell_q hT (by omega)]) (ty := .object "FiguredBasses$Piece") rfl rfl hd k1
    · exact va_alen hx hb hE.1 hP a 4 (by rw [fb_ws_at ha, fb_cell_q hT (by omega)]) (ty := .object "FiguredBasses$Voicings") rfl rfl hd k1
    · exact va_alen hx hb hE.1 hP a 5 (by rw [fb_ws_at ha, fb_cell_q hT (by omega)]) (ty := .array .int) rfl rfl hd k1
theorem fb_g_gets {i k1 q1 : Nat} (X : fb_X p R s m args meth c D aC B sa rl rf n0 j) (hd : decode (mB j) pc = .ok (.getstatic i, 3)) (hf : fb_fd fb_sl (fb_ky j i) = some (k1, q1))
    (k : fb_Nx p l e R s m args below meth c Q D aC B sa n0 z0 j h (pc + 3) ls (.ref (1000000 + k1) :: st)) : fb_Nx p l e R s m args below meth c Q D aC B sa n0 z0 j h pc ls st := by
  obtain ⟨h6, hw⟩ := fb_lk_s hf
  intro H locs lsr hP hS hL
  obtain ⟨hx, hb, hml, hown, hts, hE, hsz, -⟩ := X
  have k1' := k H locs lsr hP hS hL
  rw [fb_ref_hi] at k1'
  have hZ := hE.2.2.2.2.2.2.1 k1 h6
  by_cases hq : q1 = 0
  · rw [if_pos hq] at hw
    exact va_gets hx hb hZ hS hown (hts _ (List.mem_filter.mpr ⟨hw, rfl⟩)) (fun x hx => hx) hd k1'
  · rw [if_neg hq] at hw
    exact va_getsN hx hb hZ hS hown (va_Nw.use rfl (hE.2.1 _ hw rfl)) (fun x hx => hx) hd k1'
end FBA
end
section
section FBM
variable {p : Program} {l : Launch} {e : Env} {R : Room} {s : State} {m : MethodId} {args : Array Value} {below : List Frame} {meth : Method} {c : Code} {Q : State → Prop}
variable {D : va_G} {aC : Nat → ClassId} {B : Nat} {sa rl : Nat → Nat} {rf : Nat → Nat → Int32} {n0 z0 j pc : Nat} {ls st : List Value} {h : fb_H} {z : Nat × List Value × List Value × fb_H}
theorem fb_wsize {H : Heap} {locs : List Loc} {cells slots : Nat} {g : JFrame} (kk : H.size ≤ s.heap.size + cells → W p l e R s m args below meth c H locs cells slots Q g) : W p l e R s m args below meth c H locs cells slots Q g :=
  fun T hT X => kk (by rw [← hT]; exact X.heapSize) T hT X
theorem fb_hsz {H : Heap} {locs : List Loc} (hsz : s.heap.size = B + n0) (hn : n0 ≤ fb_N h) (hP : va_P D vwCl (fb_ws aC B h) H) (hS : va_S (fun q => B ≤ q) s.heap H locs) (hle : H.size ≤ s.heap.size + (fb_N h - n0)) : H.size = B + fb_N h := by
  have h1 := hS.1
  by_cases h0 : fb_N h = 0
  · omega
  · have h2 := (hP (fb_N h - 1) _ (fb_ws_at (by omega))).lt
    have h2 : B + (fb_N h - 1) < H.size := h2
    omega
theorem fb_grow {h' : fb_H} {H H1 : Heap} (hP : va_P D vwCl (fb_ws aC B h) H) (hold : ∀ i, i < fb_N h → fb_cell aC B h' i = fb_cell aC B h i) (o1 : ∀ q : Nat, q < B + fb_N h → H1[q]? = H[q]?) (hnew : ∀ i, fb_N h ≤ i → i < fb_N h' → va_at D vwCl (B + i, fb_cell aC B h' i) H1) : va_P D vwCl (fb_ws aC B h') H1 := by
  intro k q hq
  obtain ⟨hk, rfl⟩ := fb_ws_some hq
  by_cases hl : k < fb_N h
  · rw [hold k hl]
    exact (hP k _ (fb_ws_at hl)).kept (o1 (B + k) (by omega))
  · exact hnew k (by omega) hk
theorem fb_growS {H H1 : Heap} {locs : List Loc} (hS : va_S (fun q => B ≤ q) s.heap H locs) (hz : H.size = B + fb_N h) (z1 : H.size ≤ H1.size) (o1 : ∀ q : Nat, q < B + fb_N h → H1[q]? = H[q]?) : va_S (fun q => B ≤ q) s.heap H1 locs :=
  ⟨Nat.le_trans hS.1 z1, fun q h1 h2 => (o1 q (by have := hS.1; omega)).trans (hS.2.1 q h1 h2), hS.2.2⟩
theorem fb_nw_cell {kd n w : Nat} {i : Nat} (hi : i < fb_N h) : fb_cell aC B (fb_nw h kd n w) i = fb_cell aC B h i := by
  have hne : i ≠ fb_N h := Nat.ne_of_lt hi
  exact fb_cell_eq (if_neg hne) (fun _ => if_neg hne) (fun _ => if_neg hne)
theorem fb_nw_T (kd n w : Nat) : fb_T (fb_nw h kd n w) (fb_N h) = (kd, n) := if_pos rfl
theorem fb_nw_I (kd n w : Nat) (q : Nat) : fb_I (fb_nw h kd n w) (fb_N h) q = 0 := if_pos rfl
theorem fb_nw_R (kd n w : Nat) (q : Nat) : fb_R (fb_nw h kd n w) (fb_N h) q = none := if_pos rfl
theorem fb_g_new {i c1 q1 : Nat} (X : fb_X p R s m args meth c D aC B sa rl rf n0 j) (hn : n0 ≤ fb_N h) (hz0 : z0 ≤ fb_Z h) (hd : decode (mB j) pc = .ok (.new i, 3)) (hf : fb_fd fb_cl (fb_ky j i) = some (c1, q1)) (h8 : c1 < 8) (hbig : fb_N h < 900000) (hc : fb_N h + 1 - n0 ≤ R.cells) (hz' : fb_Z h + cN c1 - z0 ≤ R.slots)
    (k : fb_Nx p l e R s m args below meth c Q D aC B sa n0 z0 j (fb_nw h c1 0 (cN c1)) (pc + 3) ls (.ref (fb_N h) :: st)) : fb_Nx p l e R s m args below meth c Q D aC B sa n0 z0 j h pc ls st := by
  have hw := fb_lk_c hf
  rw [if_pos h8] at hw
  intro H locs lsr hP hS hL
  obtain ⟨hx, hb, hml, hown, hts, hE, hsz, -⟩ := X
  refine fb_wsize fun hle => ?_
  have hH := fb_hsz hsz hn hP hS hle
  obtain ⟨w1, w2⟩ := cI_ok c1 h8
  have hKn := hE.1.1 c1 _ (cX_at c1 h8)
  refine W.newcK hx hb hown (hts _ hw) (hts _ (fb_inW w1 rfl)) (hts _ (fb_inW w2 rfl)) rfl hd (by omega) (by omega) hKn.2.1 hH fun H1 kC hkC e1 z1 o1 => ?_
  have k1 := k H1 locs lsr (fb_grow hP (fun i hi => fb_nw_cell hi) o1 (fun i h1 h2 => ?_)) (fb_growS hS hH (by omega) o1) hL
  · rw [fb_ref_lo (by omega)] at k1
    rw [show fb_N h - n0 + 1 = fb_N (fb_nw h c1 0 (cN c1)) - n0 by show _ = fb_N h + 1 - n0; omega, show fb_Z h - z0 + cN c1 = fb_Z (fb_nw h c1 0 (cN c1)) - z0 by show _ = fb_Z h + cN c1 - z0; omega]
    exact k1
  · have h2 : i < fb_N h + 1 := h2
    have hi : i = fb_N h := by omega
    subst hi
    rw [fb_cell_o (h := fb_nw h c1 0 (cN c1)) (c := c1) (by rw [fb_nw_T]) (by omega)]
    refine ⟨_, cX_at c1 h8, (u_born (cY c1) hts (fb_uin c1 h8) hKn hkC e1 (cY_ok c1 h8)).to (fun q hq => ?_)⟩
    show defaultValue (cY c1 q) = vp_V _ q
    unfold vp_V
    rw [List.getD_eq_getElem?_getD, fb_mt_o (k := 0) hq]
    show defaultValue (cY c1 q) = if cK c1 q = true then _ else _
    by_cases hK : cK c1 q = true
    · rw [if_pos hK, fb_nw_R]
      rcases (cK_ok c1 h8 q hq).2 hK with ⟨t, ht⟩ | ⟨t, ht⟩ <;> rw [ht] <;> rfl
    · rw [if_neg hK, fb_nw_I, (cK_ok c1 h8 q hq).1 (by simpa using hK)]
      rfl
theorem fb_inT {w : Cond} (i : Nat) (h : lw_tbl[i]? = some w) : w ∈ lw_tbl := List.mem_of_getElem? h
theorem fb_wac : Cond.arrayClass .int ∈ fb_W ∧ Cond.arrayClass .boolean ∈ fb_W ∧ Cond.arrayClass .char ∈ fb_W := ⟨fb_inW (i := 104) (by decide +kernel) rfl, fb_inW (i := 134) (by decide +kernel) rfl, fb_inW (i := 135) (by decide +kernel) rfl⟩
theorem fb_g_na {ty : ArrayType} {kd t0 : Nat} {x : Int32} {r : List Value} (hty : (newarray.typeOf ty = .int ∧ kd = 10 ∧ t0 = 0) ∨ (newarray.typeOf ty = .boolean ∧ kd = 11 ∧ t0 = 1) ∨ (newarray.typeOf ty = .char ∧ kd = 12 ∧ t0 = 2)) (X : fb_X p R s m args meth c D aC B sa rl rf n0 j) (hn : n0 ≤ fb_N h) (hz0 : z0 ≤ fb_Z h) (hd : decode (mB j) pc = .ok (.newarray ty, 2)) (hx0 : ¬ x < 0) (hx1 : x.toNatClampNeg ≤ 10000) (hbig : fb_N h < 900000) (hc : fb_N h + 1 - n0 ≤ R.cells) (hz' : fb_Z h + x.toNatClampNeg - z0 ≤ R.slots)
    (k : fb_Nx p l e R s m args below meth c Q D aC B sa n0 z0 j (fb_nw h kd x.toNatClampNeg x.toNatClampNeg) (pc + 2) ls (.ref (fb_N h) :: r)) : fb_Nx p l e R s m args below meth c Q D aC B sa n0 z0 j h pc ls (.int x :: r) := by
  intro H locs lsr hP hS hL
  obtain ⟨hx, hb, hml, hown, hts, hE, hsz, -⟩ := X
  refine fb_wsize fun hle => ?_
  have hH := fb_hsz hsz hn hP hS hle
  have harr : (Cond.arrayClass (newarray.typeOf ty)).before args s = true := by
    rcases hty with ⟨h1, -⟩ | ⟨h1, -⟩ | ⟨h1, -⟩ <;> rw [h1]
    · exact hts _ fb_wac.1
    · exact hts _ fb_wac.2.1
    · exact hts _ fb_wac.2.2
  have hbytes : x.toNatClampNeg * componentBytes (newarray.typeOf ty) ≤ 536870912 := by
    rcases hty with ⟨h1, -⟩ | ⟨h1, -⟩ | ⟨h1, -⟩ <;> rw [h1]
    · show x.toNatClampNeg * 4 ≤ _; omega
    · show x.toNatClampNeg * 1 ≤ _; omega
    · show x.toNatClampNeg * 2 ≤ _; omega
  rw [fb_i_cons]
  refine va_newaK hx hb harr rfl hd rfl hx0 rfl hbytes (by omega) (by omega) hH fun H1 cA e1 z1 o1 hAr hNm => ?_
  have hcA : cA = aC kd := by
    rcases hty with ⟨h1, rfl, -⟩ | ⟨h1, rfl, -⟩ | ⟨h1, rfl, -⟩ <;> rw [h1] at hNm
    · have g : s.vm.findClass ("[" ++ (FieldType.int).toString) = some (aC 10) := (hE.1.2 0 _ rfl).2
      exact Option.some.inj (hNm.symm.trans g)
    · have g : s.vm.findClass ("[" ++ (FieldType.boolean).toString) = some (aC 11) := (hE.1.2 1 _ rfl).2
      exact Option.some.inj (hNm.symm.trans g)
    · have g : s.vm.findClass ("[" ++ (FieldType.char).toString) = some (aC 12) := (hE.1.2 2 _ rfl).2
      exact Option.some.inj (hNm.symm.trans g)
  have k1 := k H1 locs lsr (fb_grow hP (fun i hi => fb_nw_cell hi) o1 (fun i h1 h2 => ?_)) (fb_growS hS hH (by omega) o1) hL
  · rw [fb_ref_lo (by omega)] at k1
    rw [show fb_N h - n0 + 1 = fb_N (fb_nw h kd x.toNatClampNeg x.toNatClampNeg) - n0 by show _ = fb_N h + 1 - n0; omega, show fb_Z h - z0 + x.toNatClampNeg = fb_Z (fb_nw h kd x.toNatClampNeg x.toNatClampNeg) - z0 by show _ = fb_Z h + x.toNatClampNeg - z0; omega]
    exact k1
  · have h2 : i < fb_N h + 1 := h2
    have hi : i = fb_N h := by omega
    subst hi
    rw [fb_cell_i (h := fb_nw h kd x.toNatClampNeg x.toNatClampNeg) (c := kd) (by rw [fb_nw_T]) (by omega) (by omega)]
    show H1[B + fb_N h]? = some (vp_cell _ _)
    rw [e1, hcA, fb_nw_T, vp_cell_i]
    refine congrArg (fun f => some (arrV (aC kd) x.toNatClampNeg f)) (funext fun q => ?_)
    rw [fb_nw_I]
    rcases hty with ⟨h1, -⟩ | ⟨h1, -⟩ | ⟨h1, -⟩ <;> rw [h1] <;> rfl
theorem fb_g_nq {i kd q1 : Nat} {x : Int32} {r : List Value} {C : String} {t0 : Nat} (hkd : (C = "FiguredBasses$Piece" ∧ kd = 13 ∧ t0 = 3) ∨ (C = "FiguredBasses$Voicings" ∧ kd = 14 ∧ t0 = 4)) (X : fb_X p R s m args meth c D aC B sa rl rf n0 j) (hn : n0 ≤ fb_N h) (hz0 : z0 ≤ fb_Z h) (hd : decode (mB j) pc = .ok (.anewarray i, 3)) (hf : fb_fd fb_cl (fb_ky j i) = some (kd, q1)) (hx0 : ¬ x < 0) (hx1 : x.toNatClampNeg ≤ 10000) (hbig : fb_N h < 900000) (hc : fb_N h + 1 - n0 ≤ R.cells) (hz' : fb_Z h + x.toNatClampNeg - z0 ≤ R.slots)
    (k : fb_Nx p l e R s m args below meth c Q D aC B sa n0 z0 j (fb_nw h kd x.toNatClampNeg x.toNatClampNeg) (pc + 3) ls (.ref (fb_N h) :: r)) : fb_Nx p l e R s m args below meth c Q D aC B sa n0 z0 j h pc ls (.int x :: r) := by
  have hw : Cond.classLink (oN (mO j)) i C ∈ fb_W := by
    have hw := fb_lk_c hf
    rcases hkd with ⟨rfl, rfl, -⟩ | ⟨rfl, rfl, -⟩ <;> exact hw
  intro H locs lsr hP hS hL
  obtain ⟨hx, hb, hml, hown, hts, hE, hsz, -⟩ := X
  have hover : (Cond.arrayOver (.object C)).before args s = true := by
    rcases hkd with ⟨rfl, -⟩ | ⟨rfl, -⟩
    · exact va_AO.use hE.2.2.2.1
    · exact va_AO.use hE.2.2.2.2.1
  refine fb_wsize fun hle => ?_
  have hH := fb_hsz hsz hn hP hS hle
  rw [fb_i_cons]
  refine W.anew hx hb hown (hts _ hw) hover rfl hd rfl hx0 (by omega) (by omega) (by omega) fun cA kA comp f1 f2 f3 f4 => ?_
  generalize hH1 : H.push ({ cls := cA, slots := Array.replicate x.toNatClampNeg .null, vm := .none } : Cell) = H1
  have z1 : H1.size = H.size + 1 := by rw [← hH1, Array.size_push]
  have e1 : H1[B + fb_N h]? = some (arrV cA x.toNatClampNeg (fun _ => .null)) := by rw [← hH1, ← hH, Array.getElem?_push_size, ← arrV_new]
  have o1 : ∀ q : Nat, q < B + fb_N h → H1[q]? = H[q]? := fun q hq => by rw [← hH1, Array.getElem?_push, if_neg (by omega)]
  have hcA : cA = aC kd := by
    rcases hkd with ⟨rfl, rfl, -⟩ | ⟨rfl, rfl, -⟩
    · obtain ⟨-, -, -, -, -, g⟩ := (hE.1.2 3 _ rfl).2
      exact Option.some.inj (f1.symm.trans g)
    · obtain ⟨-, -, -, -, -, g⟩ := (hE.1.2 4 _ rfl).2
      exact Option.some.inj (f1.symm.trans g)
  have k1 := k H1 locs lsr (fb_grow hP (fun i hi => fb_nw_cell hi) o1 (fun i h1 h2 => ?_)) (fb_growS hS hH (by omega) o1) hL
  · rw [fb_ref_lo (by omega)] at k1
    rw [hH, show fb_N h - n0 + 1 = fb_N (fb_nw h kd x.toNatClampNeg x.toNatClampNeg) - n0 by show _ = fb_N h + 1 - n0; omega, show fb_Z h - z0 + x.toNatClampNeg = fb_Z (fb_nw h kd x.toNatClampNeg x.toNatClampNeg) - z0 by show _ = fb_Z h + x.toNatClampNeg - z0; omega]
    exact k1
  · have h2 : i < fb_N h + 1 := h2
    have hi : i = fb_N h := by omega
    subst hi
    rw [fb_cell_q (h := fb_nw h kd x.toNatClampNeg x.toNatClampNeg) (c := kd) (by rw [fb_nw_T]) (by omega)]
    show H1[B + fb_N h]? = some (vp_cell _ _)
    rw [e1, hcA, fb_nw_T, vp_cell_q]
    refine congrArg (fun f => some (arrV (aC kd) x.toNatClampNeg f)) (funext fun q => ?_)
    rw [fb_nw_R]
    rfl
theorem fb_sum_le (r : List Value) : (r.map fun v => v.category).sum ≤ 2 * r.length := by
  induction r with
  | nil => simp
  | cons v r ih =>
    have : v.category ≤ 2 := by cases v <;> simp [Value.category]
    simp only [List.map_cons, List.sum_cons, List.length_cons]
    omega
theorem fb_sum_cv (r : List Value) : ((r.map (fb_cv B sa)).map fun v => v.category).sum = (r.map fun v => v.category).sum := by
  rw [List.map_map]
  congr 2
  funext v
  exact fb_cat B sa v
theorem fb_cls {i q1 k1 : Nat} (hf : fb_fd fb_il (fb_ky j i) = some (k1, q1)) : ∃ q, (fb_ky j i, k1, q1, q) ∈ fb_il ∧ fb_own (fb_ky j i) = oN (mO j) ∧ fb_ky j i % 1000 = i := by
  obtain ⟨q, hq⟩ := fb_fd_of hf
  obtain ⟨e1, e2⟩ := fb_ky_of (fb_ky_ok.2.2.1 _ hq)
  exact ⟨q, hq, e1, e2⟩
theorem fb_wob : Cond.instanceMethod objectInit ∈ fb_W ∧ Cond.code objectInit ⟨#[0xb1]⟩ 1 none ∈ fb_W := ⟨fb_inW (i := 71) (by decide +kernel) rfl, fb_inW (i := 72) rfl rfl⟩
theorem fb_g_oi {i q1 a : Nat} {r : List Value} (X : fb_X p R s m args meth c D aC B sa rl rf n0 j) (hd : decode (mB j) pc = .ok (.invokespecial i, 3)) (hf : fb_fd fb_il (fb_ky j i) = some (6, q1)) (h1 : 1 ≤ mD j) (h4 : r.length ≤ 4)
    (k : fb_Nx p l e R s m args below meth c Q D aC B sa n0 z0 j h (pc + 3) ls r) : fb_Nx p l e R s m args below meth c Q D aC B sa n0 z0 j h pc ls (.ref a :: r) := by
  obtain ⟨q, hq, e1, e2⟩ := fb_cls hf
  obtain ⟨-, -, -, hw, -⟩ := fb_il_ok _ hq
  dsimp only at hw
  rw [e1, e2] at hw
  intro H locs lsr hP hS hL
  obtain ⟨hx, hb, hml, hown, hts, hE, hsz, hnm, hfr, hlo⟩ := X
  have hs1 := lv_room (pc := pc) (m := m) (ls := lsr) (rest := (Value.ref a :: r).map (fb_cv B sa)) (st := r.map (fb_cv B sa)) (by rw [fb_sum_cv]; have := fb_sum_le r; omega)
  refine W.objInit hx hb hown (hts _ (fb_inW (hw rfl) rfl)) (hts _ fb_wob.1) (hts _ fb_wob.2) rfl (by rw [hml]; exact hL.2.choose_spec.1.1) (a := fb_ad B sa a) (rest := r.map (fb_cv B sa)) rfl hd (by omega) (by omega) ?_
  exact k H locs lsr hP hS hL
theorem fb_g_cc {i q1 a : Nat} {r : List Value} (X : fb_X p R s m args meth c D aC B sa rl rf n0 j) (G : fb_G rl rf h) (hd : decode (mB j) pc = .ok (.checkcast i, 3)) (hf : fb_fd fb_cl (fb_ky j i) = some (10, q1)) (hT : (fb_T h a).1 = 10)
    (k : fb_Nx p l e R s m args below meth c Q D aC B sa n0 z0 j h (pc + 3) ls (.ref a :: r)) : fb_Nx p l e R s m args below meth c Q D aC B sa n0 z0 j h pc ls (.ref a :: r) := by
  have hw := fb_lk_c hf
  intro H locs lsr hP hS hL
  obtain ⟨hx, hb, hml, hown, hts, hE, hsz, -⟩ := X
  have ha : a < fb_N h := G.2.2.1 a (by omega)
  have k1 := k H locs lsr hP hS hL
  rw [fb_ref_lo (by have := G.1; omega)] at k1 ⊢
  have g : s.vm.findClass ("[" ++ (FieldType.int).toString) = some (aC 10) := (hE.1.2 0 _ rfl).2
  exact va_castA (nm := "[I") hx hb hown (hts _ hw) hP a (by rw [fb_ws_at ha, fb_cell_i hT (by omega) (by omega)]) g hd k1
theorem fb_wcl : (Cond.sameMethod "[I" "java/lang/Object" "clone" "()Ljava/lang/Object;" ∈ fb_W ∧ Cond.native ⟨"java/lang/Object", "clone", "()Ljava/lang/Object;"⟩ ∈ fb_W) ∧ Cond.instanceMethod ⟨"java/lang/Object", "clone", "()Ljava/lang/Object;"⟩ ∈ fb_W ∧ Cond.selects "[I" ⟨"[I", "clone", "()Ljava/lang/Object;"⟩ ⟨"java/lang/Object", "clone", "()Ljava/lang/Object;"⟩ ∈ fb_W :=
  ⟨⟨fb_inW (i := 82) (by decide +kernel) rfl, fb_inW (i := 83) (by decide +kernel) rfl⟩, fb_inW (i := 84) (by decide +kernel) rfl, fb_inW (i := 85) (by decide +kernel) rfl⟩
theorem fb_cp_cell {a i : Nat} (hi : i < fb_N h) : fb_cell aC B (fb_cp h a) i = fb_cell aC B h i := by
  have hne : i ≠ fb_N h := Nat.ne_of_lt hi
  exact fb_cell_eq (if_neg hne) (fun _ => if_neg hne) (fun _ => if_neg hne)
theorem fb_g_cl {i q1 a : Nat} {r : List Value} (X : fb_X p R s m args meth c D aC B sa rl rf n0 j) (G : fb_G rl rf h) (hn : n0 ≤ fb_N h) (hz0 : z0 ≤ fb_Z h) (hd : decode (mB j) pc = .ok (.invokevirtual i, 3)) (hf : fb_fd fb_il (fb_ky j i) = some (9, q1)) (hT : (fb_T h a).1 = 16) (ha1 : 1000000 ≤ a) (ha2 : a < 1000006) (hbig : fb_N h < 900000) (h1 : 1 ≤ mD j) (h4 : r.length ≤ 4) (hc : fb_N h + 1 - n0 ≤ R.cells) (hz' : fb_Z h + (fb_T h a).2 - z0 ≤ R.slots)
    (k : fb_Nx p l e R s m args below meth c Q D aC B sa n0 z0 j (fb_cp h a) (pc + 3) ls (.ref (fb_N h) :: r)) : fb_Nx p l e R s m args below meth c Q D aC B sa n0 z0 j h pc ls (.ref a :: r) := by
  obtain ⟨q, hq, e1, e2⟩ := fb_cls hf
  obtain ⟨-, -, -, -, hw, -⟩ := fb_il_ok _ hq
  dsimp only at hw
  rw [e1, e2] at hw
  have hw := fb_inW (hw rfl) rfl
  intro H locs lsr hP hS hL
  have X' := X
  obtain ⟨hx, hb, hml, hown, hts, hE, hsz, hnm, hfr, hlo⟩ := X
  refine fb_wsize fun hle => ?_
  have hH := fb_hsz hsz hn hP hS hle
  obtain ⟨t, ht7, rfl, hlen, hfv⟩ := G.2.2.2.1 a hT
  obtain ⟨cell, g1, g2, g3, g4, g5, g6⟩ := fb_ro_at (a := 0) X' ht7 hS
  have g6 := g6 (by omega)
  have gI : s.vm.findClass ("[" ++ (FieldType.int).toString) = some (aC 10) := (hE.1.2 0 _ rfl).2
  have hcls : cell.cls = aC 10 := Option.some.inj (g6.symm.trans gI)
  obtain ⟨c0, t0', f1, f2, f3⟩ := Cond.castable_spec (va_Nw.use (A := args) rfl hE.2.2.1)
  have hc0 : c0 = cell.cls := Option.some.inj (f1.symm.trans g6)
  subst hc0
  rw [fb_ref_hi]
  have hcellE : ({ cls := cell.cls, slots := cell.slots } : Cell) = vp_cell (aC 10) (rl t, .inl (rf t)) := by
    rw [vp_cell_i]
    unfold arrV
    rw [hcls]
    have : cell.slots = Array.ofFn (n := rl t) fun j => .int (rf t j.val) := by
      apply Array.ext_getElem?
      intro q
      by_cases hq : q < rl t
      · rw [g5 q hq]
        simp [Array.getElem?_ofFn, hq]
      · rw [Array.getElem?_eq_none (by omega), Array.getElem?_eq_none (by simp; omega)]
    rw [this]
  have hs1 := lv_room (pc := pc) (m := m) (ls := lsr) (rest := .ref (sa t) :: r.map (fb_cv B sa)) (st := r.map (fb_cv B sa)) (by rw [fb_sum_cv]; have := fb_sum_le r; omega)
  intro T hTT Xs
  obtain ⟨-, kA, hkA, comp, hkind⟩ := State.isArrayOf_alike Xs.warmed.alike g2
  obtain ⟨hst, kS, hkS, compS, hkindS⟩ := g2
  obtain ⟨vm', X1, st1⟩ := Xs.cloneArray hx hown (hts _ hw) (hts _ fb_wcl.1.1) (hts _ fb_wcl.1.2) (hts _ fb_wcl.2.1) (hts _ fb_wcl.2.2) (a := sa t) (cell := cell) (by rw [hTT]; exact g1) hst g3 g6 f2 f3
    (fun i v hv => by
      have hk' : T.vm.classes[cell.cls]? = some kA := hkA
      have hi : i < rl t := by rw [← g4]; exact (Array.getElem?_eq_some_iff.mp hv).1
      rw [g5 i hi] at hv
      cases hv
      simp [State.fitsSlot, State.slotType?, hk', hkind]
      rfl)
    (g := F0 m pc lsr (.ref (sa t) :: r.map (fb_cv B sa))) rfl (by rw [hml]; exact hL.2.choose_spec.1.1) rfl (by rw [hb]; exact hd) (by omega) (by omega) (by omega) (by rw [g4, ← hlen]; omega) (hloader := Vm.clonesLoader_of_array hkS hkindS)
  rw [hcellE, g4] at X1
  rw [hcellE] at st1
  generalize hH1 : H.push (vp_cell (aC 10) (rl t, .inl (rf t))) = H1
  have z1 : H1.size = H.size + 1 := by rw [← hH1, Array.size_push]
  have e1 : H1[B + fb_N h]? = some (vp_cell (aC 10) (rl t, .inl (rf t))) := by rw [← hH1, ← hH, Array.getElem?_push_size]
  have o1 : ∀ q : Nat, q < B + fb_N h → H1[q]? = H[q]? := fun q hq => by rw [← hH1, Array.getElem?_push, if_neg (by omega)]
  have k1 := k H1 locs lsr (fb_grow hP (fun i hi => fb_cp_cell hi) o1 (fun i h1 h2 => ?_)) (fb_growS hS hH (by omega) o1) hL
  · rw [fb_ref_lo (by omega)] at k1
    rw [show fb_N (fb_cp h (1000000 + t)) - n0 = fb_N h - n0 + 1 by show fb_N h + 1 - n0 = _; omega, show fb_Z (fb_cp h (1000000 + t)) - z0 = fb_Z h - z0 + rl t by show fb_Z h + (fb_T h (1000000 + t)).2 - z0 = _; omega] at k1
    obtain ⟨t2, a1, b1⟩ := k1 ((T.setVm vm').pushCell (vp_cell (aC 10) (rl t, .inl (rf t)))) (by rw [← hH1, ← hTT]; rfl) X1
    refine ⟨t2, st1 t2 ?_, b1⟩
    rw [show T.heap.size = B + fb_N h by rw [hTT, hH]]
    exact a1
  · have h2 : i < fb_N h + 1 := h2
    have hi : i = fb_N h := by omega
    subst hi
    have hT' : fb_T (fb_cp h (1000000 + t)) (fb_N h) = (10, (fb_T h (1000000 + t)).2) := if_pos rfl
    have hI' : fb_I (fb_cp h (1000000 + t)) (fb_N h) = rf t := by
      funext q
      exact (if_pos rfl).trans (hfv q)
    rw [fb_cell_i (h := fb_cp h (1000000 + t)) (c := 10) (by rw [hT']) (by omega) (by omega), hT', hI', hlen]
    exact e1
end FBM
end
section
section FBG
variable {p : Program} {l : Launch} {e : Env} {R : Room} {s : State} {m : MethodId} {args : Array Value} {below : List Frame} {meth : Method} {c : Code} {Q : State → Prop}
variable {D : va_G} {aC : Nat → ClassId} {B : Nat} {sa rl : Nat → Nat} {rf : Nat → Nat → Int32} {n0 z0 j pc : Nat} {ls st : List Value} {h : fb_H} {z : Nat × List Value × List Value × fb_H}
theorem fb_mn_T0 (n k : Nat) : fb_T (fb_mn h n k) (fb_N h) = (15, n) := if_pos rfl
theorem fb_mn_T1 {n k i : Nat} (h1 : fb_N h < i) (h2 : i ≤ fb_N h + n) : fb_T (fb_mn h n k) i = (10, k) := (if_neg (by omega)).trans (if_pos ⟨h1, h2⟩)
theorem fb_mn_R0 (n k q : Nat) : fb_R (fb_mn h n k) (fb_N h) q = if q < n then some (fb_N h + 1 + q) else none := if_pos rfl
theorem fb_mn_I1 {n k i q : Nat} (h1 : fb_N h ≤ i) (h2 : i ≤ fb_N h + n) : fb_I (fb_mn h n k) i q = 0 := if_pos ⟨h1, h2⟩
theorem fb_mn_cell {n k i : Nat} (hi : i < fb_N h) : fb_cell aC B (fb_mn h n k) i = fb_cell aC B h i :=
  fb_cell_eq ((if_neg (by omega)).trans (if_neg (by omega))) (fun _ => (if_neg (by omega)).trans (if_neg (by omega))) (fun _ => if_neg (by omega))
theorem fb_outer (c : ClassId) (N h0 : Nat) : ∀ i : Nat, Jvm.Free.Multi.outerC c N h0 i = arrV c N (fun j => va_rf (if j < i then some (h0 + 1 + j) else none))
  | 0 => by
    show ({ cls := c, slots := Array.replicate N .null, vm := .none } : Cell) = _
    rw [arrV_new]
    refine congrArg (arrV c N) (funext fun j => ?_)
    simp [va_rf]
  | i + 1 => by
    show (Jvm.Free.Multi.outerC c N h0 i).setSlot i (.ref (h0 + 1 + i)) = _
    rw [fb_outer c N h0 i, arrV_store]
    refine congrArg (arrV c N) (funext fun j => ?_)
    by_cases e : j = i
    · subst e
      simp [updV, va_rf]
    · by_cases h : j < i
      · simp [updV, e, h, Nat.lt_succ_of_lt h]
      · simp [updV, e, h, show ¬ j < i + 1 by omega]
theorem fb_g_mn {i q1 : Nat} {x y : Int32} {r : List Value} (X : fb_X p R s m args meth c D aC B sa rl rf n0 j) (hn : n0 ≤ fb_N h) (hz0 : z0 ≤ fb_Z h) (hd : decode (mB j) pc = .ok (.multianewarray i 2, 4)) (hf : fb_fd fb_cl (fb_ky j i) = some (15, q1)) (hx0 : ¬ x < 0) (hy0 : ¬ y < 0) (hx1 : x.toNatClampNeg ≤ 1000) (hy1 : y.toNatClampNeg ≤ 1000) (hbig : fb_N h < 900000) (hc : fb_N h + 1 + x.toNatClampNeg - n0 ≤ R.cells) (hz' : fb_Z h + x.toNatClampNeg + x.toNatClampNeg * y.toNatClampNeg - z0 ≤ R.slots)
    (k : fb_Nx p l e R s m args below meth c Q D aC B sa n0 z0 j (fb_mn h x.toNatClampNeg y.toNatClampNeg) (pc + 4) ls (.ref (fb_N h) :: r)) : fb_Nx p l e R s m args below meth c Q D aC B sa n0 z0 j h pc ls (.int y :: .int x :: r) := by
  have hw := fb_lk_c hf
  intro H locs lsr hP hS hL
  obtain ⟨hx, hb, hml, hown, hts, hE, hsz, -⟩ := X
  refine fb_wsize fun hle => ?_
  have hH := fb_hsz hsz hn hP hS hle
  rw [fb_i_cons, fb_i_cons]
  intro T hTT Xs
  obtain ⟨vm₁, cA, comp, -, fA, fC, -, -, X', step⟩ := Xs.multianewarray2F (ty := .int) hx hown (hts _ hw) hE.2.2.2.2.2.1 (hts _ fb_wac.1) (g := F0 m pc lsr (.int y :: .int x :: r.map (fb_cv B sa))) rfl (by rw [hb]; exact hd) rfl hx0 hy0 (by omega) (by show _ * 4 ≤ _; omega) (by omega) rfl rfl (by omega) (by omega)
  have gI : s.vm.findClass ("[" ++ (FieldType.int).toString) = some (aC 10) := (hE.1.2 0 _ rfl).2
  have gA : s.vm.findClass ("[" ++ (FieldType.array .int).toString) = some (aC 15) := (hE.1.2 5 _ rfl).2
  have hcomp : comp = aC 10 := Option.some.inj (fC.symm.trans gI)
  have hcA : cA = aC 15 := Option.some.inj (fA.symm.trans gA)
  subst hcomp
  subst hcA
  generalize hF : Jvm.Free.Multi.fill (T.setVm vm₁) (aC 15) (aC 10) x.toNatClampNeg y.toNatClampNeg (defaultValue .int) x.toNatClampNeg = F at X' step
  have hTh : (T.setVm vm₁).heap = H := hTT
  obtain ⟨f1, f2, -, -⟩ := Jvm.Free.Multi.fill_facts (T.setVm vm₁) (aC 15) (aC 10) x.toNatClampNeg y.toNatClampNeg (defaultValue .int) x.toNatClampNeg
  rw [hF, hTh] at f1 f2
  have hold : ∀ q : Nat, q < B + fb_N h → F.heap[q]? = H[q]? := fun q hq => by
    have := Jvm.Free.Multi.fill_old (T.setVm vm₁) (aC 15) (aC 10) x.toNatClampNeg y.toNatClampNeg (defaultValue .int) (a := q) (by rw [hTh]; exact (show q < H.size by omega)) x.toNatClampNeg
    rw [hF, hTh] at this
    exact this
  have hrow : ∀ q : Nat, q < x.toNatClampNeg → F.heap[H.size + 1 + q]? = some (Jvm.Free.Multi.innerC (aC 10) y.toNatClampNeg (defaultValue .int)) := fun q hq => by
    have := Jvm.Free.Multi.fill_inner (T.setVm vm₁) (aC 15) (aC 10) x.toNatClampNeg y.toNatClampNeg (defaultValue .int) x.toNatClampNeg q hq
    rw [hF, hTh] at this
    exact this
  rw [fb_outer] at f2
  have k1 := k F.heap locs lsr (fb_grow hP (fun i hi => fb_mn_cell hi) hold (fun i h1 h2 => ?_)) (fb_growS hS hH (by omega) hold) hL
  · rw [fb_ref_lo (by omega)] at k1
    rw [show fb_N (fb_mn h x.toNatClampNeg y.toNatClampNeg) - n0 = fb_N h - n0 + 1 + x.toNatClampNeg by show fb_N h + 1 + x.toNatClampNeg - n0 = _; omega, show fb_Z (fb_mn h x.toNatClampNeg y.toNatClampNeg) - z0 = fb_Z h - z0 + x.toNatClampNeg + x.toNatClampNeg * y.toNatClampNeg by show fb_Z h + x.toNatClampNeg + x.toNatClampNeg * y.toNatClampNeg - z0 = _; omega] at k1
    obtain ⟨t2, a1, b1⟩ := k1 F rfl X'
    refine ⟨t2, step t2 ?_, b1⟩
    rw [show T.heap.size = B + fb_N h by rw [hTT, hH]]
    exact a1
  · have h2 : i < fb_N h + 1 + x.toNatClampNeg := h2
    by_cases hi : i = fb_N h
    · subst hi
      rw [fb_cell_q (h := fb_mn h x.toNatClampNeg y.toNatClampNeg) (c := 15) (by rw [fb_mn_T0]) (by omega)]
      show F.heap[B + fb_N h]? = some (vp_cell _ _)
      rw [← hH, f2, fb_mn_T0, vp_cell_q]
      refine congrArg (fun f => some (arrV (aC 15) x.toNatClampNeg f)) (funext fun q => ?_)
      rw [fb_mn_R0, hH]
      by_cases hq : q < x.toNatClampNeg
      · rw [if_pos hq, if_pos hq]
        have e9 : B + fb_N h + 1 + q = B + (fb_N h + 1 + q) := by omega
        show Value.ref (B + fb_N h + 1 + q) = Value.ref (B + (fb_N h + 1 + q))
        rw [e9]
      · rw [if_neg hq, if_neg hq]
        rfl
    · rw [fb_cell_i (h := fb_mn h x.toNatClampNeg y.toNatClampNeg) (c := 10) (by rw [fb_mn_T1 (by omega) (by omega)]) (by omega) (by omega)]
      show F.heap[B + i]? = some (vp_cell _ _)
      have := hrow (i - fb_N h - 1) (by omega)
      rw [show H.size + 1 + (i - fb_N h - 1) = B + i by omega] at this
      rw [this, fb_mn_T1 (by omega) (by omega), vp_cell_i]
      unfold Jvm.Free.Multi.innerC
      rw [arrV_new]
      refine congrArg (fun f => some (arrV (aC 10) y.toNatClampNeg f)) (funext fun q => ?_)
      rw [fb_mn_I1 (by omega) (by omega)]
      rfl
end FBG
end
section
theorem fb_G_sI {rl : Nat → Nat} {rf : Nat → Nat → Int32} {h : fb_H} {a k : Nat} {v : Int32} (G : fb_G rl rf h) (hT : (fb_T h a).1 < 16) : fb_G rl rf (fb_sI h a k v) := by
  obtain ⟨g1, g2, g3, g4, g5⟩ := G
  refine ⟨g1, g2, g3, fun i hi => ?_, g5⟩
  rw [fb_sI_T] at hi
  obtain ⟨q, h1, h2, h3, h4⟩ := g4 i hi
  refine ⟨q, h1, h2, h3, fun w => ?_⟩
  rw [fb_sI_I, if_neg (fun hh => by rw [hh.1] at hi; omega)]
  exact h4 w
theorem fb_G_sR {rl : Nat → Nat} {rf : Nat → Nat → Int32} {h : fb_H} {a k b : Nat} (G : fb_G rl rf h) (hb : b < fb_N h) : fb_G rl rf (fb_sR h a k (some b)) := by
  obtain ⟨g1, g2, g3, g4, g5⟩ := G
  refine ⟨g1, fun i q w hw => ?_, g3, g4, g5⟩
  rw [fb_sR_R] at hw
  split at hw
  · cases hw; exact hb
  · exact g2 i q w hw
theorem fb_G_nw {rl : Nat → Nat} {rf : Nat → Nat → Int32} {h : fb_H} {kd n w : Nat} (G : fb_G rl rf h) (hk : kd < 8 ∨ (10 ≤ kd ∧ kd < 16)) (hN : fb_N h < 900000) : fb_G rl rf (fb_nw h kd n w) := by
  obtain ⟨g1, g2, g3, g4, g5⟩ := G
  have eT : ∀ i, fb_T (fb_nw h kd n w) i = if i = fb_N h then (kd, n) else fb_T h i := fun _ => rfl
  have eR : ∀ i q, fb_R (fb_nw h kd n w) i q = if i = fb_N h then none else fb_R h i q := fun _ _ => rfl
  have eI : ∀ i q, fb_I (fb_nw h kd n w) i q = if i = fb_N h then 0 else fb_I h i q := fun _ _ => rfl
  have eN : fb_N (fb_nw h kd n w) = fb_N h + 1 := rfl
  refine ⟨by omega, fun i q b hb => ?_, fun i hi => ?_, fun i hi => ?_, fun i hi => ?_⟩
  · rw [eR] at hb
    split at hb
    · cases hb
    · have := g2 i q b hb; omega
  · rw [eT] at hi
    split at hi
    · omega
    · have := g3 i hi; omega
  · rw [eT] at hi
    split at hi
    · have hi : kd = 16 := hi; omega
    · rename_i hne
      obtain ⟨q, h1, h2, h3, h4⟩ := g4 i hi
      refine ⟨q, h1, h2, by rw [eT, if_neg hne]; exact h3, fun w => by rw [eI, if_neg hne]; exact h4 w⟩
  · rw [eT]
    split
    · exact hk
    · exact g5 i (by omega)
theorem fb_G_cp {rl : Nat → Nat} {rf : Nat → Nat → Int32} {h : fb_H} {a : Nat} (G : fb_G rl rf h) (hN : fb_N h < 900000) : fb_G rl rf (fb_cp h a) := by
  obtain ⟨g1, g2, g3, g4, g5⟩ := G
  have eT : ∀ i, fb_T (fb_cp h a) i = if i = fb_N h then (10, (fb_T h a).2) else fb_T h i := fun _ => rfl
  have eR : ∀ i q, fb_R (fb_cp h a) i q = if i = fb_N h then none else fb_R h i q := fun _ _ => rfl
  have eI : ∀ i q, fb_I (fb_cp h a) i q = if i = fb_N h then fb_I h a q else fb_I h i q := fun _ _ => rfl
  have eN : fb_N (fb_cp h a) = fb_N h + 1 := rfl
  refine ⟨by omega, fun i q b hb => ?_, fun i hi => ?_, fun i hi => ?_, fun i hi => ?_⟩
  · rw [eR] at hb
    split at hb
    · cases hb
    · have := g2 i q b hb; omega
  · rw [eT] at hi
    split at hi
    · omega
    · have := g3 i hi; omega
  · rw [eT] at hi
    split at hi
    · have hi : 10 = 16 := hi; omega
    · rename_i hne
      obtain ⟨q, h1, h2, h3, h4⟩ := g4 i hi
      refine ⟨q, h1, h2, by rw [eT, if_neg hne]; exact h3, fun w => by rw [eI, if_neg hne]; exact h4 w⟩
  · rw [eT]
    split
    · exact Or.inr ⟨Nat.le_refl 10, by show 10 < 16; omega⟩
    · exact g5 i (by omega)
theorem fb_G_mn {rl : Nat → Nat} {rf : Nat → Nat → Int32} {h : fb_H} {n k : Nat} (G : fb_G rl rf h) (hN : fb_N h < 900000) (hn : n ≤ 1000) : fb_G rl rf (fb_mn h n k) := by
  obtain ⟨g1, g2, g3, g4, g5⟩ := G
  have eT : ∀ i, fb_T (fb_mn h n k) i = if i = fb_N h then (15, n) else if fb_N h < i ∧ i ≤ fb_N h + n then (10, k) else fb_T h i := fun _ => rfl
  have eR : ∀ i q, fb_R (fb_mn h n k) i q = if i = fb_N h then (if q < n then some (fb_N h + 1 + q) else none) else if fb_N h < i ∧ i ≤ fb_N h + n then none else fb_R h i q := fun _ _ => rfl
  have eI : ∀ i q, fb_I (fb_mn h n k) i q = if fb_N h ≤ i ∧ i ≤ fb_N h + n then 0 else fb_I h i q := fun _ _ => rfl
  have eN : fb_N (fb_mn h n k) = fb_N h + 1 + n := rfl
  refine ⟨by omega, fun i q b hb => ?_, fun i hi => ?_, fun i hi => ?_, fun i hi => ?_⟩
  · rw [eR] at hb
    split at hb
    · split at hb
      · cases hb; omega
      · cases hb
    · split at hb
      · cases hb
      · have := g2 i q b hb; omega
  · rw [eT] at hi
    split at hi
    · omega
    · split at hi
      · omega
      · have := g3 i hi; omega
  · rw [eT] at hi
    split at hi
    · have hi : 15 = 16 := hi; omega
    · rename_i hne
      split at hi
      · have hi : 10 = 16 := hi; omega
      · rename_i hne2
        obtain ⟨q, h1, h2, h3, h4⟩ := g4 i hi
        refine ⟨q, h1, h2, by rw [eT, if_neg hne, if_neg hne2]; exact h3, fun w => by rw [eI, if_neg (by omega)]; exact h4 w⟩
  · rw [eT]
    split
    · exact Or.inr ⟨by show 10 ≤ 15; omega, by show 15 < 16; omega⟩
    · split
      · exact Or.inr ⟨Nat.le_refl 10, by show 10 < 16; omega⟩
      · exact g5 i (by omega)
section FBP
variable {p : Program} {l : Launch} {e : Env} {R : Room} {s : State} {m : MethodId} {args : Array Value} {below : List Frame} {meth : Method} {c : Code} {Q : State → Prop}
variable {D : va_G} {aC : Nat → ClassId} {B : Nat} {sa rl : Nat → Nat} {rf : Nat → Nat → Int32} {n0 z0 j pc : Nat} {ls st : List Value} {h : fb_H} {z : Nat × List Value × List Value × fb_H}
/-- a step as the walk wants it: what it says of the heap, and the walk from behind it -/
def fb_GN (rl : Nat → Nat) (rf : Nat → Nat → Int32) (h h' : fb_H) : Prop := fb_G rl rf h' ∧ fb_N h ≤ fb_N h' ∧ fb_Z h ≤ fb_Z h'
theorem fb_same (G : fb_G rl rf h) : fb_GN rl rf h h := ⟨G, Nat.le_refl _, Nat.le_refl _⟩
theorem fb_g_if {kk : Jvm.ClassFile.Cond} {off : Int} (X : fb_X p R s m args meth c D aC B sa rl rf n0 j) (hd : decode (mB j) pc = .ok (.ifCond kk off, 3)) (hs : (match st with
    | .int x :: r => if 0 ≤ (pc : Int) + off then (if fb_c kk x 0 = true then some (fb_to pc off, ls, r, h) else some (pc + 3, ls, r, h)) else none
    | _ => none) = some z)
    (k : fb_Nx p l e R s m args below meth c Q D aC B sa n0 z0 j z.2.2.2 z.1 z.2.1 z.2.2.1) : fb_Nx p l e R s m args below meth c Q D aC B sa n0 z0 j h pc ls st := by
  split at hs
  · split at hs
    · rename_i hneg
      have ht : (pc : Int) + off = (fb_to pc off : Int) := (Int.toNat_of_nonneg hneg).symm
      split at hs
      · rename_i hcc
        cases hs
        intro H locs lsr hP hS hL
        have k1 := k H locs lsr hP hS hL
        cases kk <;> simp only [fb_c, Bool.not_eq_true', decide_eq_true_eq, decide_eq_false_iff_not] at hcc
        · exact lv_if_eq X.1 X.2.1 hd ht (fun _ => k1) (fun w => absurd hcc w)
        · exact lv_if_ne X.1 X.2.1 hd ht (fun _ => k1) (fun w => absurd w hcc)
        · exact lv_if_lt X.1 X.2.1 hd ht (fun _ => k1) (fun w => absurd hcc w)
        · exact lv_if_ge X.1 X.2.1 hd ht (fun _ => k1) (fun w => absurd hcc w)
        · exact lv_if_gt X.1 X.2.1 hd ht (fun _ => k1) (fun w => absurd hcc w)
        · exact lv_if_le X.1 X.2.1 hd ht (fun _ => k1) (fun w => absurd hcc w)
      · rename_i hcc
        cases hs
        intro H locs lsr hP hS hL
        have k1 := k H locs lsr hP hS hL
        cases kk <;> simp only [fb_c, Bool.not_eq_true', decide_eq_true_eq, decide_eq_false_iff_not, Bool.not_eq_false', Bool.not_eq_true, Bool.not_not] at hcc
        · exact lv_if_eq X.1 X.2.1 hd ht (fun w => absurd w hcc) (fun _ => k1)
        · exact lv_if_ne X.1 X.2.1 hd ht (fun w => absurd w hcc) (fun _ => k1)
        · exact lv_if_lt X.1 X.2.1 hd ht (fun w => absurd w hcc) (fun _ => k1)
        · exact lv_if_ge X.1 X.2.1 hd ht (fun w => absurd w hcc) (fun _ => k1)
        · exact lv_if_gt X.1 X.2.1 hd ht (fun w => absurd w hcc) (fun _ => k1)
        · exact lv_if_le X.1 X.2.1 hd ht (fun w => absurd w hcc) (fun _ => k1)
    · cases hs
  · cases hs
theorem fb_g_ic {kk : Jvm.ClassFile.Cond} {off : Int} (X : fb_X p R s m args meth c D aC B sa rl rf n0 j) (hd : decode (mB j) pc = .ok (.if_icmp kk off, 3)) (hs : (match st with
    | .int y :: .int x :: r => if 0 ≤ (pc : Int) + off then (if fb_c kk x y = true then some (fb_to pc off, ls, r, h) else some (pc + 3, ls, r, h)) else none
    | _ => none) = some z)
    (k : fb_Nx p l e R s m args below meth c Q D aC B sa n0 z0 j z.2.2.2 z.1 z.2.1 z.2.2.1) : fb_Nx p l e R s m args below meth c Q D aC B sa n0 z0 j h pc ls st := by
  split at hs
  · split at hs
    · rename_i hneg
      have ht : (pc : Int) + off = (fb_to pc off : Int) := (Int.toNat_of_nonneg hneg).symm
      split at hs
      · rename_i hcc
        cases hs
        intro H locs lsr hP hS hL
        have k1 := k H locs lsr hP hS hL
        cases kk <;> simp only [fb_c, Bool.not_eq_true', decide_eq_true_eq, decide_eq_false_iff_not] at hcc
        · exact lv_icmp_eq X.1 X.2.1 hd ht (fun _ => k1) (fun w => absurd hcc w)
        · exact lv_icmp_ne X.1 X.2.1 hd ht (fun _ => k1) (fun w => absurd w hcc)
        · exact lv_icmp_lt X.1 X.2.1 hd ht (fun _ => k1) (fun w => absurd hcc w)
        · exact lv_icmp_ge X.1 X.2.1 hd ht (fun _ => k1) (fun w => absurd hcc w)
        · exact lv_icmp_gt X.1 X.2.1 hd ht (fun _ => k1) (fun w => absurd hcc w)
        · exact lv_icmp_le X.1 X.2.1 hd ht (fun _ => k1) (fun w => absurd hcc w)
      · rename_i hcc
        cases hs
        intro H locs lsr hP hS hL
        have k1 := k H locs lsr hP hS hL
        cases kk <;> simp only [fb_c, Bool.not_eq_true', decide_eq_true_eq, decide_eq_false_iff_not, Bool.not_eq_false', Bool.not_eq_true, Bool.not_not] at hcc
        · exact lv_icmp_eq X.1 X.2.1 hd ht (fun w => absurd w hcc) (fun _ => k1)
        · exact lv_icmp_ne X.1 X.2.1 hd ht (fun w => absurd w hcc) (fun _ => k1)
        · exact lv_icmp_lt X.1 X.2.1 hd ht (fun w => absurd w hcc) (fun _ => k1)
        · exact lv_icmp_ge X.1 X.2.1 hd ht (fun w => absurd w hcc) (fun _ => k1)
        · exact lv_icmp_gt X.1 X.2.1 hd ht (fun w => absurd w hcc) (fun _ => k1)
        · exact lv_icmp_le X.1 X.2.1 hd ht (fun w => absurd w hcc) (fun _ => k1)
    · cases hs
  · cases hs
theorem fb_row {ins : Instr} {len : Nat} (X : fb_X p R s m args meth c D aC B sa rl rf n0 j) (G : fb_G rl rf h) (hn : n0 ≤ fb_N h) (hz0 : z0 ≤ fb_Z h) (hd : decode (mB j) pc = .ok (ins, len)) (hs : fb_st j ins len pc ls st h = some z) (hc : fb_N z.2.2.2 - n0 ≤ R.cells) (hz' : fb_Z z.2.2.2 - z0 ≤ R.slots)
    (k : fb_Nx p l e R s m args below meth c Q D aC B sa n0 z0 j z.2.2.2 z.1 z.2.1 z.2.2.1) : fb_Nx p l e R s m args below meth c Q D aC B sa n0 z0 j h pc ls st := by
  unfold fb_st at hs
  split at hs
  · cases hs
    exact fun H locs lsr hP hS hL => lv_iconst X.1 X.2.1 hd rfl (k H locs lsr hP hS hL)
  · cases hs
    exact fun H locs lsr hP hS hL => lv_bipush X.1 X.2.1 hd rfl (k H locs lsr hP hS hL)
  · cases hs
    exact fun H locs lsr hP hS hL => lv_sipush X.1 X.2.1 hd rfl (k H locs lsr hP hS hL)
  · cases hs
    exact fun H locs lsr hP hS hL => lv_lconst X.1 X.2.1 hd rfl (k H locs lsr hP hS hL)
  · obtain ⟨v, hv, rfl⟩ := Option.map_eq_some_iff.mp hs
    exact fun H locs lsr hP hS hL => lv_ldc X.1 X.2.1 X.2.2.2.1 (X.2.2.2.2.1 _ (fb_lk_i hv)) hd (k H locs lsr hP hS hL)
  · obtain ⟨v, hv, rfl⟩ := Option.map_eq_some_iff.mp hs
    exact fun H locs lsr hP hS hL => lv_ldcw X.1 X.2.1 X.2.2.2.1 (X.2.2.2.2.1 _ (fb_lk_i hv)) hd (k H locs lsr hP hS hL)
  · obtain ⟨v, hv, rfl⟩ := Option.map_eq_some_iff.mp hs
    exact fun H locs lsr hP hS hL => lv_ldc2 X.1 X.2.1 X.2.2.2.1 (X.2.2.2.2.1 _ (fb_lk_j hv)) hd (k H locs lsr hP hS hL)
  · exact fb_g_ldi hs (fun H locs lsr rest x hl k => lv_iload_n X.1 X.2.1 hd rfl hl k) k
  · exact fb_g_ldi hs (fun H locs lsr rest x hl k => lv_iload X.1 X.2.1 hd hl k) k
  · exact fb_g_ldl hs (fun H locs lsr rest x hl k => lv_lload_n X.1 X.2.1 hd rfl hl k) k
  · exact fb_g_lda hs (fun H locs lsr rest x hl k => lv_aload_n X.1 X.2.1 hd rfl hl k) k
  · exact fb_g_lda hs (fun H locs lsr rest x hl k => lv_aload X.1 X.2.1 hd hl k) k
  · exact fb_g_sto hs (fun H locs lsr rest x lv hl hn kk => lv_istore_n X.1 X.2.1 hd rfl hl hn rfl kk) k
  · exact fb_g_sto hs (fun H locs lsr rest x lv hl hn kk => lv_istore X.1 X.2.1 hd hl hn rfl kk) k
  · exact fb_g_sta hs (fun H locs lsr rest x lv hl hn kk => lv_astore_n X.1 X.2.1 hd rfl hl hn rfl kk) k
  · exact fb_g_sta hs (fun H locs lsr rest x lv hl hn kk => lv_astore X.1 X.2.1 hd hl hn rfl kk) k
  · split at hs
    · rename_i x hx
      obtain ⟨l1, h1, rfl⟩ := Option.map_eq_some_iff.mp hs
      intro H locs lsr hP hS hL
      obtain ⟨hnn, lv, hl, hm⟩ := hL
      obtain ⟨h2, h3⟩ := fb_put h1 hnn hm
      obtain ⟨q, hq⟩ := List.getElem?_of_mem (hm _ _ hx (fun w => by cases w))
      exact lv_iinc X.1 X.2.1 hd hl hq rfl h2 rfl (fun ls' h' => k H locs ls' hP hS (h3 ls' h'))
    · cases hs
  · exact fb_g_b2 hs (fun H locs lsr rest x y k => lv_iadd X.1 X.2.1 hd k) k
  · exact fb_g_b2 hs (fun H locs lsr rest x y k => lv_isub X.1 X.2.1 hd k) k
  · exact fb_g_b2 hs (fun H locs lsr rest x y k => lv_imul X.1 X.2.1 hd k) k
  · exact fb_g_b2 hs (fun H locs lsr rest x y k => lv_iand X.1 X.2.1 hd k) k
  · exact fb_g_b2 hs (fun H locs lsr rest x y k => lv_ior X.1 X.2.1 hd k) k
  · exact fb_g_b2 hs (fun H locs lsr rest x y k => lv_ixor X.1 X.2.1 hd k) k
  · exact fb_g_b2 hs (fun H locs lsr rest x y k => lv_ishl X.1 X.2.1 hd k) k
  · exact fb_g_b2 hs (fun H locs lsr rest x y k => lv_ishr X.1 X.2.1 hd k) k
  · exact fb_g_b2 hs (fun H locs lsr rest x y k => lv_iushr X.1 X.2.1 hd rfl k) k
  · split at hs
    · split at hs
      · cases hs
      · rename_i hne
        cases hs
        exact fun H locs lsr hP hS hL => lv_idiv X.1 X.2.1 hd hne (k H locs lsr hP hS hL)
    · cases hs
  · split at hs
    · split at hs
      · cases hs
      · rename_i hne
        cases hs
        exact fun H locs lsr hP hS hL => lv_irem X.1 X.2.1 hd hne (k H locs lsr hP hS hL)
    · cases hs
  · split at hs
    · cases hs
      exact fun H locs lsr hP hS hL => lv_ineg X.1 X.2.1 hd (k H locs lsr hP hS hL)
    · cases hs
  · exact fb_g_l2 (fun _ _ => rfl) hs (fun H locs lsr rest x y k => lv_land X.1 X.2.1 hd k) k
  · exact fb_g_l2 (fun _ _ => rfl) hs (fun H locs lsr rest x y k => lv_lor X.1 X.2.1 hd k) k
  · exact fb_g_l2 (fun _ _ => rfl) hs (fun H locs lsr rest x y k => W.lcmp X.1 X.2.1 hd k) k
  · exact fb_g_ls hs (fun H locs lsr rest x y k => lv_lshl X.1 X.2.1 hd rfl k) k
  · exact fb_g_ls hs (fun H locs lsr rest x y k => lv_lshr X.1 X.2.1 hd rfl k) k
  · exact fb_g_ls hs (fun H locs lsr rest x y k => lv_lushr X.1 X.2.1 hd rfl k) k
  · split at hs
    · cases hs
      exact fun H locs lsr hP hS hL => lv_i2l X.1 X.2.1 hd rfl (k H locs lsr hP hS hL)
    · cases hs
  · split at hs
    · cases hs
      exact fun H locs lsr hP hS hL => lv_l2i X.1 X.2.1 hd rfl (k H locs lsr hP hS hL)
    · cases hs
  · split at hs
    · cases hs
      exact fun H locs lsr hP hS hL => lv_i2c X.1 X.2.1 hd rfl (k H locs lsr hP hS hL)
    · cases hs
  · split at hs
    · split at hs
      · rename_i hcat
        cases hs
        exact fun H locs lsr hP hS hL => lv_dup X.1 X.2.1 hd (by rw [fb_cat]; exact hcat) (k H locs lsr hP hS hL)
      · cases hs
    · cases hs
  · split at hs
    · split at hs
      · rename_i hcat
        cases hs
        exact fun H locs lsr hP hS hL => lv_dup2_11 X.1 X.2.1 hd (by rw [fb_cat]; exact hcat.1) (by rw [fb_cat]; exact hcat.2) (k H locs lsr hP hS hL)
      · cases hs
    · cases hs
  · exact fb_g_j hs (fun H locs lsr ht k => lv_goto X.1 X.2.1 hd ht k) rfl k
  · exact fb_g_if X hd hs k
  · exact fb_g_ic X hd hs k
  · split at hs
    · split at hs
      · rename_i hcc
        exact fb_g_j hs (fun H locs lsr ht k => lv_tableOut X.1 X.2.1 hd hcc ht k) rfl k
      · rename_i hcc
        split at hs
        · rename_i off ho
          exact fb_g_j hs (fun H locs lsr ht k => lv_tableIn X.1 X.2.1 hd (fun w => hcc (Or.inl w)) (fun w => hcc (Or.inr w)) ho ht k) rfl k
        · cases hs
    · cases hs
  · split at hs
    · split at hs
      · rename_i hcc
        exact fb_g_j hs (fun H locs lsr ht k => lv_lookup X.1 X.2.1 hd hcc rfl ht k) rfl k
      · cases hs
    · cases hs
  · exact fb_g_gf X G hd hs k
  · exact fb_g_pf X G hd hs k
  · obtain ⟨⟨v, q⟩, hv, rfl⟩ := Option.map_eq_some_iff.mp hs
    exact fb_g_gets X hd hv k
  · exact fb_g_iald X G hd hs k
  · exact fb_g_zald X G hd hs k
  · exact fb_g_cald X G hd hs k
  · split at hs
    · split at hs
      · rename_i hcc
        obtain ⟨v, hv, rfl⟩ := Option.map_eq_some_iff.mp hs
        exact fb_g_aald X G hd hcc.1 (fb_in_of hcc.2) hv k
      · cases hs
    · cases hs
  · exact fb_g_iast X G hd hs k
  · exact fb_g_zast X G hd hs k
  · exact fb_g_cast X G hd hs k
  · split at hs
    · split at hs
      · rename_i hcc
        cases hs
        exact fb_g_aast X G hd hcc.1 (fb_in_of hcc.2) k
      · cases hs
    · cases hs
  · split at hs
    · split at hs
      · rename_i hcc
        cases hs
        exact fb_g_alen X G hd hcc.1 hcc.2 k
      · cases hs
    · cases hs
  · split at hs
    · rename_i hf
      split at hs
      · rename_i hcc
        cases hs
        exact fb_g_new X hn hz0 hd hf hcc.1 hcc.2 hc hz' k
      · cases hs
    · cases hs
  · split at hs
    · split at hs
      · obtain ⟨h1, h2, h3, rfl⟩ := fb_na_of hs
        exact fb_g_na (t0 := 0) (Or.inl ⟨rfl, rfl, rfl⟩) X hn hz0 hd h1 h2 h3 hc hz' k
      · obtain ⟨h1, h2, h3, rfl⟩ := fb_na_of hs
        exact fb_g_na (t0 := 1) (Or.inr (Or.inl ⟨rfl, rfl, rfl⟩)) X hn hz0 hd h1 h2 h3 hc hz' k
      · obtain ⟨h1, h2, h3, rfl⟩ := fb_na_of hs
        exact fb_g_na (t0 := 2) (Or.inr (Or.inr ⟨rfl, rfl, rfl⟩)) X hn hz0 hd h1 h2 h3 hc hz' k
      · cases hs
    · cases hs
  · split at hs
    · split at hs
      · rename_i hf
        obtain ⟨h1, h2, h3, rfl⟩ := fb_na_of hs
        exact fb_g_nq (t0 := 3) (Or.inl ⟨rfl, rfl, rfl⟩) X hn hz0 hd hf h1 h2 h3 hc hz' k
      · rename_i hf
        obtain ⟨h1, h2, h3, rfl⟩ := fb_na_of hs
        exact fb_g_nq (t0 := 4) (Or.inr ⟨rfl, rfl, rfl⟩) X hn hz0 hd hf h1 h2 h3 hc hz' k
      · cases hs
    · cases hs
  · split at hs
    · split at hs
      · rename_i hf
        split at hs
        · rename_i hcc
          cases hs
          exact fb_g_mn X hn hz0 hd hf hcc.1 hcc.2.1 hcc.2.2.1 hcc.2.2.2.1 hcc.2.2.2.2 hc hz' k
        · cases hs
      · cases hs
    · cases hs
  · split at hs
    · split at hs
      · rename_i hf
        split at hs
        · rename_i hcc
          cases hs
          exact fb_g_cc X G hd hf hcc k
        · cases hs
      · cases hs
    · cases hs
  · split at hs
    · split at hs
      · rename_i hf
        split at hs
        · rename_i hcc
          cases hs
          exact fb_g_oi X hd hf hcc.1 hcc.2 k
        · cases hs
      · cases hs
    · cases hs
  · split at hs
    · split at hs
      · rename_i hf
        split at hs
        · rename_i hcc
          cases hs
          exact fb_g_cl X G hn hz0 hd hf hcc.1 hcc.2.1 hcc.2.2.1 hcc.2.2.2.1 hcc.2.2.2.2.1 hcc.2.2.2.2.2 hc hz' k
        · cases hs
      · cases hs
    · cases hs
  · cases hs
theorem fb_pres {ins : Instr} {len : Nat} (G : fb_G rl rf h) (hs : fb_st j ins len pc ls st h = some z) : fb_GN rl rf h z.2.2.2 := by
  unfold fb_st at hs
  split at hs
  · cases hs
    exact fb_same G
  · cases hs
    exact fb_same G
  · cases hs
    exact fb_same G
  · cases hs
    exact fb_same G
  · obtain ⟨v, hv, rfl⟩ := Option.map_eq_some_iff.mp hs
    exact fb_same G
  · obtain ⟨v, hv, rfl⟩ := Option.map_eq_some_iff.mp hs
    exact fb_same G
  · obtain ⟨v, hv, rfl⟩ := Option.map_eq_some_iff.mp hs
    exact fb_same G
  · obtain ⟨x, hx, rfl⟩ := fb_ldi_of hs
    exact fb_same G
  · obtain ⟨x, hx, rfl⟩ := fb_ldi_of hs
    exact fb_same G
  · obtain ⟨x, hx, rfl⟩ := fb_ldl_of hs
    exact fb_same G
  · obtain ⟨x, hx, rfl⟩ := fb_lda_of hs
    exact fb_same G
  · obtain ⟨x, hx, rfl⟩ := fb_lda_of hs
    exact fb_same G
  · obtain ⟨x, r, l, rfl, hx, rfl⟩ := fb_sto_of hs
    exact fb_same G
  · obtain ⟨x, r, l, rfl, hx, rfl⟩ := fb_sto_of hs
    exact fb_same G
  · obtain ⟨x, r, l, rfl, hx, rfl⟩ := fb_sta_of hs
    exact fb_same G
  · obtain ⟨x, r, l, rfl, hx, rfl⟩ := fb_sta_of hs
    exact fb_same G
  · split at hs
    · obtain ⟨l1, h1, rfl⟩ := Option.map_eq_some_iff.mp hs
      exact fb_same G
    · cases hs
  · obtain ⟨x, y, r, rfl, rfl⟩ := fb_b2_of hs
    exact fb_same G
  · obtain ⟨x, y, r, rfl, rfl⟩ := fb_b2_of hs
    exact fb_same G
  · obtain ⟨x, y, r, rfl, rfl⟩ := fb_b2_of hs
    exact fb_same G
  · obtain ⟨x, y, r, rfl, rfl⟩ := fb_b2_of hs
    exact fb_same G
  · obtain ⟨x, y, r, rfl, rfl⟩ := fb_b2_of hs
    exact fb_same G
  · obtain ⟨x, y, r, rfl, rfl⟩ := fb_b2_of hs
    exact fb_same G
  · obtain ⟨x, y, r, rfl, rfl⟩ := fb_b2_of hs
    exact fb_same G
  · obtain ⟨x, y, r, rfl, rfl⟩ := fb_b2_of hs
    exact fb_same G
  · obtain ⟨x, y, r, rfl, rfl⟩ := fb_b2_of hs
    exact fb_same G
  · split at hs
    · split at hs
      · cases hs
      · cases hs
        exact fb_same G
    · cases hs
  · split at hs
    · split at hs
      · cases hs
      · cases hs
        exact fb_same G
    · cases hs
  · split at hs
    · cases hs
      exact fb_same G
    · cases hs
  · obtain ⟨x, y, r, rfl, rfl⟩ := fb_l2_of hs
    exact fb_same G
  · obtain ⟨x, y, r, rfl, rfl⟩ := fb_l2_of hs
    exact fb_same G
  · obtain ⟨x, y, r, rfl, rfl⟩ := fb_l2_of hs
    exact fb_same G
  · obtain ⟨x, y, r, rfl, rfl⟩ := fb_ls_of hs
    exact fb_same G
  · obtain ⟨x, y, r, rfl, rfl⟩ := fb_ls_of hs
    exact fb_same G
  · obtain ⟨x, y, r, rfl, rfl⟩ := fb_ls_of hs
    exact fb_same G
  · split at hs
    · cases hs
      exact fb_same G
    · cases hs
  · split at hs
    · cases hs
      exact fb_same G
    · cases hs
  · split at hs
    · cases hs
      exact fb_same G
    · cases hs
  · split at hs
    · split at hs
      · cases hs
        exact fb_same G
      · cases hs
    · cases hs
  · split at hs
    · split at hs
      · cases hs
        exact fb_same G
      · cases hs
    · cases hs
  · obtain ⟨-, rfl⟩ := fb_j_of hs
    exact fb_same G
  · split at hs
    · split at hs
      · split at hs
        · cases hs
          exact fb_same G
        · cases hs
          exact fb_same G
      · cases hs
    · cases hs
  · split at hs
    · split at hs
      · split at hs
        · cases hs
          exact fb_same G
        · cases hs
          exact fb_same G
      · cases hs
    · cases hs
  · split at hs
    · split at hs
      · obtain ⟨-, rfl⟩ := fb_j_of hs
        exact fb_same G
      · split at hs
        · obtain ⟨-, rfl⟩ := fb_j_of hs
          exact fb_same G
        · cases hs
    · cases hs
  · split at hs
    · split at hs
      · obtain ⟨-, rfl⟩ := fb_j_of hs
        exact fb_same G
      · cases hs
    · cases hs
  · obtain ⟨a, r, c, k, rfl, hf, hT, ⟨-, b, hb, rfl⟩ | ⟨-, rfl⟩⟩ := fb_gf_of hs
    · exact fb_same G
    · exact fb_same G
  · obtain ⟨a, r, c1, k1, hf, hT, hz⟩ := fb_pf_of hs
    have h8 := (fb_lk_f hf).1
    rcases hz with ⟨v, rfl, -, -, rfl⟩ | ⟨b, rfl, -, hb, -, -, -, rfl⟩
    · exact ⟨fb_G_sI G (by omega), Nat.le_refl _, Nat.le_refl _⟩
    · exact ⟨fb_G_sR G hb, Nat.le_refl _, Nat.le_refl _⟩
  · obtain ⟨v, hv, rfl⟩ := Option.map_eq_some_iff.mp hs
    exact fb_same G
  · obtain ⟨x, a, r, rfl, hT, hin, rfl⟩ := fb_el_of hs
    exact fb_same G
  · obtain ⟨x, a, r, rfl, hT, hin, rfl⟩ := fb_el_of hs
    exact fb_same G
  · obtain ⟨x, a, r, rfl, hT, hin, rfl⟩ := fb_el_of hs
    exact fb_same G
  · split at hs
    · split at hs
      · obtain ⟨v, hv, rfl⟩ := Option.map_eq_some_iff.mp hs
        exact fb_same G
      · cases hs
    · cases hs
  · obtain ⟨v, x, a, r, rfl, hT, hin, rfl⟩ := fb_es_of hs
    exact ⟨fb_G_sI G (by omega), Nat.le_refl _, Nat.le_refl _⟩
  · obtain ⟨v, x, a, r, rfl, hT, hin, rfl⟩ := fb_es_of hs
    exact ⟨fb_G_sI G (by omega), Nat.le_refl _, Nat.le_refl _⟩
  · obtain ⟨v, x, a, r, rfl, hT, hin, rfl⟩ := fb_es_of hs
    exact ⟨fb_G_sI G (by omega), Nat.le_refl _, Nat.le_refl _⟩
  · split at hs
    · split at hs
      · rename_i hcc
        cases hs
        exact ⟨fb_G_sR G (G.2.2.1 _ (by omega)), Nat.le_refl _, Nat.le_refl _⟩
      · cases hs
    · cases hs
  · split at hs
    · split at hs
      · cases hs
        exact fb_same G
      · cases hs
    · cases hs
  · split at hs
    · split at hs
      · rename_i hcc
        cases hs
        exact ⟨fb_G_nw G (Or.inl hcc.1) hcc.2, Nat.le_add_right _ _, Nat.le_add_right _ _⟩
      · cases hs
    · cases hs
  · split at hs
    · split at hs
      · obtain ⟨h1, h2, h3, rfl⟩ := fb_na_of hs
        exact ⟨fb_G_nw G (Or.inr (by omega)) h3, Nat.le_add_right _ _, Nat.le_add_right _ _⟩
      · obtain ⟨h1, h2, h3, rfl⟩ := fb_na_of hs
        exact ⟨fb_G_nw G (Or.inr (by omega)) h3, Nat.le_add_right _ _, Nat.le_add_right _ _⟩
      · obtain ⟨h1, h2, h3, rfl⟩ := fb_na_of hs
        exact ⟨fb_G_nw G (Or.inr (by omega)) h3, Nat.le_add_right _ _, Nat.le_add_right _ _⟩
      · cases hs
    · cases hs
  · split at hs
    · split at hs
      · obtain ⟨h1, h2, h3, rfl⟩ := fb_na_of hs
        exact ⟨fb_G_nw G (Or.inr (by omega)) h3, Nat.le_add_right _ _, Nat.le_add_right _ _⟩
      · obtain ⟨h1, h2, h3, rfl⟩ := fb_na_of hs
        exact ⟨fb_G_nw G (Or.inr (by omega)) h3, Nat.le_add_right _ _, Nat.le_add_right _ _⟩
      · cases hs
    · cases hs
  · split at hs
    · split at hs
      · split at hs
        · rename_i hcc
          cases hs
          exact ⟨fb_G_mn G hcc.2.2.2.2 hcc.2.2.1, by show fb_N h ≤ fb_N h + 1 + _; omega, Nat.le_trans (Nat.le_add_right _ _) (Nat.le_add_right _ _)⟩
        · cases hs
      · cases hs
    · cases hs
  · split at hs
    · split at hs
      · split at hs
        · cases hs
          exact fb_same G
        · cases hs
      · cases hs
    · cases hs
  · split at hs
    · split at hs
      · split at hs
        · cases hs
          exact fb_same G
        · cases hs
      · cases hs
    · cases hs
  · split at hs
    · split at hs
      · split at hs
        · rename_i hcc
          cases hs
          exact ⟨fb_G_cp G hcc.2.2.2.1, Nat.le_add_right _ _, Nat.le_add_right _ _⟩
        · cases hs
      · cases hs
    · cases hs
  · cases hs
end FBP
end
section
/-! THE ABSTRACT MACHINE IS SOUND -/
section FBT
variable {p : Program} {l : Launch} {e : Env} {R : Room} {s : State} {m : MethodId} {args : Array Value} {below : List Frame} {meth : Method} {c : Code} {Q : State → Prop}
variable {D : va_G} {aC : Nat → ClassId} {B : Nat} {sa rl : Nat → Nat} {rf : Nat → Nat → Int32} {n0 z0 j pc : Nat} {ls st : List Value} {h : fb_H}
def fb_rm (y k n : Nat) : Room := { frames := mD y, cells := k, slots := n, locals := 40 * mD y }
/-- what a method finds -/
def fb_P (D : va_G) (aC : Nat → ClassId) (B : Nat) (sa rl : Nat → Nat) (rf : Nat → Nat → Int32) (as : List Value) (h : fb_H) : Array Value → State → Prop := fun v U => v = (as.map (fb_cv B sa)).toArray ∧ fb_E D aC B sa rl rf U U.heap ∧ va_P D vwCl (fb_ws aC B h) U.heap ∧ U.heap.size = B + fb_N h
/-- what it leaves -/
def fb_Q (D : va_G) (aC : Nat → ClassId) (B : Nat) (sa : Nat → Nat) (r : Option Value) (h' : fb_H) : Array Value → State → Outcome → State → Prop := fun _ st0 oc t => oc = .returned (r.map (fb_cv B sa)) ∧ va_P D vwCl (fb_ws aC B h') t.heap ∧ va_F (fun q => B ≤ q) st0 t
/-- what the interpreter's answer is worth -/
def fb_S (l : Launch) (f : Nat) : Prop := ∀ (j pc : Nat) (ls st : List Value) (h : fb_H) (r : Option Value) (h' : fb_H), fb_ev f j pc ls st h = some (r, h') → ∀ (D : va_G) (aC : Nat → ClassId) (B : Nat) (sa rl : Nat → Nat) (rf : Nat → Nat → Int32), fb_G rl rf h → fb_GN rl rf h h' ∧
  ∀ (p : Program) (e : Env) (R : Room) (s : State) (m : MethodId) (args : Array Value) (below : List Frame) (meth : Method) (c : Code) (Q : State → Prop) (n0 z0 : Nat), fb_X p R s m args meth c D aC B sa rl rf n0 j → n0 ≤ fb_N h → z0 ≤ fb_Z h → fb_N h' - n0 ≤ R.cells → fb_Z h' - z0 ≤ R.slots →
    (∀ (pc len : Nat) (ins : Instr) (st : List Value) (H : Heap) (locs : List Loc) (lsr : Array Slot), decode (mB j) pc = .ok (ins, len) → fb_rt j ins len st = some r → va_P D vwCl (fb_ws aC B h') H → va_S (fun q => B ≤ q) s.heap H locs → lsr.size = mL j → W p l e R s m args below meth c H locs (fb_N h' - n0) (fb_Z h' - z0) Q (F0 m pc lsr (st.map (fb_cv B sa)))) →
    fb_Nx p l e R s m args below meth c Q D aC B sa n0 z0 j h pc ls st
theorem fb_dec_of {ins : Instr} {len : Nat} (h : fb_dec j pc = some (ins, len)) : decode (mB j) pc = .ok (ins, len) := by
  unfold fb_dec at h
  split at h
  · rename_i x hx
    cases h
    exact hx
  · cases h
/-- an end as the machine's -/
theorem fb_ret {y : Nat} {r : Option Value} {h' : fb_H} {n0 z0 : Nat} (hx : p.tables.exec = Jvm.exec) (hb : c.code = mB y) (hr : meth.sig.returnType = mR y) (hlk : meth.locks = false) {pc len : Nat} {ins : Instr} {st : List Value} {H : Heap} {locs : List Loc} {lsr : Array Slot} (hd : decode (mB y) pc = .ok (ins, len)) (hrt : fb_rt y ins len st = some r) (hP : va_P D vwCl (fb_ws aC B h') H) (hS : va_S (fun q => B ≤ q) s.heap H locs) :
    W p l e R s m args below meth c H locs (fb_N h' - n0) (fb_Z h' - z0) (MQ below (fb_Q D aC B sa r h') args s (fb_N h' - n0) (fb_Z h' - z0) (fun q => B ≤ q)) (F0 m pc lsr (st.map (fb_cv B sa))) := by
  unfold fb_rt at hrt
  split at hrt
  · split at hrt
    · split at hrt
      · rename_i ty hty
        split at hrt
        · rename_i hn
          cases hrt
          exact W.zret (ty := ty) hx hb (by rw [hr]; exact hty) hn (fun t ht hw => ⟨rfl, by rw [ht]; exact hP, hS.F ht⟩) hS.2.2 hd hlk
        · cases hrt
      · cases hrt
    · cases hrt
  · split at hrt
    · split at hrt
      · rename_i hty
        cases hrt
        exact W.vret hx hb (by rw [hr]; exact hty) (fun t ht hw => ⟨rfl, by rw [ht]; exact hP, hS.F ht⟩) hS.2.2 hd hlk
      · cases hrt
    · cases hrt
  · cases hrt
/-- a method's contract -/
theorem fb_met {f y : Nat} (S : fb_S l f) (hy : y < 188) {as : List Value} {r : Option Value} {h h' : fb_H} (he : fb_ev f y 0 (fb_en as (mL y)) [] h = some (r, h')) (G : fb_G rl rf h) (hlen : (fb_xp as).length ≤ mL y) :
    Met l (mY y) (fb_wd y) (fb_rm y (fb_N h' - fb_N h) (fb_Z h' - fb_Z h)) (fb_P D aC B sa rl rf as h) (fb_Q D aC B sa r h') (fb_N h' - fb_N h) (fb_Z h' - fb_Z h) (fun q => B ≤ q) := by
  refine va_MetF (cc := mB y) (maxL := mL y) (ret := mR y) (mN_ok y hy).1 rfl ?_
  intro p e s m args below meth c s₁ Bd hml hv
  obtain ⟨rfl, hE, hP, hsz⟩ := hv
  have hts0 := atoms_spec (ws := fb_wd y) Bd.pre
  have hown : s.vm.findClass (mY y).cls = some m.cls := findClass_of_methodNamed Bd.named
  have X : fb_X p (headSpec (fb_wd y) (fb_rm y (fb_N h' - fb_N h) (fb_Z h' - fb_Z h))).room s m (as.map (fb_cv B sa)).toArray meth c D aC B sa rl rf (fb_N h) y :=
    ⟨Bd.exec, Bd.bytes, hml, by rw [← (oP_ok y hy).2]; exact hown, fun w hw => hts0 w (List.mem_cons_of_mem _ hw), hE, hsz, fun hh => (name_of_methodNamed Bd.named Bd.method).1.trans hh, Nat.le_refl _, Nat.le_refl _⟩
  have k := (S y 0 (fb_en as (mL y)) [] h r h' he D aC B sa rl rf G).2 p e _ s m _ below meth c (MQ below (fb_Q D aC B sa r h') (as.map (fb_cv B sa)).toArray s (fb_N h' - fb_N h) (fb_Z h' - fb_Z h) (fun q => B ≤ q)) (fb_N h) (fb_Z h) X (Nat.le_refl _) (Nat.le_refl _) (Nat.le_refl _) (Nat.le_refl _)
    (fun pc len ins st H locs lsr hd hrt hP hS _ => fb_ret Bd.exec Bd.bytes Bd.returns Bd.notSynchronized hd hrt hP hS)
  rw [lg_entry_eq]
  have k1 := k s.heap [] _ hP va_S.rf (fb_L.entry B sa hlen)
  rw [Nat.sub_self, Nat.sub_self] at k1
  exact k1
theorem fb_P_blind {as : List Value} : FrameBlind (fb_P D aC B sa rl rf as h) := by
  intro a U g mk q
  obtain ⟨h1, h2, h3, h4⟩ := q
  exact ⟨h1, fb_E.moved (u := U) (U := U.calling g mk a) (State.WarmedH.refl U) h2 (fun _ _ => rfl), h3, h4⟩
/-- behind a call -/
theorem fb_back {y : Nat} {as rest : List Value} {r1 : Option Value} {h1 : fb_H} {H : Heap} {locs : List Loc} {lsr : Array Slot} (G1 : fb_GN rl rf h h1) (hn : n0 ≤ fb_N h) (hz0 : z0 ≤ fb_Z h) (hS : va_S (fun q => B ≤ q) s.heap H locs) (hL : fb_L B sa (mL j) ls lsr)
    (hr : va_Run p l e R s m args below meth c H locs (fb_N h - n0) (fb_Z h - z0) (fb_N h1 - fb_N h) (fb_Z h1 - fb_Z h) (F0 m pc lsr (st.map (fb_cv B sa))) (rest.map (fb_cv B sa)) (fb_Q D aC B sa r1 h1 (as.map (fb_cv B sa)).toArray) (fun q => B ≤ q))
    (k : fb_Nx p l e R s m args below meth c Q D aC B sa n0 z0 j h1 (pc + 3) ls (r1.toList ++ rest)) : W p l e R s m args below meth c H locs (fb_N h - n0) (fb_Z h - z0) Q (F0 m pc lsr (st.map (fb_cv B sa))) := by
  intro T hT Xs
  obtain ⟨v, st₀, t, T', L, h0, X', hL', e1, e2, ⟨hv, hP1, hF⟩, step⟩ := hr T hT Xs
  have hv : v = r1.map (fb_cv B sa) := by cases hv; rfl
  subst hv
  obtain ⟨hF1, hF2⟩ := hF
  rw [h0] at hF1 hF2
  have hS1 : va_S (fun q => B ≤ q) s.heap T'.heap (locs ++ L) := by
    refine ⟨Nat.le_trans hS.1 (by rw [e1]; exact hF1), fun q h1 h2 => ?_, fun q hq => ?_⟩
    · rw [e1, hF2 q (Nat.lt_of_lt_of_le h1 hS.1) h2]
      exact hS.2.1 q h1 h2
    · rcases List.mem_append.mp hq with hq | hq
      · exact hS.2.2 q hq
      · exact hL' q hq
  obtain ⟨-, g2, g3⟩ := G1
  rw [show fb_N h - n0 + (fb_N h1 - fb_N h) = fb_N h1 - n0 by omega, show fb_Z h - z0 + (fb_Z h1 - fb_Z h) = fb_Z h1 - z0 by omega] at X'
  have k1 := k T'.heap (locs ++ L) lsr (by rw [e1]; exact hP1) hS1 hL
  rw [show (r1.toList ++ rest).map (fb_cv B sa) = (r1.map (fb_cv B sa)).toList ++ rest.map (fb_cv B sa) by cases r1 <;> simp] at k1
  obtain ⟨t2, a1, b1⟩ := k1 T' rfl X'
  exact ⟨t2, step t2 a1, b1⟩
end FBT
end
section
section FBV
variable {p : Program} {l : Launch} {e : Env} {R : Room} {s : State} {m : MethodId} {args : Array Value} {below : List Frame} {meth : Method} {c : Code} {Q : State → Prop}
variable {D : va_G} {aC : Nat → ClassId} {B : Nat} {sa rl : Nat → Nat} {rf : Nat → Nat → Int32} {n0 z0 j pc : Nat} {ls st : List Value} {h : fb_H}
theorem fb_as_of {y : Nat} {st : List Value} (h : mN y ≤ st.length) : st = (fb_as y st).reverse ++ st.drop (mN y) ∧ (fb_as y st).length = mN y := by
  unfold fb_as
  rw [List.reverse_reverse, List.take_append_drop, List.length_reverse, List.length_take]
  exact ⟨rfl, by omega⟩
theorem fb_ca_of {ins : Instr} {len y : Nat} {as rest : List Value} (hc : fb_ca j ins len st h = some (y, as, rest)) : ∃ (i k1 : Nat), fb_fd fb_il (fb_ky j i) = some (k1, y) ∧ fb_ck j y st = true ∧ st = as.reverse ++ rest ∧ as.length = mN y ∧ rest = st.drop (mN y) ∧ as = fb_as y st ∧
    ((ins = .invokevirtual i ∧ len = 3 ∧ (k1 = 0 ∨ k1 = 3) ∧ ∃ (b : Nat) (As : List Value), as = .ref b :: As ∧ (fb_T h b).1 = oC (mO y)) ∨ (ins = .invokestatic i ∧ len = 3 ∧ (k1 = 1 ∨ k1 = 4)) ∨ (ins = .invokespecial i ∧ len = 3 ∧ (k1 = 2 ∨ k1 = 5) ∧ ∃ (b : Nat) (As : List Value), as = .ref b :: As)) := by
  unfold fb_ca at hc
  split at hc
  · rename_i i
    split at hc
    · rename_i k1 y1 hf
      split at hc
      · rename_i hk
        split at hc
        · rename_i b As ha
          split at hc
          · rename_i hcc
            cases hc
            have hl : mN y ≤ st.length := by
              have := hcc.1
              unfold fb_ck at this
              simp only [Bool.and_eq_true, decide_eq_true_eq] at this
              exact this.1.1.1
            obtain ⟨q1, q2⟩ := fb_as_of hl
            rw [ha] at q1 q2
            exact ⟨i, k1, hf, hcc.1, q1, q2, rfl, ha.symm, Or.inl ⟨rfl, rfl, hk, b, As, rfl, hcc.2⟩⟩
          · cases hc
        · cases hc
      · cases hc
    · cases hc
  · rename_i i
    split at hc
    · rename_i k1 y1 hf
      split at hc
      · rename_i hcc
        cases hc
        have hl : mN y ≤ st.length := by
          have := hcc.2
          unfold fb_ck at this
          simp only [Bool.and_eq_true, decide_eq_true_eq] at this
          exact this.1.1.1
        obtain ⟨q1, q2⟩ := fb_as_of hl
        exact ⟨i, k1, hf, hcc.2, q1, q2, rfl, rfl, Or.inr (Or.inl ⟨rfl, rfl, hcc.1⟩)⟩
      · cases hc
    · cases hc
  · rename_i i
    split at hc
    · rename_i k1 y1 hf
      split at hc
      · rename_i hk
        split at hc
        · rename_i b As ha
          split at hc
          · rename_i hcc
            cases hc
            have hl : mN y ≤ st.length := by
              have := hcc
              unfold fb_ck at this
              simp only [Bool.and_eq_true, decide_eq_true_eq] at this
              exact this.1.1.1
            obtain ⟨q1, q2⟩ := fb_as_of hl
            rw [ha] at q1 q2
            exact ⟨i, k1, hf, hcc, q1, q2, rfl, ha.symm, Or.inr (Or.inr ⟨rfl, rfl, hk, b, As, rfl⟩)⟩
          · cases hc
        · cases hc
      · cases hc
    · cases hc
  · cases hc
theorem fb_cb {y i k n : Nat} (X : fb_X p R s m args meth c D aC B sa rl rf n0 j) (hy : y < 188) (hD : mD y < mD j) (hl : Cond.methodLink (oN (mO j)) i (mY y) ∈ fb_W) : CallB R s args (oN (mO j)) i (mY y) (mB y) (mL y) (mR y) (fb_wd y) (fb_rm y k n) k n (if mS y then mN y else mN y - 1) := by
  obtain ⟨hx, hb, hml, hown, hts, hE, hsz, hnm, hfr, hlo⟩ := X
  obtain ⟨h1, h2, h3, h4, h5⟩ := mN_ok y hy
  refine callB_of (ws' := fb_W) _ hts (fb_good y hy) rfl rfl rfl (hts _ (fb_inW (oP_ok y hy).1 rfl)) (hts _ hl) ⟨h2.1, h2.2, h3⟩ ⟨?_, ?_⟩
  · show mD y + 1 ≤ R.frames; omega
  · show 8 + (mL y + 11) + 40 * mD y ≤ R.locals; omega
theorem fb_cn {y i k n : Nat} (X : fb_X p R s m args meth c D aC B sa rl rf n0 j) (hy : y < 188) (hD : mD y < mD j) (hl : Cond.methodLinkNest (oN (mO j)) i (mY y) "FiguredBasses" ∈ lw_tbl) : va_CN R s args (oN (mO j)) i (mY y) "FiguredBasses" (mB y) (mL y) (mR y) (fb_wd y) (fb_rm y k n) k n (if mS y then mN y else mN y - 1) := by
  obtain ⟨hx, hb, hml, hown, hts, hE, hsz, hnm, hfr, hlo⟩ := X
  obtain ⟨h1, h2, h3, h4, h5⟩ := mN_ok y hy
  refine va_cnB (ws' := fb_W) _ hts (fb_good y hy) rfl rfl rfl (hE.2.1 _ hl rfl) (hts _ (fb_inW (oP_ok y hy).1 rfl)) ⟨h2.1, h2.2, h3⟩ ⟨?_, ?_⟩
  · show mD y + 1 ≤ R.frames; omega
  · show 8 + (mL y + 11) + 40 * mD y ≤ R.locals; omega
theorem fb_il_at {i k1 y : Nat} (hf : fb_fd fb_il (fb_ky j i) = some (k1, y)) : y < 188 ∧ (k1 < 3 → Cond.methodLink (oN (mO j)) i (mY y) ∈ fb_W) ∧ (3 ≤ k1 → k1 < 6 → Cond.methodLinkNest (oN (mO j)) i (mY y) "FiguredBasses" ∈ lw_tbl)
    ∧ (k1 = 0 ∨ k1 = 3 → mS y = false ∧ (mY y).name ≠ "<init>" ∧ cX (oC (mO y)) = (mY y).cls ∧ oC (mO y) < 8) ∧ (k1 = 1 ∨ k1 = 4 → mS y = true) ∧ (k1 = 2 ∨ k1 = 5 → mS y = false ∧ (mY y).name = "<init>" ∧ mR y = none) := by
  obtain ⟨q, hq, e1, e2⟩ := fb_cls hf
  obtain ⟨g1, g2, g3, g4, g5, g6, g7, g8⟩ := fb_il_ok _ hq
  dsimp only at g1 g2 g3 g6 g7 g8
  rw [e1, e2] at g2 g3
  exact ⟨g1, fun w => fb_inW (g2 w) rfl, fun w w2 => List.mem_of_getElem? (g3 w w2), g6, g7, g8⟩
theorem fb_pre {as : List Value} {H : Heap} {locs : List Loc} (X : fb_X p R s m args meth c D aC B sa rl rf n0 j) (hP : va_P D vwCl (fb_ws aC B h) H) (hS : va_S (fun q => B ≤ q) s.heap H locs) (hH : H.size = B + fb_N h) : ∀ U : State, U.heap = H → s.WarmedH U.vm → fb_P D aC B sa rl rf as h (as.map (fb_cv B sa)).toArray U := by
  intro U hU hW
  obtain ⟨hx, hb, hml, hown, hts, hE, hsz, hnm, hfr, hlo⟩ := X
  refine ⟨rfl, fb_E.moved hW hE (fun a ha => ?_), by rw [hU]; exact hP, by rw [hU]; exact hH⟩
  rw [hU]
  exact hS.2.1 a (by omega) (by show ¬ B ≤ a; omega)
/-- the run of a call -/
theorem fb_run {f y len : Nat} {ins : Instr} {as rest : List Value} {r1 : Option Value} {h1 : fb_H} {H : Heap} {locs : List Loc} {lsr : Array Slot} (S : fb_S l f) (X : fb_X p R s m args meth c D aC B sa rl rf n0 j) (G : fb_G rl rf h) (hd : decode (mB j) pc = .ok (ins, len)) (hc : fb_ca j ins len st h = some (y, as, rest)) (he : fb_ev f y 0 (fb_en as (mL y)) [] h = some (r1, h1))
    (hP : va_P D vwCl (fb_ws aC B h) H) (hS : va_S (fun q => B ≤ q) s.heap H locs) (hL : fb_L B sa (mL j) ls lsr) (hH : H.size = B + fb_N h) (hf1 : fb_N h - n0 + (fb_N h1 - fb_N h) ≤ R.cells) (hf2 : fb_Z h - z0 + (fb_Z h1 - fb_Z h) ≤ R.slots) :
    va_Run p l e R s m args below meth c H locs (fb_N h - n0) (fb_Z h - z0) (fb_N h1 - fb_N h) (fb_Z h1 - fb_Z h) (F0 m pc lsr (st.map (fb_cv B sa))) (rest.map (fb_cv B sa)) (fb_Q D aC B sa r1 h1 (as.map (fb_cv B sa)).toArray) (fun q => B ≤ q) := by
  obtain ⟨i, k1, hf, hck, hst, hal, hrest, hasE, hcase⟩ := fb_ca_of hc
  obtain ⟨hy, g2, g3, g6, g7, g8⟩ := fb_il_at hf
  have hck' := hck
  unfold fb_ck at hck'
  simp only [Bool.and_eq_true, decide_eq_true_eq] at hck'
  obtain ⟨⟨⟨hlen, hD⟩, hr4⟩, hxl⟩ := hck'
  rw [← hasE] at hxl
  rw [← hrest] at hr4
  have hM := fb_met (D := D) (aC := aC) (B := B) (sa := sa) S hy he G hxl
  have X' := X
  obtain ⟨hx, hb, hml, hown, hts, hE, hsz, hnm, hfr, hlo⟩ := X
  have hfix : CallFix p m c (mB j) (mL j) s args fb_W (oN (mO j)) := ⟨hx, hb, hml, hown, hts⟩
  have hls : lsr.size = mL j := hL.2.choose_spec.1.1
  have hroom := lv_room (pc := pc) (m := m) (ls := lsr) (rest := st.map (fb_cv B sa)) (st := rest.map (fb_cv B sa)) (by rw [fb_sum_cv]; have := fb_sum_le rest; omega)
  have hstk : st.map (fb_cv B sa) = (as.map (fb_cv B sa)).reverse ++ rest.map (fb_cv B sa) := by rw [hst, List.map_append, List.map_reverse]
  rcases hcase with ⟨rfl, rfl, hk, b, As, has, hTb⟩ | ⟨rfl, rfl, hk⟩ | ⟨rfl, rfl, hk, b, As, has⟩
  · obtain ⟨i1, i2, i3, i4⟩ := g6 hk
    have hb : b < fb_N h := G.2.2.1 b (by omega)
    have hb6 : b < 1000000 := by have := G.1; omega
    have hrecv : ∃ cell : Cell, H[fb_ad B sa b]? = some cell ∧ cell.vm.isStatics = false ∧ s.vm.findClass (mY y).cls = some cell.cls := by
      rw [← i3, fb_ad_lo hb6]
      exact va_recv hE.1 hP (cX_at _ i4) (by rw [fb_ws_at hb, fb_cell_o hTb (by omega)])
    have hpre := fb_pre (as := as) X' hP hS hH
    have hsel : (Cond.selects (mY y).cls (mY y) (mY y)).before args s = true := hts _ (fb_inW (mP2_ok y hy i1 i2) rfl)
    have hinst : (Cond.instanceMethod (mY y)).before args s = true := by
      have h1 := mP1_ok y hy
      rw [i1] at h1
      exact hts _ (fb_inW h1 rfl)
    have hAs : (As.map (fb_cv B sa)).length = (if mS y then mN y else mN y - 1) := by
      rw [i1, List.length_map, ← hal, has]
      rfl
    have harr : (as.map (fb_cv B sa)) = Value.ref (fb_ad B sa b) :: As.map (fb_cv B sa) := by rw [has]; rfl
    have hstk2 : st.map (fb_cv B sa) = (As.map (fb_cv B sa)).reverse ++ .ref (fb_ad B sa b) :: rest.map (fb_cv B sa) := by rw [hstk, harr]; simp
    have hpv : PreV s H (mY y).cls (fb_ad B sa b) (fb_P D aC B sa rl rf as h) (As.map (fb_cv B sa)) := ⟨fb_P_blind, hrecv, fun U hU hW => by rw [← harr]; exact hpre U hU hW⟩
    rcases hk with rfl | rfl
    · exact va_runV hfix hM ⟨fb_cb X' hy hD (g2 (by omega)), hinst, hsel⟩ hpv rfl hAs hls hstk2 hroom hd ⟨hf1, hf2⟩
    · exact va_runVN hfix hM ⟨fb_cn X' hy hD (g3 (by omega) (by omega)), hinst, hsel⟩ hpv rfl hAs hls hstk2 hroom hd ⟨hf1, hf2⟩
  · have i1 := g7 hk
    have hstat : (Cond.static (mY y)).before args s = true := by
      have h1 := mP1_ok y hy
      rw [i1] at h1
      exact hts _ (fb_inW h1 rfl)
    have hAs : (as.map (fb_cv B sa)).length = (if mS y then mN y else mN y - 1) := by rw [i1, List.length_map]; exact hal
    have hps : PreS s H (fb_P D aC B sa rl rf as h) (as.map (fb_cv B sa)) := ⟨fb_P_blind, fb_pre X' hP hS hH⟩
    rcases hk with rfl | rfl
    · exact va_runS hfix hM ⟨fb_cb X' hy hD (g2 (by omega)), hstat⟩ hps rfl hAs hls hstk hroom hd ⟨hf1, hf2⟩
    · exact va_runSN hfix hM ⟨fb_cn X' hy hD (g3 (by omega) (by omega)), hstat, trivial⟩ hps rfl hAs hls hstk hroom hd ⟨hf1, hf2⟩
  · obtain ⟨i1, i2, i3⟩ := g8 hk
    have hinst : (Cond.instanceMethod (mY y)).before args s = true := by
      have h1 := mP1_ok y hy
      rw [i1] at h1
      exact hts _ (fb_inW h1 rfl)
    have hAs : (As.map (fb_cv B sa)).length = (if mS y then mN y else mN y - 1) := by
      rw [i1, List.length_map, ← hal, has]
      rfl
    have harr : (as.map (fb_cv B sa)) = Value.ref (fb_ad B sa b) :: As.map (fb_cv B sa) := by rw [has]; rfl
    have hstk2 : st.map (fb_cv B sa) = (As.map (fb_cv B sa)).reverse ++ .ref (fb_ad B sa b) :: rest.map (fb_cv B sa) := by rw [hstk, harr]; simp
    have hps : PreS s H (fb_P D aC B sa rl rf as h) (.ref (fb_ad B sa b) :: As.map (fb_cv B sa)) := ⟨fb_P_blind, fun U hU hW => by rw [← harr]; exact fb_pre X' hP hS hH U hU hW⟩
    rcases hk with rfl | rfl
    · have cb := fb_cb (k := fb_N h1 - fb_N h) (n := fb_Z h1 - fb_Z h) X' hy hD (g2 (by omega))
      rw [i3] at cb
      exact va_runI hfix hM ⟨cb, i2, hinst⟩ hps rfl hAs hls hstk2 hroom hd ⟨hf1, hf2⟩
    · have cb := fb_cn (k := fb_N h1 - fb_N h) (n := fb_Z h1 - fb_Z h) X' hy hD (g3 (by omega) (by omega))
      rw [i3] at cb
      exact va_runIN hfix hM ⟨cb, i2, hinst⟩ hps rfl hAs hls hstk2 hroom hd ⟨hf1, hf2⟩
end FBV
theorem fb_sound (l : Launch) : ∀ f, fb_S l f := by
  intro f
  induction f with
  | zero => intro j pc ls st h r h' e; simp [fb_ev] at e
  | succ f ih =>
    intro j pc ls st h r h' ev D aC B sa rl rf G
    obtain ⟨ins, len, hd0, ⟨y, as, rest, r1, h1, hc, he, e2⟩ | ⟨hc, r1, hr, hz⟩ | ⟨hc, hr, pc', ls', st', h1, hs, e2⟩⟩ := fb_ev_cases ev
    · have hd := fb_dec_of hd0
      obtain ⟨GN1, -⟩ := ih _ _ _ _ _ _ _ he D aC B sa rl rf G
      obtain ⟨GN2, K2⟩ := ih _ _ _ _ _ _ _ e2 D aC B sa rl rf GN1.1
      refine ⟨⟨GN2.1, Nat.le_trans GN1.2.1 GN2.2.1, Nat.le_trans GN1.2.2 GN2.2.2⟩, ?_⟩
      intro p e R s m args below meth c Q n0 z0 X hn hz0 hcel hslo hret
      have hg1 := GN1.2.1
      have hg2 := GN1.2.2
      have hg3 := GN2.2.1
      have hg4 := GN2.2.2
      have k := K2 p e R s m args below meth c Q n0 z0 X (by omega) (by omega) hcel hslo hret
      intro H locs lsr hP hS hL
      refine fb_wsize fun hle => ?_
      have hH := fb_hsz X.2.2.2.2.2.2.1 hn hP hS hle
      exact fb_back (y := y) GN1 hn hz0 hS hL (fb_run ih X G hd hc he hP hS hL hH (by omega) (by omega)) k
    · have hd := fb_dec_of hd0
      have hz1 : r = r1 := (Prod.mk.inj hz).1
      have hz2 : h' = h := (Prod.mk.inj hz).2
      subst hz1
      subst hz2
      refine ⟨fb_same G, ?_⟩
      intro p e R s m args below meth c Q n0 z0 X hn hz0 hcel hslo hret H locs lsr hP hS hL
      exact hret pc len ins st H locs lsr hd hr hP hS hL.2.choose_spec.1.1
    · have hd := fb_dec_of hd0
      have GN1 := fb_pres G hs
      obtain ⟨GN2, K2⟩ := ih _ _ _ _ _ _ _ e2 D aC B sa rl rf GN1.1
      refine ⟨⟨GN2.1, Nat.le_trans GN1.2.1 GN2.2.1, Nat.le_trans GN1.2.2 GN2.2.2⟩, ?_⟩
      intro p e R s m args below meth c Q n0 z0 X hn hz0 hcel hslo hret
      have hg1 : fb_N h ≤ fb_N h1 := GN1.2.1
      have hg2 : fb_Z h ≤ fb_Z h1 := GN1.2.2
      have hg3 := GN2.2.1
      have hg4 := GN2.2.2
      have k := K2 p e R s m args below meth c Q n0 z0 X (by omega) (by omega) hcel hslo hret
      exact fb_row X G hn hz0 hd hs (by show fb_N h1 - n0 ≤ _; omega) (by show fb_Z h1 - z0 ≤ _; omega) k
end
section
-- begun from the given skeleton (kit/laws/SKELETON.whole): the law's own end and entry
/-! THE CLAIM OUT OF ONE WALK OF THE LAW'S BODY. Your part is whole_start (and what it stands on); all else here is the same for every law, but numbers. -/
def R_law : String := "FiguredBassesLaw"
def lw_P (b : Addr) (xs : List Int32) (args : Array Value) (s : State) : Prop := args = #[.ref b] ∧ s.IntsAt b xs ∧ xs.length ≤ 2560 ∧ (Jvm.Cond.and given_1 narrow_1).before args s = true
def lw_Q (_ : Array Value) (s : State) (o : Outcome) (t : State) : Prop := o = .returned (some (.int 1)) ∧ Framed s o t [] 600000 7302250
def lw_Z (below : List Frame) (a : Array Value) (s : State) : State → Prop := fun t => ∃ o, t.status = .running ∧ Ended t below o ∧ lw_Q a s o t
/-- the law's own end, with 1 on the stack, nothing written that was there before, its room as the claim has it -/
theorem lw_ret {p : Program} {l : Launch} {e : Env} {s : State} {m : MethodId} {below : List Frame} {meth : Method} {c : Code} {b : Nat} (hx : p.tables.exec = Jvm.exec) (hb : c.code = code) (hr : meth.sig.returnType = ret) (hlocks : meth.locks = false) {pc : Nat} {H : Heap} {ls : Array Slot} (hdg : decode code pc = .ok (.ireturn, 1)) : W p l e room_1 s m #[Value.ref b] below meth c H [] 600000 7302250 (lw_Z below #[Value.ref b] s) (F0 m pc ls [.int 1]) := by
  intro T hT X
  obtain ⟨fs, hret, hrun, hended, hW, hframe⟩ := X.leave (v := some (.int 1)) (hlocks := hlocks) (fun h => by rw [hr] at h; cases h)
  have hmeth' : T.vm.method? m = some meth := X.method'
  refine ⟨T.setFrames fs, ?_, .returned (some (.int 1)), hrun, hended, rfl, ⟨_, rfl⟩, hW, hframe⟩
  jvm_step X.here [X.here.top, hx, hb, hdg, hmeth', hr, ret, narrow_b1]
  (try refine ⟨rfl, ?_⟩); (try refine ⟨rfl, ?_⟩)
  first | (intro acts; rw [hret _ acts rfl rfl rfl]) | rw [hret _ _ rfl rfl rfl]
  exact Steps.refl _
/-- what holds at the law's entry: the machine, the code, the tables' words (any of lw_tbl by 'hts w (by decide +kernel)'), the script of L ints xs at the cell b, what the Statement gives of the start (any of its parts by flat_of_before) -/
def lw_At (p : Program) (s : State) (m : MethodId) (meth : Method) (c : Code) (b L : Nat) (xs : Nat → Int32) : Prop :=
  p.tables.exec = Jvm.exec ∧ c.code = code ∧ meth.sig.returnType = ret ∧ c.maxLocals = 4 ∧ s.vm.findClass R_law = some m.cls ∧ (∀ w ∈ lw_tbl, w.before #[Value.ref b] s = true) ∧ va_X b L xs s s.heap ∧ b < s.heap.size ∧ meth.locks = false ∧ (Jvm.Cond.and given_1 narrow_1).before #[Value.ref b] s = true

/-! the start: the static arrays, the script, the tables -/
def fb_tm (k : Nat) : Term := .static "FiguredBasses" (fb_sn k) "[I"
def fb_va (k : Nat) : List Int32 := match k with
  | 0 => [0, 2, 4, 5, 7, 9, 11]
  | 1 => [0, 16, 7]
  | 2 => [0, 7, 1]
  | 3 => [11, 24, 12]
  | 4 => [36, 48, 53, 58]
  | _ => [59, 67, 74, 79]
set_option maxRecDepth 100000 in
theorem fb_flat_ok : ∀ k, k < 6 → Cond.arrayOf (fb_tm k) .int ∈ flatC (Jvm.Cond.and given_1 narrow_1) ∧ Cond.eq (.length (fb_tm k)) (.int (Int32.ofNat (fb_va k).length)) ∈ flatC (Jvm.Cond.and given_1 narrow_1) ∧ Cond.exactly (fb_tm k) "[I" ∈ flatC (Jvm.Cond.and given_1 narrow_1) ∧ ∀ i, i < (fb_va k).length → Cond.eq (.elem (fb_tm k) (.int (Int32.ofNat i))) (.int ((fb_va k).getD i 0)) ∈ flatC (Jvm.Cond.and given_1 narrow_1) := by decide +kernel
def fb_rl (L : Nat) (k : Nat) : Nat := if k < 6 then (fb_va k).length else L
def fb_rf (xs : Nat → Int32) (k q : Nat) : Int32 := if k < 6 then (fb_va k).getD q 0 else xs q
theorem fb_stat {args : Array Value} {s : State} (hgv : (Jvm.Cond.and given_1 narrow_1).before args s = true) (hts : ∀ w ∈ lw_tbl, w.before args s = true) (k : Nat) (hk : k < 6) : ∃ t : Nat, t < s.heap.size ∧ va_Z "FiguredBasses" (fb_sn k) "[I" (.ref t) (fun q => s.heap.size ≤ q) s s.heap ∧
    ∃ cell : Cell, s.heap[t]? = some cell ∧ s.isArrayOf cell .int ∧ cell.vm ≠ .unknown ∧ cell.slots.size = (fb_va k).length ∧ (∀ q : Nat, q < (fb_va k).length → cell.slots[q]? = some (.int ((fb_va k).getD q 0))) ∧ s.vm.findClass "[I" = some cell.cls := by
  obtain ⟨w1, w2, w3, w4⟩ := fb_flat_ok k hk
  have hf := flat_of_before _ hgv
  have harr := hf _ w1
  have hlen := va_eqt (hf _ w2)
  have hA : ∀ a : Nat, a < s.heap.size → ¬ (fun q : Nat => s.heap.size ≤ q) a := fun a h => Nat.not_le.mpr h
  have h31 : (fb_va k).length < 2 ^ 31 := by
    rcases (show k = 0 ∨ k = 1 ∨ k = 2 ∨ k = 3 ∨ k = 4 ∨ k = 5 by omega) with rfl | rfl | rfl | rfl | rfl | rfl <;> decide
  obtain ⟨t, ht, cell, q1, q2, q3, -, -, q6, -⟩ := va_Tof (N := (fb_va k).length) (f := fun q => .int ((fb_va k).getD q 0)) (A := fun q => s.heap.size ≤ q) h31 harr hlen (fun i hi => va_eqt (hf _ (w4 i hi))) hA
  obtain ⟨t', cell', e1, e2, e3⟩ := Term.length_spec hlen
  cases ht.symm.trans e1
  obtain ⟨e4, -, -, -⟩ := State.arrayAt?_spec e2
  cases q1.symm.trans e4
  have hsz : cell.slots.size = (fb_va k).length := by
    have hl := hlen
    simp only [Term.eval] at hl
    have ht' : (fb_tm k).eval args s none [] s = some (.ref t) := ht
    simp [ht', e2] at hl
    obtain ⟨h1, h2⟩ := hl
    have g1 := Int32.toNatClampNeg_ofNat_of_lt h1
    have g2 := Int32.toNatClampNeg_ofNat_of_lt h31
    have h2 : Int32.ofNat cell.slots.size = Int32.ofNat (fb_va k).length := h2
    rw [h2, g2] at g1
    exact g1.symm
  obtain ⟨a, c0, cell2, k0, r1, r2, r3, r4, r5, r6, -⟩ := Cond.exactly_spec (hf _ w3)
  cases ht.symm.trans r1
  cases q1.symm.trans r3
  refine ⟨t, (Array.getElem?_eq_some_iff.mp q1).1, va_Zref (hts _ (List.mem_of_getElem? (fb_sp_ok k hk))) (hts _ (by decide +kernel)) ht hA, cell, q1, q2, q3, hsz, q6, by rw [r6]; exact r2⟩
/-- the heap that the law begins with: the static arrays, and the script -/
def fb_h0 (L : Nat) (xs : Nat → Int32) : fb_H := (fun i => if 1000000 ≤ i ∧ i < 1000007 then (16, fb_rl L (i - 1000000)) else (99, 0), (0, 0), fun _ _ => none, fun i q => if 1000000 ≤ i ∧ i < 1000007 then fb_rf xs (i - 1000000) q else 0)
theorem fb_G0 (L : Nat) (xs : Nat → Int32) : fb_G (fb_rl L) (fb_rf xs) (fb_h0 L xs) := by
  have eT : ∀ i, fb_T (fb_h0 L xs) i = if 1000000 ≤ i ∧ i < 1000007 then (16, fb_rl L (i - 1000000)) else (99, 0) := fun _ => rfl
  have eI : ∀ i q, fb_I (fb_h0 L xs) i q = if 1000000 ≤ i ∧ i < 1000007 then fb_rf xs (i - 1000000) q else 0 := fun _ _ => rfl
  refine ⟨by show 0 < 1000000; omega, fun i k a h => (by cases h), fun i h => ?_, fun i h => ?_, fun i h => absurd h (Nat.not_lt_zero i)⟩
  · rw [eT] at h
    split at h <;> simp at h
  · rw [eT] at h
    split at h
    · rename_i hc
      refine ⟨i - 1000000, by omega, by omega, by rw [eT, if_pos hc], fun q => by rw [eI, if_pos hc]⟩
    · simp at h
set_option maxRecDepth 100000 in
theorem fb_tab : ∀ c, c < 8 → ∀ w ∈ u_ws (cX c) (cT c) (cN c), w ∈ lw_tbl := cW_in
theorem fb_D {args : Array Value} {s : State} (hts : ∀ w ∈ lw_tbl, w.before args s = true) : ∃ D : va_G, ∀ (k : Nat) (q : vw_C), vwCl[k]? = some q → u_Kn s q.1 q.2.1 q.2.2 (D.1 k) (D.2 k) := by
  have h : ∀ k, k < 8 → ∃ (cC : ClassId) (iS : Nat → Nat), u_Kn s (cX k) (cT k) (cN k) cC iS := fun k hk => u_known hts (cW_in k hk) (hts _ (List.mem_of_getElem? (cI_ok k hk).1))
  refine ⟨(fun k => if hk : k < 8 then Classical.choose (h k hk) else 0, fun k => if hk : k < 8 then Classical.choose (Classical.choose_spec (h k hk)) else fun _ => 0), fun k q hq => ?_⟩
  have hk : k < 8 := (List.getElem?_eq_some_iff.mp hq).1
  rw [cX_at k hk] at hq
  cases hq
  simp only [dif_pos hk]
  exact Classical.choose_spec (Classical.choose_spec (h k hk))
theorem fb_acls {args : Array Value} {s : State} {t : FieldType} (h : (Cond.arrayClass t).before args s = true) (ho : ∀ C, t ≠ .object C) : ∃ c : ClassId, ArrOfT s c t ∧ va_RA s c t := by
  obtain ⟨c, k, comp, h1, h2, h3⟩ := Cond.arrayClass_spec h
  refine ⟨c, fun N z => ⟨(fun q hq => by cases hq), k, h2, comp, h3⟩, ?_⟩
  cases t <;> first | exact h1 | exact absurd rfl (ho _)
theorem fb_aover {args : Array Value} {s : State} {C : String} (h : (Cond.arrayOver (.object C)).before args s = true) : ∃ c : ClassId, ArrOfT s c (.object C) ∧ va_RA s c (.object C) := by
  obtain ⟨comp, c, k, h1, h2, h3, h4, h5⟩ := Cond.arrayOver_spec h
  exact ⟨c, fun N z => ⟨(fun q hq => by cases hq), k, h3, comp, h4⟩, k, comp, h3, h4, h1, h5⟩
theorem fb_agrid {args : Array Value} {s : State} (h : (Cond.arrayOver (.array .int)).before args s = true) : ∃ c : ClassId, ArrOfT s c (.array .int) ∧ va_RA s c (.array .int) := by
  obtain ⟨comp, c, k, h1, h2, h3, h4⟩ := Cond.arrayOver_specA h
  exact ⟨c, fun N z => ⟨(fun q hq => by cases hq), k, h2, comp, h3⟩, h4⟩
/-- from the interpreter's answer over the law to the machine's -/
theorem fb_start {p : Program} {e : Env} {s : State} {m : MethodId} {below : List Frame} {meth : Method} {c : Code} (l : Launch) {b L : Nat} {xs : Nat → Int32} (C0 : lw_At p s m meth c b L xs) {f : Nat} {h' : fb_H} (hev : fb_ev f 188 0 [.ref 1000006, .null, .null, .null] [] (fb_h0 L xs) = some (some (.int 1), h')) (hN : fb_N h' ≤ 600000) (hZ : fb_Z h' ≤ 7302250) :
    W p l e room_1 s m #[Value.ref b] below meth c s.heap [] 0 0 (lw_Z below #[Value.ref b] s) (entryFrame m ([Value.ref b] : List Value).toArray 4) := by
  obtain ⟨hx, hb, hr, hml, hown, hts, hX, hbl, hlocks, hgv⟩ := id C0
  obtain ⟨t0, a0, b0, c0⟩ := fb_stat hgv hts 0 (by omega)
  obtain ⟨t1, a1, b1, c1⟩ := fb_stat hgv hts 1 (by omega)
  obtain ⟨t2, a2, b2, c2⟩ := fb_stat hgv hts 2 (by omega)
  obtain ⟨t3, a3, b3, c3⟩ := fb_stat hgv hts 3 (by omega)
  obtain ⟨t4, a4, b4, c4⟩ := fb_stat hgv hts 4 (by omega)
  obtain ⟨t5, a5, b5, c5⟩ := fb_stat hgv hts 5 (by omega)
  obtain ⟨D, hD⟩ := fb_D hts
  obtain ⟨d0, k0⟩ := fb_acls (hts _ (fb_inT 104 (by decide +kernel) : Cond.arrayClass .int ∈ lw_tbl)) (fun C h => by cases h)
  obtain ⟨d1, k1⟩ := fb_acls (hts _ (fb_inT 134 (by decide +kernel) : Cond.arrayClass .boolean ∈ lw_tbl)) (fun C h => by cases h)
  obtain ⟨d2, k2⟩ := fb_acls (hts _ (fb_inT 135 (by decide +kernel) : Cond.arrayClass .char ∈ lw_tbl)) (fun C h => by cases h)
  have ho3 := hts _ (fb_inT 112 (by decide +kernel) : Cond.arrayOver (.object "FiguredBasses$Piece") ∈ lw_tbl)
  have ho4 := hts _ (fb_inT 178 (by decide +kernel) : Cond.arrayOver (.object "FiguredBasses$Voicings") ∈ lw_tbl)
  have ho5 := hts _ (fb_inT 180 (by decide +kernel) : Cond.arrayOver (.array .int) ∈ lw_tbl)
  obtain ⟨d3, k3⟩ := fb_aover ho3
  obtain ⟨d4, k4⟩ := fb_aover ho4
  obtain ⟨d5, k5⟩ := fb_agrid ho5
  let aC : Nat → ClassId := fun q => match q with | 10 => d0 | 11 => d1 | 12 => d2 | 13 => d3 | 14 => d4 | _ => d5
  let sa : Nat → Nat := fun q => match q with | 0 => t0 | 1 => t1 | 2 => t2 | 3 => t3 | 4 => t4 | 5 => t5 | _ => b
  have hE : fb_E D aC s.heap.size sa (fb_rl L) (fb_rf xs) s s.heap := by
    refine ⟨⟨hD, fun k q hq => ?_⟩, fun w hw hn => ?_, va_Nw.of rfl (hts _ (fb_inT 86 (by decide +kernel) : Cond.castable "[I" "java/lang/Cloneable" ∈ lw_tbl)), va_AO.of ho3, va_AO.of ho4, ho5, fun k hk => ?_, fun k hk => ?_⟩
    · match k, hq with
      | 0, hq => cases hq; exact k0
      | 1, hq => cases hq; exact k1
      | 2, hq => cases hq; exact k2
      | 3, hq => cases hq; exact k3
      | 4, hq => cases hq; exact k4
      | 5, hq => cases hq; exact k5
      | k + 6, hq => simp [fb_ty] at hq
    · have hz := hts w hw
      cases w <;> first | (simp [fb_isN] at hn; done) | exact va_Nw.of rfl hz
    · rcases (show k = 0 ∨ k = 1 ∨ k = 2 ∨ k = 3 ∨ k = 4 ∨ k = 5 by omega) with rfl | rfl | rfl | rfl | rfl | rfl
      · exact b0
      · exact b1
      · exact b2
      · exact b3
      · exact b4
      · exact b5
    · rcases (show k = 0 ∨ k = 1 ∨ k = 2 ∨ k = 3 ∨ k = 4 ∨ k = 5 ∨ k = 6 by omega) with rfl | rfl | rfl | rfl | rfl | rfl | rfl
      · obtain ⟨cell, q1, q2, q3, q4, q5, q6⟩ := c0; exact ⟨a0, cell, q1, q2, q3, q4, q5, fun _ => q6⟩
      · obtain ⟨cell, q1, q2, q3, q4, q5, q6⟩ := c1; exact ⟨a1, cell, q1, q2, q3, q4, q5, fun _ => q6⟩
      · obtain ⟨cell, q1, q2, q3, q4, q5, q6⟩ := c2; exact ⟨a2, cell, q1, q2, q3, q4, q5, fun _ => q6⟩
      · obtain ⟨cell, q1, q2, q3, q4, q5, q6⟩ := c3; exact ⟨a3, cell, q1, q2, q3, q4, q5, fun _ => q6⟩
      · obtain ⟨cell, q1, q2, q3, q4, q5, q6⟩ := c4; exact ⟨a4, cell, q1, q2, q3, q4, q5, fun _ => q6⟩
      · obtain ⟨cell, q1, q2, q3, q4, q5, q6⟩ := c5; exact ⟨a5, cell, q1, q2, q3, q4, q5, fun _ => q6⟩
      · obtain ⟨cell, q1, q2, q3, q4, q5⟩ := hX; exact ⟨hbl, cell, q1, q2, q3, q4, q5, fun h => absurd h (by omega)⟩
  have X : fb_X p room_1 s m #[Value.ref b] meth c D aC s.heap.size sa (fb_rl L) (fb_rf xs) 0 188 :=
    ⟨hx, hb, hml, hown, fun w hw => hts w (List.mem_filter.mp hw).1, hE, rfl, fun h => absurd h (by decide), by decide, by decide⟩
  obtain ⟨GN, K⟩ := fb_sound l f 188 0 _ _ _ _ _ hev D aC s.heap.size sa (fb_rl L) (fb_rf xs) (fb_G0 L xs)
  have k := K p e room_1 s m #[Value.ref b] below meth c (lw_Z below #[Value.ref b] s) 0 0 X (Nat.zero_le _) (Nat.zero_le _) (by show fb_N h' - 0 ≤ 600000; omega) (by show fb_Z h' - 0 ≤ 7302250; omega)
    (fun pc len ins st H locs lsr hd hrt hP hS _ => by
      refine va_forget (fun q hq => hS.2.2 q hq) (W.widen (k := 600000) (n := 7302250) (by omega) (by omega) ?_)
      unfold fb_rt at hrt
      split at hrt
      · split at hrt
        · split at hrt
          · split at hrt
            · cases hrt
              exact lw_ret hx hb hr hlocks hd
            · cases hrt
          · cases hrt
        · cases hrt
      · split at hrt
        · split at hrt <;> cases hrt
        · cases hrt
      · cases hrt)
  have hl := lv_entry ([.ref b]) (n := 4) (Nat.le_of_ble_eq_true rfl)
  rw [lg_entry_eq]
  have hLL := fb_L.entry s.heap.size sa (as := [.ref 1000006]) (n := 4) (by decide)
  have k2 := k s.heap [] _ (fun k q hq => by simp [fb_ws, fb_N, fb_h0] at hq) va_S.rf hLL
  exact k2
end
section
/-! THE INTERPRETER'S CALCULUS: what comes of a place, a call, a rest -/
def iI (z : Int) : Int32 := Int32.ofInt z
def ev_w (j pc : Nat) (ls st : List Value) (h : fb_H) (Q : Option Value → fb_H → Prop) : Prop := ∃ f r h', fb_ev f j pc ls st h = some (r, h') ∧ Q r h'
def ev_c (y : Nat) (as : List Value) (h : fb_H) (Q : Option Value → fb_H → Prop) : Prop := ev_w y 0 (fb_en as (mL y)) [] h Q
def ev_k (j pc : Nat) (ls st : List Value) (Q : Option Value → fb_H → Prop) (r : Option Value) (h : fb_H) : Prop := ev_w j pc ls (r.toList ++ st) h Q
theorem ev_k_s {j pc : Nat} {ls st : List Value} {Q : Option Value → fb_H → Prop} {v : Value} {h : fb_H} : ev_k j pc ls st Q (some v) h = ev_w j pc ls (v :: st) h Q := rfl
theorem ev_k_n {j pc : Nat} {ls st : List Value} {Q : Option Value → fb_H → Prop} {h : fb_H} : ev_k j pc ls st Q none h = ev_w j pc ls st h Q := rfl
theorem fb_dd {j pc : Nat} {x : Instr × Nat} (h : decode (mB j) pc = .ok x) : fb_dec j pc = some x := by
  unfold fb_dec
  rw [h]
section EVL
variable {j pc len pc' i : Nat} {ins : Instr} {ls st ls' st' : List Value} {h h' : fb_H} {Q : Option Value → fb_H → Prop}
theorem ev_step (hd : fb_dec j pc = some (ins, len)) (hc : fb_ca j ins len st h = none) (hr : fb_rt j ins len st = none) (hs : fb_st j ins len pc ls st h = some (pc', ls', st', h')) : ev_w j pc ls st h Q = ev_w j pc' ls' st' h' Q := by
  apply propext
  constructor
  · rintro ⟨f, r, h2, e, q⟩
    cases f with
    | zero => simp [fb_ev] at e
    | succ f =>
      rw [fb_ev_s] at e
      unfold fb_bd at e
      rw [hd] at e
      dsimp only at e
      rw [hc] at e
      dsimp only at e
      rw [hr] at e
      dsimp only at e
      rw [hs] at e
      exact ⟨f, r, h2, e, q⟩
  · rintro ⟨f, r, h2, e, q⟩
    exact ⟨f + 1, r, h2, fb_ev_step hd hc hr hs e, q⟩
theorem ev_fail (hd : fb_dec j pc = some (ins, len)) (hc : fb_ca j ins len st h = none) (hr : fb_rt j ins len st = none) (hs : fb_st j ins len pc ls st h = none) : ev_w j pc ls st h Q = False := by
  apply propext
  refine ⟨?_, fun h => h.elim⟩
  rintro ⟨f, r, h2, e, q⟩
  cases f with
  | zero => simp [fb_ev] at e
  | succ f =>
    rw [fb_ev_s] at e
    unfold fb_bd at e
    rw [hd] at e
    dsimp only at e
    rw [hc] at e
    dsimp only at e
    rw [hr] at e
    dsimp only at e
    rw [hs] at e
    cases e
theorem ev_if {P : Prop} (hd : fb_dec j pc = some (ins, len)) (hc : fb_ca j ins len st h = none) (hr : fb_rt j ins len st = none) (hs : P → fb_st j ins len pc ls st h = some (pc', ls', st', h')) (hn : ¬ P → fb_st j ins len pc ls st h = none) : ev_w j pc ls st h Q = (P ∧ ev_w j pc' ls' st' h' Q) := by
  apply propext
  by_cases hP : P
  · rw [ev_step hd hc hr (hs hP)]
    exact ⟨fun q => ⟨hP, q⟩, fun q => q.2⟩
  · rw [ev_fail hd hc hr (hn hP)]
    exact ⟨fun q => q.elim, fun q => hP q.1⟩
theorem ev_br {P : Prop} {inst : Decidable P} {p1 p2 : Nat} (hd : fb_dec j pc = some (ins, len)) (hc : fb_ca j ins len st h = none) (hr : fb_rt j ins len st = none) (hs : P → fb_st j ins len pc ls st h = some (p1, ls, st', h)) (hn : ¬ P → fb_st j ins len pc ls st h = some (p2, ls, st', h)) : ev_w j pc ls st h Q = if P then ev_w j p1 ls st' h Q else ev_w j p2 ls st' h Q := by
  by_cases hP : P
  · rw [ev_step hd hc hr (hs hP), if_pos hP]
  · rw [ev_step hd hc hr (hn hP), if_neg hP]
theorem ev_ret {r : Option Value} (hd : fb_dec j pc = some (ins, len)) (hc : fb_ca j ins len st h = none) (hr : fb_rt j ins len st = some r) : ev_w j pc ls st h Q = Q r h := by
  apply propext
  constructor
  · rintro ⟨f, r2, h2, e, q⟩
    cases f with
    | zero => simp [fb_ev] at e
    | succ f =>
      rw [fb_ev_s] at e
      unfold fb_bd at e
      rw [hd] at e
      dsimp only at e
      rw [hc] at e
      dsimp only at e
      rw [hr] at e
      cases e
      exact q
  · intro q
    exact ⟨1, r, h, fb_ev_end hd hc hr, q⟩
theorem ev_call {y : Nat} {as rest : List Value} (hd : fb_dec j pc = some (ins, len)) (hc : fb_ca j ins len st h = some (y, as, rest)) : ev_w j pc ls st h Q = ev_c y as h (ev_k j (pc + 3) ls rest Q) := by
  apply propext
  constructor
  · rintro ⟨f, r2, h2, e, q⟩
    cases f with
    | zero => simp [fb_ev] at e
    | succ f =>
      rw [fb_ev_s] at e
      unfold fb_bd at e
      rw [hd] at e
      dsimp only at e
      rw [hc] at e
      dsimp only at e
      cases he : fb_ev f y 0 (fb_en as (mL y)) [] h with
      | none => rw [he] at e; cases e
      | some z =>
        obtain ⟨r1, h1⟩ := z
        rw [he] at e
        exact ⟨f, r1, h1, he, f, r2, h2, e, q⟩
  · rintro ⟨f, r1, h1, e1, g, r2, h2, e2, q⟩
    exact ⟨max f g + 1, r2, h2, fb_ev_call hd hc (fb_mono_le (Nat.le_max_left f g) e1) (fb_mono_le (Nat.le_max_right f g) e2), q⟩
/-- a call whose end is known whatever comes behind it -/
theorem ev_c_eq {y : Nat} {as : List Value} {r : Option Value} (H : ev_c y as h (fun r2 h2 => r2 = r ∧ h2 = h')) : ev_c y as h Q = Q r h' := by
  obtain ⟨f, r2, h2, e, rfl, rfl⟩ := H
  apply propext
  constructor
  · rintro ⟨g, r3, h3, e3, q⟩
    have a := fb_mono_le (Nat.le_max_left f g) e
    have b := fb_mono_le (Nat.le_max_right f g) e3
    cases a.symm.trans b
    exact q
  · intro q
    exact ⟨f, r2, h2, e, q⟩
theorem ev_w_mono {Q2 : Option Value → fb_H → Prop} (H : ev_w j pc ls st h Q) (hq : ∀ r h2, Q r h2 → Q2 r h2) : ev_w j pc ls st h Q2 := by
  obtain ⟨f, r, h2, e, q⟩ := H
  exact ⟨f, r, h2, e, hq _ _ q⟩
theorem ev_c_mono {y : Nat} {as : List Value} {Q2 : Option Value → fb_H → Prop} (H : ev_c y as h Q) (hq : ∀ r h2, Q r h2 → Q2 r h2) : ev_c y as h Q2 := ev_w_mono H hq
/-- a call's end, and what it says -/
theorem ev_c_ex {y : Nat} {as : List Value} (H : ev_c y as h Q) : ∃ r h2, Q r h2 ∧ ∀ Q2 : Option Value → fb_H → Prop, ev_c y as h Q2 = Q2 r h2 := by
  obtain ⟨f, r, h2, e, q⟩ := H
  exact ⟨r, h2, q, fun Q2 => ev_c_eq ⟨f, r, h2, e, rfl, rfl⟩⟩
/-! calls -/
theorem fb_ca_V : fb_ca j (.invokevirtual i) 3 st h = (match fb_fd fb_il (fb_ky j i) with
    | some (k, y) => if k = 0 ∨ k = 3 then (match fb_as y st with
      | .ref b :: As => if fb_ck j y st = true ∧ (fb_T h b).1 = oC (mO y) then some (y, .ref b :: As, st.drop (mN y)) else none
      | _ => none) else none
    | none => none) := rfl
theorem fb_ca_S : fb_ca j (.invokestatic i) 3 st h = (match fb_fd fb_il (fb_ky j i) with
    | some (k, y) => if (k = 1 ∨ k = 4) ∧ fb_ck j y st = true then some (y, fb_as y st, st.drop (mN y)) else none
    | none => none) := rfl
theorem fb_ca_I : fb_ca j (.invokespecial i) 3 st h = (match fb_fd fb_il (fb_ky j i) with
    | some (k, y) => if k = 2 ∨ k = 5 then (match fb_as y st with
      | .ref b :: As => if fb_ck j y st = true then some (y, .ref b :: As, st.drop (mN y)) else none
      | _ => none) else none
    | none => none) := rfl
theorem fb_st_V : fb_st j (.invokevirtual i) 3 pc ls st h = (match st with
    | .ref a :: r => (match fb_fd fb_il (fb_ky j i) with
      | some (9, _) => if (fb_T h a).1 = 16 ∧ 1000000 ≤ a ∧ a < 1000006 ∧ fb_N h < 900000 ∧ 1 ≤ mD j ∧ r.length ≤ 4 then some (pc + 3, ls, .ref (fb_N h) :: r, fb_cp h a) else none
      | _ => none)
    | _ => none) := rfl
theorem fb_st_I : fb_st j (.invokespecial i) 3 pc ls st h = (match st with
    | .ref a :: r => (match fb_fd fb_il (fb_ky j i) with
      | some (6, _) => if 1 ≤ mD j ∧ r.length ≤ 4 then some (pc + 3, ls, r, h) else none
      | _ => none)
    | _ => none) := rfl
theorem fb_rt_i {v : Int32} : fb_rt j .ireturn 1 [.int v] = (match mR j with
      | some ty => if narrow ty (.int v) = .int v then some (some (.int v)) else none
      | none => none) := rfl
theorem fb_rt_v : fb_rt j .return_ 1 [] = (if mR j = none then some none else none) := rfl
theorem ev_callS {y k : Nat} {as rest : List Value} (hd : fb_dec j pc = some (.invokestatic i, 3)) (hf : fb_fd fb_il (fb_ky j i) = some (k, y)) (hk : k = 1 ∨ k = 4) (hck : fb_ck j y st = true) (ha : fb_as y st = as) (hrest : st.drop (mN y) = rest) : ev_w j pc ls st h Q = ev_c y as h (ev_k j (pc + 3) ls rest Q) := by
  refine ev_call hd ?_
  rw [fb_ca_S, hf]
  dsimp only
  rw [if_pos ⟨hk, hck⟩, ha, hrest]
theorem ev_callI {y k b : Nat} {As rest : List Value} (hd : fb_dec j pc = some (.invokespecial i, 3)) (hf : fb_fd fb_il (fb_ky j i) = some (k, y)) (hk : k = 2 ∨ k = 5) (hck : fb_ck j y st = true) (ha : fb_as y st = .ref b :: As) (hrest : st.drop (mN y) = rest) : ev_w j pc ls st h Q = ev_c y (.ref b :: As) h (ev_k j (pc + 3) ls rest Q) := by
  refine ev_call hd ?_
  rw [fb_ca_I, hf]
  dsimp only
  rw [if_pos hk, ha]
  dsimp only
  rw [if_pos hck, hrest]
theorem ev_callV {y k b c1 : Nat} {As rest : List Value} (hd : fb_dec j pc = some (.invokevirtual i, 3)) (hf : fb_fd fb_il (fb_ky j i) = some (k, y)) (hk : k = 0 ∨ k = 3) (hck : fb_ck j y st = true) (ha : fb_as y st = .ref b :: As) (hrest : st.drop (mN y) = rest) (hc1 : oC (mO y) = c1) : ev_w j pc ls st h Q = ((fb_T h b).1 = c1 ∧ ev_c y (.ref b :: As) h (ev_k j (pc + 3) ls rest Q)) := by
  subst hc1
  apply propext
  by_cases hT : (fb_T h b).1 = oC (mO y)
  · rw [ev_call (y := y) (as := .ref b :: As) (rest := rest) hd (by
      rw [fb_ca_V, hf]
      dsimp only
      rw [if_pos hk, ha]
      dsimp only
      rw [if_pos ⟨hck, hT⟩, hrest])]
    exact ⟨fun q => ⟨hT, q⟩, fun q => q.2⟩
  · refine ⟨fun q => ?_, fun q => absurd q.1 hT⟩
    have hca : fb_ca j (.invokevirtual i) 3 st h = none := by
      rw [fb_ca_V, hf]
      dsimp only
      rw [if_pos hk, ha]
      dsimp only
      rw [if_neg (fun w => hT w.2)]
    have hst : fb_st j (.invokevirtual i) 3 pc ls st h = none := by
      rw [fb_st_V]
      split
      · rw [hf]
        rcases hk with rfl | rfl <;> rfl
      · rfl
    rw [ev_fail hd hca rfl hst] at q
    exact q.elim
/-! instructions with a condition -/
theorem ev_gfI {a c k : Nat} (hd : fb_dec j pc = some (.getfield i, 3)) (hf : fb_fd fb_fl (fb_ky j i) = some (c, k)) (hK : cK c k = false) : ev_w j pc ls (.ref a :: st) h Q = ((fb_T h a).1 = c ∧ ev_w j (pc + 3) ls (.int (fb_I h a k) :: st) h Q) :=
  ev_if hd rfl rfl (fun w => by show fb_gf _ _ _ _ _ = _; rw [hf]; unfold fb_gf; (try dsimp only); rw [if_pos w, if_neg (by rw [hK]; decide)]) (fun w => by show fb_gf _ _ _ _ _ = _; rw [hf]; unfold fb_gf; (try dsimp only); rw [if_neg w])
theorem ev_gfR {a c k : Nat} (hd : fb_dec j pc = some (.getfield i, 3)) (hf : fb_fd fb_fl (fb_ky j i) = some (c, k)) (hK : cK c k = true) : ev_w j pc ls (.ref a :: st) h Q = ((fb_T h a).1 = c ∧ ∃ b, fb_R h a k = some b ∧ ev_w j (pc + 3) ls (.ref b :: st) h Q) := by
  have e1 : fb_st j (.getfield i) 3 pc ls (.ref a :: st) h = if (fb_T h a).1 = c then (match fb_R h a k with
    | some b => some (pc + 3, ls, .ref b :: st, h)
    | none => none) else none := by
    show fb_gf _ _ _ _ _ = _
    rw [hf]
    unfold fb_gf
    try dsimp only
    rw [if_pos hK]
    rfl
  apply propext
  by_cases hT : (fb_T h a).1 = c
  · rw [if_pos hT] at e1
    cases hR : fb_R h a k with
    | none =>
      rw [hR] at e1
      rw [ev_fail hd rfl rfl e1]
      exact ⟨fun q => q.elim, fun ⟨_, b, w, _⟩ => by cases w⟩
    | some b =>
      rw [hR] at e1
      rw [ev_step hd rfl rfl e1]
      exact ⟨fun q => ⟨hT, b, rfl, q⟩, fun ⟨_, b2, w, q⟩ => by cases w; exact q⟩
  · rw [if_neg hT] at e1
    rw [ev_fail hd rfl rfl e1]
    exact ⟨fun q => q.elim, fun q => absurd q.1 hT⟩
theorem ev_pfI {a c k : Nat} {v : Int32} (hd : fb_dec j pc = some (.putfield i, 3)) (hf : fb_fd fb_fl (fb_ky j i) = some (c, k)) (hK : cK c k = false) (hF : (cT c k).2.2.2 = false) : ev_w j pc ls (.int v :: .ref a :: st) h Q = ((fb_T h a).1 = c ∧ ev_w j (pc + 3) ls st (fb_sI h a k v) Q) :=
  ev_if hd rfl rfl (fun w => by show fb_pf _ _ _ _ _ _ = _; rw [hf]; unfold fb_pf; (try dsimp only); rw [if_pos ⟨w, hK, hF⟩]) (fun w => by show fb_pf _ _ _ _ _ _ = _; rw [hf]; unfold fb_pf; (try dsimp only); rw [if_neg (fun z => w z.1)])
theorem ev_pfR {a b c k : Nat} (hd : fb_dec j pc = some (.putfield i, 3)) (hf : fb_fd fb_fl (fb_ky j i) = some (c, k)) (hK : cK c k = true) (hF : (cT c k).2.2.2 = true) (hi : (mY j).name = "<init>") (ho : cX c = oN (mO j)) : ev_w j pc ls (.ref b :: .ref a :: st) h Q = ((fb_T h a).1 = c ∧ b < fb_N h ∧ ev_w j (pc + 3) ls st (fb_sR h a k (some b)) Q) := by
  rw [← and_assoc]
  exact ev_if hd rfl rfl (fun w => by show fb_pf _ _ _ _ _ _ = _; rw [hf]; unfold fb_pf; (try dsimp only); rw [if_pos ⟨w.1, hK, w.2, hF, hi, ho⟩]) (fun w => by show fb_pf _ _ _ _ _ _ = _; rw [hf]; unfold fb_pf; (try dsimp only); rw [if_neg (fun z => w ⟨z.1, z.2.2.1⟩)])
theorem ev_el {a k1 k2 : Nat} {x : Int32} (hd : fb_dec j pc = some (ins, len)) (hc : fb_ca j ins len (.int x :: .ref a :: st) h = none) (hr : fb_rt j ins len (.int x :: .ref a :: st) = none) (hs : fb_st j ins len pc ls (.int x :: .ref a :: st) h = fb_el k1 k2 pc ls (.int x :: .ref a :: st) h) : ev_w j pc ls (.int x :: .ref a :: st) h Q = (((fb_T h a).1 = k1 ∨ (fb_T h a).1 = k2) ∧ fb_in x (fb_T h a).2 = true ∧ ev_w j (pc + 1) ls (.int (fb_I h a x.toNatClampNeg) :: st) h Q) := by
  rw [← and_assoc]
  refine ev_if hd hc hr (fun w => ?_) (fun w => ?_) <;> rw [hs] <;> unfold fb_el <;> dsimp only
  · rw [if_pos w]
  · rw [if_neg w]
theorem ev_es {a k1 : Nat} {x v : Int32} {f : Int32 → Int32} (hd : fb_dec j pc = some (ins, len)) (hc : fb_ca j ins len (.int v :: .int x :: .ref a :: st) h = none) (hr : fb_rt j ins len (.int v :: .int x :: .ref a :: st) = none) (hs : fb_st j ins len pc ls (.int v :: .int x :: .ref a :: st) h = fb_es k1 f pc ls (.int v :: .int x :: .ref a :: st) h) : ev_w j pc ls (.int v :: .int x :: .ref a :: st) h Q = ((fb_T h a).1 = k1 ∧ fb_in x (fb_T h a).2 = true ∧ ev_w j (pc + 1) ls st (fb_sI h a x.toNatClampNeg (f v)) Q) := by
  rw [← and_assoc]
  refine ev_if hd hc hr (fun w => ?_) (fun w => ?_) <;> rw [hs] <;> unfold fb_es <;> dsimp only
  · rw [if_pos w]
  · rw [if_neg w]
theorem ev_aald {a : Nat} {x : Int32} (hd : fb_dec j pc = some (.aaload, 1)) : ev_w j pc ls (.int x :: .ref a :: st) h Q = (((fb_T h a).1 = 13 ∨ (fb_T h a).1 = 14 ∨ (fb_T h a).1 = 15) ∧ fb_in x (fb_T h a).2 = true ∧ ∃ b, fb_R h a x.toNatClampNeg = some b ∧ ev_w j (pc + 1) ls (.ref b :: st) h Q) := by
  have e1 : fb_st j .aaload 1 pc ls (.int x :: .ref a :: st) h = if ((fb_T h a).1 = 13 ∨ (fb_T h a).1 = 14 ∨ (fb_T h a).1 = 15) ∧ fb_in x (fb_T h a).2 = true then (fb_R h a x.toNatClampNeg).map (fun b => (pc + 1, ls, .ref b :: st, h)) else none := rfl
  apply propext
  by_cases hT : ((fb_T h a).1 = 13 ∨ (fb_T h a).1 = 14 ∨ (fb_T h a).1 = 15) ∧ fb_in x (fb_T h a).2 = true
  · rw [if_pos hT] at e1
    cases hR : fb_R h a x.toNatClampNeg with
    | none =>
      rw [hR] at e1
      rw [ev_fail hd rfl rfl e1]
      exact ⟨fun q => q.elim, fun ⟨_, _, b, w, _⟩ => by cases w⟩
    | some b =>
      rw [hR] at e1
      rw [ev_step hd rfl rfl e1]
      exact ⟨fun q => ⟨hT.1, hT.2, b, rfl, q⟩, fun ⟨_, _, b2, w, q⟩ => by cases w; exact q⟩
  · rw [if_neg hT] at e1
    rw [ev_fail hd rfl rfl e1]
    exact ⟨fun q => q.elim, fun q => absurd ⟨q.1, q.2.1⟩ hT⟩
theorem ev_aast {a b : Nat} {x : Int32} (hd : fb_dec j pc = some (.aastore, 1)) : ev_w j pc ls (.ref b :: .int x :: .ref a :: st) h Q = (((fb_T h a).1 = 13 ∧ (fb_T h b).1 = 3 ∨ (fb_T h a).1 = 14 ∧ (fb_T h b).1 = 5) ∧ fb_in x (fb_T h a).2 = true ∧ ev_w j (pc + 1) ls st (fb_sR h a x.toNatClampNeg (some b)) Q) := by
  rw [← and_assoc]
  refine ev_if hd rfl rfl (fun w => ?_) (fun w => ?_)
  · show (if _ then _ else _) = _
    rw [if_pos w]
  · show (if _ then _ else _) = _
    rw [if_neg w]
theorem ev_alen {a : Nat} (hd : fb_dec j pc = some (.arraylength, 1)) : ev_w j pc ls (.ref a :: st) h Q = ((10 ≤ (fb_T h a).1 ∧ (fb_T h a).1 ≤ 16) ∧ ev_w j (pc + 1) ls (.int (iI (fb_T h a).2) :: st) h Q) :=
  ev_if hd rfl rfl (fun w => by show (if _ then _ else _) = _; rw [if_pos w]; rfl) (fun w => by show (if _ then _ else _) = _; rw [if_neg w])
theorem ev_div {x y : Int32} (hd : fb_dec j pc = some (.idiv, 1)) : ev_w j pc ls (.int y :: .int x :: st) h Q = (¬ y = 0 ∧ ev_w j (pc + 1) ls (.int (x / y) :: st) h Q) :=
  ev_if hd rfl rfl (fun w => by show (if _ then _ else _) = _; rw [if_neg w]) (fun w => by show (if _ then _ else _) = _; rw [if_pos (Classical.not_not.mp w)])
theorem ev_rem {x y : Int32} (hd : fb_dec j pc = some (.irem, 1)) : ev_w j pc ls (.int y :: .int x :: st) h Q = (¬ y = 0 ∧ ev_w j (pc + 1) ls (.int (x - x / y * y) :: st) h Q) :=
  ev_if hd rfl rfl (fun w => by show (if _ then _ else _) = _; rw [if_neg w]) (fun w => by show (if _ then _ else _) = _; rw [if_pos (Classical.not_not.mp w)])
theorem ev_new {c k : Nat} (hd : fb_dec j pc = some (.new i, 3)) (hf : fb_fd fb_cl (fb_ky j i) = some (c, k)) (hc : c < 8) : ev_w j pc ls st h Q = (fb_N h < 900000 ∧ ev_w j (pc + 3) ls (.ref (fb_N h) :: st) (fb_nw h c 0 (cN c)) Q) :=
  ev_if hd rfl rfl (fun w => by show (match fb_fd fb_cl (fb_ky j i) with | some (c, _) => _ | none => _) = _; rw [hf]; (try dsimp only); rw [if_pos ⟨hc, w⟩]) (fun w => by show (match fb_fd fb_cl (fb_ky j i) with | some (c, _) => _ | none => _) = _; rw [hf]; (try dsimp only); rw [if_neg (fun z => w z.2)])
theorem ev_na {kd n : Nat} {x : Int32} (hd : fb_dec j pc = some (ins, len)) (hc : fb_ca j ins len (.int x :: st) h = none) (hr : fb_rt j ins len (.int x :: st) = none) (hs : fb_st j ins len pc ls (.int x :: st) h = fb_na kd n x pc ls st h) : ev_w j pc ls (.int x :: st) h Q = ((¬ x < 0 ∧ x.toNatClampNeg ≤ 10000 ∧ fb_N h < 900000) ∧ ev_w j (pc + n) ls (.ref (fb_N h) :: st) (fb_nw h kd x.toNatClampNeg x.toNatClampNeg) Q) := by
  refine ev_if hd hc hr (fun w => ?_) (fun w => ?_) <;> rw [hs] <;> unfold fb_na
  · rw [if_pos w]
  · rw [if_neg w]
theorem ev_nq {kd q : Nat} {x : Int32} (hd : fb_dec j pc = some (.anewarray i, 3)) (hf : fb_fd fb_cl (fb_ky j i) = some (kd, q)) (hk : kd = 13 ∨ kd = 14) : ev_w j pc ls (.int x :: st) h Q = ((¬ x < 0 ∧ x.toNatClampNeg ≤ 10000 ∧ fb_N h < 900000) ∧ ev_w j (pc + 3) ls (.ref (fb_N h) :: st) (fb_nw h kd x.toNatClampNeg x.toNatClampNeg) Q) := by
  refine ev_na hd rfl rfl ?_
  show (match fb_fd fb_cl (fb_ky j i) with
      | some (13, _) => fb_na 13 3 x pc ls st h
      | some (14, _) => fb_na 14 3 x pc ls st h
      | _ => none) = _
  rw [hf]
  rcases hk with rfl | rfl <;> rfl
theorem ev_mn {q : Nat} {n k : Int32} (hd : fb_dec j pc = some (.multianewarray i 2, 4)) (hf : fb_fd fb_cl (fb_ky j i) = some (15, q)) : ev_w j pc ls (.int k :: .int n :: st) h Q = ((¬ n < 0 ∧ ¬ k < 0 ∧ n.toNatClampNeg ≤ 1000 ∧ k.toNatClampNeg ≤ 1000 ∧ fb_N h < 900000) ∧ ev_w j (pc + 4) ls (.ref (fb_N h) :: st) (fb_mn h n.toNatClampNeg k.toNatClampNeg) Q) := by
  have e1 : fb_st j (.multianewarray i 2) 4 pc ls (.int k :: .int n :: st) h = if ¬ n < 0 ∧ ¬ k < 0 ∧ n.toNatClampNeg ≤ 1000 ∧ k.toNatClampNeg ≤ 1000 ∧ fb_N h < 900000 then some (pc + 4, ls, .ref (fb_N h) :: st, fb_mn h n.toNatClampNeg k.toNatClampNeg) else none := by
    show (match fb_fd fb_cl (fb_ky j i) with
      | some (15, _) => _
      | _ => none) = _
    rw [hf]
    rfl
  refine ev_if hd rfl rfl (fun w => ?_) (fun w => ?_)
  · rw [e1, if_pos w]
  · rw [e1, if_neg w]
theorem ev_cc {a q : Nat} (hd : fb_dec j pc = some (.checkcast i, 3)) (hf : fb_fd fb_cl (fb_ky j i) = some (10, q)) : ev_w j pc ls (.ref a :: st) h Q = ((fb_T h a).1 = 10 ∧ ev_w j (pc + 3) ls (.ref a :: st) h Q) := by
  have e1 : fb_st j (.checkcast i) 3 pc ls (.ref a :: st) h = if (fb_T h a).1 = 10 then some (pc + 3, ls, .ref a :: st, h) else none := by
    show (match fb_fd fb_cl (fb_ky j i) with
      | some (10, _) => _
      | _ => none) = _
    rw [hf]
    rfl
  refine ev_if hd rfl rfl (fun w => ?_) (fun w => ?_)
  · rw [e1, if_pos w]
  · rw [e1, if_neg w]
theorem ev_oi {a q : Nat} (hd : fb_dec j pc = some (.invokespecial i, 3)) (hf : fb_fd fb_il (fb_ky j i) = some (6, q)) (h1 : 1 ≤ mD j) (h4 : st.length ≤ 4) : ev_w j pc ls (.ref a :: st) h Q = ev_w j (pc + 3) ls st h Q := by
  refine ev_step hd ?_ rfl ?_
  · rw [fb_ca_I, hf]
    rfl
  · rw [fb_st_I]
    show (match fb_fd fb_il (fb_ky j i) with
      | some (6, _) => _
      | _ => none) = _
    rw [hf]
    show (if 1 ≤ mD j ∧ st.length ≤ 4 then some (pc + 3, ls, st, h) else none) = _
    rw [if_pos ⟨h1, h4⟩]
theorem ev_cl {a q : Nat} (hd : fb_dec j pc = some (.invokevirtual i, 3)) (hf : fb_fd fb_il (fb_ky j i) = some (9, q)) (h1 : 1 ≤ mD j) (h4 : st.length ≤ 4) : ev_w j pc ls (.ref a :: st) h Q = (((fb_T h a).1 = 16 ∧ 1000000 ≤ a ∧ a < 1000006 ∧ fb_N h < 900000) ∧ ev_w j (pc + 3) ls (.ref (fb_N h) :: st) (fb_cp h a) Q) := by
  have hc : fb_ca j (.invokevirtual i) 3 (.ref a :: st) h = none := by
    rw [fb_ca_V, hf]
    rfl
  have e1 : fb_st j (.invokevirtual i) 3 pc ls (.ref a :: st) h = if (fb_T h a).1 = 16 ∧ 1000000 ≤ a ∧ a < 1000006 ∧ fb_N h < 900000 ∧ 1 ≤ mD j ∧ st.length ≤ 4 then some (pc + 3, ls, .ref (fb_N h) :: st, fb_cp h a) else none := by
    show (match fb_fd fb_il (fb_ky j i) with
      | some (9, _) => _
      | _ => none) = _
    rw [hf]
    rfl
  refine ev_if hd hc rfl (fun w => ?_) (fun w => ?_)
  · rw [e1, if_pos ⟨w.1, w.2.1, w.2.2.1, w.2.2.2, h1, h4⟩]
  · rw [e1, if_neg (fun z => w ⟨z.1, z.2.1, z.2.2.1, z.2.2.2.1⟩)]
theorem ev_iret {v : Int32} {ty : FieldType} (hd : fb_dec j pc = some (.ireturn, 1)) (hr : mR j = some ty) (hn : narrow ty (.int v) = .int v) : ev_w j pc ls [.int v] h Q = Q (some (.int v)) h := by
  refine ev_ret hd rfl ?_
  rw [fb_rt_i, hr]
  dsimp only
  rw [if_pos hn]
theorem ev_zret {v : Int32} {ty : FieldType} (hd : fb_dec j pc = some (.ireturn, 1)) (hr : mR j = some ty) : ev_w j pc ls [.int v] h Q = (narrow ty (.int v) = .int v ∧ Q (some (.int v)) h) := by
  apply propext
  by_cases hn : narrow ty (.int v) = .int v
  · rw [ev_iret hd hr hn]
    exact ⟨fun q => ⟨hn, q⟩, fun q => q.2⟩
  · rw [ev_fail hd rfl (by rw [fb_rt_i, hr]; dsimp only; rw [if_neg hn]) rfl]
    exact ⟨fun q => q.elim, fun q => absurd q.1 hn⟩
theorem ev_vret (hd : fb_dec j pc = some (.return_, 1)) (hr : mR j = none) : ev_w j pc ls [] h Q = Q none h := by
  refine ev_ret hd rfl ?_
  rw [fb_rt_v, if_pos hr]
theorem ev_p1 {k : Nat} {v : Value} (h1 : k < ls.length) (h2 : k = 0 ∨ (ls.getD (k - 1) .null).category = 1) : fb_p1 ls k v = some (ls.set k v) := if_pos ⟨h1, h2⟩
theorem ev_ic {k : Jvm.ClassFile.Cond} {off : Int} {x y : Int32} {P : Prop} {inst : Decidable P} (hd : fb_dec j pc = some (.if_icmp k off, 3)) (ht : 0 ≤ (pc : Int) + off) (hp : fb_to pc off = pc') (hP : fb_c k x y = true ↔ P) : ev_w j pc ls (.int y :: .int x :: st) h Q = if P then ev_w j pc' ls st h Q else ev_w j (pc + 3) ls st h Q := by
  subst hp
  refine ev_br hd rfl rfl (fun w => ?_) (fun w => ?_)
  · show (if _ then (if _ then _ else _) else _) = _
    rw [if_pos ht, if_pos (hP.mpr w)]
  · show (if _ then (if _ then _ else _) else _) = _
    rw [if_pos ht, if_neg (fun z => w (hP.mp z))]
theorem ev_i0 {k : Jvm.ClassFile.Cond} {off : Int} {x : Int32} {P : Prop} {inst : Decidable P} (hd : fb_dec j pc = some (.ifCond k off, 3)) (ht : 0 ≤ (pc : Int) + off) (hp : fb_to pc off = pc') (hP : fb_c k x 0 = true ↔ P) : ev_w j pc ls (.int x :: st) h Q = if P then ev_w j pc' ls st h Q else ev_w j (pc + 3) ls st h Q := by
  subst hp
  refine ev_br hd rfl rfl (fun w => ?_) (fun w => ?_)
  · show (if _ then (if _ then _ else _) else _) = _
    rw [if_pos ht, if_pos (hP.mpr w)]
  · show (if _ then (if _ then _ else _) else _) = _
    rw [if_pos ht, if_neg (fun z => w (hP.mp z))]
theorem ev_lt (x y : Int32) : fb_c .lt x y = true ↔ x < y := decide_eq_true_iff
theorem ev_le (x y : Int32) : fb_c .le x y = true ↔ x ≤ y := decide_eq_true_iff
theorem ev_gt (x y : Int32) : fb_c .gt x y = true ↔ y < x := decide_eq_true_iff
theorem ev_ge (x y : Int32) : fb_c .ge x y = true ↔ y ≤ x := decide_eq_true_iff
theorem ev_eq (x y : Int32) : fb_c .eq x y = true ↔ x = y := decide_eq_true_iff
theorem ev_ne (x y : Int32) : fb_c .ne x y = true ↔ ¬ x = y := by unfold fb_c; simp
theorem ev_go {off : Int} (hd : fb_dec j pc = some (.goto off, 3)) (ht : 0 ≤ (pc : Int) + off) (hp : fb_to pc off = pc') : ev_w j pc ls st h Q = ev_w j pc' ls st h Q := by
  subst hp
  refine ev_step hd rfl rfl ?_
  show fb_j pc off ls st h = _
  unfold fb_j
  rw [if_pos ht]
theorem ev_tsO {d lo hi : Int} {offs : Array Int} {x : Int32} (hd : fb_dec j pc = some (.tableswitch d lo hi offs, len)) (ht : 0 ≤ (pc : Int) + d) (hp : fb_to pc d = pc') (hx : x.toInt < lo ∨ hi < x.toInt) : ev_w j pc ls (.int x :: st) h Q = ev_w j pc' ls st h Q := by
  subst hp
  refine ev_step hd (by unfold fb_ca; split <;> first | rfl | simp_all) (by unfold fb_rt; split <;> first | rfl | simp_all) ?_
  show (if _ then _ else _) = _
  rw [if_pos hx]
  unfold fb_j
  rw [if_pos ht]
theorem ev_tsI {d lo hi off : Int} {offs : Array Int} {x : Int32} (hd : fb_dec j pc = some (.tableswitch d lo hi offs, len)) (hx : ¬ (x.toInt < lo ∨ hi < x.toInt)) (ho : offs[(x.toInt - lo).toNat]? = some off) (ht : 0 ≤ (pc : Int) + off) (hp : fb_to pc off = pc') : ev_w j pc ls (.int x :: st) h Q = ev_w j pc' ls st h Q := by
  subst hp
  refine ev_step hd (by unfold fb_ca; split <;> first | rfl | simp_all) (by unfold fb_rt; split <;> first | rfl | simp_all) ?_
  show (if _ then _ else (match offs[(x.toInt - lo).toNat]? with
      | some off => _
      | none => none)) = _
  rw [if_neg hx, ho]
  show fb_j _ _ _ _ _ = _
  unfold fb_j
  rw [if_pos ht]
theorem ev_lk {d off : Int} {ps : Array (Int × Int)} {x : Int32} (hd : fb_dec j pc = some (.lookupswitch d ps, len)) (hs : (ps.toList.zip (ps.toList.drop 1)).all (fun (a, next) => a.1 < next.1) = true) (ho : Op.lookupswitch.offset ps.toList d x.toInt = off) (ht : 0 ≤ (pc : Int) + off) (hp : fb_to pc off = pc') : ev_w j pc ls (.int x :: st) h Q = ev_w j pc' ls st h Q := by
  subst hp
  subst ho
  refine ev_step hd (by unfold fb_ca; split <;> first | rfl | simp_all) (by unfold fb_rt; split <;> first | rfl | simp_all) ?_
  show (if _ then _ else _) = _
  rw [if_pos hs]
  unfold fb_j
  rw [if_pos ht]
end EVL
end
