/-! ===== what the tables say of each method ===== -/
def pg_mo (q : mm_Mi) (Ms : List Cond) : Bool := decide (q.1.cls ≠ "java/lang/invoke/MethodHandle") && decide (q.1.cls ≠ "java/lang/invoke/VarHandle") && decide (q.2.2.1 ≤ 21) && decide ((parseMethodDescriptor q.1.desc).map (fun d => d.parameters.length + (if q.2.2.2.2.2.1 = 0 then 0 else 1)) = some q.2.2.2.2.1) && (match q.2.2.2.2.2.1 with
  | 0 => decide (Cond.static q.1 ∈ Ms)
  | 1 => decide (Cond.instanceMethod q.1 ∈ Ms) && decide (Cond.selects q.1.cls q.1 q.1 ∈ Ms)
  | 2 => decide (Cond.instanceMethod q.1 ∈ Ms) && decide (q.1.name = "<init>") && decide (q.2.2.2.1 = none)
  | _ => false) && decide (Cond.initialized q.1.cls ∈ Ms)
theorem pg_mo_of {q : mm_Mi} {Ms : List Cond} (hM : ∀ w ∈ Ms, w ∈ pg_T) (hc : Cond.code q.1 q.2.1 q.2.2.1 q.2.2.2.1 ∈ pg_T) (h : pg_mo q Ms = true) (y : Nat) : mm_Mo pg_T y q := by
  simp only [pg_mo, Bool.and_eq_true, decide_eq_true_eq] at h
  obtain ⟨⟨⟨⟨⟨h1, h2⟩, h3⟩, h4⟩, h5⟩, h6⟩ := h
  refine ⟨hc, ⟨h1, h2⟩, h3, h4, fun hk => ?_, fun hk => ?_, fun hk => ?_, hM _ h6, fun hk => ?_⟩
  · rw [hk] at h5
    exact hM _ (of_decide_eq_true h5)
  · split at h5
    · rename_i e; exact absurd e hk
    · simp only [Bool.and_eq_true, decide_eq_true_eq] at h5; exact hM _ h5.1
    · simp only [Bool.and_eq_true, decide_eq_true_eq] at h5; exact hM _ h5.1.1
    · cases h5
  · rw [hk] at h5
    simp only [Bool.and_eq_true, decide_eq_true_eq] at h5
    exact hM _ h5.2
  · rw [hk] at h5
    simp only [Bool.and_eq_true, decide_eq_true_eq] at h5
    exact ⟨h5.1.2, h5.2⟩
def pg_mw0 : List Cond := [.static ⟨"java/lang/Integer", "bitCount", "(I)I"⟩, .initialized "java/lang/Integer"]
theorem pg_mk0 : ∀ w ∈ pg_mw0, w ∈ pg_T := pg_subT (ps := [645, 133]) (by decide +kernel) (by decide +kernel)
def pg_mw1 : List Cond := [.static ⟨"java/util/Arrays", "fill", "([II)V"⟩, .initialized "java/util/Arrays"]
theorem pg_mk1 : ∀ w ∈ pg_mw1, w ∈ pg_T := pg_subT (ps := [208, 122]) (by decide +kernel) (by decide +kernel)
def pg_mw2 : List Cond := [.instanceMethod ⟨"ScanDesk$Order", "<init>", "()V"⟩, .instanceMethod ⟨"ScanDesk$Order", "lay", "(LScanDesk$Picture;LScanDesk$Scan;)V"⟩, .selects "ScanDesk$Order" ⟨"ScanDesk$Order", "lay", "(LScanDesk$Picture;LScanDesk$Scan;)V"⟩ ⟨"ScanDesk$Order", "lay", "(LScanDesk$Picture;LScanDesk$Scan;)V"⟩, .instanceMethod ⟨"ScanDesk$Order", "own", "(II)V"⟩, .selects "ScanDesk$Order" ⟨"ScanDesk$Order", "own", "(II)V"⟩ ⟨"ScanDesk$Order", "own", "(II)V"⟩, .instanceMethod ⟨"ScanDesk$Order", "layAlone", "(LScanDesk$Picture;I)V"⟩, .selects "ScanDesk$Order" ⟨"ScanDesk$Order", "layAlone", "(LScanDesk$Picture;I)V"⟩ ⟨"ScanDesk$Order", "layAlone", "(LScanDesk$Picture;I)V"⟩, .instanceMethod ⟨"ScanDesk$Order", "layTogether", "(LScanDesk$Picture;LScanDesk$Scan;)V"⟩, .selects "ScanDesk$Order" ⟨"ScanDesk$Order", "layTogether", "(LScanDesk$Picture;LScanDesk$Scan;)V"⟩ ⟨"ScanDesk$Order", "layTogether", "(LScanDesk$Picture;LScanDesk$Scan;)V"⟩, .instanceMethod ⟨"ScanDesk$Order", "layMcu", "(LScanDesk$Picture;III)V"⟩, .selects "ScanDesk$Order" ⟨"ScanDesk$Order", "layMcu", "(LScanDesk$Picture;III)V"⟩ ⟨"ScanDesk$Order", "layMcu", "(LScanDesk$Picture;III)V"⟩, .instanceMethod ⟨"ScanDesk$Order", "append", "(I)V"⟩, .selects "ScanDesk$Order" ⟨"ScanDesk$Order", "append", "(I)V"⟩ ⟨"ScanDesk$Order", "append", "(I)V"⟩, .instanceMethod ⟨"ScanDesk$Order", "cell", "(I)I"⟩, .selects "ScanDesk$Order" ⟨"ScanDesk$Order", "cell", "(I)I"⟩ ⟨"ScanDesk$Order", "cell", "(I)I"⟩, .instanceMethod ⟨"ScanDesk$Order", "owner", "(I)I"⟩, .selects "ScanDesk$Order" ⟨"ScanDesk$Order", "owner", "(I)I"⟩ ⟨"ScanDesk$Order", "owner", "(I)I"⟩, .instanceMethod ⟨"ScanDesk$Order", "span", "(I)I"⟩, .selects "ScanDesk$Order" ⟨"ScanDesk$Order", "span", "(I)I"⟩ ⟨"ScanDesk$Order", "span", "(I)I"⟩, .instanceMethod ⟨"ScanDesk$Order", "mcusIn", "(I)I"⟩, .selects "ScanDesk$Order" ⟨"ScanDesk$Order", "mcusIn", "(I)I"⟩ ⟨"ScanDesk$Order", "mcusIn", "(I)I"⟩, .initialized "ScanDesk$Order"]
theorem pg_mk2 : ∀ w ∈ pg_mw2, w ∈ pg_T := pg_subT (ps := [146, 741, 742, 747, 6, 751, 7, 768, 9, 772, 10, 764, 8, 812, 813, 816, 817, 775, 776, 820, 821, 119]) (by decide +kernel) (by decide +kernel)
def pg_mw3 : List Cond := [.instanceMethod ⟨"ScanDesk$Picture", "<init>", "()V"⟩, .instanceMethod ⟨"ScanDesk$Picture", "describe", "(IIIII)V"⟩, .selects "ScanDesk$Picture" ⟨"ScanDesk$Picture", "describe", "(IIIII)V"⟩ ⟨"ScanDesk$Picture", "describe", "(IIIII)V"⟩, .instanceMethod ⟨"ScanDesk$Picture", "sampling", "(III)V"⟩, .selects "ScanDesk$Picture" ⟨"ScanDesk$Picture", "sampling", "(III)V"⟩ ⟨"ScanDesk$Picture", "sampling", "(III)V"⟩, .instanceMethod ⟨"ScanDesk$Picture", "canBe", "()Z"⟩, .selects "ScanDesk$Picture" ⟨"ScanDesk$Picture", "canBe", "()Z"⟩ ⟨"ScanDesk$Picture", "canBe", "()Z"⟩, .instanceMethod ⟨"ScanDesk$Picture", "samplingUpTo", "(I)Z"⟩, .selects "ScanDesk$Picture" ⟨"ScanDesk$Picture", "samplingUpTo", "(I)Z"⟩ ⟨"ScanDesk$Picture", "samplingUpTo", "(I)Z"⟩, .instanceMethod ⟨"ScanDesk$Picture", "lay", "()V"⟩, .selects "ScanDesk$Picture" ⟨"ScanDesk$Picture", "lay", "()V"⟩ ⟨"ScanDesk$Picture", "lay", "()V"⟩, .instanceMethod ⟨"ScanDesk$Picture", "has", "(I)Z"⟩, .selects "ScanDesk$Picture" ⟨"ScanDesk$Picture", "has", "(I)Z"⟩ ⟨"ScanDesk$Picture", "has", "(I)Z"⟩, .instanceMethod ⟨"ScanDesk$Picture", "allowsInterval", "(I)Z"⟩, .selects "ScanDesk$Picture" ⟨"ScanDesk$Picture", "allowsInterval", "(I)Z"⟩ ⟨"ScanDesk$Picture", "allowsInterval", "(I)Z"⟩, .instanceMethod ⟨"ScanDesk$Picture", "figure", "(I)I"⟩, .selects "ScanDesk$Picture" ⟨"ScanDesk$Picture", "figure", "(I)I"⟩ ⟨"ScanDesk$Picture", "figure", "(I)I"⟩, .instanceMethod ⟨"ScanDesk$Picture", "componentFigure", "(II)I"⟩, .selects "ScanDesk$Picture" ⟨"ScanDesk$Picture", "componentFigure", "(II)I"⟩ ⟨"ScanDesk$Picture", "componentFigure", "(II)I"⟩, .instanceMethod ⟨"ScanDesk$Picture", "coefficientCell", "(III)I"⟩, .selects "ScanDesk$Picture" ⟨"ScanDesk$Picture", "coefficientCell", "(III)I"⟩ ⟨"ScanDesk$Picture", "coefficientCell", "(III)I"⟩, .instanceMethod ⟨"ScanDesk$Picture", "sampleCell", "(III)I"⟩, .selects "ScanDesk$Picture" ⟨"ScanDesk$Picture", "sampleCell", "(III)I"⟩ ⟨"ScanDesk$Picture", "sampleCell", "(III)I"⟩, .instanceMethod ⟨"ScanDesk$Picture", "unitCell", "(III)I"⟩, .selects "ScanDesk$Picture" ⟨"ScanDesk$Picture", "unitCell", "(III)I"⟩ ⟨"ScanDesk$Picture", "unitCell", "(III)I"⟩, .instanceMethod ⟨"ScanDesk$Picture", "shownAcross", "(I)I"⟩, .selects "ScanDesk$Picture" ⟨"ScanDesk$Picture", "shownAcross", "(I)I"⟩ ⟨"ScanDesk$Picture", "shownAcross", "(I)I"⟩, .instanceMethod ⟨"ScanDesk$Picture", "shownDown", "(I)I"⟩, .selects "ScanDesk$Picture" ⟨"ScanDesk$Picture", "shownDown", "(I)I"⟩ ⟨"ScanDesk$Picture", "shownDown", "(I)I"⟩, .instanceMethod ⟨"ScanDesk$Picture", "cell", "(I)I"⟩, .selects "ScanDesk$Picture" ⟨"ScanDesk$Picture", "cell", "(I)I"⟩ ⟨"ScanDesk$Picture", "cell", "(I)I"⟩, .instanceMethod ⟨"ScanDesk$Picture", "store", "(II)V"⟩, .selects "ScanDesk$Picture" ⟨"ScanDesk$Picture", "store", "(II)V"⟩ ⟨"ScanDesk$Picture", "store", "(II)V"⟩, .instanceMethod ⟨"ScanDesk$Picture", "refusal", "(LScanDesk$Scan;[I)I"⟩, .selects "ScanDesk$Picture" ⟨"ScanDesk$Picture", "refusal", "(LScanDesk$Scan;[I)I"⟩ ⟨"ScanDesk$Picture", "refusal", "(LScanDesk$Scan;[I)I"⟩, .instanceMethod ⟨"ScanDesk$Picture", "figuresFit", "(LScanDesk$Scan;)Z"⟩, .selects "ScanDesk$Picture" ⟨"ScanDesk$Picture", "figuresFit", "(LScanDesk$Scan;)Z"⟩ ⟨"ScanDesk$Picture", "figuresFit", "(LScanDesk$Scan;)Z"⟩, .instanceMethod ⟨"ScanDesk$Picture", "unitsInMcu", "(LScanDesk$Scan;)I"⟩, .selects "ScanDesk$Picture" ⟨"ScanDesk$Picture", "unitsInMcu", "(LScanDesk$Scan;)I"⟩ ⟨"ScanDesk$Picture", "unitsInMcu", "(LScanDesk$Scan;)I"⟩, .instanceMethod ⟨"ScanDesk$Picture", "follows", "(LScanDesk$Scan;[I)Z"⟩, .selects "ScanDesk$Picture" ⟨"ScanDesk$Picture", "follows", "(LScanDesk$Scan;[I)Z"⟩ ⟨"ScanDesk$Picture", "follows", "(LScanDesk$Scan;[I)Z"⟩, .instanceMethod ⟨"ScanDesk$Picture", "mark", "(LScanDesk$Scan;[I)V"⟩, .selects "ScanDesk$Picture" ⟨"ScanDesk$Picture", "mark", "(LScanDesk$Scan;[I)V"⟩ ⟨"ScanDesk$Picture", "mark", "(LScanDesk$Scan;[I)V"⟩, .instanceMethod ⟨"ScanDesk$Picture", "firstTold", "(LScanDesk$Scan;)I"⟩, .selects "ScanDesk$Picture" ⟨"ScanDesk$Picture", "firstTold", "(LScanDesk$Scan;)I"⟩ ⟨"ScanDesk$Picture", "firstTold", "(LScanDesk$Scan;)I"⟩, .instanceMethod ⟨"ScanDesk$Picture", "predicted", "(IILScanDesk$Scan;I)I"⟩, .selects "ScanDesk$Picture" ⟨"ScanDesk$Picture", "predicted", "(IILScanDesk$Scan;I)I"⟩ ⟨"ScanDesk$Picture", "predicted", "(IILScanDesk$Scan;I)I"⟩, .static ⟨"ScanDesk$Picture", "combined", "(IIII)I"⟩, .instanceMethod ⟨"ScanDesk$Picture", "moveSamplesUp", "(LScanDesk$Scan;)V"⟩, .selects "ScanDesk$Picture" ⟨"ScanDesk$Picture", "moveSamplesUp", "(LScanDesk$Scan;)V"⟩ ⟨"ScanDesk$Picture", "moveSamplesUp", "(LScanDesk$Scan;)V"⟩, .initialized "ScanDesk$Picture"]
theorem pg_mk3 : ∀ w ∈ pg_mw3, w ∈ pg_T := pg_subT (ps := [422, 575, 576, 579, 580, 583, 584, 588, 0, 591, 592, 617, 618, 695, 696, 1098, 1099, 1107, 1108, 613, 614, 629, 630, 633, 634, 754, 755, 758, 759, 832, 833, 621, 622, 651, 652, 656, 2, 660, 3, 668, 4, 679, 680, 672, 5, 868, 869, 873, 1085, 1086, 128]) (by decide +kernel) (by decide +kernel)
def pg_mw4 : List Cond := [.instanceMethod ⟨"ScanDesk$Scan", "<init>", "()V"⟩, .instanceMethod ⟨"ScanDesk$Scan", "tell", "(IIIII)V"⟩, .selects "ScanDesk$Scan" ⟨"ScanDesk$Scan", "tell", "(IIIII)V"⟩ ⟨"ScanDesk$Scan", "tell", "(IIIII)V"⟩, .instanceMethod ⟨"ScanDesk$Scan", "has", "(I)Z"⟩, .selects "ScanDesk$Scan" ⟨"ScanDesk$Scan", "has", "(I)Z"⟩ ⟨"ScanDesk$Scan", "has", "(I)Z"⟩, .instanceMethod ⟨"ScanDesk$Scan", "way", "(I)I"⟩, .selects "ScanDesk$Scan" ⟨"ScanDesk$Scan", "way", "(I)I"⟩ ⟨"ScanDesk$Scan", "way", "(I)I"⟩, .initialized "ScanDesk$Scan"]
theorem pg_mk4 : ∀ w ∈ pg_mw4, w ∈ pg_T := pg_subT (ps := [225, 641, 642, 663, 664, 780, 781, 123]) (by decide +kernel) (by decide +kernel)
def pg_mw5 : List Cond := [.instanceMethod ⟨"ScanDesk$ScanReader", "<init>", "(LScanDesk$Tape;LScanDesk$Order;)V"⟩, .instanceMethod ⟨"ScanDesk$ScanReader", "readData", "(LScanDesk$Picture;LScanDesk$Scan;[LScanDesk$Table;I)V"⟩, .selects "ScanDesk$ScanReader" ⟨"ScanDesk$ScanReader", "readData", "(LScanDesk$Picture;LScanDesk$Scan;[LScanDesk$Table;I)V"⟩ ⟨"ScanDesk$ScanReader", "readData", "(LScanDesk$Picture;LScanDesk$Scan;[LScanDesk$Table;I)V"⟩, .instanceMethod ⟨"ScanDesk$ScanReader", "beginAnew", "(I)V"⟩, .selects "ScanDesk$ScanReader" ⟨"ScanDesk$ScanReader", "beginAnew", "(I)V"⟩ ⟨"ScanDesk$ScanReader", "beginAnew", "(I)V"⟩, .instanceMethod ⟨"ScanDesk$ScanReader", "readUnit", "(IIII)V"⟩, .selects "ScanDesk$ScanReader" ⟨"ScanDesk$ScanReader", "readUnit", "(IIII)V"⟩ ⟨"ScanDesk$ScanReader", "readUnit", "(IIII)V"⟩, .instanceMethod ⟨"ScanDesk$ScanReader", "dcTable", "(I)LScanDesk$Table;"⟩, .selects "ScanDesk$ScanReader" ⟨"ScanDesk$ScanReader", "dcTable", "(I)LScanDesk$Table;"⟩ ⟨"ScanDesk$ScanReader", "dcTable", "(I)LScanDesk$Table;"⟩, .instanceMethod ⟨"ScanDesk$ScanReader", "acTable", "(I)LScanDesk$Table;"⟩, .selects "ScanDesk$ScanReader" ⟨"ScanDesk$ScanReader", "acTable", "(I)LScanDesk$Table;"⟩ ⟨"ScanDesk$ScanReader", "acTable", "(I)LScanDesk$Table;"⟩, .instanceMethod ⟨"ScanDesk$ScanReader", "readDc", "(II)V"⟩, .selects "ScanDesk$ScanReader" ⟨"ScanDesk$ScanReader", "readDc", "(II)V"⟩ ⟨"ScanDesk$ScanReader", "readDc", "(II)V"⟩, .instanceMethod ⟨"ScanDesk$ScanReader", "readSample", "(IILScanDesk$Table;)V"⟩, .selects "ScanDesk$ScanReader" ⟨"ScanDesk$ScanReader", "readSample", "(IILScanDesk$Table;)V"⟩ ⟨"ScanDesk$ScanReader", "readSample", "(IILScanDesk$Table;)V"⟩, .instanceMethod ⟨"ScanDesk$ScanReader", "readBand", "(ILScanDesk$Table;)V"⟩, .selects "ScanDesk$ScanReader" ⟨"ScanDesk$ScanReader", "readBand", "(ILScanDesk$Table;)V"⟩ ⟨"ScanDesk$ScanReader", "readBand", "(ILScanDesk$Table;)V"⟩, .instanceMethod ⟨"ScanDesk$ScanReader", "beginRun", "(I)V"⟩, .selects "ScanDesk$ScanReader" ⟨"ScanDesk$ScanReader", "beginRun", "(I)V"⟩ ⟨"ScanDesk$ScanReader", "beginRun", "(I)V"⟩, .instanceMethod ⟨"ScanDesk$ScanReader", "readBandAgain", "(ILScanDesk$Table;)V"⟩, .selects "ScanDesk$ScanReader" ⟨"ScanDesk$ScanReader", "readBandAgain", "(ILScanDesk$Table;)V"⟩ ⟨"ScanDesk$ScanReader", "readBandAgain", "(ILScanDesk$Table;)V"⟩, .instanceMethod ⟨"ScanDesk$ScanReader", "correctUpTo", "(III)I"⟩, .selects "ScanDesk$ScanReader" ⟨"ScanDesk$ScanReader", "correctUpTo", "(III)I"⟩ ⟨"ScanDesk$ScanReader", "correctUpTo", "(III)I"⟩, .initialized "ScanDesk$ScanReader"]
theorem pg_mk5 : ∀ w ∈ pg_mw5, w ∈ pg_T := pg_subT (ps := [284, 999, 1000, 1008, 40, 1024, 41, 1032, 43, 1055, 44, 1028, 42, 1075, 49, 1059, 45, 1063, 46, 1067, 47, 1071, 48, 125]) (by decide +kernel) (by decide +kernel)
def pg_mw6 : List Cond := [.instanceMethod ⟨"ScanDesk$ScanWriter", "<init>", "(LScanDesk$Order;)V"⟩, .instanceMethod ⟨"ScanDesk$ScanWriter", "writeData", "(LScanDesk$Picture;LScanDesk$Scan;ILScanDesk$Sink;)Z"⟩, .selects "ScanDesk$ScanWriter" ⟨"ScanDesk$ScanWriter", "writeData", "(LScanDesk$Picture;LScanDesk$Scan;ILScanDesk$Sink;)Z"⟩ ⟨"ScanDesk$ScanWriter", "writeData", "(LScanDesk$Picture;LScanDesk$Scan;ILScanDesk$Sink;)Z"⟩, .instanceMethod ⟨"ScanDesk$ScanWriter", "beginAnew", "(I)V"⟩, .selects "ScanDesk$ScanWriter" ⟨"ScanDesk$ScanWriter", "beginAnew", "(I)V"⟩ ⟨"ScanDesk$ScanWriter", "beginAnew", "(I)V"⟩, .instanceMethod ⟨"ScanDesk$ScanWriter", "writeUnit", "(IIII)V"⟩, .selects "ScanDesk$ScanWriter" ⟨"ScanDesk$ScanWriter", "writeUnit", "(IIII)V"⟩ ⟨"ScanDesk$ScanWriter", "writeUnit", "(IIII)V"⟩, .static ⟨"ScanDesk$ScanWriter", "acCode", "(I)I"⟩, .static ⟨"ScanDesk$ScanWriter", "acBits", "(I)I"⟩, .instanceMethod ⟨"ScanDesk$ScanWriter", "number", "(II)V"⟩, .selects "ScanDesk$ScanWriter" ⟨"ScanDesk$ScanWriter", "number", "(II)V"⟩ ⟨"ScanDesk$ScanWriter", "number", "(II)V"⟩, .instanceMethod ⟨"ScanDesk$ScanWriter", "writeDc", "(II)V"⟩, .selects "ScanDesk$ScanWriter" ⟨"ScanDesk$ScanWriter", "writeDc", "(II)V"⟩ ⟨"ScanDesk$ScanWriter", "writeDc", "(II)V"⟩, .instanceMethod ⟨"ScanDesk$ScanWriter", "writeSample", "(II)V"⟩, .selects "ScanDesk$ScanWriter" ⟨"ScanDesk$ScanWriter", "writeSample", "(II)V"⟩ ⟨"ScanDesk$ScanWriter", "writeSample", "(II)V"⟩, .instanceMethod ⟨"ScanDesk$ScanWriter", "halvedSize", "(I)I"⟩, .selects "ScanDesk$ScanWriter" ⟨"ScanDesk$ScanWriter", "halvedSize", "(I)I"⟩ ⟨"ScanDesk$ScanWriter", "halvedSize", "(I)I"⟩, .instanceMethod ⟨"ScanDesk$ScanWriter", "writeBand", "(I)V"⟩, .selects "ScanDesk$ScanWriter" ⟨"ScanDesk$ScanWriter", "writeBand", "(I)V"⟩ ⟨"ScanDesk$ScanWriter", "writeBand", "(I)V"⟩, .instanceMethod ⟨"ScanDesk$ScanWriter", "endRun", "()V"⟩, .selects "ScanDesk$ScanWriter" ⟨"ScanDesk$ScanWriter", "endRun", "()V"⟩ ⟨"ScanDesk$ScanWriter", "endRun", "()V"⟩, .instanceMethod ⟨"ScanDesk$ScanWriter", "tellFresh", "()V"⟩, .selects "ScanDesk$ScanWriter" ⟨"ScanDesk$ScanWriter", "tellFresh", "()V"⟩ ⟨"ScanDesk$ScanWriter", "tellFresh", "()V"⟩, .instanceMethod ⟨"ScanDesk$ScanWriter", "lastNew", "(I)I"⟩, .selects "ScanDesk$ScanWriter" ⟨"ScanDesk$ScanWriter", "lastNew", "(I)I"⟩ ⟨"ScanDesk$ScanWriter", "lastNew", "(I)I"⟩, .instanceMethod ⟨"ScanDesk$ScanWriter", "writeBandAgain", "(I)V"⟩, .selects "ScanDesk$ScanWriter" ⟨"ScanDesk$ScanWriter", "writeBandAgain", "(I)V"⟩ ⟨"ScanDesk$ScanWriter", "writeBandAgain", "(I)V"⟩, .instanceMethod ⟨"ScanDesk$ScanWriter", "keepFresh", "()V"⟩, .selects "ScanDesk$ScanWriter" ⟨"ScanDesk$ScanWriter", "keepFresh", "()V"⟩ ⟨"ScanDesk$ScanWriter", "keepFresh", "()V"⟩, .initialized "ScanDesk$ScanWriter"]
theorem pg_mk6 : ∀ w ∈ pg_mw6, w ∈ pg_T := pg_subT (ps := [382, 737, 738, 785, 11, 825, 13, 795, 798, 837, 15, 829, 14, 865, 22, 845, 17, 841, 16, 789, 12, 857, 20, 853, 19, 849, 18, 861, 21, 127]) (by decide +kernel) (by decide +kernel)
def pg_mw7 : List Cond := [.instanceMethod ⟨"ScanDesk$Script", "<init>", "()V"⟩, .instanceMethod ⟨"ScanDesk$Script", "empty", "()V"⟩, .selects "ScanDesk$Script" ⟨"ScanDesk$Script", "empty", "()V"⟩ ⟨"ScanDesk$Script", "empty", "()V"⟩, .instanceMethod ⟨"ScanDesk$Script", "append", "(LScanDesk$Scan;)V"⟩, .selects "ScanDesk$Script" ⟨"ScanDesk$Script", "append", "(LScanDesk$Scan;)V"⟩ ⟨"ScanDesk$Script", "append", "(LScanDesk$Scan;)V"⟩, .instanceMethod ⟨"ScanDesk$Script", "load", "(ILScanDesk$Scan;)V"⟩, .selects "ScanDesk$Script" ⟨"ScanDesk$Script", "load", "(ILScanDesk$Scan;)V"⟩ ⟨"ScanDesk$Script", "load", "(ILScanDesk$Scan;)V"⟩, .initialized "ScanDesk$Script"]
theorem pg_mk7 : ∀ w ∈ pg_mw7, w ∈ pg_T := pg_subT (ps := [204, 605, 606, 675, 676, 728, 729, 121]) (by decide +kernel) (by decide +kernel)
def pg_mw8 : List Cond := [.instanceMethod ⟨"ScanDesk$Sink", "<init>", "()V"⟩, .instanceMethod ⟨"ScanDesk$Sink", "empty", "()V"⟩, .selects "ScanDesk$Sink" ⟨"ScanDesk$Sink", "empty", "()V"⟩ ⟨"ScanDesk$Sink", "empty", "()V"⟩, .instanceMethod ⟨"ScanDesk$Sink", "append", "(I)V"⟩, .selects "ScanDesk$Sink" ⟨"ScanDesk$Sink", "append", "(I)V"⟩ ⟨"ScanDesk$Sink", "append", "(I)V"⟩, .instanceMethod ⟨"ScanDesk$Sink", "pair", "(I)V"⟩, .selects "ScanDesk$Sink" ⟨"ScanDesk$Sink", "pair", "(I)V"⟩ ⟨"ScanDesk$Sink", "pair", "(I)V"⟩, .instanceMethod ⟨"ScanDesk$Sink", "marker", "(I)V"⟩, .selects "ScanDesk$Sink" ⟨"ScanDesk$Sink", "marker", "(I)V"⟩ ⟨"ScanDesk$Sink", "marker", "(I)V"⟩, .instanceMethod ⟨"ScanDesk$Sink", "bits", "(II)V"⟩, .selects "ScanDesk$Sink" ⟨"ScanDesk$Sink", "bits", "(II)V"⟩ ⟨"ScanDesk$Sink", "bits", "(II)V"⟩, .instanceMethod ⟨"ScanDesk$Sink", "fillUp", "()V"⟩, .selects "ScanDesk$Sink" ⟨"ScanDesk$Sink", "fillUp", "()V"⟩ ⟨"ScanDesk$Sink", "fillUp", "()V"⟩, .initialized "ScanDesk$Sink"]
theorem pg_mk8 : ∀ w ∈ pg_mw8, w ∈ pg_T := pg_subT (ps := [496, 699, 700, 710, 711, 717, 718, 706, 707, 801, 802, 805, 806, 129]) (by decide +kernel) (by decide +kernel)
def pg_mw9 : List Cond := [.instanceMethod ⟨"ScanDesk$StreamReader", "<init>", "(LScanDesk$Tape;LScanDesk$ScanReader;)V"⟩, .instanceMethod ⟨"ScanDesk$StreamReader", "readStream", "(LScanDesk$Picture;)I"⟩, .selects "ScanDesk$StreamReader" ⟨"ScanDesk$StreamReader", "readStream", "(LScanDesk$Picture;)I"⟩ ⟨"ScanDesk$StreamReader", "readStream", "(LScanDesk$Picture;)I"⟩, .instanceMethod ⟨"ScanDesk$StreamReader", "begin", "(LScanDesk$Picture;)V"⟩, .selects "ScanDesk$StreamReader" ⟨"ScanDesk$StreamReader", "begin", "(LScanDesk$Picture;)V"⟩ ⟨"ScanDesk$StreamReader", "begin", "(LScanDesk$Picture;)V"⟩, .instanceMethod ⟨"ScanDesk$StreamReader", "expectFirst", "(II)V"⟩, .selects "ScanDesk$StreamReader" ⟨"ScanDesk$StreamReader", "expectFirst", "(II)V"⟩ ⟨"ScanDesk$StreamReader", "expectFirst", "(II)V"⟩, .instanceMethod ⟨"ScanDesk$StreamReader", "readSegment", "()V"⟩, .selects "ScanDesk$StreamReader" ⟨"ScanDesk$StreamReader", "readSegment", "()V"⟩ ⟨"ScanDesk$StreamReader", "readSegment", "()V"⟩, .instanceMethod ⟨"ScanDesk$StreamReader", "nextCode", "()I"⟩, .selects "ScanDesk$StreamReader" ⟨"ScanDesk$StreamReader", "nextCode", "()I"⟩ ⟨"ScanDesk$StreamReader", "nextCode", "()I"⟩, .static ⟨"ScanDesk$StreamReader", "isSegment", "(I)Z"⟩, .instanceMethod ⟨"ScanDesk$StreamReader", "readEnd", "()V"⟩, .selects "ScanDesk$StreamReader" ⟨"ScanDesk$StreamReader", "readEnd", "()V"⟩ ⟨"ScanDesk$StreamReader", "readEnd", "()V"⟩, .instanceMethod ⟨"ScanDesk$StreamReader", "measure", "()V"⟩, .selects "ScanDesk$StreamReader" ⟨"ScanDesk$StreamReader", "measure", "()V"⟩ ⟨"ScanDesk$StreamReader", "measure", "()V"⟩, .instanceMethod ⟨"ScanDesk$StreamReader", "refuse", "(I)V"⟩, .selects "ScanDesk$StreamReader" ⟨"ScanDesk$StreamReader", "refuse", "(I)V"⟩ ⟨"ScanDesk$StreamReader", "refuse", "(I)V"⟩, .instanceMethod ⟨"ScanDesk$StreamReader", "readInterval", "()V"⟩, .selects "ScanDesk$StreamReader" ⟨"ScanDesk$StreamReader", "readInterval", "()V"⟩ ⟨"ScanDesk$StreamReader", "readInterval", "()V"⟩, .instanceMethod ⟨"ScanDesk$StreamReader", "readFrame", "(I)V"⟩, .selects "ScanDesk$StreamReader" ⟨"ScanDesk$StreamReader", "readFrame", "(I)V"⟩ ⟨"ScanDesk$StreamReader", "readFrame", "(I)V"⟩, .instanceMethod ⟨"ScanDesk$StreamReader", "numberTwice", "(I)Z"⟩, .selects "ScanDesk$StreamReader" ⟨"ScanDesk$StreamReader", "numberTwice", "(I)Z"⟩ ⟨"ScanDesk$StreamReader", "numberTwice", "(I)Z"⟩, .instanceMethod ⟨"ScanDesk$StreamReader", "readTables", "()V"⟩, .selects "ScanDesk$StreamReader" ⟨"ScanDesk$StreamReader", "readTables", "()V"⟩ ⟨"ScanDesk$StreamReader", "readTables", "()V"⟩, .instanceMethod ⟨"ScanDesk$StreamReader", "symbolsOf", "(I)I"⟩, .selects "ScanDesk$StreamReader" ⟨"ScanDesk$StreamReader", "symbolsOf", "(I)I"⟩ ⟨"ScanDesk$StreamReader", "symbolsOf", "(I)I"⟩, .instanceMethod ⟨"ScanDesk$StreamReader", "keepTable", "(LScanDesk$Table;II)V"⟩, .selects "ScanDesk$StreamReader" ⟨"ScanDesk$StreamReader", "keepTable", "(LScanDesk$Table;II)V"⟩ ⟨"ScanDesk$StreamReader", "keepTable", "(LScanDesk$Table;II)V"⟩, .instanceMethod ⟨"ScanDesk$StreamReader", "readScanHead", "()V"⟩, .selects "ScanDesk$StreamReader" ⟨"ScanDesk$StreamReader", "readScanHead", "()V"⟩ ⟨"ScanDesk$StreamReader", "readScanHead", "()V"⟩, .instanceMethod ⟨"ScanDesk$StreamReader", "readParts", "(I)I"⟩, .selects "ScanDesk$StreamReader" ⟨"ScanDesk$StreamReader", "readParts", "(I)I"⟩ ⟨"ScanDesk$StreamReader", "readParts", "(I)I"⟩, .instanceMethod ⟨"ScanDesk$StreamReader", "componentOf", "(I)I"⟩, .selects "ScanDesk$StreamReader" ⟨"ScanDesk$StreamReader", "componentOf", "(I)I"⟩ ⟨"ScanDesk$StreamReader", "componentOf", "(I)I"⟩, .instanceMethod ⟨"ScanDesk$StreamReader", "lacksTable", "()Z"⟩, .selects "ScanDesk$StreamReader" ⟨"ScanDesk$StreamReader", "lacksTable", "()Z"⟩ ⟨"ScanDesk$StreamReader", "lacksTable", "()Z"⟩, .initialized "ScanDesk$StreamReader"]
theorem pg_mk9 : ∀ w ∈ pg_mw9, w ∈ pg_T := pg_subT (ps := [313, 892, 893, 897, 23, 901, 24, 922, 25, 926, 26, 933, 930, 27, 937, 28, 946, 29, 974, 35, 950, 30, 957, 31, 962, 32, 966, 33, 970, 34, 978, 36, 982, 37, 986, 38, 992, 39, 124]) (by decide +kernel) (by decide +kernel)
def pg_mw10 : List Cond := [.static ⟨"ScanDesk$StreamWriter", "writeHead", "(LScanDesk$Picture;ILScanDesk$Sink;)V"⟩, .static ⟨"ScanDesk$StreamWriter", "writeFrame", "(LScanDesk$Picture;LScanDesk$Sink;)V"⟩, .static ⟨"ScanDesk$StreamWriter", "writeTables", "(ZLScanDesk$Sink;)V"⟩, .static ⟨"ScanDesk$StreamWriter", "writeSymbols", "(ILScanDesk$Sink;)V"⟩, .static ⟨"ScanDesk$StreamWriter", "writeScanHead", "(LScanDesk$Picture;LScanDesk$Scan;LScanDesk$Sink;)V"⟩, .initialized "ScanDesk$StreamWriter"]
theorem pg_mk10 : ∀ w ∈ pg_mw10, w ∈ pg_T := pg_subT (ps := [703, 714, 722, 725, 733, 134]) (by decide +kernel) (by decide +kernel)
def pg_mw11 : List Cond := [.instanceMethod ⟨"ScanDesk$Table", "<init>", "()V"⟩, .initialized "ScanDesk$Table"]
theorem pg_mk11 : ∀ w ∈ pg_mw11, w ∈ pg_T := pg_subT (ps := [322, 126]) (by decide +kernel) (by decide +kernel)
def pg_mw12 : List Cond := [.instanceMethod ⟨"ScanDesk$Tape", "<init>", "()V"⟩, .instanceMethod ⟨"ScanDesk$Tape", "append", "(I)V"⟩, .selects "ScanDesk$Tape" ⟨"ScanDesk$Tape", "append", "(I)V"⟩ ⟨"ScanDesk$Tape", "append", "(I)V"⟩, .instanceMethod ⟨"ScanDesk$Tape", "rewind", "()V"⟩, .selects "ScanDesk$Tape" ⟨"ScanDesk$Tape", "rewind", "()V"⟩ ⟨"ScanDesk$Tape", "rewind", "()V"⟩, .instanceMethod ⟨"ScanDesk$Tape", "fail", "(II)V"⟩, .selects "ScanDesk$Tape" ⟨"ScanDesk$Tape", "fail", "(II)V"⟩ ⟨"ScanDesk$Tape", "fail", "(II)V"⟩, .instanceMethod ⟨"ScanDesk$Tape", "failed", "()Z"⟩, .selects "ScanDesk$Tape" ⟨"ScanDesk$Tape", "failed", "()Z"⟩ ⟨"ScanDesk$Tape", "failed", "()Z"⟩, .instanceMethod ⟨"ScanDesk$Tape", "lacks", "(I)Z"⟩, .selects "ScanDesk$Tape" ⟨"ScanDesk$Tape", "lacks", "(I)Z"⟩ ⟨"ScanDesk$Tape", "lacks", "(I)Z"⟩, .instanceMethod ⟨"ScanDesk$Tape", "byteAt", "(I)I"⟩, .selects "ScanDesk$Tape" ⟨"ScanDesk$Tape", "byteAt", "(I)I"⟩ ⟨"ScanDesk$Tape", "byteAt", "(I)I"⟩, .instanceMethod ⟨"ScanDesk$Tape", "pairAt", "(I)I"⟩, .selects "ScanDesk$Tape" ⟨"ScanDesk$Tape", "pairAt", "(I)I"⟩ ⟨"ScanDesk$Tape", "pairAt", "(I)I"⟩, .instanceMethod ⟨"ScanDesk$Tape", "bit", "()I"⟩, .selects "ScanDesk$Tape" ⟨"ScanDesk$Tape", "bit", "()I"⟩ ⟨"ScanDesk$Tape", "bit", "()I"⟩, .instanceMethod ⟨"ScanDesk$Tape", "bits", "(I)I"⟩, .selects "ScanDesk$Tape" ⟨"ScanDesk$Tape", "bits", "(I)I"⟩ ⟨"ScanDesk$Tape", "bits", "(I)I"⟩, .instanceMethod ⟨"ScanDesk$Tape", "symbol", "(LScanDesk$Table;)I"⟩, .selects "ScanDesk$Tape" ⟨"ScanDesk$Tape", "symbol", "(LScanDesk$Table;)I"⟩ ⟨"ScanDesk$Tape", "symbol", "(LScanDesk$Table;)I"⟩, .instanceMethod ⟨"ScanDesk$Tape", "dropBits", "()V"⟩, .selects "ScanDesk$Tape" ⟨"ScanDesk$Tape", "dropBits", "()V"⟩ ⟨"ScanDesk$Tape", "dropBits", "()V"⟩, .instanceMethod ⟨"ScanDesk$Tape", "passRestart", "(I)V"⟩, .selects "ScanDesk$Tape" ⟨"ScanDesk$Tape", "passRestart", "(I)V"⟩ ⟨"ScanDesk$Tape", "passRestart", "(I)V"⟩, .initialized "ScanDesk$Tape"]
theorem pg_mk12 : ∀ w ∈ pg_mw12, w ∈ pg_T := pg_subT (ps := [168, 556, 557, 888, 889, 912, 913, 904, 905, 908, 909, 916, 917, 940, 941, 1039, 1040, 1044, 1045, 1035, 1036, 1081, 1082, 1011, 1012, 120]) (by decide +kernel) (by decide +kernel)
def pg_mw13 : List Cond := [.instanceMethod ⟨"ScanDesk", "<init>", "()V"⟩, .instanceMethod ⟨"ScanDesk", "feed", "(IIIII)I"⟩, .selects "ScanDesk" ⟨"ScanDesk", "feed", "(IIIII)I"⟩ ⟨"ScanDesk", "feed", "(IIIII)I"⟩, .instanceMethod ⟨"ScanDesk", "end", "(I)I"⟩, .selects "ScanDesk" ⟨"ScanDesk", "end", "(I)I"⟩ ⟨"ScanDesk", "end", "(I)I"⟩, .instanceMethod ⟨"ScanDesk", "take", "()I"⟩, .selects "ScanDesk" ⟨"ScanDesk", "take", "()I"⟩ ⟨"ScanDesk", "take", "()I"⟩, .instanceMethod ⟨"ScanDesk", "picture", "(IIIIIII)Z"⟩, .selects "ScanDesk" ⟨"ScanDesk", "picture", "(IIIIIII)Z"⟩ ⟨"ScanDesk", "picture", "(IIIIIII)Z"⟩, .instanceMethod ⟨"ScanDesk", "put", "(IIII)Z"⟩, .selects "ScanDesk" ⟨"ScanDesk", "put", "(IIII)Z"⟩ ⟨"ScanDesk", "put", "(IIII)Z"⟩, .instanceMethod ⟨"ScanDesk", "set", "(IIII)Z"⟩, .selects "ScanDesk" ⟨"ScanDesk", "set", "(IIII)Z"⟩ ⟨"ScanDesk", "set", "(IIII)Z"⟩, .instanceMethod ⟨"ScanDesk", "scan", "(IIIII)I"⟩, .selects "ScanDesk" ⟨"ScanDesk", "scan", "(IIIII)I"⟩ ⟨"ScanDesk", "scan", "(IIIII)I"⟩, .instanceMethod ⟨"ScanDesk", "clear", "()V"⟩, .selects "ScanDesk" ⟨"ScanDesk", "clear", "()V"⟩ ⟨"ScanDesk", "clear", "()V"⟩, .instanceMethod ⟨"ScanDesk", "restart", "(I)Z"⟩, .selects "ScanDesk" ⟨"ScanDesk", "restart", "(I)Z"⟩ ⟨"ScanDesk", "restart", "(I)Z"⟩, .instanceMethod ⟨"ScanDesk", "write", "()I"⟩, .selects "ScanDesk" ⟨"ScanDesk", "write", "()I"⟩ ⟨"ScanDesk", "write", "()I"⟩, .instanceMethod ⟨"ScanDesk", "out", "(I)I"⟩, .selects "ScanDesk" ⟨"ScanDesk", "out", "(I)I"⟩ ⟨"ScanDesk", "out", "(I)I"⟩, .instanceMethod ⟨"ScanDesk", "read", "()I"⟩, .selects "ScanDesk" ⟨"ScanDesk", "read", "()I"⟩ ⟨"ScanDesk", "read", "()I"⟩, .instanceMethod ⟨"ScanDesk", "errorAt", "()I"⟩, .selects "ScanDesk" ⟨"ScanDesk", "errorAt", "()I"⟩ ⟨"ScanDesk", "errorAt", "()I"⟩, .instanceMethod ⟨"ScanDesk", "look", "(I)I"⟩, .selects "ScanDesk" ⟨"ScanDesk", "look", "(I)I"⟩ ⟨"ScanDesk", "look", "(I)I"⟩, .instanceMethod ⟨"ScanDesk", "component", "(II)I"⟩, .selects "ScanDesk" ⟨"ScanDesk", "component", "(II)I"⟩ ⟨"ScanDesk", "component", "(II)I"⟩, .instanceMethod ⟨"ScanDesk", "coefficient", "(III)I"⟩, .selects "ScanDesk" ⟨"ScanDesk", "coefficient", "(III)I"⟩ ⟨"ScanDesk", "coefficient", "(III)I"⟩, .instanceMethod ⟨"ScanDesk", "sample", "(III)I"⟩, .selects "ScanDesk" ⟨"ScanDesk", "sample", "(III)I"⟩ ⟨"ScanDesk", "sample", "(III)I"⟩, .instanceMethod ⟨"ScanDesk", "known", "(II)I"⟩, .selects "ScanDesk" ⟨"ScanDesk", "known", "(II)I"⟩ ⟨"ScanDesk", "known", "(II)I"⟩, .instanceMethod ⟨"ScanDesk", "showSpare", "()V"⟩, .selects "ScanDesk" ⟨"ScanDesk", "showSpare", "()V"⟩ ⟨"ScanDesk", "showSpare", "()V"⟩, .static ⟨"ScanDesk", "partsUp", "(II)I"⟩, .static ⟨"ScanDesk", "sizeOf", "(I)I"⟩, .static ⟨"ScanDesk", "extended", "(II)I"⟩, .initialized "ScanDesk"]
theorem pg_mk13 : ∀ w ∈ pg_mw13, w ∈ pg_T := pg_subT (ps := [138, 552, 553, 560, 561, 564, 565, 571, 572, 609, 610, 625, 626, 637, 638, 683, 684, 687, 688, 691, 692, 880, 881, 884, 885, 1090, 1091, 1094, 1095, 1102, 1103, 1111, 1112, 1116, 1117, 1120, 1121, 602, 1, 598, 792, 1048, 118]) (by decide +kernel) (by decide +kernel)
def pg_mw14 : List Cond := [.instanceMethod ⟨"ScanDeskModel", "<init>", "()V"⟩, .instanceMethod ⟨"ScanDeskModel", "feed", "(IIIII)I"⟩, .selects "ScanDeskModel" ⟨"ScanDeskModel", "feed", "(IIIII)I"⟩ ⟨"ScanDeskModel", "feed", "(IIIII)I"⟩, .instanceMethod ⟨"ScanDeskModel", "end", "(I)I"⟩, .selects "ScanDeskModel" ⟨"ScanDeskModel", "end", "(I)I"⟩ ⟨"ScanDeskModel", "end", "(I)I"⟩, .instanceMethod ⟨"ScanDeskModel", "take", "()I"⟩, .selects "ScanDeskModel" ⟨"ScanDeskModel", "take", "()I"⟩ ⟨"ScanDeskModel", "take", "()I"⟩, .instanceMethod ⟨"ScanDeskModel", "out", "(I)I"⟩, .selects "ScanDeskModel" ⟨"ScanDeskModel", "out", "(I)I"⟩ ⟨"ScanDeskModel", "out", "(I)I"⟩, .static ⟨"ScanDeskModel", "up", "(II)I"⟩, .instanceMethod ⟨"ScanDeskModel", "most", "(I[I)I"⟩, .selects "ScanDeskModel" ⟨"ScanDeskModel", "most", "(I[I)I"⟩ ⟨"ScanDeskModel", "most", "(I[I)I"⟩, .instanceMethod ⟨"ScanDeskModel", "wide", "(II)I"⟩, .selects "ScanDeskModel" ⟨"ScanDeskModel", "wide", "(II)I"⟩ ⟨"ScanDeskModel", "wide", "(II)I"⟩, .instanceMethod ⟨"ScanDeskModel", "high", "(II)I"⟩, .selects "ScanDeskModel" ⟨"ScanDeskModel", "high", "(II)I"⟩ ⟨"ScanDeskModel", "high", "(II)I"⟩, .instanceMethod ⟨"ScanDeskModel", "mcusAcross", "(I)I"⟩, .selects "ScanDeskModel" ⟨"ScanDeskModel", "mcusAcross", "(I)I"⟩ ⟨"ScanDeskModel", "mcusAcross", "(I)I"⟩, .instanceMethod ⟨"ScanDeskModel", "mcusDown", "(I)I"⟩, .selects "ScanDeskModel" ⟨"ScanDeskModel", "mcusDown", "(I)I"⟩ ⟨"ScanDeskModel", "mcusDown", "(I)I"⟩, .instanceMethod ⟨"ScanDeskModel", "blocksAcross", "(II)I"⟩, .selects "ScanDeskModel" ⟨"ScanDeskModel", "blocksAcross", "(II)I"⟩ ⟨"ScanDeskModel", "blocksAcross", "(II)I"⟩, .instanceMethod ⟨"ScanDeskModel", "blocksDown", "(II)I"⟩, .selects "ScanDeskModel" ⟨"ScanDeskModel", "blocksDown", "(II)I"⟩ ⟨"ScanDeskModel", "blocksDown", "(II)I"⟩, .instanceMethod ⟨"ScanDeskModel", "forgets", "(I)V"⟩, .selects "ScanDeskModel" ⟨"ScanDeskModel", "forgets", "(I)V"⟩ ⟨"ScanDeskModel", "forgets", "(I)V"⟩, .static ⟨"ScanDeskModel", "isForm", "(IIIII)Z"⟩, .static ⟨"ScanDeskModel", "isShare", "(III)Z"⟩, .instanceMethod ⟨"ScanDeskModel", "picture", "(IIIIIII)Z"⟩, .selects "ScanDeskModel" ⟨"ScanDeskModel", "picture", "(IIIIIII)Z"⟩ ⟨"ScanDeskModel", "picture", "(IIIIIII)Z"⟩, .instanceMethod ⟨"ScanDeskModel", "isCoefficient", "(III)Z"⟩, .selects "ScanDeskModel" ⟨"ScanDeskModel", "isCoefficient", "(III)Z"⟩ ⟨"ScanDeskModel", "isCoefficient", "(III)Z"⟩, .instanceMethod ⟨"ScanDeskModel", "isSample", "(III)Z"⟩, .selects "ScanDeskModel" ⟨"ScanDeskModel", "isSample", "(III)Z"⟩ ⟨"ScanDeskModel", "isSample", "(III)Z"⟩, .instanceMethod ⟨"ScanDeskModel", "put", "(IIII)Z"⟩, .selects "ScanDeskModel" ⟨"ScanDeskModel", "put", "(IIII)Z"⟩ ⟨"ScanDeskModel", "put", "(IIII)Z"⟩, .instanceMethod ⟨"ScanDeskModel", "set", "(IIII)Z"⟩, .selects "ScanDeskModel" ⟨"ScanDeskModel", "set", "(IIII)Z"⟩ ⟨"ScanDeskModel", "set", "(IIII)Z"⟩, .instanceMethod ⟨"ScanDeskModel", "coefficient", "(III)I"⟩, .selects "ScanDeskModel" ⟨"ScanDeskModel", "coefficient", "(III)I"⟩ ⟨"ScanDeskModel", "coefficient", "(III)I"⟩, .instanceMethod ⟨"ScanDeskModel", "sample", "(III)I"⟩, .selects "ScanDeskModel" ⟨"ScanDeskModel", "sample", "(III)I"⟩ ⟨"ScanDeskModel", "sample", "(III)I"⟩, .instanceMethod ⟨"ScanDeskModel", "known", "(II)I"⟩, .selects "ScanDeskModel" ⟨"ScanDeskModel", "known", "(II)I"⟩ ⟨"ScanDeskModel", "known", "(II)I"⟩, .instanceMethod ⟨"ScanDeskModel", "look", "(I)I"⟩, .selects "ScanDeskModel" ⟨"ScanDeskModel", "look", "(I)I"⟩ ⟨"ScanDeskModel", "look", "(I)I"⟩, .instanceMethod ⟨"ScanDeskModel", "component", "(II)I"⟩, .selects "ScanDeskModel" ⟨"ScanDeskModel", "component", "(II)I"⟩ ⟨"ScanDeskModel", "component", "(II)I"⟩, .static ⟨"ScanDeskModel", "has", "(II)Z"⟩, .static ⟨"ScanDeskModel", "howMany", "(I)I"⟩, .instanceMethod ⟨"ScanDeskModel", "isOwn", "(IIIIII)Z"⟩, .selects "ScanDeskModel" ⟨"ScanDeskModel", "isOwn", "(IIIIII)Z"⟩ ⟨"ScanDeskModel", "isOwn", "(IIIIII)Z"⟩, .instanceMethod ⟨"ScanDeskModel", "isNarrow", "(II)Z"⟩, .selects "ScanDeskModel" ⟨"ScanDeskModel", "isNarrow", "(II)Z"⟩ ⟨"ScanDeskModel", "isNarrow", "(II)Z"⟩, .instanceMethod ⟨"ScanDeskModel", "follows", "(IIIII[II)Z"⟩, .selects "ScanDeskModel" ⟨"ScanDeskModel", "follows", "(IIIII[II)Z"⟩ ⟨"ScanDeskModel", "follows", "(IIIII[II)Z"⟩, .instanceMethod ⟨"ScanDeskModel", "becomesKnown", "(IIIII[II)V"⟩, .selects "ScanDeskModel" ⟨"ScanDeskModel", "becomesKnown", "(IIIII[II)V"⟩ ⟨"ScanDeskModel", "becomesKnown", "(IIIII[II)V"⟩, .instanceMethod ⟨"ScanDeskModel", "scan", "(IIIII)I"⟩, .selects "ScanDeskModel" ⟨"ScanDeskModel", "scan", "(IIIII)I"⟩ ⟨"ScanDeskModel", "scan", "(IIIII)I"⟩, .instanceMethod ⟨"ScanDeskModel", "clear", "()V"⟩, .selects "ScanDeskModel" ⟨"ScanDeskModel", "clear", "()V"⟩ ⟨"ScanDeskModel", "clear", "()V"⟩, .instanceMethod ⟨"ScanDeskModel", "restart", "(I)Z"⟩, .selects "ScanDeskModel" ⟨"ScanDeskModel", "restart", "(I)Z"⟩ ⟨"ScanDeskModel", "restart", "(I)Z"⟩, .instanceMethod ⟨"ScanDeskModel", "walks", "()V"⟩, .selects "ScanDeskModel" ⟨"ScanDeskModel", "walks", "()V"⟩ ⟨"ScanDeskModel", "walks", "()V"⟩, .instanceMethod ⟨"ScanDeskModel", "beginsAnew", "(I)V"⟩, .selects "ScanDeskModel" ⟨"ScanDeskModel", "beginsAnew", "(I)V"⟩ ⟨"ScanDeskModel", "beginsAnew", "(I)V"⟩, .instanceMethod ⟨"ScanDeskModel", "lone", "()I"⟩, .selects "ScanDeskModel" ⟨"ScanDeskModel", "lone", "()I"⟩ ⟨"ScanDeskModel", "lone", "()I"⟩, .instanceMethod ⟨"ScanDeskModel", "units", "()I"⟩, .selects "ScanDeskModel" ⟨"ScanDeskModel", "units", "()I"⟩ ⟨"ScanDeskModel", "units", "()I"⟩, .instanceMethod ⟨"ScanDeskModel", "unit", "(I)V"⟩, .selects "ScanDeskModel" ⟨"ScanDeskModel", "unit", "(I)V"⟩ ⟨"ScanDeskModel", "unit", "(I)V"⟩, .instanceMethod ⟨"ScanDeskModel", "blocksOf", "(III)V"⟩, .selects "ScanDeskModel" ⟨"ScanDeskModel", "blocksOf", "(III)V"⟩ ⟨"ScanDeskModel", "blocksOf", "(III)V"⟩, .instanceMethod ⟨"ScanDeskModel", "block", "(II)V"⟩, .selects "ScanDeskModel" ⟨"ScanDeskModel", "block", "(II)V"⟩ ⟨"ScanDeskModel", "block", "(II)V"⟩, .instanceMethod ⟨"ScanDeskModel", "isBroken", "()Z"⟩, .selects "ScanDeskModel" ⟨"ScanDeskModel", "isBroken", "()Z"⟩ ⟨"ScanDeskModel", "isBroken", "()Z"⟩, .instanceMethod ⟨"ScanDeskModel", "wrong", "(II)V"⟩, .selects "ScanDeskModel" ⟨"ScanDeskModel", "wrong", "(II)V"⟩ ⟨"ScanDeskModel", "wrong", "(II)V"⟩, .instanceMethod ⟨"ScanDeskModel", "puts", "(I)V"⟩, .selects "ScanDeskModel" ⟨"ScanDeskModel", "puts", "(I)V"⟩ ⟨"ScanDeskModel", "puts", "(I)V"⟩, .instanceMethod ⟨"ScanDeskModel", "bit", "(I)V"⟩, .selects "ScanDeskModel" ⟨"ScanDeskModel", "bit", "(I)V"⟩ ⟨"ScanDeskModel", "bit", "(I)V"⟩, .instanceMethod ⟨"ScanDeskModel", "bits", "(II)V"⟩, .selects "ScanDeskModel" ⟨"ScanDeskModel", "bits", "(II)V"⟩ ⟨"ScanDeskModel", "bits", "(II)V"⟩, .instanceMethod ⟨"ScanDeskModel", "fillsUp", "()V"⟩, .selects "ScanDeskModel" ⟨"ScanDeskModel", "fillsUp", "()V"⟩ ⟨"ScanDeskModel", "fillsUp", "()V"⟩, .instanceMethod ⟨"ScanDeskModel", "takesBit", "()I"⟩, .selects "ScanDeskModel" ⟨"ScanDeskModel", "takesBit", "()I"⟩ ⟨"ScanDeskModel", "takesBit", "()I"⟩, .instanceMethod ⟨"ScanDeskModel", "takesBits", "(I)I"⟩, .selects "ScanDeskModel" ⟨"ScanDeskModel", "takesBits", "(I)I"⟩ ⟨"ScanDeskModel", "takesBits", "(I)I"⟩, .instanceMethod ⟨"ScanDeskModel", "takesNumber", "(I)I"⟩, .selects "ScanDeskModel" ⟨"ScanDeskModel", "takesNumber", "(I)I"⟩ ⟨"ScanDeskModel", "takesNumber", "(I)I"⟩, .instanceMethod ⟨"ScanDeskModel", "takesCode", "(I)I"⟩, .selects "ScanDeskModel" ⟨"ScanDeskModel", "takesCode", "(I)I"⟩ ⟨"ScanDeskModel", "takesCode", "(I)I"⟩, .instanceMethod ⟨"ScanDeskModel", "dcCode", "(I)V"⟩, .selects "ScanDeskModel" ⟨"ScanDeskModel", "dcCode", "(I)V"⟩ ⟨"ScanDeskModel", "dcCode", "(I)V"⟩, .instanceMethod ⟨"ScanDeskModel", "acCode", "(I)V"⟩, .selects "ScanDeskModel" ⟨"ScanDeskModel", "acCode", "(I)V"⟩ ⟨"ScanDeskModel", "acCode", "(I)V"⟩, .static ⟨"ScanDeskModel", "sizeOf", "(I)I"⟩, .instanceMethod ⟨"ScanDeskModel", "writesNumber", "(II)V"⟩, .selects "ScanDeskModel" ⟨"ScanDeskModel", "writesNumber", "(II)V"⟩ ⟨"ScanDeskModel", "writesNumber", "(II)V"⟩, .instanceMethod ⟨"ScanDeskModel", "dcFirst", "(II)V"⟩, .selects "ScanDeskModel" ⟨"ScanDeskModel", "dcFirst", "(II)V"⟩ ⟨"ScanDeskModel", "dcFirst", "(II)V"⟩, .instanceMethod ⟨"ScanDeskModel", "dcAgain", "(I)V"⟩, .selects "ScanDeskModel" ⟨"ScanDeskModel", "dcAgain", "(I)V"⟩ ⟨"ScanDeskModel", "dcAgain", "(I)V"⟩, .static ⟨"ScanDeskModel", "halved", "(II)I"⟩, .instanceMethod ⟨"ScanDeskModel", "endsRun", "()V"⟩, .selects "ScanDeskModel" ⟨"ScanDeskModel", "endsRun", "()V"⟩ ⟨"ScanDeskModel", "endsRun", "()V"⟩, .instanceMethod ⟨"ScanDeskModel", "writesBand", "(I)V"⟩, .selects "ScanDeskModel" ⟨"ScanDeskModel", "writesBand", "(I)V"⟩ ⟨"ScanDeskModel", "writesBand", "(I)V"⟩, .instanceMethod ⟨"ScanDeskModel", "writesAgain", "(I)V"⟩, .selects "ScanDeskModel" ⟨"ScanDeskModel", "writesAgain", "(I)V"⟩ ⟨"ScanDeskModel", "writesAgain", "(I)V"⟩, .instanceMethod ⟨"ScanDeskModel", "goesHere", "()V"⟩, .selects "ScanDeskModel" ⟨"ScanDeskModel", "goesHere", "()V"⟩ ⟨"ScanDeskModel", "goesHere", "()V"⟩, .instanceMethod ⟨"ScanDeskModel", "runs", "(I)Z"⟩, .selects "ScanDeskModel" ⟨"ScanDeskModel", "runs", "(I)Z"⟩ ⟨"ScanDeskModel", "runs", "(I)Z"⟩, .instanceMethod ⟨"ScanDeskModel", "readsBand", "(I)V"⟩, .selects "ScanDeskModel" ⟨"ScanDeskModel", "readsBand", "(I)V"⟩ ⟨"ScanDeskModel", "readsBand", "(I)V"⟩, .instanceMethod ⟨"ScanDeskModel", "corrects", "(I)V"⟩, .selects "ScanDeskModel" ⟨"ScanDeskModel", "corrects", "(I)V"⟩ ⟨"ScanDeskModel", "corrects", "(I)V"⟩, .instanceMethod ⟨"ScanDeskModel", "readsAgain", "(I)V"⟩, .selects "ScanDeskModel" ⟨"ScanDeskModel", "readsAgain", "(I)V"⟩ ⟨"ScanDeskModel", "readsAgain", "(I)V"⟩, .instanceMethod ⟨"ScanDeskModel", "value", "(III)I"⟩, .selects "ScanDeskModel" ⟨"ScanDeskModel", "value", "(III)I"⟩ ⟨"ScanDeskModel", "value", "(III)I"⟩, .instanceMethod ⟨"ScanDeskModel", "predicted", "(III)I"⟩, .selects "ScanDeskModel" ⟨"ScanDeskModel", "predicted", "(III)I"⟩ ⟨"ScanDeskModel", "predicted", "(III)I"⟩, .instanceMethod ⟨"ScanDeskModel", "was", "(III)I"⟩, .selects "ScanDeskModel" ⟨"ScanDeskModel", "was", "(III)I"⟩ ⟨"ScanDeskModel", "was", "(III)I"⟩, .instanceMethod ⟨"ScanDeskModel", "dot", "(III)V"⟩, .selects "ScanDeskModel" ⟨"ScanDeskModel", "dot", "(III)V"⟩ ⟨"ScanDeskModel", "dot", "(III)V"⟩, .instanceMethod ⟨"ScanDeskModel", "marks", "(I)V"⟩, .selects "ScanDeskModel" ⟨"ScanDeskModel", "marks", "(I)V"⟩ ⟨"ScanDeskModel", "marks", "(I)V"⟩, .instanceMethod ⟨"ScanDeskModel", "putsTwo", "(I)V"⟩, .selects "ScanDeskModel" ⟨"ScanDeskModel", "putsTwo", "(I)V"⟩ ⟨"ScanDeskModel", "putsTwo", "(I)V"⟩, .instanceMethod ⟨"ScanDeskModel", "writesHead", "()V"⟩, .selects "ScanDeskModel" ⟨"ScanDeskModel", "writesHead", "()V"⟩ ⟨"ScanDeskModel", "writesHead", "()V"⟩, .instanceMethod ⟨"ScanDeskModel", "writesScan", "(I)V"⟩, .selects "ScanDeskModel" ⟨"ScanDeskModel", "writesScan", "(I)V"⟩ ⟨"ScanDeskModel", "writesScan", "(I)V"⟩, .instanceMethod ⟨"ScanDeskModel", "scanIs", "(IIIII)V"⟩, .selects "ScanDeskModel" ⟨"ScanDeskModel", "scanIs", "(IIIII)V"⟩ ⟨"ScanDeskModel", "scanIs", "(IIIII)V"⟩, .instanceMethod ⟨"ScanDeskModel", "write", "()I"⟩, .selects "ScanDeskModel" ⟨"ScanDeskModel", "write", "()I"⟩ ⟨"ScanDeskModel", "write", "()I"⟩, .instanceMethod ⟨"ScanDeskModel", "takes", "()I"⟩, .selects "ScanDeskModel" ⟨"ScanDeskModel", "takes", "()I"⟩ ⟨"ScanDeskModel", "takes", "()I"⟩, .instanceMethod ⟨"ScanDeskModel", "marker", "(Z)V"⟩, .selects "ScanDeskModel" ⟨"ScanDeskModel", "marker", "(Z)V"⟩ ⟨"ScanDeskModel", "marker", "(Z)V"⟩, .static ⟨"ScanDeskModel", "isKnown", "(I)Z"⟩, .instanceMethod ⟨"ScanDeskModel", "length", "()V"⟩, .selects "ScanDeskModel" ⟨"ScanDeskModel", "length", "()V"⟩ ⟨"ScanDeskModel", "length", "()V"⟩, .instanceMethod ⟨"ScanDeskModel", "frame", "()V"⟩, .selects "ScanDeskModel" ⟨"ScanDeskModel", "frame", "()V"⟩ ⟨"ScanDeskModel", "frame", "()V"⟩, .instanceMethod ⟨"ScanDeskModel", "tables", "()V"⟩, .selects "ScanDeskModel" ⟨"ScanDeskModel", "tables", "()V"⟩ ⟨"ScanDeskModel", "tables", "()V"⟩, .instanceMethod ⟨"ScanDeskModel", "table", "()V"⟩, .selects "ScanDeskModel" ⟨"ScanDeskModel", "table", "()V"⟩ ⟨"ScanDeskModel", "table", "()V"⟩, .instanceMethod ⟨"ScanDeskModel", "restarts", "()V"⟩, .selects "ScanDeskModel" ⟨"ScanDeskModel", "restarts", "()V"⟩ ⟨"ScanDeskModel", "restarts", "()V"⟩, .instanceMethod ⟨"ScanDeskModel", "componentOf", "(I)I"⟩, .selects "ScanDeskModel" ⟨"ScanDeskModel", "componentOf", "(I)I"⟩ ⟨"ScanDeskModel", "componentOf", "(I)I"⟩, .instanceMethod ⟨"ScanDeskModel", "isScan", "()Z"⟩, .selects "ScanDeskModel" ⟨"ScanDeskModel", "isScan", "()Z"⟩ ⟨"ScanDeskModel", "isScan", "()Z"⟩, .instanceMethod ⟨"ScanDeskModel", "hasTables", "()Z"⟩, .selects "ScanDeskModel" ⟨"ScanDeskModel", "hasTables", "()Z"⟩ ⟨"ScanDeskModel", "hasTables", "()Z"⟩, .instanceMethod ⟨"ScanDeskModel", "scanComes", "()V"⟩, .selects "ScanDeskModel" ⟨"ScanDeskModel", "scanComes", "()V"⟩ ⟨"ScanDeskModel", "scanComes", "()V"⟩, .instanceMethod ⟨"ScanDeskModel", "stream", "()V"⟩, .selects "ScanDeskModel" ⟨"ScanDeskModel", "stream", "()V"⟩ ⟨"ScanDeskModel", "stream", "()V"⟩, .instanceMethod ⟨"ScanDeskModel", "segment", "()V"⟩, .selects "ScanDeskModel" ⟨"ScanDeskModel", "segment", "()V"⟩ ⟨"ScanDeskModel", "segment", "()V"⟩, .instanceMethod ⟨"ScanDeskModel", "read", "()I"⟩, .selects "ScanDeskModel" ⟨"ScanDeskModel", "read", "()I"⟩ ⟨"ScanDeskModel", "read", "()I"⟩, .instanceMethod ⟨"ScanDeskModel", "comes", "()V"⟩, .selects "ScanDeskModel" ⟨"ScanDeskModel", "comes", "()V"⟩ ⟨"ScanDeskModel", "comes", "()V"⟩, .instanceMethod ⟨"ScanDeskModel", "errorAt", "()I"⟩, .selects "ScanDeskModel" ⟨"ScanDeskModel", "errorAt", "()I"⟩ ⟨"ScanDeskModel", "errorAt", "()I"⟩, .initialized "ScanDeskModel"]
theorem pg_mk14 : ∀ w ∈ pg_mw14, w ∈ pg_T := pg_subT (ps := [1126, 1313, 1314, 1317, 1318, 1321, 1322, 1325, 1326, 1360, 1356, 54, 1400, 58, 1404, 59, 1352, 53, 1368, 56, 1348, 52, 1364, 55, 1131, 50, 1333, 1336, 1329, 1330, 1344, 51, 1376, 57, 1339, 1340, 1371, 1372, 1379, 1380, 1383, 1384, 1387, 1388, 1391, 1392, 1395, 1396, 1422, 1415, 1412, 60, 1419, 61, 1426, 62, 1430, 63, 1407, 1408, 1433, 1434, 1437, 1438, 1472, 69, 1476, 70, 1484, 72, 1480, 71, 1524, 81, 1614, 102, 1571, 92, 1488, 73, 1519, 80, 1455, 66, 1511, 78, 1507, 77, 1515, 79, 1559, 89, 1567, 91, 1563, 90, 1555, 88, 1547, 86, 1503, 76, 1499, 1551, 87, 1575, 93, 1579, 94, 1586, 1496, 75, 1583, 95, 1590, 96, 1594, 97, 1602, 99, 1598, 98, 1610, 101, 1606, 100, 1540, 85, 1532, 83, 1536, 84, 1528, 82, 1492, 74, 1451, 65, 1446, 64, 1463, 67, 1467, 68, 1441, 1442, 1627, 104, 1631, 105, 1634, 1638, 106, 1646, 108, 1650, 109, 1654, 110, 1674, 115, 1666, 113, 1662, 112, 1670, 114, 1658, 111, 1623, 103, 1642, 107, 1618, 1619, 1678, 116, 1681, 1682, 130]) (by decide +kernel) (by decide +kernel)
theorem pg_in1 {w : Cond} (h : w ∈ tables_1_1) (hg : goodWord w = true) : w ∈ pg_T := List.mem_filter.mpr ⟨List.mem_append_right _ (show w ∈ tables_1 from List.mem_append_left _ h), hg⟩
theorem pg_in2 {w : Cond} (h : w ∈ tables_1_2) (hg : goodWord w = true) : w ∈ pg_T := List.mem_filter.mpr ⟨List.mem_append_right _ (show w ∈ tables_1 from List.mem_append_right _ (List.mem_append_left _ h)), hg⟩
theorem pg_in3 {w : Cond} (h : w ∈ tables_1_3) (hg : goodWord w = true) : w ∈ pg_T := List.mem_filter.mpr ⟨List.mem_append_right _ (show w ∈ tables_1 from List.mem_append_right _ (List.mem_append_right _ (List.mem_append_left _ h))), hg⟩
theorem pg_in4 {w : Cond} (h : w ∈ tables_1_4) (hg : goodWord w = true) : w ∈ pg_T := List.mem_filter.mpr ⟨List.mem_append_right _ (show w ∈ tables_1 from List.mem_append_right _ (List.mem_append_right _ (List.mem_append_right _ (List.mem_append_left _ h)))), hg⟩
theorem pg_in5 {w : Cond} (h : w ∈ tables_1_5) (hg : goodWord w = true) : w ∈ pg_T := List.mem_filter.mpr ⟨List.mem_append_right _ (show w ∈ tables_1 from List.mem_append_right _ (List.mem_append_right _ (List.mem_append_right _ (List.mem_append_right _ (List.mem_append_left _ h))))), hg⟩
theorem pg_in6 {w : Cond} (h : w ∈ tables_1_6) (hg : goodWord w = true) : w ∈ pg_T := List.mem_filter.mpr ⟨List.mem_append_right _ (show w ∈ tables_1 from List.mem_append_right _ (List.mem_append_right _ (List.mem_append_right _ (List.mem_append_right _ (List.mem_append_right _ (List.mem_append_left _ h)))))), hg⟩
theorem pg_in7 {w : Cond} (h : w ∈ tables_1_7) (hg : goodWord w = true) : w ∈ pg_T := List.mem_filter.mpr ⟨List.mem_append_right _ (show w ∈ tables_1 from List.mem_append_right _ (List.mem_append_right _ (List.mem_append_right _ (List.mem_append_right _ (List.mem_append_right _ (List.mem_append_right _ (h))))))), hg⟩
set_option maxRecDepth 100000 in
theorem pg_o0 (y : Nat) : mm_Mo pg_T y pg_m0 := pg_mo_of pg_mk0 (pg_in3 (List.mem_of_getElem? (i := 49) rfl) rfl) (by decide +kernel) y
set_option maxRecDepth 100000 in
theorem pg_o1 (y : Nat) : mm_Mo pg_T y pg_m1 := pg_mo_of pg_mk1 (pg_in1 (List.mem_of_getElem? (i := 92) rfl) rfl) (by decide +kernel) y
set_option maxRecDepth 100000 in
theorem pg_o2 (y : Nat) : mm_Mo pg_T y pg_m2 := pg_mo_of pg_mk2 (pg_in1 (List.mem_of_getElem? (i := 30) rfl) rfl) (by decide +kernel) y
set_option maxRecDepth 100000 in
theorem pg_o3 (y : Nat) : mm_Mo pg_T y pg_m3 := pg_mo_of pg_mk2 (pg_in3 (List.mem_of_getElem? (i := 146) rfl) rfl) (by decide +kernel) y
set_option maxRecDepth 100000 in
theorem pg_o4 (y : Nat) : mm_Mo pg_T y pg_m4 := pg_mo_of pg_mk2 (pg_in3 (List.mem_of_getElem? (i := 151) rfl) rfl) (by decide +kernel) y
set_option maxRecDepth 100000 in
theorem pg_o5 (y : Nat) : mm_Mo pg_T y pg_m5 := pg_mo_of pg_mk2 (pg_in3 (List.mem_of_getElem? (i := 155) rfl) rfl) (by decide +kernel) y
set_option maxRecDepth 100000 in
theorem pg_o6 (y : Nat) : mm_Mo pg_T y pg_m6 := pg_mo_of pg_mk2 (pg_in3 (List.mem_of_getElem? (i := 172) rfl) rfl) (by decide +kernel) y
set_option maxRecDepth 100000 in
theorem pg_o7 (y : Nat) : mm_Mo pg_T y pg_m7 := pg_mo_of pg_mk2 (pg_in3 (List.mem_of_getElem? (i := 176) rfl) rfl) (by decide +kernel) y
set_option maxRecDepth 100000 in
theorem pg_o8 (y : Nat) : mm_Mo pg_T y pg_m8 := pg_mo_of pg_mk2 (pg_in3 (List.mem_of_getElem? (i := 168) rfl) rfl) (by decide +kernel) y
set_option maxRecDepth 100000 in
theorem pg_o9 (y : Nat) : mm_Mo pg_T y pg_m9 := pg_mo_of pg_mk2 (pg_in3 (List.mem_of_getElem? (i := 217) rfl) rfl) (by decide +kernel) y
set_option maxRecDepth 100000 in
theorem pg_o10 (y : Nat) : mm_Mo pg_T y pg_m10 := pg_mo_of pg_mk2 (pg_in3 (List.mem_of_getElem? (i := 221) rfl) rfl) (by decide +kernel) y
set_option maxRecDepth 100000 in
theorem pg_o11 (y : Nat) : mm_Mo pg_T y pg_m11 := pg_mo_of pg_mk2 (pg_in3 (List.mem_of_getElem? (i := 180) rfl) rfl) (by decide +kernel) y
set_option maxRecDepth 100000 in
theorem pg_o12 (y : Nat) : mm_Mo pg_T y pg_m12 := pg_mo_of pg_mk2 (pg_in3 (List.mem_of_getElem? (i := 225) rfl) rfl) (by decide +kernel) y
set_option maxRecDepth 100000 in
theorem pg_o13 (y : Nat) : mm_Mo pg_T y pg_m13 := pg_mo_of pg_mk3 (pg_in2 (List.mem_of_getElem? (i := 66) rfl) rfl) (by decide +kernel) y
set_option maxRecDepth 100000 in
theorem pg_o14 (y : Nat) : mm_Mo pg_T y pg_m14 := pg_mo_of pg_mk3 (pg_in2 (List.mem_of_getElem? (i := 220) rfl) rfl) (by decide +kernel) y
set_option maxRecDepth 100000 in
theorem pg_o15 (y : Nat) : mm_Mo pg_T y pg_m15 := pg_mo_of pg_mk3 (pg_in2 (List.mem_of_getElem? (i := 224) rfl) rfl) (by decide +kernel) y
set_option maxRecDepth 100000 in
theorem pg_o16 (y : Nat) : mm_Mo pg_T y pg_m16 := pg_mo_of pg_mk3 (pg_in2 (List.mem_of_getElem? (i := 228) rfl) rfl) (by decide +kernel) y
set_option maxRecDepth 100000 in
theorem pg_o17 (y : Nat) : mm_Mo pg_T y pg_m17 := pg_mo_of pg_mk3 (pg_in2 (List.mem_of_getElem? (i := 232) rfl) rfl) (by decide +kernel) y
set_option maxRecDepth 100000 in
theorem pg_o18 (y : Nat) : mm_Mo pg_T y pg_m18 := pg_mo_of pg_mk3 (pg_in2 (List.mem_of_getElem? (i := 236) rfl) rfl) (by decide +kernel) y
set_option maxRecDepth 100000 in
theorem pg_o19 (y : Nat) : mm_Mo pg_T y pg_m19 := pg_mo_of pg_mk3 (pg_in3 (List.mem_of_getElem? (i := 22) rfl) rfl) (by decide +kernel) y
set_option maxRecDepth 100000 in
theorem pg_o20 (y : Nat) : mm_Mo pg_T y pg_m20 := pg_mo_of pg_mk3 (pg_in3 (List.mem_of_getElem? (i := 100) rfl) rfl) (by decide +kernel) y
set_option maxRecDepth 100000 in
theorem pg_o21 (y : Nat) : mm_Mo pg_T y pg_m21 := pg_mo_of pg_mk3 (pg_in5 (List.mem_of_getElem? (i := 23) rfl) rfl) (by decide +kernel) y
set_option maxRecDepth 100000 in
theorem pg_o22 (y : Nat) : mm_Mo pg_T y pg_m22 := pg_mo_of pg_mk3 (pg_in5 (List.mem_of_getElem? (i := 32) rfl) rfl) (by decide +kernel) y
set_option maxRecDepth 100000 in
theorem pg_o23 (y : Nat) : mm_Mo pg_T y pg_m23 := pg_mo_of pg_mk3 (pg_in3 (List.mem_of_getElem? (i := 18) rfl) rfl) (by decide +kernel) y
set_option maxRecDepth 100000 in
theorem pg_o24 (y : Nat) : mm_Mo pg_T y pg_m24 := pg_mo_of pg_mk3 (pg_in3 (List.mem_of_getElem? (i := 34) rfl) rfl) (by decide +kernel) y
set_option maxRecDepth 100000 in
theorem pg_o25 (y : Nat) : mm_Mo pg_T y pg_m25 := pg_mo_of pg_mk3 (pg_in3 (List.mem_of_getElem? (i := 38) rfl) rfl) (by decide +kernel) y
set_option maxRecDepth 100000 in
theorem pg_o26 (y : Nat) : mm_Mo pg_T y pg_m26 := pg_mo_of pg_mk3 (pg_in3 (List.mem_of_getElem? (i := 159) rfl) rfl) (by decide +kernel) y
set_option maxRecDepth 100000 in
theorem pg_o27 (y : Nat) : mm_Mo pg_T y pg_m27 := pg_mo_of pg_mk3 (pg_in3 (List.mem_of_getElem? (i := 163) rfl) rfl) (by decide +kernel) y
set_option maxRecDepth 100000 in
theorem pg_o28 (y : Nat) : mm_Mo pg_T y pg_m28 := pg_mo_of pg_mk3 (pg_in3 (List.mem_of_getElem? (i := 237) rfl) rfl) (by decide +kernel) y
set_option maxRecDepth 100000 in
theorem pg_o29 (y : Nat) : mm_Mo pg_T y pg_m29 := pg_mo_of pg_mk3 (pg_in3 (List.mem_of_getElem? (i := 26) rfl) rfl) (by decide +kernel) y
set_option maxRecDepth 100000 in
theorem pg_o30 (y : Nat) : mm_Mo pg_T y pg_m30 := pg_mo_of pg_mk3 (pg_in3 (List.mem_of_getElem? (i := 56) rfl) rfl) (by decide +kernel) y
set_option maxRecDepth 100000 in
theorem pg_o31 (y : Nat) : mm_Mo pg_T y pg_m31 := pg_mo_of pg_mk3 (pg_in3 (List.mem_of_getElem? (i := 60) rfl) rfl) (by decide +kernel) y
set_option maxRecDepth 100000 in
theorem pg_o32 (y : Nat) : mm_Mo pg_T y pg_m32 := pg_mo_of pg_mk3 (pg_in3 (List.mem_of_getElem? (i := 64) rfl) rfl) (by decide +kernel) y
set_option maxRecDepth 100000 in
theorem pg_o33 (y : Nat) : mm_Mo pg_T y pg_m33 := pg_mo_of pg_mk3 (pg_in3 (List.mem_of_getElem? (i := 72) rfl) rfl) (by decide +kernel) y
set_option maxRecDepth 100000 in
theorem pg_o34 (y : Nat) : mm_Mo pg_T y pg_m34 := pg_mo_of pg_mk3 (pg_in3 (List.mem_of_getElem? (i := 84) rfl) rfl) (by decide +kernel) y
set_option maxRecDepth 100000 in
theorem pg_o35 (y : Nat) : mm_Mo pg_T y pg_m35 := pg_mo_of pg_mk3 (pg_in3 (List.mem_of_getElem? (i := 76) rfl) rfl) (by decide +kernel) y
set_option maxRecDepth 100000 in
theorem pg_o36 (y : Nat) : mm_Mo pg_T y pg_m36 := pg_mo_of pg_mk3 (pg_in4 (List.mem_of_getElem? (i := 33) rfl) rfl) (by decide +kernel) y
set_option maxRecDepth 100000 in
theorem pg_o37 (y : Nat) : mm_Mo pg_T y pg_m37 := pg_mo_of pg_mk3 (pg_in4 (List.mem_of_getElem? (i := 37) rfl) rfl) (by decide +kernel) y
set_option maxRecDepth 100000 in
theorem pg_o38 (y : Nat) : mm_Mo pg_T y pg_m38 := pg_mo_of pg_mk3 (pg_in5 (List.mem_of_getElem? (i := 10) rfl) rfl) (by decide +kernel) y
set_option maxRecDepth 100000 in
theorem pg_o39 (y : Nat) : mm_Mo pg_T y pg_m39 := pg_mo_of pg_mk4 (pg_in1 (List.mem_of_getElem? (i := 109) rfl) rfl) (by decide +kernel) y
set_option maxRecDepth 100000 in
theorem pg_o40 (y : Nat) : mm_Mo pg_T y pg_m40 := pg_mo_of pg_mk4 (pg_in3 (List.mem_of_getElem? (i := 46) rfl) rfl) (by decide +kernel) y
set_option maxRecDepth 100000 in
theorem pg_o41 (y : Nat) : mm_Mo pg_T y pg_m41 := pg_mo_of pg_mk4 (pg_in3 (List.mem_of_getElem? (i := 68) rfl) rfl) (by decide +kernel) y
set_option maxRecDepth 100000 in
theorem pg_o42 (y : Nat) : mm_Mo pg_T y pg_m42 := pg_mo_of pg_mk4 (pg_in3 (List.mem_of_getElem? (i := 185) rfl) rfl) (by decide +kernel) y
set_option maxRecDepth 100000 in
theorem pg_o43 (y : Nat) : mm_Mo pg_T y pg_m43 := pg_mo_of pg_mk5 (pg_in1 (List.mem_of_getElem? (i := 168) rfl) rfl) (by decide +kernel) y
set_option maxRecDepth 100000 in
theorem pg_o44 (y : Nat) : mm_Mo pg_T y pg_m44 := pg_mo_of pg_mk5 (pg_in4 (List.mem_of_getElem? (i := 164) rfl) rfl) (by decide +kernel) y
set_option maxRecDepth 100000 in
theorem pg_o45 (y : Nat) : mm_Mo pg_T y pg_m45 := pg_mo_of pg_mk5 (pg_in4 (List.mem_of_getElem? (i := 172) rfl) rfl) (by decide +kernel) y
set_option maxRecDepth 100000 in
theorem pg_o46 (y : Nat) : mm_Mo pg_T y pg_m46 := pg_mo_of pg_mk5 (pg_in4 (List.mem_of_getElem? (i := 188) rfl) rfl) (by decide +kernel) y
set_option maxRecDepth 100000 in
theorem pg_o47 (y : Nat) : mm_Mo pg_T y pg_m47 := pg_mo_of pg_mk5 (pg_in4 (List.mem_of_getElem? (i := 196) rfl) rfl) (by decide +kernel) y
set_option maxRecDepth 100000 in
theorem pg_o48 (y : Nat) : mm_Mo pg_T y pg_m48 := pg_mo_of pg_mk5 (pg_in4 (List.mem_of_getElem? (i := 219) rfl) rfl) (by decide +kernel) y
set_option maxRecDepth 100000 in
theorem pg_o49 (y : Nat) : mm_Mo pg_T y pg_m49 := pg_mo_of pg_mk5 (pg_in4 (List.mem_of_getElem? (i := 192) rfl) rfl) (by decide +kernel) y
set_option maxRecDepth 100000 in
theorem pg_o50 (y : Nat) : mm_Mo pg_T y pg_m50 := pg_mo_of pg_mk5 (pg_in4 (List.mem_of_getElem? (i := 239) rfl) rfl) (by decide +kernel) y
set_option maxRecDepth 100000 in
theorem pg_o51 (y : Nat) : mm_Mo pg_T y pg_m51 := pg_mo_of pg_mk5 (pg_in4 (List.mem_of_getElem? (i := 223) rfl) rfl) (by decide +kernel) y
set_option maxRecDepth 100000 in
theorem pg_o52 (y : Nat) : mm_Mo pg_T y pg_m52 := pg_mo_of pg_mk5 (pg_in4 (List.mem_of_getElem? (i := 227) rfl) rfl) (by decide +kernel) y
set_option maxRecDepth 100000 in
theorem pg_o53 (y : Nat) : mm_Mo pg_T y pg_m53 := pg_mo_of pg_mk5 (pg_in4 (List.mem_of_getElem? (i := 231) rfl) rfl) (by decide +kernel) y
set_option maxRecDepth 100000 in
theorem pg_o54 (y : Nat) : mm_Mo pg_T y pg_m54 := pg_mo_of pg_mk5 (pg_in4 (List.mem_of_getElem? (i := 235) rfl) rfl) (by decide +kernel) y
set_option maxRecDepth 100000 in
theorem pg_o55 (y : Nat) : mm_Mo pg_T y pg_m55 := pg_mo_of pg_mk6 (pg_in2 (List.mem_of_getElem? (i := 26) rfl) rfl) (by decide +kernel) y
set_option maxRecDepth 100000 in
theorem pg_o56 (y : Nat) : mm_Mo pg_T y pg_m56 := pg_mo_of pg_mk6 (pg_in3 (List.mem_of_getElem? (i := 142) rfl) rfl) (by decide +kernel) y
set_option maxRecDepth 100000 in
theorem pg_o57 (y : Nat) : mm_Mo pg_T y pg_m57 := pg_mo_of pg_mk6 (pg_in3 (List.mem_of_getElem? (i := 189) rfl) rfl) (by decide +kernel) y
set_option maxRecDepth 100000 in
theorem pg_o58 (y : Nat) : mm_Mo pg_T y pg_m58 := pg_mo_of pg_mk6 (pg_in3 (List.mem_of_getElem? (i := 229) rfl) rfl) (by decide +kernel) y
set_option maxRecDepth 100000 in
theorem pg_o59 (y : Nat) : mm_Mo pg_T y pg_m59 := pg_mo_of pg_mk6 (pg_in3 (List.mem_of_getElem? (i := 199) rfl) rfl) (by decide +kernel) y
set_option maxRecDepth 100000 in
theorem pg_o60 (y : Nat) : mm_Mo pg_T y pg_m60 := pg_mo_of pg_mk6 (pg_in3 (List.mem_of_getElem? (i := 202) rfl) rfl) (by decide +kernel) y
set_option maxRecDepth 100000 in
theorem pg_o61 (y : Nat) : mm_Mo pg_T y pg_m61 := pg_mo_of pg_mk6 (pg_in4 (List.mem_of_getElem? (i := 1) rfl) rfl) (by decide +kernel) y
set_option maxRecDepth 100000 in
theorem pg_o62 (y : Nat) : mm_Mo pg_T y pg_m62 := pg_mo_of pg_mk6 (pg_in3 (List.mem_of_getElem? (i := 233) rfl) rfl) (by decide +kernel) y
set_option maxRecDepth 100000 in
theorem pg_o63 (y : Nat) : mm_Mo pg_T y pg_m63 := pg_mo_of pg_mk6 (pg_in4 (List.mem_of_getElem? (i := 29) rfl) rfl) (by decide +kernel) y
set_option maxRecDepth 100000 in
theorem pg_o64 (y : Nat) : mm_Mo pg_T y pg_m64 := pg_mo_of pg_mk6 (pg_in4 (List.mem_of_getElem? (i := 9) rfl) rfl) (by decide +kernel) y
set_option maxRecDepth 100000 in
theorem pg_o65 (y : Nat) : mm_Mo pg_T y pg_m65 := pg_mo_of pg_mk6 (pg_in4 (List.mem_of_getElem? (i := 5) rfl) rfl) (by decide +kernel) y
set_option maxRecDepth 100000 in
theorem pg_o66 (y : Nat) : mm_Mo pg_T y pg_m66 := pg_mo_of pg_mk6 (pg_in3 (List.mem_of_getElem? (i := 193) rfl) rfl) (by decide +kernel) y
set_option maxRecDepth 100000 in
theorem pg_o67 (y : Nat) : mm_Mo pg_T y pg_m67 := pg_mo_of pg_mk6 (pg_in4 (List.mem_of_getElem? (i := 21) rfl) rfl) (by decide +kernel) y
set_option maxRecDepth 100000 in
theorem pg_o68 (y : Nat) : mm_Mo pg_T y pg_m68 := pg_mo_of pg_mk6 (pg_in4 (List.mem_of_getElem? (i := 17) rfl) rfl) (by decide +kernel) y
set_option maxRecDepth 100000 in
theorem pg_o69 (y : Nat) : mm_Mo pg_T y pg_m69 := pg_mo_of pg_mk6 (pg_in4 (List.mem_of_getElem? (i := 13) rfl) rfl) (by decide +kernel) y
set_option maxRecDepth 100000 in
theorem pg_o70 (y : Nat) : mm_Mo pg_T y pg_m70 := pg_mo_of pg_mk6 (pg_in4 (List.mem_of_getElem? (i := 25) rfl) rfl) (by decide +kernel) y
set_option maxRecDepth 100000 in
theorem pg_o71 (y : Nat) : mm_Mo pg_T y pg_m71 := pg_mo_of pg_mk7 (pg_in1 (List.mem_of_getElem? (i := 88) rfl) rfl) (by decide +kernel) y
set_option maxRecDepth 100000 in
theorem pg_o72 (y : Nat) : mm_Mo pg_T y pg_m72 := pg_mo_of pg_mk7 (pg_in3 (List.mem_of_getElem? (i := 10) rfl) rfl) (by decide +kernel) y
set_option maxRecDepth 100000 in
theorem pg_o73 (y : Nat) : mm_Mo pg_T y pg_m73 := pg_mo_of pg_mk7 (pg_in3 (List.mem_of_getElem? (i := 80) rfl) rfl) (by decide +kernel) y
set_option maxRecDepth 100000 in
theorem pg_o74 (y : Nat) : mm_Mo pg_T y pg_m74 := pg_mo_of pg_mk7 (pg_in3 (List.mem_of_getElem? (i := 133) rfl) rfl) (by decide +kernel) y
set_option maxRecDepth 100000 in
theorem pg_o75 (y : Nat) : mm_Mo pg_T y pg_m75 := pg_mo_of pg_mk8 (pg_in2 (List.mem_of_getElem? (i := 140) rfl) rfl) (by decide +kernel) y
set_option maxRecDepth 100000 in
theorem pg_o76 (y : Nat) : mm_Mo pg_T y pg_m76 := pg_mo_of pg_mk8 (pg_in3 (List.mem_of_getElem? (i := 104) rfl) rfl) (by decide +kernel) y
set_option maxRecDepth 100000 in
theorem pg_o77 (y : Nat) : mm_Mo pg_T y pg_m77 := pg_mo_of pg_mk8 (pg_in3 (List.mem_of_getElem? (i := 115) rfl) rfl) (by decide +kernel) y
set_option maxRecDepth 100000 in
theorem pg_o78 (y : Nat) : mm_Mo pg_T y pg_m78 := pg_mo_of pg_mk8 (pg_in3 (List.mem_of_getElem? (i := 122) rfl) rfl) (by decide +kernel) y
set_option maxRecDepth 100000 in
theorem pg_o79 (y : Nat) : mm_Mo pg_T y pg_m79 := pg_mo_of pg_mk8 (pg_in3 (List.mem_of_getElem? (i := 111) rfl) rfl) (by decide +kernel) y
set_option maxRecDepth 100000 in
theorem pg_o80 (y : Nat) : mm_Mo pg_T y pg_m80 := pg_mo_of pg_mk8 (pg_in3 (List.mem_of_getElem? (i := 206) rfl) rfl) (by decide +kernel) y
set_option maxRecDepth 100000 in
theorem pg_o81 (y : Nat) : mm_Mo pg_T y pg_m81 := pg_mo_of pg_mk8 (pg_in3 (List.mem_of_getElem? (i := 210) rfl) rfl) (by decide +kernel) y
set_option maxRecDepth 100000 in
theorem pg_o82 (y : Nat) : mm_Mo pg_T y pg_m82 := pg_mo_of pg_mk9 (pg_in1 (List.mem_of_getElem? (i := 197) rfl) rfl) (by decide +kernel) y
set_option maxRecDepth 100000 in
theorem pg_o83 (y : Nat) : mm_Mo pg_T y pg_m83 := pg_mo_of pg_mk9 (pg_in4 (List.mem_of_getElem? (i := 57) rfl) rfl) (by decide +kernel) y
set_option maxRecDepth 100000 in
theorem pg_o84 (y : Nat) : mm_Mo pg_T y pg_m84 := pg_mo_of pg_mk9 (pg_in4 (List.mem_of_getElem? (i := 61) rfl) rfl) (by decide +kernel) y
set_option maxRecDepth 100000 in
theorem pg_o85 (y : Nat) : mm_Mo pg_T y pg_m85 := pg_mo_of pg_mk9 (pg_in4 (List.mem_of_getElem? (i := 65) rfl) rfl) (by decide +kernel) y
set_option maxRecDepth 100000 in
theorem pg_o86 (y : Nat) : mm_Mo pg_T y pg_m86 := pg_mo_of pg_mk9 (pg_in4 (List.mem_of_getElem? (i := 86) rfl) rfl) (by decide +kernel) y
set_option maxRecDepth 100000 in
theorem pg_o87 (y : Nat) : mm_Mo pg_T y pg_m87 := pg_mo_of pg_mk9 (pg_in4 (List.mem_of_getElem? (i := 90) rfl) rfl) (by decide +kernel) y
set_option maxRecDepth 100000 in
theorem pg_o88 (y : Nat) : mm_Mo pg_T y pg_m88 := pg_mo_of pg_mk9 (pg_in4 (List.mem_of_getElem? (i := 97) rfl) rfl) (by decide +kernel) y
set_option maxRecDepth 100000 in
theorem pg_o89 (y : Nat) : mm_Mo pg_T y pg_m89 := pg_mo_of pg_mk9 (pg_in4 (List.mem_of_getElem? (i := 94) rfl) rfl) (by decide +kernel) y
set_option maxRecDepth 100000 in
theorem pg_o90 (y : Nat) : mm_Mo pg_T y pg_m90 := pg_mo_of pg_mk9 (pg_in4 (List.mem_of_getElem? (i := 101) rfl) rfl) (by decide +kernel) y
set_option maxRecDepth 100000 in
theorem pg_o91 (y : Nat) : mm_Mo pg_T y pg_m91 := pg_mo_of pg_mk9 (pg_in4 (List.mem_of_getElem? (i := 110) rfl) rfl) (by decide +kernel) y
set_option maxRecDepth 100000 in
theorem pg_o92 (y : Nat) : mm_Mo pg_T y pg_m92 := pg_mo_of pg_mk9 (pg_in4 (List.mem_of_getElem? (i := 138) rfl) rfl) (by decide +kernel) y
set_option maxRecDepth 100000 in
theorem pg_o93 (y : Nat) : mm_Mo pg_T y pg_m93 := pg_mo_of pg_mk9 (pg_in4 (List.mem_of_getElem? (i := 114) rfl) rfl) (by decide +kernel) y
set_option maxRecDepth 100000 in
theorem pg_o94 (y : Nat) : mm_Mo pg_T y pg_m94 := pg_mo_of pg_mk9 (pg_in4 (List.mem_of_getElem? (i := 121) rfl) rfl) (by decide +kernel) y
set_option maxRecDepth 100000 in
theorem pg_o95 (y : Nat) : mm_Mo pg_T y pg_m95 := pg_mo_of pg_mk9 (pg_in4 (List.mem_of_getElem? (i := 126) rfl) rfl) (by decide +kernel) y
set_option maxRecDepth 100000 in
theorem pg_o96 (y : Nat) : mm_Mo pg_T y pg_m96 := pg_mo_of pg_mk9 (pg_in4 (List.mem_of_getElem? (i := 130) rfl) rfl) (by decide +kernel) y
set_option maxRecDepth 100000 in
theorem pg_o97 (y : Nat) : mm_Mo pg_T y pg_m97 := pg_mo_of pg_mk9 (pg_in4 (List.mem_of_getElem? (i := 134) rfl) rfl) (by decide +kernel) y
set_option maxRecDepth 100000 in
theorem pg_o98 (y : Nat) : mm_Mo pg_T y pg_m98 := pg_mo_of pg_mk9 (pg_in4 (List.mem_of_getElem? (i := 142) rfl) rfl) (by decide +kernel) y
set_option maxRecDepth 100000 in
theorem pg_o99 (y : Nat) : mm_Mo pg_T y pg_m99 := pg_mo_of pg_mk9 (pg_in4 (List.mem_of_getElem? (i := 146) rfl) rfl) (by decide +kernel) y
set_option maxRecDepth 100000 in
theorem pg_o100 (y : Nat) : mm_Mo pg_T y pg_m100 := pg_mo_of pg_mk9 (pg_in4 (List.mem_of_getElem? (i := 150) rfl) rfl) (by decide +kernel) y
set_option maxRecDepth 100000 in
theorem pg_o101 (y : Nat) : mm_Mo pg_T y pg_m101 := pg_mo_of pg_mk9 (pg_in4 (List.mem_of_getElem? (i := 156) rfl) rfl) (by decide +kernel) y
set_option maxRecDepth 100000 in
theorem pg_o102 (y : Nat) : mm_Mo pg_T y pg_m102 := pg_mo_of pg_mk10 (pg_in3 (List.mem_of_getElem? (i := 107) rfl) rfl) (by decide +kernel) y
set_option maxRecDepth 100000 in
theorem pg_o103 (y : Nat) : mm_Mo pg_T y pg_m103 := pg_mo_of pg_mk10 (pg_in3 (List.mem_of_getElem? (i := 118) rfl) rfl) (by decide +kernel) y
set_option maxRecDepth 100000 in
theorem pg_o104 (y : Nat) : mm_Mo pg_T y pg_m104 := pg_mo_of pg_mk10 (pg_in3 (List.mem_of_getElem? (i := 126) rfl) rfl) (by decide +kernel) y
set_option maxRecDepth 100000 in
theorem pg_o105 (y : Nat) : mm_Mo pg_T y pg_m105 := pg_mo_of pg_mk10 (pg_in3 (List.mem_of_getElem? (i := 129) rfl) rfl) (by decide +kernel) y
set_option maxRecDepth 100000 in
theorem pg_o106 (y : Nat) : mm_Mo pg_T y pg_m106 := pg_mo_of pg_mk10 (pg_in3 (List.mem_of_getElem? (i := 137) rfl) rfl) (by decide +kernel) y
set_option maxRecDepth 100000 in
theorem pg_o107 (y : Nat) : mm_Mo pg_T y pg_m107 := pg_mo_of pg_mk11 (pg_in1 (List.mem_of_getElem? (i := 206) rfl) rfl) (by decide +kernel) y
set_option maxRecDepth 100000 in
theorem pg_o108 (y : Nat) : mm_Mo pg_T y pg_m108 := pg_mo_of pg_mk12 (pg_in1 (List.mem_of_getElem? (i := 52) rfl) rfl) (by decide +kernel) y
set_option maxRecDepth 100000 in
theorem pg_o109 (y : Nat) : mm_Mo pg_T y pg_m109 := pg_mo_of pg_mk12 (pg_in2 (List.mem_of_getElem? (i := 201) rfl) rfl) (by decide +kernel) y
set_option maxRecDepth 100000 in
theorem pg_o110 (y : Nat) : mm_Mo pg_T y pg_m110 := pg_mo_of pg_mk12 (pg_in4 (List.mem_of_getElem? (i := 53) rfl) rfl) (by decide +kernel) y
set_option maxRecDepth 100000 in
theorem pg_o111 (y : Nat) : mm_Mo pg_T y pg_m111 := pg_mo_of pg_mk12 (pg_in4 (List.mem_of_getElem? (i := 77) rfl) rfl) (by decide +kernel) y
set_option maxRecDepth 100000 in
theorem pg_o112 (y : Nat) : mm_Mo pg_T y pg_m112 := pg_mo_of pg_mk12 (pg_in4 (List.mem_of_getElem? (i := 69) rfl) rfl) (by decide +kernel) y
set_option maxRecDepth 100000 in
theorem pg_o113 (y : Nat) : mm_Mo pg_T y pg_m113 := pg_mo_of pg_mk12 (pg_in4 (List.mem_of_getElem? (i := 73) rfl) rfl) (by decide +kernel) y
set_option maxRecDepth 100000 in
theorem pg_o114 (y : Nat) : mm_Mo pg_T y pg_m114 := pg_mo_of pg_mk12 (pg_in4 (List.mem_of_getElem? (i := 81) rfl) rfl) (by decide +kernel) y
set_option maxRecDepth 100000 in
theorem pg_o115 (y : Nat) : mm_Mo pg_T y pg_m115 := pg_mo_of pg_mk12 (pg_in4 (List.mem_of_getElem? (i := 105) rfl) rfl) (by decide +kernel) y
set_option maxRecDepth 100000 in
theorem pg_o116 (y : Nat) : mm_Mo pg_T y pg_m116 := pg_mo_of pg_mk12 (pg_in4 (List.mem_of_getElem? (i := 204) rfl) rfl) (by decide +kernel) y
set_option maxRecDepth 100000 in
theorem pg_o117 (y : Nat) : mm_Mo pg_T y pg_m117 := pg_mo_of pg_mk12 (pg_in4 (List.mem_of_getElem? (i := 209) rfl) rfl) (by decide +kernel) y
set_option maxRecDepth 100000 in
theorem pg_o118 (y : Nat) : mm_Mo pg_T y pg_m118 := pg_mo_of pg_mk12 (pg_in4 (List.mem_of_getElem? (i := 200) rfl) rfl) (by decide +kernel) y
set_option maxRecDepth 100000 in
theorem pg_o119 (y : Nat) : mm_Mo pg_T y pg_m119 := pg_mo_of pg_mk12 (pg_in5 (List.mem_of_getElem? (i := 6) rfl) rfl) (by decide +kernel) y
set_option maxRecDepth 100000 in
theorem pg_o120 (y : Nat) : mm_Mo pg_T y pg_m120 := pg_mo_of pg_mk12 (pg_in4 (List.mem_of_getElem? (i := 176) rfl) rfl) (by decide +kernel) y
set_option maxRecDepth 100000 in
theorem pg_o121 (y : Nat) : mm_Mo pg_T y pg_m121 := pg_mo_of pg_mk13 (pg_in1 (List.mem_of_getElem? (i := 22) rfl) rfl) (by decide +kernel) y
set_option maxRecDepth 100000 in
theorem pg_o122 (y : Nat) : mm_Mo pg_T y pg_m122 := pg_mo_of pg_mk13 (pg_in2 (List.mem_of_getElem? (i := 197) rfl) rfl) (by decide +kernel) y
set_option maxRecDepth 100000 in
theorem pg_o123 (y : Nat) : mm_Mo pg_T y pg_m123 := pg_mo_of pg_mk13 (pg_in2 (List.mem_of_getElem? (i := 205) rfl) rfl) (by decide +kernel) y
set_option maxRecDepth 100000 in
theorem pg_o124 (y : Nat) : mm_Mo pg_T y pg_m124 := pg_mo_of pg_mk13 (pg_in2 (List.mem_of_getElem? (i := 209) rfl) rfl) (by decide +kernel) y
set_option maxRecDepth 100000 in
theorem pg_o125 (y : Nat) : mm_Mo pg_T y pg_m125 := pg_mo_of pg_mk13 (pg_in2 (List.mem_of_getElem? (i := 216) rfl) rfl) (by decide +kernel) y
set_option maxRecDepth 100000 in
theorem pg_o126 (y : Nat) : mm_Mo pg_T y pg_m126 := pg_mo_of pg_mk13 (pg_in3 (List.mem_of_getElem? (i := 14) rfl) rfl) (by decide +kernel) y
set_option maxRecDepth 100000 in
theorem pg_o127 (y : Nat) : mm_Mo pg_T y pg_m127 := pg_mo_of pg_mk13 (pg_in3 (List.mem_of_getElem? (i := 30) rfl) rfl) (by decide +kernel) y
set_option maxRecDepth 100000 in
theorem pg_o128 (y : Nat) : mm_Mo pg_T y pg_m128 := pg_mo_of pg_mk13 (pg_in3 (List.mem_of_getElem? (i := 42) rfl) rfl) (by decide +kernel) y
set_option maxRecDepth 100000 in
theorem pg_o129 (y : Nat) : mm_Mo pg_T y pg_m129 := pg_mo_of pg_mk13 (pg_in3 (List.mem_of_getElem? (i := 88) rfl) rfl) (by decide +kernel) y
set_option maxRecDepth 100000 in
theorem pg_o130 (y : Nat) : mm_Mo pg_T y pg_m130 := pg_mo_of pg_mk13 (pg_in3 (List.mem_of_getElem? (i := 92) rfl) rfl) (by decide +kernel) y
set_option maxRecDepth 100000 in
theorem pg_o131 (y : Nat) : mm_Mo pg_T y pg_m131 := pg_mo_of pg_mk13 (pg_in3 (List.mem_of_getElem? (i := 96) rfl) rfl) (by decide +kernel) y
set_option maxRecDepth 100000 in
theorem pg_o132 (y : Nat) : mm_Mo pg_T y pg_m132 := pg_mo_of pg_mk13 (pg_in4 (List.mem_of_getElem? (i := 45) rfl) rfl) (by decide +kernel) y
set_option maxRecDepth 100000 in
theorem pg_o133 (y : Nat) : mm_Mo pg_T y pg_m133 := pg_mo_of pg_mk13 (pg_in4 (List.mem_of_getElem? (i := 49) rfl) rfl) (by decide +kernel) y
set_option maxRecDepth 100000 in
theorem pg_o134 (y : Nat) : mm_Mo pg_T y pg_m134 := pg_mo_of pg_mk13 (pg_in5 (List.mem_of_getElem? (i := 15) rfl) rfl) (by decide +kernel) y
set_option maxRecDepth 100000 in
theorem pg_o135 (y : Nat) : mm_Mo pg_T y pg_m135 := pg_mo_of pg_mk13 (pg_in5 (List.mem_of_getElem? (i := 19) rfl) rfl) (by decide +kernel) y
set_option maxRecDepth 100000 in
theorem pg_o136 (y : Nat) : mm_Mo pg_T y pg_m136 := pg_mo_of pg_mk13 (pg_in5 (List.mem_of_getElem? (i := 27) rfl) rfl) (by decide +kernel) y
set_option maxRecDepth 100000 in
theorem pg_o137 (y : Nat) : mm_Mo pg_T y pg_m137 := pg_mo_of pg_mk13 (pg_in5 (List.mem_of_getElem? (i := 36) rfl) rfl) (by decide +kernel) y
set_option maxRecDepth 100000 in
theorem pg_o138 (y : Nat) : mm_Mo pg_T y pg_m138 := pg_mo_of pg_mk13 (pg_in5 (List.mem_of_getElem? (i := 41) rfl) rfl) (by decide +kernel) y
set_option maxRecDepth 100000 in
theorem pg_o139 (y : Nat) : mm_Mo pg_T y pg_m139 := pg_mo_of pg_mk13 (pg_in5 (List.mem_of_getElem? (i := 45) rfl) rfl) (by decide +kernel) y
set_option maxRecDepth 100000 in
theorem pg_o140 (y : Nat) : mm_Mo pg_T y pg_m140 := pg_mo_of pg_mk13 (pg_in3 (List.mem_of_getElem? (i := 6) rfl) rfl) (by decide +kernel) y
set_option maxRecDepth 100000 in
theorem pg_o141 (y : Nat) : mm_Mo pg_T y pg_m141 := pg_mo_of pg_mk13 (pg_in3 (List.mem_of_getElem? (i := 2) rfl) rfl) (by decide +kernel) y
set_option maxRecDepth 100000 in
theorem pg_o142 (y : Nat) : mm_Mo pg_T y pg_m142 := pg_mo_of pg_mk13 (pg_in3 (List.mem_of_getElem? (i := 196) rfl) rfl) (by decide +kernel) y
set_option maxRecDepth 100000 in
theorem pg_o143 (y : Nat) : mm_Mo pg_T y pg_m143 := pg_mo_of pg_mk13 (pg_in4 (List.mem_of_getElem? (i := 212) rfl) rfl) (by decide +kernel) y
set_option maxRecDepth 100000 in
theorem pg_o144 (y : Nat) : mm_Mo pg_T y pg_m144 := pg_mo_of pg_mk14 (pg_in5 (List.mem_of_getElem? (i := 50) rfl) rfl) (by decide +kernel) y
set_option maxRecDepth 100000 in
theorem pg_o145 (y : Nat) : mm_Mo pg_T y pg_m145 := pg_mo_of pg_mk14 (pg_in5 (List.mem_of_getElem? (i := 238) rfl) rfl) (by decide +kernel) y
set_option maxRecDepth 100000 in
theorem pg_o146 (y : Nat) : mm_Mo pg_T y pg_m146 := pg_mo_of pg_mk14 (pg_in6 (List.mem_of_getElem? (i := 2) rfl) rfl) (by decide +kernel) y
set_option maxRecDepth 100000 in
theorem pg_o147 (y : Nat) : mm_Mo pg_T y pg_m147 := pg_mo_of pg_mk14 (pg_in6 (List.mem_of_getElem? (i := 6) rfl) rfl) (by decide +kernel) y
set_option maxRecDepth 100000 in
theorem pg_o148 (y : Nat) : mm_Mo pg_T y pg_m148 := pg_mo_of pg_mk14 (pg_in6 (List.mem_of_getElem? (i := 10) rfl) rfl) (by decide +kernel) y
set_option maxRecDepth 100000 in
theorem pg_o149 (y : Nat) : mm_Mo pg_T y pg_m149 := pg_mo_of pg_mk14 (pg_in6 (List.mem_of_getElem? (i := 44) rfl) rfl) (by decide +kernel) y
set_option maxRecDepth 100000 in
theorem pg_o150 (y : Nat) : mm_Mo pg_T y pg_m150 := pg_mo_of pg_mk14 (pg_in6 (List.mem_of_getElem? (i := 40) rfl) rfl) (by decide +kernel) y
set_option maxRecDepth 100000 in
theorem pg_o151 (y : Nat) : mm_Mo pg_T y pg_m151 := pg_mo_of pg_mk14 (pg_in6 (List.mem_of_getElem? (i := 84) rfl) rfl) (by decide +kernel) y
set_option maxRecDepth 100000 in
theorem pg_o152 (y : Nat) : mm_Mo pg_T y pg_m152 := pg_mo_of pg_mk14 (pg_in6 (List.mem_of_getElem? (i := 88) rfl) rfl) (by decide +kernel) y
set_option maxRecDepth 100000 in
theorem pg_o153 (y : Nat) : mm_Mo pg_T y pg_m153 := pg_mo_of pg_mk14 (pg_in6 (List.mem_of_getElem? (i := 36) rfl) rfl) (by decide +kernel) y
set_option maxRecDepth 100000 in
theorem pg_o154 (y : Nat) : mm_Mo pg_T y pg_m154 := pg_mo_of pg_mk14 (pg_in6 (List.mem_of_getElem? (i := 52) rfl) rfl) (by decide +kernel) y
set_option maxRecDepth 100000 in
theorem pg_o155 (y : Nat) : mm_Mo pg_T y pg_m155 := pg_mo_of pg_mk14 (pg_in6 (List.mem_of_getElem? (i := 32) rfl) rfl) (by decide +kernel) y
set_option maxRecDepth 100000 in
theorem pg_o156 (y : Nat) : mm_Mo pg_T y pg_m156 := pg_mo_of pg_mk14 (pg_in6 (List.mem_of_getElem? (i := 48) rfl) rfl) (by decide +kernel) y
set_option maxRecDepth 100000 in
theorem pg_o157 (y : Nat) : mm_Mo pg_T y pg_m157 := pg_mo_of pg_mk14 (pg_in5 (List.mem_of_getElem? (i := 55) rfl) rfl) (by decide +kernel) y
set_option maxRecDepth 100000 in
theorem pg_o158 (y : Nat) : mm_Mo pg_T y pg_m158 := pg_mo_of pg_mk14 (pg_in6 (List.mem_of_getElem? (i := 17) rfl) rfl) (by decide +kernel) y
set_option maxRecDepth 100000 in
theorem pg_o159 (y : Nat) : mm_Mo pg_T y pg_m159 := pg_mo_of pg_mk14 (pg_in6 (List.mem_of_getElem? (i := 20) rfl) rfl) (by decide +kernel) y
set_option maxRecDepth 100000 in
theorem pg_o160 (y : Nat) : mm_Mo pg_T y pg_m160 := pg_mo_of pg_mk14 (pg_in6 (List.mem_of_getElem? (i := 14) rfl) rfl) (by decide +kernel) y
set_option maxRecDepth 100000 in
theorem pg_o161 (y : Nat) : mm_Mo pg_T y pg_m161 := pg_mo_of pg_mk14 (pg_in6 (List.mem_of_getElem? (i := 28) rfl) rfl) (by decide +kernel) y
set_option maxRecDepth 100000 in
theorem pg_o162 (y : Nat) : mm_Mo pg_T y pg_m162 := pg_mo_of pg_mk14 (pg_in6 (List.mem_of_getElem? (i := 60) rfl) rfl) (by decide +kernel) y
set_option maxRecDepth 100000 in
theorem pg_o163 (y : Nat) : mm_Mo pg_T y pg_m163 := pg_mo_of pg_mk14 (pg_in6 (List.mem_of_getElem? (i := 24) rfl) rfl) (by decide +kernel) y
set_option maxRecDepth 100000 in
theorem pg_o164 (y : Nat) : mm_Mo pg_T y pg_m164 := pg_mo_of pg_mk14 (pg_in6 (List.mem_of_getElem? (i := 56) rfl) rfl) (by decide +kernel) y
set_option maxRecDepth 100000 in
theorem pg_o165 (y : Nat) : mm_Mo pg_T y pg_m165 := pg_mo_of pg_mk14 (pg_in6 (List.mem_of_getElem? (i := 64) rfl) rfl) (by decide +kernel) y
set_option maxRecDepth 100000 in
theorem pg_o166 (y : Nat) : mm_Mo pg_T y pg_m166 := pg_mo_of pg_mk14 (pg_in6 (List.mem_of_getElem? (i := 68) rfl) rfl) (by decide +kernel) y
set_option maxRecDepth 100000 in
theorem pg_o167 (y : Nat) : mm_Mo pg_T y pg_m167 := pg_mo_of pg_mk14 (pg_in6 (List.mem_of_getElem? (i := 72) rfl) rfl) (by decide +kernel) y
set_option maxRecDepth 100000 in
theorem pg_o168 (y : Nat) : mm_Mo pg_T y pg_m168 := pg_mo_of pg_mk14 (pg_in6 (List.mem_of_getElem? (i := 76) rfl) rfl) (by decide +kernel) y
set_option maxRecDepth 100000 in
theorem pg_o169 (y : Nat) : mm_Mo pg_T y pg_m169 := pg_mo_of pg_mk14 (pg_in6 (List.mem_of_getElem? (i := 80) rfl) rfl) (by decide +kernel) y
set_option maxRecDepth 100000 in
theorem pg_o170 (y : Nat) : mm_Mo pg_T y pg_m170 := pg_mo_of pg_mk14 (pg_in6 (List.mem_of_getElem? (i := 106) rfl) rfl) (by decide +kernel) y
set_option maxRecDepth 100000 in
theorem pg_o171 (y : Nat) : mm_Mo pg_T y pg_m171 := pg_mo_of pg_mk14 (pg_in6 (List.mem_of_getElem? (i := 99) rfl) rfl) (by decide +kernel) y
set_option maxRecDepth 100000 in
theorem pg_o172 (y : Nat) : mm_Mo pg_T y pg_m172 := pg_mo_of pg_mk14 (pg_in6 (List.mem_of_getElem? (i := 96) rfl) rfl) (by decide +kernel) y
set_option maxRecDepth 100000 in
theorem pg_o173 (y : Nat) : mm_Mo pg_T y pg_m173 := pg_mo_of pg_mk14 (pg_in6 (List.mem_of_getElem? (i := 103) rfl) rfl) (by decide +kernel) y
set_option maxRecDepth 100000 in
theorem pg_o174 (y : Nat) : mm_Mo pg_T y pg_m174 := pg_mo_of pg_mk14 (pg_in6 (List.mem_of_getElem? (i := 110) rfl) rfl) (by decide +kernel) y
set_option maxRecDepth 100000 in
theorem pg_o175 (y : Nat) : mm_Mo pg_T y pg_m175 := pg_mo_of pg_mk14 (pg_in6 (List.mem_of_getElem? (i := 114) rfl) rfl) (by decide +kernel) y
set_option maxRecDepth 100000 in
theorem pg_o176 (y : Nat) : mm_Mo pg_T y pg_m176 := pg_mo_of pg_mk14 (pg_in6 (List.mem_of_getElem? (i := 92) rfl) rfl) (by decide +kernel) y
set_option maxRecDepth 100000 in
theorem pg_o177 (y : Nat) : mm_Mo pg_T y pg_m177 := pg_mo_of pg_mk14 (pg_in6 (List.mem_of_getElem? (i := 118) rfl) rfl) (by decide +kernel) y
set_option maxRecDepth 100000 in
theorem pg_o178 (y : Nat) : mm_Mo pg_T y pg_m178 := pg_mo_of pg_mk14 (pg_in6 (List.mem_of_getElem? (i := 122) rfl) rfl) (by decide +kernel) y
set_option maxRecDepth 100000 in
theorem pg_o179 (y : Nat) : mm_Mo pg_T y pg_m179 := pg_mo_of pg_mk14 (pg_in6 (List.mem_of_getElem? (i := 156) rfl) rfl) (by decide +kernel) y
set_option maxRecDepth 100000 in
theorem pg_o180 (y : Nat) : mm_Mo pg_T y pg_m180 := pg_mo_of pg_mk14 (pg_in6 (List.mem_of_getElem? (i := 160) rfl) rfl) (by decide +kernel) y
set_option maxRecDepth 100000 in
theorem pg_o181 (y : Nat) : mm_Mo pg_T y pg_m181 := pg_mo_of pg_mk14 (pg_in6 (List.mem_of_getElem? (i := 168) rfl) rfl) (by decide +kernel) y
set_option maxRecDepth 100000 in
theorem pg_o182 (y : Nat) : mm_Mo pg_T y pg_m182 := pg_mo_of pg_mk14 (pg_in6 (List.mem_of_getElem? (i := 164) rfl) rfl) (by decide +kernel) y
set_option maxRecDepth 100000 in
theorem pg_o183 (y : Nat) : mm_Mo pg_T y pg_m183 := pg_mo_of pg_mk14 (pg_in6 (List.mem_of_getElem? (i := 208) rfl) rfl) (by decide +kernel) y
set_option maxRecDepth 100000 in
theorem pg_o184 (y : Nat) : mm_Mo pg_T y pg_m184 := pg_mo_of pg_mk14 (pg_in7 (List.mem_of_getElem? (i := 58) rfl) rfl) (by decide +kernel) y
set_option maxRecDepth 100000 in
theorem pg_o185 (y : Nat) : mm_Mo pg_T y pg_m185 := pg_mo_of pg_mk14 (pg_in7 (List.mem_of_getElem? (i := 15) rfl) rfl) (by decide +kernel) y
set_option maxRecDepth 100000 in
theorem pg_o186 (y : Nat) : mm_Mo pg_T y pg_m186 := pg_mo_of pg_mk14 (pg_in6 (List.mem_of_getElem? (i := 172) rfl) rfl) (by decide +kernel) y
set_option maxRecDepth 100000 in
theorem pg_o187 (y : Nat) : mm_Mo pg_T y pg_m187 := pg_mo_of pg_mk14 (pg_in6 (List.mem_of_getElem? (i := 203) rfl) rfl) (by decide +kernel) y
set_option maxRecDepth 100000 in
theorem pg_o188 (y : Nat) : mm_Mo pg_T y pg_m188 := pg_mo_of pg_mk14 (pg_in6 (List.mem_of_getElem? (i := 139) rfl) rfl) (by decide +kernel) y
set_option maxRecDepth 100000 in
theorem pg_o189 (y : Nat) : mm_Mo pg_T y pg_m189 := pg_mo_of pg_mk14 (pg_in6 (List.mem_of_getElem? (i := 195) rfl) rfl) (by decide +kernel) y
set_option maxRecDepth 100000 in
theorem pg_o190 (y : Nat) : mm_Mo pg_T y pg_m190 := pg_mo_of pg_mk14 (pg_in6 (List.mem_of_getElem? (i := 191) rfl) rfl) (by decide +kernel) y
set_option maxRecDepth 100000 in
theorem pg_o191 (y : Nat) : mm_Mo pg_T y pg_m191 := pg_mo_of pg_mk14 (pg_in6 (List.mem_of_getElem? (i := 199) rfl) rfl) (by decide +kernel) y
set_option maxRecDepth 100000 in
theorem pg_o192 (y : Nat) : mm_Mo pg_T y pg_m192 := pg_mo_of pg_mk14 (pg_in7 (List.mem_of_getElem? (i := 3) rfl) rfl) (by decide +kernel) y
set_option maxRecDepth 100000 in
theorem pg_o193 (y : Nat) : mm_Mo pg_T y pg_m193 := pg_mo_of pg_mk14 (pg_in7 (List.mem_of_getElem? (i := 11) rfl) rfl) (by decide +kernel) y
set_option maxRecDepth 100000 in
theorem pg_o194 (y : Nat) : mm_Mo pg_T y pg_m194 := pg_mo_of pg_mk14 (pg_in7 (List.mem_of_getElem? (i := 7) rfl) rfl) (by decide +kernel) y
set_option maxRecDepth 100000 in
theorem pg_o195 (y : Nat) : mm_Mo pg_T y pg_m195 := pg_mo_of pg_mk14 (pg_in6 (List.mem_of_getElem? (i := 239) rfl) rfl) (by decide +kernel) y
set_option maxRecDepth 100000 in
theorem pg_o196 (y : Nat) : mm_Mo pg_T y pg_m196 := pg_mo_of pg_mk14 (pg_in6 (List.mem_of_getElem? (i := 231) rfl) rfl) (by decide +kernel) y
set_option maxRecDepth 100000 in
theorem pg_o197 (y : Nat) : mm_Mo pg_T y pg_m197 := pg_mo_of pg_mk14 (pg_in6 (List.mem_of_getElem? (i := 187) rfl) rfl) (by decide +kernel) y
set_option maxRecDepth 100000 in
theorem pg_o198 (y : Nat) : mm_Mo pg_T y pg_m198 := pg_mo_of pg_mk14 (pg_in6 (List.mem_of_getElem? (i := 183) rfl) rfl) (by decide +kernel) y
set_option maxRecDepth 100000 in
theorem pg_o199 (y : Nat) : mm_Mo pg_T y pg_m199 := pg_mo_of pg_mk14 (pg_in6 (List.mem_of_getElem? (i := 235) rfl) rfl) (by decide +kernel) y
set_option maxRecDepth 100000 in
theorem pg_o200 (y : Nat) : mm_Mo pg_T y pg_m200 := pg_mo_of pg_mk14 (pg_in7 (List.mem_of_getElem? (i := 19) rfl) rfl) (by decide +kernel) y
set_option maxRecDepth 100000 in
theorem pg_o201 (y : Nat) : mm_Mo pg_T y pg_m201 := pg_mo_of pg_mk14 (pg_in7 (List.mem_of_getElem? (i := 23) rfl) rfl) (by decide +kernel) y
set_option maxRecDepth 100000 in
theorem pg_o202 (y : Nat) : mm_Mo pg_T y pg_m202 := pg_mo_of pg_mk14 (pg_in7 (List.mem_of_getElem? (i := 30) rfl) rfl) (by decide +kernel) y
set_option maxRecDepth 100000 in
theorem pg_o203 (y : Nat) : mm_Mo pg_T y pg_m203 := pg_mo_of pg_mk14 (pg_in6 (List.mem_of_getElem? (i := 180) rfl) rfl) (by decide +kernel) y
set_option maxRecDepth 100000 in
theorem pg_o204 (y : Nat) : mm_Mo pg_T y pg_m204 := pg_mo_of pg_mk14 (pg_in7 (List.mem_of_getElem? (i := 27) rfl) rfl) (by decide +kernel) y
set_option maxRecDepth 100000 in
theorem pg_o205 (y : Nat) : mm_Mo pg_T y pg_m205 := pg_mo_of pg_mk14 (pg_in7 (List.mem_of_getElem? (i := 34) rfl) rfl) (by decide +kernel) y
set_option maxRecDepth 100000 in
theorem pg_o206 (y : Nat) : mm_Mo pg_T y pg_m206 := pg_mo_of pg_mk14 (pg_in7 (List.mem_of_getElem? (i := 38) rfl) rfl) (by decide +kernel) y
set_option maxRecDepth 100000 in
theorem pg_o207 (y : Nat) : mm_Mo pg_T y pg_m207 := pg_mo_of pg_mk14 (pg_in7 (List.mem_of_getElem? (i := 46) rfl) rfl) (by decide +kernel) y
set_option maxRecDepth 100000 in
theorem pg_o208 (y : Nat) : mm_Mo pg_T y pg_m208 := pg_mo_of pg_mk14 (pg_in7 (List.mem_of_getElem? (i := 42) rfl) rfl) (by decide +kernel) y
set_option maxRecDepth 100000 in
theorem pg_o209 (y : Nat) : mm_Mo pg_T y pg_m209 := pg_mo_of pg_mk14 (pg_in7 (List.mem_of_getElem? (i := 54) rfl) rfl) (by decide +kernel) y
set_option maxRecDepth 100000 in
theorem pg_o210 (y : Nat) : mm_Mo pg_T y pg_m210 := pg_mo_of pg_mk14 (pg_in7 (List.mem_of_getElem? (i := 50) rfl) rfl) (by decide +kernel) y
set_option maxRecDepth 100000 in
theorem pg_o211 (y : Nat) : mm_Mo pg_T y pg_m211 := pg_mo_of pg_mk14 (pg_in6 (List.mem_of_getElem? (i := 224) rfl) rfl) (by decide +kernel) y
set_option maxRecDepth 100000 in
theorem pg_o212 (y : Nat) : mm_Mo pg_T y pg_m212 := pg_mo_of pg_mk14 (pg_in6 (List.mem_of_getElem? (i := 216) rfl) rfl) (by decide +kernel) y
set_option maxRecDepth 100000 in
theorem pg_o213 (y : Nat) : mm_Mo pg_T y pg_m213 := pg_mo_of pg_mk14 (pg_in6 (List.mem_of_getElem? (i := 220) rfl) rfl) (by decide +kernel) y
set_option maxRecDepth 100000 in
theorem pg_o214 (y : Nat) : mm_Mo pg_T y pg_m214 := pg_mo_of pg_mk14 (pg_in6 (List.mem_of_getElem? (i := 212) rfl) rfl) (by decide +kernel) y
set_option maxRecDepth 100000 in
theorem pg_o215 (y : Nat) : mm_Mo pg_T y pg_m215 := pg_mo_of pg_mk14 (pg_in6 (List.mem_of_getElem? (i := 176) rfl) rfl) (by decide +kernel) y
set_option maxRecDepth 100000 in
theorem pg_o216 (y : Nat) : mm_Mo pg_T y pg_m216 := pg_mo_of pg_mk14 (pg_in6 (List.mem_of_getElem? (i := 135) rfl) rfl) (by decide +kernel) y
set_option maxRecDepth 100000 in
theorem pg_o217 (y : Nat) : mm_Mo pg_T y pg_m217 := pg_mo_of pg_mk14 (pg_in6 (List.mem_of_getElem? (i := 130) rfl) rfl) (by decide +kernel) y
set_option maxRecDepth 100000 in
theorem pg_o218 (y : Nat) : mm_Mo pg_T y pg_m218 := pg_mo_of pg_mk14 (pg_in6 (List.mem_of_getElem? (i := 147) rfl) rfl) (by decide +kernel) y
set_option maxRecDepth 100000 in
theorem pg_o219 (y : Nat) : mm_Mo pg_T y pg_m219 := pg_mo_of pg_mk14 (pg_in6 (List.mem_of_getElem? (i := 151) rfl) rfl) (by decide +kernel) y
set_option maxRecDepth 100000 in
theorem pg_o220 (y : Nat) : mm_Mo pg_T y pg_m220 := pg_mo_of pg_mk14 (pg_in6 (List.mem_of_getElem? (i := 126) rfl) rfl) (by decide +kernel) y
set_option maxRecDepth 100000 in
theorem pg_o221 (y : Nat) : mm_Mo pg_T y pg_m221 := pg_mo_of pg_mk14 (pg_in7 (List.mem_of_getElem? (i := 71) rfl) rfl) (by decide +kernel) y
set_option maxRecDepth 100000 in
theorem pg_o222 (y : Nat) : mm_Mo pg_T y pg_m222 := pg_mo_of pg_mk14 (pg_in7 (List.mem_of_getElem? (i := 75) rfl) rfl) (by decide +kernel) y
set_option maxRecDepth 100000 in
theorem pg_o223 (y : Nat) : mm_Mo pg_T y pg_m223 := pg_mo_of pg_mk14 (pg_in7 (List.mem_of_getElem? (i := 78) rfl) rfl) (by decide +kernel) y
set_option maxRecDepth 100000 in
theorem pg_o224 (y : Nat) : mm_Mo pg_T y pg_m224 := pg_mo_of pg_mk14 (pg_in7 (List.mem_of_getElem? (i := 82) rfl) rfl) (by decide +kernel) y
set_option maxRecDepth 100000 in
theorem pg_o225 (y : Nat) : mm_Mo pg_T y pg_m225 := pg_mo_of pg_mk14 (pg_in7 (List.mem_of_getElem? (i := 90) rfl) rfl) (by decide +kernel) y
set_option maxRecDepth 100000 in
theorem pg_o226 (y : Nat) : mm_Mo pg_T y pg_m226 := pg_mo_of pg_mk14 (pg_in7 (List.mem_of_getElem? (i := 94) rfl) rfl) (by decide +kernel) y
set_option maxRecDepth 100000 in
theorem pg_o227 (y : Nat) : mm_Mo pg_T y pg_m227 := pg_mo_of pg_mk14 (pg_in7 (List.mem_of_getElem? (i := 98) rfl) rfl) (by decide +kernel) y
set_option maxRecDepth 100000 in
theorem pg_o228 (y : Nat) : mm_Mo pg_T y pg_m228 := pg_mo_of pg_mk14 (pg_in7 (List.mem_of_getElem? (i := 118) rfl) rfl) (by decide +kernel) y
set_option maxRecDepth 100000 in
theorem pg_o229 (y : Nat) : mm_Mo pg_T y pg_m229 := pg_mo_of pg_mk14 (pg_in7 (List.mem_of_getElem? (i := 110) rfl) rfl) (by decide +kernel) y
set_option maxRecDepth 100000 in
theorem pg_o230 (y : Nat) : mm_Mo pg_T y pg_m230 := pg_mo_of pg_mk14 (pg_in7 (List.mem_of_getElem? (i := 106) rfl) rfl) (by decide +kernel) y
set_option maxRecDepth 100000 in
theorem pg_o231 (y : Nat) : mm_Mo pg_T y pg_m231 := pg_mo_of pg_mk14 (pg_in7 (List.mem_of_getElem? (i := 114) rfl) rfl) (by decide +kernel) y
set_option maxRecDepth 100000 in
theorem pg_o232 (y : Nat) : mm_Mo pg_T y pg_m232 := pg_mo_of pg_mk14 (pg_in7 (List.mem_of_getElem? (i := 102) rfl) rfl) (by decide +kernel) y
set_option maxRecDepth 100000 in
theorem pg_o233 (y : Nat) : mm_Mo pg_T y pg_m233 := pg_mo_of pg_mk14 (pg_in7 (List.mem_of_getElem? (i := 67) rfl) rfl) (by decide +kernel) y
set_option maxRecDepth 100000 in
theorem pg_o234 (y : Nat) : mm_Mo pg_T y pg_m234 := pg_mo_of pg_mk14 (pg_in7 (List.mem_of_getElem? (i := 86) rfl) rfl) (by decide +kernel) y
set_option maxRecDepth 100000 in
theorem pg_o235 (y : Nat) : mm_Mo pg_T y pg_m235 := pg_mo_of pg_mk14 (pg_in7 (List.mem_of_getElem? (i := 63) rfl) rfl) (by decide +kernel) y
set_option maxRecDepth 100000 in
theorem pg_o236 (y : Nat) : mm_Mo pg_T y pg_m236 := pg_mo_of pg_mk14 (pg_in7 (List.mem_of_getElem? (i := 122) rfl) rfl) (by decide +kernel) y
set_option maxRecDepth 100000 in
theorem pg_o237 (y : Nat) : mm_Mo pg_T y pg_m237 := pg_mo_of pg_mk14 (pg_in7 (List.mem_of_getElem? (i := 126) rfl) rfl) (by decide +kernel) y
theorem pg_ec {P : mm_Mi → Prop} {a : mm_Mi} {l : List mm_Mi} (ha : P a) (h : ∀ q ∈ l, P q) : ∀ q ∈ a :: l, P q := List.forall_mem_cons.mpr ⟨ha, h⟩
theorem pg_moL : ∀ q ∈ pg_ms, ∀ y, mm_Mo pg_T y q := pg_ec pg_o0 (pg_ec pg_o1 (pg_ec pg_o2 (pg_ec pg_o3 (pg_ec pg_o4 (pg_ec pg_o5 (pg_ec pg_o6 (pg_ec pg_o7 (pg_ec pg_o8 (pg_ec pg_o9 (pg_ec pg_o10 (pg_ec pg_o11 (pg_ec pg_o12 (pg_ec pg_o13 (pg_ec pg_o14 (pg_ec pg_o15 (pg_ec pg_o16 (pg_ec pg_o17 (pg_ec pg_o18 (pg_ec pg_o19 (pg_ec pg_o20 (pg_ec pg_o21 (pg_ec pg_o22 (pg_ec pg_o23 (pg_ec pg_o24 (pg_ec pg_o25 (pg_ec pg_o26 (pg_ec pg_o27 (pg_ec pg_o28 (pg_ec pg_o29 (pg_ec pg_o30 (pg_ec pg_o31 (pg_ec pg_o32 (pg_ec pg_o33 (pg_ec pg_o34 (pg_ec pg_o35 (pg_ec pg_o36 (pg_ec pg_o37 (pg_ec pg_o38 (pg_ec pg_o39 (pg_ec pg_o40 (pg_ec pg_o41 (pg_ec pg_o42 (pg_ec pg_o43 (pg_ec pg_o44 (pg_ec pg_o45 (pg_ec pg_o46 (pg_ec pg_o47 (pg_ec pg_o48 (pg_ec pg_o49 (pg_ec pg_o50 (pg_ec pg_o51 (pg_ec pg_o52 (pg_ec pg_o53 (pg_ec pg_o54 (pg_ec pg_o55 (pg_ec pg_o56 (pg_ec pg_o57 (pg_ec pg_o58 (pg_ec pg_o59 (pg_ec pg_o60 (pg_ec pg_o61 (pg_ec pg_o62 (pg_ec pg_o63 (pg_ec pg_o64 (pg_ec pg_o65 (pg_ec pg_o66 (pg_ec pg_o67 (pg_ec pg_o68 (pg_ec pg_o69 (pg_ec pg_o70 (pg_ec pg_o71 (pg_ec pg_o72 (pg_ec pg_o73 (pg_ec pg_o74 (pg_ec pg_o75 (pg_ec pg_o76 (pg_ec pg_o77 (pg_ec pg_o78 (pg_ec pg_o79 (pg_ec pg_o80 (pg_ec pg_o81 (pg_ec pg_o82 (pg_ec pg_o83 (pg_ec pg_o84 (pg_ec pg_o85 (pg_ec pg_o86 (pg_ec pg_o87 (pg_ec pg_o88 (pg_ec pg_o89 (pg_ec pg_o90 (pg_ec pg_o91 (pg_ec pg_o92 (pg_ec pg_o93 (pg_ec pg_o94 (pg_ec pg_o95 (pg_ec pg_o96 (pg_ec pg_o97 (pg_ec pg_o98 (pg_ec pg_o99 (pg_ec pg_o100 (pg_ec pg_o101 (pg_ec pg_o102 (pg_ec pg_o103 (pg_ec pg_o104 (pg_ec pg_o105 (pg_ec pg_o106 (pg_ec pg_o107 (pg_ec pg_o108 (pg_ec pg_o109 (pg_ec pg_o110 (pg_ec pg_o111 (pg_ec pg_o112 (pg_ec pg_o113 (pg_ec pg_o114 (pg_ec pg_o115 (pg_ec pg_o116 (pg_ec pg_o117 (pg_ec pg_o118 (pg_ec pg_o119 (pg_ec pg_o120 (pg_ec pg_o121 (pg_ec pg_o122 (pg_ec pg_o123 (pg_ec pg_o124 (pg_ec pg_o125 (pg_ec pg_o126 (pg_ec pg_o127 (pg_ec pg_o128 (pg_ec pg_o129 (pg_ec pg_o130 (pg_ec pg_o131 (pg_ec pg_o132 (pg_ec pg_o133 (pg_ec pg_o134 (pg_ec pg_o135 (pg_ec pg_o136 (pg_ec pg_o137 (pg_ec pg_o138 (pg_ec pg_o139 (pg_ec pg_o140 (pg_ec pg_o141 (pg_ec pg_o142 (pg_ec pg_o143 (pg_ec pg_o144 (pg_ec pg_o145 (pg_ec pg_o146 (pg_ec pg_o147 (pg_ec pg_o148 (pg_ec pg_o149 (pg_ec pg_o150 (pg_ec pg_o151 (pg_ec pg_o152 (pg_ec pg_o153 (pg_ec pg_o154 (pg_ec pg_o155 (pg_ec pg_o156 (pg_ec pg_o157 (pg_ec pg_o158 (pg_ec pg_o159 (pg_ec pg_o160 (pg_ec pg_o161 (pg_ec pg_o162 (pg_ec pg_o163 (pg_ec pg_o164 (pg_ec pg_o165 (pg_ec pg_o166 (pg_ec pg_o167 (pg_ec pg_o168 (pg_ec pg_o169 (pg_ec pg_o170 (pg_ec pg_o171 (pg_ec pg_o172 (pg_ec pg_o173 (pg_ec pg_o174 (pg_ec pg_o175 (pg_ec pg_o176 (pg_ec pg_o177 (pg_ec pg_o178 (pg_ec pg_o179 (pg_ec pg_o180 (pg_ec pg_o181 (pg_ec pg_o182 (pg_ec pg_o183 (pg_ec pg_o184 (pg_ec pg_o185 (pg_ec pg_o186 (pg_ec pg_o187 (pg_ec pg_o188 (pg_ec pg_o189 (pg_ec pg_o190 (pg_ec pg_o191 (pg_ec pg_o192 (pg_ec pg_o193 (pg_ec pg_o194 (pg_ec pg_o195 (pg_ec pg_o196 (pg_ec pg_o197 (pg_ec pg_o198 (pg_ec pg_o199 (pg_ec pg_o200 (pg_ec pg_o201 (pg_ec pg_o202 (pg_ec pg_o203 (pg_ec pg_o204 (pg_ec pg_o205 (pg_ec pg_o206 (pg_ec pg_o207 (pg_ec pg_o208 (pg_ec pg_o209 (pg_ec pg_o210 (pg_ec pg_o211 (pg_ec pg_o212 (pg_ec pg_o213 (pg_ec pg_o214 (pg_ec pg_o215 (pg_ec pg_o216 (pg_ec pg_o217 (pg_ec pg_o218 (pg_ec pg_o219 (pg_ec pg_o220 (pg_ec pg_o221 (pg_ec pg_o222 (pg_ec pg_o223 (pg_ec pg_o224 (pg_ec pg_o225 (pg_ec pg_o226 (pg_ec pg_o227 (pg_ec pg_o228 (pg_ec pg_o229 (pg_ec pg_o230 (pg_ec pg_o231 (pg_ec pg_o232 (pg_ec pg_o233 (pg_ec pg_o234 (pg_ec pg_o235 (pg_ec pg_o236 (pg_ec pg_o237 (fun q h => by cases h))))))))))))))))))))))))))))))))))))))))))))))))))))))))))))))))))))))))))))))))))))))))))))))))))))))))))))))))))))))))))))))))))))))))))))))))))))))))))))))))))))))))))))))))))))))))))))))))))))))))))))))))))))))))))))))))))))))))))))))
theorem pg_Mo : ∀ y q, pg_mt y = some q → mm_Mo pg_T y q := fun y q h => pg_moL q (List.mem_of_getElem? h) y
theorem pg_oi : Cond.instanceMethod objectInit ∈ pg_T := pg_in1 (List.mem_of_getElem? (i := 24) rfl) rfl
theorem pg_oc : Cond.code objectInit ⟨#[0xb1]⟩ 1 none ∈ pg_T := pg_in1 (List.mem_of_getElem? (i := 25) (by decide +kernel)) rfl
theorem pg_mx : Cond.code Lib.Math.max.name Lib.Math.max.code 2 (some .int) ∈ pg_T := pg_in2 (List.mem_of_getElem? (i := 239) (by decide +kernel)) rfl
theorem pg_mn : Cond.code Lib.Math.min.name Lib.Math.min.code 2 (some .int) ∈ pg_T := pg_in4 (List.mem_of_getElem? (i := 181) (by decide +kernel)) rfl
