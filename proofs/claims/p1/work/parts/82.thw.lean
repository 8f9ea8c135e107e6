/-! the throwing roads: what is known of the exceptions -/
abbrev th_T : String := "java/lang/Throwable"
abbrev th_d1 : String := "[Ljava/lang/StackTraceElement;"
abbrev th_d2 : String := "Ljava/util/List;"
abbrev th_r1 : Jvm.Cond := .isRef (.static th_T "UNASSIGNED_STACK" th_d1)
abbrev th_r2 : Jvm.Cond := .isRef (.static th_T "SUPPRESSED_SENTINEL" th_d2)
abbrev th_l1 : Jvm.Cond := .laysStatic th_T "UNASSIGNED_STACK" th_d1
abbrev th_l2 : Jvm.Cond := .laysStatic th_T "SUPPRESSED_SENTINEL" th_d2
abbrev th_A : String := "java/lang/IllegalArgumentException"
abbrev th_B : String := "java/lang/IndexOutOfBoundsException"
abbrev th_ns : List String := ["java/lang/RuntimeException", "java/lang/Exception"]
/-- words that every table alike has too -/
def th_dc : List Jvm.Cond := [.declares ⟨"java/lang/RuntimeException", "<init>", "(Ljava/lang/String;)V"⟩, .declares ⟨"java/lang/Exception", "<init>", "(Ljava/lang/String;)V"⟩, .declares ⟨"java/lang/Throwable", "<init>", "(Ljava/lang/String;)V"⟩, .castable th_A th_A, .castable th_B th_B]
set_option maxRecDepth 100000 in
theorem th_w1 : (Bundle.ownAtoms "ListSpeaker" 96 th_A th_ns).all (fun w => decide (w ∈ mj_WS) || (decide (w ∈ th_dc) || (decide (w ∈ [th_l1, th_l2, th_r1, th_r2])))) = true := by decide +kernel
set_option maxRecDepth 100000 in
theorem th_w2 : (Bundle.ownAtoms "ListSpeaker" 122 th_B th_ns).all (fun w => decide (w ∈ mj_WS) || (decide (w ∈ th_dc) || (decide (w ∈ [th_l1, th_l2, th_r1, th_r2])))) = true := by decide +kernel
