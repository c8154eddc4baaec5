/-! What holds from the start on and is never written: constants, tables, texts. -/
abbrev q_nS : List String := ["ABSENT", "READY", "RUNNING", "FINISHED", "WITHDRAWN"]
abbrev q_nF : List String := ["NONE", "INDEX", "ARGUMENT", "STATE", "REFUSED"]
abbrev q_nV : List String := ["START", "RUN", "PASS", "DROP", "QUIT", "PROTEST", "SPEED", "DRAW"]
abbrev q_fS : List (String × String × String × List Int32) := [("QuillRelay$Stage", "rankGroup", "I", [3, 1, 1, 0, 2])]
abbrev q_fV : List (String × String × String × List Int32) := [("java/lang/Enum", "ordinal", "I", [0, 1, 2, 3, 4, 5, 6, 7])]
/-- the texts: the eight patterns, then the law's words -/
abbrev q_sl : List Nat := [5, 5, 6, 8, 6, 11, 11, 6, 4, 6, 6, 1, 9, 1, 6, 1]
abbrev q_sb : List (List Int32) := [[115, 116, 97, 114, 116], [114, 117, 110, 32, 78], [112, 97, 115, 115, 32, 68], [100, 114, 111, 112, 32, 68, 32, 78], [113, 117, 105, 116, 32, 68], [112, 114, 111, 116, 101, 115, 116, 32, 68, 68, 75], [115, 112, 101, 101, 100, 32, 68, 32, 68, 32, 78], [100, 114, 97, 119, 32, 78], [114, 117, 110, 32], [59, 112, 97, 115, 115, 32], [59, 100, 114, 111, 112, 32], [32], [59, 112, 114, 111, 116, 101, 115, 116, 32], [100], [59, 113, 117, 105, 116, 32], [108]]
/-- the law's words: where its class names them -/
abbrev q_mk : List (Nat × String) := [(157, "run "), (166, ";pass "), (172, ";drop "), (174, " "), (176, ";protest "), (178, "d"), (180, ";quit "), (182, "l")]
abbrev q_msg : List (Nat × String) := [(345, "no such team or leg"), (350, "an argument is out of range"), (355, "not possible in this state"), (360, "the pass is refused"), (365, "no such team"), (171, "no team in this lane"), (370, "no such leg"), (207, "no such kind of foul"), (216, "the leg has not ended"), (375, "the team has not finished"), (238, "no such rank"), (248, "no team has finished"), (377, "the number of seconds is out of range"), (263, "the team is not running"), (268, "the last runner carries the quill"), (302, "the character is not from 32 to 126"), (307, "the buffer is full"), (315, "the program is malformed"), (317, "a command failed"), (329, "nothing can be undone"), (337, "there is no snapshot")]
abbrev q_NW : List Cond := [.methodLinkNest "QuillRelay$Team" (34 : Nat) ⟨"QuillRelay", "copyRow", "([I[I)V"⟩ "QuillRelay", .methodLinkNest "QuillRelay$Team" (66 : Nat) ⟨"QuillRelay", "at", "([II)I"⟩ "QuillRelay", .methodLinkNest "QuillRelay$Team" (88 : Nat) ⟨"QuillRelay", "pace", "(II)I"⟩ "QuillRelay", .methodLinkNest "QuillRelay$Team" (70 : Nat) ⟨"QuillRelay", "put", "([III)V"⟩ "QuillRelay", .methodLinkNest "QuillRelay$Race" (106 : Nat) ⟨"QuillRelay", "isKind", "(I)Z"⟩ "QuillRelay", .methodLinkNest "QuillRelay$Race" (88 : Nat) ⟨"QuillRelay", "isLeg", "(I)Z"⟩ "QuillRelay"]
abbrev q_XW : List Cond := [.castable "java/lang/IndexOutOfBoundsException" "java/lang/IndexOutOfBoundsException", .castable "java/lang/IllegalArgumentException" "java/lang/IllegalArgumentException", .castable "java/lang/IllegalStateException" "java/lang/IllegalStateException", .castable "java/lang/UnsupportedOperationException" "java/lang/UnsupportedOperationException", .castable "java/lang/ArrayIndexOutOfBoundsException" "java/lang/ArrayIndexOutOfBoundsException", .castable "java/util/NoSuchElementException" "java/util/NoSuchElementException", .castable "java/lang/ArithmeticException" "java/lang/ArithmeticException", .castable "[B" "java/lang/Cloneable", .castable "java/lang/ArrayIndexOutOfBoundsException" "java/lang/IndexOutOfBoundsException", .castable "java/lang/StringIndexOutOfBoundsException" "java/lang/IndexOutOfBoundsException", .castable "QuillRelay" "java/lang/Object", .castable "QuillRelay$Race" "java/lang/Object", .castable "QuillRelay$Team" "java/lang/Object", .castable "QuillRelay$Stage" "java/lang/Object", .castable "QuillRelay$History" "java/lang/Object", .castable "QuillRelay$Program" "java/lang/Object", .castable "java/lang/StringBuilder" "java/lang/Object", .castable "QuillRelay$Verb" "java/lang/Object", .castable "QuillRelay$Fault" "java/lang/Object", .castable "java/lang/IndexOutOfBoundsException" "java/lang/Object", .castable "java/lang/IllegalArgumentException" "java/lang/Object", .castable "java/lang/IllegalStateException" "java/lang/Object", .castable "java/lang/UnsupportedOperationException" "java/lang/Object", .castable "java/lang/ArrayIndexOutOfBoundsException" "java/lang/Object", .castable "java/util/NoSuchElementException" "java/lang/Object", .castable "java/lang/ArithmeticException" "java/lang/Object", .castable "java/lang/StringIndexOutOfBoundsException" "java/lang/Object", .castable "java/lang/String" "java/lang/Object", .castable "java/lang/Throwable" "java/lang/Object", .declares ⟨"java/lang/RuntimeException", "<init>", "()V"⟩, .declares ⟨"java/lang/RuntimeException", "<init>", "(Ljava/lang/String;)V"⟩, .declares ⟨"java/lang/Exception", "<init>", "()V"⟩, .declares ⟨"java/lang/Exception", "<init>", "(Ljava/lang/String;)V"⟩, .declares ⟨"java/lang/Throwable", "<init>", "()V"⟩, .declares ⟨"java/lang/Throwable", "<init>", "(Ljava/lang/String;)V"⟩, .declares ⟨"java/lang/IndexOutOfBoundsException", "<init>", "()V"⟩, .declares ⟨"java/lang/IndexOutOfBoundsException", "<init>", "(Ljava/lang/String;)V"⟩, .declares ⟨"java/lang/Enum", "ordinal", "()I"⟩, .selects "java/lang/StringBuilder" ⟨"java/lang/AbstractStringBuilder", "ensureCapacityInternal", "(I)V"⟩ ⟨"java/lang/AbstractStringBuilder", "ensureCapacityInternal", "(I)V"⟩, .selects "java/lang/StringBuilder" ⟨"java/lang/AbstractStringBuilder", "newCapacity", "(I)I"⟩ ⟨"java/lang/AbstractStringBuilder", "newCapacity", "(I)I"⟩, .selects "java/lang/StringBuilder" ⟨"java/lang/AbstractStringBuilder", "putStringAt", "(ILjava/lang/String;)V"⟩ ⟨"java/lang/AbstractStringBuilder", "putStringAt", "(ILjava/lang/String;)V"⟩, .selects "java/lang/StringBuilder" ⟨"java/lang/AbstractStringBuilder", "inflateIfNeededFor", "(Ljava/lang/String;)V"⟩ ⟨"java/lang/AbstractStringBuilder", "inflateIfNeededFor", "(Ljava/lang/String;)V"⟩]
abbrev q_XS : List String := ["java/lang/IllegalStateException", "java/lang/IndexOutOfBoundsException", "java/lang/IllegalArgumentException", "java/lang/UnsupportedOperationException", "java/util/NoSuchElementException"]
def q_ET (α : Nat → Nat) (U : State) : Prop := (∀ i, i < 8 → vk_R RL (q_mk.getD i (0, "")).1 (q_mk.getD i (0, "")).2 (α (348 + i)) U) ∧ (∀ q ∈ q_msg, ∃ a, vk_R RX8 q.1 q.2 a U) ∧ (∀ w ∈ q_NW, va_Nw w U) ∧ (∀ a ∈ q_XS, ∀ b ∈ q_XS, a ≠ b → va_Nc a b U) ∧ (∀ w ∈ q_XW, va_Nw w U)
/-- the script's numbers -/
def q_scr (α : Nat → Nat) (i : Nat) : Int32 := Int32.ofNat (α (1000 + i))
/-- a text made by the law, and the script -/
def q_TX (α : Nat → Nat) (A : Nat → Prop) (U : State) (H : Heap) : Prop :=
  vk_S 1 [α 700] [(List.range (α 700)).map (fun i => nI (α (701 + i)))] (fun _ => α 356) (fun _ => α 376) A U H ∧ α 700 ≤ 100 ∧ (∀ i, i < 100 → α (701 + i) < 128) ∧
  va_T .int (α 335) (α 336) (fun i => .int (q_scr α i)) A U H ∧ α 336 ≤ 260 ∧ α 329 ≤ 90
/-- what the library's texts read: statics and the digits; the formatter is null or some place; the text and the script -/
def q_EJ (α : Nat → Nat) (A : Nat → Prop) (U : State) (H : Heap) : Prop :=
  va_Z "java/lang/String" "COMPACT_STRINGS" "Z" (.int 1) A U H ∧
  va_Z "java/lang/Integer" "DigitOnes" "[B" (.ref (α 332)) A U H ∧ va_T .byte (α 332) 100 (fun i => .int (nI (48 + i % 10))) A U H ∧
  va_Z "java/lang/Integer" "DigitTens" "[B" (.ref (α 333)) A U H ∧ va_T .byte (α 333) 100 (fun i => .int (nI (48 + i / 10))) A U H ∧
  (va_Z "jdk/internal/util/Preconditions" "SIOOBE_FORMATTER" "Ljava/util/function/BiFunction;" .null A U H ∨ va_Z "jdk/internal/util/Preconditions" "SIOOBE_FORMATTER" "Ljava/util/function/BiFunction;" (.ref (α 334)) A U H) ∧ q_TX α A U H
theorem q_EJ.moved {α : Nat → Nat} {A : Nat → Prop} {u U : State} {H : Heap} (hvm : u.vm.Alike U.vm) (h : q_EJ α A u H) : q_EJ α A U H := by
  obtain ⟨h1, h2, h3, h4, h5, h6, t1, t2, t3, t4, t5⟩ := h
  exact ⟨h1.moved hvm, h2.moved hvm, h3.moved hvm, h4.moved hvm, h5.moved hvm, h6.elim (fun q => Or.inl (va_Z.moved hvm q)) (fun q => Or.inr (va_Z.moved hvm q)), t1.moved hvm, t2, t3, t4.moved hvm, t5⟩
theorem q_EJ.kept {α : Nat → Nat} {A : Nat → Prop} {U : State} {H H1 : Heap} (h : q_EJ α A U H) (hq : ∀ a : Nat, a < H.size → ¬ A a → H1[a]? = H[a]?) : q_EJ α A U H1 := by
  obtain ⟨h1, h2, h3, h4, h5, h6, t1, t2, t3, t4, t5⟩ := h
  exact ⟨h1.kept hq, h2.kept hq, h3.kept hq, h4.kept hq, h5.kept hq, h6.elim (fun q => Or.inl (q.kept hq)) (fun q => Or.inr (q.kept hq)), t1.kept hq, t2, t3, t4.kept hq, t5⟩
theorem q_EJ.narrow {α : Nat → Nat} {A B : Nat → Prop} {U : State} {H : Heap} (h : q_EJ α A U H) (hAB : ∀ q, B q → A q) : q_EJ α B U H := by
  obtain ⟨h1, h2, h3, h4, h5, h6, t1, t2, t3, t4, t5⟩ := h
  exact ⟨h1.narrow hAB, h2.narrow hAB, h3.narrow hAB, h4.narrow hAB, h5.narrow hAB, h6.elim (fun q => Or.inl (q.narrow hAB)) (fun q => Or.inr (q.narrow hAB)), t1.narrow hAB, t2, t3, t4.narrow hAB, t5⟩
def q_EF (α β : Nat → Nat) (A : Nat → Prop) (U : State) (H : Heap) : Prop :=
  va_En RX5 "LQuillRelay$Stage;" q_nS q_fS (fun i => β i) A U H ∧ va_En RX1 "LQuillRelay$Fault;" q_nF [] (fun i => β (10 + i)) A U H ∧ va_En RX7 "LQuillRelay$Verb;" q_nV q_fV (fun i => β (20 + i)) A U H ∧ (∀ i j, β i = β j → i = j) ∧
  va_Ef 8 RX7 "pattern" "Ljava/lang/String;" (fun i => .ref (α (340 + i))) (fun i => β (20 + i)) A U H ∧
  va_Z RX3 "VERBS" "[LQuillRelay$Verb;" (.ref (α 330)) A U H ∧ va_T (.object RX7) (α 330) 8 (fun i => .ref (β (20 + i))) A U H ∧
  va_Z RX0 "$SwitchMap$QuillRelay$Verb" "[I" (.ref (α 331)) A U H ∧ va_T .int (α 331) 8 (fun i => .int (nI ((i + 1) % 8))) A U H ∧
  (vk_S 16 q_sl q_sb (fun i => α (340 + i)) (fun i => α (360 + i)) A U H ∧ q_EJ α A U H) ∧
  vx_Zq Bundle.tN "UNASSIGNED_STACK" Bundle.steD A U H ∧ vx_Zq Bundle.tN "SUPPRESSED_SENTINEL" Bundle.listD A U H ∧ q_ET α U
theorem q_ET.mv {α : Nat → Nat} {u U : State} (hW : u.WarmedH U.vm) (h : q_ET α u) : q_ET α U := by
  obtain ⟨h1, h2, h3, h4, h5⟩ := h
  refine ⟨fun i hi => (h1 i hi).warm hW, fun q hq => ?_, ?_, fun a ha b hb hab => (h4 a ha b hb hab).moved hW.alike, ?_⟩
  · obtain ⟨a, ha⟩ := h2 q hq
    exact ⟨a, ha.warm hW⟩
  · intro w hw
    have hz := h3 w hw
    simp only [q_NW, List.mem_cons, List.not_mem_nil, or_false] at hw
    rcases hw with rfl | rfl | rfl | rfl | rfl | rfl <;> exact va_Nw.warmM hW hz
  · intro w hw
    have hz := h5 w hw
    simp only [q_XW, List.mem_cons, List.not_mem_nil, or_false] at hw
    rcases hw with rfl | rfl | rfl | rfl | rfl | rfl | rfl | rfl | rfl | rfl | rfl | rfl | rfl | rfl | rfl | rfl | rfl | rfl | rfl | rfl | rfl | rfl | rfl | rfl | rfl | rfl | rfl | rfl | rfl | rfl | rfl | rfl | rfl | rfl | rfl | rfl | rfl | rfl | rfl | rfl | rfl | rfl <;> first | exact va_Nw.warmC hW hz | exact va_Nw.warmD hW hz | exact word_at hW (Or.inl (by decide +kernel)) hz
theorem q_EF.mv {α β : Nat → Nat} {A : Nat → Prop} {u U : State} {H : Heap} (hW : u.WarmedH U.vm) (h : q_EF α β A u H) : q_EF α β A U H := by
  obtain ⟨h1, h2, h3, h4, h5, h6, h7, h8, h9, h10, h11, h12, h13⟩ := h
  exact ⟨h1.moved hW.alike, h2.moved hW.alike, h3.moved hW.alike, h4, h5.moved hW.alike, h6.moved hW.alike, h7.moved hW.alike, h8.moved hW.alike, h9.moved hW.alike, ⟨h10.1.moved hW.alike, h10.2.moved hW.alike⟩, h11.moved hW.alike, h12.moved hW.alike, h13.mv hW⟩
theorem q_EF.kp {α β : Nat → Nat} {A : Nat → Prop} {U : State} {H H1 : Heap} (hq : ∀ a : Nat, a < H.size → ¬ A a → H1[a]? = H[a]?) (h : q_EF α β A U H) : q_EF α β A U H1 := by
  obtain ⟨h1, h2, h3, h4, h5, h6, h7, h8, h9, h10, h11, h12, h13⟩ := h
  exact ⟨h1.kept hq, h2.kept hq, h3.kept hq, h4, h5.kept hq, h6.kept hq, h7.kept hq, h8.kept hq, h9.kept hq, ⟨h10.1.kept hq, h10.2.kept hq⟩, h11.kept hq, h12.kept hq, h13⟩
theorem q_EF.nr {α β : Nat → Nat} {A B : Nat → Prop} {U : State} {H : Heap} (hAB : ∀ q, B q → A q) (h : q_EF α β A U H) : q_EF α β B U H := by
  obtain ⟨h1, h2, h3, h4, h5, h6, h7, h8, h9, h10, h11, h12, h13⟩ := h
  exact ⟨h1.narrow hAB, h2.narrow hAB, h3.narrow hAB, h4, h5.narrow hAB, h6.narrow hAB, h7.narrow hAB, h8.narrow hAB, h9.narrow hAB, ⟨h10.1.narrow hAB, h10.2.narrow hAB⟩, h11.narrow hAB, h12.narrow hAB, h13⟩
