/-! What the tables say: methods, references, fields; each method by its list of instructions. -/
set_option maxRecDepth 100000 in
theorem q_t1 (i : Nat) {w : Cond} (h : tables_1_1[i]? = some w) (g : goodWord w = true) : w ∈ q_W := q_W_in (List.mem_append_right (k2_sels lw_privs) (show w ∈ tables_1 from List.mem_append_left _ (List.mem_of_getElem? h))) g
set_option maxRecDepth 100000 in
theorem q_t2 (i : Nat) {w : Cond} (h : tables_1_2[i]? = some w) (g : goodWord w = true) : w ∈ q_W := q_W_in (List.mem_append_right (k2_sels lw_privs) (show w ∈ tables_1 from List.mem_append_right _ (List.mem_append_left _ (List.mem_of_getElem? h)))) g
set_option maxRecDepth 100000 in
theorem q_t3 (i : Nat) {w : Cond} (h : tables_1_3[i]? = some w) (g : goodWord w = true) : w ∈ q_W := q_W_in (List.mem_append_right (k2_sels lw_privs) (show w ∈ tables_1 from List.mem_append_right _ (List.mem_append_right _ (List.mem_append_left _ (List.mem_of_getElem? h))))) g
set_option maxRecDepth 100000 in
theorem q_t4 (i : Nat) {w : Cond} (h : tables_1_4[i]? = some w) (g : goodWord w = true) : w ∈ q_W := q_W_in (List.mem_append_right (k2_sels lw_privs) (show w ∈ tables_1 from List.mem_append_right _ (List.mem_append_right _ (List.mem_append_right _ (List.mem_append_left _ (List.mem_of_getElem? h)))))) g
set_option maxRecDepth 100000 in
theorem q_t5 (i : Nat) {w : Cond} (h : tables_1_5[i]? = some w) (g : goodWord w = true) : w ∈ q_W := q_W_in (List.mem_append_right (k2_sels lw_privs) (show w ∈ tables_1 from List.mem_append_right _ (List.mem_append_right _ (List.mem_append_right _ (List.mem_append_right _ (List.mem_append_left _ (List.mem_of_getElem? h))))))) g
set_option maxRecDepth 100000 in
theorem q_t6 (i : Nat) {w : Cond} (h : tables_1_6[i]? = some w) (g : goodWord w = true) : w ∈ q_W := q_W_in (List.mem_append_right (k2_sels lw_privs) (show w ∈ tables_1 from List.mem_append_right _ (List.mem_append_right _ (List.mem_append_right _ (List.mem_append_right _ (List.mem_append_right _ (List.mem_of_getElem? h))))))) g
set_option maxRecDepth 100000 in
theorem q_s (j : Nat) {q : MethodName × Nat} (h : lw_privs[j]? = some q) (g : goodWord (Cond.selects q.1.cls q.1 q.1) = true) : Cond.selects q.1.cls q.1 q.1 ∈ q_W := q_W_in (List.mem_append_left _ (List.mem_map.mpr ⟨q, List.mem_of_getElem? h, rfl⟩)) g
set_option maxRecDepth 100000 in
theorem q_init_QuillRelayLaw : Cond.initialized "QuillRelayLaw" ∈ q_W := q_t1 0 rfl rfl
set_option maxRecDepth 100000 in
theorem q_init_QuillRelay : Cond.initialized "QuillRelay" ∈ q_W := q_t1 1 rfl rfl
set_option maxRecDepth 100000 in
theorem q_init_QuillRelay_Race : Cond.initialized "QuillRelay$Race" ∈ q_W := q_t1 2 rfl rfl
set_option maxRecDepth 100000 in
theorem q_init_QuillRelay_Team : Cond.initialized "QuillRelay$Team" ∈ q_W := q_t1 3 rfl rfl
set_option maxRecDepth 100000 in
theorem q_init_java_lang_Enum : Cond.initialized "java/lang/Enum" ∈ q_W := q_t1 4 rfl rfl
set_option maxRecDepth 100000 in
theorem q_init_QuillRelay_History : Cond.initialized "QuillRelay$History" ∈ q_W := q_t1 6 rfl rfl
set_option maxRecDepth 100000 in
theorem q_init_QuillRelay_Program : Cond.initialized "QuillRelay$Program" ∈ q_W := q_t1 7 rfl rfl
set_option maxRecDepth 100000 in
theorem q_init_java_lang_AbstractStringBuilder : Cond.initialized "java/lang/AbstractStringBuilder" ∈ q_W := q_t1 8 rfl rfl
set_option maxRecDepth 100000 in
theorem q_init_java_lang_StringBuilder : Cond.initialized "java/lang/StringBuilder" ∈ q_W := q_t1 9 rfl rfl
set_option maxRecDepth 100000 in
theorem q_init_java_lang_String : Cond.initialized "java/lang/String" ∈ q_W := q_t1 10 rfl rfl
set_option maxRecDepth 100000 in
theorem q_init_java_lang_StringUTF16 : Cond.initialized "java/lang/StringUTF16" ∈ q_W := q_t1 11 rfl rfl
set_option maxRecDepth 100000 in
theorem q_init_java_lang_Throwable : Cond.initialized "java/lang/Throwable" ∈ q_W := q_t1 14 rfl rfl
set_option maxRecDepth 100000 in
theorem q_init_java_lang_Exception : Cond.initialized "java/lang/Exception" ∈ q_W := q_t1 15 rfl rfl
set_option maxRecDepth 100000 in
theorem q_init_java_lang_RuntimeException : Cond.initialized "java/lang/RuntimeException" ∈ q_W := q_t1 16 rfl rfl
set_option maxRecDepth 100000 in
theorem q_init_java_lang_IndexOutOfBoundsException : Cond.initialized "java/lang/IndexOutOfBoundsException" ∈ q_W := q_t1 17 rfl rfl
set_option maxRecDepth 100000 in
theorem q_init_java_lang_IllegalArgumentException : Cond.initialized "java/lang/IllegalArgumentException" ∈ q_W := q_t1 18 rfl rfl
set_option maxRecDepth 100000 in
theorem q_init_java_lang_IllegalStateException : Cond.initialized "java/lang/IllegalStateException" ∈ q_W := q_t1 19 rfl rfl
set_option maxRecDepth 100000 in
theorem q_init_java_lang_UnsupportedOperationException : Cond.initialized "java/lang/UnsupportedOperationException" ∈ q_W := q_t1 20 rfl rfl
set_option maxRecDepth 100000 in
theorem q_init_java_lang_Math : Cond.initialized "java/lang/Math" ∈ q_W := q_t1 21 rfl rfl
set_option maxRecDepth 100000 in
theorem q_init_java_lang_ArrayIndexOutOfBoundsException : Cond.initialized "java/lang/ArrayIndexOutOfBoundsException" ∈ q_W := q_t1 22 rfl rfl
set_option maxRecDepth 100000 in
theorem q_init_java_lang_ArithmeticException : Cond.initialized "java/lang/ArithmeticException" ∈ q_W := q_t1 24 rfl rfl
set_option maxRecDepth 100000 in
theorem q_init_java_lang_System : Cond.initialized "java/lang/System" ∈ q_W := q_t1 27 rfl rfl
set_option maxRecDepth 100000 in
theorem q_init_java_lang_StringLatin1 : Cond.initialized "java/lang/StringLatin1" ∈ q_W := q_t1 29 rfl rfl
set_option maxRecDepth 100000 in
theorem q_init_java_lang_Number : Cond.initialized "java/lang/Number" ∈ q_W := q_t1 30 rfl rfl
set_option maxRecDepth 100000 in
theorem q_init_java_lang_Integer : Cond.initialized "java/lang/Integer" ∈ q_W := q_t1 31 rfl rfl
set_option maxRecDepth 100000 in
theorem q_init_java_lang_StringIndexOutOfBoundsException : Cond.initialized "java/lang/StringIndexOutOfBoundsException" ∈ q_W := q_t1 33 rfl rfl
def F_X2 : Nat → Option (Nat × Nat)
  | 11 => some (4, 0)
  | 18 => some (4, 1)
  | 26 => some (4, 2)
  | _ => none
def G_X2 : Nat → Option Int32
  | _ => none
def F_X3 : Nat → Option (Nat × Nat)
  | 12 => some (5, 0)
  | 18 => some (5, 1)
  | 28 => some (5, 5)
  | 34 => some (5, 4)
  | 46 => some (5, 3)
  | 71 => some (5, 2)
  | _ => none
def G_X3 : Nat → Option Int32
  | 22 => some 20
  | _ => none
def F_X4 : Nat → Option (Nat × Nat)
  | 11 => some (6, 0)
  | 20 => some (6, 3)
  | 28 => some (6, 1)
  | 32 => some (6, 2)
  | 35 => some (7, 3)
  | 54 => some (7, 11)
  | 57 => some (7, 4)
  | 60 => some (7, 0)
  | 123 => some (7, 5)
  | 130 => some (7, 12)
  | 136 => some (7, 6)
  | 139 => some (7, 7)
  | 145 => some (7, 13)
  | 148 => some (7, 8)
  | 157 => some (7, 9)
  | _ => none
def G_X4 : Nat → Option Int32
  | 39 => some 0
  | 48 => some 2
  | 51 => some 3
  | 75 => some 13
  | 81 => some 10
  | 92 => some 11
  | 95 => some 12
  | 109 => some 1
  | _ => none
def F_X6 : Nat → Option (Nat × Nat)
  | 9 => some (7, 0)
  | 15 => some (7, 1)
  | 19 => some (7, 2)
  | 28 => some (7, 3)
  | 31 => some (7, 4)
  | 38 => some (7, 5)
  | 41 => some (7, 6)
  | 44 => some (7, 7)
  | 47 => some (7, 8)
  | 50 => some (7, 9)
  | 53 => some (7, 10)
  | 56 => some (7, 11)
  | 59 => some (7, 12)
  | 63 => some (7, 13)
  | _ => none
def G_X6 : Nat → Option Int32
  | 22 => some 0
  | 82 => some 3
  | _ => none
def F_X8 : Nat → Option (Nat × Nat)
  | 10 => some (8, 0)
  | 16 => some (8, 1)
  | 19 => some (8, 2)
  | 25 => some (8, 3)
  | 32 => some (8, 4)
  | 39 => some (8, 5)
  | 43 => some (8, 6)
  | 47 => some (8, 7)
  | 51 => some (8, 8)
  | 54 => some (8, 9)
  | 57 => some (8, 10)
  | 94 => some (6, 3)
  | 104 => some (7, 4)
  | 147 => some (7, 3)
  | 160 => some (6, 1)
  | 163 => some (6, 2)
  | 183 => some (7, 5)
  | 186 => some (7, 6)
  | 196 => some (7, 8)
  | 199 => some (7, 9)
  | 218 => some (7, 2)
  | 229 => some (7, 11)
  | 304 => some (5, 0)
  | 319 => some (5, 4)
  | 326 => some (4, 2)
  | 392 => some (5, 1)
  | 395 => some (5, 5)
  | _ => none
def G_X8 : Nat → Option Int32
  | 141 => some 4
  | 189 => some 2
  | 339 => some 11
  | 347 => some 12
  | 352 => some 13
  | 357 => some 14
  | 372 => some 3
  | 382 => some 10
  | _ => none
set_option maxRecDepth 100000 in
theorem q_u_X2 : ∀ w ∈ u_ws RX2 TX2 3, w ∈ q_W := fun w h => q_W_in ((by decide +kernel : ∀ w ∈ u_ws RX2 TX2 3, w ∈ lw_tbl) w h) ((by decide +kernel : ∀ w ∈ u_ws RX2 TX2 3, goodWord w = true) w h)
set_option maxRecDepth 100000 in
theorem q_u_X3 : ∀ w ∈ u_ws RX3 TX3 6, w ∈ q_W := fun w h => q_W_in ((by decide +kernel : ∀ w ∈ u_ws RX3 TX3 6, w ∈ lw_tbl) w h) ((by decide +kernel : ∀ w ∈ u_ws RX3 TX3 6, goodWord w = true) w h)
set_option maxRecDepth 100000 in
theorem q_u_X4 : ∀ w ∈ u_ws RX4 TX4 4, w ∈ q_W := fun w h => q_W_in ((by decide +kernel : ∀ w ∈ u_ws RX4 TX4 4, w ∈ lw_tbl) w h) ((by decide +kernel : ∀ w ∈ u_ws RX4 TX4 4, goodWord w = true) w h)
set_option maxRecDepth 100000 in
theorem q_u_X6 : ∀ w ∈ u_ws RX6 TX6 14, w ∈ q_W := fun w h => q_W_in ((by decide +kernel : ∀ w ∈ u_ws RX6 TX6 14, w ∈ lw_tbl) w h) ((by decide +kernel : ∀ w ∈ u_ws RX6 TX6 14, goodWord w = true) w h)
set_option maxRecDepth 100000 in
theorem q_u_X8 : ∀ w ∈ u_ws RX8 TX8 11, w ∈ q_W := fun w h => q_W_in ((by decide +kernel : ∀ w ∈ u_ws RX8 TX8 11, w ∈ lw_tbl) w h) ((by decide +kernel : ∀ w ∈ u_ws RX8 TX8 11, goodWord w = true) w h)
set_option maxRecDepth 100000 in
theorem Fok_X2 : q_Fok RX2 F_X2 := by
  intro i a b h
  unfold F_X2 at h
  split at h
  · cases h; exact ⟨_, _, _, rfl, by decide, rfl, by decide, by decide, q_u_X2, q_t4 224 rfl rfl⟩
  · cases h; exact ⟨_, _, _, rfl, by decide, rfl, by decide, by decide, q_u_X2, q_t4 225 rfl rfl⟩
  · cases h; exact ⟨_, _, _, rfl, by decide, rfl, by decide, by decide, q_u_X2, q_t4 226 rfl rfl⟩
  · cases h
set_option maxRecDepth 100000 in
theorem Gok_X2 : q_Gok RX2 G_X2 := by
  intro i x h
  unfold G_X2 at h
  split at h
  · cases h
set_option maxRecDepth 100000 in
theorem Fok_X3 : q_Fok RX3 F_X3 := by
  intro i a b h
  unfold F_X3 at h
  split at h
  · cases h; exact ⟨_, _, _, rfl, by decide, rfl, by decide, by decide, q_u_X3, q_t5 5 rfl rfl⟩
  · cases h; exact ⟨_, _, _, rfl, by decide, rfl, by decide, by decide, q_u_X3, q_t5 7 rfl rfl⟩
  · cases h; exact ⟨_, _, _, rfl, by decide, rfl, by decide, by decide, q_u_X3, q_t5 13 rfl rfl⟩
  · cases h; exact ⟨_, _, _, rfl, by decide, rfl, by decide, by decide, q_u_X3, q_t5 11 rfl rfl⟩
  · cases h; exact ⟨_, _, _, rfl, by decide, rfl, by decide, by decide, q_u_X3, q_t5 10 rfl rfl⟩
  · cases h; exact ⟨_, _, _, rfl, by decide, rfl, by decide, by decide, q_u_X3, q_t5 9 rfl rfl⟩
  · cases h
set_option maxRecDepth 100000 in
theorem Gok_X3 : q_Gok RX3 G_X3 := by
  intro i x h
  unfold G_X3 at h
  split at h
  · cases h; exact ⟨20, rfl, by decide, q_t5 3 rfl rfl⟩
  · cases h
set_option maxRecDepth 100000 in
theorem Fok_X4 : q_Fok RX4 F_X4 := by
  intro i a b h
  unfold F_X4 at h
  split at h
  · cases h; exact ⟨_, _, _, rfl, by decide, rfl, by decide, by decide, q_u_X4, q_t4 199 rfl rfl⟩
  · cases h; exact ⟨_, _, _, rfl, by decide, rfl, by decide, by decide, q_u_X4, q_t4 204 rfl rfl⟩
  · cases h; exact ⟨_, _, _, rfl, by decide, rfl, by decide, by decide, q_u_X4, q_t4 200 rfl rfl⟩
  · cases h; exact ⟨_, _, _, rfl, by decide, rfl, by decide, by decide, q_u_X4, q_t4 202 rfl rfl⟩
  · cases h; exact ⟨_, _, _, rfl, by decide, rfl, by decide, by decide, q_u_X6, q_t4 142 rfl rfl⟩
  · cases h; exact ⟨_, _, _, rfl, by decide, rfl, by decide, by decide, q_u_X6, q_t4 163 rfl rfl⟩
  · cases h; exact ⟨_, _, _, rfl, by decide, rfl, by decide, by decide, q_u_X6, q_t4 146 rfl rfl⟩
  · cases h; exact ⟨_, _, _, rfl, by decide, rfl, by decide, by decide, q_u_X6, q_t4 137 rfl rfl⟩
  · cases h; exact ⟨_, _, _, rfl, by decide, rfl, by decide, by decide, q_u_X6, q_t4 149 rfl rfl⟩
  · cases h; exact ⟨_, _, _, rfl, by decide, rfl, by decide, by decide, q_u_X6, q_t4 166 rfl rfl⟩
  · cases h; exact ⟨_, _, _, rfl, by decide, rfl, by decide, by decide, q_u_X6, q_t4 152 rfl rfl⟩
  · cases h; exact ⟨_, _, _, rfl, by decide, rfl, by decide, by decide, q_u_X6, q_t4 154 rfl rfl⟩
  · cases h; exact ⟨_, _, _, rfl, by decide, rfl, by decide, by decide, q_u_X6, q_t4 168 rfl rfl⟩
  · cases h; exact ⟨_, _, _, rfl, by decide, rfl, by decide, by decide, q_u_X6, q_t4 157 rfl rfl⟩
  · cases h; exact ⟨_, _, _, rfl, by decide, rfl, by decide, by decide, q_u_X6, q_t4 160 rfl rfl⟩
  · cases h
set_option maxRecDepth 100000 in
theorem Gok_X4 : q_Gok RX4 G_X4 := by
  intro i x h
  unfold G_X4 at h
  split at h
  · cases h; exact ⟨0, rfl, by decide, q_t1 47 rfl rfl⟩
  · cases h; exact ⟨2, rfl, by decide, q_t3 101 rfl rfl⟩
  · cases h; exact ⟨3, rfl, by decide, q_t6 146 rfl rfl⟩
  · cases h; exact ⟨13, rfl, by decide, q_t3 39 rfl rfl⟩
  · cases h; exact ⟨10, rfl, by decide, q_t3 41 rfl rfl⟩
  · cases h; exact ⟨11, rfl, by decide, q_t3 188 rfl rfl⟩
  · cases h; exact ⟨12, rfl, by decide, q_t3 116 rfl rfl⟩
  · cases h; exact ⟨1, rfl, by decide, q_t3 99 rfl rfl⟩
  · cases h
set_option maxRecDepth 100000 in
theorem Fok_X6 : q_Fok RX6 F_X6 := by
  intro i a b h
  unfold F_X6 at h
  split at h
  · cases h; exact ⟨_, _, _, rfl, by decide, rfl, by decide, by decide, q_u_X6, q_t4 136 rfl rfl⟩
  · cases h; exact ⟨_, _, _, rfl, by decide, rfl, by decide, by decide, q_u_X6, q_t4 138 rfl rfl⟩
  · cases h; exact ⟨_, _, _, rfl, by decide, rfl, by decide, by decide, q_u_X6, q_t4 139 rfl rfl⟩
  · cases h; exact ⟨_, _, _, rfl, by decide, rfl, by decide, by decide, q_u_X6, q_t4 141 rfl rfl⟩
  · cases h; exact ⟨_, _, _, rfl, by decide, rfl, by decide, by decide, q_u_X6, q_t4 144 rfl rfl⟩
  · cases h; exact ⟨_, _, _, rfl, by decide, rfl, by decide, by decide, q_u_X6, q_t4 147 rfl rfl⟩
  · cases h; exact ⟨_, _, _, rfl, by decide, rfl, by decide, by decide, q_u_X6, q_t4 150 rfl rfl⟩
  · cases h; exact ⟨_, _, _, rfl, by decide, rfl, by decide, by decide, q_u_X6, q_t4 153 rfl rfl⟩
  · cases h; exact ⟨_, _, _, rfl, by decide, rfl, by decide, by decide, q_u_X6, q_t4 155 rfl rfl⟩
  · cases h; exact ⟨_, _, _, rfl, by decide, rfl, by decide, by decide, q_u_X6, q_t4 158 rfl rfl⟩
  · cases h; exact ⟨_, _, _, rfl, by decide, rfl, by decide, by decide, q_u_X6, q_t4 161 rfl rfl⟩
  · cases h; exact ⟨_, _, _, rfl, by decide, rfl, by decide, by decide, q_u_X6, q_t4 162 rfl rfl⟩
  · cases h; exact ⟨_, _, _, rfl, by decide, rfl, by decide, by decide, q_u_X6, q_t4 165 rfl rfl⟩
  · cases h; exact ⟨_, _, _, rfl, by decide, rfl, by decide, by decide, q_u_X6, q_t4 167 rfl rfl⟩
  · cases h
set_option maxRecDepth 100000 in
theorem Gok_X6 : q_Gok RX6 G_X6 := by
  intro i x h
  unfold G_X6 at h
  split at h
  · cases h; exact ⟨0, rfl, by decide, q_t4 135 rfl rfl⟩
  · cases h; exact ⟨3, rfl, by decide, q_t3 140 rfl rfl⟩
  · cases h
set_option maxRecDepth 100000 in
theorem Fok_X8 : q_Fok RX8 F_X8 := by
  intro i a b h
  unfold F_X8 at h
  split at h
  · cases h; exact ⟨_, _, _, rfl, by decide, rfl, by decide, by decide, q_u_X8, q_t5 30 rfl rfl⟩
  · cases h; exact ⟨_, _, _, rfl, by decide, rfl, by decide, by decide, q_u_X8, q_t5 31 rfl rfl⟩
  · cases h; exact ⟨_, _, _, rfl, by decide, rfl, by decide, by decide, q_u_X8, q_t5 32 rfl rfl⟩
  · cases h; exact ⟨_, _, _, rfl, by decide, rfl, by decide, by decide, q_u_X8, q_t5 33 rfl rfl⟩
  · cases h; exact ⟨_, _, _, rfl, by decide, rfl, by decide, by decide, q_u_X8, q_t5 34 rfl rfl⟩
  · cases h; exact ⟨_, _, _, rfl, by decide, rfl, by decide, by decide, q_u_X8, q_t5 35 rfl rfl⟩
  · cases h; exact ⟨_, _, _, rfl, by decide, rfl, by decide, by decide, q_u_X8, q_t5 36 rfl rfl⟩
  · cases h; exact ⟨_, _, _, rfl, by decide, rfl, by decide, by decide, q_u_X8, q_t5 37 rfl rfl⟩
  · cases h; exact ⟨_, _, _, rfl, by decide, rfl, by decide, by decide, q_u_X8, q_t5 38 rfl rfl⟩
  · cases h; exact ⟨_, _, _, rfl, by decide, rfl, by decide, by decide, q_u_X8, q_t5 39 rfl rfl⟩
  · cases h; exact ⟨_, _, _, rfl, by decide, rfl, by decide, by decide, q_u_X8, q_t5 40 rfl rfl⟩
  · cases h; exact ⟨_, _, _, rfl, by decide, rfl, by decide, by decide, q_u_X4, q_t4 205 rfl rfl⟩
  · cases h; exact ⟨_, _, _, rfl, by decide, rfl, by decide, by decide, q_u_X6, q_t4 145 rfl rfl⟩
  · cases h; exact ⟨_, _, _, rfl, by decide, rfl, by decide, by decide, q_u_X6, q_t4 143 rfl rfl⟩
  · cases h; exact ⟨_, _, _, rfl, by decide, rfl, by decide, by decide, q_u_X4, q_t4 201 rfl rfl⟩
  · cases h; exact ⟨_, _, _, rfl, by decide, rfl, by decide, by decide, q_u_X4, q_t4 203 rfl rfl⟩
  · cases h; exact ⟨_, _, _, rfl, by decide, rfl, by decide, by decide, q_u_X6, q_t4 148 rfl rfl⟩
  · cases h; exact ⟨_, _, _, rfl, by decide, rfl, by decide, by decide, q_u_X6, q_t4 151 rfl rfl⟩
  · cases h; exact ⟨_, _, _, rfl, by decide, rfl, by decide, by decide, q_u_X6, q_t4 156 rfl rfl⟩
  · cases h; exact ⟨_, _, _, rfl, by decide, rfl, by decide, by decide, q_u_X6, q_t4 159 rfl rfl⟩
  · cases h; exact ⟨_, _, _, rfl, by decide, rfl, by decide, by decide, q_u_X6, q_t4 140 rfl rfl⟩
  · cases h; exact ⟨_, _, _, rfl, by decide, rfl, by decide, by decide, q_u_X6, q_t4 164 rfl rfl⟩
  · cases h; exact ⟨_, _, _, rfl, by decide, rfl, by decide, by decide, q_u_X3, q_t5 6 rfl rfl⟩
  · cases h; exact ⟨_, _, _, rfl, by decide, rfl, by decide, by decide, q_u_X3, q_t5 12 rfl rfl⟩
  · cases h; exact ⟨_, _, _, rfl, by decide, rfl, by decide, by decide, q_u_X2, q_t4 227 rfl rfl⟩
  · cases h; exact ⟨_, _, _, rfl, by decide, rfl, by decide, by decide, q_u_X3, q_t5 8 rfl rfl⟩
  · cases h; exact ⟨_, _, _, rfl, by decide, rfl, by decide, by decide, q_u_X3, q_t5 14 rfl rfl⟩
  · cases h
set_option maxRecDepth 100000 in
theorem Gok_X8 : q_Gok RX8 G_X8 := by
  intro i x h
  unfold G_X8 at h
  split at h
  · cases h; exact ⟨4, rfl, by decide, q_t2 237 rfl rfl⟩
  · cases h; exact ⟨2, rfl, by decide, q_t2 229 rfl rfl⟩
  · cases h; exact ⟨11, rfl, by decide, q_t3 46 rfl rfl⟩
  · cases h; exact ⟨12, rfl, by decide, q_t3 49 rfl rfl⟩
  · cases h; exact ⟨13, rfl, by decide, q_t3 54 rfl rfl⟩
  · cases h; exact ⟨14, rfl, by decide, q_t3 71 rfl rfl⟩
  · cases h; exact ⟨3, rfl, by decide, q_t2 231 rfl rfl⟩
  · cases h; exact ⟨10, rfl, by decide, q_t3 168 rfl rfl⟩
  · cases h
set_option maxRecDepth 100000 in
theorem mw_X2_init : q_mw yX2_init cX2_init 2 (Option.none : Option Jvm.ClassFile.FieldType) 0 := ⟨q_t4 219 rfl rfl, by decide +kernel, by decide +kernel, q_init_QuillRelay_History⟩
set_option maxRecDepth 100000 in
theorem mi_X2_init : Cond.instanceMethod yX2_init ∈ q_W := q_t4 218 rfl rfl
def tb_X2_init : List q_E := [(0, .aload_n 0, 1, 0, 0), (1, .invokespecial 3, 3, 0, 0), (4, .aload_n 0, 1, 0, 0), (5, .bipush 8, 2, 8, 0), (7, .anewarray 9, 3, 0, 0), (10, .putfield 11, 3, 0, 0), (13, .iconst 0, 1, 0, 0), (14, .istore_n 1, 1, 0, 0), (15, .iload_n 1, 1, 0, 0), (16, .aload_n 0, 1, 0, 0), (17, .getfield 11, 3, 0, 0), (20, .arraylength, 1, 0, 31), (21, .if_icmp .ge 22, 3, 0, 43), (24, .aload_n 0, 1, 0, 0), (25, .getfield 11, 3, 0, 0), (28, .iload_n 1, 1, 0, 0), (29, .new 9, 3, 0, 0), (32, .dup, 1, 0, 0), (33, .invokespecial 17, 3, 0, 0), (36, .aastore, 1, 0, 0), (37, .iinc 1 1, 3, 1, 0), (40, .goto (-25), 3, 0, 15), (43, .return_, 1, 0, 0)]
set_option maxRecDepth 100000 in
theorem tk_X2_init : q_tb cX2_init 2 tb_X2_init = true := by decide +kernel
set_option maxRecDepth 100000 in
theorem mw_X2_push : q_mw yX2_push cX2_push 2 (Option.none : Option Jvm.ClassFile.FieldType) 1 := ⟨q_t3 92 rfl rfl, by decide +kernel, by decide +kernel, q_init_QuillRelay_History⟩
set_option maxRecDepth 100000 in
theorem mi_X2_push : Cond.instanceMethod yX2_push ∈ q_W := q_t3 90 rfl rfl
set_option maxRecDepth 100000 in
theorem me_X2_push : Cond.selects yX2_push.cls yX2_push yX2_push ∈ q_W := q_t3 91 rfl rfl
def tb_X2_push : List q_E := [(0, .aload_n 0, 1, 0, 0), (1, .dup, 1, 0, 0), (2, .getfield 18, 3, 0, 0), (5, .iconst 1, 1, 1, 0), (6, .iadd, 1, 0, 0), (7, .putfield 18, 3, 0, 0), (10, .aload_n 0, 1, 0, 0), (11, .getfield 18, 3, 0, 0), (14, .ifCond .lt 15, 3, 0, 29), (17, .aload_n 0, 1, 0, 0), (18, .getfield 18, 3, 0, 0), (21, .aload_n 0, 1, 0, 0), (22, .getfield 11, 3, 0, 0), (25, .arraylength, 1, 0, 31), (26, .if_icmp .lt 8, 3, 0, 34), (29, .aload_n 0, 1, 0, 0), (30, .iconst 0, 1, 0, 0), (31, .putfield 18, 3, 0, 0), (34, .aload_n 0, 1, 0, 0), (35, .getfield 11, 3, 0, 0), (38, .aload_n 0, 1, 0, 0), (39, .getfield 18, 3, 0, 0), (42, .aaload, 1, 0, 31), (43, .aload_n 1, 1, 0, 0), (44, .invokevirtual 22, 3, 0, 0), (47, .aload_n 0, 1, 0, 0), (48, .aload_n 0, 1, 0, 0), (49, .getfield 26, 3, 0, 0), (52, .iconst 1, 1, 1, 0), (53, .iadd, 1, 0, 0), (54, .aload_n 0, 1, 0, 0), (55, .getfield 11, 3, 0, 0), (58, .arraylength, 1, 0, 31), (59, .invokestatic 29, 3, 0, 0), (62, .putfield 26, 3, 0, 0), (65, .return_, 1, 0, 0)]
set_option maxRecDepth 100000 in
theorem tk_X2_push : q_tb cX2_push 2 tb_X2_push = true := by decide +kernel
set_option maxRecDepth 100000 in
theorem mw_X2_popInto : q_mw yX2_popInto cX2_popInto 2 (Option.none : Option Jvm.ClassFile.FieldType) 1 := ⟨q_t4 72 rfl rfl, by decide +kernel, by decide +kernel, q_init_QuillRelay_History⟩
set_option maxRecDepth 100000 in
theorem mi_X2_popInto : Cond.instanceMethod yX2_popInto ∈ q_W := q_t4 70 rfl rfl
set_option maxRecDepth 100000 in
theorem me_X2_popInto : Cond.selects yX2_popInto.cls yX2_popInto yX2_popInto ∈ q_W := q_t4 71 rfl rfl
def tb_X2_popInto : List q_E := [(0, .aload_n 0, 1, 0, 0), (1, .getfield 26, 3, 0, 0), (4, .ifCond .le 72, 3, 0, 76), (7, .aload_n 0, 1, 0, 0), (8, .getfield 18, 3, 0, 0), (11, .ifCond .lt 65, 3, 0, 76), (14, .aload_n 0, 1, 0, 0), (15, .getfield 18, 3, 0, 0), (18, .aload_n 0, 1, 0, 0), (19, .getfield 11, 3, 0, 0), (22, .arraylength, 1, 0, 31), (23, .if_icmp .ge 53, 3, 0, 76), (26, .aload_n 1, 1, 0, 0), (27, .aload_n 0, 1, 0, 0), (28, .getfield 11, 3, 0, 0), (31, .aload_n 0, 1, 0, 0), (32, .getfield 18, 3, 0, 0), (35, .aaload, 1, 0, 31), (36, .invokevirtual 22, 3, 0, 0), (39, .aload_n 0, 1, 0, 0), (40, .aload_n 0, 1, 0, 0), (41, .getfield 18, 3, 0, 0), (44, .ifCond .le 12, 3, 0, 56), (47, .aload_n 0, 1, 0, 0), (48, .getfield 18, 3, 0, 0), (51, .iconst 1, 1, 1, 0), (52, .isub, 1, 0, 0), (53, .goto 10, 3, 0, 63), (56, .aload_n 0, 1, 0, 0), (57, .getfield 11, 3, 0, 0), (60, .arraylength, 1, 0, 31), (61, .iconst 1, 1, 1, 0), (62, .isub, 1, 0, 0), (63, .putfield 18, 3, 0, 0), (66, .aload_n 0, 1, 0, 0), (67, .dup, 1, 0, 0), (68, .getfield 26, 3, 0, 0), (71, .iconst 1, 1, 1, 0), (72, .isub, 1, 0, 0), (73, .putfield 26, 3, 0, 0), (76, .return_, 1, 0, 0)]
set_option maxRecDepth 100000 in
theorem tk_X2_popInto : q_tb cX2_popInto 2 tb_X2_popInto = true := by decide +kernel
set_option maxRecDepth 100000 in
theorem mw_X3_init : q_mw yX3_init cX3_init 1 (Option.none : Option Jvm.ClassFile.FieldType) 0 := ⟨q_t4 239 rfl rfl, by decide +kernel, by decide +kernel, q_init_QuillRelay_Program⟩
set_option maxRecDepth 100000 in
theorem mi_X3_init : Cond.instanceMethod yX3_init ∈ q_W := q_t4 238 rfl rfl
def tb_X3_init : List q_E := [(0, .aload_n 0, 1, 0, 0), (1, .invokespecial 3, 3, 0, 0), (4, .aload_n 0, 1, 0, 0), (5, .new 9, 3, 0, 0), (8, .dup, 1, 0, 0), (9, .invokespecial 11, 3, 0, 0), (12, .putfield 12, 3, 0, 0), (15, .aload_n 0, 1, 0, 0), (16, .iconst 3, 1, 3, 0), (17, .newarray .int, 2, 0, 0), (19, .putfield 18, 3, 0, 0), (22, .aload_n 0, 1, 0, 0), (23, .getstatic 22, 3, 0, 0), (26, .putfield 28, 3, 0, 0), (29, .return_, 1, 0, 0)]
set_option maxRecDepth 100000 in
theorem tk_X3_init : q_tb cX3_init 1 tb_X3_init = true := by decide +kernel
set_option maxRecDepth 100000 in
theorem mw_X3_findError : q_mw yX3_findError cX3_findError 1 (Option.some Jvm.ClassFile.FieldType.int) 0 := ⟨q_t5 195 rfl rfl, by decide +kernel, by decide +kernel, q_init_QuillRelay_Program⟩
set_option maxRecDepth 100000 in
theorem mi_X3_findError : Cond.instanceMethod yX3_findError ∈ q_W := q_t5 193 rfl rfl
set_option maxRecDepth 100000 in
theorem me_X3_findError : Cond.selects yX3_findError.cls yX3_findError yX3_findError ∈ q_W := q_t5 194 rfl rfl
def tb_X3_findError : List q_E := [(0, .aload_n 0, 1, 0, 0), (1, .invokevirtual 31, 3, 0, 0), (4, .aload_n 0, 1, 0, 0), (5, .iconst 0, 1, 0, 0), (6, .putfield 34, 3, 0, 0), (9, .aload_n 0, 1, 0, 0), (10, .getfield 34, 3, 0, 0), (13, .aload_n 0, 1, 0, 0), (14, .getfield 12, 3, 0, 0), (17, .invokevirtual 38, 3, 0, 0), (20, .if_icmp .gt 41, 3, 0, 61), (23, .aload_n 0, 1, 0, 0), (24, .invokevirtual 42, 3, 0, 0), (27, .ifCond .ne 8, 3, 0, 35), (30, .aload_n 0, 1, 0, 0), (31, .getfield 46, 3, 0, 0), (34, .ireturn, 1, 0, 0), (35, .aload_n 0, 1, 0, 0), (36, .dup, 1, 0, 0), (37, .getfield 34, 3, 0, 0), (40, .iconst 1, 1, 1, 0), (41, .iadd, 1, 0, 0), (42, .putfield 34, 3, 0, 0), (45, .aload_n 0, 1, 0, 0), (46, .getfield 46, 3, 0, 0), (49, .aload_n 0, 1, 0, 0), (50, .getfield 12, 3, 0, 0), (53, .invokevirtual 38, 3, 0, 0), (56, .if_icmp .lt (-47), 3, 0, 9), (59, .iconst (-1), 1, (-1), 0), (60, .ireturn, 1, 0, 0), (61, .aload_n 0, 1, 0, 0), (62, .getfield 46, 3, 0, 0), (65, .ireturn, 1, 0, 0)]
set_option maxRecDepth 100000 in
theorem tk_X3_findError : q_tb cX3_findError 1 tb_X3_findError = true := by decide +kernel
set_option maxRecDepth 100000 in
theorem mw_X3_rewind : q_mw yX3_rewind cX3_rewind 1 (Option.none : Option Jvm.ClassFile.FieldType) 0 := ⟨q_t5 199 rfl rfl, by decide +kernel, by decide +kernel, q_init_QuillRelay_Program⟩
set_option maxRecDepth 100000 in
theorem mi_X3_rewind : Cond.instanceMethod yX3_rewind ∈ q_W := q_t5 197 rfl rfl
set_option maxRecDepth 100000 in
theorem me_X3_rewind : Cond.selects yX3_rewind.cls yX3_rewind yX3_rewind ∈ q_W := q_t5 198 rfl rfl
def tb_X3_rewind : List q_E := [(0, .aload_n 0, 1, 0, 0), (1, .iconst 0, 1, 0, 0), (2, .putfield 46, 3, 0, 0), (5, .return_, 1, 0, 0)]
set_option maxRecDepth 100000 in
theorem tk_X3_rewind : q_tb cX3_rewind 1 tb_X3_rewind = true := by decide +kernel
set_option maxRecDepth 100000 in
theorem mw_X3_readNext : q_mw yX3_readNext cX3_readNext 7 (Option.some Jvm.ClassFile.FieldType.boolean) 0 := ⟨q_t5 204 rfl rfl, by decide +kernel, by decide +kernel, q_init_QuillRelay_Program⟩
set_option maxRecDepth 100000 in
theorem mi_X3_readNext : Cond.instanceMethod yX3_readNext ∈ q_W := q_t5 202 rfl rfl
set_option maxRecDepth 100000 in
theorem me_X3_readNext : Cond.selects yX3_readNext.cls yX3_readNext yX3_readNext ∈ q_W := q_t5 203 rfl rfl
def tb_X3_readNext : List q_E := [(0, .aload_n 0, 1, 0, 0), (1, .getfield 46, 3, 0, 0), (4, .ifCond .le 14, 3, 0, 18), (7, .aload_n 0, 1, 0, 0), (8, .bipush 59, 2, 59, 0), (10, .invokevirtual 49, 3, 0, 0), (13, .ifCond .ne 5, 3, 0, 18), (16, .iconst 0, 1, 0, 0), (17, .ireturn, 1, 0, 0), (18, .aload_n 0, 1, 0, 0), (19, .getfield 46, 3, 0, 0), (22, .istore_n 1, 1, 0, 0), (23, .iload_n 1, 1, 0, 0), (24, .istore_n 2, 1, 0, 0), (25, .getstatic 53, 3, 0, 0), (28, .astore_n 3, 1, 0, 0), (29, .aload_n 3, 1, 0, 0), (30, .arraylength, 1, 0, 20), (31, .istore 4, 2, 0, 0), (33, .iconst 0, 1, 0, 0), (34, .istore 5, 2, 0, 0), (36, .iload 5, 2, 0, 0), (38, .iload 4, 2, 0, 0), (40, .if_icmp .ge 45, 3, 0, 85), (43, .aload_n 3, 1, 0, 0), (44, .iload 5, 2, 0, 0), (46, .aaload, 1, 0, 20), (47, .astore 6, 2, 0, 0), (49, .aload_n 0, 1, 0, 0), (50, .aload 6, 2, 0, 0), (52, .getfield 57, 3, 0, 0), (55, .iload_n 1, 1, 0, 0), (56, .invokevirtual 61, 3, 0, 0), (59, .ifCond .eq 11, 3, 0, 70), (62, .aload_n 0, 1, 0, 0), (63, .aload 6, 2, 0, 0), (65, .putfield 28, 3, 0, 0), (68, .iconst 1, 1, 1, 0), (69, .ireturn, 1, 0, 0), (70, .iload_n 2, 1, 0, 0), (71, .aload_n 0, 1, 0, 0), (72, .getfield 46, 3, 0, 0), (75, .invokestatic 65, 3, 0, 0), (78, .istore_n 2, 1, 0, 0), (79, .iinc 5 1, 3, 1, 0), (82, .goto (-46), 3, 0, 36), (85, .aload_n 0, 1, 0, 0), (86, .iload_n 2, 1, 0, 0), (87, .putfield 46, 3, 0, 0), (90, .iconst 0, 1, 0, 0), (91, .ireturn, 1, 0, 0)]
set_option maxRecDepth 100000 in
theorem tk_X3_readNext : q_tb cX3_readNext 7 tb_X3_readNext = true := by decide +kernel
set_option maxRecDepth 100000 in
theorem mw_X3_readPattern : q_mw yX3_readPattern cX3_readPattern 4 (Option.some Jvm.ClassFile.FieldType.boolean) 2 := ⟨q_t5 224 rfl rfl, by decide +kernel, by decide +kernel, q_init_QuillRelay_Program⟩
set_option maxRecDepth 100000 in
theorem mi_X3_readPattern : Cond.instanceMethod yX3_readPattern ∈ q_W := q_t5 223 rfl rfl
set_option maxRecDepth 100000 in
theorem me_X3_readPattern : Cond.selects yX3_readPattern.cls yX3_readPattern yX3_readPattern ∈ q_W := q_s 11 rfl rfl
def tb_X3_readPattern : List q_E := [(0, .aload_n 0, 1, 0, 0), (1, .iload_n 2, 1, 0, 0), (2, .putfield 46, 3, 0, 0), (5, .aload_n 0, 1, 0, 0), (6, .iconst 0, 1, 0, 0), (7, .putfield 71, 3, 0, 0), (10, .iconst 0, 1, 0, 0), (11, .istore_n 3, 1, 0, 0), (12, .iload_n 3, 1, 0, 0), (13, .aload_n 1, 1, 0, 0), (14, .invokevirtual 74, 3, 0, 0), (17, .if_icmp .ge 23, 3, 0, 40), (20, .aload_n 0, 1, 0, 0), (21, .aload_n 1, 1, 0, 0), (22, .iload_n 3, 1, 0, 0), (23, .invokevirtual 77, 3, 0, 0), (26, .invokevirtual 81, 3, 0, 0), (29, .ifCond .ne 5, 3, 0, 34), (32, .iconst 0, 1, 0, 0), (33, .ireturn, 1, 0, 0), (34, .iinc 3 1, 3, 1, 0), (37, .goto (-25), 3, 0, 12), (40, .iconst 1, 1, 1, 0), (41, .ireturn, 1, 0, 0)]
set_option maxRecDepth 100000 in
theorem tk_X3_readPattern : q_tb cX3_readPattern 4 tb_X3_readPattern = true := by decide +kernel
set_option maxRecDepth 100000 in
theorem mw_X3_readSign : q_mw yX3_readSign cX3_readSign 2 (Option.some Jvm.ClassFile.FieldType.boolean) 1 := ⟨q_t5 230 rfl rfl, by decide +kernel, by decide +kernel, q_init_QuillRelay_Program⟩
set_option maxRecDepth 100000 in
theorem mi_X3_readSign : Cond.instanceMethod yX3_readSign ∈ q_W := q_t5 229 rfl rfl
set_option maxRecDepth 100000 in
theorem me_X3_readSign : Cond.selects yX3_readSign.cls yX3_readSign yX3_readSign ∈ q_W := q_s 12 rfl rfl
def tb_X3_readSign : List q_E := [(0, .iload_n 1, 1, 0, 0), (1, .bipush 68, 2, 68, 0), (3, .if_icmp .ne 9, 3, 0, 12), (6, .aload_n 0, 1, 0, 0), (7, .iconst 1, 1, 1, 0), (8, .invokevirtual 84, 3, 0, 0), (11, .ireturn, 1, 0, 0), (12, .iload_n 1, 1, 0, 0), (13, .bipush 78, 2, 78, 0), (15, .if_icmp .ne 9, 3, 0, 24), (18, .aload_n 0, 1, 0, 0), (19, .iconst 3, 1, 3, 0), (20, .invokevirtual 84, 3, 0, 0), (23, .ireturn, 1, 0, 0), (24, .iload_n 1, 1, 0, 0), (25, .bipush 75, 2, 75, 0), (27, .if_icmp .ne 8, 3, 0, 35), (30, .aload_n 0, 1, 0, 0), (31, .invokevirtual 88, 3, 0, 0), (34, .ireturn, 1, 0, 0), (35, .aload_n 0, 1, 0, 0), (36, .iload_n 1, 1, 0, 0), (37, .invokevirtual 49, 3, 0, 0), (40, .ireturn, 1, 0, 0)]
set_option maxRecDepth 100000 in
theorem tk_X3_readSign : q_tb cX3_readSign 2 tb_X3_readSign = true := by decide +kernel
set_option maxRecDepth 100000 in
theorem mw_X3_readCharacter : q_mw yX3_readCharacter cX3_readCharacter 2 (Option.some Jvm.ClassFile.FieldType.boolean) 1 := ⟨q_t5 208 rfl rfl, by decide +kernel, by decide +kernel, q_init_QuillRelay_Program⟩
set_option maxRecDepth 100000 in
theorem mi_X3_readCharacter : Cond.instanceMethod yX3_readCharacter ∈ q_W := q_t5 207 rfl rfl
set_option maxRecDepth 100000 in
theorem me_X3_readCharacter : Cond.selects yX3_readCharacter.cls yX3_readCharacter yX3_readCharacter ∈ q_W := q_s 10 rfl rfl
def tb_X3_readCharacter : List q_E := [(0, .aload_n 0, 1, 0, 0), (1, .getfield 46, 3, 0, 0), (4, .aload_n 0, 1, 0, 0), (5, .getfield 12, 3, 0, 0), (8, .invokevirtual 38, 3, 0, 0), (11, .if_icmp .ge 30, 3, 0, 41), (14, .aload_n 0, 1, 0, 0), (15, .getfield 12, 3, 0, 0), (18, .aload_n 0, 1, 0, 0), (19, .getfield 46, 3, 0, 0), (22, .invokevirtual 91, 3, 0, 0), (25, .iload_n 1, 1, 0, 0), (26, .if_icmp .ne 15, 3, 0, 41), (29, .aload_n 0, 1, 0, 0), (30, .dup, 1, 0, 0), (31, .getfield 46, 3, 0, 0), (34, .iconst 1, 1, 1, 0), (35, .iadd, 1, 0, 0), (36, .putfield 46, 3, 0, 0), (39, .iconst 1, 1, 1, 0), (40, .ireturn, 1, 0, 0), (41, .iconst 0, 1, 0, 0), (42, .ireturn, 1, 0, 0)]
set_option maxRecDepth 100000 in
theorem tk_X3_readCharacter : q_tb cX3_readCharacter 2 tb_X3_readCharacter = true := by decide +kernel
set_option maxRecDepth 100000 in
theorem mw_X3_readDigits : q_mw yX3_readDigits cX3_readDigits 4 (Option.some Jvm.ClassFile.FieldType.boolean) 1 := ⟨q_t5 234 rfl rfl, by decide +kernel, by decide +kernel, q_init_QuillRelay_Program⟩
set_option maxRecDepth 100000 in
theorem mi_X3_readDigits : Cond.instanceMethod yX3_readDigits ∈ q_W := q_t5 233 rfl rfl
set_option maxRecDepth 100000 in
theorem me_X3_readDigits : Cond.selects yX3_readDigits.cls yX3_readDigits yX3_readDigits ∈ q_W := q_s 13 rfl rfl
def tb_X3_readDigits : List q_E := [(0, .aload_n 0, 1, 0, 0), (1, .getfield 46, 3, 0, 0), (4, .istore_n 2, 1, 0, 0), (5, .iconst 0, 1, 0, 0), (6, .istore_n 3, 1, 0, 0), (7, .aload_n 0, 1, 0, 0), (8, .getfield 46, 3, 0, 0), (11, .iload_n 2, 1, 0, 0), (12, .isub, 1, 0, 0), (13, .iload_n 1, 1, 0, 0), (14, .if_icmp .ge 67, 3, 0, 81), (17, .aload_n 0, 1, 0, 0), (18, .getfield 46, 3, 0, 0), (21, .aload_n 0, 1, 0, 0), (22, .getfield 12, 3, 0, 0), (25, .invokevirtual 38, 3, 0, 0), (28, .if_icmp .ge 53, 3, 0, 81), (31, .aload_n 0, 1, 0, 0), (32, .getfield 12, 3, 0, 0), (35, .aload_n 0, 1, 0, 0), (36, .getfield 46, 3, 0, 0), (39, .invokevirtual 91, 3, 0, 0), (42, .invokestatic 92, 3, 0, 0), (45, .ifCond .eq 36, 3, 0, 81), (48, .bipush 10, 2, 10, 0), (50, .iload_n 3, 1, 0, 0), (51, .imul, 1, 0, 0), (52, .aload_n 0, 1, 0, 0), (53, .getfield 12, 3, 0, 0), (56, .aload_n 0, 1, 0, 0), (57, .getfield 46, 3, 0, 0), (60, .invokevirtual 91, 3, 0, 0), (63, .bipush 48, 2, 48, 0), (65, .isub, 1, 0, 0), (66, .iadd, 1, 0, 0), (67, .istore_n 3, 1, 0, 0), (68, .aload_n 0, 1, 0, 0), (69, .dup, 1, 0, 0), (70, .getfield 46, 3, 0, 0), (73, .iconst 1, 1, 1, 0), (74, .iadd, 1, 0, 0), (75, .putfield 46, 3, 0, 0), (78, .goto (-71), 3, 0, 7), (81, .aload_n 0, 1, 0, 0), (82, .iload_n 3, 1, 0, 0), (83, .invokevirtual 95, 3, 0, 0), (86, .aload_n 0, 1, 0, 0), (87, .getfield 46, 3, 0, 0), (90, .iload_n 2, 1, 0, 0), (91, .if_icmp .le 7, 3, 0, 98), (94, .iconst 1, 1, 1, 0), (95, .goto 4, 3, 0, 99), (98, .iconst 0, 1, 0, 0), (99, .ireturn, 1, 0, 0)]
set_option maxRecDepth 100000 in
theorem tk_X3_readDigits : q_tb cX3_readDigits 4 tb_X3_readDigits = true := by decide +kernel
set_option maxRecDepth 100000 in
theorem mw_X3_isDigit : q_mw yX3_isDigit cX3_isDigit 1 (Option.some Jvm.ClassFile.FieldType.boolean) 1 := ⟨q_t5 237 rfl rfl, by decide +kernel, by decide +kernel, q_init_QuillRelay_Program⟩
set_option maxRecDepth 100000 in
theorem ms_X3_isDigit : Cond.static yX3_isDigit ∈ q_W := q_t5 236 rfl rfl
def tb_X3_isDigit : List q_E := [(0, .iload_n 0, 1, 0, 0), (1, .bipush 48, 2, 48, 0), (3, .if_icmp .lt 13, 3, 0, 16), (6, .iload_n 0, 1, 0, 0), (7, .bipush 57, 2, 57, 0), (9, .if_icmp .gt 7, 3, 0, 16), (12, .iconst 1, 1, 1, 0), (13, .goto 4, 3, 0, 17), (16, .iconst 0, 1, 0, 0), (17, .ireturn, 1, 0, 0)]
set_option maxRecDepth 100000 in
theorem tk_X3_isDigit : q_tb cX3_isDigit 1 tb_X3_isDigit = true := by decide +kernel
set_option maxRecDepth 100000 in
theorem mw_X3_readKind : q_mw yX3_readKind cX3_readKind 1 (Option.some Jvm.ClassFile.FieldType.boolean) 0 := ⟨q_t6 5 rfl rfl, by decide +kernel, by decide +kernel, q_init_QuillRelay_Program⟩
set_option maxRecDepth 100000 in
theorem mi_X3_readKind : Cond.instanceMethod yX3_readKind ∈ q_W := q_t6 4 rfl rfl
set_option maxRecDepth 100000 in
theorem me_X3_readKind : Cond.selects yX3_readKind.cls yX3_readKind yX3_readKind ∈ q_W := q_s 15 rfl rfl
def tb_X3_readKind : List q_E := [(0, .aload_n 0, 1, 0, 0), (1, .bipush 108, 2, 108, 0), (3, .invokevirtual 49, 3, 0, 0), (6, .ifCond .eq 10, 3, 0, 16), (9, .aload_n 0, 1, 0, 0), (10, .iconst 0, 1, 0, 0), (11, .invokevirtual 95, 3, 0, 0), (14, .iconst 1, 1, 1, 0), (15, .ireturn, 1, 0, 0), (16, .aload_n 0, 1, 0, 0), (17, .iconst 1, 1, 1, 0), (18, .invokevirtual 95, 3, 0, 0), (21, .aload_n 0, 1, 0, 0), (22, .bipush 100, 2, 100, 0), (24, .invokevirtual 49, 3, 0, 0), (27, .ireturn, 1, 0, 0)]
set_option maxRecDepth 100000 in
theorem tk_X3_readKind : q_tb cX3_readKind 1 tb_X3_readKind = true := by decide +kernel
set_option maxRecDepth 100000 in
theorem mw_X3_addArgument : q_mw yX3_addArgument cX3_addArgument 2 (Option.none : Option Jvm.ClassFile.FieldType) 1 := ⟨q_t6 1 rfl rfl, by decide +kernel, by decide +kernel, q_init_QuillRelay_Program⟩
set_option maxRecDepth 100000 in
theorem mi_X3_addArgument : Cond.instanceMethod yX3_addArgument ∈ q_W := q_t6 0 rfl rfl
set_option maxRecDepth 100000 in
theorem me_X3_addArgument : Cond.selects yX3_addArgument.cls yX3_addArgument yX3_addArgument ∈ q_W := q_s 14 rfl rfl
def tb_X3_addArgument : List q_E := [(0, .aload_n 0, 1, 0, 0), (1, .getfield 71, 3, 0, 0), (4, .ifCond .lt 35, 3, 0, 39), (7, .aload_n 0, 1, 0, 0), (8, .getfield 71, 3, 0, 0), (11, .aload_n 0, 1, 0, 0), (12, .getfield 18, 3, 0, 0), (15, .arraylength, 1, 0, 20), (16, .if_icmp .ge 23, 3, 0, 39), (19, .aload_n 0, 1, 0, 0), (20, .getfield 18, 3, 0, 0), (23, .aload_n 0, 1, 0, 0), (24, .getfield 71, 3, 0, 0), (27, .iload_n 1, 1, 0, 0), (28, .iastore, 1, 0, 0), (29, .aload_n 0, 1, 0, 0), (30, .dup, 1, 0, 0), (31, .getfield 71, 3, 0, 0), (34, .iconst 1, 1, 1, 0), (35, .iadd, 1, 0, 0), (36, .putfield 71, 3, 0, 0), (39, .return_, 1, 0, 0)]
set_option maxRecDepth 100000 in
theorem tk_X3_addArgument : q_tb cX3_addArgument 2 tb_X3_addArgument = true := by decide +kernel
set_option maxRecDepth 100000 in
theorem mw_X4_init : q_mw yX4_init cX4_init 2 (Option.none : Option Jvm.ClassFile.FieldType) 0 := ⟨q_t4 127 rfl rfl, by decide +kernel, by decide +kernel, q_init_QuillRelay_Race⟩
set_option maxRecDepth 100000 in
theorem mi_X4_init : Cond.instanceMethod yX4_init ∈ q_W := q_t4 126 rfl rfl
def tb_X4_init : List q_E := [(0, .aload_n 0, 1, 0, 0), (1, .invokespecial 3, 3, 0, 0), (4, .aload_n 0, 1, 0, 0), (5, .bipush 6, 2, 6, 0), (7, .anewarray 9, 3, 0, 0), (10, .putfield 11, 3, 0, 0), (13, .iconst 0, 1, 0, 0), (14, .istore_n 1, 1, 0, 0), (15, .iload_n 1, 1, 0, 0), (16, .aload_n 0, 1, 0, 0), (17, .getfield 11, 3, 0, 0), (20, .arraylength, 1, 0, 30), (21, .if_icmp .ge 23, 3, 0, 44), (24, .aload_n 0, 1, 0, 0), (25, .getfield 11, 3, 0, 0), (28, .iload_n 1, 1, 0, 0), (29, .new 9, 3, 0, 0), (32, .dup, 1, 0, 0), (33, .iload_n 1, 1, 0, 0), (34, .invokespecial 17, 3, 0, 0), (37, .aastore, 1, 0, 0), (38, .iinc 1 1, 3, 1, 0), (41, .goto (-26), 3, 0, 15), (44, .aload_n 0, 1, 0, 0), (45, .sipush 1000, 3, 1000, 0), (48, .putfield 20, 3, 0, 0), (51, .return_, 1, 0, 0)]
set_option maxRecDepth 100000 in
theorem tk_X4_init : q_tb cX4_init 2 tb_X4_init = true := by decide +kernel
set_option maxRecDepth 100000 in
theorem mw_X4_copyFrom : q_mw yX4_copyFrom cX4_copyFrom 3 (Option.none : Option Jvm.ClassFile.FieldType) 1 := ⟨q_t3 7 rfl rfl, by decide +kernel, by decide +kernel, q_init_QuillRelay_Race⟩
set_option maxRecDepth 100000 in
theorem mi_X4_copyFrom : Cond.instanceMethod yX4_copyFrom ∈ q_W := q_t3 5 rfl rfl
set_option maxRecDepth 100000 in
theorem me_X4_copyFrom : Cond.selects yX4_copyFrom.cls yX4_copyFrom yX4_copyFrom ∈ q_W := q_t3 6 rfl rfl
def tb_X4_copyFrom : List q_E := [(0, .iconst 0, 1, 0, 0), (1, .istore_n 2, 1, 0, 0), (2, .iload_n 2, 1, 0, 0), (3, .aload_n 0, 1, 0, 0), (4, .getfield 11, 3, 0, 0), (7, .arraylength, 1, 0, 30), (8, .if_icmp .ge 33, 3, 0, 41), (11, .iload_n 2, 1, 0, 0), (12, .aload_n 1, 1, 0, 0), (13, .getfield 11, 3, 0, 0), (16, .arraylength, 1, 0, 30), (17, .if_icmp .ge 24, 3, 0, 41), (20, .aload_n 0, 1, 0, 0), (21, .getfield 11, 3, 0, 0), (24, .iload_n 2, 1, 0, 0), (25, .aaload, 1, 0, 30), (26, .aload_n 1, 1, 0, 0), (27, .getfield 11, 3, 0, 0), (30, .iload_n 2, 1, 0, 0), (31, .aaload, 1, 0, 30), (32, .invokevirtual 24, 3, 0, 0), (35, .iinc 2 1, 3, 1, 0), (38, .goto (-36), 3, 0, 2), (41, .aload_n 0, 1, 0, 0), (42, .aload_n 1, 1, 0, 0), (43, .getfield 28, 3, 0, 0), (46, .putfield 28, 3, 0, 0), (49, .aload_n 0, 1, 0, 0), (50, .aload_n 1, 1, 0, 0), (51, .getfield 32, 3, 0, 0), (54, .putfield 32, 3, 0, 0), (57, .aload_n 0, 1, 0, 0), (58, .aload_n 1, 1, 0, 0), (59, .getfield 20, 3, 0, 0), (62, .putfield 20, 3, 0, 0), (65, .return_, 1, 0, 0)]
set_option maxRecDepth 100000 in
theorem tk_X4_copyFrom : q_tb cX4_copyFrom 3 tb_X4_copyFrom = true := by decide +kernel
set_option maxRecDepth 100000 in
theorem mw_X4_find : q_mw yX4_find cX4_find 3 (Option.some (Jvm.ClassFile.FieldType.object "QuillRelay$Team")) 1 := ⟨q_t1 46 rfl rfl, by decide +kernel, by decide +kernel, q_init_QuillRelay_Race⟩
set_option maxRecDepth 100000 in
theorem mi_X4_find : Cond.instanceMethod yX4_find ∈ q_W := q_t1 44 rfl rfl
set_option maxRecDepth 100000 in
theorem me_X4_find : Cond.selects yX4_find.cls yX4_find yX4_find ∈ q_W := q_t1 45 rfl rfl
def tb_X4_find : List q_E := [(0, .iload_n 1, 1, 0, 0), (1, .ifCond .lt 12, 3, 0, 13), (4, .iload_n 1, 1, 0, 0), (5, .aload_n 0, 1, 0, 0), (6, .getfield 11, 3, 0, 0), (9, .arraylength, 1, 0, 30), (10, .if_icmp .lt 5, 3, 0, 15), (13, .aconst_null, 1, 0, 0), (14, .areturn, 1, 0, 0), (15, .aload_n 0, 1, 0, 0), (16, .getfield 11, 3, 0, 0), (19, .iload_n 1, 1, 0, 0), (20, .aaload, 1, 0, 30), (21, .astore_n 2, 1, 0, 0), (22, .aload_n 2, 1, 0, 0), (23, .getfield 35, 3, 0, 0), (26, .getstatic 39, 3, 0, 0), (29, .if_acmp .ne 7, 3, 0, 36), (32, .aconst_null, 1, 0, 0), (33, .goto 4, 3, 0, 37), (36, .aload_n 2, 1, 0, 0), (37, .areturn, 1, 0, 0)]
set_option maxRecDepth 100000 in
theorem tk_X4_find : q_tb cX4_find 3 tb_X4_find = true := by decide +kernel
set_option maxRecDepth 100000 in
theorem mw_X4_countEntered : q_mw yX4_countEntered cX4_countEntered 1 (Option.some Jvm.ClassFile.FieldType.int) 0 := ⟨q_t3 33 rfl rfl, by decide +kernel, by decide +kernel, q_init_QuillRelay_Race⟩
set_option maxRecDepth 100000 in
theorem mi_X4_countEntered : Cond.instanceMethod yX4_countEntered ∈ q_W := q_t3 31 rfl rfl
set_option maxRecDepth 100000 in
theorem me_X4_countEntered : Cond.selects yX4_countEntered.cls yX4_countEntered yX4_countEntered ∈ q_W := q_t3 32 rfl rfl
def tb_X4_countEntered : List q_E := [(0, .aload_n 0, 1, 0, 0), (1, .getfield 11, 3, 0, 0), (4, .arraylength, 1, 0, 30), (5, .aload_n 0, 1, 0, 0), (6, .getstatic 39, 3, 0, 0), (9, .invokevirtual 44, 3, 0, 0), (12, .isub, 1, 0, 0), (13, .ireturn, 1, 0, 0)]
set_option maxRecDepth 100000 in
theorem tk_X4_countEntered : q_tb cX4_countEntered 1 tb_X4_countEntered = true := by decide +kernel
set_option maxRecDepth 100000 in
theorem mw_X4_countRunning : q_mw yX4_countRunning cX4_countRunning 1 (Option.some Jvm.ClassFile.FieldType.int) 0 := ⟨q_t3 212 rfl rfl, by decide +kernel, by decide +kernel, q_init_QuillRelay_Race⟩
set_option maxRecDepth 100000 in
theorem mi_X4_countRunning : Cond.instanceMethod yX4_countRunning ∈ q_W := q_t3 210 rfl rfl
set_option maxRecDepth 100000 in
theorem me_X4_countRunning : Cond.selects yX4_countRunning.cls yX4_countRunning yX4_countRunning ∈ q_W := q_t3 211 rfl rfl
def tb_X4_countRunning : List q_E := [(0, .aload_n 0, 1, 0, 0), (1, .getstatic 48, 3, 0, 0), (4, .invokevirtual 44, 3, 0, 0), (7, .ireturn, 1, 0, 0)]
set_option maxRecDepth 100000 in
theorem tk_X4_countRunning : q_tb cX4_countRunning 1 tb_X4_countRunning = true := by decide +kernel
set_option maxRecDepth 100000 in
theorem mw_X4_countFinished : q_mw yX4_countFinished cX4_countFinished 1 (Option.some Jvm.ClassFile.FieldType.int) 0 := ⟨q_t6 145 rfl rfl, by decide +kernel, by decide +kernel, q_init_QuillRelay_Race⟩
set_option maxRecDepth 100000 in
theorem mi_X4_countFinished : Cond.instanceMethod yX4_countFinished ∈ q_W := q_t6 143 rfl rfl
set_option maxRecDepth 100000 in
theorem me_X4_countFinished : Cond.selects yX4_countFinished.cls yX4_countFinished yX4_countFinished ∈ q_W := q_t6 144 rfl rfl
def tb_X4_countFinished : List q_E := [(0, .aload_n 0, 1, 0, 0), (1, .getstatic 51, 3, 0, 0), (4, .invokevirtual 44, 3, 0, 0), (7, .ireturn, 1, 0, 0)]
set_option maxRecDepth 100000 in
theorem tk_X4_countFinished : q_tb cX4_countFinished 1 tb_X4_countFinished = true := by decide +kernel
set_option maxRecDepth 100000 in
theorem mw_X4_countIn : q_mw yX4_countIn cX4_countIn 7 (Option.some Jvm.ClassFile.FieldType.int) 1 := ⟨q_t3 38 rfl rfl, by decide +kernel, by decide +kernel, q_init_QuillRelay_Race⟩
set_option maxRecDepth 100000 in
theorem mi_X4_countIn : Cond.instanceMethod yX4_countIn ∈ q_W := q_t3 36 rfl rfl
set_option maxRecDepth 100000 in
theorem me_X4_countIn : Cond.selects yX4_countIn.cls yX4_countIn yX4_countIn ∈ q_W := q_s 3 rfl rfl
def tb_X4_countIn : List q_E := [(0, .iconst 0, 1, 0, 0), (1, .istore_n 2, 1, 0, 0), (2, .aload_n 0, 1, 0, 0), (3, .getfield 11, 3, 0, 0), (6, .astore_n 3, 1, 0, 0), (7, .aload_n 3, 1, 0, 0), (8, .arraylength, 1, 0, 30), (9, .istore 4, 2, 0, 0), (11, .iconst 0, 1, 0, 0), (12, .istore 5, 2, 0, 0), (14, .iload 5, 2, 0, 0), (16, .iload 4, 2, 0, 0), (18, .if_icmp .ge 27, 3, 0, 45), (21, .aload_n 3, 1, 0, 0), (22, .iload 5, 2, 0, 0), (24, .aaload, 1, 0, 30), (25, .astore 6, 2, 0, 0), (27, .aload 6, 2, 0, 0), (29, .getfield 35, 3, 0, 0), (32, .aload_n 1, 1, 0, 0), (33, .if_acmp .ne 6, 3, 0, 39), (36, .iinc 2 1, 3, 1, 0), (39, .iinc 5 1, 3, 1, 0), (42, .goto (-28), 3, 0, 14), (45, .iload_n 2, 1, 0, 0), (46, .ireturn, 1, 0, 0)]
set_option maxRecDepth 100000 in
theorem tk_X4_countIn : q_tb cX4_countIn 7 tb_X4_countIn = true := by decide +kernel
set_option maxRecDepth 100000 in
theorem mw_X4_sumOfTimes : q_mw yX4_sumOfTimes cX4_sumOfTimes 6 (Option.some Jvm.ClassFile.FieldType.int) 0 := ⟨q_t6 166 rfl rfl, by decide +kernel, by decide +kernel, q_init_QuillRelay_Race⟩
set_option maxRecDepth 100000 in
theorem mi_X4_sumOfTimes : Cond.instanceMethod yX4_sumOfTimes ∈ q_W := q_t6 164 rfl rfl
set_option maxRecDepth 100000 in
theorem me_X4_sumOfTimes : Cond.selects yX4_sumOfTimes.cls yX4_sumOfTimes yX4_sumOfTimes ∈ q_W := q_t6 165 rfl rfl
def tb_X4_sumOfTimes : List q_E := [(0, .iconst 0, 1, 0, 0), (1, .istore_n 1, 1, 0, 0), (2, .aload_n 0, 1, 0, 0), (3, .getfield 11, 3, 0, 0), (6, .astore_n 2, 1, 0, 0), (7, .aload_n 2, 1, 0, 0), (8, .arraylength, 1, 0, 30), (9, .istore_n 3, 1, 0, 0), (10, .iconst 0, 1, 0, 0), (11, .istore 4, 2, 0, 0), (13, .iload 4, 2, 0, 0), (15, .iload_n 3, 1, 0, 0), (16, .if_icmp .ge 34, 3, 0, 50), (19, .aload_n 2, 1, 0, 0), (20, .iload 4, 2, 0, 0), (22, .aaload, 1, 0, 30), (23, .astore 5, 2, 0, 0), (25, .aload 5, 2, 0, 0), (27, .getfield 35, 3, 0, 0), (30, .getstatic 51, 3, 0, 0), (33, .if_acmp .ne 11, 3, 0, 44), (36, .iload_n 1, 1, 0, 0), (37, .aload 5, 2, 0, 0), (39, .getfield 54, 3, 0, 0), (42, .iadd, 1, 0, 0), (43, .istore_n 1, 1, 0, 0), (44, .iinc 4 1, 3, 1, 0), (47, .goto (-34), 3, 0, 13), (50, .iload_n 1, 1, 0, 0), (51, .ireturn, 1, 0, 0)]
set_option maxRecDepth 100000 in
theorem tk_X4_sumOfTimes : q_tb cX4_sumOfTimes 6 tb_X4_sumOfTimes = true := by decide +kernel
set_option maxRecDepth 100000 in
theorem mw_X4_numberInLane : q_mw yX4_numberInLane cX4_numberInLane 6 (Option.some Jvm.ClassFile.FieldType.int) 1 := ⟨q_t6 128 rfl rfl, by decide +kernel, by decide +kernel, q_init_QuillRelay_Race⟩
set_option maxRecDepth 100000 in
theorem mi_X4_numberInLane : Cond.instanceMethod yX4_numberInLane ∈ q_W := q_t6 126 rfl rfl
set_option maxRecDepth 100000 in
theorem me_X4_numberInLane : Cond.selects yX4_numberInLane.cls yX4_numberInLane yX4_numberInLane ∈ q_W := q_t6 127 rfl rfl
def tb_X4_numberInLane : List q_E := [(0, .aload_n 0, 1, 0, 0), (1, .getfield 11, 3, 0, 0), (4, .astore_n 2, 1, 0, 0), (5, .aload_n 2, 1, 0, 0), (6, .arraylength, 1, 0, 30), (7, .istore_n 3, 1, 0, 0), (8, .iconst 0, 1, 0, 0), (9, .istore 4, 2, 0, 0), (11, .iload 4, 2, 0, 0), (13, .iload_n 3, 1, 0, 0), (14, .if_icmp .ge 41, 3, 0, 55), (17, .aload_n 2, 1, 0, 0), (18, .iload 4, 2, 0, 0), (20, .aaload, 1, 0, 30), (21, .astore 5, 2, 0, 0), (23, .aload 5, 2, 0, 0), (25, .getfield 35, 3, 0, 0), (28, .getstatic 39, 3, 0, 0), (31, .if_acmp .eq 18, 3, 0, 49), (34, .aload 5, 2, 0, 0), (36, .getfield 57, 3, 0, 0), (39, .iload_n 1, 1, 0, 0), (40, .if_icmp .ne 9, 3, 0, 49), (43, .aload 5, 2, 0, 0), (45, .getfield 60, 3, 0, 0), (48, .ireturn, 1, 0, 0), (49, .iinc 4 1, 3, 1, 0), (52, .goto (-41), 3, 0, 11), (55, .iconst (-1), 1, (-1), 0), (56, .ireturn, 1, 0, 0)]
set_option maxRecDepth 100000 in
theorem tk_X4_numberInLane : q_tb cX4_numberInLane 6 tb_X4_numberInLane = true := by decide +kernel
set_option maxRecDepth 100000 in
theorem mw_X4_numberAtRank : q_mw yX4_numberAtRank cX4_numberAtRank 6 (Option.some Jvm.ClassFile.FieldType.int) 1 := ⟨q_t4 19 rfl rfl, by decide +kernel, by decide +kernel, q_init_QuillRelay_Race⟩
set_option maxRecDepth 100000 in
theorem mi_X4_numberAtRank : Cond.instanceMethod yX4_numberAtRank ∈ q_W := q_t4 17 rfl rfl
set_option maxRecDepth 100000 in
theorem me_X4_numberAtRank : Cond.selects yX4_numberAtRank.cls yX4_numberAtRank yX4_numberAtRank ∈ q_W := q_t4 18 rfl rfl
def tb_X4_numberAtRank : List q_E := [(0, .aload_n 0, 1, 0, 0), (1, .getfield 11, 3, 0, 0), (4, .astore_n 2, 1, 0, 0), (5, .aload_n 2, 1, 0, 0), (6, .arraylength, 1, 0, 30), (7, .istore_n 3, 1, 0, 0), (8, .iconst 0, 1, 0, 0), (9, .istore 4, 2, 0, 0), (11, .iload 4, 2, 0, 0), (13, .iload_n 3, 1, 0, 0), (14, .if_icmp .ge 42, 3, 0, 56), (17, .aload_n 2, 1, 0, 0), (18, .iload 4, 2, 0, 0), (20, .aaload, 1, 0, 30), (21, .astore 5, 2, 0, 0), (23, .aload 5, 2, 0, 0), (25, .getfield 35, 3, 0, 0), (28, .getstatic 39, 3, 0, 0), (31, .if_acmp .eq 19, 3, 0, 50), (34, .aload_n 0, 1, 0, 0), (35, .aload 5, 2, 0, 0), (37, .invokevirtual 63, 3, 0, 0), (40, .iload_n 1, 1, 0, 0), (41, .if_icmp .ne 9, 3, 0, 50), (44, .aload 5, 2, 0, 0), (46, .getfield 60, 3, 0, 0), (49, .ireturn, 1, 0, 0), (50, .iinc 4 1, 3, 1, 0), (53, .goto (-42), 3, 0, 11), (56, .iconst (-1), 1, (-1), 0), (57, .ireturn, 1, 0, 0)]
set_option maxRecDepth 100000 in
theorem tk_X4_numberAtRank : q_tb cX4_numberAtRank 6 tb_X4_numberAtRank = true := by decide +kernel
set_option maxRecDepth 100000 in
theorem mw_X4_countAhead : q_mw yX4_countAhead cX4_countAhead 7 (Option.some Jvm.ClassFile.FieldType.int) 1 := ⟨q_t4 23 rfl rfl, by decide +kernel, by decide +kernel, q_init_QuillRelay_Race⟩
set_option maxRecDepth 100000 in
theorem mi_X4_countAhead : Cond.instanceMethod yX4_countAhead ∈ q_W := q_t4 21 rfl rfl
set_option maxRecDepth 100000 in
theorem me_X4_countAhead : Cond.selects yX4_countAhead.cls yX4_countAhead yX4_countAhead ∈ q_W := q_t4 22 rfl rfl
def tb_X4_countAhead : List q_E := [(0, .iconst 0, 1, 0, 0), (1, .istore_n 2, 1, 0, 0), (2, .aload_n 0, 1, 0, 0), (3, .getfield 11, 3, 0, 0), (6, .astore_n 3, 1, 0, 0), (7, .aload_n 3, 1, 0, 0), (8, .arraylength, 1, 0, 30), (9, .istore 4, 2, 0, 0), (11, .iconst 0, 1, 0, 0), (12, .istore 5, 2, 0, 0), (14, .iload 5, 2, 0, 0), (16, .iload 4, 2, 0, 0), (18, .if_icmp .ge 38, 3, 0, 56), (21, .aload_n 3, 1, 0, 0), (22, .iload 5, 2, 0, 0), (24, .aaload, 1, 0, 30), (25, .astore 6, 2, 0, 0), (27, .aload 6, 2, 0, 0), (29, .getfield 35, 3, 0, 0), (32, .getstatic 39, 3, 0, 0), (35, .if_acmp .eq 15, 3, 0, 50), (38, .aload 6, 2, 0, 0), (40, .aload_n 1, 1, 0, 0), (41, .invokevirtual 67, 3, 0, 0), (44, .ifCond .eq 6, 3, 0, 50), (47, .iinc 2 1, 3, 1, 0), (50, .iinc 5 1, 3, 1, 0), (53, .goto (-39), 3, 0, 14), (56, .iload_n 2, 1, 0, 0), (57, .ireturn, 1, 0, 0)]
set_option maxRecDepth 100000 in
theorem tk_X4_countAhead : q_tb cX4_countAhead 7 tb_X4_countAhead = true := by decide +kernel
set_option maxRecDepth 100000 in
theorem mw_X4_faultOfEntering : q_mw yX4_faultOfEntering cX4_faultOfEntering 1 (Option.some (Jvm.ClassFile.FieldType.object "QuillRelay$Fault")) 0 := ⟨q_t5 74 rfl rfl, by decide +kernel, by decide +kernel, q_init_QuillRelay_Race⟩
set_option maxRecDepth 100000 in
theorem mi_X4_faultOfEntering : Cond.instanceMethod yX4_faultOfEntering ∈ q_W := q_t5 72 rfl rfl
set_option maxRecDepth 100000 in
theorem me_X4_faultOfEntering : Cond.selects yX4_faultOfEntering.cls yX4_faultOfEntering yX4_faultOfEntering ∈ q_W := q_t5 73 rfl rfl
def tb_X4_faultOfEntering : List q_E := [(0, .aload_n 0, 1, 0, 0), (1, .getfield 28, 3, 0, 0), (4, .ifCond .ne 15, 3, 0, 19), (7, .aload_n 0, 1, 0, 0), (8, .invokevirtual 71, 3, 0, 0), (11, .aload_n 0, 1, 0, 0), (12, .getfield 11, 3, 0, 0), (15, .arraylength, 1, 0, 30), (16, .if_icmp .lt 9, 3, 0, 25), (19, .getstatic 75, 3, 0, 0), (22, .goto 6, 3, 0, 28), (25, .getstatic 81, 3, 0, 0), (28, .areturn, 1, 0, 0)]
set_option maxRecDepth 100000 in
theorem tk_X4_faultOfEntering : q_tb cX4_faultOfEntering 1 tb_X4_faultOfEntering = true := by decide +kernel
set_option maxRecDepth 100000 in
theorem mw_X4_faultOfSpeed : q_mw yX4_faultOfSpeed cX4_faultOfSpeed 4 (Option.some (Jvm.ClassFile.FieldType.object "QuillRelay$Fault")) 3 := ⟨q_t5 89 rfl rfl, by decide +kernel, by decide +kernel, q_init_QuillRelay_Race⟩
set_option maxRecDepth 100000 in
theorem mi_X4_faultOfSpeed : Cond.instanceMethod yX4_faultOfSpeed ∈ q_W := q_t5 87 rfl rfl
set_option maxRecDepth 100000 in
theorem me_X4_faultOfSpeed : Cond.selects yX4_faultOfSpeed.cls yX4_faultOfSpeed yX4_faultOfSpeed ∈ q_W := q_t5 88 rfl rfl
def tb_X4_faultOfSpeed : List q_E := [(0, .aload_n 0, 1, 0, 0), (1, .iload_n 1, 1, 0, 0), (2, .invokevirtual 84, 3, 0, 0), (5, .ifnull 10, 3, 0, 15), (8, .iload_n 2, 1, 0, 0), (9, .invokestatic 88, 3, 0, 0), (12, .ifCond .ne 7, 3, 0, 19), (15, .getstatic 92, 3, 0, 0), (18, .areturn, 1, 0, 0), (19, .iload_n 3, 1, 0, 0), (20, .bipush 20, 2, 20, 0), (22, .if_icmp .lt 9, 3, 0, 31), (25, .iload_n 3, 1, 0, 0), (26, .bipush 99, 2, 99, 0), (28, .if_icmp .le 7, 3, 0, 35), (31, .getstatic 95, 3, 0, 0), (34, .areturn, 1, 0, 0), (35, .aload_n 0, 1, 0, 0), (36, .getfield 28, 3, 0, 0), (39, .ifCond .eq 9, 3, 0, 48), (42, .getstatic 75, 3, 0, 0), (45, .goto 6, 3, 0, 51), (48, .getstatic 81, 3, 0, 0), (51, .areturn, 1, 0, 0)]
set_option maxRecDepth 100000 in
theorem tk_X4_faultOfSpeed : q_tb cX4_faultOfSpeed 4 tb_X4_faultOfSpeed = true := by decide +kernel
set_option maxRecDepth 100000 in
theorem mw_X4_faultOfLength : q_mw yX4_faultOfLength cX4_faultOfLength 2 (Option.some (Jvm.ClassFile.FieldType.object "QuillRelay$Fault")) 1 := ⟨q_t5 105 rfl rfl, by decide +kernel, by decide +kernel, q_init_QuillRelay_Race⟩
set_option maxRecDepth 100000 in
theorem mi_X4_faultOfLength : Cond.instanceMethod yX4_faultOfLength ∈ q_W := q_t5 103 rfl rfl
set_option maxRecDepth 100000 in
theorem me_X4_faultOfLength : Cond.selects yX4_faultOfLength.cls yX4_faultOfLength yX4_faultOfLength ∈ q_W := q_t5 104 rfl rfl
def tb_X4_faultOfLength : List q_E := [(0, .iload_n 1, 1, 0, 0), (1, .sipush 400, 3, 400, 0), (4, .if_icmp .lt 10, 3, 0, 14), (7, .iload_n 1, 1, 0, 0), (8, .sipush 4000, 3, 4000, 0), (11, .if_icmp .le 7, 3, 0, 18), (14, .getstatic 95, 3, 0, 0), (17, .areturn, 1, 0, 0), (18, .aload_n 0, 1, 0, 0), (19, .getfield 28, 3, 0, 0), (22, .ifCond .eq 9, 3, 0, 31), (25, .getstatic 75, 3, 0, 0), (28, .goto 6, 3, 0, 34), (31, .getstatic 81, 3, 0, 0), (34, .areturn, 1, 0, 0)]
set_option maxRecDepth 100000 in
theorem tk_X4_faultOfLength : q_tb cX4_faultOfLength 2 tb_X4_faultOfLength = true := by decide +kernel
set_option maxRecDepth 100000 in
theorem mw_X4_faultOfDrawing : q_mw yX4_faultOfDrawing cX4_faultOfDrawing 2 (Option.some (Jvm.ClassFile.FieldType.object "QuillRelay$Fault")) 1 := ⟨q_t5 116 rfl rfl, by decide +kernel, by decide +kernel, q_init_QuillRelay_Race⟩
set_option maxRecDepth 100000 in
theorem mi_X4_faultOfDrawing : Cond.instanceMethod yX4_faultOfDrawing ∈ q_W := q_t5 114 rfl rfl
set_option maxRecDepth 100000 in
theorem me_X4_faultOfDrawing : Cond.selects yX4_faultOfDrawing.cls yX4_faultOfDrawing yX4_faultOfDrawing ∈ q_W := q_t5 115 rfl rfl
def tb_X4_faultOfDrawing : List q_E := [(0, .iload_n 1, 1, 0, 0), (1, .ifCond .lt 10, 3, 0, 11), (4, .iload_n 1, 1, 0, 0), (5, .sipush 999, 3, 999, 0), (8, .if_icmp .le 7, 3, 0, 15), (11, .getstatic 95, 3, 0, 0), (14, .areturn, 1, 0, 0), (15, .aload_n 0, 1, 0, 0), (16, .invokevirtual 98, 3, 0, 0), (19, .areturn, 1, 0, 0)]
set_option maxRecDepth 100000 in
theorem tk_X4_faultOfDrawing : q_tb cX4_faultOfDrawing 2 tb_X4_faultOfDrawing = true := by decide +kernel
set_option maxRecDepth 100000 in
theorem mw_X4_faultOfStarting : q_mw yX4_faultOfStarting cX4_faultOfStarting 1 (Option.some (Jvm.ClassFile.FieldType.object "QuillRelay$Fault")) 0 := ⟨q_t3 29 rfl rfl, by decide +kernel, by decide +kernel, q_init_QuillRelay_Race⟩
set_option maxRecDepth 100000 in
theorem mi_X4_faultOfStarting : Cond.instanceMethod yX4_faultOfStarting ∈ q_W := q_t3 27 rfl rfl
set_option maxRecDepth 100000 in
theorem me_X4_faultOfStarting : Cond.selects yX4_faultOfStarting.cls yX4_faultOfStarting yX4_faultOfStarting ∈ q_W := q_t3 28 rfl rfl
def tb_X4_faultOfStarting : List q_E := [(0, .aload_n 0, 1, 0, 0), (1, .getfield 28, 3, 0, 0), (4, .ifCond .ne 10, 3, 0, 14), (7, .aload_n 0, 1, 0, 0), (8, .invokevirtual 71, 3, 0, 0), (11, .ifCond .ne 9, 3, 0, 20), (14, .getstatic 75, 3, 0, 0), (17, .goto 6, 3, 0, 23), (20, .getstatic 81, 3, 0, 0), (23, .areturn, 1, 0, 0)]
set_option maxRecDepth 100000 in
theorem tk_X4_faultOfStarting : q_tb cX4_faultOfStarting 1 tb_X4_faultOfStarting = true := by decide +kernel
set_option maxRecDepth 100000 in
theorem mw_X4_faultOfRunning : q_mw yX4_faultOfRunning cX4_faultOfRunning 2 (Option.some (Jvm.ClassFile.FieldType.object "QuillRelay$Fault")) 1 := ⟨q_t3 115 rfl rfl, by decide +kernel, by decide +kernel, q_init_QuillRelay_Race⟩
set_option maxRecDepth 100000 in
theorem mi_X4_faultOfRunning : Cond.instanceMethod yX4_faultOfRunning ∈ q_W := q_t3 113 rfl rfl
set_option maxRecDepth 100000 in
theorem me_X4_faultOfRunning : Cond.selects yX4_faultOfRunning.cls yX4_faultOfRunning yX4_faultOfRunning ∈ q_W := q_t3 114 rfl rfl
def tb_X4_faultOfRunning : List q_E := [(0, .iload_n 1, 1, 0, 0), (1, .iconst 1, 1, 1, 0), (2, .if_icmp .lt 10, 3, 0, 12), (5, .iload_n 1, 1, 0, 0), (6, .sipush 200, 3, 200, 0), (9, .if_icmp .le 7, 3, 0, 16), (12, .getstatic 95, 3, 0, 0), (15, .areturn, 1, 0, 0), (16, .aload_n 0, 1, 0, 0), (17, .getfield 28, 3, 0, 0), (20, .ifCond .eq 9, 3, 0, 29), (23, .getstatic 81, 3, 0, 0), (26, .goto 6, 3, 0, 32), (29, .getstatic 75, 3, 0, 0), (32, .areturn, 1, 0, 0)]
set_option maxRecDepth 100000 in
theorem tk_X4_faultOfRunning : q_tb cX4_faultOfRunning 2 tb_X4_faultOfRunning = true := by decide +kernel
set_option maxRecDepth 100000 in
theorem mw_X4_faultOfDropping : q_mw yX4_faultOfDropping cX4_faultOfDropping 3 (Option.some (Jvm.ClassFile.FieldType.object "QuillRelay$Fault")) 2 := ⟨q_t3 186 rfl rfl, by decide +kernel, by decide +kernel, q_init_QuillRelay_Race⟩
set_option maxRecDepth 100000 in
theorem mi_X4_faultOfDropping : Cond.instanceMethod yX4_faultOfDropping ∈ q_W := q_t3 184 rfl rfl
set_option maxRecDepth 100000 in
theorem me_X4_faultOfDropping : Cond.selects yX4_faultOfDropping.cls yX4_faultOfDropping yX4_faultOfDropping ∈ q_W := q_t3 185 rfl rfl
def tb_X4_faultOfDropping : List q_E := [(0, .aload_n 0, 1, 0, 0), (1, .iload_n 1, 1, 0, 0), (2, .invokevirtual 84, 3, 0, 0), (5, .ifnonnull 7, 3, 0, 12), (8, .getstatic 92, 3, 0, 0), (11, .areturn, 1, 0, 0), (12, .iload_n 2, 1, 0, 0), (13, .iconst 1, 1, 1, 0), (14, .if_icmp .lt 9, 3, 0, 23), (17, .iload_n 2, 1, 0, 0), (18, .bipush 20, 2, 20, 0), (20, .if_icmp .le 7, 3, 0, 27), (23, .getstatic 95, 3, 0, 0), (26, .areturn, 1, 0, 0), (27, .aload_n 0, 1, 0, 0), (28, .iload_n 1, 1, 0, 0), (29, .invokevirtual 102, 3, 0, 0), (32, .areturn, 1, 0, 0)]
set_option maxRecDepth 100000 in
theorem tk_X4_faultOfDropping : q_tb cX4_faultOfDropping 3 tb_X4_faultOfDropping = true := by decide +kernel
set_option maxRecDepth 100000 in
theorem mw_X4_faultOfWithdrawing : q_mw yX4_faultOfWithdrawing cX4_faultOfWithdrawing 3 (Option.some (Jvm.ClassFile.FieldType.object "QuillRelay$Fault")) 1 := ⟨q_t3 192 rfl rfl, by decide +kernel, by decide +kernel, q_init_QuillRelay_Race⟩
set_option maxRecDepth 100000 in
theorem mi_X4_faultOfWithdrawing : Cond.instanceMethod yX4_faultOfWithdrawing ∈ q_W := q_t3 190 rfl rfl
set_option maxRecDepth 100000 in
theorem me_X4_faultOfWithdrawing : Cond.selects yX4_faultOfWithdrawing.cls yX4_faultOfWithdrawing yX4_faultOfWithdrawing ∈ q_W := q_t3 191 rfl rfl
def tb_X4_faultOfWithdrawing : List q_E := [(0, .aload_n 0, 1, 0, 0), (1, .iload_n 1, 1, 0, 0), (2, .invokevirtual 84, 3, 0, 0), (5, .astore_n 2, 1, 0, 0), (6, .aload_n 2, 1, 0, 0), (7, .ifnonnull 7, 3, 0, 14), (10, .getstatic 92, 3, 0, 0), (13, .areturn, 1, 0, 0), (14, .aload_n 2, 1, 0, 0), (15, .getfield 35, 3, 0, 0), (18, .getstatic 48, 3, 0, 0), (21, .if_acmp .ne 9, 3, 0, 30), (24, .getstatic 81, 3, 0, 0), (27, .goto 6, 3, 0, 33), (30, .getstatic 75, 3, 0, 0), (33, .areturn, 1, 0, 0)]
set_option maxRecDepth 100000 in
theorem tk_X4_faultOfWithdrawing : q_tb cX4_faultOfWithdrawing 3 tb_X4_faultOfWithdrawing = true := by decide +kernel
set_option maxRecDepth 100000 in
theorem mw_X4_faultOfProtesting : q_mw yX4_faultOfProtesting cX4_faultOfProtesting 4 (Option.some (Jvm.ClassFile.FieldType.object "QuillRelay$Fault")) 3 := ⟨q_t4 91 rfl rfl, by decide +kernel, by decide +kernel, q_init_QuillRelay_Race⟩
set_option maxRecDepth 100000 in
theorem mi_X4_faultOfProtesting : Cond.instanceMethod yX4_faultOfProtesting ∈ q_W := q_t4 89 rfl rfl
set_option maxRecDepth 100000 in
theorem me_X4_faultOfProtesting : Cond.selects yX4_faultOfProtesting.cls yX4_faultOfProtesting yX4_faultOfProtesting ∈ q_W := q_t4 90 rfl rfl
def tb_X4_faultOfProtesting : List q_E := [(0, .aload_n 0, 1, 0, 0), (1, .iload_n 1, 1, 0, 0), (2, .invokevirtual 84, 3, 0, 0), (5, .ifnull 11, 3, 0, 16), (8, .aload_n 0, 1, 0, 0), (9, .iload_n 2, 1, 0, 0), (10, .invokevirtual 84, 3, 0, 0), (13, .ifnonnull 7, 3, 0, 20), (16, .getstatic 92, 3, 0, 0), (19, .areturn, 1, 0, 0), (20, .iload_n 1, 1, 0, 0), (21, .iload_n 2, 1, 0, 0), (22, .if_icmp .eq 10, 3, 0, 32), (25, .iload_n 3, 1, 0, 0), (26, .invokestatic 106, 3, 0, 0), (29, .ifCond .ne 7, 3, 0, 36), (32, .getstatic 95, 3, 0, 0), (35, .areturn, 1, 0, 0), (36, .aload_n 0, 1, 0, 0), (37, .getfield 28, 3, 0, 0), (40, .ifCond .eq 9, 3, 0, 49), (43, .getstatic 81, 3, 0, 0), (46, .goto 6, 3, 0, 52), (49, .getstatic 75, 3, 0, 0), (52, .areturn, 1, 0, 0)]
set_option maxRecDepth 100000 in
theorem tk_X4_faultOfProtesting : q_tb cX4_faultOfProtesting 4 tb_X4_faultOfProtesting = true := by decide +kernel
set_option maxRecDepth 100000 in
theorem mw_X4_enterTeam : q_mw yX4_enterTeam cX4_enterTeam 5 (Option.some Jvm.ClassFile.FieldType.int) 0 := ⟨q_t5 78 rfl rfl, by decide +kernel, by decide +kernel, q_init_QuillRelay_Race⟩
set_option maxRecDepth 100000 in
theorem mi_X4_enterTeam : Cond.instanceMethod yX4_enterTeam ∈ q_W := q_t5 76 rfl rfl
set_option maxRecDepth 100000 in
theorem me_X4_enterTeam : Cond.selects yX4_enterTeam.cls yX4_enterTeam yX4_enterTeam ∈ q_W := q_t5 77 rfl rfl
def tb_X4_enterTeam : List q_E := [(0, .aload_n 0, 1, 0, 0), (1, .getfield 11, 3, 0, 0), (4, .astore_n 1, 1, 0, 0), (5, .aload_n 1, 1, 0, 0), (6, .arraylength, 1, 0, 30), (7, .istore_n 2, 1, 0, 0), (8, .iconst 0, 1, 0, 0), (9, .istore_n 3, 1, 0, 0), (10, .iload_n 3, 1, 0, 0), (11, .iload_n 2, 1, 0, 0), (12, .if_icmp .ge 39, 3, 0, 51), (15, .aload_n 1, 1, 0, 0), (16, .iload_n 3, 1, 0, 0), (17, .aaload, 1, 0, 30), (18, .astore 4, 2, 0, 0), (20, .aload 4, 2, 0, 0), (22, .getfield 35, 3, 0, 0), (25, .getstatic 39, 3, 0, 0), (28, .if_acmp .ne 17, 3, 0, 45), (31, .aload 4, 2, 0, 0), (33, .getstatic 109, 3, 0, 0), (36, .putfield 35, 3, 0, 0), (39, .aload 4, 2, 0, 0), (41, .getfield 60, 3, 0, 0), (44, .ireturn, 1, 0, 0), (45, .iinc 3 1, 3, 1, 0), (48, .goto (-38), 3, 0, 10), (51, .iconst (-1), 1, (-1), 0), (52, .ireturn, 1, 0, 0)]
set_option maxRecDepth 100000 in
theorem tk_X4_enterTeam : q_tb cX4_enterTeam 5 tb_X4_enterTeam = true := by decide +kernel
set_option maxRecDepth 100000 in
theorem mw_X4_shuffleLanes : q_mw yX4_shuffleLanes cX4_shuffleLanes 9 (Option.none : Option Jvm.ClassFile.FieldType) 1 := ⟨q_t5 121 rfl rfl, by decide +kernel, by decide +kernel, q_init_QuillRelay_Race⟩
set_option maxRecDepth 100000 in
theorem mi_X4_shuffleLanes : Cond.instanceMethod yX4_shuffleLanes ∈ q_W := q_t5 119 rfl rfl
set_option maxRecDepth 100000 in
theorem me_X4_shuffleLanes : Cond.selects yX4_shuffleLanes.cls yX4_shuffleLanes yX4_shuffleLanes ∈ q_W := q_t5 120 rfl rfl
def tb_X4_shuffleLanes : List q_E := [(0, .aload_n 0, 1, 0, 0), (1, .invokevirtual 71, 3, 0, 0), (4, .istore_n 2, 1, 0, 0), (5, .iload_n 2, 1, 0, 0), (6, .istore_n 3, 1, 0, 0), (7, .iload_n 1, 1, 0, 0), (8, .istore 4, 2, 0, 0), (10, .aload_n 0, 1, 0, 0), (11, .getfield 11, 3, 0, 0), (14, .astore 5, 2, 0, 0), (16, .aload 5, 2, 0, 0), (18, .arraylength, 1, 0, 30), (19, .istore 6, 2, 0, 0), (21, .iconst 0, 1, 0, 0), (22, .istore 7, 2, 0, 0), (24, .iload 7, 2, 0, 0), (26, .iload 6, 2, 0, 0), (28, .if_icmp .ge 54, 3, 0, 82), (31, .aload 5, 2, 0, 0), (33, .iload 7, 2, 0, 0), (35, .aaload, 1, 0, 30), (36, .astore 8, 2, 0, 0), (38, .iload_n 3, 1, 0, 0), (39, .ifCond .le 37, 3, 0, 76), (42, .iconst 5, 1, 5, 0), (43, .iload 4, 2, 0, 0), (45, .imul, 1, 0, 0), (46, .iconst 3, 1, 3, 0), (47, .iadd, 1, 0, 0), (48, .sipush 1000, 3, 1000, 0), (51, .irem, 1, 0, 0), (52, .istore 4, 2, 0, 0), (54, .aload 8, 2, 0, 0), (56, .aload_n 0, 1, 0, 0), (57, .iload_n 2, 1, 0, 0), (58, .aload 8, 2, 0, 0), (60, .getfield 60, 3, 0, 0), (63, .iload 4, 2, 0, 0), (65, .iload_n 3, 1, 0, 0), (66, .irem, 1, 0, 0), (67, .invokevirtual 112, 3, 0, 0), (70, .putfield 57, 3, 0, 0), (73, .iinc 3 (-1), 3, (-1), 0), (76, .iinc 7 1, 3, 1, 0), (79, .goto (-55), 3, 0, 24), (82, .return_, 1, 0, 0)]
set_option maxRecDepth 100000 in
theorem tk_X4_shuffleLanes : q_tb cX4_shuffleLanes 9 tb_X4_shuffleLanes = true := by decide +kernel
set_option maxRecDepth 100000 in
theorem mw_X4_freeLane : q_mw yX4_freeLane cX4_freeLane 6 (Option.some Jvm.ClassFile.FieldType.int) 3 := ⟨q_t5 125 rfl rfl, by decide +kernel, by decide +kernel, q_init_QuillRelay_Race⟩
set_option maxRecDepth 100000 in
theorem mi_X4_freeLane : Cond.instanceMethod yX4_freeLane ∈ q_W := q_t5 124 rfl rfl
set_option maxRecDepth 100000 in
theorem me_X4_freeLane : Cond.selects yX4_freeLane.cls yX4_freeLane yX4_freeLane ∈ q_W := q_s 8 rfl rfl
def tb_X4_freeLane : List q_E := [(0, .iconst 0, 1, 0, 0), (1, .istore 4, 2, 0, 0), (3, .iconst 1, 1, 1, 0), (4, .istore 5, 2, 0, 0), (6, .iload 5, 2, 0, 0), (8, .iload_n 1, 1, 0, 0), (9, .if_icmp .gt 31, 3, 0, 40), (12, .aload_n 0, 1, 0, 0), (13, .iload 5, 2, 0, 0), (15, .iload_n 2, 1, 0, 0), (16, .invokevirtual 116, 3, 0, 0), (19, .ifCond .ne 15, 3, 0, 34), (22, .iload 4, 2, 0, 0), (24, .iload_n 3, 1, 0, 0), (25, .if_icmp .ne 6, 3, 0, 31), (28, .iload 5, 2, 0, 0), (30, .ireturn, 1, 0, 0), (31, .iinc 4 1, 3, 1, 0), (34, .iinc 5 1, 3, 1, 0), (37, .goto (-31), 3, 0, 6), (40, .iload_n 1, 1, 0, 0), (41, .ireturn, 1, 0, 0)]
set_option maxRecDepth 100000 in
theorem tk_X4_freeLane : q_tb cX4_freeLane 6 tb_X4_freeLane = true := by decide +kernel
set_option maxRecDepth 100000 in
theorem mw_X4_isTaken : q_mw yX4_isTaken cX4_isTaken 7 (Option.some Jvm.ClassFile.FieldType.boolean) 2 := ⟨q_t5 129 rfl rfl, by decide +kernel, by decide +kernel, q_init_QuillRelay_Race⟩
set_option maxRecDepth 100000 in
theorem mi_X4_isTaken : Cond.instanceMethod yX4_isTaken ∈ q_W := q_t5 128 rfl rfl
set_option maxRecDepth 100000 in
theorem me_X4_isTaken : Cond.selects yX4_isTaken.cls yX4_isTaken yX4_isTaken ∈ q_W := q_s 9 rfl rfl
def tb_X4_isTaken : List q_E := [(0, .aload_n 0, 1, 0, 0), (1, .getfield 11, 3, 0, 0), (4, .astore_n 3, 1, 0, 0), (5, .aload_n 3, 1, 0, 0), (6, .arraylength, 1, 0, 30), (7, .istore 4, 2, 0, 0), (9, .iconst 0, 1, 0, 0), (10, .istore 5, 2, 0, 0), (12, .iload 5, 2, 0, 0), (14, .iload 4, 2, 0, 0), (16, .if_icmp .ge 35, 3, 0, 51), (19, .aload_n 3, 1, 0, 0), (20, .iload 5, 2, 0, 0), (22, .aaload, 1, 0, 30), (23, .astore 6, 2, 0, 0), (25, .aload 6, 2, 0, 0), (27, .getfield 60, 3, 0, 0), (30, .iload_n 2, 1, 0, 0), (31, .if_icmp .ge 14, 3, 0, 45), (34, .aload 6, 2, 0, 0), (36, .getfield 57, 3, 0, 0), (39, .iload_n 1, 1, 0, 0), (40, .if_icmp .ne 5, 3, 0, 45), (43, .iconst 1, 1, 1, 0), (44, .ireturn, 1, 0, 0), (45, .iinc 5 1, 3, 1, 0), (48, .goto (-36), 3, 0, 12), (51, .iconst 0, 1, 0, 0), (52, .ireturn, 1, 0, 0)]
set_option maxRecDepth 100000 in
theorem tk_X4_isTaken : q_tb cX4_isTaken 7 tb_X4_isTaken = true := by decide +kernel
set_option maxRecDepth 100000 in
theorem mw_X4_begin : q_mw yX4_begin cX4_begin 5 (Option.none : Option Jvm.ClassFile.FieldType) 0 := ⟨q_t3 98 rfl rfl, by decide +kernel, by decide +kernel, q_init_QuillRelay_Race⟩
set_option maxRecDepth 100000 in
theorem mi_X4_begin : Cond.instanceMethod yX4_begin ∈ q_W := q_t3 96 rfl rfl
set_option maxRecDepth 100000 in
theorem me_X4_begin : Cond.selects yX4_begin.cls yX4_begin yX4_begin ∈ q_W := q_t3 97 rfl rfl
def tb_X4_begin : List q_E := [(0, .aload_n 0, 1, 0, 0), (1, .iconst 1, 1, 1, 0), (2, .putfield 28, 3, 0, 0), (5, .aload_n 0, 1, 0, 0), (6, .getfield 11, 3, 0, 0), (9, .astore_n 1, 1, 0, 0), (10, .aload_n 1, 1, 0, 0), (11, .arraylength, 1, 0, 30), (12, .istore_n 2, 1, 0, 0), (13, .iconst 0, 1, 0, 0), (14, .istore_n 3, 1, 0, 0), (15, .iload_n 3, 1, 0, 0), (16, .iload_n 2, 1, 0, 0), (17, .if_icmp .ge 33, 3, 0, 50), (20, .aload_n 1, 1, 0, 0), (21, .iload_n 3, 1, 0, 0), (22, .aaload, 1, 0, 30), (23, .astore 4, 2, 0, 0), (25, .aload 4, 2, 0, 0), (27, .getfield 35, 3, 0, 0), (30, .getstatic 109, 3, 0, 0), (33, .if_acmp .ne 11, 3, 0, 44), (36, .aload 4, 2, 0, 0), (38, .getstatic 48, 3, 0, 0), (41, .putfield 35, 3, 0, 0), (44, .iinc 3 1, 3, 1, 0), (47, .goto (-32), 3, 0, 15), (50, .return_, 1, 0, 0)]
set_option maxRecDepth 100000 in
theorem tk_X4_begin : q_tb cX4_begin 5 tb_X4_begin = true := by decide +kernel
set_option maxRecDepth 100000 in
theorem mw_X4_letSecondsPass : q_mw yX4_letSecondsPass cX4_letSecondsPass 8 (Option.some Jvm.ClassFile.FieldType.int) 1 := ⟨q_t3 120 rfl rfl, by decide +kernel, by decide +kernel, q_init_QuillRelay_Race⟩
set_option maxRecDepth 100000 in
theorem mi_X4_letSecondsPass : Cond.instanceMethod yX4_letSecondsPass ∈ q_W := q_t3 118 rfl rfl
set_option maxRecDepth 100000 in
theorem me_X4_letSecondsPass : Cond.selects yX4_letSecondsPass.cls yX4_letSecondsPass yX4_letSecondsPass ∈ q_W := q_t3 119 rfl rfl
def tb_X4_letSecondsPass : List q_E := [(0, .iconst 0, 1, 0, 0), (1, .istore_n 2, 1, 0, 0), (2, .iconst 0, 1, 0, 0), (3, .istore_n 3, 1, 0, 0), (4, .iload_n 3, 1, 0, 0), (5, .iload_n 1, 1, 0, 0), (6, .if_icmp .ge 83, 3, 0, 89), (9, .aload_n 0, 1, 0, 0), (10, .dup, 1, 0, 0), (11, .getfield 32, 3, 0, 0), (14, .iconst 1, 1, 1, 0), (15, .iadd, 1, 0, 0), (16, .putfield 32, 3, 0, 0), (19, .aload_n 0, 1, 0, 0), (20, .getfield 11, 3, 0, 0), (23, .astore 4, 2, 0, 0), (25, .aload 4, 2, 0, 0), (27, .arraylength, 1, 0, 30), (28, .istore 5, 2, 0, 0), (30, .iconst 0, 1, 0, 0), (31, .istore 6, 2, 0, 0), (33, .iload 6, 2, 0, 0), (35, .iload 5, 2, 0, 0), (37, .if_icmp .ge 46, 3, 0, 83), (40, .aload 4, 2, 0, 0), (42, .iload 6, 2, 0, 0), (44, .aaload, 1, 0, 30), (45, .astore 7, 2, 0, 0), (47, .aload 7, 2, 0, 0), (49, .getfield 35, 3, 0, 0), (52, .getstatic 48, 3, 0, 0), (55, .if_acmp .ne 22, 3, 0, 77), (58, .aload 7, 2, 0, 0), (60, .aload_n 0, 1, 0, 0), (61, .getfield 20, 3, 0, 0), (64, .aload_n 0, 1, 0, 0), (65, .getfield 32, 3, 0, 0), (68, .invokevirtual 120, 3, 0, 0), (71, .ifCond .eq 6, 3, 0, 77), (74, .iinc 2 1, 3, 1, 0), (77, .iinc 6 1, 3, 1, 0), (80, .goto (-47), 3, 0, 33), (83, .iinc 3 1, 3, 1, 0), (86, .goto (-82), 3, 0, 4), (89, .iload_n 2, 1, 0, 0), (90, .ireturn, 1, 0, 0)]
set_option maxRecDepth 100000 in
theorem tk_X4_letSecondsPass : q_tb cX4_letSecondsPass 8 tb_X4_letSecondsPass = true := by decide +kernel
set_option maxRecDepth 100000 in
theorem mw_X4_handOver : q_mw yX4_handOver cX4_handOver 3 (Option.some Jvm.ClassFile.FieldType.int) 1 := ⟨q_t3 172 rfl rfl, by decide +kernel, by decide +kernel, q_init_QuillRelay_Race⟩
set_option maxRecDepth 100000 in
theorem mi_X4_handOver : Cond.instanceMethod yX4_handOver ∈ q_W := q_t3 170 rfl rfl
set_option maxRecDepth 100000 in
theorem me_X4_handOver : Cond.selects yX4_handOver.cls yX4_handOver yX4_handOver ∈ q_W := q_t3 171 rfl rfl
def tb_X4_handOver : List q_E := [(0, .aload_n 1, 1, 0, 0), (1, .getfield 123, 3, 0, 0), (4, .aload_n 1, 1, 0, 0), (5, .aload_n 0, 1, 0, 0), (6, .getfield 20, 3, 0, 0), (9, .invokevirtual 126, 3, 0, 0), (12, .bipush 100, 2, 100, 0), (14, .iadd, 1, 0, 0), (15, .if_icmp .le 8, 3, 0, 23), (18, .aload_n 1, 1, 0, 0), (19, .iconst 1, 1, 1, 0), (20, .putfield 130, 3, 0, 0), (23, .aload_n 1, 1, 0, 0), (24, .aload_n 0, 1, 0, 0), (25, .getfield 32, 3, 0, 0), (28, .invokevirtual 133, 3, 0, 0), (31, .istore_n 2, 1, 0, 0), (32, .aload_n 1, 1, 0, 0), (33, .dup, 1, 0, 0), (34, .getfield 136, 3, 0, 0), (37, .iconst 1, 1, 1, 0), (38, .iadd, 1, 0, 0), (39, .putfield 136, 3, 0, 0), (42, .aload_n 1, 1, 0, 0), (43, .iconst 0, 1, 0, 0), (44, .putfield 139, 3, 0, 0), (47, .iload_n 2, 1, 0, 0), (48, .ireturn, 1, 0, 0)]
set_option maxRecDepth 100000 in
theorem tk_X4_handOver : q_tb cX4_handOver 3 tb_X4_handOver = true := by decide +kernel
set_option maxRecDepth 100000 in
theorem mw_X4_dropQuill : q_mw yX4_dropQuill cX4_dropQuill 3 (Option.some Jvm.ClassFile.FieldType.int) 2 := ⟨q_t3 196 rfl rfl, by decide +kernel, by decide +kernel, q_init_QuillRelay_Race⟩
set_option maxRecDepth 100000 in
theorem mi_X4_dropQuill : Cond.instanceMethod yX4_dropQuill ∈ q_W := q_t3 194 rfl rfl
set_option maxRecDepth 100000 in
theorem me_X4_dropQuill : Cond.selects yX4_dropQuill.cls yX4_dropQuill yX4_dropQuill ∈ q_W := q_t3 195 rfl rfl
def tb_X4_dropQuill : List q_E := [(0, .aload_n 1, 1, 0, 0), (1, .aload_n 0, 1, 0, 0), (2, .getfield 20, 3, 0, 0), (5, .invokevirtual 142, 3, 0, 0), (8, .ifCond .eq 8, 3, 0, 16), (11, .aload_n 1, 1, 0, 0), (12, .iconst 1, 1, 1, 0), (13, .putfield 145, 3, 0, 0), (16, .aload_n 1, 1, 0, 0), (17, .dup, 1, 0, 0), (18, .getfield 148, 3, 0, 0), (21, .iload_n 2, 1, 0, 0), (22, .iadd, 1, 0, 0), (23, .putfield 148, 3, 0, 0), (26, .aload_n 1, 1, 0, 0), (27, .getfield 148, 3, 0, 0), (30, .ireturn, 1, 0, 0)]
set_option maxRecDepth 100000 in
theorem tk_X4_dropQuill : q_tb cX4_dropQuill 3 tb_X4_dropQuill = true := by decide +kernel
set_option maxRecDepth 100000 in
theorem mw_X4_judge : q_mw yX4_judge cX4_judge 4 (Option.some Jvm.ClassFile.FieldType.boolean) 3 := ⟨q_t4 98 rfl rfl, by decide +kernel, by decide +kernel, q_init_QuillRelay_Race⟩
set_option maxRecDepth 100000 in
theorem mi_X4_judge : Cond.instanceMethod yX4_judge ∈ q_W := q_t4 96 rfl rfl
set_option maxRecDepth 100000 in
theorem me_X4_judge : Cond.selects yX4_judge.cls yX4_judge yX4_judge ∈ q_W := q_t4 97 rfl rfl
def tb_X4_judge : List q_E := [(0, .aload_n 2, 1, 0, 0), (1, .iload_n 3, 1, 0, 0), (2, .invokevirtual 151, 3, 0, 0), (5, .ifCond .eq 21, 3, 0, 26), (8, .aload_n 2, 1, 0, 0), (9, .iload_n 3, 1, 0, 0), (10, .invokevirtual 154, 3, 0, 0), (13, .aload_n 2, 1, 0, 0), (14, .dup, 1, 0, 0), (15, .getfield 157, 3, 0, 0), (18, .bipush 10, 2, 10, 0), (20, .iadd, 1, 0, 0), (21, .putfield 157, 3, 0, 0), (24, .iconst 1, 1, 1, 0), (25, .ireturn, 1, 0, 0), (26, .aload_n 1, 1, 0, 0), (27, .dup, 1, 0, 0), (28, .getfield 157, 3, 0, 0), (31, .iconst 5, 1, 5, 0), (32, .iadd, 1, 0, 0), (33, .putfield 157, 3, 0, 0), (36, .iconst 0, 1, 0, 0), (37, .ireturn, 1, 0, 0)]
set_option maxRecDepth 100000 in
theorem tk_X4_judge : q_tb cX4_judge 4 tb_X4_judge = true := by decide +kernel
set_option maxRecDepth 100000 in
theorem mw_X6_init : q_mw yX6_init cX6_init 3 (Option.none : Option Jvm.ClassFile.FieldType) 1 := ⟨q_t4 133 rfl rfl, by decide +kernel, by decide +kernel, q_init_QuillRelay_Team⟩
set_option maxRecDepth 100000 in
theorem mi_X6_init : Cond.instanceMethod yX6_init ∈ q_W := q_t4 132 rfl rfl
def tb_X6_init : List q_E := [(0, .aload_n 0, 1, 0, 0), (1, .invokespecial 3, 3, 0, 0), (4, .aload_n 0, 1, 0, 0), (5, .iload_n 1, 1, 0, 0), (6, .putfield 9, 3, 0, 0), (9, .aload_n 0, 1, 0, 0), (10, .iconst 4, 1, 4, 0), (11, .newarray .int, 2, 0, 0), (13, .putfield 15, 3, 0, 0), (16, .aload_n 0, 1, 0, 0), (17, .iconst 4, 1, 4, 0), (18, .newarray .int, 2, 0, 0), (20, .putfield 19, 3, 0, 0), (23, .iconst 0, 1, 0, 0), (24, .istore_n 2, 1, 0, 0), (25, .iload_n 2, 1, 0, 0), (26, .aload_n 0, 1, 0, 0), (27, .getfield 15, 3, 0, 0), (30, .arraylength, 1, 0, 20), (31, .if_icmp .ge 17, 3, 0, 48), (34, .aload_n 0, 1, 0, 0), (35, .getfield 15, 3, 0, 0), (38, .iload_n 2, 1, 0, 0), (39, .bipush 60, 2, 60, 0), (41, .iastore, 1, 0, 0), (42, .iinc 2 1, 3, 1, 0), (45, .goto (-20), 3, 0, 25), (48, .aload_n 0, 1, 0, 0), (49, .getstatic 22, 3, 0, 0), (52, .putfield 28, 3, 0, 0), (55, .aload_n 0, 1, 0, 0), (56, .iload_n 1, 1, 0, 0), (57, .iconst 1, 1, 1, 0), (58, .iadd, 1, 0, 0), (59, .putfield 31, 3, 0, 0), (62, .return_, 1, 0, 0)]
set_option maxRecDepth 100000 in
theorem tk_X6_init : q_tb cX6_init 3 tb_X6_init = true := by decide +kernel
set_option maxRecDepth 100000 in
theorem mw_X6_copyFrom : q_mw yX6_copyFrom cX6_copyFrom 2 (Option.none : Option Jvm.ClassFile.FieldType) 1 := ⟨q_t3 11 rfl rfl, by decide +kernel, by decide +kernel, q_init_QuillRelay_Team⟩
set_option maxRecDepth 100000 in
theorem mi_X6_copyFrom : Cond.instanceMethod yX6_copyFrom ∈ q_W := q_t3 9 rfl rfl
set_option maxRecDepth 100000 in
theorem me_X6_copyFrom : Cond.selects yX6_copyFrom.cls yX6_copyFrom yX6_copyFrom ∈ q_W := q_t3 10 rfl rfl
def tb_X6_copyFrom : List q_E := [(0, .aload_n 1, 1, 0, 0), (1, .getfield 15, 3, 0, 0), (4, .aload_n 0, 1, 0, 0), (5, .getfield 15, 3, 0, 0), (8, .invokestatic 34, 3, 0, 0), (11, .aload_n 1, 1, 0, 0), (12, .getfield 19, 3, 0, 0), (15, .aload_n 0, 1, 0, 0), (16, .getfield 19, 3, 0, 0), (19, .invokestatic 34, 3, 0, 0), (22, .aload_n 0, 1, 0, 0), (23, .aload_n 1, 1, 0, 0), (24, .getfield 28, 3, 0, 0), (27, .putfield 28, 3, 0, 0), (30, .aload_n 0, 1, 0, 0), (31, .aload_n 1, 1, 0, 0), (32, .getfield 31, 3, 0, 0), (35, .putfield 31, 3, 0, 0), (38, .aload_n 0, 1, 0, 0), (39, .aload_n 1, 1, 0, 0), (40, .getfield 38, 3, 0, 0), (43, .putfield 38, 3, 0, 0), (46, .aload_n 0, 1, 0, 0), (47, .aload_n 1, 1, 0, 0), (48, .getfield 41, 3, 0, 0), (51, .putfield 41, 3, 0, 0), (54, .aload_n 0, 1, 0, 0), (55, .aload_n 1, 1, 0, 0), (56, .getfield 44, 3, 0, 0), (59, .putfield 44, 3, 0, 0), (62, .aload_n 0, 1, 0, 0), (63, .aload_n 1, 1, 0, 0), (64, .getfield 47, 3, 0, 0), (67, .putfield 47, 3, 0, 0), (70, .aload_n 0, 1, 0, 0), (71, .aload_n 1, 1, 0, 0), (72, .getfield 50, 3, 0, 0), (75, .putfield 50, 3, 0, 0), (78, .aload_n 0, 1, 0, 0), (79, .aload_n 1, 1, 0, 0), (80, .getfield 53, 3, 0, 0), (83, .putfield 53, 3, 0, 0), (86, .aload_n 0, 1, 0, 0), (87, .aload_n 1, 1, 0, 0), (88, .getfield 56, 3, 0, 0), (91, .putfield 56, 3, 0, 0), (94, .aload_n 0, 1, 0, 0), (95, .aload_n 1, 1, 0, 0), (96, .getfield 59, 3, 0, 0), (99, .putfield 59, 3, 0, 0), (102, .aload_n 0, 1, 0, 0), (103, .aload_n 1, 1, 0, 0), (104, .getfield 63, 3, 0, 0), (107, .putfield 63, 3, 0, 0), (110, .return_, 1, 0, 0)]
set_option maxRecDepth 100000 in
theorem tk_X6_copyFrom : q_tb cX6_copyFrom 2 tb_X6_copyFrom = true := by decide +kernel
set_option maxRecDepth 100000 in
theorem mw_X6_speedOn : q_mw yX6_speedOn cX6_speedOn 2 (Option.some Jvm.ClassFile.FieldType.int) 1 := ⟨q_t4 45 rfl rfl, by decide +kernel, by decide +kernel, q_init_QuillRelay_Team⟩
set_option maxRecDepth 100000 in
theorem mi_X6_speedOn : Cond.instanceMethod yX6_speedOn ∈ q_W := q_t4 43 rfl rfl
set_option maxRecDepth 100000 in
theorem me_X6_speedOn : Cond.selects yX6_speedOn.cls yX6_speedOn yX6_speedOn ∈ q_W := q_t4 44 rfl rfl
def tb_X6_speedOn : List q_E := [(0, .aload_n 0, 1, 0, 0), (1, .getfield 15, 3, 0, 0), (4, .iload_n 1, 1, 0, 0), (5, .invokestatic 66, 3, 0, 0), (8, .ireturn, 1, 0, 0)]
set_option maxRecDepth 100000 in
theorem tk_X6_speedOn : q_tb cX6_speedOn 2 tb_X6_speedOn = true := by decide +kernel
set_option maxRecDepth 100000 in
theorem mw_X6_changeSpeed : q_mw yX6_changeSpeed cX6_changeSpeed 4 (Option.some Jvm.ClassFile.FieldType.int) 2 := ⟨q_t5 94 rfl rfl, by decide +kernel, by decide +kernel, q_init_QuillRelay_Team⟩
set_option maxRecDepth 100000 in
theorem mi_X6_changeSpeed : Cond.instanceMethod yX6_changeSpeed ∈ q_W := q_t5 92 rfl rfl
set_option maxRecDepth 100000 in
theorem me_X6_changeSpeed : Cond.selects yX6_changeSpeed.cls yX6_changeSpeed yX6_changeSpeed ∈ q_W := q_t5 93 rfl rfl
def tb_X6_changeSpeed : List q_E := [(0, .aload_n 0, 1, 0, 0), (1, .getfield 15, 3, 0, 0), (4, .iload_n 1, 1, 0, 0), (5, .invokestatic 66, 3, 0, 0), (8, .istore_n 3, 1, 0, 0), (9, .aload_n 0, 1, 0, 0), (10, .getfield 15, 3, 0, 0), (13, .iload_n 1, 1, 0, 0), (14, .iload_n 2, 1, 0, 0), (15, .invokestatic 70, 3, 0, 0), (18, .iload_n 3, 1, 0, 0), (19, .ireturn, 1, 0, 0)]
set_option maxRecDepth 100000 in
theorem tk_X6_changeSpeed : q_tb cX6_changeSpeed 4 tb_X6_changeSpeed = true := by decide +kernel
set_option maxRecDepth 100000 in
theorem mw_X6_legEnd : q_mw yX6_legEnd cX6_legEnd 2 (Option.some Jvm.ClassFile.FieldType.int) 1 := ⟨q_t3 133 rfl rfl, by decide +kernel, by decide +kernel, q_init_QuillRelay_Team⟩
set_option maxRecDepth 100000 in
theorem mi_X6_legEnd : Cond.instanceMethod yX6_legEnd ∈ q_W := q_t3 131 rfl rfl
set_option maxRecDepth 100000 in
theorem me_X6_legEnd : Cond.selects yX6_legEnd.cls yX6_legEnd yX6_legEnd ∈ q_W := q_t3 132 rfl rfl
def tb_X6_legEnd : List q_E := [(0, .aload_n 0, 1, 0, 0), (1, .getfield 41, 3, 0, 0), (4, .iconst 1, 1, 1, 0), (5, .iadd, 1, 0, 0), (6, .iload_n 1, 1, 0, 0), (7, .imul, 1, 0, 0), (8, .ireturn, 1, 0, 0)]
set_option maxRecDepth 100000 in
theorem tk_X6_legEnd : q_tb cX6_legEnd 2 tb_X6_legEnd = true := by decide +kernel
set_option maxRecDepth 100000 in
theorem mw_X6_inZone : q_mw yX6_inZone cX6_inZone 2 (Option.some Jvm.ClassFile.FieldType.boolean) 1 := ⟨q_t3 200 rfl rfl, by decide +kernel, by decide +kernel, q_init_QuillRelay_Team⟩
set_option maxRecDepth 100000 in
theorem mi_X6_inZone : Cond.instanceMethod yX6_inZone ∈ q_W := q_t3 198 rfl rfl
set_option maxRecDepth 100000 in
theorem me_X6_inZone : Cond.selects yX6_inZone.cls yX6_inZone yX6_inZone ∈ q_W := q_t3 199 rfl rfl
def tb_X6_inZone : List q_E := [(0, .aload_n 0, 1, 0, 0), (1, .getfield 41, 3, 0, 0), (4, .iconst 3, 1, 3, 0), (5, .if_icmp .ge 37, 3, 0, 42), (8, .aload_n 0, 1, 0, 0), (9, .getfield 38, 3, 0, 0), (12, .aload_n 0, 1, 0, 0), (13, .iload_n 1, 1, 0, 0), (14, .invokevirtual 74, 3, 0, 0), (17, .bipush 100, 2, 100, 0), (19, .isub, 1, 0, 0), (20, .if_icmp .lt 22, 3, 0, 42), (23, .aload_n 0, 1, 0, 0), (24, .getfield 38, 3, 0, 0), (27, .aload_n 0, 1, 0, 0), (28, .iload_n 1, 1, 0, 0), (29, .invokevirtual 74, 3, 0, 0), (32, .bipush 100, 2, 100, 0), (34, .iadd, 1, 0, 0), (35, .if_icmp .gt 7, 3, 0, 42), (38, .iconst 1, 1, 1, 0), (39, .goto 4, 3, 0, 43), (42, .iconst 0, 1, 0, 0), (43, .ireturn, 1, 0, 0)]
set_option maxRecDepth 100000 in
theorem tk_X6_inZone : q_tb cX6_inZone 2 tb_X6_inZone = true := by decide +kernel
set_option maxRecDepth 100000 in
theorem mw_X6_reasonToRefuse : q_mw yX6_reasonToRefuse cX6_reasonToRefuse 2 (Option.some Jvm.ClassFile.FieldType.int) 1 := ⟨q_t3 167 rfl rfl, by decide +kernel, by decide +kernel, q_init_QuillRelay_Team⟩
set_option maxRecDepth 100000 in
theorem mi_X6_reasonToRefuse : Cond.instanceMethod yX6_reasonToRefuse ∈ q_W := q_t3 165 rfl rfl
set_option maxRecDepth 100000 in
theorem me_X6_reasonToRefuse : Cond.selects yX6_reasonToRefuse.cls yX6_reasonToRefuse yX6_reasonToRefuse ∈ q_W := q_t3 166 rfl rfl
def tb_X6_reasonToRefuse : List q_E := [(0, .aload_n 0, 1, 0, 0), (1, .getfield 47, 3, 0, 0), (4, .ifCond .le 5, 3, 0, 9), (7, .iconst 1, 1, 1, 0), (8, .ireturn, 1, 0, 0), (9, .aload_n 0, 1, 0, 0), (10, .getfield 41, 3, 0, 0), (13, .iconst 3, 1, 3, 0), (14, .if_icmp .lt 5, 3, 0, 19), (17, .iconst 2, 1, 2, 0), (18, .ireturn, 1, 0, 0), (19, .aload_n 0, 1, 0, 0), (20, .getfield 38, 3, 0, 0), (23, .aload_n 0, 1, 0, 0), (24, .iload_n 1, 1, 0, 0), (25, .invokevirtual 74, 3, 0, 0), (28, .bipush 100, 2, 100, 0), (30, .isub, 1, 0, 0), (31, .if_icmp .ge 7, 3, 0, 38), (34, .iconst 3, 1, 3, 0), (35, .goto 4, 3, 0, 39), (38, .iconst 0, 1, 0, 0), (39, .ireturn, 1, 0, 0)]
set_option maxRecDepth 100000 in
theorem tk_X6_reasonToRefuse : q_tb cX6_reasonToRefuse 2 tb_X6_reasonToRefuse = true := by decide +kernel
set_option maxRecDepth 100000 in
theorem mw_X6_moveOneSecond : q_mw yX6_moveOneSecond cX6_moveOneSecond 3 (Option.some Jvm.ClassFile.FieldType.boolean) 2 := ⟨q_t3 124 rfl rfl, by decide +kernel, by decide +kernel, q_init_QuillRelay_Team⟩
set_option maxRecDepth 100000 in
theorem mi_X6_moveOneSecond : Cond.instanceMethod yX6_moveOneSecond ∈ q_W := q_t3 122 rfl rfl
set_option maxRecDepth 100000 in
theorem me_X6_moveOneSecond : Cond.selects yX6_moveOneSecond.cls yX6_moveOneSecond yX6_moveOneSecond ∈ q_W := q_t3 123 rfl rfl
def tb_X6_moveOneSecond : List q_E := [(0, .aload_n 0, 1, 0, 0), (1, .getfield 47, 3, 0, 0), (4, .ifCond .le 15, 3, 0, 19), (7, .aload_n 0, 1, 0, 0), (8, .dup, 1, 0, 0), (9, .getfield 47, 3, 0, 0), (12, .iconst 1, 1, 1, 0), (13, .isub, 1, 0, 0), (14, .putfield 47, 3, 0, 0), (17, .iconst 0, 1, 0, 0), (18, .ireturn, 1, 0, 0), (19, .aload_n 0, 1, 0, 0), (20, .iload_n 1, 1, 0, 0), (21, .invokevirtual 78, 3, 0, 0), (24, .aload_n 0, 1, 0, 0), (25, .getfield 41, 3, 0, 0), (28, .iconst 3, 1, 3, 0), (29, .if_icmp .lt 13, 3, 0, 42), (32, .aload_n 0, 1, 0, 0), (33, .getfield 38, 3, 0, 0), (36, .iconst 4, 1, 4, 0), (37, .iload_n 1, 1, 0, 0), (38, .imul, 1, 0, 0), (39, .if_icmp .ge 5, 3, 0, 44), (42, .iconst 0, 1, 0, 0), (43, .ireturn, 1, 0, 0), (44, .aload_n 0, 1, 0, 0), (45, .getstatic 82, 3, 0, 0), (48, .putfield 28, 3, 0, 0), (51, .aload_n 0, 1, 0, 0), (52, .iload_n 2, 1, 0, 0), (53, .putfield 56, 3, 0, 0), (56, .aload_n 0, 1, 0, 0), (57, .iload_n 2, 1, 0, 0), (58, .invokevirtual 85, 3, 0, 0), (61, .pop, 1, 0, 0), (62, .iconst 1, 1, 1, 0), (63, .ireturn, 1, 0, 0)]
set_option maxRecDepth 100000 in
theorem tk_X6_moveOneSecond : q_tb cX6_moveOneSecond 3 tb_X6_moveOneSecond = true := by decide +kernel
set_option maxRecDepth 100000 in
theorem mw_X6_runOneSecond : q_mw yX6_runOneSecond cX6_runOneSecond 4 (Option.none : Option Jvm.ClassFile.FieldType) 1 := ⟨q_t3 129 rfl rfl, by decide +kernel, by decide +kernel, q_init_QuillRelay_Team⟩
set_option maxRecDepth 100000 in
theorem mi_X6_runOneSecond : Cond.instanceMethod yX6_runOneSecond ∈ q_W := q_t3 127 rfl rfl
set_option maxRecDepth 100000 in
theorem me_X6_runOneSecond : Cond.selects yX6_runOneSecond.cls yX6_runOneSecond yX6_runOneSecond ∈ q_W := q_s 4 rfl rfl
def tb_X6_runOneSecond : List q_E := [(0, .aload_n 0, 1, 0, 0), (1, .iload_n 1, 1, 0, 0), (2, .invokevirtual 74, 3, 0, 0), (5, .sipush 300, 3, 300, 0), (8, .iadd, 1, 0, 0), (9, .istore_n 2, 1, 0, 0), (10, .aload_n 0, 1, 0, 0), (11, .getfield 38, 3, 0, 0), (14, .aload_n 0, 1, 0, 0), (15, .getfield 15, 3, 0, 0), (18, .aload_n 0, 1, 0, 0), (19, .getfield 41, 3, 0, 0), (22, .invokestatic 66, 3, 0, 0), (25, .aload_n 0, 1, 0, 0), (26, .getfield 44, 3, 0, 0), (29, .invokestatic 88, 3, 0, 0), (32, .iadd, 1, 0, 0), (33, .istore_n 3, 1, 0, 0), (34, .aload_n 0, 1, 0, 0), (35, .getfield 41, 3, 0, 0), (38, .iconst 3, 1, 3, 0), (39, .if_icmp .ge 12, 3, 0, 51), (42, .aload_n 0, 1, 0, 0), (43, .getfield 38, 3, 0, 0), (46, .iload_n 2, 1, 0, 0), (47, .if_icmp .lt 4, 3, 0, 51), (50, .return_, 1, 0, 0), (51, .aload_n 0, 1, 0, 0), (52, .aload_n 0, 1, 0, 0), (53, .getfield 41, 3, 0, 0), (56, .iconst 3, 1, 3, 0), (57, .if_icmp .ge 11, 3, 0, 68), (60, .iload_n 2, 1, 0, 0), (61, .iload_n 3, 1, 0, 0), (62, .invokestatic 92, 3, 0, 0), (65, .goto 4, 3, 0, 69), (68, .iload_n 3, 1, 0, 0), (69, .putfield 38, 3, 0, 0), (72, .aload_n 0, 1, 0, 0), (73, .dup, 1, 0, 0), (74, .getfield 44, 3, 0, 0), (77, .iconst 1, 1, 1, 0), (78, .iadd, 1, 0, 0), (79, .putfield 44, 3, 0, 0), (82, .return_, 1, 0, 0)]
set_option maxRecDepth 100000 in
theorem tk_X6_runOneSecond : q_tb cX6_runOneSecond 4 tb_X6_runOneSecond = true := by decide +kernel
set_option maxRecDepth 100000 in
theorem mw_X6_endLeg : q_mw yX6_endLeg cX6_endLeg 3 (Option.some Jvm.ClassFile.FieldType.int) 1 := ⟨q_t3 144 rfl rfl, by decide +kernel, by decide +kernel, q_init_QuillRelay_Team⟩
set_option maxRecDepth 100000 in
theorem mi_X6_endLeg : Cond.instanceMethod yX6_endLeg ∈ q_W := q_t3 142 rfl rfl
set_option maxRecDepth 100000 in
theorem me_X6_endLeg : Cond.selects yX6_endLeg.cls yX6_endLeg yX6_endLeg ∈ q_W := q_t3 143 rfl rfl
def tb_X6_endLeg : List q_E := [(0, .iload_n 1, 1, 0, 0), (1, .aload_n 0, 1, 0, 0), (2, .getfield 53, 3, 0, 0), (5, .isub, 1, 0, 0), (6, .istore_n 2, 1, 0, 0), (7, .aload_n 0, 1, 0, 0), (8, .getfield 19, 3, 0, 0), (11, .aload_n 0, 1, 0, 0), (12, .getfield 41, 3, 0, 0), (15, .iload_n 2, 1, 0, 0), (16, .invokestatic 70, 3, 0, 0), (19, .aload_n 0, 1, 0, 0), (20, .iload_n 1, 1, 0, 0), (21, .putfield 53, 3, 0, 0), (24, .iload_n 2, 1, 0, 0), (25, .ireturn, 1, 0, 0)]
set_option maxRecDepth 100000 in
theorem tk_X6_endLeg : q_tb cX6_endLeg 3 tb_X6_endLeg = true := by decide +kernel
set_option maxRecDepth 100000 in
theorem mw_X6_hasEnded : q_mw yX6_hasEnded cX6_hasEnded 2 (Option.some Jvm.ClassFile.FieldType.boolean) 1 := ⟨q_t3 232 rfl rfl, by decide +kernel, by decide +kernel, q_init_QuillRelay_Team⟩
set_option maxRecDepth 100000 in
theorem mi_X6_hasEnded : Cond.instanceMethod yX6_hasEnded ∈ q_W := q_t3 230 rfl rfl
set_option maxRecDepth 100000 in
theorem me_X6_hasEnded : Cond.selects yX6_hasEnded.cls yX6_hasEnded yX6_hasEnded ∈ q_W := q_t3 231 rfl rfl
def tb_X6_hasEnded : List q_E := [(0, .iload_n 1, 1, 0, 0), (1, .aload_n 0, 1, 0, 0), (2, .getfield 41, 3, 0, 0), (5, .if_icmp .lt 13, 3, 0, 18), (8, .aload_n 0, 1, 0, 0), (9, .getfield 28, 3, 0, 0), (12, .getstatic 82, 3, 0, 0), (15, .if_acmp .ne 7, 3, 0, 22), (18, .iconst 1, 1, 1, 0), (19, .goto 4, 3, 0, 23), (22, .iconst 0, 1, 0, 0), (23, .ireturn, 1, 0, 0)]
set_option maxRecDepth 100000 in
theorem tk_X6_hasEnded : q_tb cX6_hasEnded 2 tb_X6_hasEnded = true := by decide +kernel
set_option maxRecDepth 100000 in
theorem mw_X6_secondsUntilZone : q_mw yX6_secondsUntilZone cX6_secondsUntilZone 5 (Option.some Jvm.ClassFile.FieldType.int) 1 := ⟨q_t4 59 rfl rfl, by decide +kernel, by decide +kernel, q_init_QuillRelay_Team⟩
set_option maxRecDepth 100000 in
theorem mi_X6_secondsUntilZone : Cond.instanceMethod yX6_secondsUntilZone ∈ q_W := q_t4 57 rfl rfl
set_option maxRecDepth 100000 in
theorem me_X6_secondsUntilZone : Cond.selects yX6_secondsUntilZone.cls yX6_secondsUntilZone yX6_secondsUntilZone ∈ q_W := q_t4 58 rfl rfl
def tb_X6_secondsUntilZone : List q_E := [(0, .aload_n 0, 1, 0, 0), (1, .iload_n 1, 1, 0, 0), (2, .invokevirtual 74, 3, 0, 0), (5, .bipush 100, 2, 100, 0), (7, .isub, 1, 0, 0), (8, .istore_n 2, 1, 0, 0), (9, .aload_n 0, 1, 0, 0), (10, .getfield 38, 3, 0, 0), (13, .iload_n 2, 1, 0, 0), (14, .if_icmp .lt 5, 3, 0, 19), (17, .iconst 0, 1, 0, 0), (18, .ireturn, 1, 0, 0), (19, .aload_n 0, 1, 0, 0), (20, .getfield 38, 3, 0, 0), (23, .istore_n 3, 1, 0, 0), (24, .iconst 0, 1, 0, 0), (25, .istore 4, 2, 0, 0), (27, .iload_n 3, 1, 0, 0), (28, .iload_n 2, 1, 0, 0), (29, .if_icmp .ge 40, 3, 0, 69), (32, .iload 4, 2, 0, 0), (34, .ldc 97, 2, 0, 0), (36, .if_icmp .ge 33, 3, 0, 69), (39, .iload_n 3, 1, 0, 0), (40, .aload_n 0, 1, 0, 0), (41, .getfield 15, 3, 0, 0), (44, .aload_n 0, 1, 0, 0), (45, .getfield 41, 3, 0, 0), (48, .invokestatic 66, 3, 0, 0), (51, .aload_n 0, 1, 0, 0), (52, .getfield 44, 3, 0, 0), (55, .iload 4, 2, 0, 0), (57, .iadd, 1, 0, 0), (58, .invokestatic 88, 3, 0, 0), (61, .iadd, 1, 0, 0), (62, .istore_n 3, 1, 0, 0), (63, .iinc 4 1, 3, 1, 0), (66, .goto (-39), 3, 0, 27), (69, .aload_n 0, 1, 0, 0), (70, .getfield 47, 3, 0, 0), (73, .iload 4, 2, 0, 0), (75, .iadd, 1, 0, 0), (76, .ireturn, 1, 0, 0)]
set_option maxRecDepth 100000 in
theorem tk_X6_secondsUntilZone : q_tb cX6_secondsUntilZone 5 tb_X6_secondsUntilZone = true := by decide +kernel
set_option maxRecDepth 100000 in
theorem mw_X6_committed : q_mw yX6_committed cX6_committed 2 (Option.some Jvm.ClassFile.FieldType.boolean) 1 := ⟨q_t4 102 rfl rfl, by decide +kernel, by decide +kernel, q_init_QuillRelay_Team⟩
set_option maxRecDepth 100000 in
theorem mi_X6_committed : Cond.instanceMethod yX6_committed ∈ q_W := q_t4 100 rfl rfl
set_option maxRecDepth 100000 in
theorem me_X6_committed : Cond.selects yX6_committed.cls yX6_committed yX6_committed ∈ q_W := q_t4 101 rfl rfl
def tb_X6_committed : List q_E := [(0, .iload_n 1, 1, 0, 0), (1, .ifCond .ne 10, 3, 0, 11), (4, .aload_n 0, 1, 0, 0), (5, .getfield 59, 3, 0, 0), (8, .goto 7, 3, 0, 15), (11, .aload_n 0, 1, 0, 0), (12, .getfield 63, 3, 0, 0), (15, .ireturn, 1, 0, 0)]
set_option maxRecDepth 100000 in
theorem tk_X6_committed : q_tb cX6_committed 2 tb_X6_committed = true := by decide +kernel
set_option maxRecDepth 100000 in
theorem mw_X6_removeFoul : q_mw yX6_removeFoul cX6_removeFoul 2 (Option.none : Option Jvm.ClassFile.FieldType) 1 := ⟨q_t4 106 rfl rfl, by decide +kernel, by decide +kernel, q_init_QuillRelay_Team⟩
set_option maxRecDepth 100000 in
theorem mi_X6_removeFoul : Cond.instanceMethod yX6_removeFoul ∈ q_W := q_t4 104 rfl rfl
set_option maxRecDepth 100000 in
theorem me_X6_removeFoul : Cond.selects yX6_removeFoul.cls yX6_removeFoul yX6_removeFoul ∈ q_W := q_t4 105 rfl rfl
def tb_X6_removeFoul : List q_E := [(0, .iload_n 1, 1, 0, 0), (1, .ifCond .ne 11, 3, 0, 12), (4, .aload_n 0, 1, 0, 0), (5, .iconst 0, 1, 0, 0), (6, .putfield 59, 3, 0, 0), (9, .goto 8, 3, 0, 17), (12, .aload_n 0, 1, 0, 0), (13, .iconst 0, 1, 0, 0), (14, .putfield 63, 3, 0, 0), (17, .return_, 1, 0, 0)]
set_option maxRecDepth 100000 in
theorem tk_X6_removeFoul : q_tb cX6_removeFoul 2 tb_X6_removeFoul = true := by decide +kernel
set_option maxRecDepth 100000 in
theorem mw_X6_result : q_mw yX6_result cX6_result 1 (Option.some Jvm.ClassFile.FieldType.int) 0 := ⟨q_t2 236 rfl rfl, by decide +kernel, by decide +kernel, q_init_QuillRelay_Team⟩
set_option maxRecDepth 100000 in
theorem mi_X6_result : Cond.instanceMethod yX6_result ∈ q_W := q_t2 234 rfl rfl
set_option maxRecDepth 100000 in
theorem me_X6_result : Cond.selects yX6_result.cls yX6_result yX6_result ∈ q_W := q_t2 235 rfl rfl
def tb_X6_result : List q_E := [(0, .aload_n 0, 1, 0, 0), (1, .getfield 56, 3, 0, 0), (4, .aload_n 0, 1, 0, 0), (5, .getfield 50, 3, 0, 0), (8, .iadd, 1, 0, 0), (9, .ireturn, 1, 0, 0)]
set_option maxRecDepth 100000 in
theorem tk_X6_result : q_tb cX6_result 1 tb_X6_result = true := by decide +kernel
set_option maxRecDepth 100000 in
theorem mw_X6_isAheadOf : q_mw yX6_isAheadOf cX6_isAheadOf 3 (Option.some Jvm.ClassFile.FieldType.boolean) 1 := ⟨q_t4 27 rfl rfl, by decide +kernel, by decide +kernel, q_init_QuillRelay_Team⟩
set_option maxRecDepth 100000 in
theorem mi_X6_isAheadOf : Cond.instanceMethod yX6_isAheadOf ∈ q_W := q_t4 25 rfl rfl
set_option maxRecDepth 100000 in
theorem me_X6_isAheadOf : Cond.selects yX6_isAheadOf.cls yX6_isAheadOf yX6_isAheadOf ∈ q_W := q_t4 26 rfl rfl
def tb_X6_isAheadOf : List q_E := [(0, .aload_n 0, 1, 0, 0), (1, .getfield 28, 3, 0, 0), (4, .getfield 98, 3, 0, 0), (7, .aload_n 1, 1, 0, 0), (8, .getfield 28, 3, 0, 0), (11, .getfield 98, 3, 0, 0), (14, .if_icmp .eq 26, 3, 0, 40), (17, .aload_n 0, 1, 0, 0), (18, .getfield 28, 3, 0, 0), (21, .getfield 98, 3, 0, 0), (24, .aload_n 1, 1, 0, 0), (25, .getfield 28, 3, 0, 0), (28, .getfield 98, 3, 0, 0), (31, .if_icmp .ge 7, 3, 0, 38), (34, .iconst 1, 1, 1, 0), (35, .goto 4, 3, 0, 39), (38, .iconst 0, 1, 0, 0), (39, .ireturn, 1, 0, 0), (40, .aload_n 0, 1, 0, 0), (41, .getfield 28, 3, 0, 0), (44, .getstatic 82, 3, 0, 0), (47, .if_acmp .ne 15, 3, 0, 62), (50, .aload_n 1, 1, 0, 0), (51, .invokevirtual 101, 3, 0, 0), (54, .aload_n 0, 1, 0, 0), (55, .invokevirtual 101, 3, 0, 0), (58, .isub, 1, 0, 0), (59, .goto 12, 3, 0, 71), (62, .aload_n 0, 1, 0, 0), (63, .getfield 38, 3, 0, 0), (66, .aload_n 1, 1, 0, 0), (67, .getfield 38, 3, 0, 0), (70, .isub, 1, 0, 0), (71, .istore_n 2, 1, 0, 0), (72, .iload_n 2, 1, 0, 0), (73, .ifCond .eq 15, 3, 0, 88), (76, .iload_n 2, 1, 0, 0), (77, .ifCond .le 7, 3, 0, 84), (80, .iconst 1, 1, 1, 0), (81, .goto 23, 3, 0, 104), (84, .iconst 0, 1, 0, 0), (85, .goto 19, 3, 0, 104), (88, .aload_n 0, 1, 0, 0), (89, .getfield 31, 3, 0, 0), (92, .aload_n 1, 1, 0, 0), (93, .getfield 31, 3, 0, 0), (96, .if_icmp .ge 7, 3, 0, 103), (99, .iconst 1, 1, 1, 0), (100, .goto 4, 3, 0, 104), (103, .iconst 0, 1, 0, 0), (104, .ireturn, 1, 0, 0)]
set_option maxRecDepth 100000 in
theorem tk_X6_isAheadOf : q_tb cX6_isAheadOf 3 tb_X6_isAheadOf = true := by decide +kernel
set_option maxRecDepth 100000 in
theorem mw_X8_init : q_mw yX8_init cX8_init 1 (Option.none : Option Jvm.ClassFile.FieldType) 0 := ⟨q_t4 122 rfl rfl, by decide +kernel, by decide +kernel, q_init_QuillRelay⟩
set_option maxRecDepth 100000 in
theorem mi_X8_init : Cond.instanceMethod yX8_init ∈ q_W := q_t4 121 rfl rfl
def tb_X8_init : List q_E := [(0, .aload_n 0, 1, 0, 0), (1, .invokespecial 1, 3, 0, 0), (4, .aload_n 0, 1, 0, 0), (5, .new 7, 3, 0, 0), (8, .dup, 1, 0, 0), (9, .invokespecial 9, 3, 0, 0), (12, .putfield 10, 3, 0, 0), (15, .aload_n 0, 1, 0, 0), (16, .new 7, 3, 0, 0), (19, .dup, 1, 0, 0), (20, .invokespecial 9, 3, 0, 0), (23, .putfield 16, 3, 0, 0), (26, .aload_n 0, 1, 0, 0), (27, .new 7, 3, 0, 0), (30, .dup, 1, 0, 0), (31, .invokespecial 9, 3, 0, 0), (34, .putfield 19, 3, 0, 0), (37, .aload_n 0, 1, 0, 0), (38, .new 22, 3, 0, 0), (41, .dup, 1, 0, 0), (42, .invokespecial 24, 3, 0, 0), (45, .putfield 25, 3, 0, 0), (48, .aload_n 0, 1, 0, 0), (49, .new 29, 3, 0, 0), (52, .dup, 1, 0, 0), (53, .invokespecial 31, 3, 0, 0), (56, .putfield 32, 3, 0, 0), (59, .aload_n 0, 1, 0, 0), (60, .new 36, 3, 0, 0), (63, .dup, 1, 0, 0), (64, .invokespecial 38, 3, 0, 0), (67, .putfield 39, 3, 0, 0), (70, .aload_n 0, 1, 0, 0), (71, .iconst 0, 1, 0, 0), (72, .putfield 43, 3, 0, 0), (75, .aload_n 0, 1, 0, 0), (76, .iconst 0, 1, 0, 0), (77, .putfield 47, 3, 0, 0), (80, .aload_n 0, 1, 0, 0), (81, .iconst (-1), 1, (-1), 0), (82, .putfield 51, 3, 0, 0), (85, .aload_n 0, 1, 0, 0), (86, .iconst (-1), 1, (-1), 0), (87, .putfield 54, 3, 0, 0), (90, .aload_n 0, 1, 0, 0), (91, .iconst (-1), 1, (-1), 0), (92, .putfield 57, 3, 0, 0), (95, .return_, 1, 0, 0)]
set_option maxRecDepth 100000 in
theorem tk_X8_init : q_tb cX8_init 1 tb_X8_init = true := by decide +kernel
set_option maxRecDepth 100000 in
theorem mw_X8_addTeam : q_mw yX8_addTeam cX8_addTeam 1 (Option.some Jvm.ClassFile.FieldType.int) 0 := ⟨q_t5 70 rfl rfl, by decide +kernel, by decide +kernel, q_init_QuillRelay⟩
set_option maxRecDepth 100000 in
theorem mi_X8_addTeam : Cond.instanceMethod yX8_addTeam ∈ q_W := q_t5 68 rfl rfl
set_option maxRecDepth 100000 in
theorem me_X8_addTeam : Cond.selects yX8_addTeam.cls yX8_addTeam yX8_addTeam ∈ q_W := q_t5 69 rfl rfl
def tb_X8_addTeam : List q_E := [(0, .aload_n 0, 1, 0, 0), (1, .getfield 10, 3, 0, 0), (4, .invokevirtual 60, 3, 0, 0), (7, .invokestatic 64, 3, 0, 0), (10, .aload_n 0, 1, 0, 0), (11, .getfield 25, 3, 0, 0), (14, .aload_n 0, 1, 0, 0), (15, .getfield 10, 3, 0, 0), (18, .invokevirtual 68, 3, 0, 0), (21, .aload_n 0, 1, 0, 0), (22, .getfield 10, 3, 0, 0), (25, .invokevirtual 72, 3, 0, 0), (28, .ireturn, 1, 0, 0)]
set_option maxRecDepth 100000 in
theorem tk_X8_addTeam : q_tb cX8_addTeam 1 tb_X8_addTeam = true := by decide +kernel
set_option maxRecDepth 100000 in
theorem mw_X8_setSpeed : q_mw yX8_setSpeed cX8_setSpeed 4 (Option.some Jvm.ClassFile.FieldType.int) 3 := ⟨q_t5 85 rfl rfl, by decide +kernel, by decide +kernel, q_init_QuillRelay⟩
set_option maxRecDepth 100000 in
theorem mi_X8_setSpeed : Cond.instanceMethod yX8_setSpeed ∈ q_W := q_t5 83 rfl rfl
set_option maxRecDepth 100000 in
theorem me_X8_setSpeed : Cond.selects yX8_setSpeed.cls yX8_setSpeed yX8_setSpeed ∈ q_W := q_t5 84 rfl rfl
def tb_X8_setSpeed : List q_E := [(0, .aload_n 0, 1, 0, 0), (1, .getfield 10, 3, 0, 0), (4, .iload_n 1, 1, 0, 0), (5, .iload_n 2, 1, 0, 0), (6, .iload_n 3, 1, 0, 0), (7, .invokevirtual 76, 3, 0, 0), (10, .invokestatic 64, 3, 0, 0), (13, .aload_n 0, 1, 0, 0), (14, .getfield 25, 3, 0, 0), (17, .aload_n 0, 1, 0, 0), (18, .getfield 10, 3, 0, 0), (21, .invokevirtual 68, 3, 0, 0), (24, .aload_n 0, 1, 0, 0), (25, .iload_n 1, 1, 0, 0), (26, .invokevirtual 80, 3, 0, 0), (29, .iload_n 2, 1, 0, 0), (30, .iload_n 3, 1, 0, 0), (31, .invokevirtual 84, 3, 0, 0), (34, .ireturn, 1, 0, 0)]
set_option maxRecDepth 100000 in
theorem tk_X8_setSpeed : q_tb cX8_setSpeed 4 tb_X8_setSpeed = true := by decide +kernel
set_option maxRecDepth 100000 in
theorem mw_X8_setLength : q_mw yX8_setLength cX8_setLength 3 (Option.some Jvm.ClassFile.FieldType.int) 1 := ⟨q_t5 101 rfl rfl, by decide +kernel, by decide +kernel, q_init_QuillRelay⟩
set_option maxRecDepth 100000 in
theorem mi_X8_setLength : Cond.instanceMethod yX8_setLength ∈ q_W := q_t5 99 rfl rfl
set_option maxRecDepth 100000 in
theorem me_X8_setLength : Cond.selects yX8_setLength.cls yX8_setLength yX8_setLength ∈ q_W := q_t5 100 rfl rfl
def tb_X8_setLength : List q_E := [(0, .aload_n 0, 1, 0, 0), (1, .getfield 10, 3, 0, 0), (4, .iload_n 1, 1, 0, 0), (5, .invokevirtual 90, 3, 0, 0), (8, .invokestatic 64, 3, 0, 0), (11, .aload_n 0, 1, 0, 0), (12, .getfield 25, 3, 0, 0), (15, .aload_n 0, 1, 0, 0), (16, .getfield 10, 3, 0, 0), (19, .invokevirtual 68, 3, 0, 0), (22, .aload_n 0, 1, 0, 0), (23, .getfield 10, 3, 0, 0), (26, .getfield 94, 3, 0, 0), (29, .istore_n 2, 1, 0, 0), (30, .aload_n 0, 1, 0, 0), (31, .getfield 10, 3, 0, 0), (34, .iload_n 1, 1, 0, 0), (35, .putfield 94, 3, 0, 0), (38, .iload_n 2, 1, 0, 0), (39, .ireturn, 1, 0, 0)]
set_option maxRecDepth 100000 in
theorem tk_X8_setLength : q_tb cX8_setLength 3 tb_X8_setLength = true := by decide +kernel
set_option maxRecDepth 100000 in
theorem mw_X8_drawLanes : q_mw yX8_drawLanes cX8_drawLanes 2 (Option.some Jvm.ClassFile.FieldType.int) 1 := ⟨q_t5 112 rfl rfl, by decide +kernel, by decide +kernel, q_init_QuillRelay⟩
set_option maxRecDepth 100000 in
theorem mi_X8_drawLanes : Cond.instanceMethod yX8_drawLanes ∈ q_W := q_t5 110 rfl rfl
set_option maxRecDepth 100000 in
theorem me_X8_drawLanes : Cond.selects yX8_drawLanes.cls yX8_drawLanes yX8_drawLanes ∈ q_W := q_t5 111 rfl rfl
def tb_X8_drawLanes : List q_E := [(0, .aload_n 0, 1, 0, 0), (1, .getfield 10, 3, 0, 0), (4, .iload_n 1, 1, 0, 0), (5, .invokevirtual 97, 3, 0, 0), (8, .invokestatic 64, 3, 0, 0), (11, .aload_n 0, 1, 0, 0), (12, .getfield 25, 3, 0, 0), (15, .aload_n 0, 1, 0, 0), (16, .getfield 10, 3, 0, 0), (19, .invokevirtual 68, 3, 0, 0), (22, .aload_n 0, 1, 0, 0), (23, .getfield 10, 3, 0, 0), (26, .iload_n 1, 1, 0, 0), (27, .invokevirtual 100, 3, 0, 0), (30, .aload_n 0, 1, 0, 0), (31, .iconst 0, 1, 0, 0), (32, .invokevirtual 80, 3, 0, 0), (35, .getfield 104, 3, 0, 0), (38, .ireturn, 1, 0, 0)]
set_option maxRecDepth 100000 in
theorem tk_X8_drawLanes : q_tb cX8_drawLanes 2 tb_X8_drawLanes = true := by decide +kernel
set_option maxRecDepth 100000 in
theorem mw_X8_start : q_mw yX8_start cX8_start 1 (Option.some Jvm.ClassFile.FieldType.int) 0 := ⟨q_t3 25 rfl rfl, by decide +kernel, by decide +kernel, q_init_QuillRelay⟩
set_option maxRecDepth 100000 in
theorem mi_X8_start : Cond.instanceMethod yX8_start ∈ q_W := q_t3 23 rfl rfl
set_option maxRecDepth 100000 in
theorem me_X8_start : Cond.selects yX8_start.cls yX8_start yX8_start ∈ q_W := q_t3 24 rfl rfl
def tb_X8_start : List q_E := [(0, .aload_n 0, 1, 0, 0), (1, .getfield 10, 3, 0, 0), (4, .invokevirtual 107, 3, 0, 0), (7, .invokestatic 64, 3, 0, 0), (10, .aload_n 0, 1, 0, 0), (11, .getfield 25, 3, 0, 0), (14, .aload_n 0, 1, 0, 0), (15, .getfield 10, 3, 0, 0), (18, .invokevirtual 68, 3, 0, 0), (21, .aload_n 0, 1, 0, 0), (22, .getfield 10, 3, 0, 0), (25, .invokevirtual 110, 3, 0, 0), (28, .aload_n 0, 1, 0, 0), (29, .getfield 10, 3, 0, 0), (32, .invokevirtual 113, 3, 0, 0), (35, .ireturn, 1, 0, 0)]
set_option maxRecDepth 100000 in
theorem tk_X8_start : q_tb cX8_start 1 tb_X8_start = true := by decide +kernel
set_option maxRecDepth 100000 in
theorem mw_X8_run : q_mw yX8_run cX8_run 2 (Option.some Jvm.ClassFile.FieldType.int) 1 := ⟨q_t3 111 rfl rfl, by decide +kernel, by decide +kernel, q_init_QuillRelay⟩
set_option maxRecDepth 100000 in
theorem mi_X8_run : Cond.instanceMethod yX8_run ∈ q_W := q_t3 109 rfl rfl
set_option maxRecDepth 100000 in
theorem me_X8_run : Cond.selects yX8_run.cls yX8_run yX8_run ∈ q_W := q_t3 110 rfl rfl
def tb_X8_run : List q_E := [(0, .aload_n 0, 1, 0, 0), (1, .getfield 10, 3, 0, 0), (4, .iload_n 1, 1, 0, 0), (5, .invokevirtual 116, 3, 0, 0), (8, .invokestatic 64, 3, 0, 0), (11, .aload_n 0, 1, 0, 0), (12, .getfield 25, 3, 0, 0), (15, .aload_n 0, 1, 0, 0), (16, .getfield 10, 3, 0, 0), (19, .invokevirtual 68, 3, 0, 0), (22, .aload_n 0, 1, 0, 0), (23, .getfield 10, 3, 0, 0), (26, .iload_n 1, 1, 0, 0), (27, .invokevirtual 119, 3, 0, 0), (30, .ireturn, 1, 0, 0)]
set_option maxRecDepth 100000 in
theorem tk_X8_run : q_tb cX8_run 2 tb_X8_run = true := by decide +kernel
set_option maxRecDepth 100000 in
theorem mw_X8_pass : q_mw yX8_pass cX8_pass 2 (Option.some Jvm.ClassFile.FieldType.int) 1 := ⟨q_t3 159 rfl rfl, by decide +kernel, by decide +kernel, q_init_QuillRelay⟩
set_option maxRecDepth 100000 in
theorem mi_X8_pass : Cond.instanceMethod yX8_pass ∈ q_W := q_t3 157 rfl rfl
set_option maxRecDepth 100000 in
theorem me_X8_pass : Cond.selects yX8_pass.cls yX8_pass yX8_pass ∈ q_W := q_t3 158 rfl rfl
def tb_X8_pass : List q_E := [(0, .aload_n 0, 1, 0, 0), (1, .iload_n 1, 1, 0, 0), (2, .invokevirtual 123, 3, 0, 0), (5, .invokestatic 64, 3, 0, 0), (8, .aload_n 0, 1, 0, 0), (9, .getfield 25, 3, 0, 0), (12, .aload_n 0, 1, 0, 0), (13, .getfield 10, 3, 0, 0), (16, .invokevirtual 68, 3, 0, 0), (19, .aload_n 0, 1, 0, 0), (20, .getfield 10, 3, 0, 0), (23, .aload_n 0, 1, 0, 0), (24, .iload_n 1, 1, 0, 0), (25, .invokevirtual 80, 3, 0, 0), (28, .invokevirtual 126, 3, 0, 0), (31, .ireturn, 1, 0, 0)]
set_option maxRecDepth 100000 in
theorem tk_X8_pass : q_tb cX8_pass 2 tb_X8_pass = true := by decide +kernel
set_option maxRecDepth 100000 in
theorem mw_X8_drop : q_mw yX8_drop cX8_drop 3 (Option.some Jvm.ClassFile.FieldType.int) 2 := ⟨q_t3 182 rfl rfl, by decide +kernel, by decide +kernel, q_init_QuillRelay⟩
set_option maxRecDepth 100000 in
theorem mi_X8_drop : Cond.instanceMethod yX8_drop ∈ q_W := q_t3 180 rfl rfl
set_option maxRecDepth 100000 in
theorem me_X8_drop : Cond.selects yX8_drop.cls yX8_drop yX8_drop ∈ q_W := q_t3 181 rfl rfl
def tb_X8_drop : List q_E := [(0, .aload_n 0, 1, 0, 0), (1, .getfield 10, 3, 0, 0), (4, .iload_n 1, 1, 0, 0), (5, .iload_n 2, 1, 0, 0), (6, .invokevirtual 130, 3, 0, 0), (9, .invokestatic 64, 3, 0, 0), (12, .aload_n 0, 1, 0, 0), (13, .getfield 25, 3, 0, 0), (16, .aload_n 0, 1, 0, 0), (17, .getfield 10, 3, 0, 0), (20, .invokevirtual 68, 3, 0, 0), (23, .aload_n 0, 1, 0, 0), (24, .getfield 10, 3, 0, 0), (27, .aload_n 0, 1, 0, 0), (28, .iload_n 1, 1, 0, 0), (29, .invokevirtual 80, 3, 0, 0), (32, .iload_n 2, 1, 0, 0), (33, .invokevirtual 134, 3, 0, 0), (36, .ireturn, 1, 0, 0)]
set_option maxRecDepth 100000 in
theorem tk_X8_drop : q_tb cX8_drop 3 tb_X8_drop = true := by decide +kernel
set_option maxRecDepth 100000 in
theorem mw_X8_withdraw : q_mw yX8_withdraw cX8_withdraw 2 (Option.some Jvm.ClassFile.FieldType.int) 1 := ⟨q_t3 207 rfl rfl, by decide +kernel, by decide +kernel, q_init_QuillRelay⟩
set_option maxRecDepth 100000 in
theorem mi_X8_withdraw : Cond.instanceMethod yX8_withdraw ∈ q_W := q_t3 205 rfl rfl
set_option maxRecDepth 100000 in
theorem me_X8_withdraw : Cond.selects yX8_withdraw.cls yX8_withdraw yX8_withdraw ∈ q_W := q_t3 206 rfl rfl
def tb_X8_withdraw : List q_E := [(0, .aload_n 0, 1, 0, 0), (1, .getfield 10, 3, 0, 0), (4, .iload_n 1, 1, 0, 0), (5, .invokevirtual 138, 3, 0, 0), (8, .invokestatic 64, 3, 0, 0), (11, .aload_n 0, 1, 0, 0), (12, .getfield 25, 3, 0, 0), (15, .aload_n 0, 1, 0, 0), (16, .getfield 10, 3, 0, 0), (19, .invokevirtual 68, 3, 0, 0), (22, .aload_n 0, 1, 0, 0), (23, .iload_n 1, 1, 0, 0), (24, .invokevirtual 80, 3, 0, 0), (27, .getstatic 141, 3, 0, 0), (30, .putfield 147, 3, 0, 0), (33, .aload_n 0, 1, 0, 0), (34, .getfield 10, 3, 0, 0), (37, .invokevirtual 150, 3, 0, 0), (40, .ireturn, 1, 0, 0)]
set_option maxRecDepth 100000 in
theorem tk_X8_withdraw : q_tb cX8_withdraw 2 tb_X8_withdraw = true := by decide +kernel
set_option maxRecDepth 100000 in
theorem mw_X8_protest : q_mw yX8_protest cX8_protest 4 (Option.some Jvm.ClassFile.FieldType.boolean) 3 := ⟨q_t4 87 rfl rfl, by decide +kernel, by decide +kernel, q_init_QuillRelay⟩
set_option maxRecDepth 100000 in
theorem mi_X8_protest : Cond.instanceMethod yX8_protest ∈ q_W := q_t4 85 rfl rfl
set_option maxRecDepth 100000 in
theorem me_X8_protest : Cond.selects yX8_protest.cls yX8_protest yX8_protest ∈ q_W := q_t4 86 rfl rfl
def tb_X8_protest : List q_E := [(0, .aload_n 0, 1, 0, 0), (1, .getfield 10, 3, 0, 0), (4, .iload_n 1, 1, 0, 0), (5, .iload_n 2, 1, 0, 0), (6, .iload_n 3, 1, 0, 0), (7, .invokevirtual 153, 3, 0, 0), (10, .invokestatic 64, 3, 0, 0), (13, .aload_n 0, 1, 0, 0), (14, .getfield 25, 3, 0, 0), (17, .aload_n 0, 1, 0, 0), (18, .getfield 10, 3, 0, 0), (21, .invokevirtual 68, 3, 0, 0), (24, .aload_n 0, 1, 0, 0), (25, .getfield 10, 3, 0, 0), (28, .aload_n 0, 1, 0, 0), (29, .iload_n 1, 1, 0, 0), (30, .invokevirtual 80, 3, 0, 0), (33, .aload_n 0, 1, 0, 0), (34, .iload_n 2, 1, 0, 0), (35, .invokevirtual 80, 3, 0, 0), (38, .iload_n 3, 1, 0, 0), (39, .invokevirtual 156, 3, 0, 0), (42, .ireturn, 1, 0, 0)]
set_option maxRecDepth 100000 in
theorem tk_X8_protest : q_tb cX8_protest 4 tb_X8_protest = true := by decide +kernel
set_option maxRecDepth 100000 in
theorem mw_X8_teamCount : q_mw yX8_teamCount cX8_teamCount 1 (Option.some Jvm.ClassFile.FieldType.int) 0 := ⟨q_t5 141 rfl rfl, by decide +kernel, by decide +kernel, q_init_QuillRelay⟩
set_option maxRecDepth 100000 in
theorem mi_X8_teamCount : Cond.instanceMethod yX8_teamCount ∈ q_W := q_t5 139 rfl rfl
set_option maxRecDepth 100000 in
theorem me_X8_teamCount : Cond.selects yX8_teamCount.cls yX8_teamCount yX8_teamCount ∈ q_W := q_t5 140 rfl rfl
def tb_X8_teamCount : List q_E := [(0, .aload_n 0, 1, 0, 0), (1, .getfield 10, 3, 0, 0), (4, .invokevirtual 113, 3, 0, 0), (7, .ireturn, 1, 0, 0)]
set_option maxRecDepth 100000 in
theorem tk_X8_teamCount : q_tb cX8_teamCount 1 tb_X8_teamCount = true := by decide +kernel
set_option maxRecDepth 100000 in
theorem mw_X8_runningCount : q_mw yX8_runningCount cX8_runningCount 1 (Option.some Jvm.ClassFile.FieldType.int) 0 := ⟨q_t6 133 rfl rfl, by decide +kernel, by decide +kernel, q_init_QuillRelay⟩
set_option maxRecDepth 100000 in
theorem mi_X8_runningCount : Cond.instanceMethod yX8_runningCount ∈ q_W := q_t6 131 rfl rfl
set_option maxRecDepth 100000 in
theorem me_X8_runningCount : Cond.selects yX8_runningCount.cls yX8_runningCount yX8_runningCount ∈ q_W := q_t6 132 rfl rfl
def tb_X8_runningCount : List q_E := [(0, .aload_n 0, 1, 0, 0), (1, .getfield 10, 3, 0, 0), (4, .invokevirtual 150, 3, 0, 0), (7, .ireturn, 1, 0, 0)]
set_option maxRecDepth 100000 in
theorem tk_X8_runningCount : q_tb cX8_runningCount 1 tb_X8_runningCount = true := by decide +kernel
set_option maxRecDepth 100000 in
theorem mw_X8_isStarted : q_mw yX8_isStarted cX8_isStarted 1 (Option.some Jvm.ClassFile.FieldType.boolean) 0 := ⟨q_t5 137 rfl rfl, by decide +kernel, by decide +kernel, q_init_QuillRelay⟩
set_option maxRecDepth 100000 in
theorem mi_X8_isStarted : Cond.instanceMethod yX8_isStarted ∈ q_W := q_t5 135 rfl rfl
set_option maxRecDepth 100000 in
theorem me_X8_isStarted : Cond.selects yX8_isStarted.cls yX8_isStarted yX8_isStarted ∈ q_W := q_t5 136 rfl rfl
def tb_X8_isStarted : List q_E := [(0, .aload_n 0, 1, 0, 0), (1, .getfield 10, 3, 0, 0), (4, .getfield 160, 3, 0, 0), (7, .ireturn, 1, 0, 0)]
set_option maxRecDepth 100000 in
theorem tk_X8_isStarted : q_tb cX8_isStarted 1 tb_X8_isStarted = true := by decide +kernel
set_option maxRecDepth 100000 in
theorem mw_X8_isFinished : q_mw yX8_isFinished cX8_isFinished 1 (Option.some Jvm.ClassFile.FieldType.boolean) 0 := ⟨q_t6 137 rfl rfl, by decide +kernel, by decide +kernel, q_init_QuillRelay⟩
set_option maxRecDepth 100000 in
theorem mi_X8_isFinished : Cond.instanceMethod yX8_isFinished ∈ q_W := q_t6 135 rfl rfl
set_option maxRecDepth 100000 in
theorem me_X8_isFinished : Cond.selects yX8_isFinished.cls yX8_isFinished yX8_isFinished ∈ q_W := q_t6 136 rfl rfl
def tb_X8_isFinished : List q_E := [(0, .aload_n 0, 1, 0, 0), (1, .getfield 10, 3, 0, 0), (4, .getfield 160, 3, 0, 0), (7, .ifCond .eq 17, 3, 0, 24), (10, .aload_n 0, 1, 0, 0), (11, .getfield 10, 3, 0, 0), (14, .invokevirtual 150, 3, 0, 0), (17, .ifCond .ne 7, 3, 0, 24), (20, .iconst 1, 1, 1, 0), (21, .goto 4, 3, 0, 25), (24, .iconst 0, 1, 0, 0), (25, .ireturn, 1, 0, 0)]
set_option maxRecDepth 100000 in
theorem tk_X8_isFinished : q_tb cX8_isFinished 1 tb_X8_isFinished = true := by decide +kernel
set_option maxRecDepth 100000 in
theorem mw_X8_clock : q_mw yX8_clock cX8_clock 1 (Option.some Jvm.ClassFile.FieldType.int) 0 := ⟨q_t6 37 rfl rfl, by decide +kernel, by decide +kernel, q_init_QuillRelay⟩
set_option maxRecDepth 100000 in
theorem mi_X8_clock : Cond.instanceMethod yX8_clock ∈ q_W := q_t6 35 rfl rfl
set_option maxRecDepth 100000 in
theorem me_X8_clock : Cond.selects yX8_clock.cls yX8_clock yX8_clock ∈ q_W := q_t6 36 rfl rfl
def tb_X8_clock : List q_E := [(0, .aload_n 0, 1, 0, 0), (1, .getfield 10, 3, 0, 0), (4, .getfield 163, 3, 0, 0), (7, .ireturn, 1, 0, 0)]
set_option maxRecDepth 100000 in
theorem tk_X8_clock : q_tb cX8_clock 1 tb_X8_clock = true := by decide +kernel
set_option maxRecDepth 100000 in
theorem mw_X8_length : q_mw yX8_length cX8_length 1 (Option.some Jvm.ClassFile.FieldType.int) 0 := ⟨q_t6 41 rfl rfl, by decide +kernel, by decide +kernel, q_init_QuillRelay⟩
set_option maxRecDepth 100000 in
theorem mi_X8_length : Cond.instanceMethod yX8_length ∈ q_W := q_t6 39 rfl rfl
set_option maxRecDepth 100000 in
theorem me_X8_length : Cond.selects yX8_length.cls yX8_length yX8_length ∈ q_W := q_t6 40 rfl rfl
def tb_X8_length : List q_E := [(0, .aload_n 0, 1, 0, 0), (1, .getfield 10, 3, 0, 0), (4, .getfield 94, 3, 0, 0), (7, .ireturn, 1, 0, 0)]
set_option maxRecDepth 100000 in
theorem tk_X8_length : q_tb cX8_length 1 tb_X8_length = true := by decide +kernel
set_option maxRecDepth 100000 in
theorem mw_X8_laneOf : q_mw yX8_laneOf cX8_laneOf 2 (Option.some Jvm.ClassFile.FieldType.int) 1 := ⟨q_t6 45 rfl rfl, by decide +kernel, by decide +kernel, q_init_QuillRelay⟩
set_option maxRecDepth 100000 in
theorem mi_X8_laneOf : Cond.instanceMethod yX8_laneOf ∈ q_W := q_t6 43 rfl rfl
set_option maxRecDepth 100000 in
theorem me_X8_laneOf : Cond.selects yX8_laneOf.cls yX8_laneOf yX8_laneOf ∈ q_W := q_t6 44 rfl rfl
def tb_X8_laneOf : List q_E := [(0, .aload_n 0, 1, 0, 0), (1, .iload_n 1, 1, 0, 0), (2, .invokevirtual 80, 3, 0, 0), (5, .getfield 104, 3, 0, 0), (8, .ireturn, 1, 0, 0)]
set_option maxRecDepth 100000 in
theorem tk_X8_laneOf : q_tb cX8_laneOf 2 tb_X8_laneOf = true := by decide +kernel
set_option maxRecDepth 100000 in
theorem mw_X8_teamInLane : q_mw yX8_teamInLane cX8_teamInLane 3 (Option.some Jvm.ClassFile.FieldType.int) 1 := ⟨q_t6 124 rfl rfl, by decide +kernel, by decide +kernel, q_init_QuillRelay⟩
set_option maxRecDepth 100000 in
theorem mi_X8_teamInLane : Cond.instanceMethod yX8_teamInLane ∈ q_W := q_t6 122 rfl rfl
set_option maxRecDepth 100000 in
theorem me_X8_teamInLane : Cond.selects yX8_teamInLane.cls yX8_teamInLane yX8_teamInLane ∈ q_W := q_t6 123 rfl rfl
def tb_X8_teamInLane : List q_E := [(0, .aload_n 0, 1, 0, 0), (1, .getfield 10, 3, 0, 0), (4, .iload_n 1, 1, 0, 0), (5, .invokevirtual 166, 3, 0, 0), (8, .istore_n 2, 1, 0, 0), (9, .iload_n 2, 1, 0, 0), (10, .iconst (-1), 1, (-1), 0), (11, .if_icmp .ne 13, 3, 0, 24), (14, .new 169, 3, 0, 0), (17, .dup, 1, 0, 0), (18, .ldc 171, 2, 0, 0), (20, .invokespecial 173, 3, 0, 0), (23, .athrow, 1, 0, 0), (24, .iload_n 2, 1, 0, 0), (25, .ireturn, 1, 0, 0)]
set_option maxRecDepth 100000 in
theorem tk_X8_teamInLane : q_tb cX8_teamInLane 3 tb_X8_teamInLane = true := by decide +kernel
set_option maxRecDepth 100000 in
theorem mw_X8_speedOf : q_mw yX8_speedOf cX8_speedOf 3 (Option.some Jvm.ClassFile.FieldType.int) 2 := ⟨q_t6 84 rfl rfl, by decide +kernel, by decide +kernel, q_init_QuillRelay⟩
set_option maxRecDepth 100000 in
theorem mi_X8_speedOf : Cond.instanceMethod yX8_speedOf ∈ q_W := q_t6 82 rfl rfl
set_option maxRecDepth 100000 in
theorem me_X8_speedOf : Cond.selects yX8_speedOf.cls yX8_speedOf yX8_speedOf ∈ q_W := q_t6 83 rfl rfl
def tb_X8_speedOf : List q_E := [(0, .aload_n 0, 1, 0, 0), (1, .iload_n 1, 1, 0, 0), (2, .iload_n 2, 1, 0, 0), (3, .invokevirtual 176, 3, 0, 0), (6, .iload_n 2, 1, 0, 0), (7, .invokevirtual 180, 3, 0, 0), (10, .ireturn, 1, 0, 0)]
set_option maxRecDepth 100000 in
theorem tk_X8_speedOf : q_tb cX8_speedOf 3 tb_X8_speedOf = true := by decide +kernel
set_option maxRecDepth 100000 in
theorem mw_X8_positionOf : q_mw yX8_positionOf cX8_positionOf 2 (Option.some Jvm.ClassFile.FieldType.int) 1 := ⟨q_t6 49 rfl rfl, by decide +kernel, by decide +kernel, q_init_QuillRelay⟩
set_option maxRecDepth 100000 in
theorem mi_X8_positionOf : Cond.instanceMethod yX8_positionOf ∈ q_W := q_t6 47 rfl rfl
set_option maxRecDepth 100000 in
theorem me_X8_positionOf : Cond.selects yX8_positionOf.cls yX8_positionOf yX8_positionOf ∈ q_W := q_t6 48 rfl rfl
def tb_X8_positionOf : List q_E := [(0, .aload_n 0, 1, 0, 0), (1, .iload_n 1, 1, 0, 0), (2, .invokevirtual 80, 3, 0, 0), (5, .getfield 183, 3, 0, 0), (8, .ireturn, 1, 0, 0)]
set_option maxRecDepth 100000 in
theorem tk_X8_positionOf : q_tb cX8_positionOf 2 tb_X8_positionOf = true := by decide +kernel
set_option maxRecDepth 100000 in
theorem mw_X8_legOf : q_mw yX8_legOf cX8_legOf 2 (Option.some Jvm.ClassFile.FieldType.int) 1 := ⟨q_t6 53 rfl rfl, by decide +kernel, by decide +kernel, q_init_QuillRelay⟩
set_option maxRecDepth 100000 in
theorem mi_X8_legOf : Cond.instanceMethod yX8_legOf ∈ q_W := q_t6 51 rfl rfl
set_option maxRecDepth 100000 in
theorem me_X8_legOf : Cond.selects yX8_legOf.cls yX8_legOf yX8_legOf ∈ q_W := q_t6 52 rfl rfl
def tb_X8_legOf : List q_E := [(0, .aload_n 0, 1, 0, 0), (1, .iload_n 1, 1, 0, 0), (2, .invokevirtual 80, 3, 0, 0), (5, .getfield 186, 3, 0, 0), (8, .ireturn, 1, 0, 0)]
set_option maxRecDepth 100000 in
theorem tk_X8_legOf : q_tb cX8_legOf 2 tb_X8_legOf = true := by decide +kernel
set_option maxRecDepth 100000 in
theorem mw_X8_isRunning : q_mw yX8_isRunning cX8_isRunning 2 (Option.some Jvm.ClassFile.FieldType.boolean) 1 := ⟨q_t6 57 rfl rfl, by decide +kernel, by decide +kernel, q_init_QuillRelay⟩
set_option maxRecDepth 100000 in
theorem mi_X8_isRunning : Cond.instanceMethod yX8_isRunning ∈ q_W := q_t6 55 rfl rfl
set_option maxRecDepth 100000 in
theorem me_X8_isRunning : Cond.selects yX8_isRunning.cls yX8_isRunning yX8_isRunning ∈ q_W := q_t6 56 rfl rfl
def tb_X8_isRunning : List q_E := [(0, .aload_n 0, 1, 0, 0), (1, .iload_n 1, 1, 0, 0), (2, .invokevirtual 80, 3, 0, 0), (5, .getfield 147, 3, 0, 0), (8, .getstatic 189, 3, 0, 0), (11, .if_acmp .ne 7, 3, 0, 18), (14, .iconst 1, 1, 1, 0), (15, .goto 4, 3, 0, 19), (18, .iconst 0, 1, 0, 0), (19, .ireturn, 1, 0, 0)]
set_option maxRecDepth 100000 in
theorem tk_X8_isRunning : q_tb cX8_isRunning 2 tb_X8_isRunning = true := by decide +kernel
set_option maxRecDepth 100000 in
theorem mw_X8_isInZone : q_mw yX8_isInZone cX8_isInZone 2 (Option.some Jvm.ClassFile.FieldType.boolean) 1 := ⟨q_t6 107 rfl rfl, by decide +kernel, by decide +kernel, q_init_QuillRelay⟩
set_option maxRecDepth 100000 in
theorem mi_X8_isInZone : Cond.instanceMethod yX8_isInZone ∈ q_W := q_t6 105 rfl rfl
set_option maxRecDepth 100000 in
theorem me_X8_isInZone : Cond.selects yX8_isInZone.cls yX8_isInZone yX8_isInZone ∈ q_W := q_t6 106 rfl rfl
def tb_X8_isInZone : List q_E := [(0, .aload_n 0, 1, 0, 0), (1, .iload_n 1, 1, 0, 0), (2, .invokevirtual 80, 3, 0, 0), (5, .aload_n 0, 1, 0, 0), (6, .getfield 10, 3, 0, 0), (9, .getfield 94, 3, 0, 0), (12, .invokevirtual 192, 3, 0, 0), (15, .ireturn, 1, 0, 0)]
set_option maxRecDepth 100000 in
theorem tk_X8_isInZone : q_tb cX8_isInZone 2 tb_X8_isInZone = true := by decide +kernel
set_option maxRecDepth 100000 in
theorem mw_X8_standingOf : q_mw yX8_standingOf cX8_standingOf 2 (Option.some Jvm.ClassFile.FieldType.int) 1 := ⟨q_t5 145 rfl rfl, by decide +kernel, by decide +kernel, q_init_QuillRelay⟩
set_option maxRecDepth 100000 in
theorem mi_X8_standingOf : Cond.instanceMethod yX8_standingOf ∈ q_W := q_t5 143 rfl rfl
set_option maxRecDepth 100000 in
theorem me_X8_standingOf : Cond.selects yX8_standingOf.cls yX8_standingOf yX8_standingOf ∈ q_W := q_t5 144 rfl rfl
def tb_X8_standingOf : List q_E := [(0, .aload_n 0, 1, 0, 0), (1, .iload_n 1, 1, 0, 0), (2, .invokevirtual 80, 3, 0, 0), (5, .getfield 196, 3, 0, 0), (8, .ireturn, 1, 0, 0)]
set_option maxRecDepth 100000 in
theorem tk_X8_standingOf : q_tb cX8_standingOf 2 tb_X8_standingOf = true := by decide +kernel
set_option maxRecDepth 100000 in
theorem mw_X8_penaltyOf : q_mw yX8_penaltyOf cX8_penaltyOf 2 (Option.some Jvm.ClassFile.FieldType.int) 1 := ⟨q_t6 61 rfl rfl, by decide +kernel, by decide +kernel, q_init_QuillRelay⟩
set_option maxRecDepth 100000 in
theorem mi_X8_penaltyOf : Cond.instanceMethod yX8_penaltyOf ∈ q_W := q_t6 59 rfl rfl
set_option maxRecDepth 100000 in
theorem me_X8_penaltyOf : Cond.selects yX8_penaltyOf.cls yX8_penaltyOf yX8_penaltyOf ∈ q_W := q_t6 60 rfl rfl
def tb_X8_penaltyOf : List q_E := [(0, .aload_n 0, 1, 0, 0), (1, .iload_n 1, 1, 0, 0), (2, .invokevirtual 80, 3, 0, 0), (5, .getfield 199, 3, 0, 0), (8, .ireturn, 1, 0, 0)]
set_option maxRecDepth 100000 in
theorem tk_X8_penaltyOf : q_tb cX8_penaltyOf 2 tb_X8_penaltyOf = true := by decide +kernel
set_option maxRecDepth 100000 in
theorem mw_X8_hasFoul : q_mw yX8_hasFoul cX8_hasFoul 4 (Option.some Jvm.ClassFile.FieldType.boolean) 2 := ⟨q_t6 65 rfl rfl, by decide +kernel, by decide +kernel, q_init_QuillRelay⟩
set_option maxRecDepth 100000 in
theorem mi_X8_hasFoul : Cond.instanceMethod yX8_hasFoul ∈ q_W := q_t6 63 rfl rfl
set_option maxRecDepth 100000 in
theorem me_X8_hasFoul : Cond.selects yX8_hasFoul.cls yX8_hasFoul yX8_hasFoul ∈ q_W := q_t6 64 rfl rfl
def tb_X8_hasFoul : List q_E := [(0, .aload_n 0, 1, 0, 0), (1, .iload_n 1, 1, 0, 0), (2, .invokevirtual 80, 3, 0, 0), (5, .astore_n 3, 1, 0, 0), (6, .iload_n 2, 1, 0, 0), (7, .invokestatic 202, 3, 0, 0), (10, .ifCond .ne 13, 3, 0, 23), (13, .new 205, 3, 0, 0), (16, .dup, 1, 0, 0), (17, .ldc 207, 2, 0, 0), (19, .invokespecial 209, 3, 0, 0), (22, .athrow, 1, 0, 0), (23, .aload_n 3, 1, 0, 0), (24, .iload_n 2, 1, 0, 0), (25, .invokevirtual 210, 3, 0, 0), (28, .ireturn, 1, 0, 0)]
set_option maxRecDepth 100000 in
theorem tk_X8_hasFoul : q_tb cX8_hasFoul 4 tb_X8_hasFoul = true := by decide +kernel
set_option maxRecDepth 100000 in
theorem mw_X8_splitOf : q_mw yX8_splitOf cX8_splitOf 4 (Option.some Jvm.ClassFile.FieldType.int) 2 := ⟨q_t3 220 rfl rfl, by decide +kernel, by decide +kernel, q_init_QuillRelay⟩
set_option maxRecDepth 100000 in
theorem mi_X8_splitOf : Cond.instanceMethod yX8_splitOf ∈ q_W := q_t3 218 rfl rfl
set_option maxRecDepth 100000 in
theorem me_X8_splitOf : Cond.selects yX8_splitOf.cls yX8_splitOf yX8_splitOf ∈ q_W := q_t3 219 rfl rfl
def tb_X8_splitOf : List q_E := [(0, .aload_n 0, 1, 0, 0), (1, .iload_n 1, 1, 0, 0), (2, .iload_n 2, 1, 0, 0), (3, .invokevirtual 176, 3, 0, 0), (6, .astore_n 3, 1, 0, 0), (7, .aload_n 3, 1, 0, 0), (8, .iload_n 2, 1, 0, 0), (9, .invokevirtual 213, 3, 0, 0), (12, .ifCond .ne 13, 3, 0, 25), (15, .new 169, 3, 0, 0), (18, .dup, 1, 0, 0), (19, .ldc 216, 2, 0, 0), (21, .invokespecial 173, 3, 0, 0), (24, .athrow, 1, 0, 0), (25, .aload_n 3, 1, 0, 0), (26, .getfield 218, 3, 0, 0), (29, .iload_n 2, 1, 0, 0), (30, .invokestatic 222, 3, 0, 0), (33, .ireturn, 1, 0, 0)]
set_option maxRecDepth 100000 in
theorem tk_X8_splitOf : q_tb cX8_splitOf 4 tb_X8_splitOf = true := by decide +kernel
set_option maxRecDepth 100000 in
theorem mw_X8_splitSum : q_mw yX8_splitSum cX8_splitSum 7 (Option.some Jvm.ClassFile.FieldType.int) 1 := ⟨q_t6 112 rfl rfl, by decide +kernel, by decide +kernel, q_init_QuillRelay⟩
set_option maxRecDepth 100000 in
theorem mi_X8_splitSum : Cond.instanceMethod yX8_splitSum ∈ q_W := q_t6 110 rfl rfl
set_option maxRecDepth 100000 in
theorem me_X8_splitSum : Cond.selects yX8_splitSum.cls yX8_splitSum yX8_splitSum ∈ q_W := q_t6 111 rfl rfl
def tb_X8_splitSum : List q_E := [(0, .iconst 0, 1, 0, 0), (1, .istore_n 2, 1, 0, 0), (2, .aload_n 0, 1, 0, 0), (3, .iload_n 1, 1, 0, 0), (4, .invokevirtual 80, 3, 0, 0), (7, .getfield 218, 3, 0, 0), (10, .astore_n 3, 1, 0, 0), (11, .aload_n 3, 1, 0, 0), (12, .arraylength, 1, 0, 20), (13, .istore 4, 2, 0, 0), (15, .iconst 0, 1, 0, 0), (16, .istore 5, 2, 0, 0), (18, .iload 5, 2, 0, 0), (20, .iload 4, 2, 0, 0), (22, .if_icmp .ge 20, 3, 0, 42), (25, .aload_n 3, 1, 0, 0), (26, .iload 5, 2, 0, 0), (28, .iaload, 1, 0, 0), (29, .istore 6, 2, 0, 0), (31, .iload_n 2, 1, 0, 0), (32, .iload 6, 2, 0, 0), (34, .iadd, 1, 0, 0), (35, .istore_n 2, 1, 0, 0), (36, .iinc 5 1, 3, 1, 0), (39, .goto (-21), 3, 0, 18), (42, .iload_n 2, 1, 0, 0), (43, .ireturn, 1, 0, 0)]
set_option maxRecDepth 100000 in
theorem tk_X8_splitSum : q_tb cX8_splitSum 7 tb_X8_splitSum = true := by decide +kernel
set_option maxRecDepth 100000 in
theorem mw_X8_timeOf : q_mw yX8_timeOf cX8_timeOf 2 (Option.some Jvm.ClassFile.FieldType.int) 1 := ⟨q_t6 75 rfl rfl, by decide +kernel, by decide +kernel, q_init_QuillRelay⟩
set_option maxRecDepth 100000 in
theorem mi_X8_timeOf : Cond.instanceMethod yX8_timeOf ∈ q_W := q_t6 73 rfl rfl
set_option maxRecDepth 100000 in
theorem me_X8_timeOf : Cond.selects yX8_timeOf.cls yX8_timeOf yX8_timeOf ∈ q_W := q_t6 74 rfl rfl
def tb_X8_timeOf : List q_E := [(0, .aload_n 0, 1, 0, 0), (1, .iload_n 1, 1, 0, 0), (2, .invokevirtual 226, 3, 0, 0), (5, .getfield 229, 3, 0, 0), (8, .ireturn, 1, 0, 0)]
set_option maxRecDepth 100000 in
theorem tk_X8_timeOf : q_tb cX8_timeOf 2 tb_X8_timeOf = true := by decide +kernel
set_option maxRecDepth 100000 in
theorem mw_X8_resultOf : q_mw yX8_resultOf cX8_resultOf 2 (Option.some Jvm.ClassFile.FieldType.int) 1 := ⟨q_t6 103 rfl rfl, by decide +kernel, by decide +kernel, q_init_QuillRelay⟩
set_option maxRecDepth 100000 in
theorem mi_X8_resultOf : Cond.instanceMethod yX8_resultOf ∈ q_W := q_t6 101 rfl rfl
set_option maxRecDepth 100000 in
theorem me_X8_resultOf : Cond.selects yX8_resultOf.cls yX8_resultOf yX8_resultOf ∈ q_W := q_t6 102 rfl rfl
def tb_X8_resultOf : List q_E := [(0, .aload_n 0, 1, 0, 0), (1, .iload_n 1, 1, 0, 0), (2, .invokevirtual 226, 3, 0, 0), (5, .invokevirtual 232, 3, 0, 0), (8, .ireturn, 1, 0, 0)]
set_option maxRecDepth 100000 in
theorem tk_X8_resultOf : q_tb cX8_resultOf 2 tb_X8_resultOf = true := by decide +kernel
set_option maxRecDepth 100000 in
theorem mw_X8_teamAtRank : q_mw yX8_teamAtRank cX8_teamAtRank 3 (Option.some Jvm.ClassFile.FieldType.int) 1 := ⟨q_t4 15 rfl rfl, by decide +kernel, by decide +kernel, q_init_QuillRelay⟩
set_option maxRecDepth 100000 in
theorem mi_X8_teamAtRank : Cond.instanceMethod yX8_teamAtRank ∈ q_W := q_t4 13 rfl rfl
set_option maxRecDepth 100000 in
theorem me_X8_teamAtRank : Cond.selects yX8_teamAtRank.cls yX8_teamAtRank yX8_teamAtRank ∈ q_W := q_t4 14 rfl rfl
def tb_X8_teamAtRank : List q_E := [(0, .aload_n 0, 1, 0, 0), (1, .getfield 10, 3, 0, 0), (4, .iload_n 1, 1, 0, 0), (5, .invokevirtual 235, 3, 0, 0), (8, .istore_n 2, 1, 0, 0), (9, .iload_n 2, 1, 0, 0), (10, .iconst (-1), 1, (-1), 0), (11, .if_icmp .ne 13, 3, 0, 24), (14, .new 169, 3, 0, 0), (17, .dup, 1, 0, 0), (18, .ldc 238, 2, 0, 0), (20, .invokespecial 173, 3, 0, 0), (23, .athrow, 1, 0, 0), (24, .iload_n 2, 1, 0, 0), (25, .ireturn, 1, 0, 0)]
set_option maxRecDepth 100000 in
theorem tk_X8_teamAtRank : q_tb cX8_teamAtRank 3 tb_X8_teamAtRank = true := by decide +kernel
set_option maxRecDepth 100000 in
theorem mw_X8_rankOf : q_mw yX8_rankOf cX8_rankOf 2 (Option.some Jvm.ClassFile.FieldType.int) 1 := ⟨q_t6 116 rfl rfl, by decide +kernel, by decide +kernel, q_init_QuillRelay⟩
set_option maxRecDepth 100000 in
theorem mi_X8_rankOf : Cond.instanceMethod yX8_rankOf ∈ q_W := q_t6 114 rfl rfl
set_option maxRecDepth 100000 in
theorem me_X8_rankOf : Cond.selects yX8_rankOf.cls yX8_rankOf yX8_rankOf ∈ q_W := q_t6 115 rfl rfl
def tb_X8_rankOf : List q_E := [(0, .aload_n 0, 1, 0, 0), (1, .getfield 10, 3, 0, 0), (4, .aload_n 0, 1, 0, 0), (5, .iload_n 1, 1, 0, 0), (6, .invokevirtual 80, 3, 0, 0), (9, .invokevirtual 240, 3, 0, 0), (12, .ireturn, 1, 0, 0)]
set_option maxRecDepth 100000 in
theorem tk_X8_rankOf : q_tb cX8_rankOf 2 tb_X8_rankOf = true := by decide +kernel
set_option maxRecDepth 100000 in
theorem mw_X8_meanTime : q_mw yX8_meanTime cX8_meanTime 2 (Option.some Jvm.ClassFile.FieldType.double) 0 := ⟨q_t6 141 rfl rfl, by decide +kernel, by decide +kernel, q_init_QuillRelay⟩
set_option maxRecDepth 100000 in
theorem mi_X8_meanTime : Cond.instanceMethod yX8_meanTime ∈ q_W := q_t6 139 rfl rfl
set_option maxRecDepth 100000 in
theorem me_X8_meanTime : Cond.selects yX8_meanTime.cls yX8_meanTime yX8_meanTime ∈ q_W := q_t6 140 rfl rfl
def tb_X8_meanTime : List q_E := [(0, .aload_n 0, 1, 0, 0), (1, .getfield 10, 3, 0, 0), (4, .invokevirtual 243, 3, 0, 0), (7, .istore_n 1, 1, 0, 0), (8, .iload_n 1, 1, 0, 0), (9, .ifCond .ne 13, 3, 0, 22), (12, .new 246, 3, 0, 0), (15, .dup, 1, 0, 0), (16, .ldc 248, 2, 0, 0), (18, .invokespecial 250, 3, 0, 0), (21, .athrow, 1, 0, 0), (22, .aload_n 0, 1, 0, 0), (23, .getfield 10, 3, 0, 0), (26, .invokevirtual 251, 3, 0, 0), (29, .i2d, 1, 0, 0), (30, .iload_n 1, 1, 0, 0), (31, .i2d, 1, 0, 0), (32, .ddiv, 1, 0, 0), (33, .dreturn, 1, 0, 0)]
set_option maxRecDepth 100000 in
theorem tk_X8_meanTime : q_tb cX8_meanTime 2 tb_X8_meanTime = true := by decide +kernel
set_option maxRecDepth 100000 in
theorem mw_X8_reach : q_mw yX8_reach cX8_reach 7 (Option.some Jvm.ClassFile.FieldType.int) 3 := ⟨q_t4 36 rfl rfl, by decide +kernel, by decide +kernel, q_init_QuillRelay⟩
set_option maxRecDepth 100000 in
theorem mi_X8_reach : Cond.instanceMethod yX8_reach ∈ q_W := q_t4 34 rfl rfl
set_option maxRecDepth 100000 in
theorem me_X8_reach : Cond.selects yX8_reach.cls yX8_reach yX8_reach ∈ q_W := q_t4 35 rfl rfl
def tb_X8_reach : List q_E := [(0, .aload_n 0, 1, 0, 0), (1, .iload_n 1, 1, 0, 0), (2, .iload_n 2, 1, 0, 0), (3, .iload_n 3, 1, 0, 0), (4, .invokevirtual 254, 3, 0, 0), (7, .istore 4, 2, 0, 0), (9, .iconst 0, 1, 0, 0), (10, .istore 5, 2, 0, 0), (12, .iconst 0, 1, 0, 0), (13, .istore 6, 2, 0, 0), (15, .iload 6, 2, 0, 0), (17, .iload_n 3, 1, 0, 0), (18, .if_icmp .ge 21, 3, 0, 39), (21, .iload 5, 2, 0, 0), (23, .iload 4, 2, 0, 0), (25, .iload 6, 2, 0, 0), (27, .invokestatic 258, 3, 0, 0), (30, .iadd, 1, 0, 0), (31, .istore 5, 2, 0, 0), (33, .iinc 6 1, 3, 1, 0), (36, .goto (-21), 3, 0, 15), (39, .iload 5, 2, 0, 0), (41, .ireturn, 1, 0, 0)]
set_option maxRecDepth 100000 in
theorem tk_X8_reach : q_tb cX8_reach 7 tb_X8_reach = true := by decide +kernel
set_option maxRecDepth 100000 in
theorem mw_X8_secondsToZone : q_mw yX8_secondsToZone cX8_secondsToZone 3 (Option.some Jvm.ClassFile.FieldType.int) 1 := ⟨q_t4 53 rfl rfl, by decide +kernel, by decide +kernel, q_init_QuillRelay⟩
set_option maxRecDepth 100000 in
theorem mi_X8_secondsToZone : Cond.instanceMethod yX8_secondsToZone ∈ q_W := q_t4 51 rfl rfl
set_option maxRecDepth 100000 in
theorem me_X8_secondsToZone : Cond.selects yX8_secondsToZone.cls yX8_secondsToZone yX8_secondsToZone ∈ q_W := q_t4 52 rfl rfl
def tb_X8_secondsToZone : List q_E := [(0, .aload_n 0, 1, 0, 0), (1, .iload_n 1, 1, 0, 0), (2, .invokevirtual 80, 3, 0, 0), (5, .astore_n 2, 1, 0, 0), (6, .aload_n 2, 1, 0, 0), (7, .getfield 147, 3, 0, 0), (10, .getstatic 189, 3, 0, 0), (13, .if_acmp .eq 14, 3, 0, 27), (16, .new 261, 3, 0, 0), (19, .dup, 1, 0, 0), (20, .ldc_w 263, 3, 0, 0), (23, .invokespecial 265, 3, 0, 0), (26, .athrow, 1, 0, 0), (27, .aload_n 2, 1, 0, 0), (28, .getfield 186, 3, 0, 0), (31, .iconst 3, 1, 3, 0), (32, .if_icmp .lt 14, 3, 0, 46), (35, .new 266, 3, 0, 0), (38, .dup, 1, 0, 0), (39, .ldc_w 268, 3, 0, 0), (42, .invokespecial 270, 3, 0, 0), (45, .athrow, 1, 0, 0), (46, .aload_n 2, 1, 0, 0), (47, .aload_n 0, 1, 0, 0), (48, .getfield 10, 3, 0, 0), (51, .getfield 94, 3, 0, 0), (54, .invokevirtual 271, 3, 0, 0), (57, .ireturn, 1, 0, 0)]
set_option maxRecDepth 100000 in
theorem tk_X8_secondsToZone : q_tb cX8_secondsToZone 3 tb_X8_secondsToZone = true := by decide +kernel
set_option maxRecDepth 100000 in
theorem mw_X8_writeBanner : q_mw yX8_writeBanner cX8_writeBanner 3 (Option.some Jvm.ClassFile.FieldType.int) 1 := ⟨q_t1 37 rfl rfl, by decide +kernel, by decide +kernel, q_init_QuillRelay⟩
set_option maxRecDepth 100000 in
theorem mi_X8_writeBanner : Cond.instanceMethod yX8_writeBanner ∈ q_W := q_t1 35 rfl rfl
set_option maxRecDepth 100000 in
theorem me_X8_writeBanner : Cond.selects yX8_writeBanner.cls yX8_writeBanner yX8_writeBanner ∈ q_W := q_t1 36 rfl rfl
def tb_X8_writeBanner : List q_E := [(0, .aload_n 0, 1, 0, 0), (1, .iload_n 1, 1, 0, 0), (2, .invokevirtual 80, 3, 0, 0), (5, .astore_n 2, 1, 0, 0), (6, .aload_n 0, 1, 0, 0), (7, .getfield 39, 3, 0, 0), (10, .iconst 0, 1, 0, 0), (11, .invokevirtual 276, 3, 0, 0), (14, .aload_n 0, 1, 0, 0), (15, .getfield 39, 3, 0, 0), (18, .bipush 76, 2, 76, 0), (20, .invokevirtual 279, 3, 0, 0), (23, .aload_n 2, 1, 0, 0), (24, .getfield 104, 3, 0, 0), (27, .invokevirtual 283, 3, 0, 0), (30, .bipush 32, 2, 32, 0), (32, .invokevirtual 279, 3, 0, 0), (35, .pop, 1, 0, 0), (36, .aload_n 0, 1, 0, 0), (37, .aload_n 2, 1, 0, 0), (38, .invokevirtual 286, 3, 0, 0), (41, .aload_n 0, 1, 0, 0), (42, .getfield 39, 3, 0, 0), (45, .bipush 32, 2, 32, 0), (47, .invokevirtual 279, 3, 0, 0), (50, .aload_n 2, 1, 0, 0), (51, .getfield 183, 3, 0, 0), (54, .invokevirtual 283, 3, 0, 0), (57, .pop, 1, 0, 0), (58, .aload_n 2, 1, 0, 0), (59, .getfield 199, 3, 0, 0), (62, .ifCond .eq 20, 3, 0, 82), (65, .aload_n 0, 1, 0, 0), (66, .getfield 39, 3, 0, 0), (69, .bipush 43, 2, 43, 0), (71, .invokevirtual 279, 3, 0, 0), (74, .aload_n 2, 1, 0, 0), (75, .getfield 199, 3, 0, 0), (78, .invokevirtual 283, 3, 0, 0), (81, .pop, 1, 0, 0), (82, .aload_n 0, 1, 0, 0), (83, .getfield 39, 3, 0, 0), (86, .invokevirtual 290, 3, 0, 0), (89, .ireturn, 1, 0, 0)]
set_option maxRecDepth 100000 in
theorem tk_X8_writeBanner : q_tb cX8_writeBanner 3 tb_X8_writeBanner = true := by decide +kernel
set_option maxRecDepth 100000 in
theorem mw_X8_type : q_mw yX8_type cX8_type 2 (Option.some Jvm.ClassFile.FieldType.int) 1 := ⟨q_t5 181 rfl rfl, by decide +kernel, by decide +kernel, q_init_QuillRelay⟩
set_option maxRecDepth 100000 in
theorem mi_X8_type : Cond.instanceMethod yX8_type ∈ q_W := q_t5 179 rfl rfl
set_option maxRecDepth 100000 in
theorem me_X8_type : Cond.selects yX8_type.cls yX8_type yX8_type ∈ q_W := q_t5 180 rfl rfl
def tb_X8_type : List q_E := [(0, .iload_n 1, 1, 0, 0), (1, .bipush 32, 2, 32, 0), (3, .if_icmp .lt 9, 3, 0, 12), (6, .iload_n 1, 1, 0, 0), (7, .bipush 126, 2, 126, 0), (9, .if_icmp .le 14, 3, 0, 23), (12, .new 205, 3, 0, 0), (15, .dup, 1, 0, 0), (16, .ldc_w 302, 3, 0, 0), (19, .invokespecial 209, 3, 0, 0), (22, .athrow, 1, 0, 0), (23, .aload_n 0, 1, 0, 0), (24, .getfield 32, 3, 0, 0), (27, .getfield 304, 3, 0, 0), (30, .invokevirtual 290, 3, 0, 0), (33, .bipush 60, 2, 60, 0), (35, .if_icmp .lt 14, 3, 0, 49), (38, .new 261, 3, 0, 0), (41, .dup, 1, 0, 0), (42, .ldc_w 307, 3, 0, 0), (45, .invokespecial 265, 3, 0, 0), (48, .athrow, 1, 0, 0), (49, .aload_n 0, 1, 0, 0), (50, .getfield 32, 3, 0, 0), (53, .getfield 304, 3, 0, 0), (56, .iload_n 1, 1, 0, 0), (57, .invokevirtual 279, 3, 0, 0), (60, .pop, 1, 0, 0), (61, .aload_n 0, 1, 0, 0), (62, .getfield 32, 3, 0, 0), (65, .getfield 304, 3, 0, 0), (68, .invokevirtual 290, 3, 0, 0), (71, .ireturn, 1, 0, 0)]
set_option maxRecDepth 100000 in
theorem tk_X8_type : q_tb cX8_type 2 tb_X8_type = true := by decide +kernel
set_option maxRecDepth 100000 in
theorem mw_X8_execute : q_mw yX8_execute cX8_execute 3 (Option.some Jvm.ClassFile.FieldType.int) 0 := ⟨q_t5 191 rfl rfl, by decide +kernel, by decide +kernel, q_init_QuillRelay⟩
set_option maxRecDepth 100000 in
theorem mi_X8_execute : Cond.instanceMethod yX8_execute ∈ q_W := q_t5 189 rfl rfl
set_option maxRecDepth 100000 in
theorem me_X8_execute : Cond.selects yX8_execute.cls yX8_execute yX8_execute ∈ q_W := q_t5 190 rfl rfl
def tb_X8_execute : List q_E := [(0, .aload_n 0, 1, 0, 0), (1, .getfield 32, 3, 0, 0), (4, .invokevirtual 309, 3, 0, 0), (7, .istore_n 1, 1, 0, 0), (8, .iload_n 1, 1, 0, 0), (9, .iconst (-1), 1, (-1), 0), (10, .if_icmp .ne 10, 3, 0, 20), (13, .aload_n 0, 1, 0, 0), (14, .invokevirtual 312, 3, 0, 0), (17, .goto 4, 3, 0, 21), (20, .iconst (-1), 1, (-1), 0), (21, .istore_n 2, 1, 0, 0), (22, .aload_n 0, 1, 0, 0), (23, .getfield 32, 3, 0, 0), (26, .getfield 304, 3, 0, 0), (29, .iconst 0, 1, 0, 0), (30, .invokevirtual 276, 3, 0, 0), (33, .iload_n 1, 1, 0, 0), (34, .iconst (-1), 1, (-1), 0), (35, .if_icmp .eq 19, 3, 0, 54), (38, .aload_n 0, 1, 0, 0), (39, .iload_n 1, 1, 0, 0), (40, .putfield 54, 3, 0, 0), (43, .new 205, 3, 0, 0), (46, .dup, 1, 0, 0), (47, .ldc_w 315, 3, 0, 0), (50, .invokespecial 209, 3, 0, 0), (53, .athrow, 1, 0, 0), (54, .iload_n 2, 1, 0, 0), (55, .iconst (-1), 1, (-1), 0), (56, .if_icmp .eq 19, 3, 0, 75), (59, .aload_n 0, 1, 0, 0), (60, .iload_n 2, 1, 0, 0), (61, .putfield 57, 3, 0, 0), (64, .new 261, 3, 0, 0), (67, .dup, 1, 0, 0), (68, .ldc_w 317, 3, 0, 0), (71, .invokespecial 265, 3, 0, 0), (74, .athrow, 1, 0, 0), (75, .aload_n 0, 1, 0, 0), (76, .getfield 32, 3, 0, 0), (79, .getfield 319, 3, 0, 0), (82, .ireturn, 1, 0, 0)]
set_option maxRecDepth 100000 in
theorem tk_X8_execute : q_tb cX8_execute 3 tb_X8_execute = true := by decide +kernel
set_option maxRecDepth 100000 in
theorem mw_X8_undo : q_mw yX8_undo cX8_undo 1 (Option.some Jvm.ClassFile.FieldType.int) 0 := ⟨q_t4 67 rfl rfl, by decide +kernel, by decide +kernel, q_init_QuillRelay⟩
set_option maxRecDepth 100000 in
theorem mi_X8_undo : Cond.instanceMethod yX8_undo ∈ q_W := q_t4 65 rfl rfl
set_option maxRecDepth 100000 in
theorem me_X8_undo : Cond.selects yX8_undo.cls yX8_undo yX8_undo ∈ q_W := q_t4 66 rfl rfl
def tb_X8_undo : List q_E := [(0, .aload_n 0, 1, 0, 0), (1, .getfield 25, 3, 0, 0), (4, .getfield 326, 3, 0, 0), (7, .ifCond .ne 14, 3, 0, 21), (10, .new 261, 3, 0, 0), (13, .dup, 1, 0, 0), (14, .ldc_w 329, 3, 0, 0), (17, .invokespecial 265, 3, 0, 0), (20, .athrow, 1, 0, 0), (21, .aload_n 0, 1, 0, 0), (22, .getfield 25, 3, 0, 0), (25, .aload_n 0, 1, 0, 0), (26, .getfield 10, 3, 0, 0), (29, .invokevirtual 331, 3, 0, 0), (32, .aload_n 0, 1, 0, 0), (33, .getfield 25, 3, 0, 0), (36, .getfield 326, 3, 0, 0), (39, .ireturn, 1, 0, 0)]
set_option maxRecDepth 100000 in
theorem tk_X8_undo : q_tb cX8_undo 1 tb_X8_undo = true := by decide +kernel
set_option maxRecDepth 100000 in
theorem mw_X8_save : q_mw yX8_save cX8_save 1 (Option.some Jvm.ClassFile.FieldType.int) 0 := ⟨q_t3 3 rfl rfl, by decide +kernel, by decide +kernel, q_init_QuillRelay⟩
set_option maxRecDepth 100000 in
theorem mi_X8_save : Cond.instanceMethod yX8_save ∈ q_W := q_t3 1 rfl rfl
set_option maxRecDepth 100000 in
theorem me_X8_save : Cond.selects yX8_save.cls yX8_save yX8_save ∈ q_W := q_t3 2 rfl rfl
def tb_X8_save : List q_E := [(0, .aload_n 0, 1, 0, 0), (1, .getfield 19, 3, 0, 0), (4, .aload_n 0, 1, 0, 0), (5, .getfield 10, 3, 0, 0), (8, .invokevirtual 334, 3, 0, 0), (11, .aload_n 0, 1, 0, 0), (12, .iconst 1, 1, 1, 0), (13, .putfield 43, 3, 0, 0), (16, .aload_n 0, 1, 0, 0), (17, .getfield 10, 3, 0, 0), (20, .getfield 163, 3, 0, 0), (23, .ireturn, 1, 0, 0)]
set_option maxRecDepth 100000 in
theorem tk_X8_save : q_tb cX8_save 1 tb_X8_save = true := by decide +kernel
set_option maxRecDepth 100000 in
theorem mw_X8_restore : q_mw yX8_restore cX8_restore 1 (Option.some Jvm.ClassFile.FieldType.int) 0 := ⟨q_t4 79 rfl rfl, by decide +kernel, by decide +kernel, q_init_QuillRelay⟩
set_option maxRecDepth 100000 in
theorem mi_X8_restore : Cond.instanceMethod yX8_restore ∈ q_W := q_t4 77 rfl rfl
set_option maxRecDepth 100000 in
theorem me_X8_restore : Cond.selects yX8_restore.cls yX8_restore yX8_restore ∈ q_W := q_t4 78 rfl rfl
def tb_X8_restore : List q_E := [(0, .aload_n 0, 1, 0, 0), (1, .getfield 43, 3, 0, 0), (4, .ifCond .ne 14, 3, 0, 18), (7, .new 261, 3, 0, 0), (10, .dup, 1, 0, 0), (11, .ldc_w 337, 3, 0, 0), (14, .invokespecial 265, 3, 0, 0), (17, .athrow, 1, 0, 0), (18, .aload_n 0, 1, 0, 0), (19, .getfield 10, 3, 0, 0), (22, .aload_n 0, 1, 0, 0), (23, .getfield 19, 3, 0, 0), (26, .invokevirtual 334, 3, 0, 0), (29, .aload_n 0, 1, 0, 0), (30, .getfield 25, 3, 0, 0), (33, .iconst 0, 1, 0, 0), (34, .putfield 326, 3, 0, 0), (37, .aload_n 0, 1, 0, 0), (38, .getfield 10, 3, 0, 0), (41, .getfield 163, 3, 0, 0), (44, .ireturn, 1, 0, 0)]
set_option maxRecDepth 100000 in
theorem tk_X8_restore : q_tb cX8_restore 1 tb_X8_restore = true := by decide +kernel
set_option maxRecDepth 100000 in
theorem mw_X8_raise : q_mw yX8_raise cX8_raise 1 (Option.none : Option Jvm.ClassFile.FieldType) 1 := ⟨q_t3 45 rfl rfl, by decide +kernel, by decide +kernel, q_init_QuillRelay⟩
set_option maxRecDepth 100000 in
theorem ms_X8_raise : Cond.static yX8_raise ∈ q_W := q_t3 44 rfl rfl
def tb_X8_raise : List q_E := [(0, .aload_n 0, 1, 0, 0), (1, .getstatic 339, 3, 0, 0), (4, .if_acmp .ne 14, 3, 0, 18), (7, .new 293, 3, 0, 0), (10, .dup, 1, 0, 0), (11, .ldc_w 345, 3, 0, 0), (14, .invokespecial 297, 3, 0, 0), (17, .athrow, 1, 0, 0), (18, .aload_n 0, 1, 0, 0), (19, .getstatic 347, 3, 0, 0), (22, .if_acmp .ne 14, 3, 0, 36), (25, .new 205, 3, 0, 0), (28, .dup, 1, 0, 0), (29, .ldc_w 350, 3, 0, 0), (32, .invokespecial 209, 3, 0, 0), (35, .athrow, 1, 0, 0), (36, .aload_n 0, 1, 0, 0), (37, .getstatic 352, 3, 0, 0), (40, .if_acmp .ne 14, 3, 0, 54), (43, .new 261, 3, 0, 0), (46, .dup, 1, 0, 0), (47, .ldc_w 355, 3, 0, 0), (50, .invokespecial 265, 3, 0, 0), (53, .athrow, 1, 0, 0), (54, .aload_n 0, 1, 0, 0), (55, .getstatic 357, 3, 0, 0), (58, .if_acmp .ne 14, 3, 0, 72), (61, .new 266, 3, 0, 0), (64, .dup, 1, 0, 0), (65, .ldc_w 360, 3, 0, 0), (68, .invokespecial 270, 3, 0, 0), (71, .athrow, 1, 0, 0), (72, .return_, 1, 0, 0)]
set_option maxRecDepth 100000 in
theorem tk_X8_raise : q_tb cX8_raise 1 tb_X8_raise = true := by decide +kernel
set_option maxRecDepth 100000 in
theorem mw_X8_teamWith : q_mw yX8_teamWith cX8_teamWith 3 (Option.some (Jvm.ClassFile.FieldType.object "QuillRelay$Team")) 1 := ⟨q_t1 42 rfl rfl, by decide +kernel, by decide +kernel, q_init_QuillRelay⟩
set_option maxRecDepth 100000 in
theorem mi_X8_teamWith : Cond.instanceMethod yX8_teamWith ∈ q_W := q_t1 40 rfl rfl
set_option maxRecDepth 100000 in
theorem me_X8_teamWith : Cond.selects yX8_teamWith.cls yX8_teamWith yX8_teamWith ∈ q_W := q_s 0 rfl rfl
def tb_X8_teamWith : List q_E := [(0, .aload_n 0, 1, 0, 0), (1, .getfield 10, 3, 0, 0), (4, .iload_n 1, 1, 0, 0), (5, .invokevirtual 362, 3, 0, 0), (8, .astore_n 2, 1, 0, 0), (9, .aload_n 2, 1, 0, 0), (10, .ifnonnull 14, 3, 0, 24), (13, .new 293, 3, 0, 0), (16, .dup, 1, 0, 0), (17, .ldc_w 365, 3, 0, 0), (20, .invokespecial 297, 3, 0, 0), (23, .athrow, 1, 0, 0), (24, .aload_n 2, 1, 0, 0), (25, .areturn, 1, 0, 0)]
set_option maxRecDepth 100000 in
theorem tk_X8_teamWith : q_tb cX8_teamWith 3 tb_X8_teamWith = true := by decide +kernel
set_option maxRecDepth 100000 in
theorem mw_X8_teamWithLeg : q_mw yX8_teamWithLeg cX8_teamWithLeg 4 (Option.some (Jvm.ClassFile.FieldType.object "QuillRelay$Team")) 2 := ⟨q_t3 224 rfl rfl, by decide +kernel, by decide +kernel, q_init_QuillRelay⟩
set_option maxRecDepth 100000 in
theorem mi_X8_teamWithLeg : Cond.instanceMethod yX8_teamWithLeg ∈ q_W := q_t3 223 rfl rfl
set_option maxRecDepth 100000 in
theorem me_X8_teamWithLeg : Cond.selects yX8_teamWithLeg.cls yX8_teamWithLeg yX8_teamWithLeg ∈ q_W := q_s 6 rfl rfl
def tb_X8_teamWithLeg : List q_E := [(0, .aload_n 0, 1, 0, 0), (1, .iload_n 1, 1, 0, 0), (2, .invokevirtual 80, 3, 0, 0), (5, .astore_n 3, 1, 0, 0), (6, .iload_n 2, 1, 0, 0), (7, .invokestatic 367, 3, 0, 0), (10, .ifCond .ne 14, 3, 0, 24), (13, .new 293, 3, 0, 0), (16, .dup, 1, 0, 0), (17, .ldc_w 370, 3, 0, 0), (20, .invokespecial 297, 3, 0, 0), (23, .athrow, 1, 0, 0), (24, .aload_n 3, 1, 0, 0), (25, .areturn, 1, 0, 0)]
set_option maxRecDepth 100000 in
theorem tk_X8_teamWithLeg : q_tb cX8_teamWithLeg 4 tb_X8_teamWithLeg = true := by decide +kernel
set_option maxRecDepth 100000 in
theorem mw_X8_finishedTeamWith : q_mw yX8_finishedTeamWith cX8_finishedTeamWith 3 (Option.some (Jvm.ClassFile.FieldType.object "QuillRelay$Team")) 1 := ⟨q_t6 79 rfl rfl, by decide +kernel, by decide +kernel, q_init_QuillRelay⟩
set_option maxRecDepth 100000 in
theorem mi_X8_finishedTeamWith : Cond.instanceMethod yX8_finishedTeamWith ∈ q_W := q_t6 78 rfl rfl
set_option maxRecDepth 100000 in
theorem me_X8_finishedTeamWith : Cond.selects yX8_finishedTeamWith.cls yX8_finishedTeamWith yX8_finishedTeamWith ∈ q_W := q_s 19 rfl rfl
def tb_X8_finishedTeamWith : List q_E := [(0, .aload_n 0, 1, 0, 0), (1, .iload_n 1, 1, 0, 0), (2, .invokevirtual 80, 3, 0, 0), (5, .astore_n 2, 1, 0, 0), (6, .aload_n 2, 1, 0, 0), (7, .getfield 147, 3, 0, 0), (10, .getstatic 372, 3, 0, 0), (13, .if_acmp .eq 14, 3, 0, 27), (16, .new 169, 3, 0, 0), (19, .dup, 1, 0, 0), (20, .ldc_w 375, 3, 0, 0), (23, .invokespecial 173, 3, 0, 0), (26, .athrow, 1, 0, 0), (27, .aload_n 2, 1, 0, 0), (28, .areturn, 1, 0, 0)]
set_option maxRecDepth 100000 in
theorem tk_X8_finishedTeamWith : q_tb cX8_finishedTeamWith 3 tb_X8_finishedTeamWith = true := by decide +kernel
set_option maxRecDepth 100000 in
theorem mw_X8_speedForReach : q_mw yX8_speedForReach cX8_speedForReach 5 (Option.some Jvm.ClassFile.FieldType.int) 3 := ⟨q_t4 40 rfl rfl, by decide +kernel, by decide +kernel, q_init_QuillRelay⟩
set_option maxRecDepth 100000 in
theorem mi_X8_speedForReach : Cond.instanceMethod yX8_speedForReach ∈ q_W := q_t4 39 rfl rfl
set_option maxRecDepth 100000 in
theorem me_X8_speedForReach : Cond.selects yX8_speedForReach.cls yX8_speedForReach yX8_speedForReach ∈ q_W := q_s 7 rfl rfl
def tb_X8_speedForReach : List q_E := [(0, .aload_n 0, 1, 0, 0), (1, .iload_n 1, 1, 0, 0), (2, .iload_n 2, 1, 0, 0), (3, .invokevirtual 176, 3, 0, 0), (6, .astore 4, 2, 0, 0), (8, .iload_n 3, 1, 0, 0), (9, .ifCond .lt 10, 3, 0, 19), (12, .iload_n 3, 1, 0, 0), (13, .sipush 999, 3, 999, 0), (16, .if_icmp .le 14, 3, 0, 30), (19, .new 205, 3, 0, 0), (22, .dup, 1, 0, 0), (23, .ldc_w 377, 3, 0, 0), (26, .invokespecial 209, 3, 0, 0), (29, .athrow, 1, 0, 0), (30, .aload 4, 2, 0, 0), (32, .iload_n 2, 1, 0, 0), (33, .invokevirtual 180, 3, 0, 0), (36, .ireturn, 1, 0, 0)]
set_option maxRecDepth 100000 in
theorem tk_X8_speedForReach : q_tb cX8_speedForReach 5 tb_X8_speedForReach = true := by decide +kernel
set_option maxRecDepth 100000 in
theorem mw_X8_faultOfPassing : q_mw yX8_faultOfPassing cX8_faultOfPassing 4 (Option.some (Jvm.ClassFile.FieldType.object "QuillRelay$Fault")) 1 := ⟨q_t3 163 rfl rfl, by decide +kernel, by decide +kernel, q_init_QuillRelay⟩
set_option maxRecDepth 100000 in
theorem mi_X8_faultOfPassing : Cond.instanceMethod yX8_faultOfPassing ∈ q_W := q_t3 162 rfl rfl
set_option maxRecDepth 100000 in
theorem me_X8_faultOfPassing : Cond.selects yX8_faultOfPassing.cls yX8_faultOfPassing yX8_faultOfPassing ∈ q_W := q_s 5 rfl rfl
def tb_X8_faultOfPassing : List q_E := [(0, .aload_n 0, 1, 0, 0), (1, .getfield 10, 3, 0, 0), (4, .iload_n 1, 1, 0, 0), (5, .invokevirtual 362, 3, 0, 0), (8, .astore_n 2, 1, 0, 0), (9, .aload_n 2, 1, 0, 0), (10, .ifnonnull 7, 3, 0, 17), (13, .getstatic 339, 3, 0, 0), (16, .areturn, 1, 0, 0), (17, .aload_n 2, 1, 0, 0), (18, .getfield 147, 3, 0, 0), (21, .getstatic 189, 3, 0, 0), (24, .if_acmp .eq 7, 3, 0, 31), (27, .getstatic 352, 3, 0, 0), (30, .areturn, 1, 0, 0), (31, .aload_n 2, 1, 0, 0), (32, .aload_n 0, 1, 0, 0), (33, .getfield 10, 3, 0, 0), (36, .getfield 94, 3, 0, 0), (39, .invokevirtual 379, 3, 0, 0), (42, .istore_n 3, 1, 0, 0), (43, .iload_n 3, 1, 0, 0), (44, .ifCond .ne 7, 3, 0, 51), (47, .getstatic 382, 3, 0, 0), (50, .areturn, 1, 0, 0), (51, .aload_n 0, 1, 0, 0), (52, .iload_n 3, 1, 0, 0), (53, .putfield 47, 3, 0, 0), (56, .aload_n 0, 1, 0, 0), (57, .iload_n 1, 1, 0, 0), (58, .putfield 51, 3, 0, 0), (61, .getstatic 357, 3, 0, 0), (64, .areturn, 1, 0, 0)]
set_option maxRecDepth 100000 in
theorem tk_X8_faultOfPassing : q_tb cX8_faultOfPassing 4 tb_X8_faultOfPassing = true := by decide +kernel
set_option maxRecDepth 100000 in
theorem mw_X8_appendStage : q_mw yX8_appendStage cX8_appendStage 2 (Option.none : Option Jvm.ClassFile.FieldType) 1 := ⟨q_t2 228 rfl rfl, by decide +kernel, by decide +kernel, q_init_QuillRelay⟩
set_option maxRecDepth 100000 in
theorem mi_X8_appendStage : Cond.instanceMethod yX8_appendStage ∈ q_W := q_t2 227 rfl rfl
set_option maxRecDepth 100000 in
theorem me_X8_appendStage : Cond.selects yX8_appendStage.cls yX8_appendStage yX8_appendStage ∈ q_W := q_s 2 rfl rfl
def tb_X8_appendStage : List q_E := [(0, .aload_n 1, 1, 0, 0), (1, .getfield 147, 3, 0, 0), (4, .getstatic 189, 3, 0, 0), (7, .if_acmp .ne 23, 3, 0, 30), (10, .aload_n 0, 1, 0, 0), (11, .getfield 39, 3, 0, 0), (14, .bipush 114, 2, 114, 0), (16, .invokevirtual 279, 3, 0, 0), (19, .aload_n 1, 1, 0, 0), (20, .getfield 186, 3, 0, 0), (23, .invokevirtual 283, 3, 0, 0), (26, .pop, 1, 0, 0), (27, .goto 66, 3, 0, 93), (30, .aload_n 1, 1, 0, 0), (31, .getfield 147, 3, 0, 0), (34, .getstatic 372, 3, 0, 0), (37, .if_acmp .ne 23, 3, 0, 60), (40, .aload_n 0, 1, 0, 0), (41, .getfield 39, 3, 0, 0), (44, .bipush 102, 2, 102, 0), (46, .invokevirtual 279, 3, 0, 0), (49, .aload_n 1, 1, 0, 0), (50, .invokevirtual 232, 3, 0, 0), (53, .invokevirtual 283, 3, 0, 0), (56, .pop, 1, 0, 0), (57, .goto 36, 3, 0, 93), (60, .aload_n 1, 1, 0, 0), (61, .getfield 147, 3, 0, 0), (64, .getstatic 141, 3, 0, 0), (67, .if_acmp .ne 16, 3, 0, 83), (70, .aload_n 0, 1, 0, 0), (71, .getfield 39, 3, 0, 0), (74, .bipush 119, 2, 119, 0), (76, .invokevirtual 279, 3, 0, 0), (79, .pop, 1, 0, 0), (80, .goto 13, 3, 0, 93), (83, .aload_n 0, 1, 0, 0), (84, .getfield 39, 3, 0, 0), (87, .bipush 45, 2, 45, 0), (89, .invokevirtual 279, 3, 0, 0), (92, .pop, 1, 0, 0), (93, .return_, 1, 0, 0)]
set_option maxRecDepth 100000 in
theorem tk_X8_appendStage : q_tb cX8_appendStage 2 tb_X8_appendStage = true := by decide +kernel
set_option maxRecDepth 100000 in
theorem mw_X8_performAll : q_mw yX8_performAll cX8_performAll 6 (Option.some Jvm.ClassFile.FieldType.int) 0 := ⟨q_t6 10 rfl rfl, by decide +kernel, by decide +kernel, q_init_QuillRelay⟩
set_option maxRecDepth 100000 in
theorem mi_X8_performAll : Cond.instanceMethod yX8_performAll ∈ q_W := q_t6 9 rfl rfl
set_option maxRecDepth 100000 in
theorem me_X8_performAll : Cond.selects yX8_performAll.cls yX8_performAll yX8_performAll ∈ q_W := q_s 16 rfl rfl
def tb_X8_performAll : List q_E := [(0, .aload_n 0, 1, 0, 0), (1, .getfield 16, 3, 0, 0), (4, .aload_n 0, 1, 0, 0), (5, .getfield 10, 3, 0, 0), (8, .invokevirtual 334, 3, 0, 0), (11, .aload_n 0, 1, 0, 0), (12, .getfield 32, 3, 0, 0), (15, .invokevirtual 385, 3, 0, 0), (18, .iconst 0, 1, 0, 0), (19, .istore_n 1, 1, 0, 0), (20, .iload_n 1, 1, 0, 0), (21, .aload_n 0, 1, 0, 0), (22, .getfield 32, 3, 0, 0), (25, .getfield 319, 3, 0, 0), (28, .if_icmp .ge 110, 3, 0, 138), (31, .aload_n 0, 1, 0, 0), (32, .getfield 32, 3, 0, 0), (35, .invokevirtual 388, 3, 0, 0), (38, .istore_n 2, 1, 0, 0), (39, .aload_n 0, 1, 0, 0), (40, .getfield 32, 3, 0, 0), (43, .getfield 392, 3, 0, 0), (46, .iconst 0, 1, 0, 0), (47, .invokestatic 222, 3, 0, 0), (50, .istore_n 3, 1, 0, 0), (51, .aload_n 0, 1, 0, 0), (52, .getfield 32, 3, 0, 0), (55, .getfield 392, 3, 0, 0), (58, .iconst 1, 1, 1, 0), (59, .invokestatic 222, 3, 0, 0), (62, .istore 4, 2, 0, 0), (64, .aload_n 0, 1, 0, 0), (65, .getfield 32, 3, 0, 0), (68, .getfield 392, 3, 0, 0), (71, .iconst 2, 1, 2, 0), (72, .invokestatic 222, 3, 0, 0), (75, .istore 5, 2, 0, 0), (77, .iload_n 2, 1, 0, 0), (78, .ifCond .eq 25, 3, 0, 103), (81, .aload_n 0, 1, 0, 0), (82, .aload_n 0, 1, 0, 0), (83, .getfield 32, 3, 0, 0), (86, .getfield 395, 3, 0, 0), (89, .iload_n 3, 1, 0, 0), (90, .iload 4, 2, 0, 0), (92, .iload 5, 2, 0, 0), (94, .invokevirtual 399, 3, 0, 0), (97, .getstatic 382, 3, 0, 0), (100, .if_acmp .eq 16, 3, 0, 116), (103, .aload_n 0, 1, 0, 0), (104, .getfield 10, 3, 0, 0), (107, .aload_n 0, 1, 0, 0), (108, .getfield 16, 3, 0, 0), (111, .invokevirtual 334, 3, 0, 0), (114, .iload_n 1, 1, 0, 0), (115, .ireturn, 1, 0, 0), (116, .aload_n 0, 1, 0, 0), (117, .aload_n 0, 1, 0, 0), (118, .getfield 32, 3, 0, 0), (121, .getfield 395, 3, 0, 0), (124, .iload_n 3, 1, 0, 0), (125, .iload 4, 2, 0, 0), (127, .iload 5, 2, 0, 0), (129, .invokevirtual 403, 3, 0, 0), (132, .iinc 1 1, 3, 1, 0), (135, .goto (-115), 3, 0, 20), (138, .aload_n 0, 1, 0, 0), (139, .getfield 25, 3, 0, 0), (142, .aload_n 0, 1, 0, 0), (143, .getfield 16, 3, 0, 0), (146, .invokevirtual 68, 3, 0, 0), (149, .iconst (-1), 1, (-1), 0), (150, .ireturn, 1, 0, 0)]
set_option maxRecDepth 100000 in
theorem tk_X8_performAll : q_tb cX8_performAll 6 tb_X8_performAll = true := by decide +kernel
set_option maxRecDepth 100000 in
theorem mw_X8_faultOf : q_mw yX8_faultOf cX8_faultOf 5 (Option.some (Jvm.ClassFile.FieldType.object "QuillRelay$Fault")) 4 := ⟨q_t6 16 rfl rfl, by decide +kernel, by decide +kernel, q_init_QuillRelay⟩
set_option maxRecDepth 100000 in
theorem mi_X8_faultOf : Cond.instanceMethod yX8_faultOf ∈ q_W := q_t6 15 rfl rfl
set_option maxRecDepth 100000 in
theorem me_X8_faultOf : Cond.selects yX8_faultOf.cls yX8_faultOf yX8_faultOf ∈ q_W := q_s 17 rfl rfl
def tb_X8_faultOf : List q_E := [(0, .getstatic 407, 3, 0, 0), (3, .aload_n 1, 1, 0, 0), (4, .invokevirtual 412, 3, 0, 0), (7, .iaload, 1, 0, 0), (8, .tableswitch 110 1 7 #[44, 52, 61, 67, 77, 86, 98], 44, 0, 0), (52, .aload_n 0, 1, 0, 0), (53, .getfield 10, 3, 0, 0), (56, .invokevirtual 107, 3, 0, 0), (59, .areturn, 1, 0, 0), (60, .aload_n 0, 1, 0, 0), (61, .getfield 10, 3, 0, 0), (64, .iload_n 2, 1, 0, 0), (65, .invokevirtual 116, 3, 0, 0), (68, .areturn, 1, 0, 0), (69, .aload_n 0, 1, 0, 0), (70, .iload_n 2, 1, 0, 0), (71, .invokevirtual 123, 3, 0, 0), (74, .areturn, 1, 0, 0), (75, .aload_n 0, 1, 0, 0), (76, .getfield 10, 3, 0, 0), (79, .iload_n 2, 1, 0, 0), (80, .iload_n 3, 1, 0, 0), (81, .invokevirtual 130, 3, 0, 0), (84, .areturn, 1, 0, 0), (85, .aload_n 0, 1, 0, 0), (86, .getfield 10, 3, 0, 0), (89, .iload_n 2, 1, 0, 0), (90, .invokevirtual 138, 3, 0, 0), (93, .areturn, 1, 0, 0), (94, .aload_n 0, 1, 0, 0), (95, .getfield 10, 3, 0, 0), (98, .iload_n 2, 1, 0, 0), (99, .iload_n 3, 1, 0, 0), (100, .iload 4, 2, 0, 0), (102, .invokevirtual 153, 3, 0, 0), (105, .areturn, 1, 0, 0), (106, .aload_n 0, 1, 0, 0), (107, .getfield 10, 3, 0, 0), (110, .iload_n 2, 1, 0, 0), (111, .iload_n 3, 1, 0, 0), (112, .iload 4, 2, 0, 0), (114, .invokevirtual 76, 3, 0, 0), (117, .areturn, 1, 0, 0), (118, .aload_n 0, 1, 0, 0), (119, .getfield 10, 3, 0, 0), (122, .iload_n 2, 1, 0, 0), (123, .invokevirtual 97, 3, 0, 0), (126, .areturn, 1, 0, 0)]
set_option maxRecDepth 100000 in
theorem tk_X8_faultOf : q_tb cX8_faultOf 5 tb_X8_faultOf = true := by decide +kernel
set_option maxRecDepth 100000 in
theorem mw_X8_apply : q_mw yX8_apply cX8_apply 5 (Option.none : Option Jvm.ClassFile.FieldType) 4 := ⟨q_t6 28 rfl rfl, by decide +kernel, by decide +kernel, q_init_QuillRelay⟩
set_option maxRecDepth 100000 in
theorem mi_X8_apply : Cond.instanceMethod yX8_apply ∈ q_W := q_t6 27 rfl rfl
set_option maxRecDepth 100000 in
theorem me_X8_apply : Cond.selects yX8_apply.cls yX8_apply yX8_apply ∈ q_W := q_s 18 rfl rfl
def tb_X8_apply : List q_E := [(0, .getstatic 407, 3, 0, 0), (3, .aload_n 1, 1, 0, 0), (4, .invokevirtual 412, 3, 0, 0), (7, .iaload, 1, 0, 0), (8, .tableswitch 151 1 7 #[44, 54, 66, 82, 99, 113, 136], 44, 0, 0), (52, .aload_n 0, 1, 0, 0), (53, .getfield 10, 3, 0, 0), (56, .invokevirtual 110, 3, 0, 0), (59, .goto 108, 3, 0, 167), (62, .aload_n 0, 1, 0, 0), (63, .getfield 10, 3, 0, 0), (66, .iload_n 2, 1, 0, 0), (67, .invokevirtual 119, 3, 0, 0), (70, .pop, 1, 0, 0), (71, .goto 96, 3, 0, 167), (74, .aload_n 0, 1, 0, 0), (75, .getfield 10, 3, 0, 0), (78, .aload_n 0, 1, 0, 0), (79, .iload_n 2, 1, 0, 0), (80, .invokevirtual 80, 3, 0, 0), (83, .invokevirtual 126, 3, 0, 0), (86, .pop, 1, 0, 0), (87, .goto 80, 3, 0, 167), (90, .aload_n 0, 1, 0, 0), (91, .getfield 10, 3, 0, 0), (94, .aload_n 0, 1, 0, 0), (95, .iload_n 2, 1, 0, 0), (96, .invokevirtual 80, 3, 0, 0), (99, .iload_n 3, 1, 0, 0), (100, .invokevirtual 134, 3, 0, 0), (103, .pop, 1, 0, 0), (104, .goto 63, 3, 0, 167), (107, .aload_n 0, 1, 0, 0), (108, .iload_n 2, 1, 0, 0), (109, .invokevirtual 80, 3, 0, 0), (112, .getstatic 141, 3, 0, 0), (115, .putfield 147, 3, 0, 0), (118, .goto 49, 3, 0, 167), (121, .aload_n 0, 1, 0, 0), (122, .getfield 10, 3, 0, 0), (125, .aload_n 0, 1, 0, 0), (126, .iload_n 2, 1, 0, 0), (127, .invokevirtual 80, 3, 0, 0), (130, .aload_n 0, 1, 0, 0), (131, .iload_n 3, 1, 0, 0), (132, .invokevirtual 80, 3, 0, 0), (135, .iload 4, 2, 0, 0), (137, .invokevirtual 156, 3, 0, 0), (140, .pop, 1, 0, 0), (141, .goto 26, 3, 0, 167), (144, .aload_n 0, 1, 0, 0), (145, .iload_n 2, 1, 0, 0), (146, .invokevirtual 80, 3, 0, 0), (149, .iload_n 3, 1, 0, 0), (150, .iload 4, 2, 0, 0), (152, .invokevirtual 84, 3, 0, 0), (155, .pop, 1, 0, 0), (156, .goto 11, 3, 0, 167), (159, .aload_n 0, 1, 0, 0), (160, .getfield 10, 3, 0, 0), (163, .iload_n 2, 1, 0, 0), (164, .invokevirtual 100, 3, 0, 0), (167, .return_, 1, 0, 0)]
set_option maxRecDepth 100000 in
theorem tk_X8_apply : q_tb cX8_apply 5 tb_X8_apply = true := by decide +kernel
set_option maxRecDepth 100000 in
theorem mw_X8_isLeg : q_mw yX8_isLeg cX8_isLeg 1 (Option.some Jvm.ClassFile.FieldType.boolean) 1 := ⟨q_t3 227 rfl rfl, by decide +kernel, by decide +kernel, q_init_QuillRelay⟩
set_option maxRecDepth 100000 in
theorem ms_X8_isLeg : Cond.static yX8_isLeg ∈ q_W := q_t3 226 rfl rfl
def tb_X8_isLeg : List q_E := [(0, .iload_n 0, 1, 0, 0), (1, .ifCond .lt 12, 3, 0, 13), (4, .iload_n 0, 1, 0, 0), (5, .iconst 4, 1, 4, 0), (6, .if_icmp .ge 7, 3, 0, 13), (9, .iconst 1, 1, 1, 0), (10, .goto 4, 3, 0, 14), (13, .iconst 0, 1, 0, 0), (14, .ireturn, 1, 0, 0)]
set_option maxRecDepth 100000 in
theorem tk_X8_isLeg : q_tb cX8_isLeg 1 tb_X8_isLeg = true := by decide +kernel
set_option maxRecDepth 100000 in
theorem mw_X8_isKind : q_mw yX8_isKind cX8_isKind 1 (Option.some Jvm.ClassFile.FieldType.boolean) 1 := ⟨q_t4 94 rfl rfl, by decide +kernel, by decide +kernel, q_init_QuillRelay⟩
set_option maxRecDepth 100000 in
theorem ms_X8_isKind : Cond.static yX8_isKind ∈ q_W := q_t4 93 rfl rfl
def tb_X8_isKind : List q_E := [(0, .iload_n 0, 1, 0, 0), (1, .ifCond .eq 8, 3, 0, 9), (4, .iload_n 0, 1, 0, 0), (5, .iconst 1, 1, 1, 0), (6, .if_icmp .ne 7, 3, 0, 13), (9, .iconst 1, 1, 1, 0), (10, .goto 4, 3, 0, 14), (13, .iconst 0, 1, 0, 0), (14, .ireturn, 1, 0, 0)]
set_option maxRecDepth 100000 in
theorem tk_X8_isKind : q_tb cX8_isKind 1 tb_X8_isKind = true := by decide +kernel
set_option maxRecDepth 100000 in
theorem mw_X8_pace : q_mw yX8_pace cX8_pace 2 (Option.some Jvm.ClassFile.FieldType.int) 2 := ⟨q_t3 137 rfl rfl, by decide +kernel, by decide +kernel, q_init_QuillRelay⟩
set_option maxRecDepth 100000 in
theorem ms_X8_pace : Cond.static yX8_pace ∈ q_W := q_t3 136 rfl rfl
def tb_X8_pace : List q_E := [(0, .bipush 10, 2, 10, 0), (2, .iload_n 0, 1, 0, 0), (3, .iload_n 1, 1, 0, 0), (4, .bipush 10, 2, 10, 0), (6, .idiv, 1, 0, 0), (7, .isub, 1, 0, 0), (8, .invokestatic 417, 3, 0, 0), (11, .ireturn, 1, 0, 0)]
set_option maxRecDepth 100000 in
theorem tk_X8_pace : q_tb cX8_pace 2 tb_X8_pace = true := by decide +kernel
set_option maxRecDepth 100000 in
theorem mw_X8_at : q_mw yX8_at cX8_at 2 (Option.some Jvm.ClassFile.FieldType.int) 2 := ⟨q_t3 17 rfl rfl, by decide +kernel, by decide +kernel, q_init_QuillRelay⟩
set_option maxRecDepth 100000 in
theorem ms_X8_at : Cond.static yX8_at ∈ q_W := q_t3 16 rfl rfl
def tb_X8_at : List q_E := [(0, .iload_n 1, 1, 0, 0), (1, .ifCond .lt 15, 3, 0, 16), (4, .iload_n 1, 1, 0, 0), (5, .aload_n 0, 1, 0, 0), (6, .arraylength, 1, 0, 20), (7, .if_icmp .ge 9, 3, 0, 16), (10, .aload_n 0, 1, 0, 0), (11, .iload_n 1, 1, 0, 0), (12, .iaload, 1, 0, 0), (13, .goto 4, 3, 0, 17), (16, .iconst 0, 1, 0, 0), (17, .ireturn, 1, 0, 0)]
set_option maxRecDepth 100000 in
theorem tk_X8_at : q_tb cX8_at 2 tb_X8_at = true := by decide +kernel
set_option maxRecDepth 100000 in
theorem mw_X8_put : q_mw yX8_put cX8_put 3 (Option.none : Option Jvm.ClassFile.FieldType) 3 := ⟨q_t3 147 rfl rfl, by decide +kernel, by decide +kernel, q_init_QuillRelay⟩
set_option maxRecDepth 100000 in
theorem ms_X8_put : Cond.static yX8_put ∈ q_W := q_t3 146 rfl rfl
def tb_X8_put : List q_E := [(0, .iload_n 1, 1, 0, 0), (1, .ifCond .lt 13, 3, 0, 14), (4, .iload_n 1, 1, 0, 0), (5, .aload_n 0, 1, 0, 0), (6, .arraylength, 1, 0, 20), (7, .if_icmp .ge 7, 3, 0, 14), (10, .aload_n 0, 1, 0, 0), (11, .iload_n 1, 1, 0, 0), (12, .iload_n 2, 1, 0, 0), (13, .iastore, 1, 0, 0), (14, .return_, 1, 0, 0)]
set_option maxRecDepth 100000 in
theorem tk_X8_put : q_tb cX8_put 3 tb_X8_put = true := by decide +kernel
set_option maxRecDepth 100000 in
theorem mw_X8_copyRow : q_mw yX8_copyRow cX8_copyRow 3 (Option.none : Option Jvm.ClassFile.FieldType) 2 := ⟨q_t3 14 rfl rfl, by decide +kernel, by decide +kernel, q_init_QuillRelay⟩
set_option maxRecDepth 100000 in
theorem ms_X8_copyRow : Cond.static yX8_copyRow ∈ q_W := q_t3 13 rfl rfl
def tb_X8_copyRow : List q_E := [(0, .iconst 0, 1, 0, 0), (1, .istore_n 2, 1, 0, 0), (2, .iload_n 2, 1, 0, 0), (3, .aload_n 1, 1, 0, 0), (4, .arraylength, 1, 0, 20), (5, .if_icmp .ge 17, 3, 0, 22), (8, .aload_n 1, 1, 0, 0), (9, .iload_n 2, 1, 0, 0), (10, .aload_n 0, 1, 0, 0), (11, .iload_n 2, 1, 0, 0), (12, .invokestatic 222, 3, 0, 0), (15, .iastore, 1, 0, 0), (16, .iinc 2 1, 3, 1, 0), (19, .goto (-17), 3, 0, 2), (22, .return_, 1, 0, 0)]
set_option maxRecDepth 100000 in
theorem tk_X8_copyRow : q_tb cX8_copyRow 3 tb_X8_copyRow = true := by decide +kernel
set_option maxRecDepth 100000 in
theorem mw_L_cell : q_mw yL_cell cL_cell 3 (Option.some Jvm.ClassFile.FieldType.int) 2 := ⟨q_t4 112 rfl rfl, by decide +kernel, by decide +kernel, q_init_QuillRelayLaw⟩
set_option maxRecDepth 100000 in
theorem ms_L_cell : Cond.static yL_cell ∈ q_W := q_t4 111 rfl rfl
def tb_L_cell : List q_E := [(0, .ldc 7, 2, 0, 0), (2, .iload_n 1, 1, 0, 0), (3, .aload_n 0, 1, 0, 0), (4, .arraylength, 1, 0, 20), (5, .if_icmp .ge 9, 3, 0, 14), (8, .aload_n 0, 1, 0, 0), (9, .iload_n 1, 1, 0, 0), (10, .iaload, 1, 0, 0), (11, .goto 4, 3, 0, 15), (14, .iconst 0, 1, 0, 0), (15, .sipush 1009, 3, 1009, 0), (18, .iload_n 1, 1, 0, 0), (19, .imul, 1, 0, 0), (20, .iadd, 1, 0, 0), (21, .imul, 1, 0, 0), (22, .sipush 12345, 3, 12345, 0), (25, .iadd, 1, 0, 0), (26, .istore_n 2, 1, 0, 0), (27, .iload_n 2, 1, 0, 0), (28, .iload_n 2, 1, 0, 0), (29, .bipush 13, 2, 13, 0), (31, .iushr, 1, 0, 0), (32, .ixor, 1, 0, 0), (33, .ldc 8, 2, 0, 0), (35, .imul, 1, 0, 0), (36, .istore_n 2, 1, 0, 0), (37, .iload_n 2, 1, 0, 0), (38, .iload_n 2, 1, 0, 0), (39, .bipush 16, 2, 16, 0), (41, .iushr, 1, 0, 0), (42, .ixor, 1, 0, 0), (43, .ireturn, 1, 0, 0)]
set_option maxRecDepth 100000 in
theorem tk_L_cell : q_tb cL_cell 3 tb_L_cell = true := by decide +kernel
set_option maxRecDepth 100000 in
theorem mw_L_in : q_mw yL_in cL_in 3 (Option.some Jvm.ClassFile.FieldType.int) 3 := ⟨q_t4 109 rfl rfl, by decide +kernel, by decide +kernel, q_init_QuillRelayLaw⟩
set_option maxRecDepth 100000 in
theorem ms_L_in : Cond.static yL_in ∈ q_W := q_t4 108 rfl rfl
def tb_L_in : List q_E := [(0, .aload_n 0, 1, 0, 0), (1, .iload_n 1, 1, 0, 0), (2, .invokestatic 89, 3, 0, 0), (5, .ldc 95, 2, 0, 0), (7, .iand, 1, 0, 0), (8, .iload_n 2, 1, 0, 0), (9, .irem, 1, 0, 0), (10, .ireturn, 1, 0, 0)]
set_option maxRecDepth 100000 in
theorem tk_L_in : q_tb cL_in 3 tb_L_in = true := by decide +kernel
set_option maxRecDepth 100000 in
theorem mw_L_does : q_mw yL_does cL_does 4 (Option.some Jvm.ClassFile.FieldType.int) 2 := ⟨q_t5 161 rfl rfl, by decide +kernel, by decide +kernel, q_init_QuillRelayLaw⟩
set_option maxRecDepth 100000 in
theorem ms_L_does : Cond.static yL_does ∈ q_W := q_t5 160 rfl rfl
def tb_L_does : List q_E := [(0, .iconst 0, 1, 0, 0), (1, .istore_n 2, 1, 0, 0), (2, .iconst 0, 1, 0, 0), (3, .istore_n 3, 1, 0, 0), (4, .iload_n 3, 1, 0, 0), (5, .aload_n 1, 1, 0, 0), (6, .invokevirtual 96, 3, 0, 0), (9, .if_icmp .ge 21, 3, 0, 30), (12, .iload_n 2, 1, 0, 0), (13, .aload_n 0, 1, 0, 0), (14, .aload_n 1, 1, 0, 0), (15, .iload_n 3, 1, 0, 0), (16, .invokevirtual 101, 3, 0, 0), (19, .invokevirtual 105, 3, 0, 0), (22, .iadd, 1, 0, 0), (23, .istore_n 2, 1, 0, 0), (24, .iinc 3 1, 3, 1, 0), (27, .goto (-23), 3, 0, 4), (30, .iload_n 2, 1, 0, 0), (31, .ifCond .ge 8, 3, 0, 39), (34, .ldc 109, 2, 0, 0), (36, .goto 7, 3, 0, 43), (39, .aload_n 0, 1, 0, 0), (40, .invokestatic 110, 3, 0, 0), (43, .ireturn, 1, 0, 0)]
set_option maxRecDepth 100000 in
theorem tk_L_does : q_tb cL_does 4 tb_L_does = true := by decide +kernel
set_option maxRecDepth 100000 in
theorem mw_L_begun : q_mw yL_begun cL_begun 5 (Option.some (Jvm.ClassFile.FieldType.object "QuillRelay")) 1 := ⟨q_t4 118 rfl rfl, by decide +kernel, by decide +kernel, q_init_QuillRelayLaw⟩
set_option maxRecDepth 100000 in
theorem ms_L_begun : Cond.static yL_begun ∈ q_W := q_t4 117 rfl rfl
def tb_L_begun : List q_E := [(0, .new 10, 3, 0, 0), (3, .dup, 1, 0, 0), (4, .invokespecial 113, 3, 0, 0), (7, .astore_n 1, 1, 0, 0), (8, .iconst 2, 1, 2, 0), (9, .aload_n 0, 1, 0, 0), (10, .iconst 0, 1, 0, 0), (11, .iconst 5, 1, 5, 0), (12, .invokestatic 114, 3, 0, 0), (15, .iadd, 1, 0, 0), (16, .istore_n 2, 1, 0, 0), (17, .iconst 0, 1, 0, 0), (18, .istore_n 3, 1, 0, 0), (19, .iconst 0, 1, 0, 0), (20, .istore 4, 2, 0, 0), (22, .iload 4, 2, 0, 0), (24, .iload_n 2, 1, 0, 0), (25, .if_icmp .ge 16, 3, 0, 41), (28, .iload_n 3, 1, 0, 0), (29, .aload_n 1, 1, 0, 0), (30, .invokestatic 118, 3, 0, 0), (33, .iadd, 1, 0, 0), (34, .istore_n 3, 1, 0, 0), (35, .iinc 4 1, 3, 1, 0), (38, .goto (-16), 3, 0, 22), (41, .iconst 0, 1, 0, 0), (42, .istore 4, 2, 0, 0), (44, .iload 4, 2, 0, 0), (46, .bipush 10, 2, 10, 0), (48, .if_icmp .ge 49, 3, 0, 97), (51, .iload_n 3, 1, 0, 0), (52, .aload_n 1, 1, 0, 0), (53, .aload_n 0, 1, 0, 0), (54, .iconst 1, 1, 1, 0), (55, .iload 4, 2, 0, 0), (57, .iadd, 1, 0, 0), (58, .iload_n 2, 1, 0, 0), (59, .invokestatic 114, 3, 0, 0), (62, .aload_n 0, 1, 0, 0), (63, .bipush 11, 2, 11, 0), (65, .iload 4, 2, 0, 0), (67, .iadd, 1, 0, 0), (68, .iconst 4, 1, 4, 0), (69, .invokestatic 114, 3, 0, 0), (72, .bipush 20, 2, 20, 0), (74, .aload_n 0, 1, 0, 0), (75, .bipush 21, 2, 21, 0), (77, .iload 4, 2, 0, 0), (79, .iadd, 1, 0, 0), (80, .bipush 80, 2, 80, 0), (82, .invokestatic 114, 3, 0, 0), (85, .iadd, 1, 0, 0), (86, .invokestatic 120, 3, 0, 0), (89, .iadd, 1, 0, 0), (90, .istore_n 3, 1, 0, 0), (91, .iinc 4 1, 3, 1, 0), (94, .goto (-50), 3, 0, 44), (97, .iload_n 3, 1, 0, 0), (98, .aload_n 1, 1, 0, 0), (99, .sipush 400, 3, 400, 0), (102, .aload_n 0, 1, 0, 0), (103, .bipush 31, 2, 31, 0), (105, .sipush 300, 3, 300, 0), (108, .invokestatic 114, 3, 0, 0), (111, .iadd, 1, 0, 0), (112, .invokestatic 123, 3, 0, 0), (115, .aload_n 0, 1, 0, 0), (116, .bipush 32, 2, 32, 0), (118, .iconst 2, 1, 2, 0), (119, .invokestatic 114, 3, 0, 0), (122, .ifCond .ne 19, 3, 0, 141), (125, .aload_n 1, 1, 0, 0), (126, .aload_n 0, 1, 0, 0), (127, .bipush 33, 2, 33, 0), (129, .sipush 1000, 3, 1000, 0), (132, .invokestatic 114, 3, 0, 0), (135, .invokestatic 126, 3, 0, 0), (138, .goto 4, 3, 0, 142), (141, .iconst 0, 1, 0, 0), (142, .iadd, 1, 0, 0), (143, .iadd, 1, 0, 0), (144, .istore_n 3, 1, 0, 0), (145, .iload_n 3, 1, 0, 0), (146, .aload_n 0, 1, 0, 0), (147, .bipush 34, 2, 34, 0), (149, .bipush 6, 2, 6, 0), (151, .invokestatic 114, 3, 0, 0), (154, .ifCond .le 25, 3, 0, 179), (157, .aload_n 1, 1, 0, 0), (158, .invokestatic 128, 3, 0, 0), (161, .aload_n 1, 1, 0, 0), (162, .iconst 1, 1, 1, 0), (163, .aload_n 0, 1, 0, 0), (164, .bipush 35, 2, 35, 0), (166, .bipush 14, 2, 14, 0), (168, .invokestatic 114, 3, 0, 0), (171, .iadd, 1, 0, 0), (172, .invokestatic 130, 3, 0, 0), (175, .iadd, 1, 0, 0), (176, .goto 4, 3, 0, 180), (179, .iconst 0, 1, 0, 0), (180, .iadd, 1, 0, 0), (181, .istore_n 3, 1, 0, 0), (182, .iload_n 3, 1, 0, 0), (183, .ldc 132, 2, 0, 0), (185, .if_icmp .ge 7, 3, 0, 192), (188, .aconst_null, 1, 0, 0), (189, .goto 4, 3, 0, 193), (192, .aload_n 1, 1, 0, 0), (193, .areturn, 1, 0, 0)]
set_option maxRecDepth 100000 in
theorem tk_L_begun : q_tb cL_begun 5 tb_L_begun = true := by decide +kernel
set_option maxRecDepth 100000 in
theorem mw_L_acts : q_mw yL_acts cL_acts 6 (Option.some Jvm.ClassFile.FieldType.int) 3 := ⟨q_t5 133 rfl rfl, by decide +kernel, by decide +kernel, q_init_QuillRelayLaw⟩
set_option maxRecDepth 100000 in
theorem ms_L_acts : Cond.static yL_acts ∈ q_W := q_t5 132 rfl rfl
def tb_L_acts : List q_E := [(0, .aload_n 1, 1, 0, 0), (1, .iload_n 2, 1, 0, 0), (2, .iconst 1, 1, 1, 0), (3, .iadd, 1, 0, 0), (4, .bipush 7, 2, 7, 0), (6, .invokestatic 114, 3, 0, 0), (9, .istore_n 3, 1, 0, 0), (10, .aload_n 1, 1, 0, 0), (11, .iload_n 2, 1, 0, 0), (12, .iconst 2, 1, 2, 0), (13, .iadd, 1, 0, 0), (14, .bipush 7, 2, 7, 0), (16, .invokestatic 114, 3, 0, 0), (19, .istore 4, 2, 0, 0), (21, .aload_n 1, 1, 0, 0), (22, .iload_n 2, 1, 0, 0), (23, .iconst 3, 1, 3, 0), (24, .iadd, 1, 0, 0), (25, .bipush 60, 2, 60, 0), (27, .invokestatic 114, 3, 0, 0), (30, .istore 5, 2, 0, 0), (32, .aload_n 1, 1, 0, 0), (33, .iload_n 2, 1, 0, 0), (34, .bipush 26, 2, 26, 0), (36, .invokestatic 114, 3, 0, 0), (39, .tableswitch 280 0 22 #[105, 110, 122, 132, 142, 142, 147, 147, 147, 147, 147, 171, 171, 171, 171, 245, 245, 245, 251, 251, 262, 268, 268], 105, 0, 0), (144, .aload_n 0, 1, 0, 0), (145, .invokestatic 118, 3, 0, 0), (148, .ireturn, 1, 0, 0), (149, .aload_n 0, 1, 0, 0), (150, .iload_n 3, 1, 0, 0), (151, .iload 4, 2, 0, 0), (153, .iconst 2, 1, 2, 0), (154, .iload 5, 2, 0, 0), (156, .imul, 1, 0, 0), (157, .invokestatic 120, 3, 0, 0), (160, .ireturn, 1, 0, 0), (161, .aload_n 0, 1, 0, 0), (162, .bipush 80, 2, 80, 0), (164, .iload 5, 2, 0, 0), (166, .imul, 1, 0, 0), (167, .invokestatic 123, 3, 0, 0), (170, .ireturn, 1, 0, 0), (171, .aload_n 0, 1, 0, 0), (172, .bipush 19, 2, 19, 0), (174, .iload 5, 2, 0, 0), (176, .imul, 1, 0, 0), (177, .invokestatic 126, 3, 0, 0), (180, .ireturn, 1, 0, 0), (181, .aload_n 0, 1, 0, 0), (182, .invokestatic 128, 3, 0, 0), (185, .ireturn, 1, 0, 0), (186, .aload_n 0, 1, 0, 0), (187, .iload 5, 2, 0, 0), (189, .iconst 3, 1, 3, 0), (190, .irem, 1, 0, 0), (191, .ifCond .ne 10, 3, 0, 201), (194, .iconst 4, 1, 4, 0), (195, .iload 5, 2, 0, 0), (197, .imul, 1, 0, 0), (198, .goto 8, 3, 0, 206), (201, .iload 5, 2, 0, 0), (203, .bipush 12, 2, 12, 0), (205, .irem, 1, 0, 0), (206, .invokestatic 130, 3, 0, 0), (209, .ireturn, 1, 0, 0), (210, .aload_n 0, 1, 0, 0), (211, .invokevirtual 133, 3, 0, 0), (214, .ifCond .eq 64, 3, 0, 278), (217, .iload_n 3, 1, 0, 0), (218, .aload_n 0, 1, 0, 0), (219, .invokevirtual 137, 3, 0, 0), (222, .if_icmp .ge 56, 3, 0, 278), (225, .aload_n 0, 1, 0, 0), (226, .iload_n 3, 1, 0, 0), (227, .invokestatic 140, 3, 0, 0), (230, .ifCond .le 48, 3, 0, 278), (233, .aload_n 0, 1, 0, 0), (234, .iload_n 3, 1, 0, 0), (235, .invokestatic 140, 3, 0, 0), (238, .bipush 60, 2, 60, 0), (240, .if_icmp .gt 38, 3, 0, 278), (243, .iload 5, 2, 0, 0), (245, .iconst 4, 1, 4, 0), (246, .irem, 1, 0, 0), (247, .ifCond .le 31, 3, 0, 278), (250, .aload_n 0, 1, 0, 0), (251, .aload_n 0, 1, 0, 0), (252, .iload_n 3, 1, 0, 0), (253, .invokevirtual 142, 3, 0, 0), (256, .ifCond .le 11, 3, 0, 267), (259, .aload_n 0, 1, 0, 0), (260, .iload_n 3, 1, 0, 0), (261, .invokevirtual 142, 3, 0, 0), (264, .goto 8, 3, 0, 272), (267, .aload_n 0, 1, 0, 0), (268, .iload_n 3, 1, 0, 0), (269, .invokestatic 140, 3, 0, 0), (272, .invokestatic 130, 3, 0, 0), (275, .goto 8, 3, 0, 283), (278, .aload_n 0, 1, 0, 0), (279, .iload_n 3, 1, 0, 0), (280, .invokestatic 145, 3, 0, 0), (283, .ireturn, 1, 0, 0), (284, .aload_n 0, 1, 0, 0), (285, .iload_n 3, 1, 0, 0), (286, .invokestatic 145, 3, 0, 0), (289, .ireturn, 1, 0, 0), (290, .aload_n 0, 1, 0, 0), (291, .iload_n 3, 1, 0, 0), (292, .iload 5, 2, 0, 0), (294, .bipush 22, 2, 22, 0), (296, .irem, 1, 0, 0), (297, .invokestatic 147, 3, 0, 0), (300, .ireturn, 1, 0, 0), (301, .aload_n 0, 1, 0, 0), (302, .iload_n 3, 1, 0, 0), (303, .invokestatic 150, 3, 0, 0), (306, .ireturn, 1, 0, 0), (307, .aload_n 0, 1, 0, 0), (308, .iload_n 3, 1, 0, 0), (309, .iload 4, 2, 0, 0), (311, .iload 5, 2, 0, 0), (313, .iconst 3, 1, 3, 0), (314, .irem, 1, 0, 0), (315, .invokestatic 152, 3, 0, 0), (318, .ireturn, 1, 0, 0), (319, .aload_n 0, 1, 0, 0), (320, .new 154, 3, 0, 0), (323, .dup, 1, 0, 0), (324, .invokespecial 156, 3, 0, 0), (327, .ldc 157, 2, 0, 0), (329, .invokevirtual 159, 3, 0, 0), (332, .iconst 1, 1, 1, 0), (333, .iload 5, 2, 0, 0), (335, .iadd, 1, 0, 0), (336, .invokevirtual 163, 3, 0, 0), (339, .iload 5, 2, 0, 0), (341, .iconst 3, 1, 3, 0), (342, .irem, 1, 0, 0), (343, .ifCond .ne 25, 3, 0, 368), (346, .new 154, 3, 0, 0), (349, .dup, 1, 0, 0), (350, .invokespecial 156, 3, 0, 0), (353, .ldc 166, 2, 0, 0), (355, .invokevirtual 159, 3, 0, 0), (358, .iload_n 3, 1, 0, 0), (359, .invokevirtual 163, 3, 0, 0), (362, .invokevirtual 168, 3, 0, 0), (365, .goto 100, 3, 0, 465), (368, .iload 5, 2, 0, 0), (370, .iconst 3, 1, 3, 0), (371, .irem, 1, 0, 0), (372, .iconst 1, 1, 1, 0), (373, .if_icmp .ne 54, 3, 0, 427), (376, .new 154, 3, 0, 0), (379, .dup, 1, 0, 0), (380, .invokespecial 156, 3, 0, 0), (383, .ldc 172, 2, 0, 0), (385, .invokevirtual 159, 3, 0, 0), (388, .iload_n 3, 1, 0, 0), (389, .invokevirtual 163, 3, 0, 0), (392, .ldc 174, 2, 0, 0), (394, .invokevirtual 159, 3, 0, 0), (397, .iload 4, 2, 0, 0), (399, .invokevirtual 163, 3, 0, 0), (402, .ldc 176, 2, 0, 0), (404, .invokevirtual 159, 3, 0, 0), (407, .iload 4, 2, 0, 0), (409, .invokevirtual 163, 3, 0, 0), (412, .iload_n 3, 1, 0, 0), (413, .invokevirtual 163, 3, 0, 0), (416, .ldc 178, 2, 0, 0), (418, .invokevirtual 159, 3, 0, 0), (421, .invokevirtual 168, 3, 0, 0), (424, .goto 41, 3, 0, 465), (427, .new 154, 3, 0, 0), (430, .dup, 1, 0, 0), (431, .invokespecial 156, 3, 0, 0), (434, .ldc 180, 2, 0, 0), (436, .invokevirtual 159, 3, 0, 0), (439, .iload_n 3, 1, 0, 0), (440, .invokevirtual 163, 3, 0, 0), (443, .ldc 176, 2, 0, 0), (445, .invokevirtual 159, 3, 0, 0), (448, .iload_n 3, 1, 0, 0), (449, .invokevirtual 163, 3, 0, 0), (452, .iload 4, 2, 0, 0), (454, .invokevirtual 163, 3, 0, 0), (457, .ldc 182, 2, 0, 0), (459, .invokevirtual 159, 3, 0, 0), (462, .invokevirtual 168, 3, 0, 0), (465, .invokevirtual 159, 3, 0, 0), (468, .invokevirtual 168, 3, 0, 0), (471, .invokestatic 184, 3, 0, 0), (474, .ireturn, 1, 0, 0)]
set_option maxRecDepth 100000 in
theorem tk_L_acts : q_tb cL_acts 6 tb_L_acts = true := by decide +kernel
set_option maxRecDepth 100000 in
theorem mw_L_seen : q_mw yL_seen cL_seen 5 (Option.some (Jvm.ClassFile.FieldType.array Jvm.ClassFile.FieldType.int)) 1 := ⟨q_t6 33 rfl rfl, by decide +kernel, by decide +kernel, q_init_QuillRelayLaw⟩
set_option maxRecDepth 100000 in
theorem ms_L_seen : Cond.static yL_seen ∈ q_W := q_t6 32 rfl rfl
def tb_L_seen : List q_E := [(0, .sipush 130, 3, 130, 0), (3, .newarray .int, 2, 0, 0), (5, .astore_n 1, 1, 0, 0), (6, .aload_n 1, 1, 0, 0), (7, .iconst 0, 1, 0, 0), (8, .aload_n 0, 1, 0, 0), (9, .invokevirtual 188, 3, 0, 0), (12, .iastore, 1, 0, 0), (13, .aload_n 1, 1, 0, 0), (14, .iconst 1, 1, 1, 0), (15, .aload_n 0, 1, 0, 0), (16, .invokevirtual 137, 3, 0, 0), (19, .iastore, 1, 0, 0), (20, .aload_n 1, 1, 0, 0), (21, .iconst 2, 1, 2, 0), (22, .aload_n 0, 1, 0, 0), (23, .invokevirtual 191, 3, 0, 0), (26, .iastore, 1, 0, 0), (27, .aload_n 1, 1, 0, 0), (28, .iconst 3, 1, 3, 0), (29, .aload_n 0, 1, 0, 0), (30, .invokevirtual 133, 3, 0, 0), (33, .ifCond .eq 7, 3, 0, 40), (36, .iconst 1, 1, 1, 0), (37, .goto 4, 3, 0, 41), (40, .iconst 0, 1, 0, 0), (41, .iastore, 1, 0, 0), (42, .iconst 0, 1, 0, 0), (43, .istore_n 2, 1, 0, 0), (44, .iload_n 2, 1, 0, 0), (45, .aload_n 0, 1, 0, 0), (46, .invokevirtual 137, 3, 0, 0), (49, .if_icmp .ge 176, 3, 0, 225), (52, .bipush 6, 2, 6, 0), (54, .bipush 20, 2, 20, 0), (56, .iload_n 2, 1, 0, 0), (57, .imul, 1, 0, 0), (58, .iadd, 1, 0, 0), (59, .istore_n 3, 1, 0, 0), (60, .aload_n 1, 1, 0, 0), (61, .iload_n 3, 1, 0, 0), (62, .aload_n 0, 1, 0, 0), (63, .iload_n 2, 1, 0, 0), (64, .invokevirtual 192, 3, 0, 0), (67, .iastore, 1, 0, 0), (68, .aload_n 1, 1, 0, 0), (69, .iload_n 3, 1, 0, 0), (70, .iconst 1, 1, 1, 0), (71, .iadd, 1, 0, 0), (72, .aload_n 0, 1, 0, 0), (73, .iload_n 2, 1, 0, 0), (74, .invokevirtual 195, 3, 0, 0), (77, .iastore, 1, 0, 0), (78, .aload_n 1, 1, 0, 0), (79, .iload_n 3, 1, 0, 0), (80, .iconst 2, 1, 2, 0), (81, .iadd, 1, 0, 0), (82, .aload_n 0, 1, 0, 0), (83, .iload_n 2, 1, 0, 0), (84, .invokevirtual 198, 3, 0, 0), (87, .iastore, 1, 0, 0), (88, .aload_n 1, 1, 0, 0), (89, .iload_n 3, 1, 0, 0), (90, .iconst 3, 1, 3, 0), (91, .iadd, 1, 0, 0), (92, .aload_n 0, 1, 0, 0), (93, .iload_n 2, 1, 0, 0), (94, .invokevirtual 201, 3, 0, 0), (97, .ifCond .eq 7, 3, 0, 104), (100, .iconst 1, 1, 1, 0), (101, .goto 4, 3, 0, 105), (104, .iconst 0, 1, 0, 0), (105, .iastore, 1, 0, 0), (106, .aload_n 1, 1, 0, 0), (107, .iload_n 3, 1, 0, 0), (108, .iconst 4, 1, 4, 0), (109, .iadd, 1, 0, 0), (110, .aload_n 0, 1, 0, 0), (111, .iload_n 2, 1, 0, 0), (112, .invokevirtual 142, 3, 0, 0), (115, .iastore, 1, 0, 0), (116, .aload_n 1, 1, 0, 0), (117, .iload_n 3, 1, 0, 0), (118, .iconst 5, 1, 5, 0), (119, .iadd, 1, 0, 0), (120, .aload_n 0, 1, 0, 0), (121, .iload_n 2, 1, 0, 0), (122, .invokevirtual 205, 3, 0, 0), (125, .iastore, 1, 0, 0), (126, .aload_n 1, 1, 0, 0), (127, .iload_n 3, 1, 0, 0), (128, .bipush 6, 2, 6, 0), (130, .iadd, 1, 0, 0), (131, .aload_n 0, 1, 0, 0), (132, .iload_n 2, 1, 0, 0), (133, .iconst 0, 1, 0, 0), (134, .invokevirtual 208, 3, 0, 0), (137, .ifCond .eq 7, 3, 0, 144), (140, .iconst 1, 1, 1, 0), (141, .goto 4, 3, 0, 145), (144, .iconst 0, 1, 0, 0), (145, .aload_n 0, 1, 0, 0), (146, .iload_n 2, 1, 0, 0), (147, .iconst 1, 1, 1, 0), (148, .invokevirtual 208, 3, 0, 0), (151, .ifCond .eq 7, 3, 0, 158), (154, .iconst 2, 1, 2, 0), (155, .goto 4, 3, 0, 159), (158, .iconst 0, 1, 0, 0), (159, .iadd, 1, 0, 0), (160, .iastore, 1, 0, 0), (161, .aload_n 1, 1, 0, 0), (162, .iload_n 3, 1, 0, 0), (163, .bipush 7, 2, 7, 0), (165, .iadd, 1, 0, 0), (166, .aload_n 0, 1, 0, 0), (167, .iload_n 2, 1, 0, 0), (168, .invokestatic 212, 3, 0, 0), (171, .iastore, 1, 0, 0), (172, .iconst 0, 1, 0, 0), (173, .istore 4, 2, 0, 0), (175, .iload 4, 2, 0, 0), (177, .iconst 4, 1, 4, 0), (178, .if_icmp .ge 41, 3, 0, 219), (181, .aload_n 1, 1, 0, 0), (182, .iload_n 3, 1, 0, 0), (183, .bipush 8, 2, 8, 0), (185, .iadd, 1, 0, 0), (186, .iload 4, 2, 0, 0), (188, .iadd, 1, 0, 0), (189, .aload_n 0, 1, 0, 0), (190, .iload_n 2, 1, 0, 0), (191, .iload 4, 2, 0, 0), (193, .invokestatic 214, 3, 0, 0), (196, .iastore, 1, 0, 0), (197, .aload_n 1, 1, 0, 0), (198, .iload_n 3, 1, 0, 0), (199, .bipush 12, 2, 12, 0), (201, .iadd, 1, 0, 0), (202, .iload 4, 2, 0, 0), (204, .iadd, 1, 0, 0), (205, .aload_n 0, 1, 0, 0), (206, .iload_n 2, 1, 0, 0), (207, .iload 4, 2, 0, 0), (209, .invokevirtual 216, 3, 0, 0), (212, .iastore, 1, 0, 0), (213, .iinc 4 1, 3, 1, 0), (216, .goto (-41), 3, 0, 175), (219, .iinc 2 1, 3, 1, 0), (222, .goto (-178), 3, 0, 44), (225, .aload_n 1, 1, 0, 0), (226, .areturn, 1, 0, 0)]
set_option maxRecDepth 100000 in
theorem tk_L_seen : q_tb cL_seen 5 tb_L_seen = true := by decide +kernel
set_option maxRecDepth 100000 in
theorem mw_L_areAlike : q_mw yL_areAlike cL_areAlike 3 (Option.some Jvm.ClassFile.FieldType.boolean) 2 := ⟨q_t6 87 rfl rfl, by decide +kernel, by decide +kernel, q_init_QuillRelayLaw⟩
set_option maxRecDepth 100000 in
theorem ms_L_areAlike : Cond.static yL_areAlike ∈ q_W := q_t6 86 rfl rfl
def tb_L_areAlike : List q_E := [(0, .iconst 0, 1, 0, 0), (1, .istore_n 2, 1, 0, 0), (2, .iload_n 2, 1, 0, 0), (3, .aload_n 0, 1, 0, 0), (4, .arraylength, 1, 0, 20), (5, .if_icmp .ge 20, 3, 0, 25), (8, .aload_n 0, 1, 0, 0), (9, .iload_n 2, 1, 0, 0), (10, .iaload, 1, 0, 0), (11, .aload_n 1, 1, 0, 0), (12, .iload_n 2, 1, 0, 0), (13, .iaload, 1, 0, 0), (14, .if_icmp .eq 5, 3, 0, 19), (17, .iconst 0, 1, 0, 0), (18, .ireturn, 1, 0, 0), (19, .iinc 2 1, 3, 1, 0), (22, .goto (-20), 3, 0, 2), (25, .iconst 1, 1, 1, 0), (26, .ireturn, 1, 0, 0)]
set_option maxRecDepth 100000 in
theorem tk_L_areAlike : q_tb cL_areAlike 3 tb_L_areAlike = true := by decide +kernel
set_option maxRecDepth 100000 in
theorem mw_L_group : q_mw yL_group cL_group 2 (Option.some Jvm.ClassFile.FieldType.int) 2 := ⟨q_t6 96 rfl rfl, by decide +kernel, by decide +kernel, q_init_QuillRelayLaw⟩
set_option maxRecDepth 100000 in
theorem ms_L_group : Cond.static yL_group ∈ q_W := q_t6 95 rfl rfl
def tb_L_group : List q_E := [(0, .aload_n 0, 1, 0, 0), (1, .iload_n 1, 1, 0, 0), (2, .invokestatic 212, 3, 0, 0), (5, .ifCond .lt 7, 3, 0, 12), (8, .iconst 0, 1, 0, 0), (9, .goto 23, 3, 0, 32), (12, .aload_n 0, 1, 0, 0), (13, .iload_n 1, 1, 0, 0), (14, .invokevirtual 201, 3, 0, 0), (17, .ifCond .ne 10, 3, 0, 27), (20, .aload_n 0, 1, 0, 0), (21, .invokevirtual 133, 3, 0, 0), (24, .ifCond .ne 7, 3, 0, 31), (27, .iconst 1, 1, 1, 0), (28, .goto 4, 3, 0, 32), (31, .iconst 2, 1, 2, 0), (32, .ireturn, 1, 0, 0)]
set_option maxRecDepth 100000 in
theorem tk_L_group : q_tb cL_group 2 tb_L_group = true := by decide +kernel
set_option maxRecDepth 100000 in
theorem mw_L_isAhead : q_mw yL_isAhead cL_isAhead 5 (Option.some Jvm.ClassFile.FieldType.boolean) 3 := ⟨q_t6 93 rfl rfl, by decide +kernel, by decide +kernel, q_init_QuillRelayLaw⟩
set_option maxRecDepth 100000 in
theorem ms_L_isAhead : Cond.static yL_isAhead ∈ q_W := q_t6 92 rfl rfl
def tb_L_isAhead : List q_E := [(0, .aload_n 0, 1, 0, 0), (1, .iload_n 2, 1, 0, 0), (2, .invokestatic 219, 3, 0, 0), (5, .aload_n 0, 1, 0, 0), (6, .iload_n 1, 1, 0, 0), (7, .invokestatic 219, 3, 0, 0), (10, .isub, 1, 0, 0), (11, .istore_n 3, 1, 0, 0), (12, .iload_n 3, 1, 0, 0), (13, .ifCond .eq 13, 3, 0, 26), (16, .iload_n 3, 1, 0, 0), (17, .ifCond .le 7, 3, 0, 24), (20, .iconst 1, 1, 1, 0), (21, .goto 4, 3, 0, 25), (24, .iconst 0, 1, 0, 0), (25, .ireturn, 1, 0, 0), (26, .aload_n 0, 1, 0, 0), (27, .iload_n 1, 1, 0, 0), (28, .invokestatic 219, 3, 0, 0), (31, .ifCond .ne 17, 3, 0, 48), (34, .aload_n 0, 1, 0, 0), (35, .iload_n 2, 1, 0, 0), (36, .invokestatic 222, 3, 0, 0), (39, .aload_n 0, 1, 0, 0), (40, .iload_n 1, 1, 0, 0), (41, .invokestatic 222, 3, 0, 0), (44, .isub, 1, 0, 0), (45, .goto 14, 3, 0, 59), (48, .aload_n 0, 1, 0, 0), (49, .iload_n 1, 1, 0, 0), (50, .invokevirtual 195, 3, 0, 0), (53, .aload_n 0, 1, 0, 0), (54, .iload_n 2, 1, 0, 0), (55, .invokevirtual 195, 3, 0, 0), (58, .isub, 1, 0, 0), (59, .istore 4, 2, 0, 0), (61, .iload 4, 2, 0, 0), (63, .ifCond .eq 16, 3, 0, 79), (66, .iload 4, 2, 0, 0), (68, .ifCond .le 7, 3, 0, 75), (71, .iconst 1, 1, 1, 0), (72, .goto 25, 3, 0, 97), (75, .iconst 0, 1, 0, 0), (76, .goto 21, 3, 0, 97), (79, .aload_n 0, 1, 0, 0), (80, .iload_n 1, 1, 0, 0), (81, .invokevirtual 192, 3, 0, 0), (84, .aload_n 0, 1, 0, 0), (85, .iload_n 2, 1, 0, 0), (86, .invokevirtual 192, 3, 0, 0), (89, .if_icmp .ge 7, 3, 0, 96), (92, .iconst 1, 1, 1, 0), (93, .goto 4, 3, 0, 97), (96, .iconst 0, 1, 0, 0), (97, .ireturn, 1, 0, 0)]
set_option maxRecDepth 100000 in
theorem tk_L_isAhead : q_tb cL_isAhead 5 tb_L_isAhead = true := by decide +kernel
set_option maxRecDepth 100000 in
theorem mw_L_isWell : q_mw yL_isWell cL_isWell 13 (Option.some Jvm.ClassFile.FieldType.boolean) 1 := ⟨q_t6 90 rfl rfl, by decide +kernel, by decide +kernel, q_init_QuillRelayLaw⟩
set_option maxRecDepth 100000 in
theorem ms_L_isWell : Cond.static yL_isWell ∈ q_W := q_t6 89 rfl rfl
def tb_L_isWell : List q_E := [(0, .iconst 0, 1, 0, 0), (1, .istore_n 1, 1, 0, 0), (2, .iconst 0, 1, 0, 0), (3, .istore_n 2, 1, 0, 0), (4, .iconst 0, 1, 0, 0), (5, .istore_n 3, 1, 0, 0), (6, .iconst 0, 1, 0, 0), (7, .istore 4, 2, 0, 0), (9, .iload 4, 2, 0, 0), (11, .aload_n 0, 1, 0, 0), (12, .invokevirtual 137, 3, 0, 0), (15, .if_icmp .ge 411, 3, 0, 426), (18, .aload_n 0, 1, 0, 0), (19, .iload 4, 2, 0, 0), (21, .invokevirtual 198, 3, 0, 0), (24, .istore 5, 2, 0, 0), (26, .iload 5, 2, 0, 0), (28, .iconst 1, 1, 1, 0), (29, .iadd, 1, 0, 0), (30, .aload_n 0, 1, 0, 0), (31, .invokevirtual 191, 3, 0, 0), (34, .imul, 1, 0, 0), (35, .istore 6, 2, 0, 0), (37, .aload_n 0, 1, 0, 0), (38, .iload 4, 2, 0, 0), (40, .invokevirtual 195, 3, 0, 0), (43, .istore 7, 2, 0, 0), (45, .iconst 0, 1, 0, 0), (46, .istore 8, 2, 0, 0), (48, .aload_n 0, 1, 0, 0), (49, .iload 4, 2, 0, 0), (51, .invokestatic 212, 3, 0, 0), (54, .istore 9, 2, 0, 0), (56, .iload_n 1, 1, 0, 0), (57, .aload_n 0, 1, 0, 0), (58, .iload 4, 2, 0, 0), (60, .invokevirtual 201, 3, 0, 0), (63, .ifCond .eq 7, 3, 0, 70), (66, .iconst 1, 1, 1, 0), (67, .goto 4, 3, 0, 71), (70, .iconst 0, 1, 0, 0), (71, .iadd, 1, 0, 0), (72, .istore_n 1, 1, 0, 0), (73, .iload_n 2, 1, 0, 0), (74, .iload 9, 2, 0, 0), (76, .ifCond .lt 7, 3, 0, 83), (79, .iconst 1, 1, 1, 0), (80, .goto 4, 3, 0, 84), (83, .iconst 0, 1, 0, 0), (84, .iadd, 1, 0, 0), (85, .istore_n 2, 1, 0, 0), (86, .iload_n 3, 1, 0, 0), (87, .iload 9, 2, 0, 0), (89, .ifCond .lt 8, 3, 0, 97), (92, .iload 9, 2, 0, 0), (94, .goto 4, 3, 0, 98), (97, .iconst 0, 1, 0, 0), (98, .iadd, 1, 0, 0), (99, .istore_n 3, 1, 0, 0), (100, .iconst 0, 1, 0, 0), (101, .istore 10, 2, 0, 0), (103, .iload 10, 2, 0, 0), (105, .iconst 4, 1, 4, 0), (106, .if_icmp .ge 77, 3, 0, 183), (109, .aload_n 0, 1, 0, 0), (110, .iload 4, 2, 0, 0), (112, .iload 10, 2, 0, 0), (114, .invokestatic 214, 3, 0, 0), (117, .istore 11, 2, 0, 0), (119, .iload 10, 2, 0, 0), (121, .iload 5, 2, 0, 0), (123, .if_icmp .lt 14, 3, 0, 137), (126, .iload 10, 2, 0, 0), (128, .iconst 3, 1, 3, 0), (129, .if_icmp .ne 12, 3, 0, 141), (132, .iload 9, 2, 0, 0), (134, .ifCond .lt 7, 3, 0, 141), (137, .iconst 1, 1, 1, 0), (138, .goto 4, 3, 0, 142), (141, .iconst 0, 1, 0, 0), (142, .istore 12, 2, 0, 0), (144, .iload 8, 2, 0, 0), (146, .iload 11, 2, 0, 0), (148, .ifCond .lt 8, 3, 0, 156), (151, .iload 11, 2, 0, 0), (153, .goto 4, 3, 0, 157), (156, .iconst 0, 1, 0, 0), (157, .iadd, 1, 0, 0), (158, .istore 8, 2, 0, 0), (160, .iload 11, 2, 0, 0), (162, .ifCond .lt 7, 3, 0, 169), (165, .iconst 1, 1, 1, 0), (166, .goto 4, 3, 0, 170), (169, .iconst 0, 1, 0, 0), (170, .iload 12, 2, 0, 0), (172, .if_icmp .eq 5, 3, 0, 177), (175, .iconst 0, 1, 0, 0), (176, .ireturn, 1, 0, 0), (177, .iinc 10 1, 3, 1, 0), (180, .goto (-77), 3, 0, 103), (183, .iload 5, 2, 0, 0), (185, .iconst 3, 1, 3, 0), (186, .if_icmp .ge 27, 3, 0, 213), (189, .iload 7, 2, 0, 0), (191, .iload 6, 2, 0, 0), (193, .bipush 100, 2, 100, 0), (195, .isub, 1, 0, 0), (196, .if_icmp .lt 17, 3, 0, 213), (199, .iload 7, 2, 0, 0), (201, .iload 6, 2, 0, 0), (203, .bipush 100, 2, 100, 0), (205, .iadd, 1, 0, 0), (206, .if_icmp .gt 7, 3, 0, 213), (209, .iconst 1, 1, 1, 0), (210, .goto 4, 3, 0, 214), (213, .iconst 0, 1, 0, 0), (214, .istore 10, 2, 0, 0), (216, .iconst 0, 1, 0, 0), (217, .istore 11, 2, 0, 0), (219, .iconst 0, 1, 0, 0), (220, .istore 12, 2, 0, 0), (222, .iload 12, 2, 0, 0), (224, .aload_n 0, 1, 0, 0), (225, .invokevirtual 137, 3, 0, 0), (228, .if_icmp .ge 37, 3, 0, 265), (231, .iload 11, 2, 0, 0), (233, .iload 12, 2, 0, 0), (235, .iload 4, 2, 0, 0), (237, .if_icmp .eq 18, 3, 0, 255), (240, .aload_n 0, 1, 0, 0), (241, .iload 12, 2, 0, 0), (243, .iload 4, 2, 0, 0), (245, .invokestatic 224, 3, 0, 0), (248, .ifCond .eq 7, 3, 0, 255), (251, .iconst 1, 1, 1, 0), (252, .goto 4, 3, 0, 256), (255, .iconst 0, 1, 0, 0), (256, .iadd, 1, 0, 0), (257, .istore 11, 2, 0, 0), (259, .iinc 12 1, 3, 1, 0), (262, .goto (-40), 3, 0, 222), (265, .aload_n 0, 1, 0, 0), (266, .iload 4, 2, 0, 0), (268, .invokevirtual 228, 3, 0, 0), (271, .iload 10, 2, 0, 0), (273, .if_icmp .ne 145, 3, 0, 418), (276, .iload 5, 2, 0, 0), (278, .iconst 3, 1, 3, 0), (279, .if_icmp .ge 14, 3, 0, 293), (282, .iload 7, 2, 0, 0), (284, .iload 6, 2, 0, 0), (286, .sipush 300, 3, 300, 0), (289, .iadd, 1, 0, 0), (290, .if_icmp .gt 128, 3, 0, 418), (293, .iload 5, 2, 0, 0), (295, .ifCond .le 18, 3, 0, 313), (298, .iload 7, 2, 0, 0), (300, .iload 6, 2, 0, 0), (302, .aload_n 0, 1, 0, 0), (303, .invokevirtual 191, 3, 0, 0), (306, .isub, 1, 0, 0), (307, .bipush 100, 2, 100, 0), (309, .isub, 1, 0, 0), (310, .if_icmp .lt 108, 3, 0, 418), (313, .aload_n 0, 1, 0, 0), (314, .iload 4, 2, 0, 0), (316, .invokevirtual 231, 3, 0, 0), (319, .iload 8, 2, 0, 0), (321, .if_icmp .ne 97, 3, 0, 418), (324, .iload 9, 2, 0, 0), (326, .ifCond .lt 35, 3, 0, 361), (329, .iload 9, 2, 0, 0), (331, .iload 8, 2, 0, 0), (333, .if_icmp .ne 85, 3, 0, 418), (336, .iload 7, 2, 0, 0), (338, .iload 6, 2, 0, 0), (340, .if_icmp .lt 78, 3, 0, 418), (343, .aload_n 0, 1, 0, 0), (344, .iload 4, 2, 0, 0), (346, .invokestatic 222, 3, 0, 0), (349, .iload 9, 2, 0, 0), (351, .aload_n 0, 1, 0, 0), (352, .iload 4, 2, 0, 0), (354, .invokevirtual 205, 3, 0, 0), (357, .iadd, 1, 0, 0), (358, .if_icmp .ne 60, 3, 0, 418), (361, .iload 9, 2, 0, 0), (363, .aload_n 0, 1, 0, 0), (364, .invokevirtual 188, 3, 0, 0), (367, .if_icmp .gt 51, 3, 0, 418), (370, .aload_n 0, 1, 0, 0), (371, .iload 4, 2, 0, 0), (373, .invokevirtual 234, 3, 0, 0), (376, .iload 11, 2, 0, 0), (378, .if_icmp .ne 40, 3, 0, 418), (381, .aload_n 0, 1, 0, 0), (382, .iload 11, 2, 0, 0), (384, .invokestatic 237, 3, 0, 0), (387, .iload 4, 2, 0, 0), (389, .if_icmp .ne 29, 3, 0, 418), (392, .aload_n 0, 1, 0, 0), (393, .aload_n 0, 1, 0, 0), (394, .iload 4, 2, 0, 0), (396, .invokevirtual 192, 3, 0, 0), (399, .invokestatic 239, 3, 0, 0), (402, .iload 4, 2, 0, 0), (404, .if_icmp .ne 14, 3, 0, 418), (407, .aload_n 0, 1, 0, 0), (408, .iload 4, 2, 0, 0), (410, .invokevirtual 205, 3, 0, 0), (413, .iconst 5, 1, 5, 0), (414, .irem, 1, 0, 0), (415, .ifCond .eq 5, 3, 0, 420), (418, .iconst 0, 1, 0, 0), (419, .ireturn, 1, 0, 0), (420, .iinc 4 1, 3, 1, 0), (423, .goto (-414), 3, 0, 9), (426, .iload_n 1, 1, 0, 0), (427, .aload_n 0, 1, 0, 0), (428, .invokevirtual 241, 3, 0, 0), (431, .if_icmp .ne 47, 3, 0, 478), (434, .aload_n 0, 1, 0, 0), (435, .invokevirtual 244, 3, 0, 0), (438, .aload_n 0, 1, 0, 0), (439, .invokevirtual 133, 3, 0, 0), (442, .ifCond .eq 11, 3, 0, 453), (445, .iload_n 1, 1, 0, 0), (446, .ifCond .ne 7, 3, 0, 453), (449, .iconst 1, 1, 1, 0), (450, .goto 4, 3, 0, 454), (453, .iconst 0, 1, 0, 0), (454, .if_icmp .ne 24, 3, 0, 478), (457, .iload_n 2, 1, 0, 0), (458, .ifCond .eq 16, 3, 0, 474), (461, .aload_n 0, 1, 0, 0), (462, .invokevirtual 247, 3, 0, 0), (465, .iload_n 3, 1, 0, 0), (466, .i2d, 1, 0, 0), (467, .iload_n 2, 1, 0, 0), (468, .i2d, 1, 0, 0), (469, .ddiv, 1, 0, 0), (470, .dcmp .l, 1, 0, 0), (471, .ifCond .ne 7, 3, 0, 478), (474, .iconst 1, 1, 1, 0), (475, .goto 4, 3, 0, 479), (478, .iconst 0, 1, 0, 0), (479, .ireturn, 1, 0, 0)]
set_option maxRecDepth 100000 in
theorem tk_L_isWell : q_tb cL_isWell 13 tb_L_isWell = true := by decide +kernel
set_option maxRecDepth 100000 in
theorem lk_X8_9 : Cond.methodLink RX8 9 yX4_init ∈ q_W := q_t4 125 rfl rfl
set_option maxRecDepth 100000 in
theorem lk_X8_24 : Cond.methodLink RX8 24 yX2_init ∈ q_W := q_t4 217 rfl rfl
set_option maxRecDepth 100000 in
theorem lk_X8_31 : Cond.methodLink RX8 31 yX3_init ∈ q_W := q_t4 237 rfl rfl
set_option maxRecDepth 100000 in
theorem lk_X8_60 : Cond.methodLink RX8 60 yX4_faultOfEntering ∈ q_W := q_t5 71 rfl rfl
set_option maxRecDepth 100000 in
theorem lk_X8_64 : Cond.methodLink RX8 64 yX8_raise ∈ q_W := q_t3 43 rfl rfl
set_option maxRecDepth 100000 in
theorem lk_X8_68 : Cond.methodLink RX8 68 yX2_push ∈ q_W := q_t3 89 rfl rfl
set_option maxRecDepth 100000 in
theorem lk_X8_72 : Cond.methodLink RX8 72 yX4_enterTeam ∈ q_W := q_t5 75 rfl rfl
set_option maxRecDepth 100000 in
theorem lk_X8_76 : Cond.methodLink RX8 76 yX4_faultOfSpeed ∈ q_W := q_t5 86 rfl rfl
set_option maxRecDepth 100000 in
theorem lk_X8_80 : Cond.methodLink RX8 80 yX8_teamWith ∈ q_W := q_t1 38 rfl rfl
set_option maxRecDepth 100000 in
theorem lk_X8_84 : Cond.methodLink RX8 84 yX6_changeSpeed ∈ q_W := q_t5 91 rfl rfl
set_option maxRecDepth 100000 in
theorem lk_X8_90 : Cond.methodLink RX8 90 yX4_faultOfLength ∈ q_W := q_t5 102 rfl rfl
set_option maxRecDepth 100000 in
theorem lk_X8_97 : Cond.methodLink RX8 97 yX4_faultOfDrawing ∈ q_W := q_t5 113 rfl rfl
set_option maxRecDepth 100000 in
theorem lk_X8_100 : Cond.methodLink RX8 100 yX4_shuffleLanes ∈ q_W := q_t5 118 rfl rfl
set_option maxRecDepth 100000 in
theorem lk_X8_107 : Cond.methodLink RX8 107 yX4_faultOfStarting ∈ q_W := q_t3 26 rfl rfl
set_option maxRecDepth 100000 in
theorem lk_X8_110 : Cond.methodLink RX8 110 yX4_begin ∈ q_W := q_t3 95 rfl rfl
set_option maxRecDepth 100000 in
theorem lk_X8_113 : Cond.methodLink RX8 113 yX4_countEntered ∈ q_W := q_t3 102 rfl rfl
set_option maxRecDepth 100000 in
theorem lk_X8_116 : Cond.methodLink RX8 116 yX4_faultOfRunning ∈ q_W := q_t3 112 rfl rfl
set_option maxRecDepth 100000 in
theorem lk_X8_119 : Cond.methodLink RX8 119 yX4_letSecondsPass ∈ q_W := q_t3 117 rfl rfl
set_option maxRecDepth 100000 in
theorem lk_X8_123 : Cond.methodLink RX8 123 yX8_faultOfPassing ∈ q_W := q_t3 160 rfl rfl
set_option maxRecDepth 100000 in
theorem lk_X8_126 : Cond.methodLink RX8 126 yX4_handOver ∈ q_W := q_t3 169 rfl rfl
set_option maxRecDepth 100000 in
theorem lk_X8_130 : Cond.methodLink RX8 130 yX4_faultOfDropping ∈ q_W := q_t3 183 rfl rfl
set_option maxRecDepth 100000 in
theorem lk_X8_134 : Cond.methodLink RX8 134 yX4_dropQuill ∈ q_W := q_t3 193 rfl rfl
set_option maxRecDepth 100000 in
theorem lk_X8_138 : Cond.methodLink RX8 138 yX4_faultOfWithdrawing ∈ q_W := q_t3 208 rfl rfl
set_option maxRecDepth 100000 in
theorem lk_X8_150 : Cond.methodLink RX8 150 yX4_countRunning ∈ q_W := q_t3 209 rfl rfl
set_option maxRecDepth 100000 in
theorem lk_X8_153 : Cond.methodLink RX8 153 yX4_faultOfProtesting ∈ q_W := q_t4 88 rfl rfl
set_option maxRecDepth 100000 in
theorem lk_X8_156 : Cond.methodLink RX8 156 yX4_judge ∈ q_W := q_t4 95 rfl rfl
set_option maxRecDepth 100000 in
theorem lk_X8_166 : Cond.methodLink RX8 166 yX4_numberInLane ∈ q_W := q_t6 125 rfl rfl
set_option maxRecDepth 100000 in
theorem lk_X8_176 : Cond.methodLink RX8 176 yX8_teamWithLeg ∈ q_W := q_t3 221 rfl rfl
set_option maxRecDepth 100000 in
theorem lk_X8_180 : Cond.methodLink RX8 180 yX6_speedOn ∈ q_W := q_t4 42 rfl rfl
set_option maxRecDepth 100000 in
theorem lk_X8_192 : Cond.methodLink RX8 192 yX6_inZone ∈ q_W := q_t6 108 rfl rfl
set_option maxRecDepth 100000 in
theorem lk_X8_202 : Cond.methodLink RX8 202 yX8_isKind ∈ q_W := q_t6 66 rfl rfl
set_option maxRecDepth 100000 in
theorem lk_X8_210 : Cond.methodLink RX8 210 yX6_committed ∈ q_W := q_t6 68 rfl rfl
set_option maxRecDepth 100000 in
theorem lk_X8_213 : Cond.methodLink RX8 213 yX6_hasEnded ∈ q_W := q_t3 229 rfl rfl
set_option maxRecDepth 100000 in
theorem lk_X8_222 : Cond.methodLink RX8 222 yX8_at ∈ q_W := q_t3 15 rfl rfl
set_option maxRecDepth 100000 in
theorem lk_X8_226 : Cond.methodLink RX8 226 yX8_finishedTeamWith ∈ q_W := q_t6 76 rfl rfl
set_option maxRecDepth 100000 in
theorem lk_X8_232 : Cond.methodLink RX8 232 yX6_result ∈ q_W := q_t2 233 rfl rfl
set_option maxRecDepth 100000 in
theorem lk_X8_235 : Cond.methodLink RX8 235 yX4_numberAtRank ∈ q_W := q_t4 16 rfl rfl
set_option maxRecDepth 100000 in
theorem lk_X8_240 : Cond.methodLink RX8 240 yX4_countAhead ∈ q_W := q_t6 117 rfl rfl
set_option maxRecDepth 100000 in
theorem lk_X8_243 : Cond.methodLink RX8 243 yX4_countFinished ∈ q_W := q_t6 142 rfl rfl
set_option maxRecDepth 100000 in
theorem lk_X8_251 : Cond.methodLink RX8 251 yX4_sumOfTimes ∈ q_W := q_t6 163 rfl rfl
set_option maxRecDepth 100000 in
theorem lk_X8_254 : Cond.methodLink RX8 254 yX8_speedForReach ∈ q_W := q_t4 37 rfl rfl
set_option maxRecDepth 100000 in
theorem lk_X8_258 : Cond.methodLink RX8 258 yX8_pace ∈ q_W := q_t4 46 rfl rfl
set_option maxRecDepth 100000 in
theorem lk_X8_271 : Cond.methodLink RX8 271 yX6_secondsUntilZone ∈ q_W := q_t4 56 rfl rfl
set_option maxRecDepth 100000 in
theorem lk_X8_286 : Cond.methodLink RX8 286 yX8_appendStage ∈ q_W := q_t2 225 rfl rfl
set_option maxRecDepth 100000 in
theorem lk_X8_309 : Cond.methodLink RX8 309 yX3_findError ∈ q_W := q_t5 192 rfl rfl
set_option maxRecDepth 100000 in
theorem lk_X8_312 : Cond.methodLink RX8 312 yX8_performAll ∈ q_W := q_t6 7 rfl rfl
set_option maxRecDepth 100000 in
theorem lk_X8_331 : Cond.methodLink RX8 331 yX2_popInto ∈ q_W := q_t4 69 rfl rfl
set_option maxRecDepth 100000 in
theorem lk_X8_334 : Cond.methodLink RX8 334 yX4_copyFrom ∈ q_W := q_t3 4 rfl rfl
set_option maxRecDepth 100000 in
theorem lk_X8_362 : Cond.methodLink RX8 362 yX4_find ∈ q_W := q_t1 43 rfl rfl
set_option maxRecDepth 100000 in
theorem lk_X8_367 : Cond.methodLink RX8 367 yX8_isLeg ∈ q_W := q_t3 225 rfl rfl
set_option maxRecDepth 100000 in
theorem lk_X8_379 : Cond.methodLink RX8 379 yX6_reasonToRefuse ∈ q_W := q_t3 164 rfl rfl
set_option maxRecDepth 100000 in
theorem lk_X8_385 : Cond.methodLink RX8 385 yX3_rewind ∈ q_W := q_t6 11 rfl rfl
set_option maxRecDepth 100000 in
theorem lk_X8_388 : Cond.methodLink RX8 388 yX3_readNext ∈ q_W := q_t6 12 rfl rfl
set_option maxRecDepth 100000 in
theorem lk_X8_399 : Cond.methodLink RX8 399 yX8_faultOf ∈ q_W := q_t6 13 rfl rfl
set_option maxRecDepth 100000 in
theorem lk_X8_403 : Cond.methodLink RX8 403 yX8_apply ∈ q_W := q_t6 25 rfl rfl
set_option maxRecDepth 100000 in
theorem lk_X2_17 : Cond.methodLink RX2 17 yX4_init ∈ q_W := q_t4 223 rfl rfl
set_option maxRecDepth 100000 in
theorem lk_X2_22 : Cond.methodLink RX2 22 yX4_copyFrom ∈ q_W := q_t3 93 rfl rfl
set_option maxRecDepth 100000 in
theorem lk_X3_31 : Cond.methodLink RX3 31 yX3_rewind ∈ q_W := q_t5 196 rfl rfl
set_option maxRecDepth 100000 in
theorem lk_X3_42 : Cond.methodLink RX3 42 yX3_readNext ∈ q_W := q_t5 201 rfl rfl
set_option maxRecDepth 100000 in
theorem lk_X3_49 : Cond.methodLink RX3 49 yX3_readCharacter ∈ q_W := q_t5 205 rfl rfl
set_option maxRecDepth 100000 in
theorem lk_X3_61 : Cond.methodLink RX3 61 yX3_readPattern ∈ q_W := q_t5 221 rfl rfl
set_option maxRecDepth 100000 in
theorem lk_X3_81 : Cond.methodLink RX3 81 yX3_readSign ∈ q_W := q_t5 227 rfl rfl
set_option maxRecDepth 100000 in
theorem lk_X3_84 : Cond.methodLink RX3 84 yX3_readDigits ∈ q_W := q_t5 231 rfl rfl
set_option maxRecDepth 100000 in
theorem lk_X3_88 : Cond.methodLink RX3 88 yX3_readKind ∈ q_W := q_t6 2 rfl rfl
set_option maxRecDepth 100000 in
theorem lk_X3_92 : Cond.methodLink RX3 92 yX3_isDigit ∈ q_W := q_t5 235 rfl rfl
set_option maxRecDepth 100000 in
theorem lk_X3_95 : Cond.methodLink RX3 95 yX3_addArgument ∈ q_W := q_t5 238 rfl rfl
set_option maxRecDepth 100000 in
theorem lk_X4_17 : Cond.methodLink RX4 17 yX6_init ∈ q_W := q_t4 131 rfl rfl
set_option maxRecDepth 100000 in
theorem lk_X4_24 : Cond.methodLink RX4 24 yX6_copyFrom ∈ q_W := q_t3 8 rfl rfl
set_option maxRecDepth 100000 in
theorem lk_X4_44 : Cond.methodLink RX4 44 yX4_countIn ∈ q_W := q_t3 34 rfl rfl
set_option maxRecDepth 100000 in
theorem lk_X4_63 : Cond.methodLink RX4 63 yX4_countAhead ∈ q_W := q_t4 20 rfl rfl
set_option maxRecDepth 100000 in
theorem lk_X4_67 : Cond.methodLink RX4 67 yX6_isAheadOf ∈ q_W := q_t4 24 rfl rfl
set_option maxRecDepth 100000 in
theorem lk_X4_71 : Cond.methodLink RX4 71 yX4_countEntered ∈ q_W := q_t3 30 rfl rfl
set_option maxRecDepth 100000 in
theorem lk_X4_84 : Cond.methodLink RX4 84 yX4_find ∈ q_W := q_t3 187 rfl rfl
set_option maxRecDepth 100000 in
theorem lk_X4_98 : Cond.methodLink RX4 98 yX4_faultOfStarting ∈ q_W := q_t5 117 rfl rfl
set_option maxRecDepth 100000 in
theorem lk_X4_102 : Cond.methodLink RX4 102 yX4_faultOfWithdrawing ∈ q_W := q_t3 189 rfl rfl
set_option maxRecDepth 100000 in
theorem lk_X4_112 : Cond.methodLink RX4 112 yX4_freeLane ∈ q_W := q_t5 122 rfl rfl
set_option maxRecDepth 100000 in
theorem lk_X4_116 : Cond.methodLink RX4 116 yX4_isTaken ∈ q_W := q_t5 126 rfl rfl
set_option maxRecDepth 100000 in
theorem lk_X4_120 : Cond.methodLink RX4 120 yX6_moveOneSecond ∈ q_W := q_t3 121 rfl rfl
set_option maxRecDepth 100000 in
theorem lk_X4_126 : Cond.methodLink RX4 126 yX6_legEnd ∈ q_W := q_t3 173 rfl rfl
set_option maxRecDepth 100000 in
theorem lk_X4_133 : Cond.methodLink RX4 133 yX6_endLeg ∈ q_W := q_t3 174 rfl rfl
set_option maxRecDepth 100000 in
theorem lk_X4_142 : Cond.methodLink RX4 142 yX6_inZone ∈ q_W := q_t3 197 rfl rfl
set_option maxRecDepth 100000 in
theorem lk_X4_151 : Cond.methodLink RX4 151 yX6_committed ∈ q_W := q_t4 99 rfl rfl
set_option maxRecDepth 100000 in
theorem lk_X4_154 : Cond.methodLink RX4 154 yX6_removeFoul ∈ q_W := q_t4 103 rfl rfl
set_option maxRecDepth 100000 in
theorem lk_X6_74 : Cond.methodLink RX6 74 yX6_legEnd ∈ q_W := q_t3 130 rfl rfl
set_option maxRecDepth 100000 in
theorem lk_X6_78 : Cond.methodLink RX6 78 yX6_runOneSecond ∈ q_W := q_t3 125 rfl rfl
set_option maxRecDepth 100000 in
theorem lk_X6_85 : Cond.methodLink RX6 85 yX6_endLeg ∈ q_W := q_t3 141 rfl rfl
set_option maxRecDepth 100000 in
theorem lk_X6_101 : Cond.methodLink RX6 101 yX6_result ∈ q_W := q_t4 28 rfl rfl
set_option maxRecDepth 100000 in
theorem lk_L_9 : Cond.methodLink RL 9 yX8_addTeam ∈ q_W := q_t5 67 rfl rfl
set_option maxRecDepth 100000 in
theorem lk_L_18 : Cond.methodLink RL 18 yX8_setSpeed ∈ q_W := q_t5 82 rfl rfl
set_option maxRecDepth 100000 in
theorem lk_L_28 : Cond.methodLink RL 28 yX8_setLength ∈ q_W := q_t5 98 rfl rfl
set_option maxRecDepth 100000 in
theorem lk_L_32 : Cond.methodLink RL 32 yX8_drawLanes ∈ q_W := q_t5 109 rfl rfl
set_option maxRecDepth 100000 in
theorem lk_L_35 : Cond.methodLink RL 35 yX8_start ∈ q_W := q_t3 22 rfl rfl
set_option maxRecDepth 100000 in
theorem lk_L_38 : Cond.methodLink RL 38 yX8_run ∈ q_W := q_t3 108 rfl rfl
set_option maxRecDepth 100000 in
theorem lk_L_41 : Cond.methodLink RL 41 yX8_pass ∈ q_W := q_t3 156 rfl rfl
set_option maxRecDepth 100000 in
theorem lk_L_46 : Cond.methodLink RL 46 yX8_drop ∈ q_W := q_t3 179 rfl rfl
set_option maxRecDepth 100000 in
theorem lk_L_50 : Cond.methodLink RL 50 yX8_withdraw ∈ q_W := q_t3 204 rfl rfl
set_option maxRecDepth 100000 in
theorem lk_L_53 : Cond.methodLink RL 53 yX8_teamInLane ∈ q_W := q_t6 121 rfl rfl
set_option maxRecDepth 100000 in
theorem lk_L_58 : Cond.methodLink RL 58 yX8_splitOf ∈ q_W := q_t3 217 rfl rfl
set_option maxRecDepth 100000 in
theorem lk_L_61 : Cond.methodLink RL 61 yX8_timeOf ∈ q_W := q_t6 72 rfl rfl
set_option maxRecDepth 100000 in
theorem lk_L_64 : Cond.methodLink RL 64 yX8_resultOf ∈ q_W := q_t6 100 rfl rfl
set_option maxRecDepth 100000 in
theorem lk_L_67 : Cond.methodLink RL 67 yX8_teamAtRank ∈ q_W := q_t4 12 rfl rfl
set_option maxRecDepth 100000 in
theorem lk_L_70 : Cond.methodLink RL 70 yX8_reach ∈ q_W := q_t4 33 rfl rfl
set_option maxRecDepth 100000 in
theorem lk_L_73 : Cond.methodLink RL 73 yX8_secondsToZone ∈ q_W := q_t4 50 rfl rfl
set_option maxRecDepth 100000 in
theorem lk_L_76 : Cond.methodLink RL 76 yX8_execute ∈ q_W := q_t5 188 rfl rfl
set_option maxRecDepth 100000 in
theorem lk_L_79 : Cond.methodLink RL 79 yX8_undo ∈ q_W := q_t4 64 rfl rfl
set_option maxRecDepth 100000 in
theorem lk_L_82 : Cond.methodLink RL 82 yX8_restore ∈ q_W := q_t4 76 rfl rfl
set_option maxRecDepth 100000 in
theorem lk_L_85 : Cond.methodLink RL 85 yX8_protest ∈ q_W := q_t4 84 rfl rfl
set_option maxRecDepth 100000 in
theorem lk_L_89 : Cond.methodLink RL 89 yL_cell ∈ q_W := q_t4 110 rfl rfl
set_option maxRecDepth 100000 in
theorem lk_L_105 : Cond.methodLink RL 105 yX8_type ∈ q_W := q_t5 178 rfl rfl
set_option maxRecDepth 100000 in
theorem lk_L_110 : Cond.methodLink RL 110 yL_execute ∈ q_W := q_t5 185 rfl rfl
set_option maxRecDepth 100000 in
theorem lk_L_113 : Cond.methodLink RL 113 yX8_init ∈ q_W := q_t4 120 rfl rfl
set_option maxRecDepth 100000 in
theorem lk_L_114 : Cond.methodLink RL 114 yL_in ∈ q_W := q_t4 107 rfl rfl
set_option maxRecDepth 100000 in
theorem lk_L_118 : Cond.methodLink RL 118 yL_addTeam ∈ q_W := q_t5 64 rfl rfl
set_option maxRecDepth 100000 in
theorem lk_L_120 : Cond.methodLink RL 120 yL_setSpeed ∈ q_W := q_t5 79 rfl rfl
set_option maxRecDepth 100000 in
theorem lk_L_123 : Cond.methodLink RL 123 yL_setLength ∈ q_W := q_t5 95 rfl rfl
set_option maxRecDepth 100000 in
theorem lk_L_126 : Cond.methodLink RL 126 yL_drawLanes ∈ q_W := q_t5 106 rfl rfl
set_option maxRecDepth 100000 in
theorem lk_L_128 : Cond.methodLink RL 128 yL_start ∈ q_W := q_t3 18 rfl rfl
set_option maxRecDepth 100000 in
theorem lk_L_130 : Cond.methodLink RL 130 yL_run ∈ q_W := q_t3 104 rfl rfl
set_option maxRecDepth 100000 in
theorem lk_L_133 : Cond.methodLink RL 133 yX8_isStarted ∈ q_W := q_t5 134 rfl rfl
set_option maxRecDepth 100000 in
theorem lk_L_137 : Cond.methodLink RL 137 yX8_teamCount ∈ q_W := q_t5 138 rfl rfl
set_option maxRecDepth 100000 in
theorem lk_L_140 : Cond.methodLink RL 140 yL_secondsToZone ∈ q_W := q_t4 47 rfl rfl
set_option maxRecDepth 100000 in
theorem lk_L_142 : Cond.methodLink RL 142 yX8_standingOf ∈ q_W := q_t5 142 rfl rfl
set_option maxRecDepth 100000 in
theorem lk_L_145 : Cond.methodLink RL 145 yL_pass ∈ q_W := q_t3 149 rfl rfl
set_option maxRecDepth 100000 in
theorem lk_L_147 : Cond.methodLink RL 147 yL_drop ∈ q_W := q_t3 176 rfl rfl
set_option maxRecDepth 100000 in
theorem lk_L_150 : Cond.methodLink RL 150 yL_withdraw ∈ q_W := q_t3 201 rfl rfl
set_option maxRecDepth 100000 in
theorem lk_L_152 : Cond.methodLink RL 152 yL_protest ∈ q_W := q_t4 81 rfl rfl
set_option maxRecDepth 100000 in
theorem lk_L_184 : Cond.methodLink RL 184 yL_does ∈ q_W := q_t5 159 rfl rfl
set_option maxRecDepth 100000 in
theorem lk_L_188 : Cond.methodLink RL 188 yX8_clock ∈ q_W := q_t6 34 rfl rfl
set_option maxRecDepth 100000 in
theorem lk_L_191 : Cond.methodLink RL 191 yX8_length ∈ q_W := q_t6 38 rfl rfl
set_option maxRecDepth 100000 in
theorem lk_L_192 : Cond.methodLink RL 192 yX8_laneOf ∈ q_W := q_t6 42 rfl rfl
set_option maxRecDepth 100000 in
theorem lk_L_195 : Cond.methodLink RL 195 yX8_positionOf ∈ q_W := q_t6 46 rfl rfl
set_option maxRecDepth 100000 in
theorem lk_L_198 : Cond.methodLink RL 198 yX8_legOf ∈ q_W := q_t6 50 rfl rfl
set_option maxRecDepth 100000 in
theorem lk_L_201 : Cond.methodLink RL 201 yX8_isRunning ∈ q_W := q_t6 54 rfl rfl
set_option maxRecDepth 100000 in
theorem lk_L_205 : Cond.methodLink RL 205 yX8_penaltyOf ∈ q_W := q_t6 58 rfl rfl
set_option maxRecDepth 100000 in
theorem lk_L_208 : Cond.methodLink RL 208 yX8_hasFoul ∈ q_W := q_t6 62 rfl rfl
set_option maxRecDepth 100000 in
theorem lk_L_212 : Cond.methodLink RL 212 yL_timeOf ∈ q_W := q_t6 69 rfl rfl
set_option maxRecDepth 100000 in
theorem lk_L_214 : Cond.methodLink RL 214 yL_splitOf ∈ q_W := q_t3 213 rfl rfl
set_option maxRecDepth 100000 in
theorem lk_L_216 : Cond.methodLink RL 216 yX8_speedOf ∈ q_W := q_t6 81 rfl rfl
set_option maxRecDepth 100000 in
theorem lk_L_219 : Cond.methodLink RL 219 yL_group ∈ q_W := q_t6 94 rfl rfl
set_option maxRecDepth 100000 in
theorem lk_L_222 : Cond.methodLink RL 222 yL_resultOf ∈ q_W := q_t6 97 rfl rfl
set_option maxRecDepth 100000 in
theorem lk_L_224 : Cond.methodLink RL 224 yL_isAhead ∈ q_W := q_t6 91 rfl rfl
set_option maxRecDepth 100000 in
theorem lk_L_228 : Cond.methodLink RL 228 yX8_isInZone ∈ q_W := q_t6 104 rfl rfl
set_option maxRecDepth 100000 in
theorem lk_L_231 : Cond.methodLink RL 231 yX8_splitSum ∈ q_W := q_t6 109 rfl rfl
set_option maxRecDepth 100000 in
theorem lk_L_234 : Cond.methodLink RL 234 yX8_rankOf ∈ q_W := q_t6 113 rfl rfl
set_option maxRecDepth 100000 in
theorem lk_L_237 : Cond.methodLink RL 237 yL_teamAtRank ∈ q_W := q_t4 9 rfl rfl
set_option maxRecDepth 100000 in
theorem lk_L_239 : Cond.methodLink RL 239 yL_teamInLane ∈ q_W := q_t6 118 rfl rfl
set_option maxRecDepth 100000 in
theorem lk_L_241 : Cond.methodLink RL 241 yX8_runningCount ∈ q_W := q_t6 130 rfl rfl
set_option maxRecDepth 100000 in
theorem lk_L_244 : Cond.methodLink RL 244 yX8_isFinished ∈ q_W := q_t6 134 rfl rfl
set_option maxRecDepth 100000 in
theorem lk_L_247 : Cond.methodLink RL 247 yX8_meanTime ∈ q_W := q_t6 138 rfl rfl
set_option maxRecDepth 100000 in
theorem lk_L_251 : Cond.methodLink RL 251 yL_begun ∈ q_W := q_t4 116 rfl rfl
set_option maxRecDepth 100000 in
theorem lk_L_255 : Cond.methodLink RL 255 yL_isWell ∈ q_W := q_t6 88 rfl rfl
set_option maxRecDepth 100000 in
theorem lk_L_259 : Cond.methodLink RL 259 yL_seen ∈ q_W := q_t6 31 rfl rfl
set_option maxRecDepth 100000 in
theorem lk_L_263 : Cond.methodLink RL 263 yL_acts ∈ q_W := q_t5 131 rfl rfl
set_option maxRecDepth 100000 in
theorem lk_L_268 : Cond.methodLink RL 268 yL_areAlike ∈ q_W := q_t6 85 rfl rfl
set_option maxRecDepth 100000 in
theorem lk_L_272 : Cond.methodLink RL 272 yL_undo ∈ q_W := q_t4 61 rfl rfl
set_option maxRecDepth 100000 in
theorem lk_L_274 : Cond.methodLink RL 274 yX8_save ∈ q_W := q_t3 0 rfl rfl
set_option maxRecDepth 100000 in
theorem lk_L_277 : Cond.methodLink RL 277 yL_reach ∈ q_W := q_t4 30 rfl rfl
set_option maxRecDepth 100000 in
theorem lk_L_279 : Cond.methodLink RL 279 yX8_writeBanner ∈ q_W := q_t1 34 rfl rfl
set_option maxRecDepth 100000 in
theorem lk_L_282 : Cond.methodLink RL 282 yL_restore ∈ q_W := q_t4 73 rfl rfl
