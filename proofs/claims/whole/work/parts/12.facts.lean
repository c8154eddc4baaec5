/-! What the tables say: methods, references, fields; each method by its list of instructions. -/
set_option maxRecDepth 100000 in
theorem q_t1 (i : Nat) {w : Cond} (h : tables_1_1[i]? = some w) (g : goodWord w = true) : w ∈ q_W := q_W_in (List.mem_append_right (k2_sels lw_privs) (show w ∈ tables_1 from List.mem_append_left _ (List.mem_of_getElem? h))) g
set_option maxRecDepth 100000 in
theorem q_t2 (i : Nat) {w : Cond} (h : tables_1_2[i]? = some w) (g : goodWord w = true) : w ∈ q_W := q_W_in (List.mem_append_right (k2_sels lw_privs) (show w ∈ tables_1 from List.mem_append_right _ (List.mem_append_left _ (List.mem_of_getElem? h)))) g
set_option maxRecDepth 100000 in
theorem q_t3 (i : Nat) {w : Cond} (h : tables_1_3[i]? = some w) (g : goodWord w = true) : w ∈ q_W := q_W_in (List.mem_append_right (k2_sels lw_privs) (show w ∈ tables_1 from List.mem_append_right _ (List.mem_append_right _ (List.mem_append_left _ (List.mem_of_getElem? h))))) g
set_option maxRecDepth 100000 in
theorem q_t4 (i : Nat) {w : Cond} (h : tables_1_4[i]? = some w) (g : goodWord w = true) : w ∈ q_W := q_W_in (List.mem_append_right (k2_sels lw_privs) (show w ∈ tables_1 from List.mem_append_right _ (List.mem_append_right _ (List.mem_append_right _ (List.mem_append_left _ (List.mem_of_getElem? h)))))) g
set_option maxRecDepth 100000 in
theorem q_t5 (i : Nat) {w : Cond} (h : tables_1_5[i]? = some w) (g : goodWord w = true) : w ∈ q_W := q_W_in (List.mem_append_right (k2_sels lw_privs) (show w ∈ tables_1 from List.mem_append_right _ (List.mem_append_right _ (List.mem_append_right _ (List.mem_append_right _ (List.mem_append_left _ (List.mem_of_getElem? h))))))) g
set_option maxRecDepth 100000 in
theorem q_t6 (i : Nat) {w : Cond} (h : tables_1_6[i]? = some w) (g : goodWord w = true) : w ∈ q_W := q_W_in (List.mem_append_right (k2_sels lw_privs) (show w ∈ tables_1 from List.mem_append_right _ (List.mem_append_right _ (List.mem_append_right _ (List.mem_append_right _ (List.mem_append_right _ (List.mem_append_left _ (List.mem_of_getElem? h)))))))) g
set_option maxRecDepth 100000 in
theorem q_t7 (i : Nat) {w : Cond} (h : tables_1_7[i]? = some w) (g : goodWord w = true) : w ∈ q_W := q_W_in (List.mem_append_right (k2_sels lw_privs) (show w ∈ tables_1 from List.mem_append_right _ (List.mem_append_right _ (List.mem_append_right _ (List.mem_append_right _ (List.mem_append_right _ (List.mem_append_right _ (List.mem_append_left _ (List.mem_of_getElem? h))))))))) g
set_option maxRecDepth 100000 in
theorem q_t8 (i : Nat) {w : Cond} (h : tables_1_8[i]? = some w) (g : goodWord w = true) : w ∈ q_W := q_W_in (List.mem_append_right (k2_sels lw_privs) (show w ∈ tables_1 from List.mem_append_right _ (List.mem_append_right _ (List.mem_append_right _ (List.mem_append_right _ (List.mem_append_right _ (List.mem_append_right _ (List.mem_append_right _ (List.mem_append_left _ (List.mem_of_getElem? h)))))))))) g
set_option maxRecDepth 100000 in
theorem q_t9 (i : Nat) {w : Cond} (h : tables_1_9[i]? = some w) (g : goodWord w = true) : w ∈ q_W := q_W_in (List.mem_append_right (k2_sels lw_privs) (show w ∈ tables_1 from List.mem_append_right _ (List.mem_append_right _ (List.mem_append_right _ (List.mem_append_right _ (List.mem_append_right _ (List.mem_append_right _ (List.mem_append_right _ (List.mem_append_right _ (List.mem_of_getElem? h)))))))))) g
set_option maxRecDepth 100000 in
theorem q_s (j : Nat) {q : MethodName × Nat} (h : lw_privs[j]? = some q) (g : goodWord (Cond.selects q.1.cls q.1 q.1) = true) : Cond.selects q.1.cls q.1 q.1 ∈ q_W := q_W_in (List.mem_append_left _ (List.mem_map.mpr ⟨q, List.mem_of_getElem? h, rfl⟩)) g
set_option maxRecDepth 100000 in
theorem q_init_QuillRelayLaw : Cond.initialized "QuillRelayLaw" ∈ q_W := q_t1 0 rfl rfl
set_option maxRecDepth 100000 in
theorem q_init_QuillRelay : Cond.initialized "QuillRelay" ∈ q_W := q_t1 1 rfl rfl
set_option maxRecDepth 100000 in
theorem q_init_QuillRelay_Race : Cond.initialized "QuillRelay$Race" ∈ q_W := q_t1 2 rfl rfl
set_option maxRecDepth 100000 in
theorem q_init_QuillRelay_Team : Cond.initialized "QuillRelay$Team" ∈ q_W := q_t1 3 rfl rfl
set_option maxRecDepth 100000 in
theorem q_init_java_lang_Enum : Cond.initialized "java/lang/Enum" ∈ q_W := q_t1 4 rfl rfl
set_option maxRecDepth 100000 in
theorem q_init_QuillRelay_History : Cond.initialized "QuillRelay$History" ∈ q_W := q_t1 6 rfl rfl
set_option maxRecDepth 100000 in
theorem q_init_QuillRelay_Program : Cond.initialized "QuillRelay$Program" ∈ q_W := q_t1 7 rfl rfl
set_option maxRecDepth 100000 in
theorem q_init_java_lang_AbstractStringBuilder : Cond.initialized "java/lang/AbstractStringBuilder" ∈ q_W := q_t1 8 rfl rfl
set_option maxRecDepth 100000 in
theorem q_init_java_lang_StringBuilder : Cond.initialized "java/lang/StringBuilder" ∈ q_W := q_t1 9 rfl rfl
set_option maxRecDepth 100000 in
theorem q_init_java_lang_String : Cond.initialized "java/lang/String" ∈ q_W := q_t1 10 rfl rfl
set_option maxRecDepth 100000 in
theorem q_init_java_lang_StringUTF16 : Cond.initialized "java/lang/StringUTF16" ∈ q_W := q_t1 11 rfl rfl
set_option maxRecDepth 100000 in
theorem q_init_QuillRelayModel : Cond.initialized "QuillRelayModel" ∈ q_W := q_t1 13 rfl rfl
set_option maxRecDepth 100000 in
theorem q_init_java_lang_Throwable : Cond.initialized "java/lang/Throwable" ∈ q_W := q_t1 15 rfl rfl
set_option maxRecDepth 100000 in
theorem q_init_java_lang_Exception : Cond.initialized "java/lang/Exception" ∈ q_W := q_t1 16 rfl rfl
set_option maxRecDepth 100000 in
theorem q_init_java_lang_RuntimeException : Cond.initialized "java/lang/RuntimeException" ∈ q_W := q_t1 17 rfl rfl
set_option maxRecDepth 100000 in
theorem q_init_java_lang_IndexOutOfBoundsException : Cond.initialized "java/lang/IndexOutOfBoundsException" ∈ q_W := q_t1 18 rfl rfl
set_option maxRecDepth 100000 in
theorem q_init_java_lang_IllegalArgumentException : Cond.initialized "java/lang/IllegalArgumentException" ∈ q_W := q_t1 19 rfl rfl
set_option maxRecDepth 100000 in
theorem q_init_java_lang_IllegalStateException : Cond.initialized "java/lang/IllegalStateException" ∈ q_W := q_t1 20 rfl rfl
set_option maxRecDepth 100000 in
theorem q_init_java_lang_UnsupportedOperationException : Cond.initialized "java/lang/UnsupportedOperationException" ∈ q_W := q_t1 21 rfl rfl
set_option maxRecDepth 100000 in
theorem q_init_java_lang_Math : Cond.initialized "java/lang/Math" ∈ q_W := q_t1 22 rfl rfl
set_option maxRecDepth 100000 in
theorem q_init_java_lang_ArrayIndexOutOfBoundsException : Cond.initialized "java/lang/ArrayIndexOutOfBoundsException" ∈ q_W := q_t1 23 rfl rfl
set_option maxRecDepth 100000 in
theorem q_init_java_lang_ArithmeticException : Cond.initialized "java/lang/ArithmeticException" ∈ q_W := q_t1 25 rfl rfl
set_option maxRecDepth 100000 in
theorem q_init_java_lang_StringIndexOutOfBoundsException : Cond.initialized "java/lang/StringIndexOutOfBoundsException" ∈ q_W := q_t1 26 rfl rfl
set_option maxRecDepth 100000 in
theorem q_init_java_lang_System : Cond.initialized "java/lang/System" ∈ q_W := q_t1 29 rfl rfl
set_option maxRecDepth 100000 in
theorem q_init_java_lang_StringLatin1 : Cond.initialized "java/lang/StringLatin1" ∈ q_W := q_t1 31 rfl rfl
set_option maxRecDepth 100000 in
theorem q_init_java_lang_Number : Cond.initialized "java/lang/Number" ∈ q_W := q_t1 32 rfl rfl
set_option maxRecDepth 100000 in
theorem q_init_java_lang_Integer : Cond.initialized "java/lang/Integer" ∈ q_W := q_t1 33 rfl rfl
def F_X2 : Nat → Option (Nat × Nat)
  | 11 => some (4, 0)
  | 18 => some (4, 1)
  | 26 => some (4, 2)
  | _ => none
def G_X2 : Nat → Option Int32
  | _ => none
def F_X3 : Nat → Option (Nat × Nat)
  | 12 => some (5, 0)
  | 18 => some (5, 1)
  | 28 => some (5, 5)
  | 34 => some (5, 4)
  | 46 => some (5, 3)
  | 71 => some (5, 2)
  | _ => none
def G_X3 : Nat → Option Int32
  | 22 => some 20
  | _ => none
def F_X4 : Nat → Option (Nat × Nat)
  | 11 => some (6, 0)
  | 20 => some (6, 3)
  | 28 => some (6, 1)
  | 32 => some (6, 2)
  | 35 => some (7, 3)
  | 54 => some (7, 11)
  | 57 => some (7, 4)
  | 60 => some (7, 0)
  | 123 => some (7, 5)
  | 130 => some (7, 12)
  | 136 => some (7, 6)
  | 139 => some (7, 7)
  | 145 => some (7, 13)
  | 148 => some (7, 8)
  | 157 => some (7, 9)
  | _ => none
def G_X4 : Nat → Option Int32
  | 39 => some 0
  | 48 => some 2
  | 51 => some 3
  | 75 => some 13
  | 81 => some 10
  | 92 => some 11
  | 95 => some 12
  | 109 => some 1
  | _ => none
def F_X6 : Nat → Option (Nat × Nat)
  | 9 => some (7, 0)
  | 15 => some (7, 1)
  | 19 => some (7, 2)
  | 28 => some (7, 3)
  | 31 => some (7, 4)
  | 38 => some (7, 5)
  | 41 => some (7, 6)
  | 44 => some (7, 7)
  | 47 => some (7, 8)
  | 50 => some (7, 9)
  | 53 => some (7, 10)
  | 56 => some (7, 11)
  | 59 => some (7, 12)
  | 63 => some (7, 13)
  | _ => none
def G_X6 : Nat → Option Int32
  | 22 => some 0
  | 82 => some 3
  | _ => none
def F_X8 : Nat → Option (Nat × Nat)
  | 10 => some (8, 0)
  | 16 => some (8, 1)
  | 19 => some (8, 2)
  | 25 => some (8, 3)
  | 32 => some (8, 4)
  | 39 => some (8, 5)
  | 43 => some (8, 6)
  | 47 => some (8, 7)
  | 51 => some (8, 8)
  | 54 => some (8, 9)
  | 57 => some (8, 10)
  | 94 => some (6, 3)
  | 104 => some (7, 4)
  | 147 => some (7, 3)
  | 160 => some (6, 1)
  | 163 => some (6, 2)
  | 183 => some (7, 5)
  | 186 => some (7, 6)
  | 196 => some (7, 8)
  | 199 => some (7, 9)
  | 218 => some (7, 2)
  | 229 => some (7, 11)
  | 304 => some (5, 0)
  | 319 => some (5, 4)
  | 326 => some (4, 2)
  | 392 => some (5, 1)
  | 395 => some (5, 5)
  | _ => none
def G_X8 : Nat → Option Int32
  | 141 => some 4
  | 189 => some 2
  | 339 => some 11
  | 347 => some 12
  | 352 => some 13
  | 357 => some 14
  | 372 => some 3
  | 382 => some 10
  | _ => none
def F_X9 : Nat → Option (Nat × Nat)
  | 9 => some (9, 0)
  | 13 => some (9, 1)
  | 16 => some (9, 2)
  | 19 => some (9, 3)
  | 22 => some (9, 6)
  | 26 => some (9, 7)
  | 29 => some (9, 12)
  | 32 => some (9, 14)
  | 35 => some (9, 15)
  | 38 => some (9, 5)
  | 45 => some (9, 4)
  | 121 => some (9, 8)
  | 124 => some (9, 9)
  | 167 => some (9, 13)
  | 184 => some (9, 16)
  | 187 => some (9, 17)
  | 237 => some (9, 18)
  | 255 => some (9, 10)
  | 258 => some (9, 11)
  | _ => none
def G_X9 : Nat → Option Int32
  | _ => none
set_option maxRecDepth 100000 in
theorem q_u_X2 : ∀ w ∈ u_ws RX2 TX2 3, w ∈ q_W := fun w h => q_W_in ((by decide +kernel : ∀ w ∈ u_ws RX2 TX2 3, w ∈ lw_tbl) w h) ((by decide +kernel : ∀ w ∈ u_ws RX2 TX2 3, goodWord w = true) w h)
set_option maxRecDepth 100000 in
theorem q_u_X3 : ∀ w ∈ u_ws RX3 TX3 6, w ∈ q_W := fun w h => q_W_in ((by decide +kernel : ∀ w ∈ u_ws RX3 TX3 6, w ∈ lw_tbl) w h) ((by decide +kernel : ∀ w ∈ u_ws RX3 TX3 6, goodWord w = true) w h)
set_option maxRecDepth 100000 in
theorem q_u_X4 : ∀ w ∈ u_ws RX4 TX4 4, w ∈ q_W := fun w h => q_W_in ((by decide +kernel : ∀ w ∈ u_ws RX4 TX4 4, w ∈ lw_tbl) w h) ((by decide +kernel : ∀ w ∈ u_ws RX4 TX4 4, goodWord w = true) w h)
set_option maxRecDepth 100000 in
theorem q_u_X6 : ∀ w ∈ u_ws RX6 TX6 14, w ∈ q_W := fun w h => q_W_in ((by decide +kernel : ∀ w ∈ u_ws RX6 TX6 14, w ∈ lw_tbl) w h) ((by decide +kernel : ∀ w ∈ u_ws RX6 TX6 14, goodWord w = true) w h)
set_option maxRecDepth 100000 in
theorem q_u_X8 : ∀ w ∈ u_ws RX8 TX8 11, w ∈ q_W := fun w h => q_W_in ((by decide +kernel : ∀ w ∈ u_ws RX8 TX8 11, w ∈ lw_tbl) w h) ((by decide +kernel : ∀ w ∈ u_ws RX8 TX8 11, goodWord w = true) w h)
set_option maxRecDepth 100000 in
theorem q_u_X9 : ∀ w ∈ u_ws RX9 TX9 19, w ∈ q_W := fun w h => q_W_in ((by decide +kernel : ∀ w ∈ u_ws RX9 TX9 19, w ∈ lw_tbl) w h) ((by decide +kernel : ∀ w ∈ u_ws RX9 TX9 19, goodWord w = true) w h)
set_option maxRecDepth 100000 in
theorem Fok_X2 : q_Fok RX2 F_X2 := by
  intro i a b h
  unfold F_X2 at h
  split at h
  · cases h; exact ⟨_, _, _, rfl, by decide, rfl, by decide, by decide, q_u_X2, q_t1 146 rfl rfl⟩
  · cases h; exact ⟨_, _, _, rfl, by decide, rfl, by decide, by decide, q_u_X2, q_t1 147 rfl rfl⟩
  · cases h; exact ⟨_, _, _, rfl, by decide, rfl, by decide, by decide, q_u_X2, q_t1 148 rfl rfl⟩
  · cases h
set_option maxRecDepth 100000 in
theorem Gok_X2 : q_Gok RX2 G_X2 := by
  intro i x h
  unfold G_X2 at h
  split at h
  · cases h
set_option maxRecDepth 100000 in
theorem Fok_X3 : q_Fok RX3 F_X3 := by
  intro i a b h
  unfold F_X3 at h
  split at h
  · cases h; exact ⟨_, _, _, rfl, by decide, rfl, by decide, by decide, q_u_X3, q_t1 198 rfl rfl⟩
  · cases h; exact ⟨_, _, _, rfl, by decide, rfl, by decide, by decide, q_u_X3, q_t1 200 rfl rfl⟩
  · cases h; exact ⟨_, _, _, rfl, by decide, rfl, by decide, by decide, q_u_X3, q_t1 206 rfl rfl⟩
  · cases h; exact ⟨_, _, _, rfl, by decide, rfl, by decide, by decide, q_u_X3, q_t1 204 rfl rfl⟩
  · cases h; exact ⟨_, _, _, rfl, by decide, rfl, by decide, by decide, q_u_X3, q_t1 203 rfl rfl⟩
  · cases h; exact ⟨_, _, _, rfl, by decide, rfl, by decide, by decide, q_u_X3, q_t1 202 rfl rfl⟩
  · cases h
set_option maxRecDepth 100000 in
theorem Gok_X3 : q_Gok RX3 G_X3 := by
  intro i x h
  unfold G_X3 at h
  split at h
  · cases h; exact ⟨20, rfl, by decide, q_t1 196 rfl rfl⟩
  · cases h
set_option maxRecDepth 100000 in
theorem Fok_X4 : q_Fok RX4 F_X4 := by
  intro i a b h
  unfold F_X4 at h
  split at h
  · cases h; exact ⟨_, _, _, rfl, by decide, rfl, by decide, by decide, q_u_X4, q_t1 121 rfl rfl⟩
  · cases h; exact ⟨_, _, _, rfl, by decide, rfl, by decide, by decide, q_u_X4, q_t1 126 rfl rfl⟩
  · cases h; exact ⟨_, _, _, rfl, by decide, rfl, by decide, by decide, q_u_X4, q_t1 122 rfl rfl⟩
  · cases h; exact ⟨_, _, _, rfl, by decide, rfl, by decide, by decide, q_u_X4, q_t1 124 rfl rfl⟩
  · cases h; exact ⟨_, _, _, rfl, by decide, rfl, by decide, by decide, q_u_X6, q_t1 64 rfl rfl⟩
  · cases h; exact ⟨_, _, _, rfl, by decide, rfl, by decide, by decide, q_u_X6, q_t1 85 rfl rfl⟩
  · cases h; exact ⟨_, _, _, rfl, by decide, rfl, by decide, by decide, q_u_X6, q_t1 68 rfl rfl⟩
  · cases h; exact ⟨_, _, _, rfl, by decide, rfl, by decide, by decide, q_u_X6, q_t1 59 rfl rfl⟩
  · cases h; exact ⟨_, _, _, rfl, by decide, rfl, by decide, by decide, q_u_X6, q_t1 71 rfl rfl⟩
  · cases h; exact ⟨_, _, _, rfl, by decide, rfl, by decide, by decide, q_u_X6, q_t1 88 rfl rfl⟩
  · cases h; exact ⟨_, _, _, rfl, by decide, rfl, by decide, by decide, q_u_X6, q_t1 74 rfl rfl⟩
  · cases h; exact ⟨_, _, _, rfl, by decide, rfl, by decide, by decide, q_u_X6, q_t1 76 rfl rfl⟩
  · cases h; exact ⟨_, _, _, rfl, by decide, rfl, by decide, by decide, q_u_X6, q_t1 90 rfl rfl⟩
  · cases h; exact ⟨_, _, _, rfl, by decide, rfl, by decide, by decide, q_u_X6, q_t1 79 rfl rfl⟩
  · cases h; exact ⟨_, _, _, rfl, by decide, rfl, by decide, by decide, q_u_X6, q_t1 82 rfl rfl⟩
  · cases h
set_option maxRecDepth 100000 in
theorem Gok_X4 : q_Gok RX4 G_X4 := by
  intro i x h
  unfold G_X4 at h
  split at h
  · cases h; exact ⟨0, rfl, by decide, q_t2 25 rfl rfl⟩
  · cases h; exact ⟨2, rfl, by decide, q_t2 38 rfl rfl⟩
  · cases h; exact ⟨3, rfl, by decide, q_t4 186 rfl rfl⟩
  · cases h; exact ⟨13, rfl, by decide, q_t2 87 rfl rfl⟩
  · cases h; exact ⟨10, rfl, by decide, q_t2 89 rfl rfl⟩
  · cases h; exact ⟨11, rfl, by decide, q_t3 35 rfl rfl⟩
  · cases h; exact ⟨12, rfl, by decide, q_t3 36 rfl rfl⟩
  · cases h; exact ⟨1, rfl, by decide, q_t2 233 rfl rfl⟩
  · cases h
set_option maxRecDepth 100000 in
theorem Fok_X6 : q_Fok RX6 F_X6 := by
  intro i a b h
  unfold F_X6 at h
  split at h
  · cases h; exact ⟨_, _, _, rfl, by decide, rfl, by decide, by decide, q_u_X6, q_t1 58 rfl rfl⟩
  · cases h; exact ⟨_, _, _, rfl, by decide, rfl, by decide, by decide, q_u_X6, q_t1 60 rfl rfl⟩
  · cases h; exact ⟨_, _, _, rfl, by decide, rfl, by decide, by decide, q_u_X6, q_t1 61 rfl rfl⟩
  · cases h; exact ⟨_, _, _, rfl, by decide, rfl, by decide, by decide, q_u_X6, q_t1 63 rfl rfl⟩
  · cases h; exact ⟨_, _, _, rfl, by decide, rfl, by decide, by decide, q_u_X6, q_t1 66 rfl rfl⟩
  · cases h; exact ⟨_, _, _, rfl, by decide, rfl, by decide, by decide, q_u_X6, q_t1 69 rfl rfl⟩
  · cases h; exact ⟨_, _, _, rfl, by decide, rfl, by decide, by decide, q_u_X6, q_t1 72 rfl rfl⟩
  · cases h; exact ⟨_, _, _, rfl, by decide, rfl, by decide, by decide, q_u_X6, q_t1 75 rfl rfl⟩
  · cases h; exact ⟨_, _, _, rfl, by decide, rfl, by decide, by decide, q_u_X6, q_t1 77 rfl rfl⟩
  · cases h; exact ⟨_, _, _, rfl, by decide, rfl, by decide, by decide, q_u_X6, q_t1 80 rfl rfl⟩
  · cases h; exact ⟨_, _, _, rfl, by decide, rfl, by decide, by decide, q_u_X6, q_t1 83 rfl rfl⟩
  · cases h; exact ⟨_, _, _, rfl, by decide, rfl, by decide, by decide, q_u_X6, q_t1 84 rfl rfl⟩
  · cases h; exact ⟨_, _, _, rfl, by decide, rfl, by decide, by decide, q_u_X6, q_t1 87 rfl rfl⟩
  · cases h; exact ⟨_, _, _, rfl, by decide, rfl, by decide, by decide, q_u_X6, q_t1 89 rfl rfl⟩
  · cases h
set_option maxRecDepth 100000 in
theorem Gok_X6 : q_Gok RX6 G_X6 := by
  intro i x h
  unfold G_X6 at h
  split at h
  · cases h; exact ⟨0, rfl, by decide, q_t1 56 rfl rfl⟩
  · cases h; exact ⟨3, rfl, by decide, q_t3 135 rfl rfl⟩
  · cases h
set_option maxRecDepth 100000 in
theorem Fok_X8 : q_Fok RX8 F_X8 := by
  intro i a b h
  unfold F_X8 at h
  split at h
  · cases h; exact ⟨_, _, _, rfl, by decide, rfl, by decide, by decide, q_u_X8, q_t1 223 rfl rfl⟩
  · cases h; exact ⟨_, _, _, rfl, by decide, rfl, by decide, by decide, q_u_X8, q_t1 224 rfl rfl⟩
  · cases h; exact ⟨_, _, _, rfl, by decide, rfl, by decide, by decide, q_u_X8, q_t1 225 rfl rfl⟩
  · cases h; exact ⟨_, _, _, rfl, by decide, rfl, by decide, by decide, q_u_X8, q_t1 226 rfl rfl⟩
  · cases h; exact ⟨_, _, _, rfl, by decide, rfl, by decide, by decide, q_u_X8, q_t1 227 rfl rfl⟩
  · cases h; exact ⟨_, _, _, rfl, by decide, rfl, by decide, by decide, q_u_X8, q_t1 228 rfl rfl⟩
  · cases h; exact ⟨_, _, _, rfl, by decide, rfl, by decide, by decide, q_u_X8, q_t1 229 rfl rfl⟩
  · cases h; exact ⟨_, _, _, rfl, by decide, rfl, by decide, by decide, q_u_X8, q_t1 230 rfl rfl⟩
  · cases h; exact ⟨_, _, _, rfl, by decide, rfl, by decide, by decide, q_u_X8, q_t1 231 rfl rfl⟩
  · cases h; exact ⟨_, _, _, rfl, by decide, rfl, by decide, by decide, q_u_X8, q_t1 232 rfl rfl⟩
  · cases h; exact ⟨_, _, _, rfl, by decide, rfl, by decide, by decide, q_u_X8, q_t1 233 rfl rfl⟩
  · cases h; exact ⟨_, _, _, rfl, by decide, rfl, by decide, by decide, q_u_X4, q_t1 127 rfl rfl⟩
  · cases h; exact ⟨_, _, _, rfl, by decide, rfl, by decide, by decide, q_u_X6, q_t1 67 rfl rfl⟩
  · cases h; exact ⟨_, _, _, rfl, by decide, rfl, by decide, by decide, q_u_X6, q_t1 65 rfl rfl⟩
  · cases h; exact ⟨_, _, _, rfl, by decide, rfl, by decide, by decide, q_u_X4, q_t1 123 rfl rfl⟩
  · cases h; exact ⟨_, _, _, rfl, by decide, rfl, by decide, by decide, q_u_X4, q_t1 125 rfl rfl⟩
  · cases h; exact ⟨_, _, _, rfl, by decide, rfl, by decide, by decide, q_u_X6, q_t1 70 rfl rfl⟩
  · cases h; exact ⟨_, _, _, rfl, by decide, rfl, by decide, by decide, q_u_X6, q_t1 73 rfl rfl⟩
  · cases h; exact ⟨_, _, _, rfl, by decide, rfl, by decide, by decide, q_u_X6, q_t1 78 rfl rfl⟩
  · cases h; exact ⟨_, _, _, rfl, by decide, rfl, by decide, by decide, q_u_X6, q_t1 81 rfl rfl⟩
  · cases h; exact ⟨_, _, _, rfl, by decide, rfl, by decide, by decide, q_u_X6, q_t1 62 rfl rfl⟩
  · cases h; exact ⟨_, _, _, rfl, by decide, rfl, by decide, by decide, q_u_X6, q_t1 86 rfl rfl⟩
  · cases h; exact ⟨_, _, _, rfl, by decide, rfl, by decide, by decide, q_u_X3, q_t1 199 rfl rfl⟩
  · cases h; exact ⟨_, _, _, rfl, by decide, rfl, by decide, by decide, q_u_X3, q_t1 205 rfl rfl⟩
  · cases h; exact ⟨_, _, _, rfl, by decide, rfl, by decide, by decide, q_u_X2, q_t1 149 rfl rfl⟩
  · cases h; exact ⟨_, _, _, rfl, by decide, rfl, by decide, by decide, q_u_X3, q_t1 201 rfl rfl⟩
  · cases h; exact ⟨_, _, _, rfl, by decide, rfl, by decide, by decide, q_u_X3, q_t1 207 rfl rfl⟩
  · cases h
set_option maxRecDepth 100000 in
theorem Gok_X8 : q_Gok RX8 G_X8 := by
  intro i x h
  unfold G_X8 at h
  split at h
  · cases h; exact ⟨4, rfl, by decide, q_t3 196 rfl rfl⟩
  · cases h; exact ⟨2, rfl, by decide, q_t3 153 rfl rfl⟩
  · cases h; exact ⟨11, rfl, by decide, q_t2 94 rfl rfl⟩
  · cases h; exact ⟨12, rfl, by decide, q_t2 168 rfl rfl⟩
  · cases h; exact ⟨13, rfl, by decide, q_t2 186 rfl rfl⟩
  · cases h; exact ⟨14, rfl, by decide, q_t2 203 rfl rfl⟩
  · cases h; exact ⟨3, rfl, by decide, q_t4 119 rfl rfl⟩
  · cases h; exact ⟨10, rfl, by decide, q_t3 158 rfl rfl⟩
  · cases h
set_option maxRecDepth 100000 in
theorem Fok_X9 : q_Fok RX9 F_X9 := by
  intro i a b h
  unfold F_X9 at h
  split at h
  · cases h; exact ⟨_, _, _, rfl, by decide, rfl, by decide, by decide, q_u_X9, q_t6 211 rfl rfl⟩
  · cases h; exact ⟨_, _, _, rfl, by decide, rfl, by decide, by decide, q_u_X9, q_t6 212 rfl rfl⟩
  · cases h; exact ⟨_, _, _, rfl, by decide, rfl, by decide, by decide, q_u_X9, q_t6 213 rfl rfl⟩
  · cases h; exact ⟨_, _, _, rfl, by decide, rfl, by decide, by decide, q_u_X9, q_t6 214 rfl rfl⟩
  · cases h; exact ⟨_, _, _, rfl, by decide, rfl, by decide, by decide, q_u_X9, q_t6 217 rfl rfl⟩
  · cases h; exact ⟨_, _, _, rfl, by decide, rfl, by decide, by decide, q_u_X9, q_t6 218 rfl rfl⟩
  · cases h; exact ⟨_, _, _, rfl, by decide, rfl, by decide, by decide, q_u_X9, q_t6 223 rfl rfl⟩
  · cases h; exact ⟨_, _, _, rfl, by decide, rfl, by decide, by decide, q_u_X9, q_t6 225 rfl rfl⟩
  · cases h; exact ⟨_, _, _, rfl, by decide, rfl, by decide, by decide, q_u_X9, q_t6 226 rfl rfl⟩
  · cases h; exact ⟨_, _, _, rfl, by decide, rfl, by decide, by decide, q_u_X9, q_t6 216 rfl rfl⟩
  · cases h; exact ⟨_, _, _, rfl, by decide, rfl, by decide, by decide, q_u_X9, q_t6 215 rfl rfl⟩
  · cases h; exact ⟨_, _, _, rfl, by decide, rfl, by decide, by decide, q_u_X9, q_t6 219 rfl rfl⟩
  · cases h; exact ⟨_, _, _, rfl, by decide, rfl, by decide, by decide, q_u_X9, q_t6 220 rfl rfl⟩
  · cases h; exact ⟨_, _, _, rfl, by decide, rfl, by decide, by decide, q_u_X9, q_t6 224 rfl rfl⟩
  · cases h; exact ⟨_, _, _, rfl, by decide, rfl, by decide, by decide, q_u_X9, q_t6 227 rfl rfl⟩
  · cases h; exact ⟨_, _, _, rfl, by decide, rfl, by decide, by decide, q_u_X9, q_t6 228 rfl rfl⟩
  · cases h; exact ⟨_, _, _, rfl, by decide, rfl, by decide, by decide, q_u_X9, q_t6 229 rfl rfl⟩
  · cases h; exact ⟨_, _, _, rfl, by decide, rfl, by decide, by decide, q_u_X9, q_t6 221 rfl rfl⟩
  · cases h; exact ⟨_, _, _, rfl, by decide, rfl, by decide, by decide, q_u_X9, q_t6 222 rfl rfl⟩
  · cases h
set_option maxRecDepth 100000 in
theorem Gok_X9 : q_Gok RX9 G_X9 := by
  intro i x h
  unfold G_X9 at h
  split at h
  · cases h
set_option maxRecDepth 100000 in
theorem mw_X2_init : q_mw yX2_init cX2_init 2 (Option.none : Option Jvm.ClassFile.FieldType) 0 := ⟨q_t1 141 rfl rfl, by decide +kernel, by decide +kernel, q_init_QuillRelay_History⟩
set_option maxRecDepth 100000 in
theorem mi_X2_init : Cond.instanceMethod yX2_init ∈ q_W := q_t1 140 rfl rfl
def tb_X2_init : List q_E := [(0, .aload_n 0, 1, 0, 0), (1, .invokespecial 3, 3, 0, 0), (4, .aload_n 0, 1, 0, 0), (5, .bipush 8, 2, 8, 0), (7, .anewarray 9, 3, 0, 0), (10, .putfield 11, 3, 0, 0), (13, .iconst 0, 1, 0, 0), (14, .istore_n 1, 1, 0, 0), (15, .iload_n 1, 1, 0, 0), (16, .aload_n 0, 1, 0, 0), (17, .getfield 11, 3, 0, 0), (20, .arraylength, 1, 0, 31), (21, .if_icmp .ge 22, 3, 0, 43), (24, .aload_n 0, 1, 0, 0), (25, .getfield 11, 3, 0, 0), (28, .iload_n 1, 1, 0, 0), (29, .new 9, 3, 0, 0), (32, .dup, 1, 0, 0), (33, .invokespecial 17, 3, 0, 0), (36, .aastore, 1, 0, 0), (37, .iinc 1 1, 3, 1, 0), (40, .goto (-25), 3, 0, 15), (43, .return_, 1, 0, 0)]
set_option maxRecDepth 100000 in
theorem tk_X2_init : q_tb cX2_init 2 tb_X2_init = true := by decide +kernel
set_option maxRecDepth 100000 in
theorem mw_X2_push : q_mw yX2_push cX2_push 2 (Option.none : Option Jvm.ClassFile.FieldType) 1 := ⟨q_t2 224 rfl rfl, by decide +kernel, by decide +kernel, q_init_QuillRelay_History⟩
set_option maxRecDepth 100000 in
theorem mi_X2_push : Cond.instanceMethod yX2_push ∈ q_W := q_t2 222 rfl rfl
set_option maxRecDepth 100000 in
theorem me_X2_push : Cond.selects yX2_push.cls yX2_push yX2_push ∈ q_W := q_t2 223 rfl rfl
def tb_X2_push : List q_E := [(0, .aload_n 0, 1, 0, 0), (1, .dup, 1, 0, 0), (2, .getfield 18, 3, 0, 0), (5, .iconst 1, 1, 1, 0), (6, .iadd, 1, 0, 0), (7, .putfield 18, 3, 0, 0), (10, .aload_n 0, 1, 0, 0), (11, .getfield 18, 3, 0, 0), (14, .ifCond .lt 15, 3, 0, 29), (17, .aload_n 0, 1, 0, 0), (18, .getfield 18, 3, 0, 0), (21, .aload_n 0, 1, 0, 0), (22, .getfield 11, 3, 0, 0), (25, .arraylength, 1, 0, 31), (26, .if_icmp .lt 8, 3, 0, 34), (29, .aload_n 0, 1, 0, 0), (30, .iconst 0, 1, 0, 0), (31, .putfield 18, 3, 0, 0), (34, .aload_n 0, 1, 0, 0), (35, .getfield 11, 3, 0, 0), (38, .aload_n 0, 1, 0, 0), (39, .getfield 18, 3, 0, 0), (42, .aaload, 1, 0, 31), (43, .aload_n 1, 1, 0, 0), (44, .invokevirtual 22, 3, 0, 0), (47, .aload_n 0, 1, 0, 0), (48, .aload_n 0, 1, 0, 0), (49, .getfield 26, 3, 0, 0), (52, .iconst 1, 1, 1, 0), (53, .iadd, 1, 0, 0), (54, .aload_n 0, 1, 0, 0), (55, .getfield 11, 3, 0, 0), (58, .arraylength, 1, 0, 31), (59, .invokestatic 29, 3, 0, 0), (62, .putfield 26, 3, 0, 0), (65, .return_, 1, 0, 0)]
set_option maxRecDepth 100000 in
theorem tk_X2_push : q_tb cX2_push 2 tb_X2_push = true := by decide +kernel
set_option maxRecDepth 100000 in
theorem mw_X2_popInto : q_mw yX2_popInto cX2_popInto 2 (Option.none : Option Jvm.ClassFile.FieldType) 1 := ⟨q_t6 196 rfl rfl, by decide +kernel, by decide +kernel, q_init_QuillRelay_History⟩
set_option maxRecDepth 100000 in
theorem mi_X2_popInto : Cond.instanceMethod yX2_popInto ∈ q_W := q_t6 194 rfl rfl
set_option maxRecDepth 100000 in
theorem me_X2_popInto : Cond.selects yX2_popInto.cls yX2_popInto yX2_popInto ∈ q_W := q_t6 195 rfl rfl
def tb_X2_popInto : List q_E := [(0, .aload_n 0, 1, 0, 0), (1, .getfield 26, 3, 0, 0), (4, .ifCond .le 72, 3, 0, 76), (7, .aload_n 0, 1, 0, 0), (8, .getfield 18, 3, 0, 0), (11, .ifCond .lt 65, 3, 0, 76), (14, .aload_n 0, 1, 0, 0), (15, .getfield 18, 3, 0, 0), (18, .aload_n 0, 1, 0, 0), (19, .getfield 11, 3, 0, 0), (22, .arraylength, 1, 0, 31), (23, .if_icmp .ge 53, 3, 0, 76), (26, .aload_n 1, 1, 0, 0), (27, .aload_n 0, 1, 0, 0), (28, .getfield 11, 3, 0, 0), (31, .aload_n 0, 1, 0, 0), (32, .getfield 18, 3, 0, 0), (35, .aaload, 1, 0, 31), (36, .invokevirtual 22, 3, 0, 0), (39, .aload_n 0, 1, 0, 0), (40, .aload_n 0, 1, 0, 0), (41, .getfield 18, 3, 0, 0), (44, .ifCond .le 12, 3, 0, 56), (47, .aload_n 0, 1, 0, 0), (48, .getfield 18, 3, 0, 0), (51, .iconst 1, 1, 1, 0), (52, .isub, 1, 0, 0), (53, .goto 10, 3, 0, 63), (56, .aload_n 0, 1, 0, 0), (57, .getfield 11, 3, 0, 0), (60, .arraylength, 1, 0, 31), (61, .iconst 1, 1, 1, 0), (62, .isub, 1, 0, 0), (63, .putfield 18, 3, 0, 0), (66, .aload_n 0, 1, 0, 0), (67, .dup, 1, 0, 0), (68, .getfield 26, 3, 0, 0), (71, .iconst 1, 1, 1, 0), (72, .isub, 1, 0, 0), (73, .putfield 26, 3, 0, 0), (76, .return_, 1, 0, 0)]
set_option maxRecDepth 100000 in
theorem tk_X2_popInto : q_tb cX2_popInto 2 tb_X2_popInto = true := by decide +kernel
set_option maxRecDepth 100000 in
theorem mw_X3_init : q_mw yX3_init cX3_init 1 (Option.none : Option Jvm.ClassFile.FieldType) 0 := ⟨q_t1 161 rfl rfl, by decide +kernel, by decide +kernel, q_init_QuillRelay_Program⟩
set_option maxRecDepth 100000 in
theorem mi_X3_init : Cond.instanceMethod yX3_init ∈ q_W := q_t1 160 rfl rfl
def tb_X3_init : List q_E := [(0, .aload_n 0, 1, 0, 0), (1, .invokespecial 3, 3, 0, 0), (4, .aload_n 0, 1, 0, 0), (5, .new 9, 3, 0, 0), (8, .dup, 1, 0, 0), (9, .invokespecial 11, 3, 0, 0), (12, .putfield 12, 3, 0, 0), (15, .aload_n 0, 1, 0, 0), (16, .iconst 3, 1, 3, 0), (17, .newarray .int, 2, 0, 0), (19, .putfield 18, 3, 0, 0), (22, .aload_n 0, 1, 0, 0), (23, .getstatic 22, 3, 0, 0), (26, .putfield 28, 3, 0, 0), (29, .return_, 1, 0, 0)]
set_option maxRecDepth 100000 in
theorem tk_X3_init : q_tb cX3_init 1 tb_X3_init = true := by decide +kernel
set_option maxRecDepth 100000 in
theorem mw_X3_findError : q_mw yX3_findError cX3_findError 1 (Option.some Jvm.ClassFile.FieldType.int) 0 := ⟨q_t6 88 rfl rfl, by decide +kernel, by decide +kernel, q_init_QuillRelay_Program⟩
set_option maxRecDepth 100000 in
theorem mi_X3_findError : Cond.instanceMethod yX3_findError ∈ q_W := q_t6 86 rfl rfl
set_option maxRecDepth 100000 in
theorem me_X3_findError : Cond.selects yX3_findError.cls yX3_findError yX3_findError ∈ q_W := q_t6 87 rfl rfl
def tb_X3_findError : List q_E := [(0, .aload_n 0, 1, 0, 0), (1, .invokevirtual 31, 3, 0, 0), (4, .aload_n 0, 1, 0, 0), (5, .iconst 0, 1, 0, 0), (6, .putfield 34, 3, 0, 0), (9, .aload_n 0, 1, 0, 0), (10, .getfield 34, 3, 0, 0), (13, .aload_n 0, 1, 0, 0), (14, .getfield 12, 3, 0, 0), (17, .invokevirtual 38, 3, 0, 0), (20, .if_icmp .gt 41, 3, 0, 61), (23, .aload_n 0, 1, 0, 0), (24, .invokevirtual 42, 3, 0, 0), (27, .ifCond .ne 8, 3, 0, 35), (30, .aload_n 0, 1, 0, 0), (31, .getfield 46, 3, 0, 0), (34, .ireturn, 1, 0, 0), (35, .aload_n 0, 1, 0, 0), (36, .dup, 1, 0, 0), (37, .getfield 34, 3, 0, 0), (40, .iconst 1, 1, 1, 0), (41, .iadd, 1, 0, 0), (42, .putfield 34, 3, 0, 0), (45, .aload_n 0, 1, 0, 0), (46, .getfield 46, 3, 0, 0), (49, .aload_n 0, 1, 0, 0), (50, .getfield 12, 3, 0, 0), (53, .invokevirtual 38, 3, 0, 0), (56, .if_icmp .lt (-47), 3, 0, 9), (59, .iconst (-1), 1, (-1), 0), (60, .ireturn, 1, 0, 0), (61, .aload_n 0, 1, 0, 0), (62, .getfield 46, 3, 0, 0), (65, .ireturn, 1, 0, 0)]
set_option maxRecDepth 100000 in
theorem tk_X3_findError : q_tb cX3_findError 1 tb_X3_findError = true := by decide +kernel
set_option maxRecDepth 100000 in
theorem mw_X3_rewind : q_mw yX3_rewind cX3_rewind 1 (Option.none : Option Jvm.ClassFile.FieldType) 0 := ⟨q_t6 92 rfl rfl, by decide +kernel, by decide +kernel, q_init_QuillRelay_Program⟩
set_option maxRecDepth 100000 in
theorem mi_X3_rewind : Cond.instanceMethod yX3_rewind ∈ q_W := q_t6 90 rfl rfl
set_option maxRecDepth 100000 in
theorem me_X3_rewind : Cond.selects yX3_rewind.cls yX3_rewind yX3_rewind ∈ q_W := q_t6 91 rfl rfl
def tb_X3_rewind : List q_E := [(0, .aload_n 0, 1, 0, 0), (1, .iconst 0, 1, 0, 0), (2, .putfield 46, 3, 0, 0), (5, .return_, 1, 0, 0)]
set_option maxRecDepth 100000 in
theorem tk_X3_rewind : q_tb cX3_rewind 1 tb_X3_rewind = true := by decide +kernel
set_option maxRecDepth 100000 in
theorem mw_X3_readNext : q_mw yX3_readNext cX3_readNext 7 (Option.some Jvm.ClassFile.FieldType.boolean) 0 := ⟨q_t6 97 rfl rfl, by decide +kernel, by decide +kernel, q_init_QuillRelay_Program⟩
set_option maxRecDepth 100000 in
theorem mi_X3_readNext : Cond.instanceMethod yX3_readNext ∈ q_W := q_t6 95 rfl rfl
set_option maxRecDepth 100000 in
theorem me_X3_readNext : Cond.selects yX3_readNext.cls yX3_readNext yX3_readNext ∈ q_W := q_t6 96 rfl rfl
def tb_X3_readNext : List q_E := [(0, .aload_n 0, 1, 0, 0), (1, .getfield 46, 3, 0, 0), (4, .ifCond .le 14, 3, 0, 18), (7, .aload_n 0, 1, 0, 0), (8, .bipush 59, 2, 59, 0), (10, .invokevirtual 49, 3, 0, 0), (13, .ifCond .ne 5, 3, 0, 18), (16, .iconst 0, 1, 0, 0), (17, .ireturn, 1, 0, 0), (18, .aload_n 0, 1, 0, 0), (19, .getfield 46, 3, 0, 0), (22, .istore_n 1, 1, 0, 0), (23, .iload_n 1, 1, 0, 0), (24, .istore_n 2, 1, 0, 0), (25, .getstatic 53, 3, 0, 0), (28, .astore_n 3, 1, 0, 0), (29, .aload_n 3, 1, 0, 0), (30, .arraylength, 1, 0, 20), (31, .istore 4, 2, 0, 0), (33, .iconst 0, 1, 0, 0), (34, .istore 5, 2, 0, 0), (36, .iload 5, 2, 0, 0), (38, .iload 4, 2, 0, 0), (40, .if_icmp .ge 45, 3, 0, 85), (43, .aload_n 3, 1, 0, 0), (44, .iload 5, 2, 0, 0), (46, .aaload, 1, 0, 20), (47, .astore 6, 2, 0, 0), (49, .aload_n 0, 1, 0, 0), (50, .aload 6, 2, 0, 0), (52, .getfield 57, 3, 0, 0), (55, .iload_n 1, 1, 0, 0), (56, .invokevirtual 61, 3, 0, 0), (59, .ifCond .eq 11, 3, 0, 70), (62, .aload_n 0, 1, 0, 0), (63, .aload 6, 2, 0, 0), (65, .putfield 28, 3, 0, 0), (68, .iconst 1, 1, 1, 0), (69, .ireturn, 1, 0, 0), (70, .iload_n 2, 1, 0, 0), (71, .aload_n 0, 1, 0, 0), (72, .getfield 46, 3, 0, 0), (75, .invokestatic 65, 3, 0, 0), (78, .istore_n 2, 1, 0, 0), (79, .iinc 5 1, 3, 1, 0), (82, .goto (-46), 3, 0, 36), (85, .aload_n 0, 1, 0, 0), (86, .iload_n 2, 1, 0, 0), (87, .putfield 46, 3, 0, 0), (90, .iconst 0, 1, 0, 0), (91, .ireturn, 1, 0, 0)]
set_option maxRecDepth 100000 in
theorem tk_X3_readNext : q_tb cX3_readNext 7 tb_X3_readNext = true := by decide +kernel
set_option maxRecDepth 100000 in
theorem mw_X3_readPattern : q_mw yX3_readPattern cX3_readPattern 4 (Option.some Jvm.ClassFile.FieldType.boolean) 2 := ⟨q_t6 108 rfl rfl, by decide +kernel, by decide +kernel, q_init_QuillRelay_Program⟩
set_option maxRecDepth 100000 in
theorem mi_X3_readPattern : Cond.instanceMethod yX3_readPattern ∈ q_W := q_t6 107 rfl rfl
set_option maxRecDepth 100000 in
theorem me_X3_readPattern : Cond.selects yX3_readPattern.cls yX3_readPattern yX3_readPattern ∈ q_W := q_s 12 rfl rfl
def tb_X3_readPattern : List q_E := [(0, .aload_n 0, 1, 0, 0), (1, .iload_n 2, 1, 0, 0), (2, .putfield 46, 3, 0, 0), (5, .aload_n 0, 1, 0, 0), (6, .iconst 0, 1, 0, 0), (7, .putfield 71, 3, 0, 0), (10, .iconst 0, 1, 0, 0), (11, .istore_n 3, 1, 0, 0), (12, .iload_n 3, 1, 0, 0), (13, .aload_n 1, 1, 0, 0), (14, .invokevirtual 74, 3, 0, 0), (17, .if_icmp .ge 23, 3, 0, 40), (20, .aload_n 0, 1, 0, 0), (21, .aload_n 1, 1, 0, 0), (22, .iload_n 3, 1, 0, 0), (23, .invokevirtual 77, 3, 0, 0), (26, .invokevirtual 81, 3, 0, 0), (29, .ifCond .ne 5, 3, 0, 34), (32, .iconst 0, 1, 0, 0), (33, .ireturn, 1, 0, 0), (34, .iinc 3 1, 3, 1, 0), (37, .goto (-25), 3, 0, 12), (40, .iconst 1, 1, 1, 0), (41, .ireturn, 1, 0, 0)]
set_option maxRecDepth 100000 in
theorem tk_X3_readPattern : q_tb cX3_readPattern 4 tb_X3_readPattern = true := by decide +kernel
set_option maxRecDepth 100000 in
theorem mw_X3_readSign : q_mw yX3_readSign cX3_readSign 2 (Option.some Jvm.ClassFile.FieldType.boolean) 1 := ⟨q_t6 128 rfl rfl, by decide +kernel, by decide +kernel, q_init_QuillRelay_Program⟩
set_option maxRecDepth 100000 in
theorem mi_X3_readSign : Cond.instanceMethod yX3_readSign ∈ q_W := q_t6 127 rfl rfl
set_option maxRecDepth 100000 in
theorem me_X3_readSign : Cond.selects yX3_readSign.cls yX3_readSign yX3_readSign ∈ q_W := q_s 13 rfl rfl
def tb_X3_readSign : List q_E := [(0, .iload_n 1, 1, 0, 0), (1, .bipush 68, 2, 68, 0), (3, .if_icmp .ne 9, 3, 0, 12), (6, .aload_n 0, 1, 0, 0), (7, .iconst 1, 1, 1, 0), (8, .invokevirtual 84, 3, 0, 0), (11, .ireturn, 1, 0, 0), (12, .iload_n 1, 1, 0, 0), (13, .bipush 78, 2, 78, 0), (15, .if_icmp .ne 9, 3, 0, 24), (18, .aload_n 0, 1, 0, 0), (19, .iconst 3, 1, 3, 0), (20, .invokevirtual 84, 3, 0, 0), (23, .ireturn, 1, 0, 0), (24, .iload_n 1, 1, 0, 0), (25, .bipush 75, 2, 75, 0), (27, .if_icmp .ne 8, 3, 0, 35), (30, .aload_n 0, 1, 0, 0), (31, .invokevirtual 88, 3, 0, 0), (34, .ireturn, 1, 0, 0), (35, .aload_n 0, 1, 0, 0), (36, .iload_n 1, 1, 0, 0), (37, .invokevirtual 49, 3, 0, 0), (40, .ireturn, 1, 0, 0)]
set_option maxRecDepth 100000 in
theorem tk_X3_readSign : q_tb cX3_readSign 2 tb_X3_readSign = true := by decide +kernel
set_option maxRecDepth 100000 in
theorem mw_X3_readCharacter : q_mw yX3_readCharacter cX3_readCharacter 2 (Option.some Jvm.ClassFile.FieldType.boolean) 1 := ⟨q_t6 101 rfl rfl, by decide +kernel, by decide +kernel, q_init_QuillRelay_Program⟩
set_option maxRecDepth 100000 in
theorem mi_X3_readCharacter : Cond.instanceMethod yX3_readCharacter ∈ q_W := q_t6 100 rfl rfl
set_option maxRecDepth 100000 in
theorem me_X3_readCharacter : Cond.selects yX3_readCharacter.cls yX3_readCharacter yX3_readCharacter ∈ q_W := q_s 11 rfl rfl
def tb_X3_readCharacter : List q_E := [(0, .aload_n 0, 1, 0, 0), (1, .getfield 46, 3, 0, 0), (4, .aload_n 0, 1, 0, 0), (5, .getfield 12, 3, 0, 0), (8, .invokevirtual 38, 3, 0, 0), (11, .if_icmp .ge 30, 3, 0, 41), (14, .aload_n 0, 1, 0, 0), (15, .getfield 12, 3, 0, 0), (18, .aload_n 0, 1, 0, 0), (19, .getfield 46, 3, 0, 0), (22, .invokevirtual 91, 3, 0, 0), (25, .iload_n 1, 1, 0, 0), (26, .if_icmp .ne 15, 3, 0, 41), (29, .aload_n 0, 1, 0, 0), (30, .dup, 1, 0, 0), (31, .getfield 46, 3, 0, 0), (34, .iconst 1, 1, 1, 0), (35, .iadd, 1, 0, 0), (36, .putfield 46, 3, 0, 0), (39, .iconst 1, 1, 1, 0), (40, .ireturn, 1, 0, 0), (41, .iconst 0, 1, 0, 0), (42, .ireturn, 1, 0, 0)]
set_option maxRecDepth 100000 in
theorem tk_X3_readCharacter : q_tb cX3_readCharacter 2 tb_X3_readCharacter = true := by decide +kernel
set_option maxRecDepth 100000 in
theorem mw_X3_readDigits : q_mw yX3_readDigits cX3_readDigits 4 (Option.some Jvm.ClassFile.FieldType.boolean) 1 := ⟨q_t6 132 rfl rfl, by decide +kernel, by decide +kernel, q_init_QuillRelay_Program⟩
set_option maxRecDepth 100000 in
theorem mi_X3_readDigits : Cond.instanceMethod yX3_readDigits ∈ q_W := q_t6 131 rfl rfl
set_option maxRecDepth 100000 in
theorem me_X3_readDigits : Cond.selects yX3_readDigits.cls yX3_readDigits yX3_readDigits ∈ q_W := q_s 14 rfl rfl
def tb_X3_readDigits : List q_E := [(0, .aload_n 0, 1, 0, 0), (1, .getfield 46, 3, 0, 0), (4, .istore_n 2, 1, 0, 0), (5, .iconst 0, 1, 0, 0), (6, .istore_n 3, 1, 0, 0), (7, .aload_n 0, 1, 0, 0), (8, .getfield 46, 3, 0, 0), (11, .iload_n 2, 1, 0, 0), (12, .isub, 1, 0, 0), (13, .iload_n 1, 1, 0, 0), (14, .if_icmp .ge 67, 3, 0, 81), (17, .aload_n 0, 1, 0, 0), (18, .getfield 46, 3, 0, 0), (21, .aload_n 0, 1, 0, 0), (22, .getfield 12, 3, 0, 0), (25, .invokevirtual 38, 3, 0, 0), (28, .if_icmp .ge 53, 3, 0, 81), (31, .aload_n 0, 1, 0, 0), (32, .getfield 12, 3, 0, 0), (35, .aload_n 0, 1, 0, 0), (36, .getfield 46, 3, 0, 0), (39, .invokevirtual 91, 3, 0, 0), (42, .invokestatic 92, 3, 0, 0), (45, .ifCond .eq 36, 3, 0, 81), (48, .bipush 10, 2, 10, 0), (50, .iload_n 3, 1, 0, 0), (51, .imul, 1, 0, 0), (52, .aload_n 0, 1, 0, 0), (53, .getfield 12, 3, 0, 0), (56, .aload_n 0, 1, 0, 0), (57, .getfield 46, 3, 0, 0), (60, .invokevirtual 91, 3, 0, 0), (63, .bipush 48, 2, 48, 0), (65, .isub, 1, 0, 0), (66, .iadd, 1, 0, 0), (67, .istore_n 3, 1, 0, 0), (68, .aload_n 0, 1, 0, 0), (69, .dup, 1, 0, 0), (70, .getfield 46, 3, 0, 0), (73, .iconst 1, 1, 1, 0), (74, .iadd, 1, 0, 0), (75, .putfield 46, 3, 0, 0), (78, .goto (-71), 3, 0, 7), (81, .aload_n 0, 1, 0, 0), (82, .iload_n 3, 1, 0, 0), (83, .invokevirtual 95, 3, 0, 0), (86, .aload_n 0, 1, 0, 0), (87, .getfield 46, 3, 0, 0), (90, .iload_n 2, 1, 0, 0), (91, .if_icmp .le 7, 3, 0, 98), (94, .iconst 1, 1, 1, 0), (95, .goto 4, 3, 0, 99), (98, .iconst 0, 1, 0, 0), (99, .ireturn, 1, 0, 0)]
set_option maxRecDepth 100000 in
theorem tk_X3_readDigits : q_tb cX3_readDigits 4 tb_X3_readDigits = true := by decide +kernel
set_option maxRecDepth 100000 in
theorem mw_X3_isDigit : q_mw yX3_isDigit cX3_isDigit 1 (Option.some Jvm.ClassFile.FieldType.boolean) 1 := ⟨q_t6 135 rfl rfl, by decide +kernel, by decide +kernel, q_init_QuillRelay_Program⟩
set_option maxRecDepth 100000 in
theorem ms_X3_isDigit : Cond.static yX3_isDigit ∈ q_W := q_t6 134 rfl rfl
def tb_X3_isDigit : List q_E := [(0, .iload_n 0, 1, 0, 0), (1, .bipush 48, 2, 48, 0), (3, .if_icmp .lt 13, 3, 0, 16), (6, .iload_n 0, 1, 0, 0), (7, .bipush 57, 2, 57, 0), (9, .if_icmp .gt 7, 3, 0, 16), (12, .iconst 1, 1, 1, 0), (13, .goto 4, 3, 0, 17), (16, .iconst 0, 1, 0, 0), (17, .ireturn, 1, 0, 0)]
set_option maxRecDepth 100000 in
theorem tk_X3_isDigit : q_tb cX3_isDigit 1 tb_X3_isDigit = true := by decide +kernel
set_option maxRecDepth 100000 in
theorem mw_X3_readKind : q_mw yX3_readKind cX3_readKind 1 (Option.some Jvm.ClassFile.FieldType.boolean) 0 := ⟨q_t6 143 rfl rfl, by decide +kernel, by decide +kernel, q_init_QuillRelay_Program⟩
set_option maxRecDepth 100000 in
theorem mi_X3_readKind : Cond.instanceMethod yX3_readKind ∈ q_W := q_t6 142 rfl rfl
set_option maxRecDepth 100000 in
theorem me_X3_readKind : Cond.selects yX3_readKind.cls yX3_readKind yX3_readKind ∈ q_W := q_s 16 rfl rfl
def tb_X3_readKind : List q_E := [(0, .aload_n 0, 1, 0, 0), (1, .bipush 108, 2, 108, 0), (3, .invokevirtual 49, 3, 0, 0), (6, .ifCond .eq 10, 3, 0, 16), (9, .aload_n 0, 1, 0, 0), (10, .iconst 0, 1, 0, 0), (11, .invokevirtual 95, 3, 0, 0), (14, .iconst 1, 1, 1, 0), (15, .ireturn, 1, 0, 0), (16, .aload_n 0, 1, 0, 0), (17, .iconst 1, 1, 1, 0), (18, .invokevirtual 95, 3, 0, 0), (21, .aload_n 0, 1, 0, 0), (22, .bipush 100, 2, 100, 0), (24, .invokevirtual 49, 3, 0, 0), (27, .ireturn, 1, 0, 0)]
set_option maxRecDepth 100000 in
theorem tk_X3_readKind : q_tb cX3_readKind 1 tb_X3_readKind = true := by decide +kernel
set_option maxRecDepth 100000 in
theorem mw_X3_addArgument : q_mw yX3_addArgument cX3_addArgument 2 (Option.none : Option Jvm.ClassFile.FieldType) 1 := ⟨q_t6 139 rfl rfl, by decide +kernel, by decide +kernel, q_init_QuillRelay_Program⟩
set_option maxRecDepth 100000 in
theorem mi_X3_addArgument : Cond.instanceMethod yX3_addArgument ∈ q_W := q_t6 138 rfl rfl
set_option maxRecDepth 100000 in
theorem me_X3_addArgument : Cond.selects yX3_addArgument.cls yX3_addArgument yX3_addArgument ∈ q_W := q_s 15 rfl rfl
def tb_X3_addArgument : List q_E := [(0, .aload_n 0, 1, 0, 0), (1, .getfield 71, 3, 0, 0), (4, .ifCond .lt 35, 3, 0, 39), (7, .aload_n 0, 1, 0, 0), (8, .getfield 71, 3, 0, 0), (11, .aload_n 0, 1, 0, 0), (12, .getfield 18, 3, 0, 0), (15, .arraylength, 1, 0, 20), (16, .if_icmp .ge 23, 3, 0, 39), (19, .aload_n 0, 1, 0, 0), (20, .getfield 18, 3, 0, 0), (23, .aload_n 0, 1, 0, 0), (24, .getfield 71, 3, 0, 0), (27, .iload_n 1, 1, 0, 0), (28, .iastore, 1, 0, 0), (29, .aload_n 0, 1, 0, 0), (30, .dup, 1, 0, 0), (31, .getfield 71, 3, 0, 0), (34, .iconst 1, 1, 1, 0), (35, .iadd, 1, 0, 0), (36, .putfield 71, 3, 0, 0), (39, .return_, 1, 0, 0)]
set_option maxRecDepth 100000 in
theorem tk_X3_addArgument : q_tb cX3_addArgument 2 tb_X3_addArgument = true := by decide +kernel
set_option maxRecDepth 100000 in
theorem mw_X4_init : q_mw yX4_init cX4_init 2 (Option.none : Option Jvm.ClassFile.FieldType) 0 := ⟨q_t1 47 rfl rfl, by decide +kernel, by decide +kernel, q_init_QuillRelay_Race⟩
set_option maxRecDepth 100000 in
theorem mi_X4_init : Cond.instanceMethod yX4_init ∈ q_W := q_t1 46 rfl rfl
def tb_X4_init : List q_E := [(0, .aload_n 0, 1, 0, 0), (1, .invokespecial 3, 3, 0, 0), (4, .aload_n 0, 1, 0, 0), (5, .bipush 6, 2, 6, 0), (7, .anewarray 9, 3, 0, 0), (10, .putfield 11, 3, 0, 0), (13, .iconst 0, 1, 0, 0), (14, .istore_n 1, 1, 0, 0), (15, .iload_n 1, 1, 0, 0), (16, .aload_n 0, 1, 0, 0), (17, .getfield 11, 3, 0, 0), (20, .arraylength, 1, 0, 30), (21, .if_icmp .ge 23, 3, 0, 44), (24, .aload_n 0, 1, 0, 0), (25, .getfield 11, 3, 0, 0), (28, .iload_n 1, 1, 0, 0), (29, .new 9, 3, 0, 0), (32, .dup, 1, 0, 0), (33, .iload_n 1, 1, 0, 0), (34, .invokespecial 17, 3, 0, 0), (37, .aastore, 1, 0, 0), (38, .iinc 1 1, 3, 1, 0), (41, .goto (-26), 3, 0, 15), (44, .aload_n 0, 1, 0, 0), (45, .sipush 1000, 3, 1000, 0), (48, .putfield 20, 3, 0, 0), (51, .return_, 1, 0, 0)]
set_option maxRecDepth 100000 in
theorem tk_X4_init : q_tb cX4_init 2 tb_X4_init = true := by decide +kernel
set_option maxRecDepth 100000 in
theorem mw_X4_copyFrom : q_mw yX4_copyFrom cX4_copyFrom 3 (Option.none : Option Jvm.ClassFile.FieldType) 1 := ⟨q_t2 63 rfl rfl, by decide +kernel, by decide +kernel, q_init_QuillRelay_Race⟩
set_option maxRecDepth 100000 in
theorem mi_X4_copyFrom : Cond.instanceMethod yX4_copyFrom ∈ q_W := q_t2 61 rfl rfl
set_option maxRecDepth 100000 in
theorem me_X4_copyFrom : Cond.selects yX4_copyFrom.cls yX4_copyFrom yX4_copyFrom ∈ q_W := q_t2 62 rfl rfl
def tb_X4_copyFrom : List q_E := [(0, .iconst 0, 1, 0, 0), (1, .istore_n 2, 1, 0, 0), (2, .iload_n 2, 1, 0, 0), (3, .aload_n 0, 1, 0, 0), (4, .getfield 11, 3, 0, 0), (7, .arraylength, 1, 0, 30), (8, .if_icmp .ge 33, 3, 0, 41), (11, .iload_n 2, 1, 0, 0), (12, .aload_n 1, 1, 0, 0), (13, .getfield 11, 3, 0, 0), (16, .arraylength, 1, 0, 30), (17, .if_icmp .ge 24, 3, 0, 41), (20, .aload_n 0, 1, 0, 0), (21, .getfield 11, 3, 0, 0), (24, .iload_n 2, 1, 0, 0), (25, .aaload, 1, 0, 30), (26, .aload_n 1, 1, 0, 0), (27, .getfield 11, 3, 0, 0), (30, .iload_n 2, 1, 0, 0), (31, .aaload, 1, 0, 30), (32, .invokevirtual 24, 3, 0, 0), (35, .iinc 2 1, 3, 1, 0), (38, .goto (-36), 3, 0, 2), (41, .aload_n 0, 1, 0, 0), (42, .aload_n 1, 1, 0, 0), (43, .getfield 28, 3, 0, 0), (46, .putfield 28, 3, 0, 0), (49, .aload_n 0, 1, 0, 0), (50, .aload_n 1, 1, 0, 0), (51, .getfield 32, 3, 0, 0), (54, .putfield 32, 3, 0, 0), (57, .aload_n 0, 1, 0, 0), (58, .aload_n 1, 1, 0, 0), (59, .getfield 20, 3, 0, 0), (62, .putfield 20, 3, 0, 0), (65, .return_, 1, 0, 0)]
set_option maxRecDepth 100000 in
theorem tk_X4_copyFrom : q_tb cX4_copyFrom 3 tb_X4_copyFrom = true := by decide +kernel
set_option maxRecDepth 100000 in
theorem mw_X4_find : q_mw yX4_find cX4_find 3 (Option.some (Jvm.ClassFile.FieldType.object "QuillRelay$Team")) 1 := ⟨q_t3 31 rfl rfl, by decide +kernel, by decide +kernel, q_init_QuillRelay_Race⟩
set_option maxRecDepth 100000 in
theorem mi_X4_find : Cond.instanceMethod yX4_find ∈ q_W := q_t3 29 rfl rfl
set_option maxRecDepth 100000 in
theorem me_X4_find : Cond.selects yX4_find.cls yX4_find yX4_find ∈ q_W := q_t3 30 rfl rfl
def tb_X4_find : List q_E := [(0, .iload_n 1, 1, 0, 0), (1, .ifCond .lt 12, 3, 0, 13), (4, .iload_n 1, 1, 0, 0), (5, .aload_n 0, 1, 0, 0), (6, .getfield 11, 3, 0, 0), (9, .arraylength, 1, 0, 30), (10, .if_icmp .lt 5, 3, 0, 15), (13, .aconst_null, 1, 0, 0), (14, .areturn, 1, 0, 0), (15, .aload_n 0, 1, 0, 0), (16, .getfield 11, 3, 0, 0), (19, .iload_n 1, 1, 0, 0), (20, .aaload, 1, 0, 30), (21, .astore_n 2, 1, 0, 0), (22, .aload_n 2, 1, 0, 0), (23, .getfield 35, 3, 0, 0), (26, .getstatic 39, 3, 0, 0), (29, .if_acmp .ne 7, 3, 0, 36), (32, .aconst_null, 1, 0, 0), (33, .goto 4, 3, 0, 37), (36, .aload_n 2, 1, 0, 0), (37, .areturn, 1, 0, 0)]
set_option maxRecDepth 100000 in
theorem tk_X4_find : q_tb cX4_find 3 tb_X4_find = true := by decide +kernel
set_option maxRecDepth 100000 in
theorem mw_X4_countEntered : q_mw yX4_countEntered cX4_countEntered 1 (Option.some Jvm.ClassFile.FieldType.int) 0 := ⟨q_t2 24 rfl rfl, by decide +kernel, by decide +kernel, q_init_QuillRelay_Race⟩
set_option maxRecDepth 100000 in
theorem mi_X4_countEntered : Cond.instanceMethod yX4_countEntered ∈ q_W := q_t2 22 rfl rfl
set_option maxRecDepth 100000 in
theorem me_X4_countEntered : Cond.selects yX4_countEntered.cls yX4_countEntered yX4_countEntered ∈ q_W := q_t2 23 rfl rfl
def tb_X4_countEntered : List q_E := [(0, .aload_n 0, 1, 0, 0), (1, .getfield 11, 3, 0, 0), (4, .arraylength, 1, 0, 30), (5, .aload_n 0, 1, 0, 0), (6, .getstatic 39, 3, 0, 0), (9, .invokevirtual 44, 3, 0, 0), (12, .isub, 1, 0, 0), (13, .ireturn, 1, 0, 0)]
set_option maxRecDepth 100000 in
theorem tk_X4_countEntered : q_tb cX4_countEntered 1 tb_X4_countEntered = true := by decide +kernel
set_option maxRecDepth 100000 in
theorem mw_X4_countRunning : q_mw yX4_countRunning cX4_countRunning 1 (Option.some Jvm.ClassFile.FieldType.int) 0 := ⟨q_t2 37 rfl rfl, by decide +kernel, by decide +kernel, q_init_QuillRelay_Race⟩
set_option maxRecDepth 100000 in
theorem mi_X4_countRunning : Cond.instanceMethod yX4_countRunning ∈ q_W := q_t2 35 rfl rfl
set_option maxRecDepth 100000 in
theorem me_X4_countRunning : Cond.selects yX4_countRunning.cls yX4_countRunning yX4_countRunning ∈ q_W := q_t2 36 rfl rfl
def tb_X4_countRunning : List q_E := [(0, .aload_n 0, 1, 0, 0), (1, .getstatic 48, 3, 0, 0), (4, .invokevirtual 44, 3, 0, 0), (7, .ireturn, 1, 0, 0)]
set_option maxRecDepth 100000 in
theorem tk_X4_countRunning : q_tb cX4_countRunning 1 tb_X4_countRunning = true := by decide +kernel
set_option maxRecDepth 100000 in
theorem mw_X4_countFinished : q_mw yX4_countFinished cX4_countFinished 1 (Option.some Jvm.ClassFile.FieldType.int) 0 := ⟨q_t4 185 rfl rfl, by decide +kernel, by decide +kernel, q_init_QuillRelay_Race⟩
set_option maxRecDepth 100000 in
theorem mi_X4_countFinished : Cond.instanceMethod yX4_countFinished ∈ q_W := q_t4 183 rfl rfl
set_option maxRecDepth 100000 in
theorem me_X4_countFinished : Cond.selects yX4_countFinished.cls yX4_countFinished yX4_countFinished ∈ q_W := q_t4 184 rfl rfl
def tb_X4_countFinished : List q_E := [(0, .aload_n 0, 1, 0, 0), (1, .getstatic 51, 3, 0, 0), (4, .invokevirtual 44, 3, 0, 0), (7, .ireturn, 1, 0, 0)]
set_option maxRecDepth 100000 in
theorem tk_X4_countFinished : q_tb cX4_countFinished 1 tb_X4_countFinished = true := by decide +kernel
set_option maxRecDepth 100000 in
theorem mw_X4_countIn : q_mw yX4_countIn cX4_countIn 7 (Option.some Jvm.ClassFile.FieldType.int) 1 := ⟨q_t2 29 rfl rfl, by decide +kernel, by decide +kernel, q_init_QuillRelay_Race⟩
set_option maxRecDepth 100000 in
theorem mi_X4_countIn : Cond.instanceMethod yX4_countIn ∈ q_W := q_t2 28 rfl rfl
set_option maxRecDepth 100000 in
theorem me_X4_countIn : Cond.selects yX4_countIn.cls yX4_countIn yX4_countIn ∈ q_W := q_s 0 rfl rfl
def tb_X4_countIn : List q_E := [(0, .iconst 0, 1, 0, 0), (1, .istore_n 2, 1, 0, 0), (2, .aload_n 0, 1, 0, 0), (3, .getfield 11, 3, 0, 0), (6, .astore_n 3, 1, 0, 0), (7, .aload_n 3, 1, 0, 0), (8, .arraylength, 1, 0, 30), (9, .istore 4, 2, 0, 0), (11, .iconst 0, 1, 0, 0), (12, .istore 5, 2, 0, 0), (14, .iload 5, 2, 0, 0), (16, .iload 4, 2, 0, 0), (18, .if_icmp .ge 27, 3, 0, 45), (21, .aload_n 3, 1, 0, 0), (22, .iload 5, 2, 0, 0), (24, .aaload, 1, 0, 30), (25, .astore 6, 2, 0, 0), (27, .aload 6, 2, 0, 0), (29, .getfield 35, 3, 0, 0), (32, .aload_n 1, 1, 0, 0), (33, .if_acmp .ne 6, 3, 0, 39), (36, .iinc 2 1, 3, 1, 0), (39, .iinc 5 1, 3, 1, 0), (42, .goto (-28), 3, 0, 14), (45, .iload_n 2, 1, 0, 0), (46, .ireturn, 1, 0, 0)]
set_option maxRecDepth 100000 in
theorem tk_X4_countIn : q_tb cX4_countIn 7 tb_X4_countIn = true := by decide +kernel
set_option maxRecDepth 100000 in
theorem mw_X4_sumOfTimes : q_mw yX4_sumOfTimes cX4_sumOfTimes 6 (Option.some Jvm.ClassFile.FieldType.int) 0 := ⟨q_t4 193 rfl rfl, by decide +kernel, by decide +kernel, q_init_QuillRelay_Race⟩
set_option maxRecDepth 100000 in
theorem mi_X4_sumOfTimes : Cond.instanceMethod yX4_sumOfTimes ∈ q_W := q_t4 191 rfl rfl
set_option maxRecDepth 100000 in
theorem me_X4_sumOfTimes : Cond.selects yX4_sumOfTimes.cls yX4_sumOfTimes yX4_sumOfTimes ∈ q_W := q_t4 192 rfl rfl
def tb_X4_sumOfTimes : List q_E := [(0, .iconst 0, 1, 0, 0), (1, .istore_n 1, 1, 0, 0), (2, .aload_n 0, 1, 0, 0), (3, .getfield 11, 3, 0, 0), (6, .astore_n 2, 1, 0, 0), (7, .aload_n 2, 1, 0, 0), (8, .arraylength, 1, 0, 30), (9, .istore_n 3, 1, 0, 0), (10, .iconst 0, 1, 0, 0), (11, .istore 4, 2, 0, 0), (13, .iload 4, 2, 0, 0), (15, .iload_n 3, 1, 0, 0), (16, .if_icmp .ge 34, 3, 0, 50), (19, .aload_n 2, 1, 0, 0), (20, .iload 4, 2, 0, 0), (22, .aaload, 1, 0, 30), (23, .astore 5, 2, 0, 0), (25, .aload 5, 2, 0, 0), (27, .getfield 35, 3, 0, 0), (30, .getstatic 51, 3, 0, 0), (33, .if_acmp .ne 11, 3, 0, 44), (36, .iload_n 1, 1, 0, 0), (37, .aload 5, 2, 0, 0), (39, .getfield 54, 3, 0, 0), (42, .iadd, 1, 0, 0), (43, .istore_n 1, 1, 0, 0), (44, .iinc 4 1, 3, 1, 0), (47, .goto (-34), 3, 0, 13), (50, .iload_n 1, 1, 0, 0), (51, .ireturn, 1, 0, 0)]
set_option maxRecDepth 100000 in
theorem tk_X4_sumOfTimes : q_tb cX4_sumOfTimes 6 tb_X4_sumOfTimes = true := by decide +kernel
set_option maxRecDepth 100000 in
theorem mw_X4_numberInLane : q_mw yX4_numberInLane cX4_numberInLane 6 (Option.some Jvm.ClassFile.FieldType.int) 1 := ⟨q_t4 2 rfl rfl, by decide +kernel, by decide +kernel, q_init_QuillRelay_Race⟩
set_option maxRecDepth 100000 in
theorem mi_X4_numberInLane : Cond.instanceMethod yX4_numberInLane ∈ q_W := q_t4 0 rfl rfl
set_option maxRecDepth 100000 in
theorem me_X4_numberInLane : Cond.selects yX4_numberInLane.cls yX4_numberInLane yX4_numberInLane ∈ q_W := q_t4 1 rfl rfl
def tb_X4_numberInLane : List q_E := [(0, .aload_n 0, 1, 0, 0), (1, .getfield 11, 3, 0, 0), (4, .astore_n 2, 1, 0, 0), (5, .aload_n 2, 1, 0, 0), (6, .arraylength, 1, 0, 30), (7, .istore_n 3, 1, 0, 0), (8, .iconst 0, 1, 0, 0), (9, .istore 4, 2, 0, 0), (11, .iload 4, 2, 0, 0), (13, .iload_n 3, 1, 0, 0), (14, .if_icmp .ge 41, 3, 0, 55), (17, .aload_n 2, 1, 0, 0), (18, .iload 4, 2, 0, 0), (20, .aaload, 1, 0, 30), (21, .astore 5, 2, 0, 0), (23, .aload 5, 2, 0, 0), (25, .getfield 35, 3, 0, 0), (28, .getstatic 39, 3, 0, 0), (31, .if_acmp .eq 18, 3, 0, 49), (34, .aload 5, 2, 0, 0), (36, .getfield 57, 3, 0, 0), (39, .iload_n 1, 1, 0, 0), (40, .if_icmp .ne 9, 3, 0, 49), (43, .aload 5, 2, 0, 0), (45, .getfield 60, 3, 0, 0), (48, .ireturn, 1, 0, 0), (49, .iinc 4 1, 3, 1, 0), (52, .goto (-41), 3, 0, 11), (55, .iconst (-1), 1, (-1), 0), (56, .ireturn, 1, 0, 0)]
set_option maxRecDepth 100000 in
theorem tk_X4_numberInLane : q_tb cX4_numberInLane 6 tb_X4_numberInLane = true := by decide +kernel
set_option maxRecDepth 100000 in
theorem mw_X4_numberAtRank : q_mw yX4_numberAtRank cX4_numberAtRank 6 (Option.some Jvm.ClassFile.FieldType.int) 1 := ⟨q_t4 142 rfl rfl, by decide +kernel, by decide +kernel, q_init_QuillRelay_Race⟩
set_option maxRecDepth 100000 in
theorem mi_X4_numberAtRank : Cond.instanceMethod yX4_numberAtRank ∈ q_W := q_t4 140 rfl rfl
set_option maxRecDepth 100000 in
theorem me_X4_numberAtRank : Cond.selects yX4_numberAtRank.cls yX4_numberAtRank yX4_numberAtRank ∈ q_W := q_t4 141 rfl rfl
def tb_X4_numberAtRank : List q_E := [(0, .aload_n 0, 1, 0, 0), (1, .getfield 11, 3, 0, 0), (4, .astore_n 2, 1, 0, 0), (5, .aload_n 2, 1, 0, 0), (6, .arraylength, 1, 0, 30), (7, .istore_n 3, 1, 0, 0), (8, .iconst 0, 1, 0, 0), (9, .istore 4, 2, 0, 0), (11, .iload 4, 2, 0, 0), (13, .iload_n 3, 1, 0, 0), (14, .if_icmp .ge 42, 3, 0, 56), (17, .aload_n 2, 1, 0, 0), (18, .iload 4, 2, 0, 0), (20, .aaload, 1, 0, 30), (21, .astore 5, 2, 0, 0), (23, .aload 5, 2, 0, 0), (25, .getfield 35, 3, 0, 0), (28, .getstatic 39, 3, 0, 0), (31, .if_acmp .eq 19, 3, 0, 50), (34, .aload_n 0, 1, 0, 0), (35, .aload 5, 2, 0, 0), (37, .invokevirtual 63, 3, 0, 0), (40, .iload_n 1, 1, 0, 0), (41, .if_icmp .ne 9, 3, 0, 50), (44, .aload 5, 2, 0, 0), (46, .getfield 60, 3, 0, 0), (49, .ireturn, 1, 0, 0), (50, .iinc 4 1, 3, 1, 0), (53, .goto (-42), 3, 0, 11), (56, .iconst (-1), 1, (-1), 0), (57, .ireturn, 1, 0, 0)]
set_option maxRecDepth 100000 in
theorem tk_X4_numberAtRank : q_tb cX4_numberAtRank 6 tb_X4_numberAtRank = true := by decide +kernel
set_option maxRecDepth 100000 in
theorem mw_X4_countAhead : q_mw yX4_countAhead cX4_countAhead 7 (Option.some Jvm.ClassFile.FieldType.int) 1 := ⟨q_t4 146 rfl rfl, by decide +kernel, by decide +kernel, q_init_QuillRelay_Race⟩
set_option maxRecDepth 100000 in
theorem mi_X4_countAhead : Cond.instanceMethod yX4_countAhead ∈ q_W := q_t4 144 rfl rfl
set_option maxRecDepth 100000 in
theorem me_X4_countAhead : Cond.selects yX4_countAhead.cls yX4_countAhead yX4_countAhead ∈ q_W := q_t4 145 rfl rfl
def tb_X4_countAhead : List q_E := [(0, .iconst 0, 1, 0, 0), (1, .istore_n 2, 1, 0, 0), (2, .aload_n 0, 1, 0, 0), (3, .getfield 11, 3, 0, 0), (6, .astore_n 3, 1, 0, 0), (7, .aload_n 3, 1, 0, 0), (8, .arraylength, 1, 0, 30), (9, .istore 4, 2, 0, 0), (11, .iconst 0, 1, 0, 0), (12, .istore 5, 2, 0, 0), (14, .iload 5, 2, 0, 0), (16, .iload 4, 2, 0, 0), (18, .if_icmp .ge 38, 3, 0, 56), (21, .aload_n 3, 1, 0, 0), (22, .iload 5, 2, 0, 0), (24, .aaload, 1, 0, 30), (25, .astore 6, 2, 0, 0), (27, .aload 6, 2, 0, 0), (29, .getfield 35, 3, 0, 0), (32, .getstatic 39, 3, 0, 0), (35, .if_acmp .eq 15, 3, 0, 50), (38, .aload 6, 2, 0, 0), (40, .aload_n 1, 1, 0, 0), (41, .invokevirtual 67, 3, 0, 0), (44, .ifCond .eq 6, 3, 0, 50), (47, .iinc 2 1, 3, 1, 0), (50, .iinc 5 1, 3, 1, 0), (53, .goto (-39), 3, 0, 14), (56, .iload_n 2, 1, 0, 0), (57, .ireturn, 1, 0, 0)]
set_option maxRecDepth 100000 in
theorem tk_X4_countAhead : q_tb cX4_countAhead 7 tb_X4_countAhead = true := by decide +kernel
set_option maxRecDepth 100000 in
theorem mw_X4_faultOfEntering : q_mw yX4_faultOfEntering cX4_faultOfEntering 1 (Option.some (Jvm.ClassFile.FieldType.object "QuillRelay$Fault")) 0 := ⟨q_t2 85 rfl rfl, by decide +kernel, by decide +kernel, q_init_QuillRelay_Race⟩
set_option maxRecDepth 100000 in
theorem mi_X4_faultOfEntering : Cond.instanceMethod yX4_faultOfEntering ∈ q_W := q_t2 83 rfl rfl
set_option maxRecDepth 100000 in
theorem me_X4_faultOfEntering : Cond.selects yX4_faultOfEntering.cls yX4_faultOfEntering yX4_faultOfEntering ∈ q_W := q_t2 84 rfl rfl
def tb_X4_faultOfEntering : List q_E := [(0, .aload_n 0, 1, 0, 0), (1, .getfield 28, 3, 0, 0), (4, .ifCond .ne 15, 3, 0, 19), (7, .aload_n 0, 1, 0, 0), (8, .invokevirtual 71, 3, 0, 0), (11, .aload_n 0, 1, 0, 0), (12, .getfield 11, 3, 0, 0), (15, .arraylength, 1, 0, 30), (16, .if_icmp .lt 9, 3, 0, 25), (19, .getstatic 75, 3, 0, 0), (22, .goto 6, 3, 0, 28), (25, .getstatic 81, 3, 0, 0), (28, .areturn, 1, 0, 0)]
set_option maxRecDepth 100000 in
theorem tk_X4_faultOfEntering : q_tb cX4_faultOfEntering 1 tb_X4_faultOfEntering = true := by decide +kernel
set_option maxRecDepth 100000 in
theorem mw_X4_faultOfSpeed : q_mw yX4_faultOfSpeed cX4_faultOfSpeed 4 (Option.some (Jvm.ClassFile.FieldType.object "QuillRelay$Fault")) 3 := ⟨q_t3 27 rfl rfl, by decide +kernel, by decide +kernel, q_init_QuillRelay_Race⟩
set_option maxRecDepth 100000 in
theorem mi_X4_faultOfSpeed : Cond.instanceMethod yX4_faultOfSpeed ∈ q_W := q_t3 25 rfl rfl
set_option maxRecDepth 100000 in
theorem me_X4_faultOfSpeed : Cond.selects yX4_faultOfSpeed.cls yX4_faultOfSpeed yX4_faultOfSpeed ∈ q_W := q_t3 26 rfl rfl
def tb_X4_faultOfSpeed : List q_E := [(0, .aload_n 0, 1, 0, 0), (1, .iload_n 1, 1, 0, 0), (2, .invokevirtual 84, 3, 0, 0), (5, .ifnull 10, 3, 0, 15), (8, .iload_n 2, 1, 0, 0), (9, .invokestatic 88, 3, 0, 0), (12, .ifCond .ne 7, 3, 0, 19), (15, .getstatic 92, 3, 0, 0), (18, .areturn, 1, 0, 0), (19, .iload_n 3, 1, 0, 0), (20, .bipush 20, 2, 20, 0), (22, .if_icmp .lt 9, 3, 0, 31), (25, .iload_n 3, 1, 0, 0), (26, .bipush 99, 2, 99, 0), (28, .if_icmp .le 7, 3, 0, 35), (31, .getstatic 95, 3, 0, 0), (34, .areturn, 1, 0, 0), (35, .aload_n 0, 1, 0, 0), (36, .getfield 28, 3, 0, 0), (39, .ifCond .eq 9, 3, 0, 48), (42, .getstatic 75, 3, 0, 0), (45, .goto 6, 3, 0, 51), (48, .getstatic 81, 3, 0, 0), (51, .areturn, 1, 0, 0)]
set_option maxRecDepth 100000 in
theorem tk_X4_faultOfSpeed : q_tb cX4_faultOfSpeed 4 tb_X4_faultOfSpeed = true := by decide +kernel
set_option maxRecDepth 100000 in
theorem mw_X4_faultOfLength : q_mw yX4_faultOfLength cX4_faultOfLength 2 (Option.some (Jvm.ClassFile.FieldType.object "QuillRelay$Fault")) 1 := ⟨q_t3 61 rfl rfl, by decide +kernel, by decide +kernel, q_init_QuillRelay_Race⟩
set_option maxRecDepth 100000 in
theorem mi_X4_faultOfLength : Cond.instanceMethod yX4_faultOfLength ∈ q_W := q_t3 59 rfl rfl
set_option maxRecDepth 100000 in
theorem me_X4_faultOfLength : Cond.selects yX4_faultOfLength.cls yX4_faultOfLength yX4_faultOfLength ∈ q_W := q_t3 60 rfl rfl
def tb_X4_faultOfLength : List q_E := [(0, .iload_n 1, 1, 0, 0), (1, .sipush 400, 3, 400, 0), (4, .if_icmp .lt 10, 3, 0, 14), (7, .iload_n 1, 1, 0, 0), (8, .sipush 4000, 3, 4000, 0), (11, .if_icmp .le 7, 3, 0, 18), (14, .getstatic 95, 3, 0, 0), (17, .areturn, 1, 0, 0), (18, .aload_n 0, 1, 0, 0), (19, .getfield 28, 3, 0, 0), (22, .ifCond .eq 9, 3, 0, 31), (25, .getstatic 75, 3, 0, 0), (28, .goto 6, 3, 0, 34), (31, .getstatic 81, 3, 0, 0), (34, .areturn, 1, 0, 0)]
set_option maxRecDepth 100000 in
theorem tk_X4_faultOfLength : q_tb cX4_faultOfLength 2 tb_X4_faultOfLength = true := by decide +kernel
set_option maxRecDepth 100000 in
theorem mw_X4_faultOfDrawing : q_mw yX4_faultOfDrawing cX4_faultOfDrawing 2 (Option.some (Jvm.ClassFile.FieldType.object "QuillRelay$Fault")) 1 := ⟨q_t3 72 rfl rfl, by decide +kernel, by decide +kernel, q_init_QuillRelay_Race⟩
set_option maxRecDepth 100000 in
theorem mi_X4_faultOfDrawing : Cond.instanceMethod yX4_faultOfDrawing ∈ q_W := q_t3 70 rfl rfl
set_option maxRecDepth 100000 in
theorem me_X4_faultOfDrawing : Cond.selects yX4_faultOfDrawing.cls yX4_faultOfDrawing yX4_faultOfDrawing ∈ q_W := q_t3 71 rfl rfl
def tb_X4_faultOfDrawing : List q_E := [(0, .iload_n 1, 1, 0, 0), (1, .ifCond .lt 10, 3, 0, 11), (4, .iload_n 1, 1, 0, 0), (5, .sipush 999, 3, 999, 0), (8, .if_icmp .le 7, 3, 0, 15), (11, .getstatic 95, 3, 0, 0), (14, .areturn, 1, 0, 0), (15, .aload_n 0, 1, 0, 0), (16, .invokevirtual 98, 3, 0, 0), (19, .areturn, 1, 0, 0)]
set_option maxRecDepth 100000 in
theorem tk_X4_faultOfDrawing : q_tb cX4_faultOfDrawing 2 tb_X4_faultOfDrawing = true := by decide +kernel
set_option maxRecDepth 100000 in
theorem mw_X4_faultOfStarting : q_mw yX4_faultOfStarting cX4_faultOfStarting 1 (Option.some (Jvm.ClassFile.FieldType.object "QuillRelay$Fault")) 0 := ⟨q_t3 76 rfl rfl, by decide +kernel, by decide +kernel, q_init_QuillRelay_Race⟩
set_option maxRecDepth 100000 in
theorem mi_X4_faultOfStarting : Cond.instanceMethod yX4_faultOfStarting ∈ q_W := q_t3 74 rfl rfl
set_option maxRecDepth 100000 in
theorem me_X4_faultOfStarting : Cond.selects yX4_faultOfStarting.cls yX4_faultOfStarting yX4_faultOfStarting ∈ q_W := q_t3 75 rfl rfl
def tb_X4_faultOfStarting : List q_E := [(0, .aload_n 0, 1, 0, 0), (1, .getfield 28, 3, 0, 0), (4, .ifCond .ne 10, 3, 0, 14), (7, .aload_n 0, 1, 0, 0), (8, .invokevirtual 71, 3, 0, 0), (11, .ifCond .ne 9, 3, 0, 20), (14, .getstatic 75, 3, 0, 0), (17, .goto 6, 3, 0, 23), (20, .getstatic 81, 3, 0, 0), (23, .areturn, 1, 0, 0)]
set_option maxRecDepth 100000 in
theorem tk_X4_faultOfStarting : q_tb cX4_faultOfStarting 1 tb_X4_faultOfStarting = true := by decide +kernel
set_option maxRecDepth 100000 in
theorem mw_X4_faultOfRunning : q_mw yX4_faultOfRunning cX4_faultOfRunning 2 (Option.some (Jvm.ClassFile.FieldType.object "QuillRelay$Fault")) 1 := ⟨q_t3 111 rfl rfl, by decide +kernel, by decide +kernel, q_init_QuillRelay_Race⟩
set_option maxRecDepth 100000 in
theorem mi_X4_faultOfRunning : Cond.instanceMethod yX4_faultOfRunning ∈ q_W := q_t3 109 rfl rfl
set_option maxRecDepth 100000 in
theorem me_X4_faultOfRunning : Cond.selects yX4_faultOfRunning.cls yX4_faultOfRunning yX4_faultOfRunning ∈ q_W := q_t3 110 rfl rfl
def tb_X4_faultOfRunning : List q_E := [(0, .iload_n 1, 1, 0, 0), (1, .iconst 1, 1, 1, 0), (2, .if_icmp .lt 10, 3, 0, 12), (5, .iload_n 1, 1, 0, 0), (6, .sipush 200, 3, 200, 0), (9, .if_icmp .le 7, 3, 0, 16), (12, .getstatic 95, 3, 0, 0), (15, .areturn, 1, 0, 0), (16, .aload_n 0, 1, 0, 0), (17, .getfield 28, 3, 0, 0), (20, .ifCond .eq 9, 3, 0, 29), (23, .getstatic 81, 3, 0, 0), (26, .goto 6, 3, 0, 32), (29, .getstatic 75, 3, 0, 0), (32, .areturn, 1, 0, 0)]
set_option maxRecDepth 100000 in
theorem tk_X4_faultOfRunning : q_tb cX4_faultOfRunning 2 tb_X4_faultOfRunning = true := by decide +kernel
set_option maxRecDepth 100000 in
theorem mw_X4_faultOfDropping : q_mw yX4_faultOfDropping cX4_faultOfDropping 3 (Option.some (Jvm.ClassFile.FieldType.object "QuillRelay$Fault")) 2 := ⟨q_t3 175 rfl rfl, by decide +kernel, by decide +kernel, q_init_QuillRelay_Race⟩
set_option maxRecDepth 100000 in
theorem mi_X4_faultOfDropping : Cond.instanceMethod yX4_faultOfDropping ∈ q_W := q_t3 173 rfl rfl
set_option maxRecDepth 100000 in
theorem me_X4_faultOfDropping : Cond.selects yX4_faultOfDropping.cls yX4_faultOfDropping yX4_faultOfDropping ∈ q_W := q_t3 174 rfl rfl
def tb_X4_faultOfDropping : List q_E := [(0, .aload_n 0, 1, 0, 0), (1, .iload_n 1, 1, 0, 0), (2, .invokevirtual 84, 3, 0, 0), (5, .ifnonnull 7, 3, 0, 12), (8, .getstatic 92, 3, 0, 0), (11, .areturn, 1, 0, 0), (12, .iload_n 2, 1, 0, 0), (13, .iconst 1, 1, 1, 0), (14, .if_icmp .lt 9, 3, 0, 23), (17, .iload_n 2, 1, 0, 0), (18, .bipush 20, 2, 20, 0), (20, .if_icmp .le 7, 3, 0, 27), (23, .getstatic 95, 3, 0, 0), (26, .areturn, 1, 0, 0), (27, .aload_n 0, 1, 0, 0), (28, .iload_n 1, 1, 0, 0), (29, .invokevirtual 102, 3, 0, 0), (32, .areturn, 1, 0, 0)]
set_option maxRecDepth 100000 in
theorem tk_X4_faultOfDropping : q_tb cX4_faultOfDropping 3 tb_X4_faultOfDropping = true := by decide +kernel
set_option maxRecDepth 100000 in
theorem mw_X4_faultOfWithdrawing : q_mw yX4_faultOfWithdrawing cX4_faultOfWithdrawing 3 (Option.some (Jvm.ClassFile.FieldType.object "QuillRelay$Fault")) 1 := ⟨q_t3 179 rfl rfl, by decide +kernel, by decide +kernel, q_init_QuillRelay_Race⟩
set_option maxRecDepth 100000 in
theorem mi_X4_faultOfWithdrawing : Cond.instanceMethod yX4_faultOfWithdrawing ∈ q_W := q_t3 177 rfl rfl
set_option maxRecDepth 100000 in
theorem me_X4_faultOfWithdrawing : Cond.selects yX4_faultOfWithdrawing.cls yX4_faultOfWithdrawing yX4_faultOfWithdrawing ∈ q_W := q_t3 178 rfl rfl
def tb_X4_faultOfWithdrawing : List q_E := [(0, .aload_n 0, 1, 0, 0), (1, .iload_n 1, 1, 0, 0), (2, .invokevirtual 84, 3, 0, 0), (5, .astore_n 2, 1, 0, 0), (6, .aload_n 2, 1, 0, 0), (7, .ifnonnull 7, 3, 0, 14), (10, .getstatic 92, 3, 0, 0), (13, .areturn, 1, 0, 0), (14, .aload_n 2, 1, 0, 0), (15, .getfield 35, 3, 0, 0), (18, .getstatic 48, 3, 0, 0), (21, .if_acmp .ne 9, 3, 0, 30), (24, .getstatic 81, 3, 0, 0), (27, .goto 6, 3, 0, 33), (30, .getstatic 75, 3, 0, 0), (33, .areturn, 1, 0, 0)]
set_option maxRecDepth 100000 in
theorem tk_X4_faultOfWithdrawing : q_tb cX4_faultOfWithdrawing 3 tb_X4_faultOfWithdrawing = true := by decide +kernel
set_option maxRecDepth 100000 in
theorem mw_X4_faultOfProtesting : q_mw yX4_faultOfProtesting cX4_faultOfProtesting 4 (Option.some (Jvm.ClassFile.FieldType.object "QuillRelay$Fault")) 3 := ⟨q_t3 208 rfl rfl, by decide +kernel, by decide +kernel, q_init_QuillRelay_Race⟩
set_option maxRecDepth 100000 in
theorem mi_X4_faultOfProtesting : Cond.instanceMethod yX4_faultOfProtesting ∈ q_W := q_t3 206 rfl rfl
set_option maxRecDepth 100000 in
theorem me_X4_faultOfProtesting : Cond.selects yX4_faultOfProtesting.cls yX4_faultOfProtesting yX4_faultOfProtesting ∈ q_W := q_t3 207 rfl rfl
def tb_X4_faultOfProtesting : List q_E := [(0, .aload_n 0, 1, 0, 0), (1, .iload_n 1, 1, 0, 0), (2, .invokevirtual 84, 3, 0, 0), (5, .ifnull 11, 3, 0, 16), (8, .aload_n 0, 1, 0, 0), (9, .iload_n 2, 1, 0, 0), (10, .invokevirtual 84, 3, 0, 0), (13, .ifnonnull 7, 3, 0, 20), (16, .getstatic 92, 3, 0, 0), (19, .areturn, 1, 0, 0), (20, .iload_n 1, 1, 0, 0), (21, .iload_n 2, 1, 0, 0), (22, .if_icmp .eq 10, 3, 0, 32), (25, .iload_n 3, 1, 0, 0), (26, .invokestatic 106, 3, 0, 0), (29, .ifCond .ne 7, 3, 0, 36), (32, .getstatic 95, 3, 0, 0), (35, .areturn, 1, 0, 0), (36, .aload_n 0, 1, 0, 0), (37, .getfield 28, 3, 0, 0), (40, .ifCond .eq 9, 3, 0, 49), (43, .getstatic 81, 3, 0, 0), (46, .goto 6, 3, 0, 52), (49, .getstatic 75, 3, 0, 0), (52, .areturn, 1, 0, 0)]
set_option maxRecDepth 100000 in
theorem tk_X4_faultOfProtesting : q_tb cX4_faultOfProtesting 4 tb_X4_faultOfProtesting = true := by decide +kernel
set_option maxRecDepth 100000 in
theorem mw_X4_enterTeam : q_mw yX4_enterTeam cX4_enterTeam 5 (Option.some Jvm.ClassFile.FieldType.int) 0 := ⟨q_t2 232 rfl rfl, by decide +kernel, by decide +kernel, q_init_QuillRelay_Race⟩
set_option maxRecDepth 100000 in
theorem mi_X4_enterTeam : Cond.instanceMethod yX4_enterTeam ∈ q_W := q_t2 230 rfl rfl
set_option maxRecDepth 100000 in
theorem me_X4_enterTeam : Cond.selects yX4_enterTeam.cls yX4_enterTeam yX4_enterTeam ∈ q_W := q_t2 231 rfl rfl
def tb_X4_enterTeam : List q_E := [(0, .aload_n 0, 1, 0, 0), (1, .getfield 11, 3, 0, 0), (4, .astore_n 1, 1, 0, 0), (5, .aload_n 1, 1, 0, 0), (6, .arraylength, 1, 0, 30), (7, .istore_n 2, 1, 0, 0), (8, .iconst 0, 1, 0, 0), (9, .istore_n 3, 1, 0, 0), (10, .iload_n 3, 1, 0, 0), (11, .iload_n 2, 1, 0, 0), (12, .if_icmp .ge 39, 3, 0, 51), (15, .aload_n 1, 1, 0, 0), (16, .iload_n 3, 1, 0, 0), (17, .aaload, 1, 0, 30), (18, .astore 4, 2, 0, 0), (20, .aload 4, 2, 0, 0), (22, .getfield 35, 3, 0, 0), (25, .getstatic 39, 3, 0, 0), (28, .if_acmp .ne 17, 3, 0, 45), (31, .aload 4, 2, 0, 0), (33, .getstatic 109, 3, 0, 0), (36, .putfield 35, 3, 0, 0), (39, .aload 4, 2, 0, 0), (41, .getfield 60, 3, 0, 0), (44, .ireturn, 1, 0, 0), (45, .iinc 3 1, 3, 1, 0), (48, .goto (-38), 3, 0, 10), (51, .iconst (-1), 1, (-1), 0), (52, .ireturn, 1, 0, 0)]
set_option maxRecDepth 100000 in
theorem tk_X4_enterTeam : q_tb cX4_enterTeam 5 tb_X4_enterTeam = true := by decide +kernel
set_option maxRecDepth 100000 in
theorem mw_X4_shuffleLanes : q_mw yX4_shuffleLanes cX4_shuffleLanes 9 (Option.none : Option Jvm.ClassFile.FieldType) 1 := ⟨q_t3 80 rfl rfl, by decide +kernel, by decide +kernel, q_init_QuillRelay_Race⟩
set_option maxRecDepth 100000 in
theorem mi_X4_shuffleLanes : Cond.instanceMethod yX4_shuffleLanes ∈ q_W := q_t3 78 rfl rfl
set_option maxRecDepth 100000 in
theorem me_X4_shuffleLanes : Cond.selects yX4_shuffleLanes.cls yX4_shuffleLanes yX4_shuffleLanes ∈ q_W := q_t3 79 rfl rfl
def tb_X4_shuffleLanes : List q_E := [(0, .aload_n 0, 1, 0, 0), (1, .invokevirtual 71, 3, 0, 0), (4, .istore_n 2, 1, 0, 0), (5, .iload_n 2, 1, 0, 0), (6, .istore_n 3, 1, 0, 0), (7, .iload_n 1, 1, 0, 0), (8, .istore 4, 2, 0, 0), (10, .aload_n 0, 1, 0, 0), (11, .getfield 11, 3, 0, 0), (14, .astore 5, 2, 0, 0), (16, .aload 5, 2, 0, 0), (18, .arraylength, 1, 0, 30), (19, .istore 6, 2, 0, 0), (21, .iconst 0, 1, 0, 0), (22, .istore 7, 2, 0, 0), (24, .iload 7, 2, 0, 0), (26, .iload 6, 2, 0, 0), (28, .if_icmp .ge 54, 3, 0, 82), (31, .aload 5, 2, 0, 0), (33, .iload 7, 2, 0, 0), (35, .aaload, 1, 0, 30), (36, .astore 8, 2, 0, 0), (38, .iload_n 3, 1, 0, 0), (39, .ifCond .le 37, 3, 0, 76), (42, .iconst 5, 1, 5, 0), (43, .iload 4, 2, 0, 0), (45, .imul, 1, 0, 0), (46, .iconst 3, 1, 3, 0), (47, .iadd, 1, 0, 0), (48, .sipush 1000, 3, 1000, 0), (51, .irem, 1, 0, 0), (52, .istore 4, 2, 0, 0), (54, .aload 8, 2, 0, 0), (56, .aload_n 0, 1, 0, 0), (57, .iload_n 2, 1, 0, 0), (58, .aload 8, 2, 0, 0), (60, .getfield 60, 3, 0, 0), (63, .iload 4, 2, 0, 0), (65, .iload_n 3, 1, 0, 0), (66, .irem, 1, 0, 0), (67, .invokevirtual 112, 3, 0, 0), (70, .putfield 57, 3, 0, 0), (73, .iinc 3 (-1), 3, (-1), 0), (76, .iinc 7 1, 3, 1, 0), (79, .goto (-55), 3, 0, 24), (82, .return_, 1, 0, 0)]
set_option maxRecDepth 100000 in
theorem tk_X4_shuffleLanes : q_tb cX4_shuffleLanes 9 tb_X4_shuffleLanes = true := by decide +kernel
set_option maxRecDepth 100000 in
theorem mw_X4_freeLane : q_mw yX4_freeLane cX4_freeLane 6 (Option.some Jvm.ClassFile.FieldType.int) 3 := ⟨q_t3 84 rfl rfl, by decide +kernel, by decide +kernel, q_init_QuillRelay_Race⟩
set_option maxRecDepth 100000 in
theorem mi_X4_freeLane : Cond.instanceMethod yX4_freeLane ∈ q_W := q_t3 83 rfl rfl
set_option maxRecDepth 100000 in
theorem me_X4_freeLane : Cond.selects yX4_freeLane.cls yX4_freeLane yX4_freeLane ∈ q_W := q_s 3 rfl rfl
def tb_X4_freeLane : List q_E := [(0, .iconst 0, 1, 0, 0), (1, .istore 4, 2, 0, 0), (3, .iconst 1, 1, 1, 0), (4, .istore 5, 2, 0, 0), (6, .iload 5, 2, 0, 0), (8, .iload_n 1, 1, 0, 0), (9, .if_icmp .gt 31, 3, 0, 40), (12, .aload_n 0, 1, 0, 0), (13, .iload 5, 2, 0, 0), (15, .iload_n 2, 1, 0, 0), (16, .invokevirtual 116, 3, 0, 0), (19, .ifCond .ne 15, 3, 0, 34), (22, .iload 4, 2, 0, 0), (24, .iload_n 3, 1, 0, 0), (25, .if_icmp .ne 6, 3, 0, 31), (28, .iload 5, 2, 0, 0), (30, .ireturn, 1, 0, 0), (31, .iinc 4 1, 3, 1, 0), (34, .iinc 5 1, 3, 1, 0), (37, .goto (-31), 3, 0, 6), (40, .iload_n 1, 1, 0, 0), (41, .ireturn, 1, 0, 0)]
set_option maxRecDepth 100000 in
theorem tk_X4_freeLane : q_tb cX4_freeLane 6 tb_X4_freeLane = true := by decide +kernel
set_option maxRecDepth 100000 in
theorem mw_X4_isTaken : q_mw yX4_isTaken cX4_isTaken 7 (Option.some Jvm.ClassFile.FieldType.boolean) 2 := ⟨q_t3 88 rfl rfl, by decide +kernel, by decide +kernel, q_init_QuillRelay_Race⟩
set_option maxRecDepth 100000 in
theorem mi_X4_isTaken : Cond.instanceMethod yX4_isTaken ∈ q_W := q_t3 87 rfl rfl
set_option maxRecDepth 100000 in
theorem me_X4_isTaken : Cond.selects yX4_isTaken.cls yX4_isTaken yX4_isTaken ∈ q_W := q_s 4 rfl rfl
def tb_X4_isTaken : List q_E := [(0, .aload_n 0, 1, 0, 0), (1, .getfield 11, 3, 0, 0), (4, .astore_n 3, 1, 0, 0), (5, .aload_n 3, 1, 0, 0), (6, .arraylength, 1, 0, 30), (7, .istore 4, 2, 0, 0), (9, .iconst 0, 1, 0, 0), (10, .istore 5, 2, 0, 0), (12, .iload 5, 2, 0, 0), (14, .iload 4, 2, 0, 0), (16, .if_icmp .ge 35, 3, 0, 51), (19, .aload_n 3, 1, 0, 0), (20, .iload 5, 2, 0, 0), (22, .aaload, 1, 0, 30), (23, .astore 6, 2, 0, 0), (25, .aload 6, 2, 0, 0), (27, .getfield 60, 3, 0, 0), (30, .iload_n 2, 1, 0, 0), (31, .if_icmp .ge 14, 3, 0, 45), (34, .aload 6, 2, 0, 0), (36, .getfield 57, 3, 0, 0), (39, .iload_n 1, 1, 0, 0), (40, .if_icmp .ne 5, 3, 0, 45), (43, .iconst 1, 1, 1, 0), (44, .ireturn, 1, 0, 0), (45, .iinc 5 1, 3, 1, 0), (48, .goto (-36), 3, 0, 12), (51, .iconst 0, 1, 0, 0), (52, .ireturn, 1, 0, 0)]
set_option maxRecDepth 100000 in
theorem tk_X4_isTaken : q_tb cX4_isTaken 7 tb_X4_isTaken = true := by decide +kernel
set_option maxRecDepth 100000 in
theorem mw_X4_begin : q_mw yX4_begin cX4_begin 5 (Option.none : Option Jvm.ClassFile.FieldType) 0 := ⟨q_t3 100 rfl rfl, by decide +kernel, by decide +kernel, q_init_QuillRelay_Race⟩
set_option maxRecDepth 100000 in
theorem mi_X4_begin : Cond.instanceMethod yX4_begin ∈ q_W := q_t3 98 rfl rfl
set_option maxRecDepth 100000 in
theorem me_X4_begin : Cond.selects yX4_begin.cls yX4_begin yX4_begin ∈ q_W := q_t3 99 rfl rfl
def tb_X4_begin : List q_E := [(0, .aload_n 0, 1, 0, 0), (1, .iconst 1, 1, 1, 0), (2, .putfield 28, 3, 0, 0), (5, .aload_n 0, 1, 0, 0), (6, .getfield 11, 3, 0, 0), (9, .astore_n 1, 1, 0, 0), (10, .aload_n 1, 1, 0, 0), (11, .arraylength, 1, 0, 30), (12, .istore_n 2, 1, 0, 0), (13, .iconst 0, 1, 0, 0), (14, .istore_n 3, 1, 0, 0), (15, .iload_n 3, 1, 0, 0), (16, .iload_n 2, 1, 0, 0), (17, .if_icmp .ge 33, 3, 0, 50), (20, .aload_n 1, 1, 0, 0), (21, .iload_n 3, 1, 0, 0), (22, .aaload, 1, 0, 30), (23, .astore 4, 2, 0, 0), (25, .aload 4, 2, 0, 0), (27, .getfield 35, 3, 0, 0), (30, .getstatic 109, 3, 0, 0), (33, .if_acmp .ne 11, 3, 0, 44), (36, .aload 4, 2, 0, 0), (38, .getstatic 48, 3, 0, 0), (41, .putfield 35, 3, 0, 0), (44, .iinc 3 1, 3, 1, 0), (47, .goto (-32), 3, 0, 15), (50, .return_, 1, 0, 0)]
set_option maxRecDepth 100000 in
theorem tk_X4_begin : q_tb cX4_begin 5 tb_X4_begin = true := by decide +kernel
set_option maxRecDepth 100000 in
theorem mw_X4_letSecondsPass : q_mw yX4_letSecondsPass cX4_letSecondsPass 8 (Option.some Jvm.ClassFile.FieldType.int) 1 := ⟨q_t3 115 rfl rfl, by decide +kernel, by decide +kernel, q_init_QuillRelay_Race⟩
set_option maxRecDepth 100000 in
theorem mi_X4_letSecondsPass : Cond.instanceMethod yX4_letSecondsPass ∈ q_W := q_t3 113 rfl rfl
set_option maxRecDepth 100000 in
theorem me_X4_letSecondsPass : Cond.selects yX4_letSecondsPass.cls yX4_letSecondsPass yX4_letSecondsPass ∈ q_W := q_t3 114 rfl rfl
def tb_X4_letSecondsPass : List q_E := [(0, .iconst 0, 1, 0, 0), (1, .istore_n 2, 1, 0, 0), (2, .iconst 0, 1, 0, 0), (3, .istore_n 3, 1, 0, 0), (4, .iload_n 3, 1, 0, 0), (5, .iload_n 1, 1, 0, 0), (6, .if_icmp .ge 83, 3, 0, 89), (9, .aload_n 0, 1, 0, 0), (10, .dup, 1, 0, 0), (11, .getfield 32, 3, 0, 0), (14, .iconst 1, 1, 1, 0), (15, .iadd, 1, 0, 0), (16, .putfield 32, 3, 0, 0), (19, .aload_n 0, 1, 0, 0), (20, .getfield 11, 3, 0, 0), (23, .astore 4, 2, 0, 0), (25, .aload 4, 2, 0, 0), (27, .arraylength, 1, 0, 30), (28, .istore 5, 2, 0, 0), (30, .iconst 0, 1, 0, 0), (31, .istore 6, 2, 0, 0), (33, .iload 6, 2, 0, 0), (35, .iload 5, 2, 0, 0), (37, .if_icmp .ge 46, 3, 0, 83), (40, .aload 4, 2, 0, 0), (42, .iload 6, 2, 0, 0), (44, .aaload, 1, 0, 30), (45, .astore 7, 2, 0, 0), (47, .aload 7, 2, 0, 0), (49, .getfield 35, 3, 0, 0), (52, .getstatic 48, 3, 0, 0), (55, .if_acmp .ne 22, 3, 0, 77), (58, .aload 7, 2, 0, 0), (60, .aload_n 0, 1, 0, 0), (61, .getfield 20, 3, 0, 0), (64, .aload_n 0, 1, 0, 0), (65, .getfield 32, 3, 0, 0), (68, .invokevirtual 120, 3, 0, 0), (71, .ifCond .eq 6, 3, 0, 77), (74, .iinc 2 1, 3, 1, 0), (77, .iinc 6 1, 3, 1, 0), (80, .goto (-47), 3, 0, 33), (83, .iinc 3 1, 3, 1, 0), (86, .goto (-82), 3, 0, 4), (89, .iload_n 2, 1, 0, 0), (90, .ireturn, 1, 0, 0)]
set_option maxRecDepth 100000 in
theorem tk_X4_letSecondsPass : q_tb cX4_letSecondsPass 8 tb_X4_letSecondsPass = true := by decide +kernel
set_option maxRecDepth 100000 in
theorem mw_X4_handOver : q_mw yX4_handOver cX4_handOver 3 (Option.some Jvm.ClassFile.FieldType.int) 1 := ⟨q_t3 162 rfl rfl, by decide +kernel, by decide +kernel, q_init_QuillRelay_Race⟩
set_option maxRecDepth 100000 in
theorem mi_X4_handOver : Cond.instanceMethod yX4_handOver ∈ q_W := q_t3 160 rfl rfl
set_option maxRecDepth 100000 in
theorem me_X4_handOver : Cond.selects yX4_handOver.cls yX4_handOver yX4_handOver ∈ q_W := q_t3 161 rfl rfl
def tb_X4_handOver : List q_E := [(0, .aload_n 1, 1, 0, 0), (1, .getfield 123, 3, 0, 0), (4, .aload_n 1, 1, 0, 0), (5, .aload_n 0, 1, 0, 0), (6, .getfield 20, 3, 0, 0), (9, .invokevirtual 126, 3, 0, 0), (12, .bipush 100, 2, 100, 0), (14, .iadd, 1, 0, 0), (15, .if_icmp .le 8, 3, 0, 23), (18, .aload_n 1, 1, 0, 0), (19, .iconst 1, 1, 1, 0), (20, .putfield 130, 3, 0, 0), (23, .aload_n 1, 1, 0, 0), (24, .aload_n 0, 1, 0, 0), (25, .getfield 32, 3, 0, 0), (28, .invokevirtual 133, 3, 0, 0), (31, .istore_n 2, 1, 0, 0), (32, .aload_n 1, 1, 0, 0), (33, .dup, 1, 0, 0), (34, .getfield 136, 3, 0, 0), (37, .iconst 1, 1, 1, 0), (38, .iadd, 1, 0, 0), (39, .putfield 136, 3, 0, 0), (42, .aload_n 1, 1, 0, 0), (43, .iconst 0, 1, 0, 0), (44, .putfield 139, 3, 0, 0), (47, .iload_n 2, 1, 0, 0), (48, .ireturn, 1, 0, 0)]
set_option maxRecDepth 100000 in
theorem tk_X4_handOver : q_tb cX4_handOver 3 tb_X4_handOver = true := by decide +kernel
set_option maxRecDepth 100000 in
theorem mw_X4_dropQuill : q_mw yX4_dropQuill cX4_dropQuill 3 (Option.some Jvm.ClassFile.FieldType.int) 2 := ⟨q_t3 183 rfl rfl, by decide +kernel, by decide +kernel, q_init_QuillRelay_Race⟩
set_option maxRecDepth 100000 in
theorem mi_X4_dropQuill : Cond.instanceMethod yX4_dropQuill ∈ q_W := q_t3 181 rfl rfl
set_option maxRecDepth 100000 in
theorem me_X4_dropQuill : Cond.selects yX4_dropQuill.cls yX4_dropQuill yX4_dropQuill ∈ q_W := q_t3 182 rfl rfl
def tb_X4_dropQuill : List q_E := [(0, .aload_n 1, 1, 0, 0), (1, .aload_n 0, 1, 0, 0), (2, .getfield 20, 3, 0, 0), (5, .invokevirtual 142, 3, 0, 0), (8, .ifCond .eq 8, 3, 0, 16), (11, .aload_n 1, 1, 0, 0), (12, .iconst 1, 1, 1, 0), (13, .putfield 145, 3, 0, 0), (16, .aload_n 1, 1, 0, 0), (17, .dup, 1, 0, 0), (18, .getfield 148, 3, 0, 0), (21, .iload_n 2, 1, 0, 0), (22, .iadd, 1, 0, 0), (23, .putfield 148, 3, 0, 0), (26, .aload_n 1, 1, 0, 0), (27, .getfield 148, 3, 0, 0), (30, .ireturn, 1, 0, 0)]
set_option maxRecDepth 100000 in
theorem tk_X4_dropQuill : q_tb cX4_dropQuill 3 tb_X4_dropQuill = true := by decide +kernel
set_option maxRecDepth 100000 in
theorem mw_X4_judge : q_mw yX4_judge cX4_judge 4 (Option.some Jvm.ClassFile.FieldType.boolean) 3 := ⟨q_t3 215 rfl rfl, by decide +kernel, by decide +kernel, q_init_QuillRelay_Race⟩
set_option maxRecDepth 100000 in
theorem mi_X4_judge : Cond.instanceMethod yX4_judge ∈ q_W := q_t3 213 rfl rfl
set_option maxRecDepth 100000 in
theorem me_X4_judge : Cond.selects yX4_judge.cls yX4_judge yX4_judge ∈ q_W := q_t3 214 rfl rfl
def tb_X4_judge : List q_E := [(0, .aload_n 2, 1, 0, 0), (1, .iload_n 3, 1, 0, 0), (2, .invokevirtual 151, 3, 0, 0), (5, .ifCond .eq 21, 3, 0, 26), (8, .aload_n 2, 1, 0, 0), (9, .iload_n 3, 1, 0, 0), (10, .invokevirtual 154, 3, 0, 0), (13, .aload_n 2, 1, 0, 0), (14, .dup, 1, 0, 0), (15, .getfield 157, 3, 0, 0), (18, .bipush 10, 2, 10, 0), (20, .iadd, 1, 0, 0), (21, .putfield 157, 3, 0, 0), (24, .iconst 1, 1, 1, 0), (25, .ireturn, 1, 0, 0), (26, .aload_n 1, 1, 0, 0), (27, .dup, 1, 0, 0), (28, .getfield 157, 3, 0, 0), (31, .iconst 5, 1, 5, 0), (32, .iadd, 1, 0, 0), (33, .putfield 157, 3, 0, 0), (36, .iconst 0, 1, 0, 0), (37, .ireturn, 1, 0, 0)]
set_option maxRecDepth 100000 in
theorem tk_X4_judge : q_tb cX4_judge 4 tb_X4_judge = true := by decide +kernel
set_option maxRecDepth 100000 in
theorem mw_X6_init : q_mw yX6_init cX6_init 3 (Option.none : Option Jvm.ClassFile.FieldType) 1 := ⟨q_t1 54 rfl rfl, by decide +kernel, by decide +kernel, q_init_QuillRelay_Team⟩
set_option maxRecDepth 100000 in
theorem mi_X6_init : Cond.instanceMethod yX6_init ∈ q_W := q_t1 53 rfl rfl
def tb_X6_init : List q_E := [(0, .aload_n 0, 1, 0, 0), (1, .invokespecial 3, 3, 0, 0), (4, .aload_n 0, 1, 0, 0), (5, .iload_n 1, 1, 0, 0), (6, .putfield 9, 3, 0, 0), (9, .aload_n 0, 1, 0, 0), (10, .iconst 4, 1, 4, 0), (11, .newarray .int, 2, 0, 0), (13, .putfield 15, 3, 0, 0), (16, .aload_n 0, 1, 0, 0), (17, .iconst 4, 1, 4, 0), (18, .newarray .int, 2, 0, 0), (20, .putfield 19, 3, 0, 0), (23, .iconst 0, 1, 0, 0), (24, .istore_n 2, 1, 0, 0), (25, .iload_n 2, 1, 0, 0), (26, .aload_n 0, 1, 0, 0), (27, .getfield 15, 3, 0, 0), (30, .arraylength, 1, 0, 20), (31, .if_icmp .ge 17, 3, 0, 48), (34, .aload_n 0, 1, 0, 0), (35, .getfield 15, 3, 0, 0), (38, .iload_n 2, 1, 0, 0), (39, .bipush 60, 2, 60, 0), (41, .iastore, 1, 0, 0), (42, .iinc 2 1, 3, 1, 0), (45, .goto (-20), 3, 0, 25), (48, .aload_n 0, 1, 0, 0), (49, .getstatic 22, 3, 0, 0), (52, .putfield 28, 3, 0, 0), (55, .aload_n 0, 1, 0, 0), (56, .iload_n 1, 1, 0, 0), (57, .iconst 1, 1, 1, 0), (58, .iadd, 1, 0, 0), (59, .putfield 31, 3, 0, 0), (62, .return_, 1, 0, 0)]
set_option maxRecDepth 100000 in
theorem tk_X6_init : q_tb cX6_init 3 tb_X6_init = true := by decide +kernel
set_option maxRecDepth 100000 in
theorem mw_X6_copyFrom : q_mw yX6_copyFrom cX6_copyFrom 2 (Option.none : Option Jvm.ClassFile.FieldType) 1 := ⟨q_t2 67 rfl rfl, by decide +kernel, by decide +kernel, q_init_QuillRelay_Team⟩
set_option maxRecDepth 100000 in
theorem mi_X6_copyFrom : Cond.instanceMethod yX6_copyFrom ∈ q_W := q_t2 65 rfl rfl
set_option maxRecDepth 100000 in
theorem me_X6_copyFrom : Cond.selects yX6_copyFrom.cls yX6_copyFrom yX6_copyFrom ∈ q_W := q_t2 66 rfl rfl
def tb_X6_copyFrom : List q_E := [(0, .aload_n 1, 1, 0, 0), (1, .getfield 15, 3, 0, 0), (4, .aload_n 0, 1, 0, 0), (5, .getfield 15, 3, 0, 0), (8, .invokestatic 34, 3, 0, 0), (11, .aload_n 1, 1, 0, 0), (12, .getfield 19, 3, 0, 0), (15, .aload_n 0, 1, 0, 0), (16, .getfield 19, 3, 0, 0), (19, .invokestatic 34, 3, 0, 0), (22, .aload_n 0, 1, 0, 0), (23, .aload_n 1, 1, 0, 0), (24, .getfield 28, 3, 0, 0), (27, .putfield 28, 3, 0, 0), (30, .aload_n 0, 1, 0, 0), (31, .aload_n 1, 1, 0, 0), (32, .getfield 31, 3, 0, 0), (35, .putfield 31, 3, 0, 0), (38, .aload_n 0, 1, 0, 0), (39, .aload_n 1, 1, 0, 0), (40, .getfield 38, 3, 0, 0), (43, .putfield 38, 3, 0, 0), (46, .aload_n 0, 1, 0, 0), (47, .aload_n 1, 1, 0, 0), (48, .getfield 41, 3, 0, 0), (51, .putfield 41, 3, 0, 0), (54, .aload_n 0, 1, 0, 0), (55, .aload_n 1, 1, 0, 0), (56, .getfield 44, 3, 0, 0), (59, .putfield 44, 3, 0, 0), (62, .aload_n 0, 1, 0, 0), (63, .aload_n 1, 1, 0, 0), (64, .getfield 47, 3, 0, 0), (67, .putfield 47, 3, 0, 0), (70, .aload_n 0, 1, 0, 0), (71, .aload_n 1, 1, 0, 0), (72, .getfield 50, 3, 0, 0), (75, .putfield 50, 3, 0, 0), (78, .aload_n 0, 1, 0, 0), (79, .aload_n 1, 1, 0, 0), (80, .getfield 53, 3, 0, 0), (83, .putfield 53, 3, 0, 0), (86, .aload_n 0, 1, 0, 0), (87, .aload_n 1, 1, 0, 0), (88, .getfield 56, 3, 0, 0), (91, .putfield 56, 3, 0, 0), (94, .aload_n 0, 1, 0, 0), (95, .aload_n 1, 1, 0, 0), (96, .getfield 59, 3, 0, 0), (99, .putfield 59, 3, 0, 0), (102, .aload_n 0, 1, 0, 0), (103, .aload_n 1, 1, 0, 0), (104, .getfield 63, 3, 0, 0), (107, .putfield 63, 3, 0, 0), (110, .return_, 1, 0, 0)]
set_option maxRecDepth 100000 in
theorem tk_X6_copyFrom : q_tb cX6_copyFrom 2 tb_X6_copyFrom = true := by decide +kernel
set_option maxRecDepth 100000 in
theorem mw_X6_speedOn : q_mw yX6_speedOn cX6_speedOn 2 (Option.some Jvm.ClassFile.FieldType.int) 1 := ⟨q_t4 35 rfl rfl, by decide +kernel, by decide +kernel, q_init_QuillRelay_Team⟩
set_option maxRecDepth 100000 in
theorem mi_X6_speedOn : Cond.instanceMethod yX6_speedOn ∈ q_W := q_t4 33 rfl rfl
set_option maxRecDepth 100000 in
theorem me_X6_speedOn : Cond.selects yX6_speedOn.cls yX6_speedOn yX6_speedOn ∈ q_W := q_t4 34 rfl rfl
def tb_X6_speedOn : List q_E := [(0, .aload_n 0, 1, 0, 0), (1, .getfield 15, 3, 0, 0), (4, .iload_n 1, 1, 0, 0), (5, .invokestatic 66, 3, 0, 0), (8, .ireturn, 1, 0, 0)]
set_option maxRecDepth 100000 in
theorem tk_X6_speedOn : q_tb cX6_speedOn 2 tb_X6_speedOn = true := by decide +kernel
set_option maxRecDepth 100000 in
theorem mw_X6_changeSpeed : q_mw yX6_changeSpeed cX6_changeSpeed 4 (Option.some Jvm.ClassFile.FieldType.int) 2 := ⟨q_t3 46 rfl rfl, by decide +kernel, by decide +kernel, q_init_QuillRelay_Team⟩
set_option maxRecDepth 100000 in
theorem mi_X6_changeSpeed : Cond.instanceMethod yX6_changeSpeed ∈ q_W := q_t3 44 rfl rfl
set_option maxRecDepth 100000 in
theorem me_X6_changeSpeed : Cond.selects yX6_changeSpeed.cls yX6_changeSpeed yX6_changeSpeed ∈ q_W := q_t3 45 rfl rfl
def tb_X6_changeSpeed : List q_E := [(0, .aload_n 0, 1, 0, 0), (1, .getfield 15, 3, 0, 0), (4, .iload_n 1, 1, 0, 0), (5, .invokestatic 66, 3, 0, 0), (8, .istore_n 3, 1, 0, 0), (9, .aload_n 0, 1, 0, 0), (10, .getfield 15, 3, 0, 0), (13, .iload_n 1, 1, 0, 0), (14, .iload_n 2, 1, 0, 0), (15, .invokestatic 70, 3, 0, 0), (18, .iload_n 3, 1, 0, 0), (19, .ireturn, 1, 0, 0)]
set_option maxRecDepth 100000 in
theorem tk_X6_changeSpeed : q_tb cX6_changeSpeed 4 tb_X6_changeSpeed = true := by decide +kernel
set_option maxRecDepth 100000 in
theorem mw_X6_legEnd : q_mw yX6_legEnd cX6_legEnd 2 (Option.some Jvm.ClassFile.FieldType.int) 1 := ⟨q_t3 127 rfl rfl, by decide +kernel, by decide +kernel, q_init_QuillRelay_Team⟩
set_option maxRecDepth 100000 in
theorem mi_X6_legEnd : Cond.instanceMethod yX6_legEnd ∈ q_W := q_t3 125 rfl rfl
set_option maxRecDepth 100000 in
theorem me_X6_legEnd : Cond.selects yX6_legEnd.cls yX6_legEnd yX6_legEnd ∈ q_W := q_t3 126 rfl rfl
def tb_X6_legEnd : List q_E := [(0, .aload_n 0, 1, 0, 0), (1, .getfield 41, 3, 0, 0), (4, .iconst 1, 1, 1, 0), (5, .iadd, 1, 0, 0), (6, .iload_n 1, 1, 0, 0), (7, .imul, 1, 0, 0), (8, .ireturn, 1, 0, 0)]
set_option maxRecDepth 100000 in
theorem tk_X6_legEnd : q_tb cX6_legEnd 2 tb_X6_legEnd = true := by decide +kernel
set_option maxRecDepth 100000 in
theorem mw_X6_inZone : q_mw yX6_inZone cX6_inZone 2 (Option.some Jvm.ClassFile.FieldType.boolean) 1 := ⟨q_t3 187 rfl rfl, by decide +kernel, by decide +kernel, q_init_QuillRelay_Team⟩
set_option maxRecDepth 100000 in
theorem mi_X6_inZone : Cond.instanceMethod yX6_inZone ∈ q_W := q_t3 185 rfl rfl
set_option maxRecDepth 100000 in
theorem me_X6_inZone : Cond.selects yX6_inZone.cls yX6_inZone yX6_inZone ∈ q_W := q_t3 186 rfl rfl
def tb_X6_inZone : List q_E := [(0, .aload_n 0, 1, 0, 0), (1, .getfield 41, 3, 0, 0), (4, .iconst 3, 1, 3, 0), (5, .if_icmp .ge 37, 3, 0, 42), (8, .aload_n 0, 1, 0, 0), (9, .getfield 38, 3, 0, 0), (12, .aload_n 0, 1, 0, 0), (13, .iload_n 1, 1, 0, 0), (14, .invokevirtual 74, 3, 0, 0), (17, .bipush 100, 2, 100, 0), (19, .isub, 1, 0, 0), (20, .if_icmp .lt 22, 3, 0, 42), (23, .aload_n 0, 1, 0, 0), (24, .getfield 38, 3, 0, 0), (27, .aload_n 0, 1, 0, 0), (28, .iload_n 1, 1, 0, 0), (29, .invokevirtual 74, 3, 0, 0), (32, .bipush 100, 2, 100, 0), (34, .iadd, 1, 0, 0), (35, .if_icmp .gt 7, 3, 0, 42), (38, .iconst 1, 1, 1, 0), (39, .goto 4, 3, 0, 43), (42, .iconst 0, 1, 0, 0), (43, .ireturn, 1, 0, 0)]
set_option maxRecDepth 100000 in
theorem tk_X6_inZone : q_tb cX6_inZone 2 tb_X6_inZone = true := by decide +kernel
set_option maxRecDepth 100000 in
theorem mw_X6_reasonToRefuse : q_mw yX6_reasonToRefuse cX6_reasonToRefuse 2 (Option.some Jvm.ClassFile.FieldType.int) 1 := ⟨q_t3 157 rfl rfl, by decide +kernel, by decide +kernel, q_init_QuillRelay_Team⟩
set_option maxRecDepth 100000 in
theorem mi_X6_reasonToRefuse : Cond.instanceMethod yX6_reasonToRefuse ∈ q_W := q_t3 155 rfl rfl
set_option maxRecDepth 100000 in
theorem me_X6_reasonToRefuse : Cond.selects yX6_reasonToRefuse.cls yX6_reasonToRefuse yX6_reasonToRefuse ∈ q_W := q_t3 156 rfl rfl
def tb_X6_reasonToRefuse : List q_E := [(0, .aload_n 0, 1, 0, 0), (1, .getfield 47, 3, 0, 0), (4, .ifCond .le 5, 3, 0, 9), (7, .iconst 1, 1, 1, 0), (8, .ireturn, 1, 0, 0), (9, .aload_n 0, 1, 0, 0), (10, .getfield 41, 3, 0, 0), (13, .iconst 3, 1, 3, 0), (14, .if_icmp .lt 5, 3, 0, 19), (17, .iconst 2, 1, 2, 0), (18, .ireturn, 1, 0, 0), (19, .aload_n 0, 1, 0, 0), (20, .getfield 38, 3, 0, 0), (23, .aload_n 0, 1, 0, 0), (24, .iload_n 1, 1, 0, 0), (25, .invokevirtual 74, 3, 0, 0), (28, .bipush 100, 2, 100, 0), (30, .isub, 1, 0, 0), (31, .if_icmp .ge 7, 3, 0, 38), (34, .iconst 3, 1, 3, 0), (35, .goto 4, 3, 0, 39), (38, .iconst 0, 1, 0, 0), (39, .ireturn, 1, 0, 0)]
set_option maxRecDepth 100000 in
theorem tk_X6_reasonToRefuse : q_tb cX6_reasonToRefuse 2 tb_X6_reasonToRefuse = true := by decide +kernel
set_option maxRecDepth 100000 in
theorem mw_X6_moveOneSecond : q_mw yX6_moveOneSecond cX6_moveOneSecond 3 (Option.some Jvm.ClassFile.FieldType.boolean) 2 := ⟨q_t3 119 rfl rfl, by decide +kernel, by decide +kernel, q_init_QuillRelay_Team⟩
set_option maxRecDepth 100000 in
theorem mi_X6_moveOneSecond : Cond.instanceMethod yX6_moveOneSecond ∈ q_W := q_t3 117 rfl rfl
set_option maxRecDepth 100000 in
theorem me_X6_moveOneSecond : Cond.selects yX6_moveOneSecond.cls yX6_moveOneSecond yX6_moveOneSecond ∈ q_W := q_t3 118 rfl rfl
def tb_X6_moveOneSecond : List q_E := [(0, .aload_n 0, 1, 0, 0), (1, .getfield 47, 3, 0, 0), (4, .ifCond .le 15, 3, 0, 19), (7, .aload_n 0, 1, 0, 0), (8, .dup, 1, 0, 0), (9, .getfield 47, 3, 0, 0), (12, .iconst 1, 1, 1, 0), (13, .isub, 1, 0, 0), (14, .putfield 47, 3, 0, 0), (17, .iconst 0, 1, 0, 0), (18, .ireturn, 1, 0, 0), (19, .aload_n 0, 1, 0, 0), (20, .iload_n 1, 1, 0, 0), (21, .invokevirtual 78, 3, 0, 0), (24, .aload_n 0, 1, 0, 0), (25, .getfield 41, 3, 0, 0), (28, .iconst 3, 1, 3, 0), (29, .if_icmp .lt 13, 3, 0, 42), (32, .aload_n 0, 1, 0, 0), (33, .getfield 38, 3, 0, 0), (36, .iconst 4, 1, 4, 0), (37, .iload_n 1, 1, 0, 0), (38, .imul, 1, 0, 0), (39, .if_icmp .ge 5, 3, 0, 44), (42, .iconst 0, 1, 0, 0), (43, .ireturn, 1, 0, 0), (44, .aload_n 0, 1, 0, 0), (45, .getstatic 82, 3, 0, 0), (48, .putfield 28, 3, 0, 0), (51, .aload_n 0, 1, 0, 0), (52, .iload_n 2, 1, 0, 0), (53, .putfield 56, 3, 0, 0), (56, .aload_n 0, 1, 0, 0), (57, .iload_n 2, 1, 0, 0), (58, .invokevirtual 85, 3, 0, 0), (61, .pop, 1, 0, 0), (62, .iconst 1, 1, 1, 0), (63, .ireturn, 1, 0, 0)]
set_option maxRecDepth 100000 in
theorem tk_X6_moveOneSecond : q_tb cX6_moveOneSecond 3 tb_X6_moveOneSecond = true := by decide +kernel
set_option maxRecDepth 100000 in
theorem mw_X6_runOneSecond : q_mw yX6_runOneSecond cX6_runOneSecond 4 (Option.none : Option Jvm.ClassFile.FieldType) 1 := ⟨q_t3 123 rfl rfl, by decide +kernel, by decide +kernel, q_init_QuillRelay_Team⟩
set_option maxRecDepth 100000 in
theorem mi_X6_runOneSecond : Cond.instanceMethod yX6_runOneSecond ∈ q_W := q_t3 122 rfl rfl
set_option maxRecDepth 100000 in
theorem me_X6_runOneSecond : Cond.selects yX6_runOneSecond.cls yX6_runOneSecond yX6_runOneSecond ∈ q_W := q_s 5 rfl rfl
def tb_X6_runOneSecond : List q_E := [(0, .aload_n 0, 1, 0, 0), (1, .iload_n 1, 1, 0, 0), (2, .invokevirtual 74, 3, 0, 0), (5, .sipush 300, 3, 300, 0), (8, .iadd, 1, 0, 0), (9, .istore_n 2, 1, 0, 0), (10, .aload_n 0, 1, 0, 0), (11, .getfield 38, 3, 0, 0), (14, .aload_n 0, 1, 0, 0), (15, .getfield 15, 3, 0, 0), (18, .aload_n 0, 1, 0, 0), (19, .getfield 41, 3, 0, 0), (22, .invokestatic 66, 3, 0, 0), (25, .aload_n 0, 1, 0, 0), (26, .getfield 44, 3, 0, 0), (29, .invokestatic 88, 3, 0, 0), (32, .iadd, 1, 0, 0), (33, .istore_n 3, 1, 0, 0), (34, .aload_n 0, 1, 0, 0), (35, .getfield 41, 3, 0, 0), (38, .iconst 3, 1, 3, 0), (39, .if_icmp .ge 12, 3, 0, 51), (42, .aload_n 0, 1, 0, 0), (43, .getfield 38, 3, 0, 0), (46, .iload_n 2, 1, 0, 0), (47, .if_icmp .lt 4, 3, 0, 51), (50, .return_, 1, 0, 0), (51, .aload_n 0, 1, 0, 0), (52, .aload_n 0, 1, 0, 0), (53, .getfield 41, 3, 0, 0), (56, .iconst 3, 1, 3, 0), (57, .if_icmp .ge 11, 3, 0, 68), (60, .iload_n 2, 1, 0, 0), (61, .iload_n 3, 1, 0, 0), (62, .invokestatic 92, 3, 0, 0), (65, .goto 4, 3, 0, 69), (68, .iload_n 3, 1, 0, 0), (69, .putfield 38, 3, 0, 0), (72, .aload_n 0, 1, 0, 0), (73, .dup, 1, 0, 0), (74, .getfield 44, 3, 0, 0), (77, .iconst 1, 1, 1, 0), (78, .iadd, 1, 0, 0), (79, .putfield 44, 3, 0, 0), (82, .return_, 1, 0, 0)]
set_option maxRecDepth 100000 in
theorem tk_X6_runOneSecond : q_tb cX6_runOneSecond 4 tb_X6_runOneSecond = true := by decide +kernel
set_option maxRecDepth 100000 in
theorem mw_X6_endLeg : q_mw yX6_endLeg cX6_endLeg 3 (Option.some Jvm.ClassFile.FieldType.int) 1 := ⟨q_t3 140 rfl rfl, by decide +kernel, by decide +kernel, q_init_QuillRelay_Team⟩
set_option maxRecDepth 100000 in
theorem mi_X6_endLeg : Cond.instanceMethod yX6_endLeg ∈ q_W := q_t3 138 rfl rfl
set_option maxRecDepth 100000 in
theorem me_X6_endLeg : Cond.selects yX6_endLeg.cls yX6_endLeg yX6_endLeg ∈ q_W := q_t3 139 rfl rfl
def tb_X6_endLeg : List q_E := [(0, .iload_n 1, 1, 0, 0), (1, .aload_n 0, 1, 0, 0), (2, .getfield 53, 3, 0, 0), (5, .isub, 1, 0, 0), (6, .istore_n 2, 1, 0, 0), (7, .aload_n 0, 1, 0, 0), (8, .getfield 19, 3, 0, 0), (11, .aload_n 0, 1, 0, 0), (12, .getfield 41, 3, 0, 0), (15, .iload_n 2, 1, 0, 0), (16, .invokestatic 70, 3, 0, 0), (19, .aload_n 0, 1, 0, 0), (20, .iload_n 1, 1, 0, 0), (21, .putfield 53, 3, 0, 0), (24, .iload_n 2, 1, 0, 0), (25, .ireturn, 1, 0, 0)]
set_option maxRecDepth 100000 in
theorem tk_X6_endLeg : q_tb cX6_endLeg 3 tb_X6_endLeg = true := by decide +kernel
set_option maxRecDepth 100000 in
theorem mw_X6_hasEnded : q_mw yX6_hasEnded cX6_hasEnded 2 (Option.some Jvm.ClassFile.FieldType.boolean) 1 := ⟨q_t4 99 rfl rfl, by decide +kernel, by decide +kernel, q_init_QuillRelay_Team⟩
set_option maxRecDepth 100000 in
theorem mi_X6_hasEnded : Cond.instanceMethod yX6_hasEnded ∈ q_W := q_t4 97 rfl rfl
set_option maxRecDepth 100000 in
theorem me_X6_hasEnded : Cond.selects yX6_hasEnded.cls yX6_hasEnded yX6_hasEnded ∈ q_W := q_t4 98 rfl rfl
def tb_X6_hasEnded : List q_E := [(0, .iload_n 1, 1, 0, 0), (1, .aload_n 0, 1, 0, 0), (2, .getfield 41, 3, 0, 0), (5, .if_icmp .lt 13, 3, 0, 18), (8, .aload_n 0, 1, 0, 0), (9, .getfield 28, 3, 0, 0), (12, .getstatic 82, 3, 0, 0), (15, .if_acmp .ne 7, 3, 0, 22), (18, .iconst 1, 1, 1, 0), (19, .goto 4, 3, 0, 23), (22, .iconst 0, 1, 0, 0), (23, .ireturn, 1, 0, 0)]
set_option maxRecDepth 100000 in
theorem tk_X6_hasEnded : q_tb cX6_hasEnded 2 tb_X6_hasEnded = true := by decide +kernel
set_option maxRecDepth 100000 in
theorem mw_X6_secondsUntilZone : q_mw yX6_secondsUntilZone cX6_secondsUntilZone 5 (Option.some Jvm.ClassFile.FieldType.int) 1 := ⟨q_t4 226 rfl rfl, by decide +kernel, by decide +kernel, q_init_QuillRelay_Team⟩
set_option maxRecDepth 100000 in
theorem mi_X6_secondsUntilZone : Cond.instanceMethod yX6_secondsUntilZone ∈ q_W := q_t4 224 rfl rfl
set_option maxRecDepth 100000 in
theorem me_X6_secondsUntilZone : Cond.selects yX6_secondsUntilZone.cls yX6_secondsUntilZone yX6_secondsUntilZone ∈ q_W := q_t4 225 rfl rfl
def tb_X6_secondsUntilZone : List q_E := [(0, .aload_n 0, 1, 0, 0), (1, .iload_n 1, 1, 0, 0), (2, .invokevirtual 74, 3, 0, 0), (5, .bipush 100, 2, 100, 0), (7, .isub, 1, 0, 0), (8, .istore_n 2, 1, 0, 0), (9, .aload_n 0, 1, 0, 0), (10, .getfield 38, 3, 0, 0), (13, .iload_n 2, 1, 0, 0), (14, .if_icmp .lt 5, 3, 0, 19), (17, .iconst 0, 1, 0, 0), (18, .ireturn, 1, 0, 0), (19, .aload_n 0, 1, 0, 0), (20, .getfield 38, 3, 0, 0), (23, .istore_n 3, 1, 0, 0), (24, .iconst 0, 1, 0, 0), (25, .istore 4, 2, 0, 0), (27, .iload_n 3, 1, 0, 0), (28, .iload_n 2, 1, 0, 0), (29, .if_icmp .ge 40, 3, 0, 69), (32, .iload 4, 2, 0, 0), (34, .ldc 97, 2, 0, 0), (36, .if_icmp .ge 33, 3, 0, 69), (39, .iload_n 3, 1, 0, 0), (40, .aload_n 0, 1, 0, 0), (41, .getfield 15, 3, 0, 0), (44, .aload_n 0, 1, 0, 0), (45, .getfield 41, 3, 0, 0), (48, .invokestatic 66, 3, 0, 0), (51, .aload_n 0, 1, 0, 0), (52, .getfield 44, 3, 0, 0), (55, .iload 4, 2, 0, 0), (57, .iadd, 1, 0, 0), (58, .invokestatic 88, 3, 0, 0), (61, .iadd, 1, 0, 0), (62, .istore_n 3, 1, 0, 0), (63, .iinc 4 1, 3, 1, 0), (66, .goto (-39), 3, 0, 27), (69, .aload_n 0, 1, 0, 0), (70, .getfield 47, 3, 0, 0), (73, .iload 4, 2, 0, 0), (75, .iadd, 1, 0, 0), (76, .ireturn, 1, 0, 0)]
set_option maxRecDepth 100000 in
theorem tk_X6_secondsUntilZone : q_tb cX6_secondsUntilZone 5 tb_X6_secondsUntilZone = true := by decide +kernel
set_option maxRecDepth 100000 in
theorem mw_X6_committed : q_mw yX6_committed cX6_committed 2 (Option.some Jvm.ClassFile.FieldType.boolean) 1 := ⟨q_t3 219 rfl rfl, by decide +kernel, by decide +kernel, q_init_QuillRelay_Team⟩
set_option maxRecDepth 100000 in
theorem mi_X6_committed : Cond.instanceMethod yX6_committed ∈ q_W := q_t3 217 rfl rfl
set_option maxRecDepth 100000 in
theorem me_X6_committed : Cond.selects yX6_committed.cls yX6_committed yX6_committed ∈ q_W := q_t3 218 rfl rfl
def tb_X6_committed : List q_E := [(0, .iload_n 1, 1, 0, 0), (1, .ifCond .ne 10, 3, 0, 11), (4, .aload_n 0, 1, 0, 0), (5, .getfield 59, 3, 0, 0), (8, .goto 7, 3, 0, 15), (11, .aload_n 0, 1, 0, 0), (12, .getfield 63, 3, 0, 0), (15, .ireturn, 1, 0, 0)]
set_option maxRecDepth 100000 in
theorem tk_X6_committed : q_tb cX6_committed 2 tb_X6_committed = true := by decide +kernel
set_option maxRecDepth 100000 in
theorem mw_X6_removeFoul : q_mw yX6_removeFoul cX6_removeFoul 2 (Option.none : Option Jvm.ClassFile.FieldType) 1 := ⟨q_t3 223 rfl rfl, by decide +kernel, by decide +kernel, q_init_QuillRelay_Team⟩
set_option maxRecDepth 100000 in
theorem mi_X6_removeFoul : Cond.instanceMethod yX6_removeFoul ∈ q_W := q_t3 221 rfl rfl
set_option maxRecDepth 100000 in
theorem me_X6_removeFoul : Cond.selects yX6_removeFoul.cls yX6_removeFoul yX6_removeFoul ∈ q_W := q_t3 222 rfl rfl
def tb_X6_removeFoul : List q_E := [(0, .iload_n 1, 1, 0, 0), (1, .ifCond .ne 11, 3, 0, 12), (4, .aload_n 0, 1, 0, 0), (5, .iconst 0, 1, 0, 0), (6, .putfield 59, 3, 0, 0), (9, .goto 8, 3, 0, 17), (12, .aload_n 0, 1, 0, 0), (13, .iconst 0, 1, 0, 0), (14, .putfield 63, 3, 0, 0), (17, .return_, 1, 0, 0)]
set_option maxRecDepth 100000 in
theorem tk_X6_removeFoul : q_tb cX6_removeFoul 2 tb_X6_removeFoul = true := by decide +kernel
set_option maxRecDepth 100000 in
theorem mw_X6_result : q_mw yX6_result cX6_result 1 (Option.some Jvm.ClassFile.FieldType.int) 0 := ⟨q_t4 131 rfl rfl, by decide +kernel, by decide +kernel, q_init_QuillRelay_Team⟩
set_option maxRecDepth 100000 in
theorem mi_X6_result : Cond.instanceMethod yX6_result ∈ q_W := q_t4 129 rfl rfl
set_option maxRecDepth 100000 in
theorem me_X6_result : Cond.selects yX6_result.cls yX6_result yX6_result ∈ q_W := q_t4 130 rfl rfl
def tb_X6_result : List q_E := [(0, .aload_n 0, 1, 0, 0), (1, .getfield 56, 3, 0, 0), (4, .aload_n 0, 1, 0, 0), (5, .getfield 50, 3, 0, 0), (8, .iadd, 1, 0, 0), (9, .ireturn, 1, 0, 0)]
set_option maxRecDepth 100000 in
theorem tk_X6_result : q_tb cX6_result 1 tb_X6_result = true := by decide +kernel
set_option maxRecDepth 100000 in
theorem mw_X6_isAheadOf : q_mw yX6_isAheadOf cX6_isAheadOf 3 (Option.some Jvm.ClassFile.FieldType.boolean) 1 := ⟨q_t4 150 rfl rfl, by decide +kernel, by decide +kernel, q_init_QuillRelay_Team⟩
set_option maxRecDepth 100000 in
theorem mi_X6_isAheadOf : Cond.instanceMethod yX6_isAheadOf ∈ q_W := q_t4 148 rfl rfl
set_option maxRecDepth 100000 in
theorem me_X6_isAheadOf : Cond.selects yX6_isAheadOf.cls yX6_isAheadOf yX6_isAheadOf ∈ q_W := q_t4 149 rfl rfl
def tb_X6_isAheadOf : List q_E := [(0, .aload_n 0, 1, 0, 0), (1, .getfield 28, 3, 0, 0), (4, .getfield 98, 3, 0, 0), (7, .aload_n 1, 1, 0, 0), (8, .getfield 28, 3, 0, 0), (11, .getfield 98, 3, 0, 0), (14, .if_icmp .eq 26, 3, 0, 40), (17, .aload_n 0, 1, 0, 0), (18, .getfield 28, 3, 0, 0), (21, .getfield 98, 3, 0, 0), (24, .aload_n 1, 1, 0, 0), (25, .getfield 28, 3, 0, 0), (28, .getfield 98, 3, 0, 0), (31, .if_icmp .ge 7, 3, 0, 38), (34, .iconst 1, 1, 1, 0), (35, .goto 4, 3, 0, 39), (38, .iconst 0, 1, 0, 0), (39, .ireturn, 1, 0, 0), (40, .aload_n 0, 1, 0, 0), (41, .getfield 28, 3, 0, 0), (44, .getstatic 82, 3, 0, 0), (47, .if_acmp .ne 15, 3, 0, 62), (50, .aload_n 1, 1, 0, 0), (51, .invokevirtual 101, 3, 0, 0), (54, .aload_n 0, 1, 0, 0), (55, .invokevirtual 101, 3, 0, 0), (58, .isub, 1, 0, 0), (59, .goto 12, 3, 0, 71), (62, .aload_n 0, 1, 0, 0), (63, .getfield 38, 3, 0, 0), (66, .aload_n 1, 1, 0, 0), (67, .getfield 38, 3, 0, 0), (70, .isub, 1, 0, 0), (71, .istore_n 2, 1, 0, 0), (72, .iload_n 2, 1, 0, 0), (73, .ifCond .eq 15, 3, 0, 88), (76, .iload_n 2, 1, 0, 0), (77, .ifCond .le 7, 3, 0, 84), (80, .iconst 1, 1, 1, 0), (81, .goto 23, 3, 0, 104), (84, .iconst 0, 1, 0, 0), (85, .goto 19, 3, 0, 104), (88, .aload_n 0, 1, 0, 0), (89, .getfield 31, 3, 0, 0), (92, .aload_n 1, 1, 0, 0), (93, .getfield 31, 3, 0, 0), (96, .if_icmp .ge 7, 3, 0, 103), (99, .iconst 1, 1, 1, 0), (100, .goto 4, 3, 0, 104), (103, .iconst 0, 1, 0, 0), (104, .ireturn, 1, 0, 0)]
set_option maxRecDepth 100000 in
theorem tk_X6_isAheadOf : q_tb cX6_isAheadOf 3 tb_X6_isAheadOf = true := by decide +kernel
set_option maxRecDepth 100000 in
theorem mw_X8_init : q_mw yX8_init cX8_init 1 (Option.none : Option Jvm.ClassFile.FieldType) 0 := ⟨q_t1 39 rfl rfl, by decide +kernel, by decide +kernel, q_init_QuillRelay⟩
set_option maxRecDepth 100000 in
theorem mi_X8_init : Cond.instanceMethod yX8_init ∈ q_W := q_t1 38 rfl rfl
def tb_X8_init : List q_E := [(0, .aload_n 0, 1, 0, 0), (1, .invokespecial 1, 3, 0, 0), (4, .aload_n 0, 1, 0, 0), (5, .new 7, 3, 0, 0), (8, .dup, 1, 0, 0), (9, .invokespecial 9, 3, 0, 0), (12, .putfield 10, 3, 0, 0), (15, .aload_n 0, 1, 0, 0), (16, .new 7, 3, 0, 0), (19, .dup, 1, 0, 0), (20, .invokespecial 9, 3, 0, 0), (23, .putfield 16, 3, 0, 0), (26, .aload_n 0, 1, 0, 0), (27, .new 7, 3, 0, 0), (30, .dup, 1, 0, 0), (31, .invokespecial 9, 3, 0, 0), (34, .putfield 19, 3, 0, 0), (37, .aload_n 0, 1, 0, 0), (38, .new 22, 3, 0, 0), (41, .dup, 1, 0, 0), (42, .invokespecial 24, 3, 0, 0), (45, .putfield 25, 3, 0, 0), (48, .aload_n 0, 1, 0, 0), (49, .new 29, 3, 0, 0), (52, .dup, 1, 0, 0), (53, .invokespecial 31, 3, 0, 0), (56, .putfield 32, 3, 0, 0), (59, .aload_n 0, 1, 0, 0), (60, .new 36, 3, 0, 0), (63, .dup, 1, 0, 0), (64, .invokespecial 38, 3, 0, 0), (67, .putfield 39, 3, 0, 0), (70, .aload_n 0, 1, 0, 0), (71, .iconst 0, 1, 0, 0), (72, .putfield 43, 3, 0, 0), (75, .aload_n 0, 1, 0, 0), (76, .iconst 0, 1, 0, 0), (77, .putfield 47, 3, 0, 0), (80, .aload_n 0, 1, 0, 0), (81, .iconst (-1), 1, (-1), 0), (82, .putfield 51, 3, 0, 0), (85, .aload_n 0, 1, 0, 0), (86, .iconst (-1), 1, (-1), 0), (87, .putfield 54, 3, 0, 0), (90, .aload_n 0, 1, 0, 0), (91, .iconst (-1), 1, (-1), 0), (92, .putfield 57, 3, 0, 0), (95, .return_, 1, 0, 0)]
set_option maxRecDepth 100000 in
theorem tk_X8_init : q_tb cX8_init 1 tb_X8_init = true := by decide +kernel
set_option maxRecDepth 100000 in
theorem mw_X8_addTeam : q_mw yX8_addTeam cX8_addTeam 1 (Option.some Jvm.ClassFile.FieldType.int) 0 := ⟨q_t2 81 rfl rfl, by decide +kernel, by decide +kernel, q_init_QuillRelay⟩
set_option maxRecDepth 100000 in
theorem mi_X8_addTeam : Cond.instanceMethod yX8_addTeam ∈ q_W := q_t2 79 rfl rfl
set_option maxRecDepth 100000 in
theorem me_X8_addTeam : Cond.selects yX8_addTeam.cls yX8_addTeam yX8_addTeam ∈ q_W := q_t2 80 rfl rfl
def tb_X8_addTeam : List q_E := [(0, .aload_n 0, 1, 0, 0), (1, .getfield 10, 3, 0, 0), (4, .invokevirtual 60, 3, 0, 0), (7, .invokestatic 64, 3, 0, 0), (10, .aload_n 0, 1, 0, 0), (11, .getfield 25, 3, 0, 0), (14, .aload_n 0, 1, 0, 0), (15, .getfield 10, 3, 0, 0), (18, .invokevirtual 68, 3, 0, 0), (21, .aload_n 0, 1, 0, 0), (22, .getfield 10, 3, 0, 0), (25, .invokevirtual 72, 3, 0, 0), (28, .ireturn, 1, 0, 0)]
set_option maxRecDepth 100000 in
theorem tk_X8_addTeam : q_tb cX8_addTeam 1 tb_X8_addTeam = true := by decide +kernel
set_option maxRecDepth 100000 in
theorem mw_X8_setSpeed : q_mw yX8_setSpeed cX8_setSpeed 4 (Option.some Jvm.ClassFile.FieldType.int) 3 := ⟨q_t3 23 rfl rfl, by decide +kernel, by decide +kernel, q_init_QuillRelay⟩
set_option maxRecDepth 100000 in
theorem mi_X8_setSpeed : Cond.instanceMethod yX8_setSpeed ∈ q_W := q_t3 21 rfl rfl
set_option maxRecDepth 100000 in
theorem me_X8_setSpeed : Cond.selects yX8_setSpeed.cls yX8_setSpeed yX8_setSpeed ∈ q_W := q_t3 22 rfl rfl
def tb_X8_setSpeed : List q_E := [(0, .aload_n 0, 1, 0, 0), (1, .getfield 10, 3, 0, 0), (4, .iload_n 1, 1, 0, 0), (5, .iload_n 2, 1, 0, 0), (6, .iload_n 3, 1, 0, 0), (7, .invokevirtual 76, 3, 0, 0), (10, .invokestatic 64, 3, 0, 0), (13, .aload_n 0, 1, 0, 0), (14, .getfield 25, 3, 0, 0), (17, .aload_n 0, 1, 0, 0), (18, .getfield 10, 3, 0, 0), (21, .invokevirtual 68, 3, 0, 0), (24, .aload_n 0, 1, 0, 0), (25, .iload_n 1, 1, 0, 0), (26, .invokevirtual 80, 3, 0, 0), (29, .iload_n 2, 1, 0, 0), (30, .iload_n 3, 1, 0, 0), (31, .invokevirtual 84, 3, 0, 0), (34, .ireturn, 1, 0, 0)]
set_option maxRecDepth 100000 in
theorem tk_X8_setSpeed : q_tb cX8_setSpeed 4 tb_X8_setSpeed = true := by decide +kernel
set_option maxRecDepth 100000 in
theorem mw_X8_setLength : q_mw yX8_setLength cX8_setLength 3 (Option.some Jvm.ClassFile.FieldType.int) 1 := ⟨q_t3 57 rfl rfl, by decide +kernel, by decide +kernel, q_init_QuillRelay⟩
set_option maxRecDepth 100000 in
theorem mi_X8_setLength : Cond.instanceMethod yX8_setLength ∈ q_W := q_t3 55 rfl rfl
set_option maxRecDepth 100000 in
theorem me_X8_setLength : Cond.selects yX8_setLength.cls yX8_setLength yX8_setLength ∈ q_W := q_t3 56 rfl rfl
def tb_X8_setLength : List q_E := [(0, .aload_n 0, 1, 0, 0), (1, .getfield 10, 3, 0, 0), (4, .iload_n 1, 1, 0, 0), (5, .invokevirtual 90, 3, 0, 0), (8, .invokestatic 64, 3, 0, 0), (11, .aload_n 0, 1, 0, 0), (12, .getfield 25, 3, 0, 0), (15, .aload_n 0, 1, 0, 0), (16, .getfield 10, 3, 0, 0), (19, .invokevirtual 68, 3, 0, 0), (22, .aload_n 0, 1, 0, 0), (23, .getfield 10, 3, 0, 0), (26, .getfield 94, 3, 0, 0), (29, .istore_n 2, 1, 0, 0), (30, .aload_n 0, 1, 0, 0), (31, .getfield 10, 3, 0, 0), (34, .iload_n 1, 1, 0, 0), (35, .putfield 94, 3, 0, 0), (38, .iload_n 2, 1, 0, 0), (39, .ireturn, 1, 0, 0)]
set_option maxRecDepth 100000 in
theorem tk_X8_setLength : q_tb cX8_setLength 3 tb_X8_setLength = true := by decide +kernel
set_option maxRecDepth 100000 in
theorem mw_X8_drawLanes : q_mw yX8_drawLanes cX8_drawLanes 2 (Option.some Jvm.ClassFile.FieldType.int) 1 := ⟨q_t3 68 rfl rfl, by decide +kernel, by decide +kernel, q_init_QuillRelay⟩
set_option maxRecDepth 100000 in
theorem mi_X8_drawLanes : Cond.instanceMethod yX8_drawLanes ∈ q_W := q_t3 66 rfl rfl
set_option maxRecDepth 100000 in
theorem me_X8_drawLanes : Cond.selects yX8_drawLanes.cls yX8_drawLanes yX8_drawLanes ∈ q_W := q_t3 67 rfl rfl
def tb_X8_drawLanes : List q_E := [(0, .aload_n 0, 1, 0, 0), (1, .getfield 10, 3, 0, 0), (4, .iload_n 1, 1, 0, 0), (5, .invokevirtual 97, 3, 0, 0), (8, .invokestatic 64, 3, 0, 0), (11, .aload_n 0, 1, 0, 0), (12, .getfield 25, 3, 0, 0), (15, .aload_n 0, 1, 0, 0), (16, .getfield 10, 3, 0, 0), (19, .invokevirtual 68, 3, 0, 0), (22, .aload_n 0, 1, 0, 0), (23, .getfield 10, 3, 0, 0), (26, .iload_n 1, 1, 0, 0), (27, .invokevirtual 100, 3, 0, 0), (30, .aload_n 0, 1, 0, 0), (31, .iconst 0, 1, 0, 0), (32, .invokevirtual 80, 3, 0, 0), (35, .getfield 104, 3, 0, 0), (38, .ireturn, 1, 0, 0)]
set_option maxRecDepth 100000 in
theorem tk_X8_drawLanes : q_tb cX8_drawLanes 2 tb_X8_drawLanes = true := by decide +kernel
set_option maxRecDepth 100000 in
theorem mw_X8_start : q_mw yX8_start cX8_start 1 (Option.some Jvm.ClassFile.FieldType.int) 0 := ⟨q_t3 95 rfl rfl, by decide +kernel, by decide +kernel, q_init_QuillRelay⟩
set_option maxRecDepth 100000 in
theorem mi_X8_start : Cond.instanceMethod yX8_start ∈ q_W := q_t3 93 rfl rfl
set_option maxRecDepth 100000 in
theorem me_X8_start : Cond.selects yX8_start.cls yX8_start yX8_start ∈ q_W := q_t3 94 rfl rfl
def tb_X8_start : List q_E := [(0, .aload_n 0, 1, 0, 0), (1, .getfield 10, 3, 0, 0), (4, .invokevirtual 107, 3, 0, 0), (7, .invokestatic 64, 3, 0, 0), (10, .aload_n 0, 1, 0, 0), (11, .getfield 25, 3, 0, 0), (14, .aload_n 0, 1, 0, 0), (15, .getfield 10, 3, 0, 0), (18, .invokevirtual 68, 3, 0, 0), (21, .aload_n 0, 1, 0, 0), (22, .getfield 10, 3, 0, 0), (25, .invokevirtual 110, 3, 0, 0), (28, .aload_n 0, 1, 0, 0), (29, .getfield 10, 3, 0, 0), (32, .invokevirtual 113, 3, 0, 0), (35, .ireturn, 1, 0, 0)]
set_option maxRecDepth 100000 in
theorem tk_X8_start : q_tb cX8_start 1 tb_X8_start = true := by decide +kernel
set_option maxRecDepth 100000 in
theorem mw_X8_run : q_mw yX8_run cX8_run 2 (Option.some Jvm.ClassFile.FieldType.int) 1 := ⟨q_t3 107 rfl rfl, by decide +kernel, by decide +kernel, q_init_QuillRelay⟩
set_option maxRecDepth 100000 in
theorem mi_X8_run : Cond.instanceMethod yX8_run ∈ q_W := q_t3 105 rfl rfl
set_option maxRecDepth 100000 in
theorem me_X8_run : Cond.selects yX8_run.cls yX8_run yX8_run ∈ q_W := q_t3 106 rfl rfl
def tb_X8_run : List q_E := [(0, .aload_n 0, 1, 0, 0), (1, .getfield 10, 3, 0, 0), (4, .iload_n 1, 1, 0, 0), (5, .invokevirtual 116, 3, 0, 0), (8, .invokestatic 64, 3, 0, 0), (11, .aload_n 0, 1, 0, 0), (12, .getfield 25, 3, 0, 0), (15, .aload_n 0, 1, 0, 0), (16, .getfield 10, 3, 0, 0), (19, .invokevirtual 68, 3, 0, 0), (22, .aload_n 0, 1, 0, 0), (23, .getfield 10, 3, 0, 0), (26, .iload_n 1, 1, 0, 0), (27, .invokevirtual 119, 3, 0, 0), (30, .ireturn, 1, 0, 0)]
set_option maxRecDepth 100000 in
theorem tk_X8_run : q_tb cX8_run 2 tb_X8_run = true := by decide +kernel
set_option maxRecDepth 100000 in
theorem mw_X8_pass : q_mw yX8_pass cX8_pass 2 (Option.some Jvm.ClassFile.FieldType.int) 1 := ⟨q_t3 148 rfl rfl, by decide +kernel, by decide +kernel, q_init_QuillRelay⟩
set_option maxRecDepth 100000 in
theorem mi_X8_pass : Cond.instanceMethod yX8_pass ∈ q_W := q_t3 146 rfl rfl
set_option maxRecDepth 100000 in
theorem me_X8_pass : Cond.selects yX8_pass.cls yX8_pass yX8_pass ∈ q_W := q_t3 147 rfl rfl
def tb_X8_pass : List q_E := [(0, .aload_n 0, 1, 0, 0), (1, .iload_n 1, 1, 0, 0), (2, .invokevirtual 123, 3, 0, 0), (5, .invokestatic 64, 3, 0, 0), (8, .aload_n 0, 1, 0, 0), (9, .getfield 25, 3, 0, 0), (12, .aload_n 0, 1, 0, 0), (13, .getfield 10, 3, 0, 0), (16, .invokevirtual 68, 3, 0, 0), (19, .aload_n 0, 1, 0, 0), (20, .getfield 10, 3, 0, 0), (23, .aload_n 0, 1, 0, 0), (24, .iload_n 1, 1, 0, 0), (25, .invokevirtual 80, 3, 0, 0), (28, .invokevirtual 126, 3, 0, 0), (31, .ireturn, 1, 0, 0)]
set_option maxRecDepth 100000 in
theorem tk_X8_pass : q_tb cX8_pass 2 tb_X8_pass = true := by decide +kernel
set_option maxRecDepth 100000 in
theorem mw_X8_drop : q_mw yX8_drop cX8_drop 3 (Option.some Jvm.ClassFile.FieldType.int) 2 := ⟨q_t3 171 rfl rfl, by decide +kernel, by decide +kernel, q_init_QuillRelay⟩
set_option maxRecDepth 100000 in
theorem mi_X8_drop : Cond.instanceMethod yX8_drop ∈ q_W := q_t3 169 rfl rfl
set_option maxRecDepth 100000 in
theorem me_X8_drop : Cond.selects yX8_drop.cls yX8_drop yX8_drop ∈ q_W := q_t3 170 rfl rfl
def tb_X8_drop : List q_E := [(0, .aload_n 0, 1, 0, 0), (1, .getfield 10, 3, 0, 0), (4, .iload_n 1, 1, 0, 0), (5, .iload_n 2, 1, 0, 0), (6, .invokevirtual 130, 3, 0, 0), (9, .invokestatic 64, 3, 0, 0), (12, .aload_n 0, 1, 0, 0), (13, .getfield 25, 3, 0, 0), (16, .aload_n 0, 1, 0, 0), (17, .getfield 10, 3, 0, 0), (20, .invokevirtual 68, 3, 0, 0), (23, .aload_n 0, 1, 0, 0), (24, .getfield 10, 3, 0, 0), (27, .aload_n 0, 1, 0, 0), (28, .iload_n 1, 1, 0, 0), (29, .invokevirtual 80, 3, 0, 0), (32, .iload_n 2, 1, 0, 0), (33, .invokevirtual 134, 3, 0, 0), (36, .ireturn, 1, 0, 0)]
set_option maxRecDepth 100000 in
theorem tk_X8_drop : q_tb cX8_drop 3 tb_X8_drop = true := by decide +kernel
set_option maxRecDepth 100000 in
theorem mw_X8_withdraw : q_mw yX8_withdraw cX8_withdraw 2 (Option.some Jvm.ClassFile.FieldType.int) 1 := ⟨q_t3 194 rfl rfl, by decide +kernel, by decide +kernel, q_init_QuillRelay⟩
set_option maxRecDepth 100000 in
theorem mi_X8_withdraw : Cond.instanceMethod yX8_withdraw ∈ q_W := q_t3 192 rfl rfl
set_option maxRecDepth 100000 in
theorem me_X8_withdraw : Cond.selects yX8_withdraw.cls yX8_withdraw yX8_withdraw ∈ q_W := q_t3 193 rfl rfl
def tb_X8_withdraw : List q_E := [(0, .aload_n 0, 1, 0, 0), (1, .getfield 10, 3, 0, 0), (4, .iload_n 1, 1, 0, 0), (5, .invokevirtual 138, 3, 0, 0), (8, .invokestatic 64, 3, 0, 0), (11, .aload_n 0, 1, 0, 0), (12, .getfield 25, 3, 0, 0), (15, .aload_n 0, 1, 0, 0), (16, .getfield 10, 3, 0, 0), (19, .invokevirtual 68, 3, 0, 0), (22, .aload_n 0, 1, 0, 0), (23, .iload_n 1, 1, 0, 0), (24, .invokevirtual 80, 3, 0, 0), (27, .getstatic 141, 3, 0, 0), (30, .putfield 147, 3, 0, 0), (33, .aload_n 0, 1, 0, 0), (34, .getfield 10, 3, 0, 0), (37, .invokevirtual 150, 3, 0, 0), (40, .ireturn, 1, 0, 0)]
set_option maxRecDepth 100000 in
theorem tk_X8_withdraw : q_tb cX8_withdraw 2 tb_X8_withdraw = true := by decide +kernel
set_option maxRecDepth 100000 in
theorem mw_X8_protest : q_mw yX8_protest cX8_protest 4 (Option.some Jvm.ClassFile.FieldType.boolean) 3 := ⟨q_t3 204 rfl rfl, by decide +kernel, by decide +kernel, q_init_QuillRelay⟩
set_option maxRecDepth 100000 in
theorem mi_X8_protest : Cond.instanceMethod yX8_protest ∈ q_W := q_t3 202 rfl rfl
set_option maxRecDepth 100000 in
theorem me_X8_protest : Cond.selects yX8_protest.cls yX8_protest yX8_protest ∈ q_W := q_t3 203 rfl rfl
def tb_X8_protest : List q_E := [(0, .aload_n 0, 1, 0, 0), (1, .getfield 10, 3, 0, 0), (4, .iload_n 1, 1, 0, 0), (5, .iload_n 2, 1, 0, 0), (6, .iload_n 3, 1, 0, 0), (7, .invokevirtual 153, 3, 0, 0), (10, .invokestatic 64, 3, 0, 0), (13, .aload_n 0, 1, 0, 0), (14, .getfield 25, 3, 0, 0), (17, .aload_n 0, 1, 0, 0), (18, .getfield 10, 3, 0, 0), (21, .invokevirtual 68, 3, 0, 0), (24, .aload_n 0, 1, 0, 0), (25, .getfield 10, 3, 0, 0), (28, .aload_n 0, 1, 0, 0), (29, .iload_n 1, 1, 0, 0), (30, .invokevirtual 80, 3, 0, 0), (33, .aload_n 0, 1, 0, 0), (34, .iload_n 2, 1, 0, 0), (35, .invokevirtual 80, 3, 0, 0), (38, .iload_n 3, 1, 0, 0), (39, .invokevirtual 156, 3, 0, 0), (42, .ireturn, 1, 0, 0)]
set_option maxRecDepth 100000 in
theorem tk_X8_protest : q_tb cX8_protest 4 tb_X8_protest = true := by decide +kernel
set_option maxRecDepth 100000 in
theorem mw_X8_teamCount : q_mw yX8_teamCount cX8_teamCount 1 (Option.some Jvm.ClassFile.FieldType.int) 0 := ⟨q_t2 20 rfl rfl, by decide +kernel, by decide +kernel, q_init_QuillRelay⟩
set_option maxRecDepth 100000 in
theorem mi_X8_teamCount : Cond.instanceMethod yX8_teamCount ∈ q_W := q_t2 18 rfl rfl
set_option maxRecDepth 100000 in
theorem me_X8_teamCount : Cond.selects yX8_teamCount.cls yX8_teamCount yX8_teamCount ∈ q_W := q_t2 19 rfl rfl
def tb_X8_teamCount : List q_E := [(0, .aload_n 0, 1, 0, 0), (1, .getfield 10, 3, 0, 0), (4, .invokevirtual 113, 3, 0, 0), (7, .ireturn, 1, 0, 0)]
set_option maxRecDepth 100000 in
theorem tk_X8_teamCount : q_tb cX8_teamCount 1 tb_X8_teamCount = true := by decide +kernel
set_option maxRecDepth 100000 in
theorem mw_X8_runningCount : q_mw yX8_runningCount cX8_runningCount 1 (Option.some Jvm.ClassFile.FieldType.int) 0 := ⟨q_t2 33 rfl rfl, by decide +kernel, by decide +kernel, q_init_QuillRelay⟩
set_option maxRecDepth 100000 in
theorem mi_X8_runningCount : Cond.instanceMethod yX8_runningCount ∈ q_W := q_t2 31 rfl rfl
set_option maxRecDepth 100000 in
theorem me_X8_runningCount : Cond.selects yX8_runningCount.cls yX8_runningCount yX8_runningCount ∈ q_W := q_t2 32 rfl rfl
def tb_X8_runningCount : List q_E := [(0, .aload_n 0, 1, 0, 0), (1, .getfield 10, 3, 0, 0), (4, .invokevirtual 150, 3, 0, 0), (7, .ireturn, 1, 0, 0)]
set_option maxRecDepth 100000 in
theorem tk_X8_runningCount : q_tb cX8_runningCount 1 tb_X8_runningCount = true := by decide +kernel
set_option maxRecDepth 100000 in
theorem mw_X8_isStarted : q_mw yX8_isStarted cX8_isStarted 1 (Option.some Jvm.ClassFile.FieldType.boolean) 0 := ⟨q_t2 43 rfl rfl, by decide +kernel, by decide +kernel, q_init_QuillRelay⟩
set_option maxRecDepth 100000 in
theorem mi_X8_isStarted : Cond.instanceMethod yX8_isStarted ∈ q_W := q_t2 41 rfl rfl
set_option maxRecDepth 100000 in
theorem me_X8_isStarted : Cond.selects yX8_isStarted.cls yX8_isStarted yX8_isStarted ∈ q_W := q_t2 42 rfl rfl
def tb_X8_isStarted : List q_E := [(0, .aload_n 0, 1, 0, 0), (1, .getfield 10, 3, 0, 0), (4, .getfield 160, 3, 0, 0), (7, .ireturn, 1, 0, 0)]
set_option maxRecDepth 100000 in
theorem tk_X8_isStarted : q_tb cX8_isStarted 1 tb_X8_isStarted = true := by decide +kernel
set_option maxRecDepth 100000 in
theorem mw_X8_isFinished : q_mw yX8_isFinished cX8_isFinished 1 (Option.some Jvm.ClassFile.FieldType.boolean) 0 := ⟨q_t2 47 rfl rfl, by decide +kernel, by decide +kernel, q_init_QuillRelay⟩
set_option maxRecDepth 100000 in
theorem mi_X8_isFinished : Cond.instanceMethod yX8_isFinished ∈ q_W := q_t2 45 rfl rfl
set_option maxRecDepth 100000 in
theorem me_X8_isFinished : Cond.selects yX8_isFinished.cls yX8_isFinished yX8_isFinished ∈ q_W := q_t2 46 rfl rfl
def tb_X8_isFinished : List q_E := [(0, .aload_n 0, 1, 0, 0), (1, .getfield 10, 3, 0, 0), (4, .getfield 160, 3, 0, 0), (7, .ifCond .eq 17, 3, 0, 24), (10, .aload_n 0, 1, 0, 0), (11, .getfield 10, 3, 0, 0), (14, .invokevirtual 150, 3, 0, 0), (17, .ifCond .ne 7, 3, 0, 24), (20, .iconst 1, 1, 1, 0), (21, .goto 4, 3, 0, 25), (24, .iconst 0, 1, 0, 0), (25, .ireturn, 1, 0, 0)]
set_option maxRecDepth 100000 in
theorem tk_X8_isFinished : q_tb cX8_isFinished 1 tb_X8_isFinished = true := by decide +kernel
set_option maxRecDepth 100000 in
theorem mw_X8_clock : q_mw yX8_clock cX8_clock 1 (Option.some Jvm.ClassFile.FieldType.int) 0 := ⟨q_t2 51 rfl rfl, by decide +kernel, by decide +kernel, q_init_QuillRelay⟩
set_option maxRecDepth 100000 in
theorem mi_X8_clock : Cond.instanceMethod yX8_clock ∈ q_W := q_t2 49 rfl rfl
set_option maxRecDepth 100000 in
theorem me_X8_clock : Cond.selects yX8_clock.cls yX8_clock yX8_clock ∈ q_W := q_t2 50 rfl rfl
def tb_X8_clock : List q_E := [(0, .aload_n 0, 1, 0, 0), (1, .getfield 10, 3, 0, 0), (4, .getfield 163, 3, 0, 0), (7, .ireturn, 1, 0, 0)]
set_option maxRecDepth 100000 in
theorem tk_X8_clock : q_tb cX8_clock 1 tb_X8_clock = true := by decide +kernel
set_option maxRecDepth 100000 in
theorem mw_X8_length : q_mw yX8_length cX8_length 1 (Option.some Jvm.ClassFile.FieldType.int) 0 := ⟨q_t2 55 rfl rfl, by decide +kernel, by decide +kernel, q_init_QuillRelay⟩
set_option maxRecDepth 100000 in
theorem mi_X8_length : Cond.instanceMethod yX8_length ∈ q_W := q_t2 53 rfl rfl
set_option maxRecDepth 100000 in
theorem me_X8_length : Cond.selects yX8_length.cls yX8_length yX8_length ∈ q_W := q_t2 54 rfl rfl
def tb_X8_length : List q_E := [(0, .aload_n 0, 1, 0, 0), (1, .getfield 10, 3, 0, 0), (4, .getfield 94, 3, 0, 0), (7, .ireturn, 1, 0, 0)]
set_option maxRecDepth 100000 in
theorem tk_X8_length : q_tb cX8_length 1 tb_X8_length = true := by decide +kernel
set_option maxRecDepth 100000 in
theorem mw_X8_laneOf : q_mw yX8_laneOf cX8_laneOf 2 (Option.some Jvm.ClassFile.FieldType.int) 1 := ⟨q_t3 230 rfl rfl, by decide +kernel, by decide +kernel, q_init_QuillRelay⟩
set_option maxRecDepth 100000 in
theorem mi_X8_laneOf : Cond.instanceMethod yX8_laneOf ∈ q_W := q_t3 228 rfl rfl
set_option maxRecDepth 100000 in
theorem me_X8_laneOf : Cond.selects yX8_laneOf.cls yX8_laneOf yX8_laneOf ∈ q_W := q_t3 229 rfl rfl
def tb_X8_laneOf : List q_E := [(0, .aload_n 0, 1, 0, 0), (1, .iload_n 1, 1, 0, 0), (2, .invokevirtual 80, 3, 0, 0), (5, .getfield 104, 3, 0, 0), (8, .ireturn, 1, 0, 0)]
set_option maxRecDepth 100000 in
theorem tk_X8_laneOf : q_tb cX8_laneOf 2 tb_X8_laneOf = true := by decide +kernel
set_option maxRecDepth 100000 in
theorem mw_X8_teamInLane : q_mw yX8_teamInLane cX8_teamInLane 3 (Option.some Jvm.ClassFile.FieldType.int) 1 := ⟨q_t3 238 rfl rfl, by decide +kernel, by decide +kernel, q_init_QuillRelay⟩
set_option maxRecDepth 100000 in
theorem mi_X8_teamInLane : Cond.instanceMethod yX8_teamInLane ∈ q_W := q_t3 236 rfl rfl
set_option maxRecDepth 100000 in
theorem me_X8_teamInLane : Cond.selects yX8_teamInLane.cls yX8_teamInLane yX8_teamInLane ∈ q_W := q_t3 237 rfl rfl
def tb_X8_teamInLane : List q_E := [(0, .aload_n 0, 1, 0, 0), (1, .getfield 10, 3, 0, 0), (4, .iload_n 1, 1, 0, 0), (5, .invokevirtual 166, 3, 0, 0), (8, .istore_n 2, 1, 0, 0), (9, .iload_n 2, 1, 0, 0), (10, .iconst (-1), 1, (-1), 0), (11, .if_icmp .ne 13, 3, 0, 24), (14, .new 169, 3, 0, 0), (17, .dup, 1, 0, 0), (18, .ldc 171, 2, 0, 0), (20, .invokespecial 173, 3, 0, 0), (23, .athrow, 1, 0, 0), (24, .iload_n 2, 1, 0, 0), (25, .ireturn, 1, 0, 0)]
set_option maxRecDepth 100000 in
theorem tk_X8_teamInLane : q_tb cX8_teamInLane 3 tb_X8_teamInLane = true := by decide +kernel
set_option maxRecDepth 100000 in
theorem mw_X8_speedOf : q_mw yX8_speedOf cX8_speedOf 3 (Option.some Jvm.ClassFile.FieldType.int) 2 := ⟨q_t4 25 rfl rfl, by decide +kernel, by decide +kernel, q_init_QuillRelay⟩
set_option maxRecDepth 100000 in
theorem mi_X8_speedOf : Cond.instanceMethod yX8_speedOf ∈ q_W := q_t4 23 rfl rfl
set_option maxRecDepth 100000 in
theorem me_X8_speedOf : Cond.selects yX8_speedOf.cls yX8_speedOf yX8_speedOf ∈ q_W := q_t4 24 rfl rfl
def tb_X8_speedOf : List q_E := [(0, .aload_n 0, 1, 0, 0), (1, .iload_n 1, 1, 0, 0), (2, .iload_n 2, 1, 0, 0), (3, .invokevirtual 176, 3, 0, 0), (6, .iload_n 2, 1, 0, 0), (7, .invokevirtual 180, 3, 0, 0), (10, .ireturn, 1, 0, 0)]
set_option maxRecDepth 100000 in
theorem tk_X8_speedOf : q_tb cX8_speedOf 3 tb_X8_speedOf = true := by decide +kernel
set_option maxRecDepth 100000 in
theorem mw_X8_positionOf : q_mw yX8_positionOf cX8_positionOf 2 (Option.some Jvm.ClassFile.FieldType.int) 1 := ⟨q_t4 42 rfl rfl, by decide +kernel, by decide +kernel, q_init_QuillRelay⟩
set_option maxRecDepth 100000 in
theorem mi_X8_positionOf : Cond.instanceMethod yX8_positionOf ∈ q_W := q_t4 40 rfl rfl
set_option maxRecDepth 100000 in
theorem me_X8_positionOf : Cond.selects yX8_positionOf.cls yX8_positionOf yX8_positionOf ∈ q_W := q_t4 41 rfl rfl
def tb_X8_positionOf : List q_E := [(0, .aload_n 0, 1, 0, 0), (1, .iload_n 1, 1, 0, 0), (2, .invokevirtual 80, 3, 0, 0), (5, .getfield 183, 3, 0, 0), (8, .ireturn, 1, 0, 0)]
set_option maxRecDepth 100000 in
theorem tk_X8_positionOf : q_tb cX8_positionOf 2 tb_X8_positionOf = true := by decide +kernel
set_option maxRecDepth 100000 in
theorem mw_X8_legOf : q_mw yX8_legOf cX8_legOf 2 (Option.some Jvm.ClassFile.FieldType.int) 1 := ⟨q_t4 49 rfl rfl, by decide +kernel, by decide +kernel, q_init_QuillRelay⟩
set_option maxRecDepth 100000 in
theorem mi_X8_legOf : Cond.instanceMethod yX8_legOf ∈ q_W := q_t4 47 rfl rfl
set_option maxRecDepth 100000 in
theorem me_X8_legOf : Cond.selects yX8_legOf.cls yX8_legOf yX8_legOf ∈ q_W := q_t4 48 rfl rfl
def tb_X8_legOf : List q_E := [(0, .aload_n 0, 1, 0, 0), (1, .iload_n 1, 1, 0, 0), (2, .invokevirtual 80, 3, 0, 0), (5, .getfield 186, 3, 0, 0), (8, .ireturn, 1, 0, 0)]
set_option maxRecDepth 100000 in
theorem tk_X8_legOf : q_tb cX8_legOf 2 tb_X8_legOf = true := by decide +kernel
set_option maxRecDepth 100000 in
theorem mw_X8_isRunning : q_mw yX8_isRunning cX8_isRunning 2 (Option.some Jvm.ClassFile.FieldType.boolean) 1 := ⟨q_t4 56 rfl rfl, by decide +kernel, by decide +kernel, q_init_QuillRelay⟩
set_option maxRecDepth 100000 in
theorem mi_X8_isRunning : Cond.instanceMethod yX8_isRunning ∈ q_W := q_t4 54 rfl rfl
set_option maxRecDepth 100000 in
theorem me_X8_isRunning : Cond.selects yX8_isRunning.cls yX8_isRunning yX8_isRunning ∈ q_W := q_t4 55 rfl rfl
def tb_X8_isRunning : List q_E := [(0, .aload_n 0, 1, 0, 0), (1, .iload_n 1, 1, 0, 0), (2, .invokevirtual 80, 3, 0, 0), (5, .getfield 147, 3, 0, 0), (8, .getstatic 189, 3, 0, 0), (11, .if_acmp .ne 7, 3, 0, 18), (14, .iconst 1, 1, 1, 0), (15, .goto 4, 3, 0, 19), (18, .iconst 0, 1, 0, 0), (19, .ireturn, 1, 0, 0)]
set_option maxRecDepth 100000 in
theorem tk_X8_isRunning : q_tb cX8_isRunning 2 tb_X8_isRunning = true := by decide +kernel
set_option maxRecDepth 100000 in
theorem mw_X8_isInZone : q_mw yX8_isInZone cX8_isInZone 2 (Option.some Jvm.ClassFile.FieldType.boolean) 1 := ⟨q_t4 63 rfl rfl, by decide +kernel, by decide +kernel, q_init_QuillRelay⟩
set_option maxRecDepth 100000 in
theorem mi_X8_isInZone : Cond.instanceMethod yX8_isInZone ∈ q_W := q_t4 61 rfl rfl
set_option maxRecDepth 100000 in
theorem me_X8_isInZone : Cond.selects yX8_isInZone.cls yX8_isInZone yX8_isInZone ∈ q_W := q_t4 62 rfl rfl
def tb_X8_isInZone : List q_E := [(0, .aload_n 0, 1, 0, 0), (1, .iload_n 1, 1, 0, 0), (2, .invokevirtual 80, 3, 0, 0), (5, .aload_n 0, 1, 0, 0), (6, .getfield 10, 3, 0, 0), (9, .getfield 94, 3, 0, 0), (12, .invokevirtual 192, 3, 0, 0), (15, .ireturn, 1, 0, 0)]
set_option maxRecDepth 100000 in
theorem tk_X8_isInZone : q_tb cX8_isInZone 2 tb_X8_isInZone = true := by decide +kernel
set_option maxRecDepth 100000 in
theorem mw_X8_standingOf : q_mw yX8_standingOf cX8_standingOf 2 (Option.some Jvm.ClassFile.FieldType.int) 1 := ⟨q_t4 71 rfl rfl, by decide +kernel, by decide +kernel, q_init_QuillRelay⟩
set_option maxRecDepth 100000 in
theorem mi_X8_standingOf : Cond.instanceMethod yX8_standingOf ∈ q_W := q_t4 69 rfl rfl
set_option maxRecDepth 100000 in
theorem me_X8_standingOf : Cond.selects yX8_standingOf.cls yX8_standingOf yX8_standingOf ∈ q_W := q_t4 70 rfl rfl
def tb_X8_standingOf : List q_E := [(0, .aload_n 0, 1, 0, 0), (1, .iload_n 1, 1, 0, 0), (2, .invokevirtual 80, 3, 0, 0), (5, .getfield 196, 3, 0, 0), (8, .ireturn, 1, 0, 0)]
set_option maxRecDepth 100000 in
theorem tk_X8_standingOf : q_tb cX8_standingOf 2 tb_X8_standingOf = true := by decide +kernel
set_option maxRecDepth 100000 in
theorem mw_X8_penaltyOf : q_mw yX8_penaltyOf cX8_penaltyOf 2 (Option.some Jvm.ClassFile.FieldType.int) 1 := ⟨q_t4 78 rfl rfl, by decide +kernel, by decide +kernel, q_init_QuillRelay⟩
set_option maxRecDepth 100000 in
theorem mi_X8_penaltyOf : Cond.instanceMethod yX8_penaltyOf ∈ q_W := q_t4 76 rfl rfl
set_option maxRecDepth 100000 in
theorem me_X8_penaltyOf : Cond.selects yX8_penaltyOf.cls yX8_penaltyOf yX8_penaltyOf ∈ q_W := q_t4 77 rfl rfl
def tb_X8_penaltyOf : List q_E := [(0, .aload_n 0, 1, 0, 0), (1, .iload_n 1, 1, 0, 0), (2, .invokevirtual 80, 3, 0, 0), (5, .getfield 199, 3, 0, 0), (8, .ireturn, 1, 0, 0)]
set_option maxRecDepth 100000 in
theorem tk_X8_penaltyOf : q_tb cX8_penaltyOf 2 tb_X8_penaltyOf = true := by decide +kernel
set_option maxRecDepth 100000 in
theorem mw_X8_hasFoul : q_mw yX8_hasFoul cX8_hasFoul 4 (Option.some Jvm.ClassFile.FieldType.boolean) 2 := ⟨q_t4 85 rfl rfl, by decide +kernel, by decide +kernel, q_init_QuillRelay⟩
set_option maxRecDepth 100000 in
theorem mi_X8_hasFoul : Cond.instanceMethod yX8_hasFoul ∈ q_W := q_t4 83 rfl rfl
set_option maxRecDepth 100000 in
theorem me_X8_hasFoul : Cond.selects yX8_hasFoul.cls yX8_hasFoul yX8_hasFoul ∈ q_W := q_t4 84 rfl rfl
def tb_X8_hasFoul : List q_E := [(0, .aload_n 0, 1, 0, 0), (1, .iload_n 1, 1, 0, 0), (2, .invokevirtual 80, 3, 0, 0), (5, .astore_n 3, 1, 0, 0), (6, .iload_n 2, 1, 0, 0), (7, .invokestatic 202, 3, 0, 0), (10, .ifCond .ne 13, 3, 0, 23), (13, .new 205, 3, 0, 0), (16, .dup, 1, 0, 0), (17, .ldc 207, 2, 0, 0), (19, .invokespecial 209, 3, 0, 0), (22, .athrow, 1, 0, 0), (23, .aload_n 3, 1, 0, 0), (24, .iload_n 2, 1, 0, 0), (25, .invokevirtual 210, 3, 0, 0), (28, .ireturn, 1, 0, 0)]
set_option maxRecDepth 100000 in
theorem tk_X8_hasFoul : q_tb cX8_hasFoul 4 tb_X8_hasFoul = true := by decide +kernel
set_option maxRecDepth 100000 in
theorem mw_X8_splitOf : q_mw yX8_splitOf cX8_splitOf 4 (Option.some Jvm.ClassFile.FieldType.int) 2 := ⟨q_t4 95 rfl rfl, by decide +kernel, by decide +kernel, q_init_QuillRelay⟩
set_option maxRecDepth 100000 in
theorem mi_X8_splitOf : Cond.instanceMethod yX8_splitOf ∈ q_W := q_t4 93 rfl rfl
set_option maxRecDepth 100000 in
theorem me_X8_splitOf : Cond.selects yX8_splitOf.cls yX8_splitOf yX8_splitOf ∈ q_W := q_t4 94 rfl rfl
def tb_X8_splitOf : List q_E := [(0, .aload_n 0, 1, 0, 0), (1, .iload_n 1, 1, 0, 0), (2, .iload_n 2, 1, 0, 0), (3, .invokevirtual 176, 3, 0, 0), (6, .astore_n 3, 1, 0, 0), (7, .aload_n 3, 1, 0, 0), (8, .iload_n 2, 1, 0, 0), (9, .invokevirtual 213, 3, 0, 0), (12, .ifCond .ne 13, 3, 0, 25), (15, .new 169, 3, 0, 0), (18, .dup, 1, 0, 0), (19, .ldc 216, 2, 0, 0), (21, .invokespecial 173, 3, 0, 0), (24, .athrow, 1, 0, 0), (25, .aload_n 3, 1, 0, 0), (26, .getfield 218, 3, 0, 0), (29, .iload_n 2, 1, 0, 0), (30, .invokestatic 222, 3, 0, 0), (33, .ireturn, 1, 0, 0)]
set_option maxRecDepth 100000 in
theorem tk_X8_splitOf : q_tb cX8_splitOf 4 tb_X8_splitOf = true := by decide +kernel
set_option maxRecDepth 100000 in
theorem mw_X8_splitSum : q_mw yX8_splitSum cX8_splitSum 7 (Option.some Jvm.ClassFile.FieldType.int) 1 := ⟨q_t4 107 rfl rfl, by decide +kernel, by decide +kernel, q_init_QuillRelay⟩
set_option maxRecDepth 100000 in
theorem mi_X8_splitSum : Cond.instanceMethod yX8_splitSum ∈ q_W := q_t4 105 rfl rfl
set_option maxRecDepth 100000 in
theorem me_X8_splitSum : Cond.selects yX8_splitSum.cls yX8_splitSum yX8_splitSum ∈ q_W := q_t4 106 rfl rfl
def tb_X8_splitSum : List q_E := [(0, .iconst 0, 1, 0, 0), (1, .istore_n 2, 1, 0, 0), (2, .aload_n 0, 1, 0, 0), (3, .iload_n 1, 1, 0, 0), (4, .invokevirtual 80, 3, 0, 0), (7, .getfield 218, 3, 0, 0), (10, .astore_n 3, 1, 0, 0), (11, .aload_n 3, 1, 0, 0), (12, .arraylength, 1, 0, 20), (13, .istore 4, 2, 0, 0), (15, .iconst 0, 1, 0, 0), (16, .istore 5, 2, 0, 0), (18, .iload 5, 2, 0, 0), (20, .iload 4, 2, 0, 0), (22, .if_icmp .ge 20, 3, 0, 42), (25, .aload_n 3, 1, 0, 0), (26, .iload 5, 2, 0, 0), (28, .iaload, 1, 0, 0), (29, .istore 6, 2, 0, 0), (31, .iload_n 2, 1, 0, 0), (32, .iload 6, 2, 0, 0), (34, .iadd, 1, 0, 0), (35, .istore_n 2, 1, 0, 0), (36, .iinc 5 1, 3, 1, 0), (39, .goto (-21), 3, 0, 18), (42, .iload_n 2, 1, 0, 0), (43, .ireturn, 1, 0, 0)]
set_option maxRecDepth 100000 in
theorem tk_X8_splitSum : q_tb cX8_splitSum 7 tb_X8_splitSum = true := by decide +kernel
set_option maxRecDepth 100000 in
theorem mw_X8_timeOf : q_mw yX8_timeOf cX8_timeOf 2 (Option.some Jvm.ClassFile.FieldType.int) 1 := ⟨q_t4 114 rfl rfl, by decide +kernel, by decide +kernel, q_init_QuillRelay⟩
set_option maxRecDepth 100000 in
theorem mi_X8_timeOf : Cond.instanceMethod yX8_timeOf ∈ q_W := q_t4 112 rfl rfl
set_option maxRecDepth 100000 in
theorem me_X8_timeOf : Cond.selects yX8_timeOf.cls yX8_timeOf yX8_timeOf ∈ q_W := q_t4 113 rfl rfl
def tb_X8_timeOf : List q_E := [(0, .aload_n 0, 1, 0, 0), (1, .iload_n 1, 1, 0, 0), (2, .invokevirtual 226, 3, 0, 0), (5, .getfield 229, 3, 0, 0), (8, .ireturn, 1, 0, 0)]
set_option maxRecDepth 100000 in
theorem tk_X8_timeOf : q_tb cX8_timeOf 2 tb_X8_timeOf = true := by decide +kernel
set_option maxRecDepth 100000 in
theorem mw_X8_resultOf : q_mw yX8_resultOf cX8_resultOf 2 (Option.some Jvm.ClassFile.FieldType.int) 1 := ⟨q_t4 127 rfl rfl, by decide +kernel, by decide +kernel, q_init_QuillRelay⟩
set_option maxRecDepth 100000 in
theorem mi_X8_resultOf : Cond.instanceMethod yX8_resultOf ∈ q_W := q_t4 125 rfl rfl
set_option maxRecDepth 100000 in
theorem me_X8_resultOf : Cond.selects yX8_resultOf.cls yX8_resultOf yX8_resultOf ∈ q_W := q_t4 126 rfl rfl
def tb_X8_resultOf : List q_E := [(0, .aload_n 0, 1, 0, 0), (1, .iload_n 1, 1, 0, 0), (2, .invokevirtual 226, 3, 0, 0), (5, .invokevirtual 232, 3, 0, 0), (8, .ireturn, 1, 0, 0)]
set_option maxRecDepth 100000 in
theorem tk_X8_resultOf : q_tb cX8_resultOf 2 tb_X8_resultOf = true := by decide +kernel
set_option maxRecDepth 100000 in
theorem mw_X8_teamAtRank : q_mw yX8_teamAtRank cX8_teamAtRank 3 (Option.some Jvm.ClassFile.FieldType.int) 1 := ⟨q_t4 138 rfl rfl, by decide +kernel, by decide +kernel, q_init_QuillRelay⟩
set_option maxRecDepth 100000 in
theorem mi_X8_teamAtRank : Cond.instanceMethod yX8_teamAtRank ∈ q_W := q_t4 136 rfl rfl
set_option maxRecDepth 100000 in
theorem me_X8_teamAtRank : Cond.selects yX8_teamAtRank.cls yX8_teamAtRank yX8_teamAtRank ∈ q_W := q_t4 137 rfl rfl
def tb_X8_teamAtRank : List q_E := [(0, .aload_n 0, 1, 0, 0), (1, .getfield 10, 3, 0, 0), (4, .iload_n 1, 1, 0, 0), (5, .invokevirtual 235, 3, 0, 0), (8, .istore_n 2, 1, 0, 0), (9, .iload_n 2, 1, 0, 0), (10, .iconst (-1), 1, (-1), 0), (11, .if_icmp .ne 13, 3, 0, 24), (14, .new 169, 3, 0, 0), (17, .dup, 1, 0, 0), (18, .ldc 238, 2, 0, 0), (20, .invokespecial 173, 3, 0, 0), (23, .athrow, 1, 0, 0), (24, .iload_n 2, 1, 0, 0), (25, .ireturn, 1, 0, 0)]
set_option maxRecDepth 100000 in
theorem tk_X8_teamAtRank : q_tb cX8_teamAtRank 3 tb_X8_teamAtRank = true := by decide +kernel
set_option maxRecDepth 100000 in
theorem mw_X8_rankOf : q_mw yX8_rankOf cX8_rankOf 2 (Option.some Jvm.ClassFile.FieldType.int) 1 := ⟨q_t4 159 rfl rfl, by decide +kernel, by decide +kernel, q_init_QuillRelay⟩
set_option maxRecDepth 100000 in
theorem mi_X8_rankOf : Cond.instanceMethod yX8_rankOf ∈ q_W := q_t4 157 rfl rfl
set_option maxRecDepth 100000 in
theorem me_X8_rankOf : Cond.selects yX8_rankOf.cls yX8_rankOf yX8_rankOf ∈ q_W := q_t4 158 rfl rfl
def tb_X8_rankOf : List q_E := [(0, .aload_n 0, 1, 0, 0), (1, .getfield 10, 3, 0, 0), (4, .aload_n 0, 1, 0, 0), (5, .iload_n 1, 1, 0, 0), (6, .invokevirtual 80, 3, 0, 0), (9, .invokevirtual 240, 3, 0, 0), (12, .ireturn, 1, 0, 0)]
set_option maxRecDepth 100000 in
theorem tk_X8_rankOf : q_tb cX8_rankOf 2 tb_X8_rankOf = true := by decide +kernel
set_option maxRecDepth 100000 in
theorem mw_X8_meanTime : q_mw yX8_meanTime cX8_meanTime 2 (Option.some Jvm.ClassFile.FieldType.double) 0 := ⟨q_t4 181 rfl rfl, by decide +kernel, by decide +kernel, q_init_QuillRelay⟩
set_option maxRecDepth 100000 in
theorem mi_X8_meanTime : Cond.instanceMethod yX8_meanTime ∈ q_W := q_t4 179 rfl rfl
set_option maxRecDepth 100000 in
theorem me_X8_meanTime : Cond.selects yX8_meanTime.cls yX8_meanTime yX8_meanTime ∈ q_W := q_t4 180 rfl rfl
def tb_X8_meanTime : List q_E := [(0, .aload_n 0, 1, 0, 0), (1, .getfield 10, 3, 0, 0), (4, .invokevirtual 243, 3, 0, 0), (7, .istore_n 1, 1, 0, 0), (8, .iload_n 1, 1, 0, 0), (9, .ifCond .ne 13, 3, 0, 22), (12, .new 246, 3, 0, 0), (15, .dup, 1, 0, 0), (16, .ldc 248, 2, 0, 0), (18, .invokespecial 250, 3, 0, 0), (21, .athrow, 1, 0, 0), (22, .aload_n 0, 1, 0, 0), (23, .getfield 10, 3, 0, 0), (26, .invokevirtual 251, 3, 0, 0), (29, .i2d, 1, 0, 0), (30, .iload_n 1, 1, 0, 0), (31, .i2d, 1, 0, 0), (32, .ddiv, 1, 0, 0), (33, .dreturn, 1, 0, 0)]
set_option maxRecDepth 100000 in
theorem tk_X8_meanTime : q_tb cX8_meanTime 2 tb_X8_meanTime = true := by decide +kernel
set_option maxRecDepth 100000 in
theorem mw_X8_reach : q_mw yX8_reach cX8_reach 7 (Option.some Jvm.ClassFile.FieldType.int) 3 := ⟨q_t4 200 rfl rfl, by decide +kernel, by decide +kernel, q_init_QuillRelay⟩
set_option maxRecDepth 100000 in
theorem mi_X8_reach : Cond.instanceMethod yX8_reach ∈ q_W := q_t4 198 rfl rfl
set_option maxRecDepth 100000 in
theorem me_X8_reach : Cond.selects yX8_reach.cls yX8_reach yX8_reach ∈ q_W := q_t4 199 rfl rfl
def tb_X8_reach : List q_E := [(0, .aload_n 0, 1, 0, 0), (1, .iload_n 1, 1, 0, 0), (2, .iload_n 2, 1, 0, 0), (3, .iload_n 3, 1, 0, 0), (4, .invokevirtual 254, 3, 0, 0), (7, .istore 4, 2, 0, 0), (9, .iconst 0, 1, 0, 0), (10, .istore 5, 2, 0, 0), (12, .iconst 0, 1, 0, 0), (13, .istore 6, 2, 0, 0), (15, .iload 6, 2, 0, 0), (17, .iload_n 3, 1, 0, 0), (18, .if_icmp .ge 21, 3, 0, 39), (21, .iload 5, 2, 0, 0), (23, .iload 4, 2, 0, 0), (25, .iload 6, 2, 0, 0), (27, .invokestatic 258, 3, 0, 0), (30, .iadd, 1, 0, 0), (31, .istore 5, 2, 0, 0), (33, .iinc 6 1, 3, 1, 0), (36, .goto (-21), 3, 0, 15), (39, .iload 5, 2, 0, 0), (41, .ireturn, 1, 0, 0)]
set_option maxRecDepth 100000 in
theorem tk_X8_reach : q_tb cX8_reach 7 tb_X8_reach = true := by decide +kernel
set_option maxRecDepth 100000 in
theorem mw_X8_reachByStretches : q_mw yX8_reachByStretches cX8_reachByStretches 8 (Option.some Jvm.ClassFile.FieldType.int) 3 := ⟨q_t4 213 rfl rfl, by decide +kernel, by decide +kernel, q_init_QuillRelay⟩
set_option maxRecDepth 100000 in
theorem mi_X8_reachByStretches : Cond.instanceMethod yX8_reachByStretches ∈ q_W := q_t4 211 rfl rfl
set_option maxRecDepth 100000 in
theorem me_X8_reachByStretches : Cond.selects yX8_reachByStretches.cls yX8_reachByStretches yX8_reachByStretches ∈ q_W := q_t4 212 rfl rfl
def tb_X8_reachByStretches : List q_E := [(0, .aload_n 0, 1, 0, 0), (1, .iload_n 1, 1, 0, 0), (2, .iload_n 2, 1, 0, 0), (3, .iload_n 3, 1, 0, 0), (4, .invokevirtual 254, 3, 0, 0), (7, .istore 4, 2, 0, 0), (9, .iload_n 3, 1, 0, 0), (10, .iload_n 3, 1, 0, 0), (11, .bipush 10, 2, 10, 0), (13, .irem, 1, 0, 0), (14, .isub, 1, 0, 0), (15, .istore 5, 2, 0, 0), (17, .iconst 0, 1, 0, 0), (18, .istore 6, 2, 0, 0), (20, .iconst 0, 1, 0, 0), (21, .istore 7, 2, 0, 0), (23, .iload 7, 2, 0, 0), (25, .iload 5, 2, 0, 0), (27, .if_icmp .ge 24, 3, 0, 51), (30, .iload 6, 2, 0, 0), (32, .bipush 10, 2, 10, 0), (34, .iload 4, 2, 0, 0), (36, .iload 7, 2, 0, 0), (38, .invokestatic 258, 3, 0, 0), (41, .imul, 1, 0, 0), (42, .iadd, 1, 0, 0), (43, .istore 6, 2, 0, 0), (45, .iinc 7 10, 3, 10, 0), (48, .goto (-25), 3, 0, 23), (51, .iload 6, 2, 0, 0), (53, .iload_n 3, 1, 0, 0), (54, .iload 5, 2, 0, 0), (56, .isub, 1, 0, 0), (57, .iload 4, 2, 0, 0), (59, .iload 5, 2, 0, 0), (61, .invokestatic 258, 3, 0, 0), (64, .imul, 1, 0, 0), (65, .iadd, 1, 0, 0), (66, .ireturn, 1, 0, 0)]
set_option maxRecDepth 100000 in
theorem tk_X8_reachByStretches : q_tb cX8_reachByStretches 8 tb_X8_reachByStretches = true := by decide +kernel
set_option maxRecDepth 100000 in
theorem mw_X8_secondsToZone : q_mw yX8_secondsToZone cX8_secondsToZone 3 (Option.some Jvm.ClassFile.FieldType.int) 1 := ⟨q_t4 220 rfl rfl, by decide +kernel, by decide +kernel, q_init_QuillRelay⟩
set_option maxRecDepth 100000 in
theorem mi_X8_secondsToZone : Cond.instanceMethod yX8_secondsToZone ∈ q_W := q_t4 218 rfl rfl
set_option maxRecDepth 100000 in
theorem me_X8_secondsToZone : Cond.selects yX8_secondsToZone.cls yX8_secondsToZone yX8_secondsToZone ∈ q_W := q_t4 219 rfl rfl
def tb_X8_secondsToZone : List q_E := [(0, .aload_n 0, 1, 0, 0), (1, .iload_n 1, 1, 0, 0), (2, .invokevirtual 80, 3, 0, 0), (5, .astore_n 2, 1, 0, 0), (6, .aload_n 2, 1, 0, 0), (7, .getfield 147, 3, 0, 0), (10, .getstatic 189, 3, 0, 0), (13, .if_acmp .eq 14, 3, 0, 27), (16, .new 261, 3, 0, 0), (19, .dup, 1, 0, 0), (20, .ldc_w 263, 3, 0, 0), (23, .invokespecial 265, 3, 0, 0), (26, .athrow, 1, 0, 0), (27, .aload_n 2, 1, 0, 0), (28, .getfield 186, 3, 0, 0), (31, .iconst 3, 1, 3, 0), (32, .if_icmp .lt 14, 3, 0, 46), (35, .new 266, 3, 0, 0), (38, .dup, 1, 0, 0), (39, .ldc_w 268, 3, 0, 0), (42, .invokespecial 270, 3, 0, 0), (45, .athrow, 1, 0, 0), (46, .aload_n 2, 1, 0, 0), (47, .aload_n 0, 1, 0, 0), (48, .getfield 10, 3, 0, 0), (51, .getfield 94, 3, 0, 0), (54, .invokevirtual 271, 3, 0, 0), (57, .ireturn, 1, 0, 0)]
set_option maxRecDepth 100000 in
theorem tk_X8_secondsToZone : q_tb cX8_secondsToZone 3 tb_X8_secondsToZone = true := by decide +kernel
set_option maxRecDepth 100000 in
theorem mw_X8_refusalReason : q_mw yX8_refusalReason cX8_refusalReason 1 (Option.some Jvm.ClassFile.FieldType.int) 0 := ⟨q_t4 234 rfl rfl, by decide +kernel, by decide +kernel, q_init_QuillRelay⟩
set_option maxRecDepth 100000 in
theorem mi_X8_refusalReason : Cond.instanceMethod yX8_refusalReason ∈ q_W := q_t4 232 rfl rfl
set_option maxRecDepth 100000 in
theorem me_X8_refusalReason : Cond.selects yX8_refusalReason.cls yX8_refusalReason yX8_refusalReason ∈ q_W := q_t4 233 rfl rfl
def tb_X8_refusalReason : List q_E := [(0, .aload_n 0, 1, 0, 0), (1, .getfield 47, 3, 0, 0), (4, .ifCond .ne 14, 3, 0, 18), (7, .new 169, 3, 0, 0), (10, .dup, 1, 0, 0), (11, .ldc_w 274, 3, 0, 0), (14, .invokespecial 173, 3, 0, 0), (17, .athrow, 1, 0, 0), (18, .aload_n 0, 1, 0, 0), (19, .getfield 47, 3, 0, 0), (22, .ireturn, 1, 0, 0)]
set_option maxRecDepth 100000 in
theorem tk_X8_refusalReason : q_tb cX8_refusalReason 1 tb_X8_refusalReason = true := by decide +kernel
set_option maxRecDepth 100000 in
theorem mw_X8_refusedTeam : q_mw yX8_refusedTeam cX8_refusedTeam 1 (Option.some Jvm.ClassFile.FieldType.int) 0 := ⟨q_t5 2 rfl rfl, by decide +kernel, by decide +kernel, q_init_QuillRelay⟩
set_option maxRecDepth 100000 in
theorem mi_X8_refusedTeam : Cond.instanceMethod yX8_refusedTeam ∈ q_W := q_t5 0 rfl rfl
set_option maxRecDepth 100000 in
theorem me_X8_refusedTeam : Cond.selects yX8_refusedTeam.cls yX8_refusedTeam yX8_refusedTeam ∈ q_W := q_t5 1 rfl rfl
def tb_X8_refusedTeam : List q_E := [(0, .aload_n 0, 1, 0, 0), (1, .getfield 47, 3, 0, 0), (4, .ifCond .ne 14, 3, 0, 18), (7, .new 169, 3, 0, 0), (10, .dup, 1, 0, 0), (11, .ldc_w 274, 3, 0, 0), (14, .invokespecial 173, 3, 0, 0), (17, .athrow, 1, 0, 0), (18, .aload_n 0, 1, 0, 0), (19, .getfield 51, 3, 0, 0), (22, .ireturn, 1, 0, 0)]
set_option maxRecDepth 100000 in
theorem tk_X8_refusedTeam : q_tb cX8_refusedTeam 1 tb_X8_refusedTeam = true := by decide +kernel
set_option maxRecDepth 100000 in
theorem mw_X8_writeBanner : q_mw yX8_writeBanner cX8_writeBanner 3 (Option.some Jvm.ClassFile.FieldType.int) 1 := ⟨q_t5 9 rfl rfl, by decide +kernel, by decide +kernel, q_init_QuillRelay⟩
set_option maxRecDepth 100000 in
theorem mi_X8_writeBanner : Cond.instanceMethod yX8_writeBanner ∈ q_W := q_t5 7 rfl rfl
set_option maxRecDepth 100000 in
theorem me_X8_writeBanner : Cond.selects yX8_writeBanner.cls yX8_writeBanner yX8_writeBanner ∈ q_W := q_t5 8 rfl rfl
def tb_X8_writeBanner : List q_E := [(0, .aload_n 0, 1, 0, 0), (1, .iload_n 1, 1, 0, 0), (2, .invokevirtual 80, 3, 0, 0), (5, .astore_n 2, 1, 0, 0), (6, .aload_n 0, 1, 0, 0), (7, .getfield 39, 3, 0, 0), (10, .iconst 0, 1, 0, 0), (11, .invokevirtual 276, 3, 0, 0), (14, .aload_n 0, 1, 0, 0), (15, .getfield 39, 3, 0, 0), (18, .bipush 76, 2, 76, 0), (20, .invokevirtual 279, 3, 0, 0), (23, .aload_n 2, 1, 0, 0), (24, .getfield 104, 3, 0, 0), (27, .invokevirtual 283, 3, 0, 0), (30, .bipush 32, 2, 32, 0), (32, .invokevirtual 279, 3, 0, 0), (35, .pop, 1, 0, 0), (36, .aload_n 0, 1, 0, 0), (37, .aload_n 2, 1, 0, 0), (38, .invokevirtual 286, 3, 0, 0), (41, .aload_n 0, 1, 0, 0), (42, .getfield 39, 3, 0, 0), (45, .bipush 32, 2, 32, 0), (47, .invokevirtual 279, 3, 0, 0), (50, .aload_n 2, 1, 0, 0), (51, .getfield 183, 3, 0, 0), (54, .invokevirtual 283, 3, 0, 0), (57, .pop, 1, 0, 0), (58, .aload_n 2, 1, 0, 0), (59, .getfield 199, 3, 0, 0), (62, .ifCond .eq 20, 3, 0, 82), (65, .aload_n 0, 1, 0, 0), (66, .getfield 39, 3, 0, 0), (69, .bipush 43, 2, 43, 0), (71, .invokevirtual 279, 3, 0, 0), (74, .aload_n 2, 1, 0, 0), (75, .getfield 199, 3, 0, 0), (78, .invokevirtual 283, 3, 0, 0), (81, .pop, 1, 0, 0), (82, .aload_n 0, 1, 0, 0), (83, .getfield 39, 3, 0, 0), (86, .invokevirtual 290, 3, 0, 0), (89, .ireturn, 1, 0, 0)]
set_option maxRecDepth 100000 in
theorem tk_X8_writeBanner : q_tb cX8_writeBanner 3 tb_X8_writeBanner = true := by decide +kernel
set_option maxRecDepth 100000 in
theorem mw_X8_bannerAt : q_mw yX8_bannerAt cX8_bannerAt 2 (Option.some Jvm.ClassFile.FieldType.char) 1 := ⟨q_t6 57 rfl rfl, by decide +kernel, by decide +kernel, q_init_QuillRelay⟩
set_option maxRecDepth 100000 in
theorem mi_X8_bannerAt : Cond.instanceMethod yX8_bannerAt ∈ q_W := q_t6 55 rfl rfl
set_option maxRecDepth 100000 in
theorem me_X8_bannerAt : Cond.selects yX8_bannerAt.cls yX8_bannerAt yX8_bannerAt ∈ q_W := q_t6 56 rfl rfl
def tb_X8_bannerAt : List q_E := [(0, .iload_n 1, 1, 0, 0), (1, .ifCond .lt 14, 3, 0, 15), (4, .iload_n 1, 1, 0, 0), (5, .aload_n 0, 1, 0, 0), (6, .getfield 39, 3, 0, 0), (9, .invokevirtual 290, 3, 0, 0), (12, .if_icmp .lt 14, 3, 0, 26), (15, .new 293, 3, 0, 0), (18, .dup, 1, 0, 0), (19, .ldc_w 295, 3, 0, 0), (22, .invokespecial 297, 3, 0, 0), (25, .athrow, 1, 0, 0), (26, .aload_n 0, 1, 0, 0), (27, .getfield 39, 3, 0, 0), (30, .iload_n 1, 1, 0, 0), (31, .invokevirtual 298, 3, 0, 0), (34, .ireturn, 1, 0, 0)]
set_option maxRecDepth 100000 in
theorem tk_X8_bannerAt : q_tb cX8_bannerAt 2 tb_X8_bannerAt = true := by decide +kernel
set_option maxRecDepth 100000 in
theorem mw_X8_type : q_mw yX8_type cX8_type 2 (Option.some Jvm.ClassFile.FieldType.int) 1 := ⟨q_t6 75 rfl rfl, by decide +kernel, by decide +kernel, q_init_QuillRelay⟩
set_option maxRecDepth 100000 in
theorem mi_X8_type : Cond.instanceMethod yX8_type ∈ q_W := q_t6 73 rfl rfl
set_option maxRecDepth 100000 in
theorem me_X8_type : Cond.selects yX8_type.cls yX8_type yX8_type ∈ q_W := q_t6 74 rfl rfl
def tb_X8_type : List q_E := [(0, .iload_n 1, 1, 0, 0), (1, .bipush 32, 2, 32, 0), (3, .if_icmp .lt 9, 3, 0, 12), (6, .iload_n 1, 1, 0, 0), (7, .bipush 126, 2, 126, 0), (9, .if_icmp .le 14, 3, 0, 23), (12, .new 205, 3, 0, 0), (15, .dup, 1, 0, 0), (16, .ldc_w 302, 3, 0, 0), (19, .invokespecial 209, 3, 0, 0), (22, .athrow, 1, 0, 0), (23, .aload_n 0, 1, 0, 0), (24, .getfield 32, 3, 0, 0), (27, .getfield 304, 3, 0, 0), (30, .invokevirtual 290, 3, 0, 0), (33, .bipush 60, 2, 60, 0), (35, .if_icmp .lt 14, 3, 0, 49), (38, .new 261, 3, 0, 0), (41, .dup, 1, 0, 0), (42, .ldc_w 307, 3, 0, 0), (45, .invokespecial 265, 3, 0, 0), (48, .athrow, 1, 0, 0), (49, .aload_n 0, 1, 0, 0), (50, .getfield 32, 3, 0, 0), (53, .getfield 304, 3, 0, 0), (56, .iload_n 1, 1, 0, 0), (57, .invokevirtual 279, 3, 0, 0), (60, .pop, 1, 0, 0), (61, .aload_n 0, 1, 0, 0), (62, .getfield 32, 3, 0, 0), (65, .getfield 304, 3, 0, 0), (68, .invokevirtual 290, 3, 0, 0), (71, .ireturn, 1, 0, 0)]
set_option maxRecDepth 100000 in
theorem tk_X8_type : q_tb cX8_type 2 tb_X8_type = true := by decide +kernel
set_option maxRecDepth 100000 in
theorem mw_X8_execute : q_mw yX8_execute cX8_execute 3 (Option.some Jvm.ClassFile.FieldType.int) 0 := ⟨q_t6 84 rfl rfl, by decide +kernel, by decide +kernel, q_init_QuillRelay⟩
set_option maxRecDepth 100000 in
theorem mi_X8_execute : Cond.instanceMethod yX8_execute ∈ q_W := q_t6 82 rfl rfl
set_option maxRecDepth 100000 in
theorem me_X8_execute : Cond.selects yX8_execute.cls yX8_execute yX8_execute ∈ q_W := q_t6 83 rfl rfl
def tb_X8_execute : List q_E := [(0, .aload_n 0, 1, 0, 0), (1, .getfield 32, 3, 0, 0), (4, .invokevirtual 309, 3, 0, 0), (7, .istore_n 1, 1, 0, 0), (8, .iload_n 1, 1, 0, 0), (9, .iconst (-1), 1, (-1), 0), (10, .if_icmp .ne 10, 3, 0, 20), (13, .aload_n 0, 1, 0, 0), (14, .invokevirtual 312, 3, 0, 0), (17, .goto 4, 3, 0, 21), (20, .iconst (-1), 1, (-1), 0), (21, .istore_n 2, 1, 0, 0), (22, .aload_n 0, 1, 0, 0), (23, .getfield 32, 3, 0, 0), (26, .getfield 304, 3, 0, 0), (29, .iconst 0, 1, 0, 0), (30, .invokevirtual 276, 3, 0, 0), (33, .iload_n 1, 1, 0, 0), (34, .iconst (-1), 1, (-1), 0), (35, .if_icmp .eq 19, 3, 0, 54), (38, .aload_n 0, 1, 0, 0), (39, .iload_n 1, 1, 0, 0), (40, .putfield 54, 3, 0, 0), (43, .new 205, 3, 0, 0), (46, .dup, 1, 0, 0), (47, .ldc_w 315, 3, 0, 0), (50, .invokespecial 209, 3, 0, 0), (53, .athrow, 1, 0, 0), (54, .iload_n 2, 1, 0, 0), (55, .iconst (-1), 1, (-1), 0), (56, .if_icmp .eq 19, 3, 0, 75), (59, .aload_n 0, 1, 0, 0), (60, .iload_n 2, 1, 0, 0), (61, .putfield 57, 3, 0, 0), (64, .new 261, 3, 0, 0), (67, .dup, 1, 0, 0), (68, .ldc_w 317, 3, 0, 0), (71, .invokespecial 265, 3, 0, 0), (74, .athrow, 1, 0, 0), (75, .aload_n 0, 1, 0, 0), (76, .getfield 32, 3, 0, 0), (79, .getfield 319, 3, 0, 0), (82, .ireturn, 1, 0, 0)]
set_option maxRecDepth 100000 in
theorem tk_X8_execute : q_tb cX8_execute 3 tb_X8_execute = true := by decide +kernel
set_option maxRecDepth 100000 in
theorem mw_X8_errorPosition : q_mw yX8_errorPosition cX8_errorPosition 1 (Option.some Jvm.ClassFile.FieldType.int) 0 := ⟨q_t6 175 rfl rfl, by decide +kernel, by decide +kernel, q_init_QuillRelay⟩
set_option maxRecDepth 100000 in
theorem mi_X8_errorPosition : Cond.instanceMethod yX8_errorPosition ∈ q_W := q_t6 173 rfl rfl
set_option maxRecDepth 100000 in
theorem me_X8_errorPosition : Cond.selects yX8_errorPosition.cls yX8_errorPosition yX8_errorPosition ∈ q_W := q_t6 174 rfl rfl
def tb_X8_errorPosition : List q_E := [(0, .aload_n 0, 1, 0, 0), (1, .getfield 54, 3, 0, 0), (4, .iconst (-1), 1, (-1), 0), (5, .if_icmp .ne 14, 3, 0, 19), (8, .new 169, 3, 0, 0), (11, .dup, 1, 0, 0), (12, .ldc_w 322, 3, 0, 0), (15, .invokespecial 173, 3, 0, 0), (18, .athrow, 1, 0, 0), (19, .aload_n 0, 1, 0, 0), (20, .getfield 54, 3, 0, 0), (23, .ireturn, 1, 0, 0)]
set_option maxRecDepth 100000 in
theorem tk_X8_errorPosition : q_tb cX8_errorPosition 1 tb_X8_errorPosition = true := by decide +kernel
set_option maxRecDepth 100000 in
theorem mw_X8_failedCommand : q_mw yX8_failedCommand cX8_failedCommand 1 (Option.some Jvm.ClassFile.FieldType.int) 0 := ⟨q_t6 183 rfl rfl, by decide +kernel, by decide +kernel, q_init_QuillRelay⟩
set_option maxRecDepth 100000 in
theorem mi_X8_failedCommand : Cond.instanceMethod yX8_failedCommand ∈ q_W := q_t6 181 rfl rfl
set_option maxRecDepth 100000 in
theorem me_X8_failedCommand : Cond.selects yX8_failedCommand.cls yX8_failedCommand yX8_failedCommand ∈ q_W := q_t6 182 rfl rfl
def tb_X8_failedCommand : List q_E := [(0, .aload_n 0, 1, 0, 0), (1, .getfield 57, 3, 0, 0), (4, .iconst (-1), 1, (-1), 0), (5, .if_icmp .ne 14, 3, 0, 19), (8, .new 169, 3, 0, 0), (11, .dup, 1, 0, 0), (12, .ldc_w 324, 3, 0, 0), (15, .invokespecial 173, 3, 0, 0), (18, .athrow, 1, 0, 0), (19, .aload_n 0, 1, 0, 0), (20, .getfield 57, 3, 0, 0), (23, .ireturn, 1, 0, 0)]
set_option maxRecDepth 100000 in
theorem tk_X8_failedCommand : q_tb cX8_failedCommand 1 tb_X8_failedCommand = true := by decide +kernel
set_option maxRecDepth 100000 in
theorem mw_X8_undo : q_mw yX8_undo cX8_undo 1 (Option.some Jvm.ClassFile.FieldType.int) 0 := ⟨q_t6 191 rfl rfl, by decide +kernel, by decide +kernel, q_init_QuillRelay⟩
set_option maxRecDepth 100000 in
theorem mi_X8_undo : Cond.instanceMethod yX8_undo ∈ q_W := q_t6 189 rfl rfl
set_option maxRecDepth 100000 in
theorem me_X8_undo : Cond.selects yX8_undo.cls yX8_undo yX8_undo ∈ q_W := q_t6 190 rfl rfl
def tb_X8_undo : List q_E := [(0, .aload_n 0, 1, 0, 0), (1, .getfield 25, 3, 0, 0), (4, .getfield 326, 3, 0, 0), (7, .ifCond .ne 14, 3, 0, 21), (10, .new 261, 3, 0, 0), (13, .dup, 1, 0, 0), (14, .ldc_w 329, 3, 0, 0), (17, .invokespecial 265, 3, 0, 0), (20, .athrow, 1, 0, 0), (21, .aload_n 0, 1, 0, 0), (22, .getfield 25, 3, 0, 0), (25, .aload_n 0, 1, 0, 0), (26, .getfield 10, 3, 0, 0), (29, .invokevirtual 331, 3, 0, 0), (32, .aload_n 0, 1, 0, 0), (33, .getfield 25, 3, 0, 0), (36, .getfield 326, 3, 0, 0), (39, .ireturn, 1, 0, 0)]
set_option maxRecDepth 100000 in
theorem tk_X8_undo : q_tb cX8_undo 1 tb_X8_undo = true := by decide +kernel
set_option maxRecDepth 100000 in
theorem mw_X8_save : q_mw yX8_save cX8_save 1 (Option.some Jvm.ClassFile.FieldType.int) 0 := ⟨q_t2 59 rfl rfl, by decide +kernel, by decide +kernel, q_init_QuillRelay⟩
set_option maxRecDepth 100000 in
theorem mi_X8_save : Cond.instanceMethod yX8_save ∈ q_W := q_t2 57 rfl rfl
set_option maxRecDepth 100000 in
theorem me_X8_save : Cond.selects yX8_save.cls yX8_save yX8_save ∈ q_W := q_t2 58 rfl rfl
def tb_X8_save : List q_E := [(0, .aload_n 0, 1, 0, 0), (1, .getfield 19, 3, 0, 0), (4, .aload_n 0, 1, 0, 0), (5, .getfield 10, 3, 0, 0), (8, .invokevirtual 334, 3, 0, 0), (11, .aload_n 0, 1, 0, 0), (12, .iconst 1, 1, 1, 0), (13, .putfield 43, 3, 0, 0), (16, .aload_n 0, 1, 0, 0), (17, .getfield 10, 3, 0, 0), (20, .getfield 163, 3, 0, 0), (23, .ireturn, 1, 0, 0)]
set_option maxRecDepth 100000 in
theorem tk_X8_save : q_tb cX8_save 1 tb_X8_save = true := by decide +kernel
set_option maxRecDepth 100000 in
theorem mw_X8_restore : q_mw yX8_restore cX8_restore 1 (Option.some Jvm.ClassFile.FieldType.int) 0 := ⟨q_t6 203 rfl rfl, by decide +kernel, by decide +kernel, q_init_QuillRelay⟩
set_option maxRecDepth 100000 in
theorem mi_X8_restore : Cond.instanceMethod yX8_restore ∈ q_W := q_t6 201 rfl rfl
set_option maxRecDepth 100000 in
theorem me_X8_restore : Cond.selects yX8_restore.cls yX8_restore yX8_restore ∈ q_W := q_t6 202 rfl rfl
def tb_X8_restore : List q_E := [(0, .aload_n 0, 1, 0, 0), (1, .getfield 43, 3, 0, 0), (4, .ifCond .ne 14, 3, 0, 18), (7, .new 261, 3, 0, 0), (10, .dup, 1, 0, 0), (11, .ldc_w 337, 3, 0, 0), (14, .invokespecial 265, 3, 0, 0), (17, .athrow, 1, 0, 0), (18, .aload_n 0, 1, 0, 0), (19, .getfield 10, 3, 0, 0), (22, .aload_n 0, 1, 0, 0), (23, .getfield 19, 3, 0, 0), (26, .invokevirtual 334, 3, 0, 0), (29, .aload_n 0, 1, 0, 0), (30, .getfield 25, 3, 0, 0), (33, .iconst 0, 1, 0, 0), (34, .putfield 326, 3, 0, 0), (37, .aload_n 0, 1, 0, 0), (38, .getfield 10, 3, 0, 0), (41, .getfield 163, 3, 0, 0), (44, .ireturn, 1, 0, 0)]
set_option maxRecDepth 100000 in
theorem tk_X8_restore : q_tb cX8_restore 1 tb_X8_restore = true := by decide +kernel
set_option maxRecDepth 100000 in
theorem mw_X8_raise : q_mw yX8_raise cX8_raise 1 (Option.none : Option Jvm.ClassFile.FieldType) 1 := ⟨q_t2 93 rfl rfl, by decide +kernel, by decide +kernel, q_init_QuillRelay⟩
set_option maxRecDepth 100000 in
theorem ms_X8_raise : Cond.static yX8_raise ∈ q_W := q_t2 92 rfl rfl
def tb_X8_raise : List q_E := [(0, .aload_n 0, 1, 0, 0), (1, .getstatic 339, 3, 0, 0), (4, .if_acmp .ne 14, 3, 0, 18), (7, .new 293, 3, 0, 0), (10, .dup, 1, 0, 0), (11, .ldc_w 345, 3, 0, 0), (14, .invokespecial 297, 3, 0, 0), (17, .athrow, 1, 0, 0), (18, .aload_n 0, 1, 0, 0), (19, .getstatic 347, 3, 0, 0), (22, .if_acmp .ne 14, 3, 0, 36), (25, .new 205, 3, 0, 0), (28, .dup, 1, 0, 0), (29, .ldc_w 350, 3, 0, 0), (32, .invokespecial 209, 3, 0, 0), (35, .athrow, 1, 0, 0), (36, .aload_n 0, 1, 0, 0), (37, .getstatic 352, 3, 0, 0), (40, .if_acmp .ne 14, 3, 0, 54), (43, .new 261, 3, 0, 0), (46, .dup, 1, 0, 0), (47, .ldc_w 355, 3, 0, 0), (50, .invokespecial 265, 3, 0, 0), (53, .athrow, 1, 0, 0), (54, .aload_n 0, 1, 0, 0), (55, .getstatic 357, 3, 0, 0), (58, .if_acmp .ne 14, 3, 0, 72), (61, .new 266, 3, 0, 0), (64, .dup, 1, 0, 0), (65, .ldc_w 360, 3, 0, 0), (68, .invokespecial 270, 3, 0, 0), (71, .athrow, 1, 0, 0), (72, .return_, 1, 0, 0)]
set_option maxRecDepth 100000 in
theorem tk_X8_raise : q_tb cX8_raise 1 tb_X8_raise = true := by decide +kernel
set_option maxRecDepth 100000 in
theorem mw_X8_teamWith : q_mw yX8_teamWith cX8_teamWith 3 (Option.some (Jvm.ClassFile.FieldType.object "QuillRelay$Team")) 1 := ⟨q_t3 40 rfl rfl, by decide +kernel, by decide +kernel, q_init_QuillRelay⟩
set_option maxRecDepth 100000 in
theorem mi_X8_teamWith : Cond.instanceMethod yX8_teamWith ∈ q_W := q_t3 39 rfl rfl
set_option maxRecDepth 100000 in
theorem me_X8_teamWith : Cond.selects yX8_teamWith.cls yX8_teamWith yX8_teamWith ∈ q_W := q_s 2 rfl rfl
def tb_X8_teamWith : List q_E := [(0, .aload_n 0, 1, 0, 0), (1, .getfield 10, 3, 0, 0), (4, .iload_n 1, 1, 0, 0), (5, .invokevirtual 362, 3, 0, 0), (8, .astore_n 2, 1, 0, 0), (9, .aload_n 2, 1, 0, 0), (10, .ifnonnull 14, 3, 0, 24), (13, .new 293, 3, 0, 0), (16, .dup, 1, 0, 0), (17, .ldc_w 365, 3, 0, 0), (20, .invokespecial 297, 3, 0, 0), (23, .athrow, 1, 0, 0), (24, .aload_n 2, 1, 0, 0), (25, .areturn, 1, 0, 0)]
set_option maxRecDepth 100000 in
theorem tk_X8_teamWith : q_tb cX8_teamWith 3 tb_X8_teamWith = true := by decide +kernel
set_option maxRecDepth 100000 in
theorem mw_X8_teamWithLeg : q_mw yX8_teamWithLeg cX8_teamWithLeg 4 (Option.some (Jvm.ClassFile.FieldType.object "QuillRelay$Team")) 2 := ⟨q_t4 29 rfl rfl, by decide +kernel, by decide +kernel, q_init_QuillRelay⟩
set_option maxRecDepth 100000 in
theorem mi_X8_teamWithLeg : Cond.instanceMethod yX8_teamWithLeg ∈ q_W := q_t4 28 rfl rfl
set_option maxRecDepth 100000 in
theorem me_X8_teamWithLeg : Cond.selects yX8_teamWithLeg.cls yX8_teamWithLeg yX8_teamWithLeg ∈ q_W := q_s 7 rfl rfl
def tb_X8_teamWithLeg : List q_E := [(0, .aload_n 0, 1, 0, 0), (1, .iload_n 1, 1, 0, 0), (2, .invokevirtual 80, 3, 0, 0), (5, .astore_n 3, 1, 0, 0), (6, .iload_n 2, 1, 0, 0), (7, .invokestatic 367, 3, 0, 0), (10, .ifCond .ne 14, 3, 0, 24), (13, .new 293, 3, 0, 0), (16, .dup, 1, 0, 0), (17, .ldc_w 370, 3, 0, 0), (20, .invokespecial 297, 3, 0, 0), (23, .athrow, 1, 0, 0), (24, .aload_n 3, 1, 0, 0), (25, .areturn, 1, 0, 0)]
set_option maxRecDepth 100000 in
theorem tk_X8_teamWithLeg : q_tb cX8_teamWithLeg 4 tb_X8_teamWithLeg = true := by decide +kernel
set_option maxRecDepth 100000 in
theorem mw_X8_finishedTeamWith : q_mw yX8_finishedTeamWith cX8_finishedTeamWith 3 (Option.some (Jvm.ClassFile.FieldType.object "QuillRelay$Team")) 1 := ⟨q_t4 118 rfl rfl, by decide +kernel, by decide +kernel, q_init_QuillRelay⟩
set_option maxRecDepth 100000 in
theorem mi_X8_finishedTeamWith : Cond.instanceMethod yX8_finishedTeamWith ∈ q_W := q_t4 117 rfl rfl
set_option maxRecDepth 100000 in
theorem me_X8_finishedTeamWith : Cond.selects yX8_finishedTeamWith.cls yX8_finishedTeamWith yX8_finishedTeamWith ∈ q_W := q_s 8 rfl rfl
def tb_X8_finishedTeamWith : List q_E := [(0, .aload_n 0, 1, 0, 0), (1, .iload_n 1, 1, 0, 0), (2, .invokevirtual 80, 3, 0, 0), (5, .astore_n 2, 1, 0, 0), (6, .aload_n 2, 1, 0, 0), (7, .getfield 147, 3, 0, 0), (10, .getstatic 372, 3, 0, 0), (13, .if_acmp .eq 14, 3, 0, 27), (16, .new 169, 3, 0, 0), (19, .dup, 1, 0, 0), (20, .ldc_w 375, 3, 0, 0), (23, .invokespecial 173, 3, 0, 0), (26, .athrow, 1, 0, 0), (27, .aload_n 2, 1, 0, 0), (28, .areturn, 1, 0, 0)]
set_option maxRecDepth 100000 in
theorem tk_X8_finishedTeamWith : q_tb cX8_finishedTeamWith 3 tb_X8_finishedTeamWith = true := by decide +kernel
set_option maxRecDepth 100000 in
theorem mw_X8_speedForReach : q_mw yX8_speedForReach cX8_speedForReach 5 (Option.some Jvm.ClassFile.FieldType.int) 3 := ⟨q_t4 204 rfl rfl, by decide +kernel, by decide +kernel, q_init_QuillRelay⟩
set_option maxRecDepth 100000 in
theorem mi_X8_speedForReach : Cond.instanceMethod yX8_speedForReach ∈ q_W := q_t4 203 rfl rfl
set_option maxRecDepth 100000 in
theorem me_X8_speedForReach : Cond.selects yX8_speedForReach.cls yX8_speedForReach yX8_speedForReach ∈ q_W := q_s 9 rfl rfl
def tb_X8_speedForReach : List q_E := [(0, .aload_n 0, 1, 0, 0), (1, .iload_n 1, 1, 0, 0), (2, .iload_n 2, 1, 0, 0), (3, .invokevirtual 176, 3, 0, 0), (6, .astore 4, 2, 0, 0), (8, .iload_n 3, 1, 0, 0), (9, .ifCond .lt 10, 3, 0, 19), (12, .iload_n 3, 1, 0, 0), (13, .sipush 999, 3, 999, 0), (16, .if_icmp .le 14, 3, 0, 30), (19, .new 205, 3, 0, 0), (22, .dup, 1, 0, 0), (23, .ldc_w 377, 3, 0, 0), (26, .invokespecial 209, 3, 0, 0), (29, .athrow, 1, 0, 0), (30, .aload 4, 2, 0, 0), (32, .iload_n 2, 1, 0, 0), (33, .invokevirtual 180, 3, 0, 0), (36, .ireturn, 1, 0, 0)]
set_option maxRecDepth 100000 in
theorem tk_X8_speedForReach : q_tb cX8_speedForReach 5 tb_X8_speedForReach = true := by decide +kernel
set_option maxRecDepth 100000 in
theorem mw_X8_faultOfPassing : q_mw yX8_faultOfPassing cX8_faultOfPassing 4 (Option.some (Jvm.ClassFile.FieldType.object "QuillRelay$Fault")) 1 := ⟨q_t3 152 rfl rfl, by decide +kernel, by decide +kernel, q_init_QuillRelay⟩
set_option maxRecDepth 100000 in
theorem mi_X8_faultOfPassing : Cond.instanceMethod yX8_faultOfPassing ∈ q_W := q_t3 151 rfl rfl
set_option maxRecDepth 100000 in
theorem me_X8_faultOfPassing : Cond.selects yX8_faultOfPassing.cls yX8_faultOfPassing yX8_faultOfPassing ∈ q_W := q_s 6 rfl rfl
def tb_X8_faultOfPassing : List q_E := [(0, .aload_n 0, 1, 0, 0), (1, .getfield 10, 3, 0, 0), (4, .iload_n 1, 1, 0, 0), (5, .invokevirtual 362, 3, 0, 0), (8, .astore_n 2, 1, 0, 0), (9, .aload_n 2, 1, 0, 0), (10, .ifnonnull 7, 3, 0, 17), (13, .getstatic 339, 3, 0, 0), (16, .areturn, 1, 0, 0), (17, .aload_n 2, 1, 0, 0), (18, .getfield 147, 3, 0, 0), (21, .getstatic 189, 3, 0, 0), (24, .if_acmp .eq 7, 3, 0, 31), (27, .getstatic 352, 3, 0, 0), (30, .areturn, 1, 0, 0), (31, .aload_n 2, 1, 0, 0), (32, .aload_n 0, 1, 0, 0), (33, .getfield 10, 3, 0, 0), (36, .getfield 94, 3, 0, 0), (39, .invokevirtual 379, 3, 0, 0), (42, .istore_n 3, 1, 0, 0), (43, .iload_n 3, 1, 0, 0), (44, .ifCond .ne 7, 3, 0, 51), (47, .getstatic 382, 3, 0, 0), (50, .areturn, 1, 0, 0), (51, .aload_n 0, 1, 0, 0), (52, .iload_n 3, 1, 0, 0), (53, .putfield 47, 3, 0, 0), (56, .aload_n 0, 1, 0, 0), (57, .iload_n 1, 1, 0, 0), (58, .putfield 51, 3, 0, 0), (61, .getstatic 357, 3, 0, 0), (64, .areturn, 1, 0, 0)]
set_option maxRecDepth 100000 in
theorem tk_X8_faultOfPassing : q_tb cX8_faultOfPassing 4 tb_X8_faultOfPassing = true := by decide +kernel
set_option maxRecDepth 100000 in
theorem mw_X8_appendStage : q_mw yX8_appendStage cX8_appendStage 2 (Option.none : Option Jvm.ClassFile.FieldType) 1 := ⟨q_t6 49 rfl rfl, by decide +kernel, by decide +kernel, q_init_QuillRelay⟩
set_option maxRecDepth 100000 in
theorem mi_X8_appendStage : Cond.instanceMethod yX8_appendStage ∈ q_W := q_t6 48 rfl rfl
set_option maxRecDepth 100000 in
theorem me_X8_appendStage : Cond.selects yX8_appendStage.cls yX8_appendStage yX8_appendStage ∈ q_W := q_s 10 rfl rfl
def tb_X8_appendStage : List q_E := [(0, .aload_n 1, 1, 0, 0), (1, .getfield 147, 3, 0, 0), (4, .getstatic 189, 3, 0, 0), (7, .if_acmp .ne 23, 3, 0, 30), (10, .aload_n 0, 1, 0, 0), (11, .getfield 39, 3, 0, 0), (14, .bipush 114, 2, 114, 0), (16, .invokevirtual 279, 3, 0, 0), (19, .aload_n 1, 1, 0, 0), (20, .getfield 186, 3, 0, 0), (23, .invokevirtual 283, 3, 0, 0), (26, .pop, 1, 0, 0), (27, .goto 66, 3, 0, 93), (30, .aload_n 1, 1, 0, 0), (31, .getfield 147, 3, 0, 0), (34, .getstatic 372, 3, 0, 0), (37, .if_acmp .ne 23, 3, 0, 60), (40, .aload_n 0, 1, 0, 0), (41, .getfield 39, 3, 0, 0), (44, .bipush 102, 2, 102, 0), (46, .invokevirtual 279, 3, 0, 0), (49, .aload_n 1, 1, 0, 0), (50, .invokevirtual 232, 3, 0, 0), (53, .invokevirtual 283, 3, 0, 0), (56, .pop, 1, 0, 0), (57, .goto 36, 3, 0, 93), (60, .aload_n 1, 1, 0, 0), (61, .getfield 147, 3, 0, 0), (64, .getstatic 141, 3, 0, 0), (67, .if_acmp .ne 16, 3, 0, 83), (70, .aload_n 0, 1, 0, 0), (71, .getfield 39, 3, 0, 0), (74, .bipush 119, 2, 119, 0), (76, .invokevirtual 279, 3, 0, 0), (79, .pop, 1, 0, 0), (80, .goto 13, 3, 0, 93), (83, .aload_n 0, 1, 0, 0), (84, .getfield 39, 3, 0, 0), (87, .bipush 45, 2, 45, 0), (89, .invokevirtual 279, 3, 0, 0), (92, .pop, 1, 0, 0), (93, .return_, 1, 0, 0)]
set_option maxRecDepth 100000 in
theorem tk_X8_appendStage : q_tb cX8_appendStage 2 tb_X8_appendStage = true := by decide +kernel
set_option maxRecDepth 100000 in
theorem mw_X8_performAll : q_mw yX8_performAll cX8_performAll 6 (Option.some Jvm.ClassFile.FieldType.int) 0 := ⟨q_t6 148 rfl rfl, by decide +kernel, by decide +kernel, q_init_QuillRelay⟩
set_option maxRecDepth 100000 in
theorem mi_X8_performAll : Cond.instanceMethod yX8_performAll ∈ q_W := q_t6 147 rfl rfl
set_option maxRecDepth 100000 in
theorem me_X8_performAll : Cond.selects yX8_performAll.cls yX8_performAll yX8_performAll ∈ q_W := q_s 17 rfl rfl
def tb_X8_performAll : List q_E := [(0, .aload_n 0, 1, 0, 0), (1, .getfield 16, 3, 0, 0), (4, .aload_n 0, 1, 0, 0), (5, .getfield 10, 3, 0, 0), (8, .invokevirtual 334, 3, 0, 0), (11, .aload_n 0, 1, 0, 0), (12, .getfield 32, 3, 0, 0), (15, .invokevirtual 385, 3, 0, 0), (18, .iconst 0, 1, 0, 0), (19, .istore_n 1, 1, 0, 0), (20, .iload_n 1, 1, 0, 0), (21, .aload_n 0, 1, 0, 0), (22, .getfield 32, 3, 0, 0), (25, .getfield 319, 3, 0, 0), (28, .if_icmp .ge 110, 3, 0, 138), (31, .aload_n 0, 1, 0, 0), (32, .getfield 32, 3, 0, 0), (35, .invokevirtual 388, 3, 0, 0), (38, .istore_n 2, 1, 0, 0), (39, .aload_n 0, 1, 0, 0), (40, .getfield 32, 3, 0, 0), (43, .getfield 392, 3, 0, 0), (46, .iconst 0, 1, 0, 0), (47, .invokestatic 222, 3, 0, 0), (50, .istore_n 3, 1, 0, 0), (51, .aload_n 0, 1, 0, 0), (52, .getfield 32, 3, 0, 0), (55, .getfield 392, 3, 0, 0), (58, .iconst 1, 1, 1, 0), (59, .invokestatic 222, 3, 0, 0), (62, .istore 4, 2, 0, 0), (64, .aload_n 0, 1, 0, 0), (65, .getfield 32, 3, 0, 0), (68, .getfield 392, 3, 0, 0), (71, .iconst 2, 1, 2, 0), (72, .invokestatic 222, 3, 0, 0), (75, .istore 5, 2, 0, 0), (77, .iload_n 2, 1, 0, 0), (78, .ifCond .eq 25, 3, 0, 103), (81, .aload_n 0, 1, 0, 0), (82, .aload_n 0, 1, 0, 0), (83, .getfield 32, 3, 0, 0), (86, .getfield 395, 3, 0, 0), (89, .iload_n 3, 1, 0, 0), (90, .iload 4, 2, 0, 0), (92, .iload 5, 2, 0, 0), (94, .invokevirtual 399, 3, 0, 0), (97, .getstatic 382, 3, 0, 0), (100, .if_acmp .eq 16, 3, 0, 116), (103, .aload_n 0, 1, 0, 0), (104, .getfield 10, 3, 0, 0), (107, .aload_n 0, 1, 0, 0), (108, .getfield 16, 3, 0, 0), (111, .invokevirtual 334, 3, 0, 0), (114, .iload_n 1, 1, 0, 0), (115, .ireturn, 1, 0, 0), (116, .aload_n 0, 1, 0, 0), (117, .aload_n 0, 1, 0, 0), (118, .getfield 32, 3, 0, 0), (121, .getfield 395, 3, 0, 0), (124, .iload_n 3, 1, 0, 0), (125, .iload 4, 2, 0, 0), (127, .iload 5, 2, 0, 0), (129, .invokevirtual 403, 3, 0, 0), (132, .iinc 1 1, 3, 1, 0), (135, .goto (-115), 3, 0, 20), (138, .aload_n 0, 1, 0, 0), (139, .getfield 25, 3, 0, 0), (142, .aload_n 0, 1, 0, 0), (143, .getfield 16, 3, 0, 0), (146, .invokevirtual 68, 3, 0, 0), (149, .iconst (-1), 1, (-1), 0), (150, .ireturn, 1, 0, 0)]
set_option maxRecDepth 100000 in
theorem tk_X8_performAll : q_tb cX8_performAll 6 tb_X8_performAll = true := by decide +kernel
set_option maxRecDepth 100000 in
theorem mw_X8_faultOf : q_mw yX8_faultOf cX8_faultOf 5 (Option.some (Jvm.ClassFile.FieldType.object "QuillRelay$Fault")) 4 := ⟨q_t6 154 rfl rfl, by decide +kernel, by decide +kernel, q_init_QuillRelay⟩
set_option maxRecDepth 100000 in
theorem mi_X8_faultOf : Cond.instanceMethod yX8_faultOf ∈ q_W := q_t6 153 rfl rfl
set_option maxRecDepth 100000 in
theorem me_X8_faultOf : Cond.selects yX8_faultOf.cls yX8_faultOf yX8_faultOf ∈ q_W := q_s 18 rfl rfl
def tb_X8_faultOf : List q_E := [(0, .getstatic 407, 3, 0, 0), (3, .aload_n 1, 1, 0, 0), (4, .invokevirtual 412, 3, 0, 0), (7, .iaload, 1, 0, 0), (8, .tableswitch 110 1 7 #[44, 52, 61, 67, 77, 86, 98], 44, 0, 0), (52, .aload_n 0, 1, 0, 0), (53, .getfield 10, 3, 0, 0), (56, .invokevirtual 107, 3, 0, 0), (59, .areturn, 1, 0, 0), (60, .aload_n 0, 1, 0, 0), (61, .getfield 10, 3, 0, 0), (64, .iload_n 2, 1, 0, 0), (65, .invokevirtual 116, 3, 0, 0), (68, .areturn, 1, 0, 0), (69, .aload_n 0, 1, 0, 0), (70, .iload_n 2, 1, 0, 0), (71, .invokevirtual 123, 3, 0, 0), (74, .areturn, 1, 0, 0), (75, .aload_n 0, 1, 0, 0), (76, .getfield 10, 3, 0, 0), (79, .iload_n 2, 1, 0, 0), (80, .iload_n 3, 1, 0, 0), (81, .invokevirtual 130, 3, 0, 0), (84, .areturn, 1, 0, 0), (85, .aload_n 0, 1, 0, 0), (86, .getfield 10, 3, 0, 0), (89, .iload_n 2, 1, 0, 0), (90, .invokevirtual 138, 3, 0, 0), (93, .areturn, 1, 0, 0), (94, .aload_n 0, 1, 0, 0), (95, .getfield 10, 3, 0, 0), (98, .iload_n 2, 1, 0, 0), (99, .iload_n 3, 1, 0, 0), (100, .iload 4, 2, 0, 0), (102, .invokevirtual 153, 3, 0, 0), (105, .areturn, 1, 0, 0), (106, .aload_n 0, 1, 0, 0), (107, .getfield 10, 3, 0, 0), (110, .iload_n 2, 1, 0, 0), (111, .iload_n 3, 1, 0, 0), (112, .iload 4, 2, 0, 0), (114, .invokevirtual 76, 3, 0, 0), (117, .areturn, 1, 0, 0), (118, .aload_n 0, 1, 0, 0), (119, .getfield 10, 3, 0, 0), (122, .iload_n 2, 1, 0, 0), (123, .invokevirtual 97, 3, 0, 0), (126, .areturn, 1, 0, 0)]
set_option maxRecDepth 100000 in
theorem tk_X8_faultOf : q_tb cX8_faultOf 5 tb_X8_faultOf = true := by decide +kernel
set_option maxRecDepth 100000 in
theorem mw_X8_apply : q_mw yX8_apply cX8_apply 5 (Option.none : Option Jvm.ClassFile.FieldType) 4 := ⟨q_t6 166 rfl rfl, by decide +kernel, by decide +kernel, q_init_QuillRelay⟩
set_option maxRecDepth 100000 in
theorem mi_X8_apply : Cond.instanceMethod yX8_apply ∈ q_W := q_t6 165 rfl rfl
set_option maxRecDepth 100000 in
theorem me_X8_apply : Cond.selects yX8_apply.cls yX8_apply yX8_apply ∈ q_W := q_s 19 rfl rfl
def tb_X8_apply : List q_E := [(0, .getstatic 407, 3, 0, 0), (3, .aload_n 1, 1, 0, 0), (4, .invokevirtual 412, 3, 0, 0), (7, .iaload, 1, 0, 0), (8, .tableswitch 151 1 7 #[44, 54, 66, 82, 99, 113, 136], 44, 0, 0), (52, .aload_n 0, 1, 0, 0), (53, .getfield 10, 3, 0, 0), (56, .invokevirtual 110, 3, 0, 0), (59, .goto 108, 3, 0, 167), (62, .aload_n 0, 1, 0, 0), (63, .getfield 10, 3, 0, 0), (66, .iload_n 2, 1, 0, 0), (67, .invokevirtual 119, 3, 0, 0), (70, .pop, 1, 0, 0), (71, .goto 96, 3, 0, 167), (74, .aload_n 0, 1, 0, 0), (75, .getfield 10, 3, 0, 0), (78, .aload_n 0, 1, 0, 0), (79, .iload_n 2, 1, 0, 0), (80, .invokevirtual 80, 3, 0, 0), (83, .invokevirtual 126, 3, 0, 0), (86, .pop, 1, 0, 0), (87, .goto 80, 3, 0, 167), (90, .aload_n 0, 1, 0, 0), (91, .getfield 10, 3, 0, 0), (94, .aload_n 0, 1, 0, 0), (95, .iload_n 2, 1, 0, 0), (96, .invokevirtual 80, 3, 0, 0), (99, .iload_n 3, 1, 0, 0), (100, .invokevirtual 134, 3, 0, 0), (103, .pop, 1, 0, 0), (104, .goto 63, 3, 0, 167), (107, .aload_n 0, 1, 0, 0), (108, .iload_n 2, 1, 0, 0), (109, .invokevirtual 80, 3, 0, 0), (112, .getstatic 141, 3, 0, 0), (115, .putfield 147, 3, 0, 0), (118, .goto 49, 3, 0, 167), (121, .aload_n 0, 1, 0, 0), (122, .getfield 10, 3, 0, 0), (125, .aload_n 0, 1, 0, 0), (126, .iload_n 2, 1, 0, 0), (127, .invokevirtual 80, 3, 0, 0), (130, .aload_n 0, 1, 0, 0), (131, .iload_n 3, 1, 0, 0), (132, .invokevirtual 80, 3, 0, 0), (135, .iload 4, 2, 0, 0), (137, .invokevirtual 156, 3, 0, 0), (140, .pop, 1, 0, 0), (141, .goto 26, 3, 0, 167), (144, .aload_n 0, 1, 0, 0), (145, .iload_n 2, 1, 0, 0), (146, .invokevirtual 80, 3, 0, 0), (149, .iload_n 3, 1, 0, 0), (150, .iload 4, 2, 0, 0), (152, .invokevirtual 84, 3, 0, 0), (155, .pop, 1, 0, 0), (156, .goto 11, 3, 0, 167), (159, .aload_n 0, 1, 0, 0), (160, .getfield 10, 3, 0, 0), (163, .iload_n 2, 1, 0, 0), (164, .invokevirtual 100, 3, 0, 0), (167, .return_, 1, 0, 0)]
set_option maxRecDepth 100000 in
theorem tk_X8_apply : q_tb cX8_apply 5 tb_X8_apply = true := by decide +kernel
set_option maxRecDepth 100000 in
theorem mw_X8_isLeg : q_mw yX8_isLeg cX8_isLeg 1 (Option.some Jvm.ClassFile.FieldType.boolean) 1 := ⟨q_t3 34 rfl rfl, by decide +kernel, by decide +kernel, q_init_QuillRelay⟩
set_option maxRecDepth 100000 in
theorem ms_X8_isLeg : Cond.static yX8_isLeg ∈ q_W := q_t3 33 rfl rfl
def tb_X8_isLeg : List q_E := [(0, .iload_n 0, 1, 0, 0), (1, .ifCond .lt 12, 3, 0, 13), (4, .iload_n 0, 1, 0, 0), (5, .iconst 4, 1, 4, 0), (6, .if_icmp .ge 7, 3, 0, 13), (9, .iconst 1, 1, 1, 0), (10, .goto 4, 3, 0, 14), (13, .iconst 0, 1, 0, 0), (14, .ireturn, 1, 0, 0)]
set_option maxRecDepth 100000 in
theorem tk_X8_isLeg : q_tb cX8_isLeg 1 tb_X8_isLeg = true := by decide +kernel
set_option maxRecDepth 100000 in
theorem mw_X8_isKind : q_mw yX8_isKind cX8_isKind 1 (Option.some Jvm.ClassFile.FieldType.boolean) 1 := ⟨q_t3 211 rfl rfl, by decide +kernel, by decide +kernel, q_init_QuillRelay⟩
set_option maxRecDepth 100000 in
theorem ms_X8_isKind : Cond.static yX8_isKind ∈ q_W := q_t3 210 rfl rfl
def tb_X8_isKind : List q_E := [(0, .iload_n 0, 1, 0, 0), (1, .ifCond .eq 8, 3, 0, 9), (4, .iload_n 0, 1, 0, 0), (5, .iconst 1, 1, 1, 0), (6, .if_icmp .ne 7, 3, 0, 13), (9, .iconst 1, 1, 1, 0), (10, .goto 4, 3, 0, 14), (13, .iconst 0, 1, 0, 0), (14, .ireturn, 1, 0, 0)]
set_option maxRecDepth 100000 in
theorem tk_X8_isKind : q_tb cX8_isKind 1 tb_X8_isKind = true := by decide +kernel
set_option maxRecDepth 100000 in
theorem mw_X8_pace : q_mw yX8_pace cX8_pace 2 (Option.some Jvm.ClassFile.FieldType.int) 2 := ⟨q_t3 130 rfl rfl, by decide +kernel, by decide +kernel, q_init_QuillRelay⟩
set_option maxRecDepth 100000 in
theorem ms_X8_pace : Cond.static yX8_pace ∈ q_W := q_t3 129 rfl rfl
def tb_X8_pace : List q_E := [(0, .bipush 10, 2, 10, 0), (2, .iload_n 0, 1, 0, 0), (3, .iload_n 1, 1, 0, 0), (4, .bipush 10, 2, 10, 0), (6, .idiv, 1, 0, 0), (7, .isub, 1, 0, 0), (8, .invokestatic 417, 3, 0, 0), (11, .ireturn, 1, 0, 0)]
set_option maxRecDepth 100000 in
theorem tk_X8_pace : q_tb cX8_pace 2 tb_X8_pace = true := by decide +kernel
set_option maxRecDepth 100000 in
theorem mw_X8_at : q_mw yX8_at cX8_at 2 (Option.some Jvm.ClassFile.FieldType.int) 2 := ⟨q_t2 73 rfl rfl, by decide +kernel, by decide +kernel, q_init_QuillRelay⟩
set_option maxRecDepth 100000 in
theorem ms_X8_at : Cond.static yX8_at ∈ q_W := q_t2 72 rfl rfl
def tb_X8_at : List q_E := [(0, .iload_n 1, 1, 0, 0), (1, .ifCond .lt 15, 3, 0, 16), (4, .iload_n 1, 1, 0, 0), (5, .aload_n 0, 1, 0, 0), (6, .arraylength, 1, 0, 20), (7, .if_icmp .ge 9, 3, 0, 16), (10, .aload_n 0, 1, 0, 0), (11, .iload_n 1, 1, 0, 0), (12, .iaload, 1, 0, 0), (13, .goto 4, 3, 0, 17), (16, .iconst 0, 1, 0, 0), (17, .ireturn, 1, 0, 0)]
set_option maxRecDepth 100000 in
theorem tk_X8_at : q_tb cX8_at 2 tb_X8_at = true := by decide +kernel
set_option maxRecDepth 100000 in
theorem mw_X8_put : q_mw yX8_put cX8_put 3 (Option.none : Option Jvm.ClassFile.FieldType) 3 := ⟨q_t3 50 rfl rfl, by decide +kernel, by decide +kernel, q_init_QuillRelay⟩
set_option maxRecDepth 100000 in
theorem ms_X8_put : Cond.static yX8_put ∈ q_W := q_t3 49 rfl rfl
def tb_X8_put : List q_E := [(0, .iload_n 1, 1, 0, 0), (1, .ifCond .lt 13, 3, 0, 14), (4, .iload_n 1, 1, 0, 0), (5, .aload_n 0, 1, 0, 0), (6, .arraylength, 1, 0, 20), (7, .if_icmp .ge 7, 3, 0, 14), (10, .aload_n 0, 1, 0, 0), (11, .iload_n 1, 1, 0, 0), (12, .iload_n 2, 1, 0, 0), (13, .iastore, 1, 0, 0), (14, .return_, 1, 0, 0)]
set_option maxRecDepth 100000 in
theorem tk_X8_put : q_tb cX8_put 3 tb_X8_put = true := by decide +kernel
set_option maxRecDepth 100000 in
theorem mw_X8_copyRow : q_mw yX8_copyRow cX8_copyRow 3 (Option.none : Option Jvm.ClassFile.FieldType) 2 := ⟨q_t2 70 rfl rfl, by decide +kernel, by decide +kernel, q_init_QuillRelay⟩
set_option maxRecDepth 100000 in
theorem ms_X8_copyRow : Cond.static yX8_copyRow ∈ q_W := q_t2 69 rfl rfl
def tb_X8_copyRow : List q_E := [(0, .iconst 0, 1, 0, 0), (1, .istore_n 2, 1, 0, 0), (2, .iload_n 2, 1, 0, 0), (3, .aload_n 1, 1, 0, 0), (4, .arraylength, 1, 0, 20), (5, .if_icmp .ge 17, 3, 0, 22), (8, .aload_n 1, 1, 0, 0), (9, .iload_n 2, 1, 0, 0), (10, .aload_n 0, 1, 0, 0), (11, .iload_n 2, 1, 0, 0), (12, .invokestatic 222, 3, 0, 0), (15, .iastore, 1, 0, 0), (16, .iinc 2 1, 3, 1, 0), (19, .goto (-17), 3, 0, 2), (22, .return_, 1, 0, 0)]
set_option maxRecDepth 100000 in
theorem tk_X8_copyRow : q_tb cX8_copyRow 3 tb_X8_copyRow = true := by decide +kernel
set_option maxRecDepth 100000 in
theorem mw_X9_init : q_mw yX9_init cX9_init 1 (Option.none : Option Jvm.ClassFile.FieldType) 0 := ⟨q_t6 209 rfl rfl, by decide +kernel, by decide +kernel, q_init_QuillRelayModel⟩
set_option maxRecDepth 100000 in
theorem mi_X9_init : Cond.instanceMethod yX9_init ∈ q_W := q_t6 208 rfl rfl
def tb_X9_init : List q_E := [(0, .aload_n 0, 1, 0, 0), (1, .invokespecial 3, 3, 0, 0), (4, .aload_n 0, 1, 0, 0), (5, .bipush 118, 2, 118, 0), (7, .newarray .int, 2, 0, 0), (9, .putfield 9, 3, 0, 0), (12, .aload_n 0, 1, 0, 0), (13, .bipush 118, 2, 118, 0), (15, .newarray .int, 2, 0, 0), (17, .putfield 13, 3, 0, 0), (20, .aload_n 0, 1, 0, 0), (21, .bipush 118, 2, 118, 0), (23, .newarray .int, 2, 0, 0), (25, .putfield 16, 3, 0, 0), (28, .aload_n 0, 1, 0, 0), (29, .sipush 944, 3, 944, 0), (32, .newarray .int, 2, 0, 0), (34, .putfield 19, 3, 0, 0), (37, .aload_n 0, 1, 0, 0), (38, .iconst (-1), 1, (-1), 0), (39, .putfield 22, 3, 0, 0), (42, .aload_n 0, 1, 0, 0), (43, .iconst (-1), 1, (-1), 0), (44, .putfield 26, 3, 0, 0), (47, .aload_n 0, 1, 0, 0), (48, .bipush 40, 2, 40, 0), (50, .newarray .int, 2, 0, 0), (52, .putfield 29, 3, 0, 0), (55, .aload_n 0, 1, 0, 0), (56, .bipush 60, 2, 60, 0), (58, .newarray .int, 2, 0, 0), (60, .putfield 32, 3, 0, 0), (63, .aload_n 0, 1, 0, 0), (64, .bipush 124, 2, 124, 0), (66, .newarray .int, 2, 0, 0), (68, .putfield 35, 3, 0, 0), (71, .aload_n 0, 1, 0, 0), (72, .getfield 9, 3, 0, 0), (75, .iconst 0, 1, 0, 0), (76, .sipush 1000, 3, 1000, 0), (79, .iastore, 1, 0, 0), (80, .return_, 1, 0, 0)]
set_option maxRecDepth 100000 in
theorem tk_X9_init : q_tb cX9_init 1 tb_X9_init = true := by decide +kernel
set_option maxRecDepth 100000 in
theorem mw_X9_thrown : q_mw yX9_thrown cX9_thrown 1 (Option.some Jvm.ClassFile.FieldType.int) 0 := ⟨q_t7 32 rfl rfl, by decide +kernel, by decide +kernel, q_init_QuillRelayModel⟩
set_option maxRecDepth 100000 in
theorem mi_X9_thrown : Cond.instanceMethod yX9_thrown ∈ q_W := q_t7 30 rfl rfl
set_option maxRecDepth 100000 in
theorem me_X9_thrown : Cond.selects yX9_thrown.cls yX9_thrown yX9_thrown ∈ q_W := q_t7 31 rfl rfl
def tb_X9_thrown : List q_E := [(0, .aload_n 0, 1, 0, 0), (1, .getfield 38, 3, 0, 0), (4, .ireturn, 1, 0, 0)]
set_option maxRecDepth 100000 in
theorem tk_X9_thrown : q_tb cX9_thrown 1 tb_X9_thrown = true := by decide +kernel
set_option maxRecDepth 100000 in
theorem mw_X9_isIn : q_mw yX9_isIn cX9_isIn 3 (Option.some Jvm.ClassFile.FieldType.boolean) 3 := ⟨q_t7 74 rfl rfl, by decide +kernel, by decide +kernel, q_init_QuillRelayModel⟩
set_option maxRecDepth 100000 in
theorem ms_X9_isIn : Cond.static yX9_isIn ∈ q_W := q_t7 73 rfl rfl
def tb_X9_isIn : List q_E := [(0, .iload_n 0, 1, 0, 0), (1, .iload_n 1, 1, 0, 0), (2, .if_icmp .lt 12, 3, 0, 14), (5, .iload_n 0, 1, 0, 0), (6, .iload_n 2, 1, 0, 0), (7, .if_icmp .gt 7, 3, 0, 14), (10, .iconst 1, 1, 1, 0), (11, .goto 4, 3, 0, 15), (14, .iconst 0, 1, 0, 0), (15, .ireturn, 1, 0, 0)]
set_option maxRecDepth 100000 in
theorem tk_X9_isIn : q_tb cX9_isIn 3 tb_X9_isIn = true := by decide +kernel
set_option maxRecDepth 100000 in
theorem mw_X9_copies : q_mw yX9_copies cX9_copies 5 (Option.none : Option Jvm.ClassFile.FieldType) 4 := ⟨q_t7 43 rfl rfl, by decide +kernel, by decide +kernel, q_init_QuillRelayModel⟩
set_option maxRecDepth 100000 in
theorem ms_X9_copies : Cond.static yX9_copies ∈ q_W := q_t7 42 rfl rfl
def tb_X9_copies : List q_E := [(0, .iconst 0, 1, 0, 0), (1, .istore 4, 2, 0, 0), (3, .iload 4, 2, 0, 0), (5, .bipush 118, 2, 118, 0), (7, .if_icmp .ge 21, 3, 0, 28), (10, .aload_n 2, 1, 0, 0), (11, .iload_n 3, 1, 0, 0), (12, .iload 4, 2, 0, 0), (14, .iadd, 1, 0, 0), (15, .aload_n 0, 1, 0, 0), (16, .iload_n 1, 1, 0, 0), (17, .iload 4, 2, 0, 0), (19, .iadd, 1, 0, 0), (20, .iaload, 1, 0, 0), (21, .iastore, 1, 0, 0), (22, .iinc 4 1, 3, 1, 0), (25, .goto (-22), 3, 0, 3), (28, .return_, 1, 0, 0)]
set_option maxRecDepth 100000 in
theorem tk_X9_copies : q_tb cX9_copies 5 tb_X9_copies = true := by decide +kernel
set_option maxRecDepth 100000 in
theorem mw_X9_keeps : q_mw yX9_keeps cX9_keeps 1 (Option.none : Option Jvm.ClassFile.FieldType) 0 := ⟨q_t7 40 rfl rfl, by decide +kernel, by decide +kernel, q_init_QuillRelayModel⟩
set_option maxRecDepth 100000 in
theorem mi_X9_keeps : Cond.instanceMethod yX9_keeps ∈ q_W := q_t7 39 rfl rfl
set_option maxRecDepth 100000 in
theorem me_X9_keeps : Cond.selects yX9_keeps.cls yX9_keeps yX9_keeps ∈ q_W := q_s 20 rfl rfl
def tb_X9_keeps : List q_E := [(0, .aload_n 0, 1, 0, 0), (1, .getfield 9, 3, 0, 0), (4, .iconst 0, 1, 0, 0), (5, .aload_n 0, 1, 0, 0), (6, .getfield 13, 3, 0, 0), (9, .iconst 0, 1, 0, 0), (10, .invokestatic 41, 3, 0, 0), (13, .aload_n 0, 1, 0, 0), (14, .iconst 0, 1, 0, 0), (15, .putfield 38, 3, 0, 0), (18, .return_, 1, 0, 0)]
set_option maxRecDepth 100000 in
theorem tk_X9_keeps : q_tb cX9_keeps 1 tb_X9_keeps = true := by decide +kernel
set_option maxRecDepth 100000 in
theorem mw_X9_ends : q_mw yX9_ends cX9_ends 3 (Option.some Jvm.ClassFile.FieldType.int) 1 := ⟨q_t7 59 rfl rfl, by decide +kernel, by decide +kernel, q_init_QuillRelayModel⟩
set_option maxRecDepth 100000 in
theorem mi_X9_ends : Cond.instanceMethod yX9_ends ∈ q_W := q_t7 58 rfl rfl
set_option maxRecDepth 100000 in
theorem me_X9_ends : Cond.selects yX9_ends.cls yX9_ends yX9_ends ∈ q_W := q_s 24 rfl rfl
def tb_X9_ends : List q_E := [(0, .aload_n 0, 1, 0, 0), (1, .getfield 38, 3, 0, 0), (4, .ifCond .eq 5, 3, 0, 9), (7, .iconst 0, 1, 0, 0), (8, .ireturn, 1, 0, 0), (9, .aload_n 0, 1, 0, 0), (10, .getfield 45, 3, 0, 0), (13, .bipush 8, 2, 8, 0), (15, .if_icmp .ne 48, 3, 0, 63), (18, .iconst 1, 1, 1, 0), (19, .istore_n 2, 1, 0, 0), (20, .iload_n 2, 1, 0, 0), (21, .bipush 8, 2, 8, 0), (23, .if_icmp .ge 30, 3, 0, 53), (26, .aload_n 0, 1, 0, 0), (27, .getfield 19, 3, 0, 0), (30, .bipush 118, 2, 118, 0), (32, .iload_n 2, 1, 0, 0), (33, .imul, 1, 0, 0), (34, .aload_n 0, 1, 0, 0), (35, .getfield 19, 3, 0, 0), (38, .bipush 118, 2, 118, 0), (40, .iload_n 2, 1, 0, 0), (41, .iconst 1, 1, 1, 0), (42, .isub, 1, 0, 0), (43, .imul, 1, 0, 0), (44, .invokestatic 41, 3, 0, 0), (47, .iinc 2 1, 3, 1, 0), (50, .goto (-30), 3, 0, 20), (53, .aload_n 0, 1, 0, 0), (54, .dup, 1, 0, 0), (55, .getfield 45, 3, 0, 0), (58, .iconst 1, 1, 1, 0), (59, .isub, 1, 0, 0), (60, .putfield 45, 3, 0, 0), (63, .aload_n 0, 1, 0, 0), (64, .getfield 13, 3, 0, 0), (67, .iconst 0, 1, 0, 0), (68, .aload_n 0, 1, 0, 0), (69, .getfield 19, 3, 0, 0), (72, .bipush 118, 2, 118, 0), (74, .aload_n 0, 1, 0, 0), (75, .getfield 45, 3, 0, 0), (78, .imul, 1, 0, 0), (79, .invokestatic 41, 3, 0, 0), (82, .aload_n 0, 1, 0, 0), (83, .dup, 1, 0, 0), (84, .getfield 45, 3, 0, 0), (87, .iconst 1, 1, 1, 0), (88, .iadd, 1, 0, 0), (89, .putfield 45, 3, 0, 0), (92, .iload_n 1, 1, 0, 0), (93, .ireturn, 1, 0, 0)]
set_option maxRecDepth 100000 in
theorem tk_X9_ends : q_tb cX9_ends 3 tb_X9_ends = true := by decide +kernel
set_option maxRecDepth 100000 in
theorem mw_X9_isThrown : q_mw yX9_isThrown cX9_isThrown 3 (Option.some Jvm.ClassFile.FieldType.boolean) 2 := ⟨q_t7 51 rfl rfl, by decide +kernel, by decide +kernel, q_init_QuillRelayModel⟩
set_option maxRecDepth 100000 in
theorem mi_X9_isThrown : Cond.instanceMethod yX9_isThrown ∈ q_W := q_t7 50 rfl rfl
set_option maxRecDepth 100000 in
theorem me_X9_isThrown : Cond.selects yX9_isThrown.cls yX9_isThrown yX9_isThrown ∈ q_W := q_s 22 rfl rfl
def tb_X9_isThrown : List q_E := [(0, .aload_n 0, 1, 0, 0), (1, .iload_n 1, 1, 0, 0), (2, .ifCond .eq 7, 3, 0, 9), (5, .iload_n 2, 1, 0, 0), (6, .goto 4, 3, 0, 10), (9, .iconst 0, 1, 0, 0), (10, .putfield 38, 3, 0, 0), (13, .iload_n 1, 1, 0, 0), (14, .ireturn, 1, 0, 0)]
set_option maxRecDepth 100000 in
theorem tk_X9_isThrown : q_tb cX9_isThrown 3 tb_X9_isThrown = true := by decide +kernel
set_option maxRecDepth 100000 in
theorem mw_X9_of : q_mw yX9_of cX9_of 3 (Option.some Jvm.ClassFile.FieldType.int) 2 := ⟨q_t7 81 rfl rfl, by decide +kernel, by decide +kernel, q_init_QuillRelayModel⟩
set_option maxRecDepth 100000 in
theorem mi_X9_of : Cond.instanceMethod yX9_of ∈ q_W := q_t7 80 rfl rfl
set_option maxRecDepth 100000 in
theorem me_X9_of : Cond.selects yX9_of.cls yX9_of yX9_of ∈ q_W := q_s 27 rfl rfl
def tb_X9_of : List q_E := [(0, .aload_n 0, 1, 0, 0), (1, .getfield 9, 3, 0, 0), (4, .iconst 4, 1, 4, 0), (5, .bipush 19, 2, 19, 0), (7, .iload_n 1, 1, 0, 0), (8, .imul, 1, 0, 0), (9, .iadd, 1, 0, 0), (10, .iload_n 2, 1, 0, 0), (11, .iadd, 1, 0, 0), (12, .iaload, 1, 0, 0), (13, .ireturn, 1, 0, 0)]
set_option maxRecDepth 100000 in
theorem tk_X9_of : q_tb cX9_of 3 tb_X9_of = true := by decide +kernel
set_option maxRecDepth 100000 in
theorem mw_X9_sets : q_mw yX9_sets cX9_sets 4 (Option.none : Option Jvm.ClassFile.FieldType) 3 := ⟨q_t7 55 rfl rfl, by decide +kernel, by decide +kernel, q_init_QuillRelayModel⟩
set_option maxRecDepth 100000 in
theorem mi_X9_sets : Cond.instanceMethod yX9_sets ∈ q_W := q_t7 54 rfl rfl
set_option maxRecDepth 100000 in
theorem me_X9_sets : Cond.selects yX9_sets.cls yX9_sets yX9_sets ∈ q_W := q_s 23 rfl rfl
def tb_X9_sets : List q_E := [(0, .aload_n 0, 1, 0, 0), (1, .getfield 9, 3, 0, 0), (4, .iconst 4, 1, 4, 0), (5, .bipush 19, 2, 19, 0), (7, .iload_n 1, 1, 0, 0), (8, .imul, 1, 0, 0), (9, .iadd, 1, 0, 0), (10, .iload_n 2, 1, 0, 0), (11, .iadd, 1, 0, 0), (12, .iload_n 3, 1, 0, 0), (13, .iastore, 1, 0, 0), (14, .return_, 1, 0, 0)]
set_option maxRecDepth 100000 in
theorem tk_X9_sets : q_tb cX9_sets 4 tb_X9_sets = true := by decide +kernel
set_option maxRecDepth 100000 in
theorem mw_X9_isTeam : q_mw yX9_isTeam cX9_isTeam 2 (Option.some Jvm.ClassFile.FieldType.boolean) 1 := ⟨q_t7 71 rfl rfl, by decide +kernel, by decide +kernel, q_init_QuillRelayModel⟩
set_option maxRecDepth 100000 in
theorem mi_X9_isTeam : Cond.instanceMethod yX9_isTeam ∈ q_W := q_t7 70 rfl rfl
set_option maxRecDepth 100000 in
theorem me_X9_isTeam : Cond.selects yX9_isTeam.cls yX9_isTeam yX9_isTeam ∈ q_W := q_s 26 rfl rfl
def tb_X9_isTeam : List q_E := [(0, .iload_n 1, 1, 0, 0), (1, .iconst 0, 1, 0, 0), (2, .aload_n 0, 1, 0, 0), (3, .getfield 9, 3, 0, 0), (6, .iconst 3, 1, 3, 0), (7, .iaload, 1, 0, 0), (8, .iconst 1, 1, 1, 0), (9, .isub, 1, 0, 0), (10, .invokestatic 48, 3, 0, 0), (13, .ireturn, 1, 0, 0)]
set_option maxRecDepth 100000 in
theorem tk_X9_isTeam : q_tb cX9_isTeam 2 tb_X9_isTeam = true := by decide +kernel
set_option maxRecDepth 100000 in
theorem mw_X9_isLeg : q_mw yX9_isLeg cX9_isLeg 1 (Option.some Jvm.ClassFile.FieldType.boolean) 1 := ⟨q_t7 77 rfl rfl, by decide +kernel, by decide +kernel, q_init_QuillRelayModel⟩
set_option maxRecDepth 100000 in
theorem ms_X9_isLeg : Cond.static yX9_isLeg ∈ q_W := q_t7 76 rfl rfl
def tb_X9_isLeg : List q_E := [(0, .iload_n 0, 1, 0, 0), (1, .iconst 0, 1, 0, 0), (2, .iconst 3, 1, 3, 0), (3, .invokestatic 48, 3, 0, 0), (6, .ireturn, 1, 0, 0)]
set_option maxRecDepth 100000 in
theorem tk_X9_isLeg : q_tb cX9_isLeg 1 tb_X9_isLeg = true := by decide +kernel
set_option maxRecDepth 100000 in
theorem mw_X9_isUnprepared : q_mw yX9_isUnprepared cX9_isUnprepared 1 (Option.some Jvm.ClassFile.FieldType.boolean) 0 := ⟨q_t7 47 rfl rfl, by decide +kernel, by decide +kernel, q_init_QuillRelayModel⟩
set_option maxRecDepth 100000 in
theorem mi_X9_isUnprepared : Cond.instanceMethod yX9_isUnprepared ∈ q_W := q_t7 46 rfl rfl
set_option maxRecDepth 100000 in
theorem me_X9_isUnprepared : Cond.selects yX9_isUnprepared.cls yX9_isUnprepared yX9_isUnprepared ∈ q_W := q_s 21 rfl rfl
def tb_X9_isUnprepared : List q_E := [(0, .aload_n 0, 1, 0, 0), (1, .getfield 9, 3, 0, 0), (4, .iconst 1, 1, 1, 0), (5, .iaload, 1, 0, 0), (6, .iconst 1, 1, 1, 0), (7, .if_icmp .ne 7, 3, 0, 14), (10, .iconst 1, 1, 1, 0), (11, .goto 4, 3, 0, 15), (14, .iconst 0, 1, 0, 0), (15, .ireturn, 1, 0, 0)]
set_option maxRecDepth 100000 in
theorem tk_X9_isUnprepared : q_tb cX9_isUnprepared 1 tb_X9_isUnprepared = true := by decide +kernel
set_option maxRecDepth 100000 in
theorem mw_X9_inStatus : q_mw yX9_inStatus cX9_inStatus 4 (Option.some Jvm.ClassFile.FieldType.int) 1 := ⟨q_t7 117 rfl rfl, by decide +kernel, by decide +kernel, q_init_QuillRelayModel⟩
set_option maxRecDepth 100000 in
theorem mi_X9_inStatus : Cond.instanceMethod yX9_inStatus ∈ q_W := q_t7 116 rfl rfl
set_option maxRecDepth 100000 in
theorem me_X9_inStatus : Cond.selects yX9_inStatus.cls yX9_inStatus yX9_inStatus ∈ q_W := q_s 32 rfl rfl
def tb_X9_inStatus : List q_E := [(0, .iconst 0, 1, 0, 0), (1, .istore_n 2, 1, 0, 0), (2, .iconst 0, 1, 0, 0), (3, .istore_n 3, 1, 0, 0), (4, .iload_n 3, 1, 0, 0), (5, .aload_n 0, 1, 0, 0), (6, .getfield 9, 3, 0, 0), (9, .iconst 3, 1, 3, 0), (10, .iaload, 1, 0, 0), (11, .if_icmp .ge 28, 3, 0, 39), (14, .iload_n 2, 1, 0, 0), (15, .aload_n 0, 1, 0, 0), (16, .iload_n 3, 1, 0, 0), (17, .bipush 6, 2, 6, 0), (19, .invokevirtual 52, 3, 0, 0), (22, .iload_n 1, 1, 0, 0), (23, .if_icmp .ne 7, 3, 0, 30), (26, .iconst 1, 1, 1, 0), (27, .goto 4, 3, 0, 31), (30, .iconst 0, 1, 0, 0), (31, .iadd, 1, 0, 0), (32, .istore_n 2, 1, 0, 0), (33, .iinc 3 1, 3, 1, 0), (36, .goto (-32), 3, 0, 4), (39, .iload_n 2, 1, 0, 0), (40, .ireturn, 1, 0, 0)]
set_option maxRecDepth 100000 in
theorem tk_X9_inStatus : q_tb cX9_inStatus 4 tb_X9_inStatus = true := by decide +kernel
set_option maxRecDepth 100000 in
theorem mw_X9_addTeam : q_mw yX9_addTeam cX9_addTeam 3 (Option.some Jvm.ClassFile.FieldType.int) 0 := ⟨q_t7 36 rfl rfl, by decide +kernel, by decide +kernel, q_init_QuillRelayModel⟩
set_option maxRecDepth 100000 in
theorem mi_X9_addTeam : Cond.instanceMethod yX9_addTeam ∈ q_W := q_t7 34 rfl rfl
set_option maxRecDepth 100000 in
theorem me_X9_addTeam : Cond.selects yX9_addTeam.cls yX9_addTeam yX9_addTeam ∈ q_W := q_t7 35 rfl rfl
def tb_X9_addTeam : List q_E := [(0, .aload_n 0, 1, 0, 0), (1, .invokevirtual 56, 3, 0, 0), (4, .aload_n 0, 1, 0, 0), (5, .aload_n 0, 1, 0, 0), (6, .invokevirtual 59, 3, 0, 0), (9, .ifCond .ne 14, 3, 0, 23), (12, .aload_n 0, 1, 0, 0), (13, .getfield 9, 3, 0, 0), (16, .iconst 3, 1, 3, 0), (17, .iaload, 1, 0, 0), (18, .bipush 6, 2, 6, 0), (20, .if_icmp .ne 7, 3, 0, 27), (23, .iconst 1, 1, 1, 0), (24, .goto 4, 3, 0, 28), (27, .iconst 0, 1, 0, 0), (28, .iconst 1, 1, 1, 0), (29, .invokevirtual 63, 3, 0, 0), (32, .ifCond .eq 5, 3, 0, 37), (35, .iconst 0, 1, 0, 0), (36, .ireturn, 1, 0, 0), (37, .aload_n 0, 1, 0, 0), (38, .getfield 9, 3, 0, 0), (41, .iconst 3, 1, 3, 0), (42, .iaload, 1, 0, 0), (43, .istore_n 1, 1, 0, 0), (44, .iconst 0, 1, 0, 0), (45, .istore_n 2, 1, 0, 0), (46, .iload_n 2, 1, 0, 0), (47, .iconst 4, 1, 4, 0), (48, .if_icmp .ge 19, 3, 0, 67), (51, .aload_n 0, 1, 0, 0), (52, .iload_n 1, 1, 0, 0), (53, .iconst 0, 1, 0, 0), (54, .iload_n 2, 1, 0, 0), (55, .iadd, 1, 0, 0), (56, .bipush 60, 2, 60, 0), (58, .invokevirtual 67, 3, 0, 0), (61, .iinc 2 1, 3, 1, 0), (64, .goto (-18), 3, 0, 46), (67, .aload_n 0, 1, 0, 0), (68, .iload_n 1, 1, 0, 0), (69, .iconst 4, 1, 4, 0), (70, .iload_n 1, 1, 0, 0), (71, .iconst 1, 1, 1, 0), (72, .iadd, 1, 0, 0), (73, .invokevirtual 67, 3, 0, 0), (76, .aload_n 0, 1, 0, 0), (77, .getfield 9, 3, 0, 0), (80, .iconst 3, 1, 3, 0), (81, .dup2, 1, 0, 0), (82, .iaload, 1, 0, 0), (83, .iconst 1, 1, 1, 0), (84, .iadd, 1, 0, 0), (85, .iastore, 1, 0, 0), (86, .aload_n 0, 1, 0, 0), (87, .iload_n 1, 1, 0, 0), (88, .invokevirtual 71, 3, 0, 0), (91, .ireturn, 1, 0, 0)]
set_option maxRecDepth 100000 in
theorem tk_X9_addTeam : q_tb cX9_addTeam 3 tb_X9_addTeam = true := by decide +kernel
set_option maxRecDepth 100000 in
theorem mw_X9_speeds : q_mw yX9_speeds cX9_speeds 5 (Option.some Jvm.ClassFile.FieldType.int) 3 := ⟨q_t7 67 rfl rfl, by decide +kernel, by decide +kernel, q_init_QuillRelayModel⟩
set_option maxRecDepth 100000 in
theorem mi_X9_speeds : Cond.instanceMethod yX9_speeds ∈ q_W := q_t7 66 rfl rfl
set_option maxRecDepth 100000 in
theorem me_X9_speeds : Cond.selects yX9_speeds.cls yX9_speeds yX9_speeds ∈ q_W := q_s 25 rfl rfl
def tb_X9_speeds : List q_E := [(0, .aload_n 0, 1, 0, 0), (1, .aload_n 0, 1, 0, 0), (2, .iload_n 1, 1, 0, 0), (3, .invokevirtual 75, 3, 0, 0), (6, .ifCond .eq 10, 3, 0, 16), (9, .iload_n 2, 1, 0, 0), (10, .invokestatic 79, 3, 0, 0), (13, .ifCond .ne 7, 3, 0, 20), (16, .iconst 1, 1, 1, 0), (17, .goto 4, 3, 0, 21), (20, .iconst 0, 1, 0, 0), (21, .iconst 1, 1, 1, 0), (22, .invokevirtual 63, 3, 0, 0), (25, .ifCond .ne 39, 3, 0, 64), (28, .aload_n 0, 1, 0, 0), (29, .iload_n 3, 1, 0, 0), (30, .bipush 20, 2, 20, 0), (32, .bipush 99, 2, 99, 0), (34, .invokestatic 48, 3, 0, 0), (37, .ifCond .ne 7, 3, 0, 44), (40, .iconst 1, 1, 1, 0), (41, .goto 4, 3, 0, 45), (44, .iconst 0, 1, 0, 0), (45, .iconst 2, 1, 2, 0), (46, .invokevirtual 63, 3, 0, 0), (49, .ifCond .ne 15, 3, 0, 64), (52, .aload_n 0, 1, 0, 0), (53, .aload_n 0, 1, 0, 0), (54, .invokevirtual 59, 3, 0, 0), (57, .iconst 3, 1, 3, 0), (58, .invokevirtual 63, 3, 0, 0), (61, .ifCond .eq 5, 3, 0, 66), (64, .iconst 0, 1, 0, 0), (65, .ireturn, 1, 0, 0), (66, .aload_n 0, 1, 0, 0), (67, .iload_n 1, 1, 0, 0), (68, .iconst 0, 1, 0, 0), (69, .iload_n 2, 1, 0, 0), (70, .iadd, 1, 0, 0), (71, .invokevirtual 52, 3, 0, 0), (74, .istore 4, 2, 0, 0), (76, .aload_n 0, 1, 0, 0), (77, .iload_n 1, 1, 0, 0), (78, .iconst 0, 1, 0, 0), (79, .iload_n 2, 1, 0, 0), (80, .iadd, 1, 0, 0), (81, .iload_n 3, 1, 0, 0), (82, .invokevirtual 67, 3, 0, 0), (85, .iload 4, 2, 0, 0), (87, .ireturn, 1, 0, 0)]
set_option maxRecDepth 100000 in
theorem tk_X9_speeds : q_tb cX9_speeds 5 tb_X9_speeds = true := by decide +kernel
set_option maxRecDepth 100000 in
theorem mw_X9_setSpeed : q_mw yX9_setSpeed cX9_setSpeed 4 (Option.some Jvm.ClassFile.FieldType.int) 3 := ⟨q_t7 63 rfl rfl, by decide +kernel, by decide +kernel, q_init_QuillRelayModel⟩
set_option maxRecDepth 100000 in
theorem mi_X9_setSpeed : Cond.instanceMethod yX9_setSpeed ∈ q_W := q_t7 61 rfl rfl
set_option maxRecDepth 100000 in
theorem me_X9_setSpeed : Cond.selects yX9_setSpeed.cls yX9_setSpeed yX9_setSpeed ∈ q_W := q_t7 62 rfl rfl
def tb_X9_setSpeed : List q_E := [(0, .aload_n 0, 1, 0, 0), (1, .invokevirtual 56, 3, 0, 0), (4, .aload_n 0, 1, 0, 0), (5, .aload_n 0, 1, 0, 0), (6, .iload_n 1, 1, 0, 0), (7, .iload_n 2, 1, 0, 0), (8, .iload_n 3, 1, 0, 0), (9, .invokevirtual 82, 3, 0, 0), (12, .invokevirtual 71, 3, 0, 0), (15, .ireturn, 1, 0, 0)]
set_option maxRecDepth 100000 in
theorem tk_X9_setSpeed : q_tb cX9_setSpeed 4 tb_X9_setSpeed = true := by decide +kernel
set_option maxRecDepth 100000 in
theorem mw_X9_setLength : q_mw yX9_setLength cX9_setLength 3 (Option.some Jvm.ClassFile.FieldType.int) 1 := ⟨q_t7 85 rfl rfl, by decide +kernel, by decide +kernel, q_init_QuillRelayModel⟩
set_option maxRecDepth 100000 in
theorem mi_X9_setLength : Cond.instanceMethod yX9_setLength ∈ q_W := q_t7 83 rfl rfl
set_option maxRecDepth 100000 in
theorem me_X9_setLength : Cond.selects yX9_setLength.cls yX9_setLength yX9_setLength ∈ q_W := q_t7 84 rfl rfl
def tb_X9_setLength : List q_E := [(0, .aload_n 0, 1, 0, 0), (1, .invokevirtual 56, 3, 0, 0), (4, .aload_n 0, 1, 0, 0), (5, .iload_n 1, 1, 0, 0), (6, .sipush 400, 3, 400, 0), (9, .sipush 4000, 3, 4000, 0), (12, .invokestatic 48, 3, 0, 0), (15, .ifCond .ne 7, 3, 0, 22), (18, .iconst 1, 1, 1, 0), (19, .goto 4, 3, 0, 23), (22, .iconst 0, 1, 0, 0), (23, .iconst 1, 1, 1, 0), (24, .invokevirtual 63, 3, 0, 0), (27, .ifCond .ne 15, 3, 0, 42), (30, .aload_n 0, 1, 0, 0), (31, .aload_n 0, 1, 0, 0), (32, .invokevirtual 59, 3, 0, 0), (35, .iconst 2, 1, 2, 0), (36, .invokevirtual 63, 3, 0, 0), (39, .ifCond .eq 5, 3, 0, 44), (42, .iconst 0, 1, 0, 0), (43, .ireturn, 1, 0, 0), (44, .aload_n 0, 1, 0, 0), (45, .getfield 9, 3, 0, 0), (48, .iconst 0, 1, 0, 0), (49, .iaload, 1, 0, 0), (50, .istore_n 2, 1, 0, 0), (51, .aload_n 0, 1, 0, 0), (52, .getfield 9, 3, 0, 0), (55, .iconst 0, 1, 0, 0), (56, .iload_n 1, 1, 0, 0), (57, .iastore, 1, 0, 0), (58, .aload_n 0, 1, 0, 0), (59, .iload_n 2, 1, 0, 0), (60, .invokevirtual 71, 3, 0, 0), (63, .ireturn, 1, 0, 0)]
set_option maxRecDepth 100000 in
theorem tk_X9_setLength : q_tb cX9_setLength 3 tb_X9_setLength = true := by decide +kernel
set_option maxRecDepth 100000 in
theorem mw_X9_freeLane : q_mw yX9_freeLane cX9_freeLane 5 (Option.some Jvm.ClassFile.FieldType.int) 2 := ⟨q_t7 97 rfl rfl, by decide +kernel, by decide +kernel, q_init_QuillRelayModel⟩
set_option maxRecDepth 100000 in
theorem mi_X9_freeLane : Cond.instanceMethod yX9_freeLane ∈ q_W := q_t7 96 rfl rfl
set_option maxRecDepth 100000 in
theorem me_X9_freeLane : Cond.selects yX9_freeLane.cls yX9_freeLane yX9_freeLane ∈ q_W := q_s 29 rfl rfl
def tb_X9_freeLane : List q_E := [(0, .iload_n 2, 1, 0, 0), (1, .istore_n 3, 1, 0, 0), (2, .iconst 1, 1, 1, 0), (3, .istore 4, 2, 0, 0), (5, .iload_n 1, 1, 0, 0), (6, .iload 4, 2, 0, 0), (8, .ishr, 1, 0, 0), (9, .iconst 1, 1, 1, 0), (10, .iand, 1, 0, 0), (11, .iconst 1, 1, 1, 0), (12, .if_icmp .eq 7, 3, 0, 19), (15, .iload_n 3, 1, 0, 0), (16, .ifCond .le 27, 3, 0, 43), (19, .iload_n 3, 1, 0, 0), (20, .iload_n 1, 1, 0, 0), (21, .iload 4, 2, 0, 0), (23, .ishr, 1, 0, 0), (24, .iconst 1, 1, 1, 0), (25, .iand, 1, 0, 0), (26, .iconst 1, 1, 1, 0), (27, .if_icmp .ne 7, 3, 0, 34), (30, .iconst 0, 1, 0, 0), (31, .goto 4, 3, 0, 35), (34, .iconst 1, 1, 1, 0), (35, .isub, 1, 0, 0), (36, .istore_n 3, 1, 0, 0), (37, .iinc 4 1, 3, 1, 0), (40, .goto (-35), 3, 0, 5), (43, .iload 4, 2, 0, 0), (45, .ireturn, 1, 0, 0)]
set_option maxRecDepth 100000 in
theorem tk_X9_freeLane : q_tb cX9_freeLane 5 tb_X9_freeLane = true := by decide +kernel
set_option maxRecDepth 100000 in
theorem mw_X9_draws : q_mw yX9_draws cX9_draws 6 (Option.some Jvm.ClassFile.FieldType.int) 1 := ⟨q_t7 93 rfl rfl, by decide +kernel, by decide +kernel, q_init_QuillRelayModel⟩
set_option maxRecDepth 100000 in
theorem mi_X9_draws : Cond.instanceMethod yX9_draws ∈ q_W := q_t7 92 rfl rfl
set_option maxRecDepth 100000 in
theorem me_X9_draws : Cond.selects yX9_draws.cls yX9_draws yX9_draws ∈ q_W := q_s 28 rfl rfl
def tb_X9_draws : List q_E := [(0, .aload_n 0, 1, 0, 0), (1, .iload_n 1, 1, 0, 0), (2, .iconst 0, 1, 0, 0), (3, .sipush 999, 3, 999, 0), (6, .invokestatic 48, 3, 0, 0), (9, .ifCond .ne 7, 3, 0, 16), (12, .iconst 1, 1, 1, 0), (13, .goto 4, 3, 0, 17), (16, .iconst 0, 1, 0, 0), (17, .iconst 1, 1, 1, 0), (18, .invokevirtual 63, 3, 0, 0), (21, .ifCond .ne 32, 3, 0, 53), (24, .aload_n 0, 1, 0, 0), (25, .aload_n 0, 1, 0, 0), (26, .invokevirtual 59, 3, 0, 0), (29, .ifCond .ne 12, 3, 0, 41), (32, .aload_n 0, 1, 0, 0), (33, .getfield 9, 3, 0, 0), (36, .iconst 3, 1, 3, 0), (37, .iaload, 1, 0, 0), (38, .ifCond .ne 7, 3, 0, 45), (41, .iconst 1, 1, 1, 0), (42, .goto 4, 3, 0, 46), (45, .iconst 0, 1, 0, 0), (46, .iconst 2, 1, 2, 0), (47, .invokevirtual 63, 3, 0, 0), (50, .ifCond .eq 5, 3, 0, 55), (53, .iconst 0, 1, 0, 0), (54, .ireturn, 1, 0, 0), (55, .iload_n 1, 1, 0, 0), (56, .istore_n 2, 1, 0, 0), (57, .iconst 0, 1, 0, 0), (58, .istore_n 3, 1, 0, 0), (59, .iconst 0, 1, 0, 0), (60, .istore 4, 2, 0, 0), (62, .iload 4, 2, 0, 0), (64, .aload_n 0, 1, 0, 0), (65, .getfield 9, 3, 0, 0), (68, .iconst 3, 1, 3, 0), (69, .iaload, 1, 0, 0), (70, .if_icmp .ge 53, 3, 0, 123), (73, .iconst 5, 1, 5, 0), (74, .iload_n 2, 1, 0, 0), (75, .imul, 1, 0, 0), (76, .iconst 3, 1, 3, 0), (77, .iadd, 1, 0, 0), (78, .sipush 1000, 3, 1000, 0), (81, .irem, 1, 0, 0), (82, .istore_n 2, 1, 0, 0), (83, .aload_n 0, 1, 0, 0), (84, .iload_n 3, 1, 0, 0), (85, .iload_n 2, 1, 0, 0), (86, .aload_n 0, 1, 0, 0), (87, .getfield 9, 3, 0, 0), (90, .iconst 3, 1, 3, 0), (91, .iaload, 1, 0, 0), (92, .iload 4, 2, 0, 0), (94, .isub, 1, 0, 0), (95, .irem, 1, 0, 0), (96, .invokevirtual 86, 3, 0, 0), (99, .istore 5, 2, 0, 0), (101, .iload_n 3, 1, 0, 0), (102, .iconst 1, 1, 1, 0), (103, .iload 5, 2, 0, 0), (105, .ishl, 1, 0, 0), (106, .ior, 1, 0, 0), (107, .istore_n 3, 1, 0, 0), (108, .aload_n 0, 1, 0, 0), (109, .iload 4, 2, 0, 0), (111, .iconst 4, 1, 4, 0), (112, .iload 5, 2, 0, 0), (114, .invokevirtual 67, 3, 0, 0), (117, .iinc 4 1, 3, 1, 0), (120, .goto (-58), 3, 0, 62), (123, .aload_n 0, 1, 0, 0), (124, .iconst 0, 1, 0, 0), (125, .iconst 4, 1, 4, 0), (126, .invokevirtual 52, 3, 0, 0), (129, .ireturn, 1, 0, 0)]
set_option maxRecDepth 100000 in
theorem tk_X9_draws : q_tb cX9_draws 6 tb_X9_draws = true := by decide +kernel
set_option maxRecDepth 100000 in
theorem mw_X9_drawLanes : q_mw yX9_drawLanes cX9_drawLanes 2 (Option.some Jvm.ClassFile.FieldType.int) 1 := ⟨q_t7 89 rfl rfl, by decide +kernel, by decide +kernel, q_init_QuillRelayModel⟩
set_option maxRecDepth 100000 in
theorem mi_X9_drawLanes : Cond.instanceMethod yX9_drawLanes ∈ q_W := q_t7 87 rfl rfl
set_option maxRecDepth 100000 in
theorem me_X9_drawLanes : Cond.selects yX9_drawLanes.cls yX9_drawLanes yX9_drawLanes ∈ q_W := q_t7 88 rfl rfl
def tb_X9_drawLanes : List q_E := [(0, .aload_n 0, 1, 0, 0), (1, .invokevirtual 56, 3, 0, 0), (4, .aload_n 0, 1, 0, 0), (5, .aload_n 0, 1, 0, 0), (6, .iload_n 1, 1, 0, 0), (7, .invokevirtual 89, 3, 0, 0), (10, .invokevirtual 71, 3, 0, 0), (13, .ireturn, 1, 0, 0)]
set_option maxRecDepth 100000 in
theorem tk_X9_drawLanes : q_tb cX9_drawLanes 2 tb_X9_drawLanes = true := by decide +kernel
set_option maxRecDepth 100000 in
theorem mw_X9_starts : q_mw yX9_starts cX9_starts 2 (Option.some Jvm.ClassFile.FieldType.int) 0 := ⟨q_t7 105 rfl rfl, by decide +kernel, by decide +kernel, q_init_QuillRelayModel⟩
set_option maxRecDepth 100000 in
theorem mi_X9_starts : Cond.instanceMethod yX9_starts ∈ q_W := q_t7 104 rfl rfl
set_option maxRecDepth 100000 in
theorem me_X9_starts : Cond.selects yX9_starts.cls yX9_starts yX9_starts ∈ q_W := q_s 30 rfl rfl
def tb_X9_starts : List q_E := [(0, .aload_n 0, 1, 0, 0), (1, .aload_n 0, 1, 0, 0), (2, .invokevirtual 59, 3, 0, 0), (5, .ifCond .ne 12, 3, 0, 17), (8, .aload_n 0, 1, 0, 0), (9, .getfield 9, 3, 0, 0), (12, .iconst 3, 1, 3, 0), (13, .iaload, 1, 0, 0), (14, .ifCond .ne 7, 3, 0, 21), (17, .iconst 1, 1, 1, 0), (18, .goto 4, 3, 0, 22), (21, .iconst 0, 1, 0, 0), (22, .iconst 1, 1, 1, 0), (23, .invokevirtual 63, 3, 0, 0), (26, .ifCond .eq 5, 3, 0, 31), (29, .iconst 0, 1, 0, 0), (30, .ireturn, 1, 0, 0), (31, .aload_n 0, 1, 0, 0), (32, .getfield 9, 3, 0, 0), (35, .iconst 1, 1, 1, 0), (36, .iconst 1, 1, 1, 0), (37, .iastore, 1, 0, 0), (38, .iconst 0, 1, 0, 0), (39, .istore_n 1, 1, 0, 0), (40, .iload_n 1, 1, 0, 0), (41, .aload_n 0, 1, 0, 0), (42, .getfield 9, 3, 0, 0), (45, .iconst 3, 1, 3, 0), (46, .iaload, 1, 0, 0), (47, .if_icmp .ge 17, 3, 0, 64), (50, .aload_n 0, 1, 0, 0), (51, .iload_n 1, 1, 0, 0), (52, .bipush 6, 2, 6, 0), (54, .iconst 1, 1, 1, 0), (55, .invokevirtual 67, 3, 0, 0), (58, .iinc 1 1, 3, 1, 0), (61, .goto (-21), 3, 0, 40), (64, .aload_n 0, 1, 0, 0), (65, .getfield 9, 3, 0, 0), (68, .iconst 3, 1, 3, 0), (69, .iaload, 1, 0, 0), (70, .ireturn, 1, 0, 0)]
set_option maxRecDepth 100000 in
theorem tk_X9_starts : q_tb cX9_starts 2 tb_X9_starts = true := by decide +kernel
set_option maxRecDepth 100000 in
theorem mw_X9_start : q_mw yX9_start cX9_start 1 (Option.some Jvm.ClassFile.FieldType.int) 0 := ⟨q_t7 101 rfl rfl, by decide +kernel, by decide +kernel, q_init_QuillRelayModel⟩
set_option maxRecDepth 100000 in
theorem mi_X9_start : Cond.instanceMethod yX9_start ∈ q_W := q_t7 99 rfl rfl
set_option maxRecDepth 100000 in
theorem me_X9_start : Cond.selects yX9_start.cls yX9_start yX9_start ∈ q_W := q_t7 100 rfl rfl
def tb_X9_start : List q_E := [(0, .aload_n 0, 1, 0, 0), (1, .invokevirtual 56, 3, 0, 0), (4, .aload_n 0, 1, 0, 0), (5, .aload_n 0, 1, 0, 0), (6, .invokevirtual 92, 3, 0, 0), (9, .invokevirtual 71, 3, 0, 0), (12, .ireturn, 1, 0, 0)]
set_option maxRecDepth 100000 in
theorem tk_X9_start : q_tb cX9_start 1 tb_X9_start = true := by decide +kernel
set_option maxRecDepth 100000 in
theorem mw_X9_step : q_mw yX9_step cX9_step 3 (Option.some Jvm.ClassFile.FieldType.int) 2 := ⟨q_t7 136 rfl rfl, by decide +kernel, by decide +kernel, q_init_QuillRelayModel⟩
set_option maxRecDepth 100000 in
theorem ms_X9_step : Cond.static yX9_step ∈ q_W := q_t7 135 rfl rfl
def tb_X9_step : List q_E := [(0, .iload_n 0, 1, 0, 0), (1, .iload_n 1, 1, 0, 0), (2, .bipush 10, 2, 10, 0), (4, .idiv, 1, 0, 0), (5, .isub, 1, 0, 0), (6, .istore_n 2, 1, 0, 0), (7, .iload_n 2, 1, 0, 0), (8, .bipush 10, 2, 10, 0), (10, .if_icmp .ge 8, 3, 0, 18), (13, .bipush 10, 2, 10, 0), (15, .goto 4, 3, 0, 19), (18, .iload_n 2, 1, 0, 0), (19, .ireturn, 1, 0, 0)]
set_option maxRecDepth 100000 in
theorem tk_X9_step : q_tb cX9_step 3 tb_X9_step = true := by decide +kernel
set_option maxRecDepth 100000 in
theorem mw_X9_endOf : q_mw yX9_endOf cX9_endOf 2 (Option.some Jvm.ClassFile.FieldType.int) 1 := ⟨q_t7 129 rfl rfl, by decide +kernel, by decide +kernel, q_init_QuillRelayModel⟩
set_option maxRecDepth 100000 in
theorem mi_X9_endOf : Cond.instanceMethod yX9_endOf ∈ q_W := q_t7 128 rfl rfl
set_option maxRecDepth 100000 in
theorem me_X9_endOf : Cond.selects yX9_endOf.cls yX9_endOf yX9_endOf ∈ q_W := q_s 35 rfl rfl
def tb_X9_endOf : List q_E := [(0, .iload_n 1, 1, 0, 0), (1, .iconst 1, 1, 1, 0), (2, .iadd, 1, 0, 0), (3, .aload_n 0, 1, 0, 0), (4, .getfield 9, 3, 0, 0), (7, .iconst 0, 1, 0, 0), (8, .iaload, 1, 0, 0), (9, .imul, 1, 0, 0), (10, .ireturn, 1, 0, 0)]
set_option maxRecDepth 100000 in
theorem tk_X9_endOf : q_tb cX9_endOf 2 tb_X9_endOf = true := by decide +kernel
set_option maxRecDepth 100000 in
theorem mw_X9_standsAtBound : q_mw yX9_standsAtBound cX9_standsAtBound 3 (Option.some Jvm.ClassFile.FieldType.boolean) 1 := ⟨q_t7 125 rfl rfl, by decide +kernel, by decide +kernel, q_init_QuillRelayModel⟩
set_option maxRecDepth 100000 in
theorem mi_X9_standsAtBound : Cond.instanceMethod yX9_standsAtBound ∈ q_W := q_t7 124 rfl rfl
set_option maxRecDepth 100000 in
theorem me_X9_standsAtBound : Cond.selects yX9_standsAtBound.cls yX9_standsAtBound yX9_standsAtBound ∈ q_W := q_s 34 rfl rfl
def tb_X9_standsAtBound : List q_E := [(0, .aload_n 0, 1, 0, 0), (1, .iload_n 1, 1, 0, 0), (2, .bipush 8, 2, 8, 0), (4, .invokevirtual 52, 3, 0, 0), (7, .istore_n 2, 1, 0, 0), (8, .iload_n 2, 1, 0, 0), (9, .iconst 3, 1, 3, 0), (10, .if_icmp .ge 26, 3, 0, 36), (13, .aload_n 0, 1, 0, 0), (14, .iload_n 1, 1, 0, 0), (15, .bipush 7, 2, 7, 0), (17, .invokevirtual 52, 3, 0, 0), (20, .aload_n 0, 1, 0, 0), (21, .iload_n 2, 1, 0, 0), (22, .invokevirtual 96, 3, 0, 0), (25, .sipush 300, 3, 300, 0), (28, .iadd, 1, 0, 0), (29, .if_icmp .ne 7, 3, 0, 36), (32, .iconst 1, 1, 1, 0), (33, .goto 4, 3, 0, 37), (36, .iconst 0, 1, 0, 0), (37, .ireturn, 1, 0, 0)]
set_option maxRecDepth 100000 in
theorem tk_X9_standsAtBound : q_tb cX9_standsAtBound 3 tb_X9_standsAtBound = true := by decide +kernel
set_option maxRecDepth 100000 in
theorem mw_X9_carries : q_mw yX9_carries cX9_carries 5 (Option.none : Option Jvm.ClassFile.FieldType) 1 := ⟨q_t7 133 rfl rfl, by decide +kernel, by decide +kernel, q_init_QuillRelayModel⟩
set_option maxRecDepth 100000 in
theorem mi_X9_carries : Cond.instanceMethod yX9_carries ∈ q_W := q_t7 132 rfl rfl
set_option maxRecDepth 100000 in
theorem me_X9_carries : Cond.selects yX9_carries.cls yX9_carries yX9_carries ∈ q_W := q_s 36 rfl rfl
def tb_X9_carries : List q_E := [(0, .aload_n 0, 1, 0, 0), (1, .iload_n 1, 1, 0, 0), (2, .bipush 8, 2, 8, 0), (4, .invokevirtual 52, 3, 0, 0), (7, .istore_n 2, 1, 0, 0), (8, .aload_n 0, 1, 0, 0), (9, .iload_n 1, 1, 0, 0), (10, .bipush 7, 2, 7, 0), (12, .invokevirtual 52, 3, 0, 0), (15, .aload_n 0, 1, 0, 0), (16, .iload_n 1, 1, 0, 0), (17, .iconst 0, 1, 0, 0), (18, .iload_n 2, 1, 0, 0), (19, .iadd, 1, 0, 0), (20, .invokevirtual 52, 3, 0, 0), (23, .aload_n 0, 1, 0, 0), (24, .iload_n 1, 1, 0, 0), (25, .bipush 9, 2, 9, 0), (27, .invokevirtual 52, 3, 0, 0), (30, .invokestatic 99, 3, 0, 0), (33, .iadd, 1, 0, 0), (34, .istore_n 3, 1, 0, 0), (35, .aload_n 0, 1, 0, 0), (36, .iload_n 2, 1, 0, 0), (37, .invokevirtual 96, 3, 0, 0), (40, .sipush 300, 3, 300, 0), (43, .iadd, 1, 0, 0), (44, .istore 4, 2, 0, 0), (46, .aload_n 0, 1, 0, 0), (47, .iload_n 1, 1, 0, 0), (48, .bipush 7, 2, 7, 0), (50, .iload_n 2, 1, 0, 0), (51, .iconst 3, 1, 3, 0), (52, .if_icmp .ge 14, 3, 0, 66), (55, .iload_n 3, 1, 0, 0), (56, .iload 4, 2, 0, 0), (58, .if_icmp .le 8, 3, 0, 66), (61, .iload 4, 2, 0, 0), (63, .goto 4, 3, 0, 67), (66, .iload_n 3, 1, 0, 0), (67, .invokevirtual 67, 3, 0, 0), (70, .aload_n 0, 1, 0, 0), (71, .iload_n 1, 1, 0, 0), (72, .bipush 9, 2, 9, 0), (74, .aload_n 0, 1, 0, 0), (75, .iload_n 1, 1, 0, 0), (76, .bipush 9, 2, 9, 0), (78, .invokevirtual 52, 3, 0, 0), (81, .iconst 1, 1, 1, 0), (82, .iadd, 1, 0, 0), (83, .invokevirtual 67, 3, 0, 0), (86, .iload_n 2, 1, 0, 0), (87, .iconst 3, 1, 3, 0), (88, .if_icmp .ne 58, 3, 0, 146), (91, .iload_n 3, 1, 0, 0), (92, .aload_n 0, 1, 0, 0), (93, .iload_n 2, 1, 0, 0), (94, .invokevirtual 96, 3, 0, 0), (97, .if_icmp .lt 49, 3, 0, 146), (100, .aload_n 0, 1, 0, 0), (101, .iload_n 1, 1, 0, 0), (102, .bipush 6, 2, 6, 0), (104, .iconst 2, 1, 2, 0), (105, .invokevirtual 67, 3, 0, 0), (108, .aload_n 0, 1, 0, 0), (109, .iload_n 1, 1, 0, 0), (110, .bipush 18, 2, 18, 0), (112, .aload_n 0, 1, 0, 0), (113, .getfield 9, 3, 0, 0), (116, .iconst 2, 1, 2, 0), (117, .iaload, 1, 0, 0), (118, .invokevirtual 67, 3, 0, 0), (121, .aload_n 0, 1, 0, 0), (122, .iload_n 1, 1, 0, 0), (123, .bipush 14, 2, 14, 0), (125, .iload_n 2, 1, 0, 0), (126, .iadd, 1, 0, 0), (127, .iconst 1, 1, 1, 0), (128, .aload_n 0, 1, 0, 0), (129, .getfield 9, 3, 0, 0), (132, .iconst 2, 1, 2, 0), (133, .iaload, 1, 0, 0), (134, .iadd, 1, 0, 0), (135, .aload_n 0, 1, 0, 0), (136, .iload_n 1, 1, 0, 0), (137, .bipush 13, 2, 13, 0), (139, .invokevirtual 52, 3, 0, 0), (142, .isub, 1, 0, 0), (143, .invokevirtual 67, 3, 0, 0), (146, .return_, 1, 0, 0)]
set_option maxRecDepth 100000 in
theorem tk_X9_carries : q_tb cX9_carries 5 tb_X9_carries = true := by decide +kernel
set_option maxRecDepth 100000 in
theorem mw_X9_moves : q_mw yX9_moves cX9_moves 2 (Option.none : Option Jvm.ClassFile.FieldType) 1 := ⟨q_t7 121 rfl rfl, by decide +kernel, by decide +kernel, q_init_QuillRelayModel⟩
set_option maxRecDepth 100000 in
theorem mi_X9_moves : Cond.instanceMethod yX9_moves ∈ q_W := q_t7 120 rfl rfl
set_option maxRecDepth 100000 in
theorem me_X9_moves : Cond.selects yX9_moves.cls yX9_moves yX9_moves ∈ q_W := q_s 33 rfl rfl
def tb_X9_moves : List q_E := [(0, .aload_n 0, 1, 0, 0), (1, .iload_n 1, 1, 0, 0), (2, .bipush 10, 2, 10, 0), (4, .invokevirtual 52, 3, 0, 0), (7, .ifCond .le 22, 3, 0, 29), (10, .aload_n 0, 1, 0, 0), (11, .iload_n 1, 1, 0, 0), (12, .bipush 10, 2, 10, 0), (14, .aload_n 0, 1, 0, 0), (15, .iload_n 1, 1, 0, 0), (16, .bipush 10, 2, 10, 0), (18, .invokevirtual 52, 3, 0, 0), (21, .iconst 1, 1, 1, 0), (22, .isub, 1, 0, 0), (23, .invokevirtual 67, 3, 0, 0), (26, .goto 16, 3, 0, 42), (29, .aload_n 0, 1, 0, 0), (30, .iload_n 1, 1, 0, 0), (31, .invokevirtual 102, 3, 0, 0), (34, .ifCond .ne 8, 3, 0, 42), (37, .aload_n 0, 1, 0, 0), (38, .iload_n 1, 1, 0, 0), (39, .invokevirtual 105, 3, 0, 0), (42, .return_, 1, 0, 0)]
set_option maxRecDepth 100000 in
theorem tk_X9_moves : q_tb cX9_moves 2 tb_X9_moves = true := by decide +kernel
set_option maxRecDepth 100000 in
theorem mw_X9_secondsPass : q_mw yX9_secondsPass cX9_secondsPass 5 (Option.some Jvm.ClassFile.FieldType.int) 1 := ⟨q_t7 113 rfl rfl, by decide +kernel, by decide +kernel, q_init_QuillRelayModel⟩
set_option maxRecDepth 100000 in
theorem mi_X9_secondsPass : Cond.instanceMethod yX9_secondsPass ∈ q_W := q_t7 112 rfl rfl
set_option maxRecDepth 100000 in
theorem me_X9_secondsPass : Cond.selects yX9_secondsPass.cls yX9_secondsPass yX9_secondsPass ∈ q_W := q_s 31 rfl rfl
def tb_X9_secondsPass : List q_E := [(0, .aload_n 0, 1, 0, 0), (1, .iload_n 1, 1, 0, 0), (2, .iconst 1, 1, 1, 0), (3, .sipush 200, 3, 200, 0), (6, .invokestatic 48, 3, 0, 0), (9, .ifCond .ne 7, 3, 0, 16), (12, .iconst 1, 1, 1, 0), (13, .goto 4, 3, 0, 17), (16, .iconst 0, 1, 0, 0), (17, .iconst 1, 1, 1, 0), (18, .invokevirtual 63, 3, 0, 0), (21, .ifCond .ne 23, 3, 0, 44), (24, .aload_n 0, 1, 0, 0), (25, .aload_n 0, 1, 0, 0), (26, .invokevirtual 59, 3, 0, 0), (29, .ifCond .ne 7, 3, 0, 36), (32, .iconst 1, 1, 1, 0), (33, .goto 4, 3, 0, 37), (36, .iconst 0, 1, 0, 0), (37, .iconst 2, 1, 2, 0), (38, .invokevirtual 63, 3, 0, 0), (41, .ifCond .eq 5, 3, 0, 46), (44, .iconst 0, 1, 0, 0), (45, .ireturn, 1, 0, 0), (46, .aload_n 0, 1, 0, 0), (47, .iconst 2, 1, 2, 0), (48, .invokevirtual 109, 3, 0, 0), (51, .istore_n 2, 1, 0, 0), (52, .iconst 0, 1, 0, 0), (53, .istore_n 3, 1, 0, 0), (54, .iload_n 3, 1, 0, 0), (55, .iload_n 1, 1, 0, 0), (56, .if_icmp .ge 57, 3, 0, 113), (59, .aload_n 0, 1, 0, 0), (60, .getfield 9, 3, 0, 0), (63, .iconst 2, 1, 2, 0), (64, .dup2, 1, 0, 0), (65, .iaload, 1, 0, 0), (66, .iconst 1, 1, 1, 0), (67, .iadd, 1, 0, 0), (68, .iastore, 1, 0, 0), (69, .iconst 0, 1, 0, 0), (70, .istore 4, 2, 0, 0), (72, .iload 4, 2, 0, 0), (74, .aload_n 0, 1, 0, 0), (75, .getfield 9, 3, 0, 0), (78, .iconst 3, 1, 3, 0), (79, .iaload, 1, 0, 0), (80, .if_icmp .ge 27, 3, 0, 107), (83, .aload_n 0, 1, 0, 0), (84, .iload 4, 2, 0, 0), (86, .bipush 6, 2, 6, 0), (88, .invokevirtual 52, 3, 0, 0), (91, .iconst 1, 1, 1, 0), (92, .if_icmp .ne 9, 3, 0, 101), (95, .aload_n 0, 1, 0, 0), (96, .iload 4, 2, 0, 0), (98, .invokevirtual 112, 3, 0, 0), (101, .iinc 4 1, 3, 1, 0), (104, .goto (-32), 3, 0, 72), (107, .iinc 3 1, 3, 1, 0), (110, .goto (-56), 3, 0, 54), (113, .aload_n 0, 1, 0, 0), (114, .iconst 2, 1, 2, 0), (115, .invokevirtual 109, 3, 0, 0), (118, .iload_n 2, 1, 0, 0), (119, .isub, 1, 0, 0), (120, .ireturn, 1, 0, 0)]
set_option maxRecDepth 100000 in
theorem tk_X9_secondsPass : q_tb cX9_secondsPass 5 tb_X9_secondsPass = true := by decide +kernel
set_option maxRecDepth 100000 in
theorem mw_X9_run : q_mw yX9_run cX9_run 2 (Option.some Jvm.ClassFile.FieldType.int) 1 := ⟨q_t7 109 rfl rfl, by decide +kernel, by decide +kernel, q_init_QuillRelayModel⟩
set_option maxRecDepth 100000 in
theorem mi_X9_run : Cond.instanceMethod yX9_run ∈ q_W := q_t7 107 rfl rfl
set_option maxRecDepth 100000 in
theorem me_X9_run : Cond.selects yX9_run.cls yX9_run yX9_run ∈ q_W := q_t7 108 rfl rfl
def tb_X9_run : List q_E := [(0, .aload_n 0, 1, 0, 0), (1, .invokevirtual 56, 3, 0, 0), (4, .aload_n 0, 1, 0, 0), (5, .aload_n 0, 1, 0, 0), (6, .iload_n 1, 1, 0, 0), (7, .invokevirtual 115, 3, 0, 0), (10, .invokevirtual 71, 3, 0, 0), (13, .ireturn, 1, 0, 0)]
set_option maxRecDepth 100000 in
theorem tk_X9_run : q_tb cX9_run 2 tb_X9_run = true := by decide +kernel
set_option maxRecDepth 100000 in
theorem mw_X9_inZone : q_mw yX9_inZone cX9_inZone 4 (Option.some Jvm.ClassFile.FieldType.boolean) 1 := ⟨q_t7 164 rfl rfl, by decide +kernel, by decide +kernel, q_init_QuillRelayModel⟩
set_option maxRecDepth 100000 in
theorem mi_X9_inZone : Cond.instanceMethod yX9_inZone ∈ q_W := q_t7 163 rfl rfl
set_option maxRecDepth 100000 in
theorem me_X9_inZone : Cond.selects yX9_inZone.cls yX9_inZone yX9_inZone ∈ q_W := q_s 41 rfl rfl
def tb_X9_inZone : List q_E := [(0, .aload_n 0, 1, 0, 0), (1, .iload_n 1, 1, 0, 0), (2, .bipush 8, 2, 8, 0), (4, .invokevirtual 52, 3, 0, 0), (7, .istore_n 2, 1, 0, 0), (8, .aload_n 0, 1, 0, 0), (9, .iload_n 2, 1, 0, 0), (10, .invokevirtual 96, 3, 0, 0), (13, .istore_n 3, 1, 0, 0), (14, .iload_n 2, 1, 0, 0), (15, .iconst 3, 1, 3, 0), (16, .if_icmp .ge 28, 3, 0, 44), (19, .aload_n 0, 1, 0, 0), (20, .iload_n 1, 1, 0, 0), (21, .bipush 7, 2, 7, 0), (23, .invokevirtual 52, 3, 0, 0), (26, .iload_n 3, 1, 0, 0), (27, .bipush 100, 2, 100, 0), (29, .isub, 1, 0, 0), (30, .iload_n 3, 1, 0, 0), (31, .bipush 100, 2, 100, 0), (33, .iadd, 1, 0, 0), (34, .invokestatic 48, 3, 0, 0), (37, .ifCond .eq 7, 3, 0, 44), (40, .iconst 1, 1, 1, 0), (41, .goto 4, 3, 0, 45), (44, .iconst 0, 1, 0, 0), (45, .ireturn, 1, 0, 0)]
set_option maxRecDepth 100000 in
theorem tk_X9_inZone : q_tb cX9_inZone 4 tb_X9_inZone = true := by decide +kernel
set_option maxRecDepth 100000 in
theorem mw_X9_reason : q_mw yX9_reason cX9_reason 3 (Option.some Jvm.ClassFile.FieldType.int) 1 := ⟨q_t7 152 rfl rfl, by decide +kernel, by decide +kernel, q_init_QuillRelayModel⟩
set_option maxRecDepth 100000 in
theorem mi_X9_reason : Cond.instanceMethod yX9_reason ∈ q_W := q_t7 151 rfl rfl
set_option maxRecDepth 100000 in
theorem me_X9_reason : Cond.selects yX9_reason.cls yX9_reason yX9_reason ∈ q_W := q_s 39 rfl rfl
def tb_X9_reason : List q_E := [(0, .aload_n 0, 1, 0, 0), (1, .iload_n 1, 1, 0, 0), (2, .bipush 8, 2, 8, 0), (4, .invokevirtual 52, 3, 0, 0), (7, .istore_n 2, 1, 0, 0), (8, .aload_n 0, 1, 0, 0), (9, .iload_n 1, 1, 0, 0), (10, .bipush 10, 2, 10, 0), (12, .invokevirtual 52, 3, 0, 0), (15, .ifCond .le 5, 3, 0, 20), (18, .iconst 1, 1, 1, 0), (19, .ireturn, 1, 0, 0), (20, .iload_n 2, 1, 0, 0), (21, .iconst 3, 1, 3, 0), (22, .if_icmp .ne 7, 3, 0, 29), (25, .iconst 2, 1, 2, 0), (26, .goto 26, 3, 0, 52), (29, .aload_n 0, 1, 0, 0), (30, .iload_n 1, 1, 0, 0), (31, .bipush 7, 2, 7, 0), (33, .invokevirtual 52, 3, 0, 0), (36, .aload_n 0, 1, 0, 0), (37, .iload_n 2, 1, 0, 0), (38, .invokevirtual 96, 3, 0, 0), (41, .bipush 100, 2, 100, 0), (43, .isub, 1, 0, 0), (44, .if_icmp .ge 7, 3, 0, 51), (47, .iconst 3, 1, 3, 0), (48, .goto 4, 3, 0, 52), (51, .iconst 0, 1, 0, 0), (52, .ireturn, 1, 0, 0)]
set_option maxRecDepth 100000 in
theorem tk_X9_reason : q_tb cX9_reason 3 tb_X9_reason = true := by decide +kernel
set_option maxRecDepth 100000 in
theorem mw_X9_isRefused : q_mw yX9_isRefused cX9_isRefused 3 (Option.some Jvm.ClassFile.FieldType.boolean) 1 := ⟨q_t7 148 rfl rfl, by decide +kernel, by decide +kernel, q_init_QuillRelayModel⟩
set_option maxRecDepth 100000 in
theorem mi_X9_isRefused : Cond.instanceMethod yX9_isRefused ∈ q_W := q_t7 147 rfl rfl
set_option maxRecDepth 100000 in
theorem me_X9_isRefused : Cond.selects yX9_isRefused.cls yX9_isRefused yX9_isRefused ∈ q_W := q_s 38 rfl rfl
def tb_X9_isRefused : List q_E := [(0, .aload_n 0, 1, 0, 0), (1, .iload_n 1, 1, 0, 0), (2, .invokevirtual 118, 3, 0, 0), (5, .istore_n 2, 1, 0, 0), (6, .iload_n 2, 1, 0, 0), (7, .ifCond .eq 13, 3, 0, 20), (10, .aload_n 0, 1, 0, 0), (11, .iload_n 2, 1, 0, 0), (12, .putfield 121, 3, 0, 0), (15, .aload_n 0, 1, 0, 0), (16, .iload_n 1, 1, 0, 0), (17, .putfield 124, 3, 0, 0), (20, .iload_n 2, 1, 0, 0), (21, .ifCond .eq 7, 3, 0, 28), (24, .iconst 1, 1, 1, 0), (25, .goto 4, 3, 0, 29), (28, .iconst 0, 1, 0, 0), (29, .ireturn, 1, 0, 0)]
set_option maxRecDepth 100000 in
theorem tk_X9_isRefused : q_tb cX9_isRefused 3 tb_X9_isRefused = true := by decide +kernel
set_option maxRecDepth 100000 in
theorem mw_X9_passes : q_mw yX9_passes cX9_passes 4 (Option.some Jvm.ClassFile.FieldType.int) 1 := ⟨q_t7 144 rfl rfl, by decide +kernel, by decide +kernel, q_init_QuillRelayModel⟩
set_option maxRecDepth 100000 in
theorem mi_X9_passes : Cond.instanceMethod yX9_passes ∈ q_W := q_t7 143 rfl rfl
set_option maxRecDepth 100000 in
theorem me_X9_passes : Cond.selects yX9_passes.cls yX9_passes yX9_passes ∈ q_W := q_s 37 rfl rfl
def tb_X9_passes : List q_E := [(0, .aload_n 0, 1, 0, 0), (1, .aload_n 0, 1, 0, 0), (2, .iload_n 1, 1, 0, 0), (3, .invokevirtual 75, 3, 0, 0), (6, .ifCond .ne 7, 3, 0, 13), (9, .iconst 1, 1, 1, 0), (10, .goto 4, 3, 0, 14), (13, .iconst 0, 1, 0, 0), (14, .iconst 1, 1, 1, 0), (15, .invokevirtual 63, 3, 0, 0), (18, .ifCond .ne 40, 3, 0, 58), (21, .aload_n 0, 1, 0, 0), (22, .aload_n 0, 1, 0, 0), (23, .iload_n 1, 1, 0, 0), (24, .bipush 6, 2, 6, 0), (26, .invokevirtual 52, 3, 0, 0), (29, .iconst 1, 1, 1, 0), (30, .if_icmp .eq 7, 3, 0, 37), (33, .iconst 1, 1, 1, 0), (34, .goto 4, 3, 0, 38), (37, .iconst 0, 1, 0, 0), (38, .iconst 2, 1, 2, 0), (39, .invokevirtual 63, 3, 0, 0), (42, .ifCond .ne 16, 3, 0, 58), (45, .aload_n 0, 1, 0, 0), (46, .aload_n 0, 1, 0, 0), (47, .iload_n 1, 1, 0, 0), (48, .invokevirtual 127, 3, 0, 0), (51, .iconst 3, 1, 3, 0), (52, .invokevirtual 63, 3, 0, 0), (55, .ifCond .eq 5, 3, 0, 60), (58, .iconst 0, 1, 0, 0), (59, .ireturn, 1, 0, 0), (60, .aload_n 0, 1, 0, 0), (61, .iload_n 1, 1, 0, 0), (62, .bipush 8, 2, 8, 0), (64, .invokevirtual 52, 3, 0, 0), (67, .istore_n 2, 1, 0, 0), (68, .aload_n 0, 1, 0, 0), (69, .iload_n 1, 1, 0, 0), (70, .bipush 7, 2, 7, 0), (72, .invokevirtual 52, 3, 0, 0), (75, .aload_n 0, 1, 0, 0), (76, .iload_n 2, 1, 0, 0), (77, .invokevirtual 96, 3, 0, 0), (80, .bipush 100, 2, 100, 0), (82, .iadd, 1, 0, 0), (83, .if_icmp .le 11, 3, 0, 94), (86, .aload_n 0, 1, 0, 0), (87, .iload_n 1, 1, 0, 0), (88, .bipush 11, 2, 11, 0), (90, .iconst 1, 1, 1, 0), (91, .invokevirtual 67, 3, 0, 0), (94, .aload_n 0, 1, 0, 0), (95, .getfield 9, 3, 0, 0), (98, .iconst 2, 1, 2, 0), (99, .iaload, 1, 0, 0), (100, .aload_n 0, 1, 0, 0), (101, .iload_n 1, 1, 0, 0), (102, .bipush 13, 2, 13, 0), (104, .invokevirtual 52, 3, 0, 0), (107, .isub, 1, 0, 0), (108, .istore_n 3, 1, 0, 0), (109, .aload_n 0, 1, 0, 0), (110, .iload_n 1, 1, 0, 0), (111, .bipush 14, 2, 14, 0), (113, .iload_n 2, 1, 0, 0), (114, .iadd, 1, 0, 0), (115, .iconst 1, 1, 1, 0), (116, .iload_n 3, 1, 0, 0), (117, .iadd, 1, 0, 0), (118, .invokevirtual 67, 3, 0, 0), (121, .aload_n 0, 1, 0, 0), (122, .iload_n 1, 1, 0, 0), (123, .bipush 13, 2, 13, 0), (125, .aload_n 0, 1, 0, 0), (126, .getfield 9, 3, 0, 0), (129, .iconst 2, 1, 2, 0), (130, .iaload, 1, 0, 0), (131, .invokevirtual 67, 3, 0, 0), (134, .aload_n 0, 1, 0, 0), (135, .iload_n 1, 1, 0, 0), (136, .bipush 8, 2, 8, 0), (138, .iload_n 2, 1, 0, 0), (139, .iconst 1, 1, 1, 0), (140, .iadd, 1, 0, 0), (141, .invokevirtual 67, 3, 0, 0), (144, .aload_n 0, 1, 0, 0), (145, .iload_n 1, 1, 0, 0), (146, .bipush 9, 2, 9, 0), (148, .iconst 0, 1, 0, 0), (149, .invokevirtual 67, 3, 0, 0), (152, .iload_n 3, 1, 0, 0), (153, .ireturn, 1, 0, 0)]
set_option maxRecDepth 100000 in
theorem tk_X9_passes : q_tb cX9_passes 4 tb_X9_passes = true := by decide +kernel
set_option maxRecDepth 100000 in
theorem mw_X9_pass : q_mw yX9_pass cX9_pass 2 (Option.some Jvm.ClassFile.FieldType.int) 1 := ⟨q_t7 140 rfl rfl, by decide +kernel, by decide +kernel, q_init_QuillRelayModel⟩
set_option maxRecDepth 100000 in
theorem mi_X9_pass : Cond.instanceMethod yX9_pass ∈ q_W := q_t7 138 rfl rfl
set_option maxRecDepth 100000 in
theorem me_X9_pass : Cond.selects yX9_pass.cls yX9_pass yX9_pass ∈ q_W := q_t7 139 rfl rfl
def tb_X9_pass : List q_E := [(0, .aload_n 0, 1, 0, 0), (1, .invokevirtual 56, 3, 0, 0), (4, .aload_n 0, 1, 0, 0), (5, .aload_n 0, 1, 0, 0), (6, .iload_n 1, 1, 0, 0), (7, .invokevirtual 130, 3, 0, 0), (10, .invokevirtual 71, 3, 0, 0), (13, .ireturn, 1, 0, 0)]
set_option maxRecDepth 100000 in
theorem tk_X9_pass : q_tb cX9_pass 2 tb_X9_pass = true := by decide +kernel
set_option maxRecDepth 100000 in
theorem mw_X9_drops : q_mw yX9_drops cX9_drops 3 (Option.some Jvm.ClassFile.FieldType.int) 2 := ⟨q_t7 160 rfl rfl, by decide +kernel, by decide +kernel, q_init_QuillRelayModel⟩
set_option maxRecDepth 100000 in
theorem mi_X9_drops : Cond.instanceMethod yX9_drops ∈ q_W := q_t7 159 rfl rfl
set_option maxRecDepth 100000 in
theorem me_X9_drops : Cond.selects yX9_drops.cls yX9_drops yX9_drops ∈ q_W := q_s 40 rfl rfl
def tb_X9_drops : List q_E := [(0, .aload_n 0, 1, 0, 0), (1, .aload_n 0, 1, 0, 0), (2, .iload_n 1, 1, 0, 0), (3, .invokevirtual 75, 3, 0, 0), (6, .ifCond .ne 7, 3, 0, 13), (9, .iconst 1, 1, 1, 0), (10, .goto 4, 3, 0, 14), (13, .iconst 0, 1, 0, 0), (14, .iconst 1, 1, 1, 0), (15, .invokevirtual 63, 3, 0, 0), (18, .ifCond .ne 50, 3, 0, 68), (21, .aload_n 0, 1, 0, 0), (22, .iload_n 2, 1, 0, 0), (23, .iconst 1, 1, 1, 0), (24, .bipush 20, 2, 20, 0), (26, .invokestatic 48, 3, 0, 0), (29, .ifCond .ne 7, 3, 0, 36), (32, .iconst 1, 1, 1, 0), (33, .goto 4, 3, 0, 37), (36, .iconst 0, 1, 0, 0), (37, .iconst 2, 1, 2, 0), (38, .invokevirtual 63, 3, 0, 0), (41, .ifCond .ne 27, 3, 0, 68), (44, .aload_n 0, 1, 0, 0), (45, .aload_n 0, 1, 0, 0), (46, .iload_n 1, 1, 0, 0), (47, .bipush 6, 2, 6, 0), (49, .invokevirtual 52, 3, 0, 0), (52, .iconst 1, 1, 1, 0), (53, .if_icmp .eq 7, 3, 0, 60), (56, .iconst 1, 1, 1, 0), (57, .goto 4, 3, 0, 61), (60, .iconst 0, 1, 0, 0), (61, .iconst 3, 1, 3, 0), (62, .invokevirtual 63, 3, 0, 0), (65, .ifCond .eq 5, 3, 0, 70), (68, .iconst 0, 1, 0, 0), (69, .ireturn, 1, 0, 0), (70, .aload_n 0, 1, 0, 0), (71, .iload_n 1, 1, 0, 0), (72, .invokevirtual 133, 3, 0, 0), (75, .ifCond .eq 11, 3, 0, 86), (78, .aload_n 0, 1, 0, 0), (79, .iload_n 1, 1, 0, 0), (80, .bipush 12, 2, 12, 0), (82, .iconst 1, 1, 1, 0), (83, .invokevirtual 67, 3, 0, 0), (86, .aload_n 0, 1, 0, 0), (87, .iload_n 1, 1, 0, 0), (88, .bipush 10, 2, 10, 0), (90, .aload_n 0, 1, 0, 0), (91, .iload_n 1, 1, 0, 0), (92, .bipush 10, 2, 10, 0), (94, .invokevirtual 52, 3, 0, 0), (97, .iload_n 2, 1, 0, 0), (98, .iadd, 1, 0, 0), (99, .invokevirtual 67, 3, 0, 0), (102, .aload_n 0, 1, 0, 0), (103, .iload_n 1, 1, 0, 0), (104, .bipush 10, 2, 10, 0), (106, .invokevirtual 52, 3, 0, 0), (109, .ireturn, 1, 0, 0)]
set_option maxRecDepth 100000 in
theorem tk_X9_drops : q_tb cX9_drops 3 tb_X9_drops = true := by decide +kernel
set_option maxRecDepth 100000 in
theorem mw_X9_drop : q_mw yX9_drop cX9_drop 3 (Option.some Jvm.ClassFile.FieldType.int) 2 := ⟨q_t7 156 rfl rfl, by decide +kernel, by decide +kernel, q_init_QuillRelayModel⟩
set_option maxRecDepth 100000 in
theorem mi_X9_drop : Cond.instanceMethod yX9_drop ∈ q_W := q_t7 154 rfl rfl
set_option maxRecDepth 100000 in
theorem me_X9_drop : Cond.selects yX9_drop.cls yX9_drop yX9_drop ∈ q_W := q_t7 155 rfl rfl
def tb_X9_drop : List q_E := [(0, .aload_n 0, 1, 0, 0), (1, .invokevirtual 56, 3, 0, 0), (4, .aload_n 0, 1, 0, 0), (5, .aload_n 0, 1, 0, 0), (6, .iload_n 1, 1, 0, 0), (7, .iload_n 2, 1, 0, 0), (8, .invokevirtual 136, 3, 0, 0), (11, .invokevirtual 71, 3, 0, 0), (14, .ireturn, 1, 0, 0)]
set_option maxRecDepth 100000 in
theorem tk_X9_drop : q_tb cX9_drop 3 tb_X9_drop = true := by decide +kernel
set_option maxRecDepth 100000 in
theorem mw_X9_leaves : q_mw yX9_leaves cX9_leaves 2 (Option.some Jvm.ClassFile.FieldType.int) 1 := ⟨q_t7 172 rfl rfl, by decide +kernel, by decide +kernel, q_init_QuillRelayModel⟩
set_option maxRecDepth 100000 in
theorem mi_X9_leaves : Cond.instanceMethod yX9_leaves ∈ q_W := q_t7 171 rfl rfl
set_option maxRecDepth 100000 in
theorem me_X9_leaves : Cond.selects yX9_leaves.cls yX9_leaves yX9_leaves ∈ q_W := q_s 42 rfl rfl
def tb_X9_leaves : List q_E := [(0, .aload_n 0, 1, 0, 0), (1, .aload_n 0, 1, 0, 0), (2, .iload_n 1, 1, 0, 0), (3, .invokevirtual 75, 3, 0, 0), (6, .ifCond .ne 7, 3, 0, 13), (9, .iconst 1, 1, 1, 0), (10, .goto 4, 3, 0, 14), (13, .iconst 0, 1, 0, 0), (14, .iconst 1, 1, 1, 0), (15, .invokevirtual 63, 3, 0, 0), (18, .ifCond .ne 27, 3, 0, 45), (21, .aload_n 0, 1, 0, 0), (22, .aload_n 0, 1, 0, 0), (23, .iload_n 1, 1, 0, 0), (24, .bipush 6, 2, 6, 0), (26, .invokevirtual 52, 3, 0, 0), (29, .iconst 1, 1, 1, 0), (30, .if_icmp .eq 7, 3, 0, 37), (33, .iconst 1, 1, 1, 0), (34, .goto 4, 3, 0, 38), (37, .iconst 0, 1, 0, 0), (38, .iconst 2, 1, 2, 0), (39, .invokevirtual 63, 3, 0, 0), (42, .ifCond .eq 5, 3, 0, 47), (45, .iconst 0, 1, 0, 0), (46, .ireturn, 1, 0, 0), (47, .aload_n 0, 1, 0, 0), (48, .iload_n 1, 1, 0, 0), (49, .bipush 6, 2, 6, 0), (51, .iconst 3, 1, 3, 0), (52, .invokevirtual 67, 3, 0, 0), (55, .aload_n 0, 1, 0, 0), (56, .iconst 1, 1, 1, 0), (57, .invokevirtual 109, 3, 0, 0), (60, .ireturn, 1, 0, 0)]
set_option maxRecDepth 100000 in
theorem tk_X9_leaves : q_tb cX9_leaves 2 tb_X9_leaves = true := by decide +kernel
set_option maxRecDepth 100000 in
theorem mw_X9_withdraw : q_mw yX9_withdraw cX9_withdraw 2 (Option.some Jvm.ClassFile.FieldType.int) 1 := ⟨q_t7 168 rfl rfl, by decide +kernel, by decide +kernel, q_init_QuillRelayModel⟩
set_option maxRecDepth 100000 in
theorem mi_X9_withdraw : Cond.instanceMethod yX9_withdraw ∈ q_W := q_t7 166 rfl rfl
set_option maxRecDepth 100000 in
theorem me_X9_withdraw : Cond.selects yX9_withdraw.cls yX9_withdraw yX9_withdraw ∈ q_W := q_t7 167 rfl rfl
def tb_X9_withdraw : List q_E := [(0, .aload_n 0, 1, 0, 0), (1, .invokevirtual 56, 3, 0, 0), (4, .aload_n 0, 1, 0, 0), (5, .aload_n 0, 1, 0, 0), (6, .iload_n 1, 1, 0, 0), (7, .invokevirtual 139, 3, 0, 0), (10, .invokevirtual 71, 3, 0, 0), (13, .ireturn, 1, 0, 0)]
set_option maxRecDepth 100000 in
theorem tk_X9_withdraw : q_tb cX9_withdraw 2 tb_X9_withdraw = true := by decide +kernel
set_option maxRecDepth 100000 in
theorem mw_X9_protests : q_mw yX9_protests cX9_protests 5 (Option.some Jvm.ClassFile.FieldType.int) 3 := ⟨q_t7 180 rfl rfl, by decide +kernel, by decide +kernel, q_init_QuillRelayModel⟩
set_option maxRecDepth 100000 in
theorem mi_X9_protests : Cond.instanceMethod yX9_protests ∈ q_W := q_t7 179 rfl rfl
set_option maxRecDepth 100000 in
theorem me_X9_protests : Cond.selects yX9_protests.cls yX9_protests yX9_protests ∈ q_W := q_s 43 rfl rfl
def tb_X9_protests : List q_E := [(0, .aload_n 0, 1, 0, 0), (1, .aload_n 0, 1, 0, 0), (2, .iload_n 1, 1, 0, 0), (3, .invokevirtual 75, 3, 0, 0), (6, .ifCond .eq 11, 3, 0, 17), (9, .aload_n 0, 1, 0, 0), (10, .iload_n 2, 1, 0, 0), (11, .invokevirtual 75, 3, 0, 0), (14, .ifCond .ne 7, 3, 0, 21), (17, .iconst 1, 1, 1, 0), (18, .goto 4, 3, 0, 22), (21, .iconst 0, 1, 0, 0), (22, .iconst 1, 1, 1, 0), (23, .invokevirtual 63, 3, 0, 0), (26, .ifCond .ne 50, 3, 0, 76), (29, .aload_n 0, 1, 0, 0), (30, .iload_n 1, 1, 0, 0), (31, .iload_n 2, 1, 0, 0), (32, .if_icmp .eq 12, 3, 0, 44), (35, .iload_n 3, 1, 0, 0), (36, .iconst 0, 1, 0, 0), (37, .iconst 1, 1, 1, 0), (38, .invokestatic 48, 3, 0, 0), (41, .ifCond .ne 7, 3, 0, 48), (44, .iconst 1, 1, 1, 0), (45, .goto 4, 3, 0, 49), (48, .iconst 0, 1, 0, 0), (49, .iconst 2, 1, 2, 0), (50, .invokevirtual 63, 3, 0, 0), (53, .ifCond .ne 23, 3, 0, 76), (56, .aload_n 0, 1, 0, 0), (57, .aload_n 0, 1, 0, 0), (58, .invokevirtual 59, 3, 0, 0), (61, .ifCond .ne 7, 3, 0, 68), (64, .iconst 1, 1, 1, 0), (65, .goto 4, 3, 0, 69), (68, .iconst 0, 1, 0, 0), (69, .iconst 3, 1, 3, 0), (70, .invokevirtual 63, 3, 0, 0), (73, .ifCond .eq 5, 3, 0, 78), (76, .iconst 0, 1, 0, 0), (77, .ireturn, 1, 0, 0), (78, .aload_n 0, 1, 0, 0), (79, .iload_n 2, 1, 0, 0), (80, .bipush 11, 2, 11, 0), (82, .iload_n 3, 1, 0, 0), (83, .iadd, 1, 0, 0), (84, .invokevirtual 52, 3, 0, 0), (87, .iconst 1, 1, 1, 0), (88, .if_icmp .ne 7, 3, 0, 95), (91, .iconst 1, 1, 1, 0), (92, .goto 4, 3, 0, 96), (95, .iconst 0, 1, 0, 0), (96, .istore 4, 2, 0, 0), (98, .iload 4, 2, 0, 0), (100, .ifCond .eq 31, 3, 0, 131), (103, .aload_n 0, 1, 0, 0), (104, .iload_n 2, 1, 0, 0), (105, .bipush 11, 2, 11, 0), (107, .iload_n 3, 1, 0, 0), (108, .iadd, 1, 0, 0), (109, .iconst 0, 1, 0, 0), (110, .invokevirtual 67, 3, 0, 0), (113, .aload_n 0, 1, 0, 0), (114, .iload_n 2, 1, 0, 0), (115, .iconst 5, 1, 5, 0), (116, .aload_n 0, 1, 0, 0), (117, .iload_n 2, 1, 0, 0), (118, .iconst 5, 1, 5, 0), (119, .invokevirtual 52, 3, 0, 0), (122, .bipush 10, 2, 10, 0), (124, .iadd, 1, 0, 0), (125, .invokevirtual 67, 3, 0, 0), (128, .goto 17, 3, 0, 145), (131, .aload_n 0, 1, 0, 0), (132, .iload_n 1, 1, 0, 0), (133, .iconst 5, 1, 5, 0), (134, .aload_n 0, 1, 0, 0), (135, .iload_n 1, 1, 0, 0), (136, .iconst 5, 1, 5, 0), (137, .invokevirtual 52, 3, 0, 0), (140, .iconst 5, 1, 5, 0), (141, .iadd, 1, 0, 0), (142, .invokevirtual 67, 3, 0, 0), (145, .iload 4, 2, 0, 0), (147, .ifCond .eq 7, 3, 0, 154), (150, .iconst 1, 1, 1, 0), (151, .goto 4, 3, 0, 155), (154, .iconst 0, 1, 0, 0), (155, .ireturn, 1, 0, 0)]
set_option maxRecDepth 100000 in
theorem tk_X9_protests : q_tb cX9_protests 5 tb_X9_protests = true := by decide +kernel
set_option maxRecDepth 100000 in
theorem mw_X9_protest : q_mw yX9_protest cX9_protest 4 (Option.some Jvm.ClassFile.FieldType.boolean) 3 := ⟨q_t7 176 rfl rfl, by decide +kernel, by decide +kernel, q_init_QuillRelayModel⟩
set_option maxRecDepth 100000 in
theorem mi_X9_protest : Cond.instanceMethod yX9_protest ∈ q_W := q_t7 174 rfl rfl
set_option maxRecDepth 100000 in
theorem me_X9_protest : Cond.selects yX9_protest.cls yX9_protest yX9_protest ∈ q_W := q_t7 175 rfl rfl
def tb_X9_protest : List q_E := [(0, .aload_n 0, 1, 0, 0), (1, .invokevirtual 56, 3, 0, 0), (4, .aload_n 0, 1, 0, 0), (5, .aload_n 0, 1, 0, 0), (6, .iload_n 1, 1, 0, 0), (7, .iload_n 2, 1, 0, 0), (8, .iload_n 3, 1, 0, 0), (9, .invokevirtual 142, 3, 0, 0), (12, .invokevirtual 71, 3, 0, 0), (15, .iconst 1, 1, 1, 0), (16, .if_icmp .ne 7, 3, 0, 23), (19, .iconst 1, 1, 1, 0), (20, .goto 4, 3, 0, 24), (23, .iconst 0, 1, 0, 0), (24, .ireturn, 1, 0, 0)]
set_option maxRecDepth 100000 in
theorem tk_X9_protest : q_tb cX9_protest 4 tb_X9_protest = true := by decide +kernel
set_option maxRecDepth 100000 in
theorem mw_X9_teamCount : q_mw yX9_teamCount cX9_teamCount 1 (Option.some Jvm.ClassFile.FieldType.int) 0 := ⟨q_t7 184 rfl rfl, by decide +kernel, by decide +kernel, q_init_QuillRelayModel⟩
set_option maxRecDepth 100000 in
theorem mi_X9_teamCount : Cond.instanceMethod yX9_teamCount ∈ q_W := q_t7 182 rfl rfl
set_option maxRecDepth 100000 in
theorem me_X9_teamCount : Cond.selects yX9_teamCount.cls yX9_teamCount yX9_teamCount ∈ q_W := q_t7 183 rfl rfl
def tb_X9_teamCount : List q_E := [(0, .aload_n 0, 1, 0, 0), (1, .iconst 0, 1, 0, 0), (2, .putfield 38, 3, 0, 0), (5, .aload_n 0, 1, 0, 0), (6, .getfield 9, 3, 0, 0), (9, .iconst 3, 1, 3, 0), (10, .iaload, 1, 0, 0), (11, .ireturn, 1, 0, 0)]
set_option maxRecDepth 100000 in
theorem tk_X9_teamCount : q_tb cX9_teamCount 1 tb_X9_teamCount = true := by decide +kernel
set_option maxRecDepth 100000 in
theorem mw_X9_runningCount : q_mw yX9_runningCount cX9_runningCount 1 (Option.some Jvm.ClassFile.FieldType.int) 0 := ⟨q_t7 188 rfl rfl, by decide +kernel, by decide +kernel, q_init_QuillRelayModel⟩
set_option maxRecDepth 100000 in
theorem mi_X9_runningCount : Cond.instanceMethod yX9_runningCount ∈ q_W := q_t7 186 rfl rfl
set_option maxRecDepth 100000 in
theorem me_X9_runningCount : Cond.selects yX9_runningCount.cls yX9_runningCount yX9_runningCount ∈ q_W := q_t7 187 rfl rfl
def tb_X9_runningCount : List q_E := [(0, .aload_n 0, 1, 0, 0), (1, .iconst 0, 1, 0, 0), (2, .putfield 38, 3, 0, 0), (5, .aload_n 0, 1, 0, 0), (6, .iconst 1, 1, 1, 0), (7, .invokevirtual 109, 3, 0, 0), (10, .ireturn, 1, 0, 0)]
set_option maxRecDepth 100000 in
theorem tk_X9_runningCount : q_tb cX9_runningCount 1 tb_X9_runningCount = true := by decide +kernel
set_option maxRecDepth 100000 in
theorem mw_X9_isStarted : q_mw yX9_isStarted cX9_isStarted 1 (Option.some Jvm.ClassFile.FieldType.boolean) 0 := ⟨q_t7 192 rfl rfl, by decide +kernel, by decide +kernel, q_init_QuillRelayModel⟩
set_option maxRecDepth 100000 in
theorem mi_X9_isStarted : Cond.instanceMethod yX9_isStarted ∈ q_W := q_t7 190 rfl rfl
set_option maxRecDepth 100000 in
theorem me_X9_isStarted : Cond.selects yX9_isStarted.cls yX9_isStarted yX9_isStarted ∈ q_W := q_t7 191 rfl rfl
def tb_X9_isStarted : List q_E := [(0, .aload_n 0, 1, 0, 0), (1, .iconst 0, 1, 0, 0), (2, .putfield 38, 3, 0, 0), (5, .aload_n 0, 1, 0, 0), (6, .invokevirtual 59, 3, 0, 0), (9, .ireturn, 1, 0, 0)]
set_option maxRecDepth 100000 in
theorem tk_X9_isStarted : q_tb cX9_isStarted 1 tb_X9_isStarted = true := by decide +kernel
set_option maxRecDepth 100000 in
theorem mw_X9_isFinished : q_mw yX9_isFinished cX9_isFinished 1 (Option.some Jvm.ClassFile.FieldType.boolean) 0 := ⟨q_t7 196 rfl rfl, by decide +kernel, by decide +kernel, q_init_QuillRelayModel⟩
set_option maxRecDepth 100000 in
theorem mi_X9_isFinished : Cond.instanceMethod yX9_isFinished ∈ q_W := q_t7 194 rfl rfl
set_option maxRecDepth 100000 in
theorem me_X9_isFinished : Cond.selects yX9_isFinished.cls yX9_isFinished yX9_isFinished ∈ q_W := q_t7 195 rfl rfl
def tb_X9_isFinished : List q_E := [(0, .aload_n 0, 1, 0, 0), (1, .iconst 0, 1, 0, 0), (2, .putfield 38, 3, 0, 0), (5, .aload_n 0, 1, 0, 0), (6, .invokevirtual 59, 3, 0, 0), (9, .ifCond .eq 15, 3, 0, 24), (12, .aload_n 0, 1, 0, 0), (13, .iconst 1, 1, 1, 0), (14, .invokevirtual 109, 3, 0, 0), (17, .ifCond .ne 7, 3, 0, 24), (20, .iconst 1, 1, 1, 0), (21, .goto 4, 3, 0, 25), (24, .iconst 0, 1, 0, 0), (25, .ireturn, 1, 0, 0)]
set_option maxRecDepth 100000 in
theorem tk_X9_isFinished : q_tb cX9_isFinished 1 tb_X9_isFinished = true := by decide +kernel
set_option maxRecDepth 100000 in
theorem mw_X9_clock : q_mw yX9_clock cX9_clock 1 (Option.some Jvm.ClassFile.FieldType.int) 0 := ⟨q_t7 200 rfl rfl, by decide +kernel, by decide +kernel, q_init_QuillRelayModel⟩
set_option maxRecDepth 100000 in
theorem mi_X9_clock : Cond.instanceMethod yX9_clock ∈ q_W := q_t7 198 rfl rfl
set_option maxRecDepth 100000 in
theorem me_X9_clock : Cond.selects yX9_clock.cls yX9_clock yX9_clock ∈ q_W := q_t7 199 rfl rfl
def tb_X9_clock : List q_E := [(0, .aload_n 0, 1, 0, 0), (1, .iconst 0, 1, 0, 0), (2, .putfield 38, 3, 0, 0), (5, .aload_n 0, 1, 0, 0), (6, .getfield 9, 3, 0, 0), (9, .iconst 2, 1, 2, 0), (10, .iaload, 1, 0, 0), (11, .ireturn, 1, 0, 0)]
set_option maxRecDepth 100000 in
theorem tk_X9_clock : q_tb cX9_clock 1 tb_X9_clock = true := by decide +kernel
set_option maxRecDepth 100000 in
theorem mw_X9_length : q_mw yX9_length cX9_length 1 (Option.some Jvm.ClassFile.FieldType.int) 0 := ⟨q_t7 204 rfl rfl, by decide +kernel, by decide +kernel, q_init_QuillRelayModel⟩
set_option maxRecDepth 100000 in
theorem mi_X9_length : Cond.instanceMethod yX9_length ∈ q_W := q_t7 202 rfl rfl
set_option maxRecDepth 100000 in
theorem me_X9_length : Cond.selects yX9_length.cls yX9_length yX9_length ∈ q_W := q_t7 203 rfl rfl
def tb_X9_length : List q_E := [(0, .aload_n 0, 1, 0, 0), (1, .iconst 0, 1, 0, 0), (2, .putfield 38, 3, 0, 0), (5, .aload_n 0, 1, 0, 0), (6, .getfield 9, 3, 0, 0), (9, .iconst 0, 1, 0, 0), (10, .iaload, 1, 0, 0), (11, .ireturn, 1, 0, 0)]
set_option maxRecDepth 100000 in
theorem tk_X9_length : q_tb cX9_length 1 tb_X9_length = true := by decide +kernel
set_option maxRecDepth 100000 in
theorem mw_X9_ofTeam : q_mw yX9_ofTeam cX9_ofTeam 3 (Option.some Jvm.ClassFile.FieldType.int) 2 := ⟨q_t7 212 rfl rfl, by decide +kernel, by decide +kernel, q_init_QuillRelayModel⟩
set_option maxRecDepth 100000 in
theorem mi_X9_ofTeam : Cond.instanceMethod yX9_ofTeam ∈ q_W := q_t7 211 rfl rfl
set_option maxRecDepth 100000 in
theorem me_X9_ofTeam : Cond.selects yX9_ofTeam.cls yX9_ofTeam yX9_ofTeam ∈ q_W := q_s 44 rfl rfl
def tb_X9_ofTeam : List q_E := [(0, .aload_n 0, 1, 0, 0), (1, .aload_n 0, 1, 0, 0), (2, .iload_n 1, 1, 0, 0), (3, .invokevirtual 75, 3, 0, 0), (6, .ifCond .ne 7, 3, 0, 13), (9, .iconst 1, 1, 1, 0), (10, .goto 4, 3, 0, 14), (13, .iconst 0, 1, 0, 0), (14, .iconst 1, 1, 1, 0), (15, .invokevirtual 63, 3, 0, 0), (18, .ifCond .eq 7, 3, 0, 25), (21, .iconst 0, 1, 0, 0), (22, .goto 9, 3, 0, 31), (25, .aload_n 0, 1, 0, 0), (26, .iload_n 1, 1, 0, 0), (27, .iload_n 2, 1, 0, 0), (28, .invokevirtual 52, 3, 0, 0), (31, .ireturn, 1, 0, 0)]
set_option maxRecDepth 100000 in
theorem tk_X9_ofTeam : q_tb cX9_ofTeam 3 tb_X9_ofTeam = true := by decide +kernel
set_option maxRecDepth 100000 in
theorem mw_X9_laneOf : q_mw yX9_laneOf cX9_laneOf 2 (Option.some Jvm.ClassFile.FieldType.int) 1 := ⟨q_t7 208 rfl rfl, by decide +kernel, by decide +kernel, q_init_QuillRelayModel⟩
set_option maxRecDepth 100000 in
theorem mi_X9_laneOf : Cond.instanceMethod yX9_laneOf ∈ q_W := q_t7 206 rfl rfl
set_option maxRecDepth 100000 in
theorem me_X9_laneOf : Cond.selects yX9_laneOf.cls yX9_laneOf yX9_laneOf ∈ q_W := q_t7 207 rfl rfl
def tb_X9_laneOf : List q_E := [(0, .aload_n 0, 1, 0, 0), (1, .iload_n 1, 1, 0, 0), (2, .iconst 4, 1, 4, 0), (3, .invokevirtual 145, 3, 0, 0), (6, .ireturn, 1, 0, 0)]
set_option maxRecDepth 100000 in
theorem tk_X9_laneOf : q_tb cX9_laneOf 2 tb_X9_laneOf = true := by decide +kernel
set_option maxRecDepth 100000 in
theorem mw_X9_teamInLane : q_mw yX9_teamInLane cX9_teamInLane 3 (Option.some Jvm.ClassFile.FieldType.int) 1 := ⟨q_t7 216 rfl rfl, by decide +kernel, by decide +kernel, q_init_QuillRelayModel⟩
set_option maxRecDepth 100000 in
theorem mi_X9_teamInLane : Cond.instanceMethod yX9_teamInLane ∈ q_W := q_t7 214 rfl rfl
set_option maxRecDepth 100000 in
theorem me_X9_teamInLane : Cond.selects yX9_teamInLane.cls yX9_teamInLane yX9_teamInLane ∈ q_W := q_t7 215 rfl rfl
def tb_X9_teamInLane : List q_E := [(0, .iconst 0, 1, 0, 0), (1, .istore_n 2, 1, 0, 0), (2, .iload_n 2, 1, 0, 0), (3, .aload_n 0, 1, 0, 0), (4, .getfield 9, 3, 0, 0), (7, .iconst 3, 1, 3, 0), (8, .iaload, 1, 0, 0), (9, .if_icmp .ge 26, 3, 0, 35), (12, .aload_n 0, 1, 0, 0), (13, .iload_n 2, 1, 0, 0), (14, .iconst 4, 1, 4, 0), (15, .invokevirtual 52, 3, 0, 0), (18, .iload_n 1, 1, 0, 0), (19, .if_icmp .ne 10, 3, 0, 29), (22, .aload_n 0, 1, 0, 0), (23, .iconst 0, 1, 0, 0), (24, .putfield 38, 3, 0, 0), (27, .iload_n 2, 1, 0, 0), (28, .ireturn, 1, 0, 0), (29, .iinc 2 1, 3, 1, 0), (32, .goto (-30), 3, 0, 2), (35, .aload_n 0, 1, 0, 0), (36, .iconst 1, 1, 1, 0), (37, .putfield 38, 3, 0, 0), (40, .iconst 0, 1, 0, 0), (41, .ireturn, 1, 0, 0)]
set_option maxRecDepth 100000 in
theorem tk_X9_teamInLane : q_tb cX9_teamInLane 3 tb_X9_teamInLane = true := by decide +kernel
set_option maxRecDepth 100000 in
theorem mw_X9_speedOf : q_mw yX9_speedOf cX9_speedOf 3 (Option.some Jvm.ClassFile.FieldType.int) 2 := ⟨q_t7 220 rfl rfl, by decide +kernel, by decide +kernel, q_init_QuillRelayModel⟩
set_option maxRecDepth 100000 in
theorem mi_X9_speedOf : Cond.instanceMethod yX9_speedOf ∈ q_W := q_t7 218 rfl rfl
set_option maxRecDepth 100000 in
theorem me_X9_speedOf : Cond.selects yX9_speedOf.cls yX9_speedOf yX9_speedOf ∈ q_W := q_t7 219 rfl rfl
def tb_X9_speedOf : List q_E := [(0, .aload_n 0, 1, 0, 0), (1, .aload_n 0, 1, 0, 0), (2, .iload_n 1, 1, 0, 0), (3, .invokevirtual 75, 3, 0, 0), (6, .ifCond .eq 10, 3, 0, 16), (9, .iload_n 2, 1, 0, 0), (10, .invokestatic 79, 3, 0, 0), (13, .ifCond .ne 7, 3, 0, 20), (16, .iconst 1, 1, 1, 0), (17, .goto 4, 3, 0, 21), (20, .iconst 0, 1, 0, 0), (21, .iconst 1, 1, 1, 0), (22, .invokevirtual 63, 3, 0, 0), (25, .ifCond .eq 7, 3, 0, 32), (28, .iconst 0, 1, 0, 0), (29, .goto 11, 3, 0, 40), (32, .aload_n 0, 1, 0, 0), (33, .iload_n 1, 1, 0, 0), (34, .iconst 0, 1, 0, 0), (35, .iload_n 2, 1, 0, 0), (36, .iadd, 1, 0, 0), (37, .invokevirtual 52, 3, 0, 0), (40, .ireturn, 1, 0, 0)]
set_option maxRecDepth 100000 in
theorem tk_X9_speedOf : q_tb cX9_speedOf 3 tb_X9_speedOf = true := by decide +kernel
set_option maxRecDepth 100000 in
theorem mw_X9_positionOf : q_mw yX9_positionOf cX9_positionOf 2 (Option.some Jvm.ClassFile.FieldType.int) 1 := ⟨q_t7 224 rfl rfl, by decide +kernel, by decide +kernel, q_init_QuillRelayModel⟩
set_option maxRecDepth 100000 in
theorem mi_X9_positionOf : Cond.instanceMethod yX9_positionOf ∈ q_W := q_t7 222 rfl rfl
set_option maxRecDepth 100000 in
theorem me_X9_positionOf : Cond.selects yX9_positionOf.cls yX9_positionOf yX9_positionOf ∈ q_W := q_t7 223 rfl rfl
def tb_X9_positionOf : List q_E := [(0, .aload_n 0, 1, 0, 0), (1, .iload_n 1, 1, 0, 0), (2, .bipush 7, 2, 7, 0), (4, .invokevirtual 145, 3, 0, 0), (7, .ireturn, 1, 0, 0)]
set_option maxRecDepth 100000 in
theorem tk_X9_positionOf : q_tb cX9_positionOf 2 tb_X9_positionOf = true := by decide +kernel
set_option maxRecDepth 100000 in
theorem mw_X9_legOf : q_mw yX9_legOf cX9_legOf 2 (Option.some Jvm.ClassFile.FieldType.int) 1 := ⟨q_t7 228 rfl rfl, by decide +kernel, by decide +kernel, q_init_QuillRelayModel⟩
set_option maxRecDepth 100000 in
theorem mi_X9_legOf : Cond.instanceMethod yX9_legOf ∈ q_W := q_t7 226 rfl rfl
set_option maxRecDepth 100000 in
theorem me_X9_legOf : Cond.selects yX9_legOf.cls yX9_legOf yX9_legOf ∈ q_W := q_t7 227 rfl rfl
def tb_X9_legOf : List q_E := [(0, .aload_n 0, 1, 0, 0), (1, .iload_n 1, 1, 0, 0), (2, .bipush 8, 2, 8, 0), (4, .invokevirtual 145, 3, 0, 0), (7, .ireturn, 1, 0, 0)]
set_option maxRecDepth 100000 in
theorem tk_X9_legOf : q_tb cX9_legOf 2 tb_X9_legOf = true := by decide +kernel
set_option maxRecDepth 100000 in
theorem mw_X9_isRunning : q_mw yX9_isRunning cX9_isRunning 2 (Option.some Jvm.ClassFile.FieldType.boolean) 1 := ⟨q_t7 232 rfl rfl, by decide +kernel, by decide +kernel, q_init_QuillRelayModel⟩
set_option maxRecDepth 100000 in
theorem mi_X9_isRunning : Cond.instanceMethod yX9_isRunning ∈ q_W := q_t7 230 rfl rfl
set_option maxRecDepth 100000 in
theorem me_X9_isRunning : Cond.selects yX9_isRunning.cls yX9_isRunning yX9_isRunning ∈ q_W := q_t7 231 rfl rfl
def tb_X9_isRunning : List q_E := [(0, .aload_n 0, 1, 0, 0), (1, .iload_n 1, 1, 0, 0), (2, .bipush 6, 2, 6, 0), (4, .invokevirtual 145, 3, 0, 0), (7, .iconst 1, 1, 1, 0), (8, .if_icmp .ne 7, 3, 0, 15), (11, .iconst 1, 1, 1, 0), (12, .goto 4, 3, 0, 16), (15, .iconst 0, 1, 0, 0), (16, .ireturn, 1, 0, 0)]
set_option maxRecDepth 100000 in
theorem tk_X9_isRunning : q_tb cX9_isRunning 2 tb_X9_isRunning = true := by decide +kernel
set_option maxRecDepth 100000 in
theorem mw_X9_isInZone : q_mw yX9_isInZone cX9_isInZone 2 (Option.some Jvm.ClassFile.FieldType.boolean) 1 := ⟨q_t7 236 rfl rfl, by decide +kernel, by decide +kernel, q_init_QuillRelayModel⟩
set_option maxRecDepth 100000 in
theorem mi_X9_isInZone : Cond.instanceMethod yX9_isInZone ∈ q_W := q_t7 234 rfl rfl
set_option maxRecDepth 100000 in
theorem me_X9_isInZone : Cond.selects yX9_isInZone.cls yX9_isInZone yX9_isInZone ∈ q_W := q_t7 235 rfl rfl
def tb_X9_isInZone : List q_E := [(0, .aload_n 0, 1, 0, 0), (1, .aload_n 0, 1, 0, 0), (2, .iload_n 1, 1, 0, 0), (3, .invokevirtual 75, 3, 0, 0), (6, .ifCond .ne 7, 3, 0, 13), (9, .iconst 1, 1, 1, 0), (10, .goto 4, 3, 0, 14), (13, .iconst 0, 1, 0, 0), (14, .iconst 1, 1, 1, 0), (15, .invokevirtual 63, 3, 0, 0), (18, .ifCond .ne 15, 3, 0, 33), (21, .aload_n 0, 1, 0, 0), (22, .iload_n 1, 1, 0, 0), (23, .invokevirtual 133, 3, 0, 0), (26, .ifCond .eq 7, 3, 0, 33), (29, .iconst 1, 1, 1, 0), (30, .goto 4, 3, 0, 34), (33, .iconst 0, 1, 0, 0), (34, .ireturn, 1, 0, 0)]
set_option maxRecDepth 100000 in
theorem tk_X9_isInZone : q_tb cX9_isInZone 2 tb_X9_isInZone = true := by decide +kernel
set_option maxRecDepth 100000 in
theorem mw_X9_standingOf : q_mw yX9_standingOf cX9_standingOf 2 (Option.some Jvm.ClassFile.FieldType.int) 1 := ⟨q_t8 0 rfl rfl, by decide +kernel, by decide +kernel, q_init_QuillRelayModel⟩
set_option maxRecDepth 100000 in
theorem mi_X9_standingOf : Cond.instanceMethod yX9_standingOf ∈ q_W := q_t7 238 rfl rfl
set_option maxRecDepth 100000 in
theorem me_X9_standingOf : Cond.selects yX9_standingOf.cls yX9_standingOf yX9_standingOf ∈ q_W := q_t7 239 rfl rfl
def tb_X9_standingOf : List q_E := [(0, .aload_n 0, 1, 0, 0), (1, .iload_n 1, 1, 0, 0), (2, .bipush 10, 2, 10, 0), (4, .invokevirtual 145, 3, 0, 0), (7, .ireturn, 1, 0, 0)]
set_option maxRecDepth 100000 in
theorem tk_X9_standingOf : q_tb cX9_standingOf 2 tb_X9_standingOf = true := by decide +kernel
set_option maxRecDepth 100000 in
theorem mw_X9_penaltyOf : q_mw yX9_penaltyOf cX9_penaltyOf 2 (Option.some Jvm.ClassFile.FieldType.int) 1 := ⟨q_t8 4 rfl rfl, by decide +kernel, by decide +kernel, q_init_QuillRelayModel⟩
set_option maxRecDepth 100000 in
theorem mi_X9_penaltyOf : Cond.instanceMethod yX9_penaltyOf ∈ q_W := q_t8 2 rfl rfl
set_option maxRecDepth 100000 in
theorem me_X9_penaltyOf : Cond.selects yX9_penaltyOf.cls yX9_penaltyOf yX9_penaltyOf ∈ q_W := q_t8 3 rfl rfl
def tb_X9_penaltyOf : List q_E := [(0, .aload_n 0, 1, 0, 0), (1, .iload_n 1, 1, 0, 0), (2, .iconst 5, 1, 5, 0), (3, .invokevirtual 145, 3, 0, 0), (6, .ireturn, 1, 0, 0)]
set_option maxRecDepth 100000 in
theorem tk_X9_penaltyOf : q_tb cX9_penaltyOf 2 tb_X9_penaltyOf = true := by decide +kernel
set_option maxRecDepth 100000 in
theorem mw_X9_hasFoul : q_mw yX9_hasFoul cX9_hasFoul 3 (Option.some Jvm.ClassFile.FieldType.boolean) 2 := ⟨q_t8 8 rfl rfl, by decide +kernel, by decide +kernel, q_init_QuillRelayModel⟩
set_option maxRecDepth 100000 in
theorem mi_X9_hasFoul : Cond.instanceMethod yX9_hasFoul ∈ q_W := q_t8 6 rfl rfl
set_option maxRecDepth 100000 in
theorem me_X9_hasFoul : Cond.selects yX9_hasFoul.cls yX9_hasFoul yX9_hasFoul ∈ q_W := q_t8 7 rfl rfl
def tb_X9_hasFoul : List q_E := [(0, .aload_n 0, 1, 0, 0), (1, .aload_n 0, 1, 0, 0), (2, .iload_n 1, 1, 0, 0), (3, .invokevirtual 75, 3, 0, 0), (6, .ifCond .ne 7, 3, 0, 13), (9, .iconst 1, 1, 1, 0), (10, .goto 4, 3, 0, 14), (13, .iconst 0, 1, 0, 0), (14, .iconst 1, 1, 1, 0), (15, .invokevirtual 63, 3, 0, 0), (18, .ifCond .ne 42, 3, 0, 60), (21, .aload_n 0, 1, 0, 0), (22, .iload_n 2, 1, 0, 0), (23, .iconst 0, 1, 0, 0), (24, .iconst 1, 1, 1, 0), (25, .invokestatic 48, 3, 0, 0), (28, .ifCond .ne 7, 3, 0, 35), (31, .iconst 1, 1, 1, 0), (32, .goto 4, 3, 0, 36), (35, .iconst 0, 1, 0, 0), (36, .iconst 2, 1, 2, 0), (37, .invokevirtual 63, 3, 0, 0), (40, .ifCond .ne 20, 3, 0, 60), (43, .aload_n 0, 1, 0, 0), (44, .iload_n 1, 1, 0, 0), (45, .bipush 11, 2, 11, 0), (47, .iload_n 2, 1, 0, 0), (48, .iadd, 1, 0, 0), (49, .invokevirtual 52, 3, 0, 0), (52, .iconst 1, 1, 1, 0), (53, .if_icmp .ne 7, 3, 0, 60), (56, .iconst 1, 1, 1, 0), (57, .goto 4, 3, 0, 61), (60, .iconst 0, 1, 0, 0), (61, .ireturn, 1, 0, 0)]
set_option maxRecDepth 100000 in
theorem tk_X9_hasFoul : q_tb cX9_hasFoul 3 tb_X9_hasFoul = true := by decide +kernel
set_option maxRecDepth 100000 in
theorem mw_X9_splitOf : q_mw yX9_splitOf cX9_splitOf 4 (Option.some Jvm.ClassFile.FieldType.int) 2 := ⟨q_t8 12 rfl rfl, by decide +kernel, by decide +kernel, q_init_QuillRelayModel⟩
set_option maxRecDepth 100000 in
theorem mi_X9_splitOf : Cond.instanceMethod yX9_splitOf ∈ q_W := q_t8 10 rfl rfl
set_option maxRecDepth 100000 in
theorem me_X9_splitOf : Cond.selects yX9_splitOf.cls yX9_splitOf yX9_splitOf ∈ q_W := q_t8 11 rfl rfl
def tb_X9_splitOf : List q_E := [(0, .aload_n 0, 1, 0, 0), (1, .aload_n 0, 1, 0, 0), (2, .iload_n 1, 1, 0, 0), (3, .invokevirtual 75, 3, 0, 0), (6, .ifCond .eq 10, 3, 0, 16), (9, .iload_n 2, 1, 0, 0), (10, .invokestatic 79, 3, 0, 0), (13, .ifCond .ne 7, 3, 0, 20), (16, .iconst 1, 1, 1, 0), (17, .goto 4, 3, 0, 21), (20, .iconst 0, 1, 0, 0), (21, .iconst 1, 1, 1, 0), (22, .invokevirtual 63, 3, 0, 0), (25, .ifCond .eq 5, 3, 0, 30), (28, .iconst 0, 1, 0, 0), (29, .ireturn, 1, 0, 0), (30, .aload_n 0, 1, 0, 0), (31, .iload_n 1, 1, 0, 0), (32, .bipush 14, 2, 14, 0), (34, .iload_n 2, 1, 0, 0), (35, .iadd, 1, 0, 0), (36, .invokevirtual 52, 3, 0, 0), (39, .iconst 1, 1, 1, 0), (40, .isub, 1, 0, 0), (41, .istore_n 3, 1, 0, 0), (42, .aload_n 0, 1, 0, 0), (43, .iload_n 3, 1, 0, 0), (44, .ifCond .ge 7, 3, 0, 51), (47, .iconst 1, 1, 1, 0), (48, .goto 4, 3, 0, 52), (51, .iconst 0, 1, 0, 0), (52, .iconst 2, 1, 2, 0), (53, .invokevirtual 63, 3, 0, 0), (56, .ifCond .eq 7, 3, 0, 63), (59, .iconst 0, 1, 0, 0), (60, .goto 4, 3, 0, 64), (63, .iload_n 3, 1, 0, 0), (64, .ireturn, 1, 0, 0)]
set_option maxRecDepth 100000 in
theorem tk_X9_splitOf : q_tb cX9_splitOf 4 tb_X9_splitOf = true := by decide +kernel
set_option maxRecDepth 100000 in
theorem mw_X9_splitSum : q_mw yX9_splitSum cX9_splitSum 5 (Option.some Jvm.ClassFile.FieldType.int) 1 := ⟨q_t8 16 rfl rfl, by decide +kernel, by decide +kernel, q_init_QuillRelayModel⟩
set_option maxRecDepth 100000 in
theorem mi_X9_splitSum : Cond.instanceMethod yX9_splitSum ∈ q_W := q_t8 14 rfl rfl
set_option maxRecDepth 100000 in
theorem me_X9_splitSum : Cond.selects yX9_splitSum.cls yX9_splitSum yX9_splitSum ∈ q_W := q_t8 15 rfl rfl
def tb_X9_splitSum : List q_E := [(0, .aload_n 0, 1, 0, 0), (1, .aload_n 0, 1, 0, 0), (2, .iload_n 1, 1, 0, 0), (3, .invokevirtual 75, 3, 0, 0), (6, .ifCond .ne 7, 3, 0, 13), (9, .iconst 1, 1, 1, 0), (10, .goto 4, 3, 0, 14), (13, .iconst 0, 1, 0, 0), (14, .iconst 1, 1, 1, 0), (15, .invokevirtual 63, 3, 0, 0), (18, .ifCond .eq 5, 3, 0, 23), (21, .iconst 0, 1, 0, 0), (22, .ireturn, 1, 0, 0), (23, .iconst 0, 1, 0, 0), (24, .istore_n 2, 1, 0, 0), (25, .iconst 0, 1, 0, 0), (26, .istore_n 3, 1, 0, 0), (27, .iload_n 3, 1, 0, 0), (28, .iconst 4, 1, 4, 0), (29, .if_icmp .ge 36, 3, 0, 65), (32, .aload_n 0, 1, 0, 0), (33, .iload_n 1, 1, 0, 0), (34, .bipush 14, 2, 14, 0), (36, .iload_n 3, 1, 0, 0), (37, .iadd, 1, 0, 0), (38, .invokevirtual 52, 3, 0, 0), (41, .iconst 1, 1, 1, 0), (42, .isub, 1, 0, 0), (43, .istore 4, 2, 0, 0), (45, .iload_n 2, 1, 0, 0), (46, .iload 4, 2, 0, 0), (48, .ifCond .ge 7, 3, 0, 55), (51, .iconst 0, 1, 0, 0), (52, .goto 5, 3, 0, 57), (55, .iload 4, 2, 0, 0), (57, .iadd, 1, 0, 0), (58, .istore_n 2, 1, 0, 0), (59, .iinc 3 1, 3, 1, 0), (62, .goto (-35), 3, 0, 27), (65, .iload_n 2, 1, 0, 0), (66, .ireturn, 1, 0, 0)]
set_option maxRecDepth 100000 in
theorem tk_X9_splitSum : q_tb cX9_splitSum 5 tb_X9_splitSum = true := by decide +kernel
set_option maxRecDepth 100000 in
theorem mw_X9_isNoResult : q_mw yX9_isNoResult cX9_isNoResult 2 (Option.some Jvm.ClassFile.FieldType.boolean) 1 := ⟨q_t8 24 rfl rfl, by decide +kernel, by decide +kernel, q_init_QuillRelayModel⟩
set_option maxRecDepth 100000 in
theorem mi_X9_isNoResult : Cond.instanceMethod yX9_isNoResult ∈ q_W := q_t8 23 rfl rfl
set_option maxRecDepth 100000 in
theorem me_X9_isNoResult : Cond.selects yX9_isNoResult.cls yX9_isNoResult yX9_isNoResult ∈ q_W := q_s 45 rfl rfl
def tb_X9_isNoResult : List q_E := [(0, .aload_n 0, 1, 0, 0), (1, .aload_n 0, 1, 0, 0), (2, .iload_n 1, 1, 0, 0), (3, .invokevirtual 75, 3, 0, 0), (6, .ifCond .ne 7, 3, 0, 13), (9, .iconst 1, 1, 1, 0), (10, .goto 4, 3, 0, 14), (13, .iconst 0, 1, 0, 0), (14, .iconst 1, 1, 1, 0), (15, .invokevirtual 63, 3, 0, 0), (18, .ifCond .ne 27, 3, 0, 45), (21, .aload_n 0, 1, 0, 0), (22, .aload_n 0, 1, 0, 0), (23, .iload_n 1, 1, 0, 0), (24, .bipush 6, 2, 6, 0), (26, .invokevirtual 52, 3, 0, 0), (29, .iconst 2, 1, 2, 0), (30, .if_icmp .eq 7, 3, 0, 37), (33, .iconst 1, 1, 1, 0), (34, .goto 4, 3, 0, 38), (37, .iconst 0, 1, 0, 0), (38, .iconst 2, 1, 2, 0), (39, .invokevirtual 63, 3, 0, 0), (42, .ifCond .eq 7, 3, 0, 49), (45, .iconst 1, 1, 1, 0), (46, .goto 4, 3, 0, 50), (49, .iconst 0, 1, 0, 0), (50, .ireturn, 1, 0, 0)]
set_option maxRecDepth 100000 in
theorem tk_X9_isNoResult : q_tb cX9_isNoResult 2 tb_X9_isNoResult = true := by decide +kernel
set_option maxRecDepth 100000 in
theorem mw_X9_result : q_mw yX9_result cX9_result 2 (Option.some Jvm.ClassFile.FieldType.int) 1 := ⟨q_t8 32 rfl rfl, by decide +kernel, by decide +kernel, q_init_QuillRelayModel⟩
set_option maxRecDepth 100000 in
theorem mi_X9_result : Cond.instanceMethod yX9_result ∈ q_W := q_t8 31 rfl rfl
set_option maxRecDepth 100000 in
theorem me_X9_result : Cond.selects yX9_result.cls yX9_result yX9_result ∈ q_W := q_s 46 rfl rfl
def tb_X9_result : List q_E := [(0, .aload_n 0, 1, 0, 0), (1, .iload_n 1, 1, 0, 0), (2, .bipush 18, 2, 18, 0), (4, .invokevirtual 52, 3, 0, 0), (7, .aload_n 0, 1, 0, 0), (8, .iload_n 1, 1, 0, 0), (9, .iconst 5, 1, 5, 0), (10, .invokevirtual 52, 3, 0, 0), (13, .iadd, 1, 0, 0), (14, .ireturn, 1, 0, 0)]
set_option maxRecDepth 100000 in
theorem tk_X9_result : q_tb cX9_result 2 tb_X9_result = true := by decide +kernel
set_option maxRecDepth 100000 in
theorem mw_X9_timeOf : q_mw yX9_timeOf cX9_timeOf 2 (Option.some Jvm.ClassFile.FieldType.int) 1 := ⟨q_t8 20 rfl rfl, by decide +kernel, by decide +kernel, q_init_QuillRelayModel⟩
set_option maxRecDepth 100000 in
theorem mi_X9_timeOf : Cond.instanceMethod yX9_timeOf ∈ q_W := q_t8 18 rfl rfl
set_option maxRecDepth 100000 in
theorem me_X9_timeOf : Cond.selects yX9_timeOf.cls yX9_timeOf yX9_timeOf ∈ q_W := q_t8 19 rfl rfl
def tb_X9_timeOf : List q_E := [(0, .aload_n 0, 1, 0, 0), (1, .iload_n 1, 1, 0, 0), (2, .invokevirtual 148, 3, 0, 0), (5, .ifCond .eq 7, 3, 0, 12), (8, .iconst 0, 1, 0, 0), (9, .goto 10, 3, 0, 19), (12, .aload_n 0, 1, 0, 0), (13, .iload_n 1, 1, 0, 0), (14, .bipush 18, 2, 18, 0), (16, .invokevirtual 52, 3, 0, 0), (19, .ireturn, 1, 0, 0)]
set_option maxRecDepth 100000 in
theorem tk_X9_timeOf : q_tb cX9_timeOf 2 tb_X9_timeOf = true := by decide +kernel
set_option maxRecDepth 100000 in
theorem mw_X9_resultOf : q_mw yX9_resultOf cX9_resultOf 2 (Option.some Jvm.ClassFile.FieldType.int) 1 := ⟨q_t8 28 rfl rfl, by decide +kernel, by decide +kernel, q_init_QuillRelayModel⟩
set_option maxRecDepth 100000 in
theorem mi_X9_resultOf : Cond.instanceMethod yX9_resultOf ∈ q_W := q_t8 26 rfl rfl
set_option maxRecDepth 100000 in
theorem me_X9_resultOf : Cond.selects yX9_resultOf.cls yX9_resultOf yX9_resultOf ∈ q_W := q_t8 27 rfl rfl
def tb_X9_resultOf : List q_E := [(0, .aload_n 0, 1, 0, 0), (1, .iload_n 1, 1, 0, 0), (2, .invokevirtual 148, 3, 0, 0), (5, .ifCond .eq 7, 3, 0, 12), (8, .iconst 0, 1, 0, 0), (9, .goto 8, 3, 0, 17), (12, .aload_n 0, 1, 0, 0), (13, .iload_n 1, 1, 0, 0), (14, .invokevirtual 151, 3, 0, 0), (17, .ireturn, 1, 0, 0)]
set_option maxRecDepth 100000 in
theorem tk_X9_resultOf : q_tb cX9_resultOf 2 tb_X9_resultOf = true := by decide +kernel
set_option maxRecDepth 100000 in
theorem mw_X9_group : q_mw yX9_group cX9_group 3 (Option.some Jvm.ClassFile.FieldType.int) 1 := ⟨q_t8 48 rfl rfl, by decide +kernel, by decide +kernel, q_init_QuillRelayModel⟩
set_option maxRecDepth 100000 in
theorem mi_X9_group : Cond.instanceMethod yX9_group ∈ q_W := q_t8 47 rfl rfl
set_option maxRecDepth 100000 in
theorem me_X9_group : Cond.selects yX9_group.cls yX9_group yX9_group ∈ q_W := q_s 49 rfl rfl
def tb_X9_group : List q_E := [(0, .aload_n 0, 1, 0, 0), (1, .iload_n 1, 1, 0, 0), (2, .bipush 6, 2, 6, 0), (4, .invokevirtual 52, 3, 0, 0), (7, .istore_n 2, 1, 0, 0), (8, .iload_n 2, 1, 0, 0), (9, .iconst 2, 1, 2, 0), (10, .if_icmp .ne 7, 3, 0, 17), (13, .iconst 0, 1, 0, 0), (14, .goto 13, 3, 0, 27), (17, .iload_n 2, 1, 0, 0), (18, .iconst 3, 1, 3, 0), (19, .if_icmp .ne 7, 3, 0, 26), (22, .iconst 2, 1, 2, 0), (23, .goto 4, 3, 0, 27), (26, .iconst 1, 1, 1, 0), (27, .ireturn, 1, 0, 0)]
set_option maxRecDepth 100000 in
theorem tk_X9_group : q_tb cX9_group 3 tb_X9_group = true := by decide +kernel
set_option maxRecDepth 100000 in
theorem mw_X9_isAhead : q_mw yX9_isAhead cX9_isAhead 4 (Option.some Jvm.ClassFile.FieldType.boolean) 2 := ⟨q_t8 44 rfl rfl, by decide +kernel, by decide +kernel, q_init_QuillRelayModel⟩
set_option maxRecDepth 100000 in
theorem mi_X9_isAhead : Cond.instanceMethod yX9_isAhead ∈ q_W := q_t8 43 rfl rfl
set_option maxRecDepth 100000 in
theorem me_X9_isAhead : Cond.selects yX9_isAhead.cls yX9_isAhead yX9_isAhead ∈ q_W := q_s 48 rfl rfl
def tb_X9_isAhead : List q_E := [(0, .aload_n 0, 1, 0, 0), (1, .iload_n 1, 1, 0, 0), (2, .invokevirtual 154, 3, 0, 0), (5, .aload_n 0, 1, 0, 0), (6, .iload_n 2, 1, 0, 0), (7, .invokevirtual 154, 3, 0, 0), (10, .if_icmp .eq 22, 3, 0, 32), (13, .aload_n 0, 1, 0, 0), (14, .iload_n 1, 1, 0, 0), (15, .invokevirtual 154, 3, 0, 0), (18, .aload_n 0, 1, 0, 0), (19, .iload_n 2, 1, 0, 0), (20, .invokevirtual 154, 3, 0, 0), (23, .if_icmp .ge 7, 3, 0, 30), (26, .iconst 1, 1, 1, 0), (27, .goto 4, 3, 0, 31), (30, .iconst 0, 1, 0, 0), (31, .ireturn, 1, 0, 0), (32, .aload_n 0, 1, 0, 0), (33, .iload_n 1, 1, 0, 0), (34, .invokevirtual 154, 3, 0, 0), (37, .ifCond .ne 17, 3, 0, 54), (40, .aload_n 0, 1, 0, 0), (41, .iload_n 2, 1, 0, 0), (42, .invokevirtual 151, 3, 0, 0), (45, .aload_n 0, 1, 0, 0), (46, .iload_n 1, 1, 0, 0), (47, .invokevirtual 151, 3, 0, 0), (50, .isub, 1, 0, 0), (51, .goto 18, 3, 0, 69), (54, .aload_n 0, 1, 0, 0), (55, .iload_n 1, 1, 0, 0), (56, .bipush 7, 2, 7, 0), (58, .invokevirtual 52, 3, 0, 0), (61, .aload_n 0, 1, 0, 0), (62, .iload_n 2, 1, 0, 0), (63, .bipush 7, 2, 7, 0), (65, .invokevirtual 52, 3, 0, 0), (68, .isub, 1, 0, 0), (69, .istore_n 3, 1, 0, 0), (70, .iload_n 3, 1, 0, 0), (71, .ifCond .eq 15, 3, 0, 86), (74, .iload_n 3, 1, 0, 0), (75, .ifCond .le 7, 3, 0, 82), (78, .iconst 1, 1, 1, 0), (79, .goto 27, 3, 0, 106), (82, .iconst 0, 1, 0, 0), (83, .goto 23, 3, 0, 106), (86, .aload_n 0, 1, 0, 0), (87, .iload_n 1, 1, 0, 0), (88, .iconst 4, 1, 4, 0), (89, .invokevirtual 52, 3, 0, 0), (92, .aload_n 0, 1, 0, 0), (93, .iload_n 2, 1, 0, 0), (94, .iconst 4, 1, 4, 0), (95, .invokevirtual 52, 3, 0, 0), (98, .if_icmp .ge 7, 3, 0, 105), (101, .iconst 1, 1, 1, 0), (102, .goto 4, 3, 0, 106), (105, .iconst 0, 1, 0, 0), (106, .ireturn, 1, 0, 0)]
set_option maxRecDepth 100000 in
theorem tk_X9_isAhead : q_tb cX9_isAhead 4 tb_X9_isAhead = true := by decide +kernel
set_option maxRecDepth 100000 in
theorem mw_X9_rank : q_mw yX9_rank cX9_rank 4 (Option.some Jvm.ClassFile.FieldType.int) 1 := ⟨q_t8 40 rfl rfl, by decide +kernel, by decide +kernel, q_init_QuillRelayModel⟩
set_option maxRecDepth 100000 in
theorem mi_X9_rank : Cond.instanceMethod yX9_rank ∈ q_W := q_t8 39 rfl rfl
set_option maxRecDepth 100000 in
theorem me_X9_rank : Cond.selects yX9_rank.cls yX9_rank yX9_rank ∈ q_W := q_s 47 rfl rfl
def tb_X9_rank : List q_E := [(0, .iconst 0, 1, 0, 0), (1, .istore_n 2, 1, 0, 0), (2, .iconst 0, 1, 0, 0), (3, .istore_n 3, 1, 0, 0), (4, .iload_n 3, 1, 0, 0), (5, .aload_n 0, 1, 0, 0), (6, .getfield 9, 3, 0, 0), (9, .iconst 3, 1, 3, 0), (10, .iaload, 1, 0, 0), (11, .if_icmp .ge 31, 3, 0, 42), (14, .iload_n 2, 1, 0, 0), (15, .iload_n 3, 1, 0, 0), (16, .iload_n 1, 1, 0, 0), (17, .if_icmp .eq 16, 3, 0, 33), (20, .aload_n 0, 1, 0, 0), (21, .iload_n 3, 1, 0, 0), (22, .iload_n 1, 1, 0, 0), (23, .invokevirtual 157, 3, 0, 0), (26, .ifCond .eq 7, 3, 0, 33), (29, .iconst 1, 1, 1, 0), (30, .goto 4, 3, 0, 34), (33, .iconst 0, 1, 0, 0), (34, .iadd, 1, 0, 0), (35, .istore_n 2, 1, 0, 0), (36, .iinc 3 1, 3, 1, 0), (39, .goto (-35), 3, 0, 4), (42, .iload_n 2, 1, 0, 0), (43, .ireturn, 1, 0, 0)]
set_option maxRecDepth 100000 in
theorem tk_X9_rank : q_tb cX9_rank 4 tb_X9_rank = true := by decide +kernel
set_option maxRecDepth 100000 in
theorem mw_X9_teamAtRank : q_mw yX9_teamAtRank cX9_teamAtRank 3 (Option.some Jvm.ClassFile.FieldType.int) 1 := ⟨q_t8 36 rfl rfl, by decide +kernel, by decide +kernel, q_init_QuillRelayModel⟩
set_option maxRecDepth 100000 in
theorem mi_X9_teamAtRank : Cond.instanceMethod yX9_teamAtRank ∈ q_W := q_t8 34 rfl rfl
set_option maxRecDepth 100000 in
theorem me_X9_teamAtRank : Cond.selects yX9_teamAtRank.cls yX9_teamAtRank yX9_teamAtRank ∈ q_W := q_t8 35 rfl rfl
def tb_X9_teamAtRank : List q_E := [(0, .iconst 0, 1, 0, 0), (1, .istore_n 2, 1, 0, 0), (2, .iload_n 2, 1, 0, 0), (3, .aload_n 0, 1, 0, 0), (4, .getfield 9, 3, 0, 0), (7, .iconst 3, 1, 3, 0), (8, .iaload, 1, 0, 0), (9, .if_icmp .ge 25, 3, 0, 34), (12, .aload_n 0, 1, 0, 0), (13, .iload_n 2, 1, 0, 0), (14, .invokevirtual 161, 3, 0, 0), (17, .iload_n 1, 1, 0, 0), (18, .if_icmp .ne 10, 3, 0, 28), (21, .aload_n 0, 1, 0, 0), (22, .iconst 0, 1, 0, 0), (23, .putfield 38, 3, 0, 0), (26, .iload_n 2, 1, 0, 0), (27, .ireturn, 1, 0, 0), (28, .iinc 2 1, 3, 1, 0), (31, .goto (-29), 3, 0, 2), (34, .aload_n 0, 1, 0, 0), (35, .iconst 1, 1, 1, 0), (36, .putfield 38, 3, 0, 0), (39, .iconst 0, 1, 0, 0), (40, .ireturn, 1, 0, 0)]
set_option maxRecDepth 100000 in
theorem tk_X9_teamAtRank : q_tb cX9_teamAtRank 3 tb_X9_teamAtRank = true := by decide +kernel
set_option maxRecDepth 100000 in
theorem mw_X9_rankOf : q_mw yX9_rankOf cX9_rankOf 2 (Option.some Jvm.ClassFile.FieldType.int) 1 := ⟨q_t8 52 rfl rfl, by decide +kernel, by decide +kernel, q_init_QuillRelayModel⟩
set_option maxRecDepth 100000 in
theorem mi_X9_rankOf : Cond.instanceMethod yX9_rankOf ∈ q_W := q_t8 50 rfl rfl
set_option maxRecDepth 100000 in
theorem me_X9_rankOf : Cond.selects yX9_rankOf.cls yX9_rankOf yX9_rankOf ∈ q_W := q_t8 51 rfl rfl
def tb_X9_rankOf : List q_E := [(0, .aload_n 0, 1, 0, 0), (1, .aload_n 0, 1, 0, 0), (2, .iload_n 1, 1, 0, 0), (3, .invokevirtual 75, 3, 0, 0), (6, .ifCond .ne 7, 3, 0, 13), (9, .iconst 1, 1, 1, 0), (10, .goto 4, 3, 0, 14), (13, .iconst 0, 1, 0, 0), (14, .iconst 1, 1, 1, 0), (15, .invokevirtual 63, 3, 0, 0), (18, .ifCond .eq 7, 3, 0, 25), (21, .iconst 0, 1, 0, 0), (22, .goto 8, 3, 0, 30), (25, .aload_n 0, 1, 0, 0), (26, .iload_n 1, 1, 0, 0), (27, .invokevirtual 161, 3, 0, 0), (30, .ireturn, 1, 0, 0)]
set_option maxRecDepth 100000 in
theorem tk_X9_rankOf : q_tb cX9_rankOf 2 tb_X9_rankOf = true := by decide +kernel
set_option maxRecDepth 100000 in
theorem mw_X9_meanTime : q_mw yX9_meanTime cX9_meanTime 4 (Option.some Jvm.ClassFile.FieldType.double) 0 := ⟨q_t8 56 rfl rfl, by decide +kernel, by decide +kernel, q_init_QuillRelayModel⟩
set_option maxRecDepth 100000 in
theorem mi_X9_meanTime : Cond.instanceMethod yX9_meanTime ∈ q_W := q_t8 54 rfl rfl
set_option maxRecDepth 100000 in
theorem me_X9_meanTime : Cond.selects yX9_meanTime.cls yX9_meanTime yX9_meanTime ∈ q_W := q_t8 55 rfl rfl
def tb_X9_meanTime : List q_E := [(0, .aload_n 0, 1, 0, 0), (1, .iconst 2, 1, 2, 0), (2, .invokevirtual 109, 3, 0, 0), (5, .istore_n 1, 1, 0, 0), (6, .iconst 0, 1, 0, 0), (7, .istore_n 2, 1, 0, 0), (8, .iconst 0, 1, 0, 0), (9, .istore_n 3, 1, 0, 0), (10, .iload_n 3, 1, 0, 0), (11, .aload_n 0, 1, 0, 0), (12, .getfield 9, 3, 0, 0), (15, .iconst 3, 1, 3, 0), (16, .iaload, 1, 0, 0), (17, .if_icmp .ge 34, 3, 0, 51), (20, .iload_n 2, 1, 0, 0), (21, .aload_n 0, 1, 0, 0), (22, .iload_n 3, 1, 0, 0), (23, .bipush 6, 2, 6, 0), (25, .invokevirtual 52, 3, 0, 0), (28, .iconst 2, 1, 2, 0), (29, .if_icmp .ne 13, 3, 0, 42), (32, .aload_n 0, 1, 0, 0), (33, .iload_n 3, 1, 0, 0), (34, .bipush 18, 2, 18, 0), (36, .invokevirtual 52, 3, 0, 0), (39, .goto 4, 3, 0, 43), (42, .iconst 0, 1, 0, 0), (43, .iadd, 1, 0, 0), (44, .istore_n 2, 1, 0, 0), (45, .iinc 3 1, 3, 1, 0), (48, .goto (-38), 3, 0, 10), (51, .aload_n 0, 1, 0, 0), (52, .iload_n 1, 1, 0, 0), (53, .ifCond .ne 7, 3, 0, 60), (56, .iconst 1, 1, 1, 0), (57, .goto 4, 3, 0, 61), (60, .iconst 0, 1, 0, 0), (61, .iconst 1, 1, 1, 0), (62, .invokevirtual 63, 3, 0, 0), (65, .ifCond .eq 7, 3, 0, 72), (68, .dconst 0, 1, 0, 0), (69, .goto 8, 3, 0, 77), (72, .iload_n 2, 1, 0, 0), (73, .i2d, 1, 0, 0), (74, .iload_n 1, 1, 0, 0), (75, .i2d, 1, 0, 0), (76, .ddiv, 1, 0, 0), (77, .dreturn, 1, 0, 0)]
set_option maxRecDepth 100000 in
theorem tk_X9_meanTime : q_tb cX9_meanTime 4 tb_X9_meanTime = true := by decide +kernel
set_option maxRecDepth 100000 in
theorem mw_X9_reach : q_mw yX9_reach cX9_reach 6 (Option.some Jvm.ClassFile.FieldType.int) 3 := ⟨q_t8 60 rfl rfl, by decide +kernel, by decide +kernel, q_init_QuillRelayModel⟩
set_option maxRecDepth 100000 in
theorem mi_X9_reach : Cond.instanceMethod yX9_reach ∈ q_W := q_t8 58 rfl rfl
set_option maxRecDepth 100000 in
theorem me_X9_reach : Cond.selects yX9_reach.cls yX9_reach yX9_reach ∈ q_W := q_t8 59 rfl rfl
def tb_X9_reach : List q_E := [(0, .aload_n 0, 1, 0, 0), (1, .aload_n 0, 1, 0, 0), (2, .iload_n 1, 1, 0, 0), (3, .invokevirtual 75, 3, 0, 0), (6, .ifCond .eq 10, 3, 0, 16), (9, .iload_n 2, 1, 0, 0), (10, .invokestatic 79, 3, 0, 0), (13, .ifCond .ne 7, 3, 0, 20), (16, .iconst 1, 1, 1, 0), (17, .goto 4, 3, 0, 21), (20, .iconst 0, 1, 0, 0), (21, .iconst 1, 1, 1, 0), (22, .invokevirtual 63, 3, 0, 0), (25, .ifCond .ne 27, 3, 0, 52), (28, .aload_n 0, 1, 0, 0), (29, .iload_n 3, 1, 0, 0), (30, .iconst 0, 1, 0, 0), (31, .sipush 999, 3, 999, 0), (34, .invokestatic 48, 3, 0, 0), (37, .ifCond .ne 7, 3, 0, 44), (40, .iconst 1, 1, 1, 0), (41, .goto 4, 3, 0, 45), (44, .iconst 0, 1, 0, 0), (45, .iconst 2, 1, 2, 0), (46, .invokevirtual 63, 3, 0, 0), (49, .ifCond .eq 5, 3, 0, 54), (52, .iconst 0, 1, 0, 0), (53, .ireturn, 1, 0, 0), (54, .iconst 0, 1, 0, 0), (55, .istore 4, 2, 0, 0), (57, .iconst 0, 1, 0, 0), (58, .istore 5, 2, 0, 0), (60, .iload 5, 2, 0, 0), (62, .iload_n 3, 1, 0, 0), (63, .if_icmp .ge 27, 3, 0, 90), (66, .iload 4, 2, 0, 0), (68, .aload_n 0, 1, 0, 0), (69, .iload_n 1, 1, 0, 0), (70, .iconst 0, 1, 0, 0), (71, .iload_n 2, 1, 0, 0), (72, .iadd, 1, 0, 0), (73, .invokevirtual 52, 3, 0, 0), (76, .iload 5, 2, 0, 0), (78, .invokestatic 99, 3, 0, 0), (81, .iadd, 1, 0, 0), (82, .istore 4, 2, 0, 0), (84, .iinc 5 1, 3, 1, 0), (87, .goto (-27), 3, 0, 60), (90, .iload 4, 2, 0, 0), (92, .ireturn, 1, 0, 0)]
set_option maxRecDepth 100000 in
theorem tk_X9_reach : q_tb cX9_reach 6 tb_X9_reach = true := by decide +kernel
set_option maxRecDepth 100000 in
theorem mw_X9_reachByStretches : q_mw yX9_reachByStretches cX9_reachByStretches 4 (Option.some Jvm.ClassFile.FieldType.int) 3 := ⟨q_t8 64 rfl rfl, by decide +kernel, by decide +kernel, q_init_QuillRelayModel⟩
set_option maxRecDepth 100000 in
theorem mi_X9_reachByStretches : Cond.instanceMethod yX9_reachByStretches ∈ q_W := q_t8 62 rfl rfl
set_option maxRecDepth 100000 in
theorem me_X9_reachByStretches : Cond.selects yX9_reachByStretches.cls yX9_reachByStretches yX9_reachByStretches ∈ q_W := q_t8 63 rfl rfl
def tb_X9_reachByStretches : List q_E := [(0, .aload_n 0, 1, 0, 0), (1, .iload_n 1, 1, 0, 0), (2, .iload_n 2, 1, 0, 0), (3, .iload_n 3, 1, 0, 0), (4, .invokevirtual 164, 3, 0, 0), (7, .ireturn, 1, 0, 0)]
set_option maxRecDepth 100000 in
theorem tk_X9_reachByStretches : q_tb cX9_reachByStretches 4 tb_X9_reachByStretches = true := by decide +kernel
set_option maxRecDepth 100000 in
theorem mw_X9_secondsToZone : q_mw yX9_secondsToZone cX9_secondsToZone 6 (Option.some Jvm.ClassFile.FieldType.int) 1 := ⟨q_t8 69 rfl rfl, by decide +kernel, by decide +kernel, q_init_QuillRelayModel⟩
set_option maxRecDepth 100000 in
theorem mi_X9_secondsToZone : Cond.instanceMethod yX9_secondsToZone ∈ q_W := q_t8 67 rfl rfl
set_option maxRecDepth 100000 in
theorem me_X9_secondsToZone : Cond.selects yX9_secondsToZone.cls yX9_secondsToZone yX9_secondsToZone ∈ q_W := q_t8 68 rfl rfl
def tb_X9_secondsToZone : List q_E := [(0, .aload_n 0, 1, 0, 0), (1, .aload_n 0, 1, 0, 0), (2, .iload_n 1, 1, 0, 0), (3, .invokevirtual 75, 3, 0, 0), (6, .ifCond .ne 7, 3, 0, 13), (9, .iconst 1, 1, 1, 0), (10, .goto 4, 3, 0, 14), (13, .iconst 0, 1, 0, 0), (14, .iconst 1, 1, 1, 0), (15, .invokevirtual 63, 3, 0, 0), (18, .ifCond .ne 51, 3, 0, 69), (21, .aload_n 0, 1, 0, 0), (22, .aload_n 0, 1, 0, 0), (23, .iload_n 1, 1, 0, 0), (24, .bipush 6, 2, 6, 0), (26, .invokevirtual 52, 3, 0, 0), (29, .iconst 1, 1, 1, 0), (30, .if_icmp .eq 7, 3, 0, 37), (33, .iconst 1, 1, 1, 0), (34, .goto 4, 3, 0, 38), (37, .iconst 0, 1, 0, 0), (38, .iconst 2, 1, 2, 0), (39, .invokevirtual 63, 3, 0, 0), (42, .ifCond .ne 27, 3, 0, 69), (45, .aload_n 0, 1, 0, 0), (46, .aload_n 0, 1, 0, 0), (47, .iload_n 1, 1, 0, 0), (48, .bipush 8, 2, 8, 0), (50, .invokevirtual 52, 3, 0, 0), (53, .iconst 3, 1, 3, 0), (54, .if_icmp .ne 7, 3, 0, 61), (57, .iconst 1, 1, 1, 0), (58, .goto 4, 3, 0, 62), (61, .iconst 0, 1, 0, 0), (62, .iconst 3, 1, 3, 0), (63, .invokevirtual 63, 3, 0, 0), (66, .ifCond .eq 5, 3, 0, 71), (69, .iconst 0, 1, 0, 0), (70, .ireturn, 1, 0, 0), (71, .aload_n 0, 1, 0, 0), (72, .iload_n 1, 1, 0, 0), (73, .bipush 8, 2, 8, 0), (75, .invokevirtual 52, 3, 0, 0), (78, .istore_n 2, 1, 0, 0), (79, .aload_n 0, 1, 0, 0), (80, .iload_n 1, 1, 0, 0), (81, .bipush 7, 2, 7, 0), (83, .invokevirtual 52, 3, 0, 0), (86, .istore_n 3, 1, 0, 0), (87, .aload_n 0, 1, 0, 0), (88, .iload_n 1, 1, 0, 0), (89, .bipush 9, 2, 9, 0), (91, .invokevirtual 52, 3, 0, 0), (94, .istore 4, 2, 0, 0), (96, .iconst 0, 1, 0, 0), (97, .istore 5, 2, 0, 0), (99, .iload_n 3, 1, 0, 0), (100, .aload_n 0, 1, 0, 0), (101, .iload_n 2, 1, 0, 0), (102, .invokevirtual 96, 3, 0, 0), (105, .bipush 100, 2, 100, 0), (107, .isub, 1, 0, 0), (108, .if_icmp .ge 28, 3, 0, 136), (111, .iload_n 3, 1, 0, 0), (112, .aload_n 0, 1, 0, 0), (113, .iload_n 1, 1, 0, 0), (114, .iconst 0, 1, 0, 0), (115, .iload_n 2, 1, 0, 0), (116, .iadd, 1, 0, 0), (117, .invokevirtual 52, 3, 0, 0), (120, .iload 4, 2, 0, 0), (122, .invokestatic 99, 3, 0, 0), (125, .iadd, 1, 0, 0), (126, .istore_n 3, 1, 0, 0), (127, .iinc 4 1, 3, 1, 0), (130, .iinc 5 1, 3, 1, 0), (133, .goto (-34), 3, 0, 99), (136, .iload 5, 2, 0, 0), (138, .ifCond .ne 7, 3, 0, 145), (141, .iconst 0, 1, 0, 0), (142, .goto 13, 3, 0, 155), (145, .iload 5, 2, 0, 0), (147, .aload_n 0, 1, 0, 0), (148, .iload_n 1, 1, 0, 0), (149, .bipush 10, 2, 10, 0), (151, .invokevirtual 52, 3, 0, 0), (154, .iadd, 1, 0, 0), (155, .ireturn, 1, 0, 0)]
set_option maxRecDepth 100000 in
theorem tk_X9_secondsToZone : q_tb cX9_secondsToZone 6 tb_X9_secondsToZone = true := by decide +kernel
set_option maxRecDepth 100000 in
theorem mw_X9_refusalReason : q_mw yX9_refusalReason cX9_refusalReason 1 (Option.some Jvm.ClassFile.FieldType.int) 0 := ⟨q_t8 73 rfl rfl, by decide +kernel, by decide +kernel, q_init_QuillRelayModel⟩
set_option maxRecDepth 100000 in
theorem mi_X9_refusalReason : Cond.instanceMethod yX9_refusalReason ∈ q_W := q_t8 71 rfl rfl
set_option maxRecDepth 100000 in
theorem me_X9_refusalReason : Cond.selects yX9_refusalReason.cls yX9_refusalReason yX9_refusalReason ∈ q_W := q_t8 72 rfl rfl
def tb_X9_refusalReason : List q_E := [(0, .aload_n 0, 1, 0, 0), (1, .aload_n 0, 1, 0, 0), (2, .getfield 121, 3, 0, 0), (5, .ifCond .ne 7, 3, 0, 12), (8, .iconst 1, 1, 1, 0), (9, .goto 4, 3, 0, 13), (12, .iconst 0, 1, 0, 0), (13, .iconst 1, 1, 1, 0), (14, .invokevirtual 63, 3, 0, 0), (17, .ifCond .eq 7, 3, 0, 24), (20, .iconst 0, 1, 0, 0), (21, .goto 7, 3, 0, 28), (24, .aload_n 0, 1, 0, 0), (25, .getfield 121, 3, 0, 0), (28, .ireturn, 1, 0, 0)]
set_option maxRecDepth 100000 in
theorem tk_X9_refusalReason : q_tb cX9_refusalReason 1 tb_X9_refusalReason = true := by decide +kernel
set_option maxRecDepth 100000 in
theorem mw_X9_refusedTeam : q_mw yX9_refusedTeam cX9_refusedTeam 1 (Option.some Jvm.ClassFile.FieldType.int) 0 := ⟨q_t8 77 rfl rfl, by decide +kernel, by decide +kernel, q_init_QuillRelayModel⟩
set_option maxRecDepth 100000 in
theorem mi_X9_refusedTeam : Cond.instanceMethod yX9_refusedTeam ∈ q_W := q_t8 75 rfl rfl
set_option maxRecDepth 100000 in
theorem me_X9_refusedTeam : Cond.selects yX9_refusedTeam.cls yX9_refusedTeam yX9_refusedTeam ∈ q_W := q_t8 76 rfl rfl
def tb_X9_refusedTeam : List q_E := [(0, .aload_n 0, 1, 0, 0), (1, .aload_n 0, 1, 0, 0), (2, .getfield 121, 3, 0, 0), (5, .ifCond .ne 7, 3, 0, 12), (8, .iconst 1, 1, 1, 0), (9, .goto 4, 3, 0, 13), (12, .iconst 0, 1, 0, 0), (13, .iconst 1, 1, 1, 0), (14, .invokevirtual 63, 3, 0, 0), (17, .ifCond .eq 7, 3, 0, 24), (20, .iconst 0, 1, 0, 0), (21, .goto 7, 3, 0, 28), (24, .aload_n 0, 1, 0, 0), (25, .getfield 124, 3, 0, 0), (28, .ireturn, 1, 0, 0)]
set_option maxRecDepth 100000 in
theorem tk_X9_refusedTeam : q_tb cX9_refusedTeam 1 tb_X9_refusedTeam = true := by decide +kernel
set_option maxRecDepth 100000 in
theorem mw_X9_puts : q_mw yX9_puts cX9_puts 2 (Option.none : Option Jvm.ClassFile.FieldType) 1 := ⟨q_t8 85 rfl rfl, by decide +kernel, by decide +kernel, q_init_QuillRelayModel⟩
set_option maxRecDepth 100000 in
theorem mi_X9_puts : Cond.instanceMethod yX9_puts ∈ q_W := q_t8 84 rfl rfl
set_option maxRecDepth 100000 in
theorem me_X9_puts : Cond.selects yX9_puts.cls yX9_puts yX9_puts ∈ q_W := q_s 50 rfl rfl
def tb_X9_puts : List q_E := [(0, .aload_n 0, 1, 0, 0), (1, .getfield 29, 3, 0, 0), (4, .aload_n 0, 1, 0, 0), (5, .getfield 167, 3, 0, 0), (8, .iload_n 1, 1, 0, 0), (9, .iastore, 1, 0, 0), (10, .aload_n 0, 1, 0, 0), (11, .dup, 1, 0, 0), (12, .getfield 167, 3, 0, 0), (15, .iconst 1, 1, 1, 0), (16, .iadd, 1, 0, 0), (17, .putfield 167, 3, 0, 0), (20, .return_, 1, 0, 0)]
set_option maxRecDepth 100000 in
theorem tk_X9_puts : q_tb cX9_puts 2 tb_X9_puts = true := by decide +kernel
set_option maxRecDepth 100000 in
theorem mw_X9_number : q_mw yX9_number cX9_number 2 (Option.none : Option Jvm.ClassFile.FieldType) 1 := ⟨q_t8 89 rfl rfl, by decide +kernel, by decide +kernel, q_init_QuillRelayModel⟩
set_option maxRecDepth 100000 in
theorem mi_X9_number : Cond.instanceMethod yX9_number ∈ q_W := q_t8 88 rfl rfl
set_option maxRecDepth 100000 in
theorem me_X9_number : Cond.selects yX9_number.cls yX9_number yX9_number ∈ q_W := q_s 51 rfl rfl
def tb_X9_number : List q_E := [(0, .iload_n 1, 1, 0, 0), (1, .bipush 10, 2, 10, 0), (3, .if_icmp .lt 11, 3, 0, 14), (6, .aload_n 0, 1, 0, 0), (7, .iload_n 1, 1, 0, 0), (8, .bipush 10, 2, 10, 0), (10, .idiv, 1, 0, 0), (11, .invokevirtual 170, 3, 0, 0), (14, .aload_n 0, 1, 0, 0), (15, .bipush 48, 2, 48, 0), (17, .iload_n 1, 1, 0, 0), (18, .bipush 10, 2, 10, 0), (20, .irem, 1, 0, 0), (21, .iadd, 1, 0, 0), (22, .invokevirtual 173, 3, 0, 0), (25, .return_, 1, 0, 0)]
set_option maxRecDepth 100000 in
theorem tk_X9_number : q_tb cX9_number 2 tb_X9_number = true := by decide +kernel
set_option maxRecDepth 100000 in
theorem mw_X9_writeBanner : q_mw yX9_writeBanner cX9_writeBanner 3 (Option.some Jvm.ClassFile.FieldType.int) 1 := ⟨q_t8 81 rfl rfl, by decide +kernel, by decide +kernel, q_init_QuillRelayModel⟩
set_option maxRecDepth 100000 in
theorem mi_X9_writeBanner : Cond.instanceMethod yX9_writeBanner ∈ q_W := q_t8 79 rfl rfl
set_option maxRecDepth 100000 in
theorem me_X9_writeBanner : Cond.selects yX9_writeBanner.cls yX9_writeBanner yX9_writeBanner ∈ q_W := q_t8 80 rfl rfl
def tb_X9_writeBanner : List q_E := [(0, .aload_n 0, 1, 0, 0), (1, .aload_n 0, 1, 0, 0), (2, .iload_n 1, 1, 0, 0), (3, .invokevirtual 75, 3, 0, 0), (6, .ifCond .ne 7, 3, 0, 13), (9, .iconst 1, 1, 1, 0), (10, .goto 4, 3, 0, 14), (13, .iconst 0, 1, 0, 0), (14, .iconst 1, 1, 1, 0), (15, .invokevirtual 63, 3, 0, 0), (18, .ifCond .eq 5, 3, 0, 23), (21, .iconst 0, 1, 0, 0), (22, .ireturn, 1, 0, 0), (23, .aload_n 0, 1, 0, 0), (24, .iload_n 1, 1, 0, 0), (25, .bipush 6, 2, 6, 0), (27, .invokevirtual 52, 3, 0, 0), (30, .istore_n 2, 1, 0, 0), (31, .aload_n 0, 1, 0, 0), (32, .iconst 0, 1, 0, 0), (33, .putfield 167, 3, 0, 0), (36, .aload_n 0, 1, 0, 0), (37, .bipush 76, 2, 76, 0), (39, .invokevirtual 173, 3, 0, 0), (42, .aload_n 0, 1, 0, 0), (43, .aload_n 0, 1, 0, 0), (44, .iload_n 1, 1, 0, 0), (45, .iconst 4, 1, 4, 0), (46, .invokevirtual 52, 3, 0, 0), (49, .invokevirtual 170, 3, 0, 0), (52, .aload_n 0, 1, 0, 0), (53, .bipush 32, 2, 32, 0), (55, .invokevirtual 173, 3, 0, 0), (58, .aload_n 0, 1, 0, 0), (59, .ldc 176, 2, 0, 0), (61, .iload_n 2, 1, 0, 0), (62, .invokevirtual 178, 3, 0, 0), (65, .invokevirtual 173, 3, 0, 0), (68, .iload_n 2, 1, 0, 0), (69, .iconst 1, 1, 1, 0), (70, .if_icmp .ne 17, 3, 0, 87), (73, .aload_n 0, 1, 0, 0), (74, .aload_n 0, 1, 0, 0), (75, .iload_n 1, 1, 0, 0), (76, .bipush 8, 2, 8, 0), (78, .invokevirtual 52, 3, 0, 0), (81, .invokevirtual 170, 3, 0, 0), (84, .goto 17, 3, 0, 101), (87, .iload_n 2, 1, 0, 0), (88, .iconst 2, 1, 2, 0), (89, .if_icmp .ne 12, 3, 0, 101), (92, .aload_n 0, 1, 0, 0), (93, .aload_n 0, 1, 0, 0), (94, .iload_n 1, 1, 0, 0), (95, .invokevirtual 151, 3, 0, 0), (98, .invokevirtual 170, 3, 0, 0), (101, .aload_n 0, 1, 0, 0), (102, .bipush 32, 2, 32, 0), (104, .invokevirtual 173, 3, 0, 0), (107, .aload_n 0, 1, 0, 0), (108, .aload_n 0, 1, 0, 0), (109, .iload_n 1, 1, 0, 0), (110, .bipush 7, 2, 7, 0), (112, .invokevirtual 52, 3, 0, 0), (115, .invokevirtual 170, 3, 0, 0), (118, .aload_n 0, 1, 0, 0), (119, .iload_n 1, 1, 0, 0), (120, .iconst 5, 1, 5, 0), (121, .invokevirtual 52, 3, 0, 0), (124, .ifCond .le 19, 3, 0, 143), (127, .aload_n 0, 1, 0, 0), (128, .bipush 43, 2, 43, 0), (130, .invokevirtual 173, 3, 0, 0), (133, .aload_n 0, 1, 0, 0), (134, .aload_n 0, 1, 0, 0), (135, .iload_n 1, 1, 0, 0), (136, .iconst 5, 1, 5, 0), (137, .invokevirtual 52, 3, 0, 0), (140, .invokevirtual 170, 3, 0, 0), (143, .aload_n 0, 1, 0, 0), (144, .getfield 167, 3, 0, 0), (147, .ireturn, 1, 0, 0)]
set_option maxRecDepth 100000 in
theorem tk_X9_writeBanner : q_tb cX9_writeBanner 3 tb_X9_writeBanner = true := by decide +kernel
set_option maxRecDepth 100000 in
theorem mw_X9_bannerAt : q_mw yX9_bannerAt cX9_bannerAt 2 (Option.some Jvm.ClassFile.FieldType.char) 1 := ⟨q_t8 95 rfl rfl, by decide +kernel, by decide +kernel, q_init_QuillRelayModel⟩
set_option maxRecDepth 100000 in
theorem mi_X9_bannerAt : Cond.instanceMethod yX9_bannerAt ∈ q_W := q_t8 93 rfl rfl
set_option maxRecDepth 100000 in
theorem me_X9_bannerAt : Cond.selects yX9_bannerAt.cls yX9_bannerAt yX9_bannerAt ∈ q_W := q_t8 94 rfl rfl
def tb_X9_bannerAt : List q_E := [(0, .aload_n 0, 1, 0, 0), (1, .iload_n 1, 1, 0, 0), (2, .iconst 0, 1, 0, 0), (3, .aload_n 0, 1, 0, 0), (4, .getfield 167, 3, 0, 0), (7, .iconst 1, 1, 1, 0), (8, .isub, 1, 0, 0), (9, .invokestatic 48, 3, 0, 0), (12, .ifCond .ne 7, 3, 0, 19), (15, .iconst 1, 1, 1, 0), (16, .goto 4, 3, 0, 20), (19, .iconst 0, 1, 0, 0), (20, .iconst 1, 1, 1, 0), (21, .invokevirtual 63, 3, 0, 0), (24, .ifCond .eq 7, 3, 0, 31), (27, .iconst 0, 1, 0, 0), (28, .goto 10, 3, 0, 38), (31, .aload_n 0, 1, 0, 0), (32, .getfield 29, 3, 0, 0), (35, .iload_n 1, 1, 0, 0), (36, .iaload, 1, 0, 0), (37, .i2c, 1, 0, 0), (38, .ireturn, 1, 0, 0)]
set_option maxRecDepth 100000 in
theorem tk_X9_bannerAt : q_tb cX9_bannerAt 2 tb_X9_bannerAt = true := by decide +kernel
set_option maxRecDepth 100000 in
theorem mw_X9_type : q_mw yX9_type cX9_type 2 (Option.some Jvm.ClassFile.FieldType.int) 1 := ⟨q_t8 99 rfl rfl, by decide +kernel, by decide +kernel, q_init_QuillRelayModel⟩
set_option maxRecDepth 100000 in
theorem mi_X9_type : Cond.instanceMethod yX9_type ∈ q_W := q_t8 97 rfl rfl
set_option maxRecDepth 100000 in
theorem me_X9_type : Cond.selects yX9_type.cls yX9_type yX9_type ∈ q_W := q_t8 98 rfl rfl
def tb_X9_type : List q_E := [(0, .aload_n 0, 1, 0, 0), (1, .iload_n 1, 1, 0, 0), (2, .bipush 32, 2, 32, 0), (4, .bipush 126, 2, 126, 0), (6, .invokestatic 48, 3, 0, 0), (9, .ifCond .ne 7, 3, 0, 16), (12, .iconst 1, 1, 1, 0), (13, .goto 4, 3, 0, 17), (16, .iconst 0, 1, 0, 0), (17, .iconst 1, 1, 1, 0), (18, .invokevirtual 63, 3, 0, 0), (21, .ifCond .ne 25, 3, 0, 46), (24, .aload_n 0, 1, 0, 0), (25, .aload_n 0, 1, 0, 0), (26, .getfield 184, 3, 0, 0), (29, .bipush 60, 2, 60, 0), (31, .if_icmp .ne 7, 3, 0, 38), (34, .iconst 1, 1, 1, 0), (35, .goto 4, 3, 0, 39), (38, .iconst 0, 1, 0, 0), (39, .iconst 2, 1, 2, 0), (40, .invokevirtual 63, 3, 0, 0), (43, .ifCond .eq 5, 3, 0, 48), (46, .iconst 0, 1, 0, 0), (47, .ireturn, 1, 0, 0), (48, .aload_n 0, 1, 0, 0), (49, .getfield 32, 3, 0, 0), (52, .aload_n 0, 1, 0, 0), (53, .getfield 184, 3, 0, 0), (56, .iload_n 1, 1, 0, 0), (57, .iastore, 1, 0, 0), (58, .aload_n 0, 1, 0, 0), (59, .dup, 1, 0, 0), (60, .getfield 184, 3, 0, 0), (63, .iconst 1, 1, 1, 0), (64, .iadd, 1, 0, 0), (65, .putfield 184, 3, 0, 0), (68, .aload_n 0, 1, 0, 0), (69, .getfield 184, 3, 0, 0), (72, .ireturn, 1, 0, 0)]
set_option maxRecDepth 100000 in
theorem tk_X9_type : q_tb cX9_type 2 tb_X9_type = true := by decide +kernel
set_option maxRecDepth 100000 in
theorem mw_X9_sign : q_mw yX9_sign cX9_sign 1 (Option.some Jvm.ClassFile.FieldType.int) 0 := ⟨q_t8 115 rfl rfl, by decide +kernel, by decide +kernel, q_init_QuillRelayModel⟩
set_option maxRecDepth 100000 in
theorem mi_X9_sign : Cond.instanceMethod yX9_sign ∈ q_W := q_t8 114 rfl rfl
set_option maxRecDepth 100000 in
theorem me_X9_sign : Cond.selects yX9_sign.cls yX9_sign yX9_sign ∈ q_W := q_s 54 rfl rfl
def tb_X9_sign : List q_E := [(0, .aload_n 0, 1, 0, 0), (1, .getfield 187, 3, 0, 0), (4, .aload_n 0, 1, 0, 0), (5, .getfield 184, 3, 0, 0), (8, .if_icmp .ge 15, 3, 0, 23), (11, .aload_n 0, 1, 0, 0), (12, .getfield 32, 3, 0, 0), (15, .aload_n 0, 1, 0, 0), (16, .getfield 187, 3, 0, 0), (19, .iaload, 1, 0, 0), (20, .goto 4, 3, 0, 24), (23, .iconst (-1), 1, (-1), 0), (24, .ireturn, 1, 0, 0)]
set_option maxRecDepth 100000 in
theorem tk_X9_sign : q_tb cX9_sign 1 tb_X9_sign = true := by decide +kernel
set_option maxRecDepth 100000 in
theorem mw_X9_isSign : q_mw yX9_isSign cX9_isSign 3 (Option.some Jvm.ClassFile.FieldType.boolean) 1 := ⟨q_t8 130 rfl rfl, by decide +kernel, by decide +kernel, q_init_QuillRelayModel⟩
set_option maxRecDepth 100000 in
theorem mi_X9_isSign : Cond.instanceMethod yX9_isSign ∈ q_W := q_t8 129 rfl rfl
set_option maxRecDepth 100000 in
theorem me_X9_isSign : Cond.selects yX9_isSign.cls yX9_isSign yX9_isSign ∈ q_W := q_s 57 rfl rfl
def tb_X9_isSign : List q_E := [(0, .aload_n 0, 1, 0, 0), (1, .invokevirtual 190, 3, 0, 0), (4, .iload_n 1, 1, 0, 0), (5, .if_icmp .ne 7, 3, 0, 12), (8, .iconst 1, 1, 1, 0), (9, .goto 4, 3, 0, 13), (12, .iconst 0, 1, 0, 0), (13, .istore_n 2, 1, 0, 0), (14, .aload_n 0, 1, 0, 0), (15, .dup, 1, 0, 0), (16, .getfield 187, 3, 0, 0), (19, .iload_n 2, 1, 0, 0), (20, .ifCond .eq 7, 3, 0, 27), (23, .iconst 1, 1, 1, 0), (24, .goto 4, 3, 0, 28), (27, .iconst 0, 1, 0, 0), (28, .iadd, 1, 0, 0), (29, .putfield 187, 3, 0, 0), (32, .iload_n 2, 1, 0, 0), (33, .ireturn, 1, 0, 0)]
set_option maxRecDepth 100000 in
theorem tk_X9_isSign : q_tb cX9_isSign 3 tb_X9_isSign = true := by decide +kernel
set_option maxRecDepth 100000 in
theorem mw_X9_isNumber : q_mw yX9_isNumber cX9_isNumber 5 (Option.some Jvm.ClassFile.FieldType.boolean) 2 := ⟨q_t8 145 rfl rfl, by decide +kernel, by decide +kernel, q_init_QuillRelayModel⟩
set_option maxRecDepth 100000 in
theorem mi_X9_isNumber : Cond.instanceMethod yX9_isNumber ∈ q_W := q_t8 144 rfl rfl
set_option maxRecDepth 100000 in
theorem me_X9_isNumber : Cond.selects yX9_isNumber.cls yX9_isNumber yX9_isNumber ∈ q_W := q_s 60 rfl rfl
def tb_X9_isNumber : List q_E := [(0, .iconst 0, 1, 0, 0), (1, .istore_n 3, 1, 0, 0), (2, .iconst 0, 1, 0, 0), (3, .istore 4, 2, 0, 0), (5, .iload 4, 2, 0, 0), (7, .iload_n 1, 1, 0, 0), (8, .if_icmp .ge 46, 3, 0, 54), (11, .aload_n 0, 1, 0, 0), (12, .invokevirtual 190, 3, 0, 0), (15, .bipush 48, 2, 48, 0), (17, .bipush 57, 2, 57, 0), (19, .invokestatic 48, 3, 0, 0), (22, .ifCond .eq 32, 3, 0, 54), (25, .bipush 10, 2, 10, 0), (27, .iload_n 3, 1, 0, 0), (28, .imul, 1, 0, 0), (29, .aload_n 0, 1, 0, 0), (30, .invokevirtual 190, 3, 0, 0), (33, .iadd, 1, 0, 0), (34, .bipush 48, 2, 48, 0), (36, .isub, 1, 0, 0), (37, .istore_n 3, 1, 0, 0), (38, .aload_n 0, 1, 0, 0), (39, .dup, 1, 0, 0), (40, .getfield 187, 3, 0, 0), (43, .iconst 1, 1, 1, 0), (44, .iadd, 1, 0, 0), (45, .putfield 187, 3, 0, 0), (48, .iinc 4 1, 3, 1, 0), (51, .goto (-46), 3, 0, 5), (54, .aload_n 0, 1, 0, 0), (55, .getfield 35, 3, 0, 0), (58, .iload_n 2, 1, 0, 0), (59, .iload_n 3, 1, 0, 0), (60, .iastore, 1, 0, 0), (61, .iload 4, 2, 0, 0), (63, .ifCond .le 7, 3, 0, 70), (66, .iconst 1, 1, 1, 0), (67, .goto 4, 3, 0, 71), (70, .iconst 0, 1, 0, 0), (71, .ireturn, 1, 0, 0)]
set_option maxRecDepth 100000 in
theorem tk_X9_isNumber : q_tb cX9_isNumber 5 tb_X9_isNumber = true := by decide +kernel
set_option maxRecDepth 100000 in
theorem mw_X9_isSpaced : q_mw yX9_isSpaced cX9_isSpaced 3 (Option.some Jvm.ClassFile.FieldType.boolean) 2 := ⟨q_t8 141 rfl rfl, by decide +kernel, by decide +kernel, q_init_QuillRelayModel⟩
set_option maxRecDepth 100000 in
theorem mi_X9_isSpaced : Cond.instanceMethod yX9_isSpaced ∈ q_W := q_t8 140 rfl rfl
set_option maxRecDepth 100000 in
theorem me_X9_isSpaced : Cond.selects yX9_isSpaced.cls yX9_isSpaced yX9_isSpaced ∈ q_W := q_s 59 rfl rfl
def tb_X9_isSpaced : List q_E := [(0, .aload_n 0, 1, 0, 0), (1, .bipush 32, 2, 32, 0), (3, .invokevirtual 193, 3, 0, 0), (6, .ifCond .eq 16, 3, 0, 22), (9, .aload_n 0, 1, 0, 0), (10, .iload_n 1, 1, 0, 0), (11, .iload_n 2, 1, 0, 0), (12, .invokevirtual 196, 3, 0, 0), (15, .ifCond .eq 7, 3, 0, 22), (18, .iconst 1, 1, 1, 0), (19, .goto 4, 3, 0, 23), (22, .iconst 0, 1, 0, 0), (23, .ireturn, 1, 0, 0)]
set_option maxRecDepth 100000 in
theorem tk_X9_isSpaced : q_tb cX9_isSpaced 3 tb_X9_isSpaced = true := by decide +kernel
set_option maxRecDepth 100000 in
theorem mw_X9_isWord : q_mw yX9_isWord cX9_isWord 3 (Option.some Jvm.ClassFile.FieldType.boolean) 1 := ⟨q_t8 135 rfl rfl, by decide +kernel, by decide +kernel, q_init_QuillRelayModel⟩
set_option maxRecDepth 100000 in
theorem mi_X9_isWord : Cond.instanceMethod yX9_isWord ∈ q_W := q_t8 134 rfl rfl
set_option maxRecDepth 100000 in
theorem me_X9_isWord : Cond.selects yX9_isWord.cls yX9_isWord yX9_isWord ∈ q_W := q_s 58 rfl rfl
def tb_X9_isWord : List q_E := [(0, .iconst 0, 1, 0, 0), (1, .istore_n 2, 1, 0, 0), (2, .iload_n 2, 1, 0, 0), (3, .aload_n 1, 1, 0, 0), (4, .invokevirtual 199, 3, 0, 0), (7, .if_icmp .ge 23, 3, 0, 30), (10, .aload_n 0, 1, 0, 0), (11, .aload_n 1, 1, 0, 0), (12, .iload_n 2, 1, 0, 0), (13, .invokevirtual 178, 3, 0, 0), (16, .invokevirtual 193, 3, 0, 0), (19, .ifCond .ne 5, 3, 0, 24), (22, .iconst 0, 1, 0, 0), (23, .ireturn, 1, 0, 0), (24, .iinc 2 1, 3, 1, 0), (27, .goto (-25), 3, 0, 2), (30, .iconst 1, 1, 1, 0), (31, .ireturn, 1, 0, 0)]
set_option maxRecDepth 100000 in
theorem tk_X9_isWord : q_tb cX9_isWord 3 tb_X9_isWord = true := by decide +kernel
set_option maxRecDepth 100000 in
theorem mw_X9_isKind : q_mw yX9_isKind cX9_isKind 2 (Option.some Jvm.ClassFile.FieldType.boolean) 1 := ⟨q_t8 155 rfl rfl, by decide +kernel, by decide +kernel, q_init_QuillRelayModel⟩
set_option maxRecDepth 100000 in
theorem mi_X9_isKind : Cond.instanceMethod yX9_isKind ∈ q_W := q_t8 154 rfl rfl
set_option maxRecDepth 100000 in
theorem me_X9_isKind : Cond.selects yX9_isKind.cls yX9_isKind yX9_isKind ∈ q_W := q_s 62 rfl rfl
def tb_X9_isKind : List q_E := [(0, .aload_n 0, 1, 0, 0), (1, .getfield 35, 3, 0, 0), (4, .iload_n 1, 1, 0, 0), (5, .aload_n 0, 1, 0, 0), (6, .invokevirtual 190, 3, 0, 0), (9, .bipush 100, 2, 100, 0), (11, .if_icmp .ne 7, 3, 0, 18), (14, .iconst 1, 1, 1, 0), (15, .goto 4, 3, 0, 19), (18, .iconst 0, 1, 0, 0), (19, .iastore, 1, 0, 0), (20, .aload_n 0, 1, 0, 0), (21, .bipush 108, 2, 108, 0), (23, .invokevirtual 193, 3, 0, 0), (26, .ifCond .ne 12, 3, 0, 38), (29, .aload_n 0, 1, 0, 0), (30, .bipush 100, 2, 100, 0), (32, .invokevirtual 193, 3, 0, 0), (35, .ifCond .eq 7, 3, 0, 42), (38, .iconst 1, 1, 1, 0), (39, .goto 4, 3, 0, 43), (42, .iconst 0, 1, 0, 0), (43, .ireturn, 1, 0, 0)]
set_option maxRecDepth 100000 in
theorem tk_X9_isKind : q_tb cX9_isKind 2 tb_X9_isKind = true := by decide +kernel
set_option maxRecDepth 100000 in
theorem mw_X9_readsS : q_mw yX9_readsS cX9_readsS 2 (Option.some Jvm.ClassFile.FieldType.boolean) 1 := ⟨q_t8 126 rfl rfl, by decide +kernel, by decide +kernel, q_init_QuillRelayModel⟩
set_option maxRecDepth 100000 in
theorem mi_X9_readsS : Cond.instanceMethod yX9_readsS ∈ q_W := q_t8 125 rfl rfl
set_option maxRecDepth 100000 in
theorem me_X9_readsS : Cond.selects yX9_readsS.cls yX9_readsS yX9_readsS ∈ q_W := q_s 56 rfl rfl
def tb_X9_readsS : List q_E := [(0, .aload_n 0, 1, 0, 0), (1, .bipush 116, 2, 116, 0), (3, .invokevirtual 193, 3, 0, 0), (6, .ifCond .eq 10, 3, 0, 16), (9, .aload_n 0, 1, 0, 0), (10, .ldc 202, 2, 0, 0), (12, .invokevirtual 204, 3, 0, 0), (15, .ireturn, 1, 0, 0), (16, .aload_n 0, 1, 0, 0), (17, .getfield 35, 3, 0, 0), (20, .iload_n 1, 1, 0, 0), (21, .bipush 118, 2, 118, 0), (23, .iastore, 1, 0, 0), (24, .aload_n 0, 1, 0, 0), (25, .ldc 208, 2, 0, 0), (27, .invokevirtual 204, 3, 0, 0), (30, .ifCond .eq 40, 3, 0, 70), (33, .aload_n 0, 1, 0, 0), (34, .iconst 1, 1, 1, 0), (35, .iload_n 1, 1, 0, 0), (36, .iconst 1, 1, 1, 0), (37, .iadd, 1, 0, 0), (38, .invokevirtual 210, 3, 0, 0), (41, .ifCond .eq 29, 3, 0, 70), (44, .aload_n 0, 1, 0, 0), (45, .iconst 1, 1, 1, 0), (46, .iload_n 1, 1, 0, 0), (47, .iconst 2, 1, 2, 0), (48, .iadd, 1, 0, 0), (49, .invokevirtual 210, 3, 0, 0), (52, .ifCond .eq 18, 3, 0, 70), (55, .aload_n 0, 1, 0, 0), (56, .iconst 3, 1, 3, 0), (57, .iload_n 1, 1, 0, 0), (58, .iconst 3, 1, 3, 0), (59, .iadd, 1, 0, 0), (60, .invokevirtual 210, 3, 0, 0), (63, .ifCond .eq 7, 3, 0, 70), (66, .iconst 1, 1, 1, 0), (67, .goto 4, 3, 0, 71), (70, .iconst 0, 1, 0, 0), (71, .ireturn, 1, 0, 0)]
set_option maxRecDepth 100000 in
theorem tk_X9_readsS : q_tb cX9_readsS 2 tb_X9_readsS = true := by decide +kernel
set_option maxRecDepth 100000 in
theorem mw_X9_readsP : q_mw yX9_readsP cX9_readsP 2 (Option.some Jvm.ClassFile.FieldType.boolean) 1 := ⟨q_t8 149 rfl rfl, by decide +kernel, by decide +kernel, q_init_QuillRelayModel⟩
set_option maxRecDepth 100000 in
theorem mi_X9_readsP : Cond.instanceMethod yX9_readsP ∈ q_W := q_t8 148 rfl rfl
set_option maxRecDepth 100000 in
theorem me_X9_readsP : Cond.selects yX9_readsP.cls yX9_readsP yX9_readsP ∈ q_W := q_s 61 rfl rfl
def tb_X9_readsP : List q_E := [(0, .aload_n 0, 1, 0, 0), (1, .bipush 97, 2, 97, 0), (3, .invokevirtual 193, 3, 0, 0), (6, .ifCond .eq 29, 3, 0, 35), (9, .aload_n 0, 1, 0, 0), (10, .ldc 213, 2, 0, 0), (12, .invokevirtual 204, 3, 0, 0), (15, .ifCond .eq 18, 3, 0, 33), (18, .aload_n 0, 1, 0, 0), (19, .iconst 1, 1, 1, 0), (20, .iload_n 1, 1, 0, 0), (21, .iconst 1, 1, 1, 0), (22, .iadd, 1, 0, 0), (23, .invokevirtual 210, 3, 0, 0), (26, .ifCond .eq 7, 3, 0, 33), (29, .iconst 1, 1, 1, 0), (30, .goto 4, 3, 0, 34), (33, .iconst 0, 1, 0, 0), (34, .ireturn, 1, 0, 0), (35, .aload_n 0, 1, 0, 0), (36, .getfield 35, 3, 0, 0), (39, .iload_n 1, 1, 0, 0), (40, .bipush 111, 2, 111, 0), (42, .iastore, 1, 0, 0), (43, .aload_n 0, 1, 0, 0), (44, .ldc 215, 2, 0, 0), (46, .invokevirtual 204, 3, 0, 0), (49, .ifCond .eq 39, 3, 0, 88), (52, .aload_n 0, 1, 0, 0), (53, .iconst 1, 1, 1, 0), (54, .iload_n 1, 1, 0, 0), (55, .iconst 1, 1, 1, 0), (56, .iadd, 1, 0, 0), (57, .invokevirtual 210, 3, 0, 0), (60, .ifCond .eq 28, 3, 0, 88), (63, .aload_n 0, 1, 0, 0), (64, .iconst 1, 1, 1, 0), (65, .iload_n 1, 1, 0, 0), (66, .iconst 2, 1, 2, 0), (67, .iadd, 1, 0, 0), (68, .invokevirtual 196, 3, 0, 0), (71, .ifCond .eq 17, 3, 0, 88), (74, .aload_n 0, 1, 0, 0), (75, .iload_n 1, 1, 0, 0), (76, .iconst 3, 1, 3, 0), (77, .iadd, 1, 0, 0), (78, .invokevirtual 217, 3, 0, 0), (81, .ifCond .eq 7, 3, 0, 88), (84, .iconst 1, 1, 1, 0), (85, .goto 4, 3, 0, 89), (88, .iconst 0, 1, 0, 0), (89, .ireturn, 1, 0, 0)]
set_option maxRecDepth 100000 in
theorem tk_X9_readsP : q_tb cX9_readsP 2 tb_X9_readsP = true := by decide +kernel
set_option maxRecDepth 100000 in
theorem mw_X9_readsD : q_mw yX9_readsD cX9_readsD 2 (Option.some Jvm.ClassFile.FieldType.boolean) 1 := ⟨q_t8 159 rfl rfl, by decide +kernel, by decide +kernel, q_init_QuillRelayModel⟩
set_option maxRecDepth 100000 in
theorem mi_X9_readsD : Cond.instanceMethod yX9_readsD ∈ q_W := q_t8 158 rfl rfl
set_option maxRecDepth 100000 in
theorem me_X9_readsD : Cond.selects yX9_readsD.cls yX9_readsD yX9_readsD ∈ q_W := q_s 63 rfl rfl
def tb_X9_readsD : List q_E := [(0, .aload_n 0, 1, 0, 0), (1, .bipush 114, 2, 114, 0), (3, .invokevirtual 193, 3, 0, 0), (6, .ifCond .ne 5, 3, 0, 11), (9, .iconst 0, 1, 0, 0), (10, .ireturn, 1, 0, 0), (11, .aload_n 0, 1, 0, 0), (12, .bipush 111, 2, 111, 0), (14, .invokevirtual 193, 3, 0, 0), (17, .ifCond .eq 40, 3, 0, 57), (20, .aload_n 0, 1, 0, 0), (21, .ldc 220, 2, 0, 0), (23, .invokevirtual 204, 3, 0, 0), (26, .ifCond .eq 29, 3, 0, 55), (29, .aload_n 0, 1, 0, 0), (30, .iconst 1, 1, 1, 0), (31, .iload_n 1, 1, 0, 0), (32, .iconst 1, 1, 1, 0), (33, .iadd, 1, 0, 0), (34, .invokevirtual 210, 3, 0, 0), (37, .ifCond .eq 18, 3, 0, 55), (40, .aload_n 0, 1, 0, 0), (41, .iconst 3, 1, 3, 0), (42, .iload_n 1, 1, 0, 0), (43, .iconst 2, 1, 2, 0), (44, .iadd, 1, 0, 0), (45, .invokevirtual 210, 3, 0, 0), (48, .ifCond .eq 7, 3, 0, 55), (51, .iconst 1, 1, 1, 0), (52, .goto 4, 3, 0, 56), (55, .iconst 0, 1, 0, 0), (56, .ireturn, 1, 0, 0), (57, .aload_n 0, 1, 0, 0), (58, .getfield 35, 3, 0, 0), (61, .iload_n 1, 1, 0, 0), (62, .bipush 119, 2, 119, 0), (64, .iastore, 1, 0, 0), (65, .aload_n 0, 1, 0, 0), (66, .ldc 222, 2, 0, 0), (68, .invokevirtual 204, 3, 0, 0), (71, .ifCond .eq 18, 3, 0, 89), (74, .aload_n 0, 1, 0, 0), (75, .iconst 3, 1, 3, 0), (76, .iload_n 1, 1, 0, 0), (77, .iconst 1, 1, 1, 0), (78, .iadd, 1, 0, 0), (79, .invokevirtual 210, 3, 0, 0), (82, .ifCond .eq 7, 3, 0, 89), (85, .iconst 1, 1, 1, 0), (86, .goto 4, 3, 0, 90), (89, .iconst 0, 1, 0, 0), (90, .ireturn, 1, 0, 0)]
set_option maxRecDepth 100000 in
theorem tk_X9_readsD : q_tb cX9_readsD 2 tb_X9_readsD = true := by decide +kernel
set_option maxRecDepth 100000 in
theorem mw_X9_readsRest : q_mw yX9_readsRest cX9_readsRest 3 (Option.some Jvm.ClassFile.FieldType.boolean) 2 := ⟨q_t8 122 rfl rfl, by decide +kernel, by decide +kernel, q_init_QuillRelayModel⟩
set_option maxRecDepth 100000 in
theorem mi_X9_readsRest : Cond.instanceMethod yX9_readsRest ∈ q_W := q_t8 121 rfl rfl
set_option maxRecDepth 100000 in
theorem me_X9_readsRest : Cond.selects yX9_readsRest.cls yX9_readsRest yX9_readsRest ∈ q_W := q_s 55 rfl rfl
def tb_X9_readsRest : List q_E := [(0, .iload_n 1, 1, 0, 0), (1, .lookupswitch 87 #[(100, 55), (112, 49), (114, 61), (115, 43)], 43, 0, 0), (44, .aload_n 0, 1, 0, 0), (45, .iload_n 2, 1, 0, 0), (46, .invokevirtual 224, 3, 0, 0), (49, .ireturn, 1, 0, 0), (50, .aload_n 0, 1, 0, 0), (51, .iload_n 2, 1, 0, 0), (52, .invokevirtual 227, 3, 0, 0), (55, .ireturn, 1, 0, 0), (56, .aload_n 0, 1, 0, 0), (57, .iload_n 2, 1, 0, 0), (58, .invokevirtual 230, 3, 0, 0), (61, .ireturn, 1, 0, 0), (62, .aload_n 0, 1, 0, 0), (63, .ldc 233, 2, 0, 0), (65, .invokevirtual 204, 3, 0, 0), (68, .ifCond .eq 18, 3, 0, 86), (71, .aload_n 0, 1, 0, 0), (72, .iconst 3, 1, 3, 0), (73, .iload_n 2, 1, 0, 0), (74, .iconst 1, 1, 1, 0), (75, .iadd, 1, 0, 0), (76, .invokevirtual 210, 3, 0, 0), (79, .ifCond .eq 7, 3, 0, 86), (82, .iconst 1, 1, 1, 0), (83, .goto 4, 3, 0, 87), (86, .iconst 0, 1, 0, 0), (87, .ireturn, 1, 0, 0), (88, .aload_n 0, 1, 0, 0), (89, .ldc 235, 2, 0, 0), (91, .invokevirtual 204, 3, 0, 0), (94, .ifCond .eq 18, 3, 0, 112), (97, .aload_n 0, 1, 0, 0), (98, .iconst 1, 1, 1, 0), (99, .iload_n 2, 1, 0, 0), (100, .iconst 1, 1, 1, 0), (101, .iadd, 1, 0, 0), (102, .invokevirtual 210, 3, 0, 0), (105, .ifCond .eq 7, 3, 0, 112), (108, .iconst 1, 1, 1, 0), (109, .goto 4, 3, 0, 113), (112, .iconst 0, 1, 0, 0), (113, .ireturn, 1, 0, 0)]
set_option maxRecDepth 100000 in
theorem tk_X9_readsRest : q_tb cX9_readsRest 3 tb_X9_readsRest = true := by decide +kernel
set_option maxRecDepth 100000 in
theorem mw_X9_isFirst : q_mw yX9_isFirst cX9_isFirst 1 (Option.some Jvm.ClassFile.FieldType.boolean) 1 := ⟨q_t8 118 rfl rfl, by decide +kernel, by decide +kernel, q_init_QuillRelayModel⟩
set_option maxRecDepth 100000 in
theorem ms_X9_isFirst : Cond.static yX9_isFirst ∈ q_W := q_t8 117 rfl rfl
def tb_X9_isFirst : List q_E := [(0, .iload_n 0, 1, 0, 0), (1, .bipush 115, 2, 115, 0), (3, .if_icmp .eq 27, 3, 0, 30), (6, .iload_n 0, 1, 0, 0), (7, .bipush 112, 2, 112, 0), (9, .if_icmp .eq 21, 3, 0, 30), (12, .iload_n 0, 1, 0, 0), (13, .bipush 100, 2, 100, 0), (15, .if_icmp .eq 15, 3, 0, 30), (18, .iload_n 0, 1, 0, 0), (19, .bipush 114, 2, 114, 0), (21, .if_icmp .eq 9, 3, 0, 30), (24, .iload_n 0, 1, 0, 0), (25, .bipush 113, 2, 113, 0), (27, .if_icmp .ne 7, 3, 0, 34), (30, .iconst 1, 1, 1, 0), (31, .goto 4, 3, 0, 35), (34, .iconst 0, 1, 0, 0), (35, .ireturn, 1, 0, 0)]
set_option maxRecDepth 100000 in
theorem tk_X9_isFirst : q_tb cX9_isFirst 1 tb_X9_isFirst = true := by decide +kernel
set_option maxRecDepth 100000 in
theorem mw_X9_readsCommand : q_mw yX9_readsCommand cX9_readsCommand 3 (Option.some Jvm.ClassFile.FieldType.boolean) 0 := ⟨q_t8 111 rfl rfl, by decide +kernel, by decide +kernel, q_init_QuillRelayModel⟩
set_option maxRecDepth 100000 in
theorem mi_X9_readsCommand : Cond.instanceMethod yX9_readsCommand ∈ q_W := q_t8 110 rfl rfl
set_option maxRecDepth 100000 in
theorem me_X9_readsCommand : Cond.selects yX9_readsCommand.cls yX9_readsCommand yX9_readsCommand ∈ q_W := q_s 53 rfl rfl
def tb_X9_readsCommand : List q_E := [(0, .iconst 4, 1, 4, 0), (1, .aload_n 0, 1, 0, 0), (2, .getfield 237, 3, 0, 0), (5, .imul, 1, 0, 0), (6, .istore_n 1, 1, 0, 0), (7, .aload_n 0, 1, 0, 0), (8, .invokevirtual 190, 3, 0, 0), (11, .istore_n 2, 1, 0, 0), (12, .iload_n 2, 1, 0, 0), (13, .invokestatic 240, 3, 0, 0), (16, .ifCond .ne 5, 3, 0, 21), (19, .iconst 0, 1, 0, 0), (20, .ireturn, 1, 0, 0), (21, .aload_n 0, 1, 0, 0), (22, .getfield 35, 3, 0, 0), (25, .iload_n 1, 1, 0, 0), (26, .iload_n 2, 1, 0, 0), (27, .iastore, 1, 0, 0), (28, .aload_n 0, 1, 0, 0), (29, .dup, 1, 0, 0), (30, .getfield 187, 3, 0, 0), (33, .iconst 1, 1, 1, 0), (34, .iadd, 1, 0, 0), (35, .putfield 187, 3, 0, 0), (38, .aload_n 0, 1, 0, 0), (39, .dup, 1, 0, 0), (40, .getfield 237, 3, 0, 0), (43, .iconst 1, 1, 1, 0), (44, .iadd, 1, 0, 0), (45, .putfield 237, 3, 0, 0), (48, .aload_n 0, 1, 0, 0), (49, .iload_n 2, 1, 0, 0), (50, .iload_n 1, 1, 0, 0), (51, .invokevirtual 243, 3, 0, 0), (54, .ireturn, 1, 0, 0)]
set_option maxRecDepth 100000 in
theorem tk_X9_readsCommand : q_tb cX9_readsCommand 3 tb_X9_readsCommand = true := by decide +kernel
set_option maxRecDepth 100000 in
theorem mw_X9_isProgram : q_mw yX9_isProgram cX9_isProgram 2 (Option.some Jvm.ClassFile.FieldType.boolean) 0 := ⟨q_t8 107 rfl rfl, by decide +kernel, by decide +kernel, q_init_QuillRelayModel⟩
set_option maxRecDepth 100000 in
theorem mi_X9_isProgram : Cond.instanceMethod yX9_isProgram ∈ q_W := q_t8 106 rfl rfl
set_option maxRecDepth 100000 in
theorem me_X9_isProgram : Cond.selects yX9_isProgram.cls yX9_isProgram yX9_isProgram ∈ q_W := q_s 52 rfl rfl
def tb_X9_isProgram : List q_E := [(0, .aload_n 0, 1, 0, 0), (1, .iconst 0, 1, 0, 0), (2, .putfield 187, 3, 0, 0), (5, .aload_n 0, 1, 0, 0), (6, .iconst 0, 1, 0, 0), (7, .putfield 237, 3, 0, 0), (10, .aload_n 0, 1, 0, 0), (11, .invokevirtual 246, 3, 0, 0), (14, .istore_n 1, 1, 0, 0), (15, .iload_n 1, 1, 0, 0), (16, .ifCond .eq 20, 3, 0, 36), (19, .aload_n 0, 1, 0, 0), (20, .bipush 59, 2, 59, 0), (22, .invokevirtual 193, 3, 0, 0), (25, .ifCond .eq 11, 3, 0, 36), (28, .aload_n 0, 1, 0, 0), (29, .invokevirtual 246, 3, 0, 0), (32, .istore_n 1, 1, 0, 0), (33, .goto (-18), 3, 0, 15), (36, .iload_n 1, 1, 0, 0), (37, .ifCond .eq 18, 3, 0, 55), (40, .aload_n 0, 1, 0, 0), (41, .getfield 187, 3, 0, 0), (44, .aload_n 0, 1, 0, 0), (45, .getfield 184, 3, 0, 0), (48, .if_icmp .ne 7, 3, 0, 55), (51, .iconst 1, 1, 1, 0), (52, .goto 4, 3, 0, 56), (55, .iconst 0, 1, 0, 0), (56, .ireturn, 1, 0, 0)]
set_option maxRecDepth 100000 in
theorem tk_X9_isProgram : q_tb cX9_isProgram 2 tb_X9_isProgram = true := by decide +kernel
set_option maxRecDepth 100000 in
theorem mw_X9_does : q_mw yX9_does cX9_does 5 (Option.some Jvm.ClassFile.FieldType.int) 1 := ⟨q_t8 167 rfl rfl, by decide +kernel, by decide +kernel, q_init_QuillRelayModel⟩
set_option maxRecDepth 100000 in
theorem mi_X9_does : Cond.instanceMethod yX9_does ∈ q_W := q_t8 166 rfl rfl
set_option maxRecDepth 100000 in
theorem me_X9_does : Cond.selects yX9_does.cls yX9_does yX9_does ∈ q_W := q_s 64 rfl rfl
def tb_X9_does : List q_E := [(0, .aload_n 0, 1, 0, 0), (1, .getfield 35, 3, 0, 0), (4, .iload_n 1, 1, 0, 0), (5, .iconst 1, 1, 1, 0), (6, .iadd, 1, 0, 0), (7, .iaload, 1, 0, 0), (8, .istore_n 2, 1, 0, 0), (9, .aload_n 0, 1, 0, 0), (10, .getfield 35, 3, 0, 0), (13, .iload_n 1, 1, 0, 0), (14, .iconst 2, 1, 2, 0), (15, .iadd, 1, 0, 0), (16, .iaload, 1, 0, 0), (17, .istore_n 3, 1, 0, 0), (18, .aload_n 0, 1, 0, 0), (19, .getfield 35, 3, 0, 0), (22, .iload_n 1, 1, 0, 0), (23, .iconst 3, 1, 3, 0), (24, .iadd, 1, 0, 0), (25, .iaload, 1, 0, 0), (26, .istore 4, 2, 0, 0), (28, .aload_n 0, 1, 0, 0), (29, .getfield 35, 3, 0, 0), (32, .iload_n 1, 1, 0, 0), (33, .iaload, 1, 0, 0), (34, .tableswitch 142 100 119 #[123, 142, 142, 142, 142, 142, 142, 142, 142, 142, 142, 114, 108, 142, 136, 94, 142, 142, 99, 130], 94, 0, 0), (128, .aload_n 0, 1, 0, 0), (129, .invokevirtual 92, 3, 0, 0), (132, .ireturn, 1, 0, 0), (133, .aload_n 0, 1, 0, 0), (134, .iload_n 2, 1, 0, 0), (135, .iload_n 3, 1, 0, 0), (136, .iload 4, 2, 0, 0), (138, .invokevirtual 82, 3, 0, 0), (141, .ireturn, 1, 0, 0), (142, .aload_n 0, 1, 0, 0), (143, .iload_n 2, 1, 0, 0), (144, .invokevirtual 130, 3, 0, 0), (147, .ireturn, 1, 0, 0), (148, .aload_n 0, 1, 0, 0), (149, .iload_n 2, 1, 0, 0), (150, .iload_n 3, 1, 0, 0), (151, .iload 4, 2, 0, 0), (153, .invokevirtual 142, 3, 0, 0), (156, .ireturn, 1, 0, 0), (157, .aload_n 0, 1, 0, 0), (158, .iload_n 2, 1, 0, 0), (159, .iload_n 3, 1, 0, 0), (160, .invokevirtual 136, 3, 0, 0), (163, .ireturn, 1, 0, 0), (164, .aload_n 0, 1, 0, 0), (165, .iload_n 2, 1, 0, 0), (166, .invokevirtual 89, 3, 0, 0), (169, .ireturn, 1, 0, 0), (170, .aload_n 0, 1, 0, 0), (171, .iload_n 2, 1, 0, 0), (172, .invokevirtual 115, 3, 0, 0), (175, .ireturn, 1, 0, 0), (176, .aload_n 0, 1, 0, 0), (177, .iload_n 2, 1, 0, 0), (178, .invokevirtual 139, 3, 0, 0), (181, .ireturn, 1, 0, 0)]
set_option maxRecDepth 100000 in
theorem tk_X9_does : q_tb cX9_does 5 tb_X9_does = true := by decide +kernel
set_option maxRecDepth 100000 in
theorem mw_X9_execute : q_mw yX9_execute cX9_execute 3 (Option.some Jvm.ClassFile.FieldType.int) 0 := ⟨q_t8 103 rfl rfl, by decide +kernel, by decide +kernel, q_init_QuillRelayModel⟩
set_option maxRecDepth 100000 in
theorem mi_X9_execute : Cond.instanceMethod yX9_execute ∈ q_W := q_t8 101 rfl rfl
set_option maxRecDepth 100000 in
theorem me_X9_execute : Cond.selects yX9_execute.cls yX9_execute yX9_execute ∈ q_W := q_t8 102 rfl rfl
def tb_X9_execute : List q_E := [(0, .aload_n 0, 1, 0, 0), (1, .invokevirtual 249, 3, 0, 0), (4, .istore_n 1, 1, 0, 0), (5, .aload_n 0, 1, 0, 0), (6, .iconst 0, 1, 0, 0), (7, .putfield 184, 3, 0, 0), (10, .aload_n 0, 1, 0, 0), (11, .iload_n 1, 1, 0, 0), (12, .ifCond .ne 7, 3, 0, 19), (15, .iconst 1, 1, 1, 0), (16, .goto 4, 3, 0, 20), (19, .iconst 0, 1, 0, 0), (20, .iconst 1, 1, 1, 0), (21, .invokevirtual 63, 3, 0, 0), (24, .ifCond .eq 13, 3, 0, 37), (27, .aload_n 0, 1, 0, 0), (28, .aload_n 0, 1, 0, 0), (29, .getfield 187, 3, 0, 0), (32, .putfield 22, 3, 0, 0), (35, .iconst 0, 1, 0, 0), (36, .ireturn, 1, 0, 0), (37, .aload_n 0, 1, 0, 0), (38, .invokevirtual 56, 3, 0, 0), (41, .iconst 0, 1, 0, 0), (42, .istore_n 2, 1, 0, 0), (43, .iload_n 2, 1, 0, 0), (44, .aload_n 0, 1, 0, 0), (45, .getfield 237, 3, 0, 0), (48, .if_icmp .ge 57, 3, 0, 105), (51, .aload_n 0, 1, 0, 0), (52, .iconst 0, 1, 0, 0), (53, .putfield 38, 3, 0, 0), (56, .aload_n 0, 1, 0, 0), (57, .aload_n 0, 1, 0, 0), (58, .iconst 4, 1, 4, 0), (59, .iload_n 2, 1, 0, 0), (60, .imul, 1, 0, 0), (61, .invokevirtual 252, 3, 0, 0), (64, .putfield 255, 3, 0, 0), (67, .aload_n 0, 1, 0, 0), (68, .getfield 38, 3, 0, 0), (71, .ifCond .eq 28, 3, 0, 99), (74, .aload_n 0, 1, 0, 0), (75, .getfield 13, 3, 0, 0), (78, .iconst 0, 1, 0, 0), (79, .aload_n 0, 1, 0, 0), (80, .getfield 9, 3, 0, 0), (83, .iconst 0, 1, 0, 0), (84, .invokestatic 41, 3, 0, 0), (87, .aload_n 0, 1, 0, 0), (88, .iload_n 2, 1, 0, 0), (89, .putfield 26, 3, 0, 0), (92, .aload_n 0, 1, 0, 0), (93, .iconst 2, 1, 2, 0), (94, .putfield 38, 3, 0, 0), (97, .iconst 0, 1, 0, 0), (98, .ireturn, 1, 0, 0), (99, .iinc 2 1, 3, 1, 0), (102, .goto (-59), 3, 0, 43), (105, .aload_n 0, 1, 0, 0), (106, .aload_n 0, 1, 0, 0), (107, .getfield 237, 3, 0, 0), (110, .invokevirtual 71, 3, 0, 0), (113, .ireturn, 1, 0, 0)]
set_option maxRecDepth 100000 in
theorem tk_X9_execute : q_tb cX9_execute 3 tb_X9_execute = true := by decide +kernel
set_option maxRecDepth 100000 in
theorem mw_X9_errorPosition : q_mw yX9_errorPosition cX9_errorPosition 1 (Option.some Jvm.ClassFile.FieldType.int) 0 := ⟨q_t8 171 rfl rfl, by decide +kernel, by decide +kernel, q_init_QuillRelayModel⟩
set_option maxRecDepth 100000 in
theorem mi_X9_errorPosition : Cond.instanceMethod yX9_errorPosition ∈ q_W := q_t8 169 rfl rfl
set_option maxRecDepth 100000 in
theorem me_X9_errorPosition : Cond.selects yX9_errorPosition.cls yX9_errorPosition yX9_errorPosition ∈ q_W := q_t8 170 rfl rfl
def tb_X9_errorPosition : List q_E := [(0, .aload_n 0, 1, 0, 0), (1, .aload_n 0, 1, 0, 0), (2, .getfield 22, 3, 0, 0), (5, .ifCond .ge 7, 3, 0, 12), (8, .iconst 1, 1, 1, 0), (9, .goto 4, 3, 0, 13), (12, .iconst 0, 1, 0, 0), (13, .iconst 1, 1, 1, 0), (14, .invokevirtual 63, 3, 0, 0), (17, .ifCond .eq 7, 3, 0, 24), (20, .iconst 0, 1, 0, 0), (21, .goto 7, 3, 0, 28), (24, .aload_n 0, 1, 0, 0), (25, .getfield 22, 3, 0, 0), (28, .ireturn, 1, 0, 0)]
set_option maxRecDepth 100000 in
theorem tk_X9_errorPosition : q_tb cX9_errorPosition 1 tb_X9_errorPosition = true := by decide +kernel
set_option maxRecDepth 100000 in
theorem mw_X9_failedCommand : q_mw yX9_failedCommand cX9_failedCommand 1 (Option.some Jvm.ClassFile.FieldType.int) 0 := ⟨q_t8 175 rfl rfl, by decide +kernel, by decide +kernel, q_init_QuillRelayModel⟩
set_option maxRecDepth 100000 in
theorem mi_X9_failedCommand : Cond.instanceMethod yX9_failedCommand ∈ q_W := q_t8 173 rfl rfl
set_option maxRecDepth 100000 in
theorem me_X9_failedCommand : Cond.selects yX9_failedCommand.cls yX9_failedCommand yX9_failedCommand ∈ q_W := q_t8 174 rfl rfl
def tb_X9_failedCommand : List q_E := [(0, .aload_n 0, 1, 0, 0), (1, .aload_n 0, 1, 0, 0), (2, .getfield 26, 3, 0, 0), (5, .ifCond .ge 7, 3, 0, 12), (8, .iconst 1, 1, 1, 0), (9, .goto 4, 3, 0, 13), (12, .iconst 0, 1, 0, 0), (13, .iconst 1, 1, 1, 0), (14, .invokevirtual 63, 3, 0, 0), (17, .ifCond .eq 7, 3, 0, 24), (20, .iconst 0, 1, 0, 0), (21, .goto 7, 3, 0, 28), (24, .aload_n 0, 1, 0, 0), (25, .getfield 26, 3, 0, 0), (28, .ireturn, 1, 0, 0)]
set_option maxRecDepth 100000 in
theorem tk_X9_failedCommand : q_tb cX9_failedCommand 1 tb_X9_failedCommand = true := by decide +kernel
set_option maxRecDepth 100000 in
theorem mw_X9_undo : q_mw yX9_undo cX9_undo 1 (Option.some Jvm.ClassFile.FieldType.int) 0 := ⟨q_t8 179 rfl rfl, by decide +kernel, by decide +kernel, q_init_QuillRelayModel⟩
set_option maxRecDepth 100000 in
theorem mi_X9_undo : Cond.instanceMethod yX9_undo ∈ q_W := q_t8 177 rfl rfl
set_option maxRecDepth 100000 in
theorem me_X9_undo : Cond.selects yX9_undo.cls yX9_undo yX9_undo ∈ q_W := q_t8 178 rfl rfl
def tb_X9_undo : List q_E := [(0, .aload_n 0, 1, 0, 0), (1, .aload_n 0, 1, 0, 0), (2, .getfield 45, 3, 0, 0), (5, .ifCond .ne 7, 3, 0, 12), (8, .iconst 1, 1, 1, 0), (9, .goto 4, 3, 0, 13), (12, .iconst 0, 1, 0, 0), (13, .iconst 1, 1, 1, 0), (14, .invokevirtual 63, 3, 0, 0), (17, .ifCond .eq 5, 3, 0, 22), (20, .iconst 0, 1, 0, 0), (21, .ireturn, 1, 0, 0), (22, .aload_n 0, 1, 0, 0), (23, .dup, 1, 0, 0), (24, .getfield 45, 3, 0, 0), (27, .iconst 1, 1, 1, 0), (28, .isub, 1, 0, 0), (29, .putfield 45, 3, 0, 0), (32, .aload_n 0, 1, 0, 0), (33, .getfield 19, 3, 0, 0), (36, .bipush 118, 2, 118, 0), (38, .aload_n 0, 1, 0, 0), (39, .getfield 45, 3, 0, 0), (42, .imul, 1, 0, 0), (43, .aload_n 0, 1, 0, 0), (44, .getfield 9, 3, 0, 0), (47, .iconst 0, 1, 0, 0), (48, .invokestatic 41, 3, 0, 0), (51, .aload_n 0, 1, 0, 0), (52, .getfield 45, 3, 0, 0), (55, .ireturn, 1, 0, 0)]
set_option maxRecDepth 100000 in
theorem tk_X9_undo : q_tb cX9_undo 1 tb_X9_undo = true := by decide +kernel
set_option maxRecDepth 100000 in
theorem mw_X9_save : q_mw yX9_save cX9_save 1 (Option.some Jvm.ClassFile.FieldType.int) 0 := ⟨q_t8 183 rfl rfl, by decide +kernel, by decide +kernel, q_init_QuillRelayModel⟩
set_option maxRecDepth 100000 in
theorem mi_X9_save : Cond.instanceMethod yX9_save ∈ q_W := q_t8 181 rfl rfl
set_option maxRecDepth 100000 in
theorem me_X9_save : Cond.selects yX9_save.cls yX9_save yX9_save ∈ q_W := q_t8 182 rfl rfl
def tb_X9_save : List q_E := [(0, .aload_n 0, 1, 0, 0), (1, .iconst 0, 1, 0, 0), (2, .putfield 38, 3, 0, 0), (5, .aload_n 0, 1, 0, 0), (6, .getfield 9, 3, 0, 0), (9, .iconst 0, 1, 0, 0), (10, .aload_n 0, 1, 0, 0), (11, .getfield 16, 3, 0, 0), (14, .iconst 0, 1, 0, 0), (15, .invokestatic 41, 3, 0, 0), (18, .aload_n 0, 1, 0, 0), (19, .iconst 1, 1, 1, 0), (20, .putfield 258, 3, 0, 0), (23, .aload_n 0, 1, 0, 0), (24, .getfield 9, 3, 0, 0), (27, .iconst 2, 1, 2, 0), (28, .iaload, 1, 0, 0), (29, .ireturn, 1, 0, 0)]
set_option maxRecDepth 100000 in
theorem tk_X9_save : q_tb cX9_save 1 tb_X9_save = true := by decide +kernel
set_option maxRecDepth 100000 in
theorem mw_X9_restore : q_mw yX9_restore cX9_restore 1 (Option.some Jvm.ClassFile.FieldType.int) 0 := ⟨q_t8 187 rfl rfl, by decide +kernel, by decide +kernel, q_init_QuillRelayModel⟩
set_option maxRecDepth 100000 in
theorem mi_X9_restore : Cond.instanceMethod yX9_restore ∈ q_W := q_t8 185 rfl rfl
set_option maxRecDepth 100000 in
theorem me_X9_restore : Cond.selects yX9_restore.cls yX9_restore yX9_restore ∈ q_W := q_t8 186 rfl rfl
def tb_X9_restore : List q_E := [(0, .aload_n 0, 1, 0, 0), (1, .aload_n 0, 1, 0, 0), (2, .getfield 258, 3, 0, 0), (5, .ifCond .ne 7, 3, 0, 12), (8, .iconst 1, 1, 1, 0), (9, .goto 4, 3, 0, 13), (12, .iconst 0, 1, 0, 0), (13, .iconst 1, 1, 1, 0), (14, .invokevirtual 63, 3, 0, 0), (17, .ifCond .eq 5, 3, 0, 22), (20, .iconst 0, 1, 0, 0), (21, .ireturn, 1, 0, 0), (22, .aload_n 0, 1, 0, 0), (23, .getfield 16, 3, 0, 0), (26, .iconst 0, 1, 0, 0), (27, .aload_n 0, 1, 0, 0), (28, .getfield 9, 3, 0, 0), (31, .iconst 0, 1, 0, 0), (32, .invokestatic 41, 3, 0, 0), (35, .aload_n 0, 1, 0, 0), (36, .iconst 0, 1, 0, 0), (37, .putfield 45, 3, 0, 0), (40, .aload_n 0, 1, 0, 0), (41, .getfield 9, 3, 0, 0), (44, .iconst 2, 1, 2, 0), (45, .iaload, 1, 0, 0), (46, .ireturn, 1, 0, 0)]
set_option maxRecDepth 100000 in
theorem tk_X9_restore : q_tb cX9_restore 1 tb_X9_restore = true := by decide +kernel
set_option maxRecDepth 100000 in
theorem lk_X8_9 : Cond.methodLink RX8 9 yX4_init ∈ q_W := q_t1 45 rfl rfl
set_option maxRecDepth 100000 in
theorem lk_X8_24 : Cond.methodLink RX8 24 yX2_init ∈ q_W := q_t1 139 rfl rfl
set_option maxRecDepth 100000 in
theorem lk_X8_31 : Cond.methodLink RX8 31 yX3_init ∈ q_W := q_t1 159 rfl rfl
set_option maxRecDepth 100000 in
theorem lk_X8_60 : Cond.methodLink RX8 60 yX4_faultOfEntering ∈ q_W := q_t2 82 rfl rfl
set_option maxRecDepth 100000 in
theorem lk_X8_64 : Cond.methodLink RX8 64 yX8_raise ∈ q_W := q_t2 91 rfl rfl
set_option maxRecDepth 100000 in
theorem lk_X8_68 : Cond.methodLink RX8 68 yX2_push ∈ q_W := q_t2 221 rfl rfl
set_option maxRecDepth 100000 in
theorem lk_X8_72 : Cond.methodLink RX8 72 yX4_enterTeam ∈ q_W := q_t2 229 rfl rfl
set_option maxRecDepth 100000 in
theorem lk_X8_76 : Cond.methodLink RX8 76 yX4_faultOfSpeed ∈ q_W := q_t3 24 rfl rfl
set_option maxRecDepth 100000 in
theorem lk_X8_80 : Cond.methodLink RX8 80 yX8_teamWith ∈ q_W := q_t3 37 rfl rfl
set_option maxRecDepth 100000 in
theorem lk_X8_84 : Cond.methodLink RX8 84 yX6_changeSpeed ∈ q_W := q_t3 43 rfl rfl
set_option maxRecDepth 100000 in
theorem lk_X8_90 : Cond.methodLink RX8 90 yX4_faultOfLength ∈ q_W := q_t3 58 rfl rfl
set_option maxRecDepth 100000 in
theorem lk_X8_97 : Cond.methodLink RX8 97 yX4_faultOfDrawing ∈ q_W := q_t3 69 rfl rfl
set_option maxRecDepth 100000 in
theorem lk_X8_100 : Cond.methodLink RX8 100 yX4_shuffleLanes ∈ q_W := q_t3 77 rfl rfl
set_option maxRecDepth 100000 in
theorem lk_X8_107 : Cond.methodLink RX8 107 yX4_faultOfStarting ∈ q_W := q_t3 96 rfl rfl
set_option maxRecDepth 100000 in
theorem lk_X8_110 : Cond.methodLink RX8 110 yX4_begin ∈ q_W := q_t3 97 rfl rfl
set_option maxRecDepth 100000 in
theorem lk_X8_113 : Cond.methodLink RX8 113 yX4_countEntered ∈ q_W := q_t2 21 rfl rfl
set_option maxRecDepth 100000 in
theorem lk_X8_116 : Cond.methodLink RX8 116 yX4_faultOfRunning ∈ q_W := q_t3 108 rfl rfl
set_option maxRecDepth 100000 in
theorem lk_X8_119 : Cond.methodLink RX8 119 yX4_letSecondsPass ∈ q_W := q_t3 112 rfl rfl
set_option maxRecDepth 100000 in
theorem lk_X8_123 : Cond.methodLink RX8 123 yX8_faultOfPassing ∈ q_W := q_t3 149 rfl rfl
set_option maxRecDepth 100000 in
theorem lk_X8_126 : Cond.methodLink RX8 126 yX4_handOver ∈ q_W := q_t3 159 rfl rfl
set_option maxRecDepth 100000 in
theorem lk_X8_130 : Cond.methodLink RX8 130 yX4_faultOfDropping ∈ q_W := q_t3 172 rfl rfl
set_option maxRecDepth 100000 in
theorem lk_X8_134 : Cond.methodLink RX8 134 yX4_dropQuill ∈ q_W := q_t3 180 rfl rfl
set_option maxRecDepth 100000 in
theorem lk_X8_138 : Cond.methodLink RX8 138 yX4_faultOfWithdrawing ∈ q_W := q_t3 195 rfl rfl
set_option maxRecDepth 100000 in
theorem lk_X8_150 : Cond.methodLink RX8 150 yX4_countRunning ∈ q_W := q_t2 34 rfl rfl
set_option maxRecDepth 100000 in
theorem lk_X8_153 : Cond.methodLink RX8 153 yX4_faultOfProtesting ∈ q_W := q_t3 205 rfl rfl
set_option maxRecDepth 100000 in
theorem lk_X8_156 : Cond.methodLink RX8 156 yX4_judge ∈ q_W := q_t3 212 rfl rfl
set_option maxRecDepth 100000 in
theorem lk_X8_166 : Cond.methodLink RX8 166 yX4_numberInLane ∈ q_W := q_t3 239 rfl rfl
set_option maxRecDepth 100000 in
theorem lk_X8_176 : Cond.methodLink RX8 176 yX8_teamWithLeg ∈ q_W := q_t4 26 rfl rfl
set_option maxRecDepth 100000 in
theorem lk_X8_180 : Cond.methodLink RX8 180 yX6_speedOn ∈ q_W := q_t4 32 rfl rfl
set_option maxRecDepth 100000 in
theorem lk_X8_192 : Cond.methodLink RX8 192 yX6_inZone ∈ q_W := q_t4 64 rfl rfl
set_option maxRecDepth 100000 in
theorem lk_X8_202 : Cond.methodLink RX8 202 yX8_isKind ∈ q_W := q_t4 86 rfl rfl
set_option maxRecDepth 100000 in
theorem lk_X8_210 : Cond.methodLink RX8 210 yX6_committed ∈ q_W := q_t4 88 rfl rfl
set_option maxRecDepth 100000 in
theorem lk_X8_213 : Cond.methodLink RX8 213 yX6_hasEnded ∈ q_W := q_t4 96 rfl rfl
set_option maxRecDepth 100000 in
theorem lk_X8_222 : Cond.methodLink RX8 222 yX8_at ∈ q_W := q_t2 71 rfl rfl
set_option maxRecDepth 100000 in
theorem lk_X8_226 : Cond.methodLink RX8 226 yX8_finishedTeamWith ∈ q_W := q_t4 115 rfl rfl
set_option maxRecDepth 100000 in
theorem lk_X8_232 : Cond.methodLink RX8 232 yX6_result ∈ q_W := q_t4 128 rfl rfl
set_option maxRecDepth 100000 in
theorem lk_X8_235 : Cond.methodLink RX8 235 yX4_numberAtRank ∈ q_W := q_t4 139 rfl rfl
set_option maxRecDepth 100000 in
theorem lk_X8_240 : Cond.methodLink RX8 240 yX4_countAhead ∈ q_W := q_t4 160 rfl rfl
set_option maxRecDepth 100000 in
theorem lk_X8_243 : Cond.methodLink RX8 243 yX4_countFinished ∈ q_W := q_t4 182 rfl rfl
set_option maxRecDepth 100000 in
theorem lk_X8_251 : Cond.methodLink RX8 251 yX4_sumOfTimes ∈ q_W := q_t4 190 rfl rfl
set_option maxRecDepth 100000 in
theorem lk_X8_254 : Cond.methodLink RX8 254 yX8_speedForReach ∈ q_W := q_t4 201 rfl rfl
set_option maxRecDepth 100000 in
theorem lk_X8_258 : Cond.methodLink RX8 258 yX8_pace ∈ q_W := q_t4 206 rfl rfl
set_option maxRecDepth 100000 in
theorem lk_X8_271 : Cond.methodLink RX8 271 yX6_secondsUntilZone ∈ q_W := q_t4 223 rfl rfl
set_option maxRecDepth 100000 in
theorem lk_X8_286 : Cond.methodLink RX8 286 yX8_appendStage ∈ q_W := q_t6 46 rfl rfl
set_option maxRecDepth 100000 in
theorem lk_X8_309 : Cond.methodLink RX8 309 yX3_findError ∈ q_W := q_t6 85 rfl rfl
set_option maxRecDepth 100000 in
theorem lk_X8_312 : Cond.methodLink RX8 312 yX8_performAll ∈ q_W := q_t6 145 rfl rfl
set_option maxRecDepth 100000 in
theorem lk_X8_331 : Cond.methodLink RX8 331 yX2_popInto ∈ q_W := q_t6 193 rfl rfl
set_option maxRecDepth 100000 in
theorem lk_X8_334 : Cond.methodLink RX8 334 yX4_copyFrom ∈ q_W := q_t2 60 rfl rfl
set_option maxRecDepth 100000 in
theorem lk_X8_362 : Cond.methodLink RX8 362 yX4_find ∈ q_W := q_t3 41 rfl rfl
set_option maxRecDepth 100000 in
theorem lk_X8_367 : Cond.methodLink RX8 367 yX8_isLeg ∈ q_W := q_t4 30 rfl rfl
set_option maxRecDepth 100000 in
theorem lk_X8_379 : Cond.methodLink RX8 379 yX6_reasonToRefuse ∈ q_W := q_t3 154 rfl rfl
set_option maxRecDepth 100000 in
theorem lk_X8_385 : Cond.methodLink RX8 385 yX3_rewind ∈ q_W := q_t6 149 rfl rfl
set_option maxRecDepth 100000 in
theorem lk_X8_388 : Cond.methodLink RX8 388 yX3_readNext ∈ q_W := q_t6 150 rfl rfl
set_option maxRecDepth 100000 in
theorem lk_X8_399 : Cond.methodLink RX8 399 yX8_faultOf ∈ q_W := q_t6 151 rfl rfl
set_option maxRecDepth 100000 in
theorem lk_X8_403 : Cond.methodLink RX8 403 yX8_apply ∈ q_W := q_t6 163 rfl rfl
set_option maxRecDepth 100000 in
theorem lk_X2_17 : Cond.methodLink RX2 17 yX4_init ∈ q_W := q_t1 145 rfl rfl
set_option maxRecDepth 100000 in
theorem lk_X2_22 : Cond.methodLink RX2 22 yX4_copyFrom ∈ q_W := q_t2 225 rfl rfl
set_option maxRecDepth 100000 in
theorem lk_X3_31 : Cond.methodLink RX3 31 yX3_rewind ∈ q_W := q_t6 89 rfl rfl
set_option maxRecDepth 100000 in
theorem lk_X3_42 : Cond.methodLink RX3 42 yX3_readNext ∈ q_W := q_t6 94 rfl rfl
set_option maxRecDepth 100000 in
theorem lk_X3_49 : Cond.methodLink RX3 49 yX3_readCharacter ∈ q_W := q_t6 98 rfl rfl
set_option maxRecDepth 100000 in
theorem lk_X3_61 : Cond.methodLink RX3 61 yX3_readPattern ∈ q_W := q_t6 105 rfl rfl
set_option maxRecDepth 100000 in
theorem lk_X3_81 : Cond.methodLink RX3 81 yX3_readSign ∈ q_W := q_t6 125 rfl rfl
set_option maxRecDepth 100000 in
theorem lk_X3_84 : Cond.methodLink RX3 84 yX3_readDigits ∈ q_W := q_t6 129 rfl rfl
set_option maxRecDepth 100000 in
theorem lk_X3_88 : Cond.methodLink RX3 88 yX3_readKind ∈ q_W := q_t6 140 rfl rfl
set_option maxRecDepth 100000 in
theorem lk_X3_92 : Cond.methodLink RX3 92 yX3_isDigit ∈ q_W := q_t6 133 rfl rfl
set_option maxRecDepth 100000 in
theorem lk_X3_95 : Cond.methodLink RX3 95 yX3_addArgument ∈ q_W := q_t6 136 rfl rfl
set_option maxRecDepth 100000 in
theorem lk_X4_17 : Cond.methodLink RX4 17 yX6_init ∈ q_W := q_t1 52 rfl rfl
set_option maxRecDepth 100000 in
theorem lk_X4_24 : Cond.methodLink RX4 24 yX6_copyFrom ∈ q_W := q_t2 64 rfl rfl
set_option maxRecDepth 100000 in
theorem lk_X4_44 : Cond.methodLink RX4 44 yX4_countIn ∈ q_W := q_t2 26 rfl rfl
set_option maxRecDepth 100000 in
theorem lk_X4_63 : Cond.methodLink RX4 63 yX4_countAhead ∈ q_W := q_t4 143 rfl rfl
set_option maxRecDepth 100000 in
theorem lk_X4_67 : Cond.methodLink RX4 67 yX6_isAheadOf ∈ q_W := q_t4 147 rfl rfl
set_option maxRecDepth 100000 in
theorem lk_X4_71 : Cond.methodLink RX4 71 yX4_countEntered ∈ q_W := q_t2 86 rfl rfl
set_option maxRecDepth 100000 in
theorem lk_X4_84 : Cond.methodLink RX4 84 yX4_find ∈ q_W := q_t3 28 rfl rfl
set_option maxRecDepth 100000 in
theorem lk_X4_98 : Cond.methodLink RX4 98 yX4_faultOfStarting ∈ q_W := q_t3 73 rfl rfl
set_option maxRecDepth 100000 in
theorem lk_X4_102 : Cond.methodLink RX4 102 yX4_faultOfWithdrawing ∈ q_W := q_t3 176 rfl rfl
set_option maxRecDepth 100000 in
theorem lk_X4_112 : Cond.methodLink RX4 112 yX4_freeLane ∈ q_W := q_t3 81 rfl rfl
set_option maxRecDepth 100000 in
theorem lk_X4_116 : Cond.methodLink RX4 116 yX4_isTaken ∈ q_W := q_t3 85 rfl rfl
set_option maxRecDepth 100000 in
theorem lk_X4_120 : Cond.methodLink RX4 120 yX6_moveOneSecond ∈ q_W := q_t3 116 rfl rfl
set_option maxRecDepth 100000 in
theorem lk_X4_126 : Cond.methodLink RX4 126 yX6_legEnd ∈ q_W := q_t3 163 rfl rfl
set_option maxRecDepth 100000 in
theorem lk_X4_133 : Cond.methodLink RX4 133 yX6_endLeg ∈ q_W := q_t3 164 rfl rfl
set_option maxRecDepth 100000 in
theorem lk_X4_142 : Cond.methodLink RX4 142 yX6_inZone ∈ q_W := q_t3 184 rfl rfl
set_option maxRecDepth 100000 in
theorem lk_X4_151 : Cond.methodLink RX4 151 yX6_committed ∈ q_W := q_t3 216 rfl rfl
set_option maxRecDepth 100000 in
theorem lk_X4_154 : Cond.methodLink RX4 154 yX6_removeFoul ∈ q_W := q_t3 220 rfl rfl
set_option maxRecDepth 100000 in
theorem lk_X6_74 : Cond.methodLink RX6 74 yX6_legEnd ∈ q_W := q_t3 124 rfl rfl
set_option maxRecDepth 100000 in
theorem lk_X6_78 : Cond.methodLink RX6 78 yX6_runOneSecond ∈ q_W := q_t3 120 rfl rfl
set_option maxRecDepth 100000 in
theorem lk_X6_85 : Cond.methodLink RX6 85 yX6_endLeg ∈ q_W := q_t3 137 rfl rfl
set_option maxRecDepth 100000 in
theorem lk_X6_101 : Cond.methodLink RX6 101 yX6_result ∈ q_W := q_t4 151 rfl rfl
set_option maxRecDepth 100000 in
theorem lk_L_7 : Cond.methodLink RL 7 yX8_addTeam ∈ q_W := q_t2 78 rfl rfl
set_option maxRecDepth 100000 in
theorem lk_L_15 : Cond.methodLink RL 15 yX8_setSpeed ∈ q_W := q_t3 20 rfl rfl
set_option maxRecDepth 100000 in
theorem lk_L_23 : Cond.methodLink RL 23 yX8_setLength ∈ q_W := q_t3 54 rfl rfl
set_option maxRecDepth 100000 in
theorem lk_L_27 : Cond.methodLink RL 27 yX8_drawLanes ∈ q_W := q_t3 65 rfl rfl
set_option maxRecDepth 100000 in
theorem lk_L_30 : Cond.methodLink RL 30 yX8_start ∈ q_W := q_t3 92 rfl rfl
set_option maxRecDepth 100000 in
theorem lk_L_33 : Cond.methodLink RL 33 yX8_run ∈ q_W := q_t3 104 rfl rfl
set_option maxRecDepth 100000 in
theorem lk_L_36 : Cond.methodLink RL 36 yX8_pass ∈ q_W := q_t3 145 rfl rfl
set_option maxRecDepth 100000 in
theorem lk_L_41 : Cond.methodLink RL 41 yX8_drop ∈ q_W := q_t3 168 rfl rfl
set_option maxRecDepth 100000 in
theorem lk_L_45 : Cond.methodLink RL 45 yX8_withdraw ∈ q_W := q_t3 191 rfl rfl
set_option maxRecDepth 100000 in
theorem lk_L_48 : Cond.methodLink RL 48 yX8_protest ∈ q_W := q_t3 201 rfl rfl
set_option maxRecDepth 100000 in
theorem lk_L_52 : Cond.methodLink RL 52 yX8_laneOf ∈ q_W := q_t3 227 rfl rfl
set_option maxRecDepth 100000 in
theorem lk_L_55 : Cond.methodLink RL 55 yX8_teamInLane ∈ q_W := q_t3 235 rfl rfl
set_option maxRecDepth 100000 in
theorem lk_L_60 : Cond.methodLink RL 60 yX8_speedOf ∈ q_W := q_t4 22 rfl rfl
set_option maxRecDepth 100000 in
theorem lk_L_63 : Cond.methodLink RL 63 yX8_positionOf ∈ q_W := q_t4 39 rfl rfl
set_option maxRecDepth 100000 in
theorem lk_L_66 : Cond.methodLink RL 66 yX8_legOf ∈ q_W := q_t4 46 rfl rfl
set_option maxRecDepth 100000 in
theorem lk_L_69 : Cond.methodLink RL 69 yX8_isRunning ∈ q_W := q_t4 53 rfl rfl
set_option maxRecDepth 100000 in
theorem lk_L_73 : Cond.methodLink RL 73 yX8_isInZone ∈ q_W := q_t4 60 rfl rfl
set_option maxRecDepth 100000 in
theorem lk_L_76 : Cond.methodLink RL 76 yX8_standingOf ∈ q_W := q_t4 68 rfl rfl
set_option maxRecDepth 100000 in
theorem lk_L_79 : Cond.methodLink RL 79 yX8_penaltyOf ∈ q_W := q_t4 75 rfl rfl
set_option maxRecDepth 100000 in
theorem lk_L_82 : Cond.methodLink RL 82 yX8_hasFoul ∈ q_W := q_t4 82 rfl rfl
set_option maxRecDepth 100000 in
theorem lk_L_86 : Cond.methodLink RL 86 yX8_splitOf ∈ q_W := q_t4 92 rfl rfl
set_option maxRecDepth 100000 in
theorem lk_L_89 : Cond.methodLink RL 89 yX8_splitSum ∈ q_W := q_t4 104 rfl rfl
set_option maxRecDepth 100000 in
theorem lk_L_92 : Cond.methodLink RL 92 yX8_timeOf ∈ q_W := q_t4 111 rfl rfl
set_option maxRecDepth 100000 in
theorem lk_L_95 : Cond.methodLink RL 95 yX8_resultOf ∈ q_W := q_t4 124 rfl rfl
set_option maxRecDepth 100000 in
theorem lk_L_98 : Cond.methodLink RL 98 yX8_teamAtRank ∈ q_W := q_t4 135 rfl rfl
set_option maxRecDepth 100000 in
theorem lk_L_101 : Cond.methodLink RL 101 yX8_rankOf ∈ q_W := q_t4 156 rfl rfl
set_option maxRecDepth 100000 in
theorem lk_L_104 : Cond.methodLink RL 104 yX8_meanTime ∈ q_W := q_t4 178 rfl rfl
set_option maxRecDepth 100000 in
theorem lk_L_110 : Cond.methodLink RL 110 yX8_reach ∈ q_W := q_t4 197 rfl rfl
set_option maxRecDepth 100000 in
theorem lk_L_113 : Cond.methodLink RL 113 yX8_reachByStretches ∈ q_W := q_t4 210 rfl rfl
set_option maxRecDepth 100000 in
theorem lk_L_116 : Cond.methodLink RL 116 yX8_secondsToZone ∈ q_W := q_t4 217 rfl rfl
set_option maxRecDepth 100000 in
theorem lk_L_119 : Cond.methodLink RL 119 yX8_refusalReason ∈ q_W := q_t4 231 rfl rfl
set_option maxRecDepth 100000 in
theorem lk_L_122 : Cond.methodLink RL 122 yX8_refusedTeam ∈ q_W := q_t4 239 rfl rfl
set_option maxRecDepth 100000 in
theorem lk_L_125 : Cond.methodLink RL 125 yX8_writeBanner ∈ q_W := q_t5 6 rfl rfl
set_option maxRecDepth 100000 in
theorem lk_L_128 : Cond.methodLink RL 128 yX8_bannerAt ∈ q_W := q_t6 54 rfl rfl
set_option maxRecDepth 100000 in
theorem lk_L_132 : Cond.methodLink RL 132 yX8_type ∈ q_W := q_t6 72 rfl rfl
set_option maxRecDepth 100000 in
theorem lk_L_136 : Cond.methodLink RL 136 yX8_execute ∈ q_W := q_t6 81 rfl rfl
set_option maxRecDepth 100000 in
theorem lk_L_139 : Cond.methodLink RL 139 yX8_errorPosition ∈ q_W := q_t6 172 rfl rfl
set_option maxRecDepth 100000 in
theorem lk_L_142 : Cond.methodLink RL 142 yX8_failedCommand ∈ q_W := q_t6 180 rfl rfl
set_option maxRecDepth 100000 in
theorem lk_L_145 : Cond.methodLink RL 145 yX8_undo ∈ q_W := q_t6 188 rfl rfl
set_option maxRecDepth 100000 in
theorem lk_L_148 : Cond.methodLink RL 148 yX8_restore ∈ q_W := q_t6 200 rfl rfl
set_option maxRecDepth 100000 in
theorem lk_L_151 : Cond.methodLink RL 151 yX8_init ∈ q_W := q_t1 37 rfl rfl
set_option maxRecDepth 100000 in
theorem lk_L_154 : Cond.methodLink RL 154 yX9_init ∈ q_W := q_t6 207 rfl rfl
set_option maxRecDepth 100000 in
theorem lk_L_160 : Cond.methodLink RL 160 yX9_addTeam ∈ q_W := q_t7 33 rfl rfl
set_option maxRecDepth 100000 in
theorem lk_L_161 : Cond.methodLink RL 161 yX9_thrown ∈ q_W := q_t7 29 rfl rfl
set_option maxRecDepth 100000 in
theorem lk_L_167 : Cond.methodLink RL 167 yX9_setSpeed ∈ q_W := q_t7 60 rfl rfl
set_option maxRecDepth 100000 in
theorem lk_L_171 : Cond.methodLink RL 171 yX9_setLength ∈ q_W := q_t7 82 rfl rfl
set_option maxRecDepth 100000 in
theorem lk_L_174 : Cond.methodLink RL 174 yX9_drawLanes ∈ q_W := q_t7 86 rfl rfl
set_option maxRecDepth 100000 in
theorem lk_L_177 : Cond.methodLink RL 177 yX9_start ∈ q_W := q_t7 98 rfl rfl
set_option maxRecDepth 100000 in
theorem lk_L_180 : Cond.methodLink RL 180 yX9_run ∈ q_W := q_t7 106 rfl rfl
set_option maxRecDepth 100000 in
theorem lk_L_183 : Cond.methodLink RL 183 yX9_pass ∈ q_W := q_t7 137 rfl rfl
set_option maxRecDepth 100000 in
theorem lk_L_187 : Cond.methodLink RL 187 yX9_drop ∈ q_W := q_t7 153 rfl rfl
set_option maxRecDepth 100000 in
theorem lk_L_190 : Cond.methodLink RL 190 yX9_withdraw ∈ q_W := q_t7 165 rfl rfl
set_option maxRecDepth 100000 in
theorem lk_L_193 : Cond.methodLink RL 193 yX9_protest ∈ q_W := q_t7 173 rfl rfl
set_option maxRecDepth 100000 in
theorem lk_L_194 : Cond.methodLink RL 194 yX8_teamCount ∈ q_W := q_t2 17 rfl rfl
set_option maxRecDepth 100000 in
theorem lk_L_197 : Cond.methodLink RL 197 yX9_teamCount ∈ q_W := q_t7 181 rfl rfl
set_option maxRecDepth 100000 in
theorem lk_L_198 : Cond.methodLink RL 198 yX8_runningCount ∈ q_W := q_t2 30 rfl rfl
set_option maxRecDepth 100000 in
theorem lk_L_201 : Cond.methodLink RL 201 yX9_runningCount ∈ q_W := q_t7 185 rfl rfl
set_option maxRecDepth 100000 in
theorem lk_L_202 : Cond.methodLink RL 202 yX8_isStarted ∈ q_W := q_t2 40 rfl rfl
set_option maxRecDepth 100000 in
theorem lk_L_206 : Cond.methodLink RL 206 yX9_isStarted ∈ q_W := q_t7 189 rfl rfl
set_option maxRecDepth 100000 in
theorem lk_L_207 : Cond.methodLink RL 207 yX8_isFinished ∈ q_W := q_t2 44 rfl rfl
set_option maxRecDepth 100000 in
theorem lk_L_210 : Cond.methodLink RL 210 yX9_isFinished ∈ q_W := q_t7 193 rfl rfl
set_option maxRecDepth 100000 in
theorem lk_L_211 : Cond.methodLink RL 211 yX8_clock ∈ q_W := q_t2 48 rfl rfl
set_option maxRecDepth 100000 in
theorem lk_L_214 : Cond.methodLink RL 214 yX9_clock ∈ q_W := q_t7 197 rfl rfl
set_option maxRecDepth 100000 in
theorem lk_L_215 : Cond.methodLink RL 215 yX8_length ∈ q_W := q_t2 52 rfl rfl
set_option maxRecDepth 100000 in
theorem lk_L_218 : Cond.methodLink RL 218 yX9_length ∈ q_W := q_t7 201 rfl rfl
set_option maxRecDepth 100000 in
theorem lk_L_221 : Cond.methodLink RL 221 yX9_laneOf ∈ q_W := q_t7 205 rfl rfl
set_option maxRecDepth 100000 in
theorem lk_L_224 : Cond.methodLink RL 224 yX9_teamInLane ∈ q_W := q_t7 213 rfl rfl
set_option maxRecDepth 100000 in
theorem lk_L_227 : Cond.methodLink RL 227 yX9_speedOf ∈ q_W := q_t7 217 rfl rfl
set_option maxRecDepth 100000 in
theorem lk_L_230 : Cond.methodLink RL 230 yX9_positionOf ∈ q_W := q_t7 221 rfl rfl
set_option maxRecDepth 100000 in
theorem lk_L_233 : Cond.methodLink RL 233 yX9_legOf ∈ q_W := q_t7 225 rfl rfl
set_option maxRecDepth 100000 in
theorem lk_L_236 : Cond.methodLink RL 236 yX9_isRunning ∈ q_W := q_t7 229 rfl rfl
set_option maxRecDepth 100000 in
theorem lk_L_239 : Cond.methodLink RL 239 yX9_isInZone ∈ q_W := q_t7 233 rfl rfl
set_option maxRecDepth 100000 in
theorem lk_L_242 : Cond.methodLink RL 242 yX9_standingOf ∈ q_W := q_t7 237 rfl rfl
set_option maxRecDepth 100000 in
theorem lk_L_245 : Cond.methodLink RL 245 yX9_penaltyOf ∈ q_W := q_t8 1 rfl rfl
set_option maxRecDepth 100000 in
theorem lk_L_248 : Cond.methodLink RL 248 yX9_hasFoul ∈ q_W := q_t8 5 rfl rfl
set_option maxRecDepth 100000 in
theorem lk_L_251 : Cond.methodLink RL 251 yX9_splitOf ∈ q_W := q_t8 9 rfl rfl
set_option maxRecDepth 100000 in
theorem lk_L_254 : Cond.methodLink RL 254 yX9_splitSum ∈ q_W := q_t8 13 rfl rfl
set_option maxRecDepth 100000 in
theorem lk_L_257 : Cond.methodLink RL 257 yX9_timeOf ∈ q_W := q_t8 17 rfl rfl
set_option maxRecDepth 100000 in
theorem lk_L_260 : Cond.methodLink RL 260 yX9_resultOf ∈ q_W := q_t8 25 rfl rfl
set_option maxRecDepth 100000 in
theorem lk_L_263 : Cond.methodLink RL 263 yX9_teamAtRank ∈ q_W := q_t8 33 rfl rfl
set_option maxRecDepth 100000 in
theorem lk_L_266 : Cond.methodLink RL 266 yX9_rankOf ∈ q_W := q_t8 49 rfl rfl
set_option maxRecDepth 100000 in
theorem lk_L_270 : Cond.methodLink RL 270 yX9_meanTime ∈ q_W := q_t8 53 rfl rfl
set_option maxRecDepth 100000 in
theorem lk_L_273 : Cond.methodLink RL 273 yX9_reach ∈ q_W := q_t8 57 rfl rfl
set_option maxRecDepth 100000 in
theorem lk_L_276 : Cond.methodLink RL 276 yX9_reachByStretches ∈ q_W := q_t8 61 rfl rfl
set_option maxRecDepth 100000 in
theorem lk_L_279 : Cond.methodLink RL 279 yX9_secondsToZone ∈ q_W := q_t8 66 rfl rfl
set_option maxRecDepth 100000 in
theorem lk_L_282 : Cond.methodLink RL 282 yX9_refusalReason ∈ q_W := q_t8 70 rfl rfl
set_option maxRecDepth 100000 in
theorem lk_L_285 : Cond.methodLink RL 285 yX9_refusedTeam ∈ q_W := q_t8 74 rfl rfl
set_option maxRecDepth 100000 in
theorem lk_L_288 : Cond.methodLink RL 288 yX9_writeBanner ∈ q_W := q_t8 78 rfl rfl
set_option maxRecDepth 100000 in
theorem lk_L_291 : Cond.methodLink RL 291 yX9_bannerAt ∈ q_W := q_t8 92 rfl rfl
set_option maxRecDepth 100000 in
theorem lk_L_295 : Cond.methodLink RL 295 yX9_type ∈ q_W := q_t8 96 rfl rfl
set_option maxRecDepth 100000 in
theorem lk_L_298 : Cond.methodLink RL 298 yX9_execute ∈ q_W := q_t8 100 rfl rfl
set_option maxRecDepth 100000 in
theorem lk_L_301 : Cond.methodLink RL 301 yX9_errorPosition ∈ q_W := q_t8 168 rfl rfl
set_option maxRecDepth 100000 in
theorem lk_L_304 : Cond.methodLink RL 304 yX9_failedCommand ∈ q_W := q_t8 172 rfl rfl
set_option maxRecDepth 100000 in
theorem lk_L_307 : Cond.methodLink RL 307 yX9_undo ∈ q_W := q_t8 176 rfl rfl
set_option maxRecDepth 100000 in
theorem lk_L_308 : Cond.methodLink RL 308 yX8_save ∈ q_W := q_t2 56 rfl rfl
set_option maxRecDepth 100000 in
theorem lk_L_311 : Cond.methodLink RL 311 yX9_save ∈ q_W := q_t8 180 rfl rfl
set_option maxRecDepth 100000 in
theorem lk_L_314 : Cond.methodLink RL 314 yX9_restore ∈ q_W := q_t8 184 rfl rfl
set_option maxRecDepth 100000 in
theorem lk_X9_41 : Cond.methodLink RX9 41 yX9_copies ∈ q_W := q_t7 41 rfl rfl
set_option maxRecDepth 100000 in
theorem lk_X9_48 : Cond.methodLink RX9 48 yX9_isIn ∈ q_W := q_t7 72 rfl rfl
set_option maxRecDepth 100000 in
theorem lk_X9_52 : Cond.methodLink RX9 52 yX9_of ∈ q_W := q_t7 78 rfl rfl
set_option maxRecDepth 100000 in
theorem lk_X9_56 : Cond.methodLink RX9 56 yX9_keeps ∈ q_W := q_t7 37 rfl rfl
set_option maxRecDepth 100000 in
theorem lk_X9_59 : Cond.methodLink RX9 59 yX9_isUnprepared ∈ q_W := q_t7 44 rfl rfl
set_option maxRecDepth 100000 in
theorem lk_X9_63 : Cond.methodLink RX9 63 yX9_isThrown ∈ q_W := q_t7 48 rfl rfl
set_option maxRecDepth 100000 in
theorem lk_X9_67 : Cond.methodLink RX9 67 yX9_sets ∈ q_W := q_t7 52 rfl rfl
set_option maxRecDepth 100000 in
theorem lk_X9_71 : Cond.methodLink RX9 71 yX9_ends ∈ q_W := q_t7 56 rfl rfl
set_option maxRecDepth 100000 in
theorem lk_X9_75 : Cond.methodLink RX9 75 yX9_isTeam ∈ q_W := q_t7 68 rfl rfl
set_option maxRecDepth 100000 in
theorem lk_X9_79 : Cond.methodLink RX9 79 yX9_isLeg ∈ q_W := q_t7 75 rfl rfl
set_option maxRecDepth 100000 in
theorem lk_X9_82 : Cond.methodLink RX9 82 yX9_speeds ∈ q_W := q_t7 64 rfl rfl
set_option maxRecDepth 100000 in
theorem lk_X9_86 : Cond.methodLink RX9 86 yX9_freeLane ∈ q_W := q_t7 94 rfl rfl
set_option maxRecDepth 100000 in
theorem lk_X9_89 : Cond.methodLink RX9 89 yX9_draws ∈ q_W := q_t7 90 rfl rfl
set_option maxRecDepth 100000 in
theorem lk_X9_92 : Cond.methodLink RX9 92 yX9_starts ∈ q_W := q_t7 102 rfl rfl
set_option maxRecDepth 100000 in
theorem lk_X9_96 : Cond.methodLink RX9 96 yX9_endOf ∈ q_W := q_t7 126 rfl rfl
set_option maxRecDepth 100000 in
theorem lk_X9_99 : Cond.methodLink RX9 99 yX9_step ∈ q_W := q_t7 134 rfl rfl
set_option maxRecDepth 100000 in
theorem lk_X9_102 : Cond.methodLink RX9 102 yX9_standsAtBound ∈ q_W := q_t7 122 rfl rfl
set_option maxRecDepth 100000 in
theorem lk_X9_105 : Cond.methodLink RX9 105 yX9_carries ∈ q_W := q_t7 130 rfl rfl
set_option maxRecDepth 100000 in
theorem lk_X9_109 : Cond.methodLink RX9 109 yX9_inStatus ∈ q_W := q_t7 114 rfl rfl
set_option maxRecDepth 100000 in
theorem lk_X9_112 : Cond.methodLink RX9 112 yX9_moves ∈ q_W := q_t7 118 rfl rfl
set_option maxRecDepth 100000 in
theorem lk_X9_115 : Cond.methodLink RX9 115 yX9_secondsPass ∈ q_W := q_t7 110 rfl rfl
set_option maxRecDepth 100000 in
theorem lk_X9_118 : Cond.methodLink RX9 118 yX9_reason ∈ q_W := q_t7 149 rfl rfl
set_option maxRecDepth 100000 in
theorem lk_X9_127 : Cond.methodLink RX9 127 yX9_isRefused ∈ q_W := q_t7 145 rfl rfl
set_option maxRecDepth 100000 in
theorem lk_X9_130 : Cond.methodLink RX9 130 yX9_passes ∈ q_W := q_t7 141 rfl rfl
set_option maxRecDepth 100000 in
theorem lk_X9_133 : Cond.methodLink RX9 133 yX9_inZone ∈ q_W := q_t7 161 rfl rfl
set_option maxRecDepth 100000 in
theorem lk_X9_136 : Cond.methodLink RX9 136 yX9_drops ∈ q_W := q_t7 157 rfl rfl
set_option maxRecDepth 100000 in
theorem lk_X9_139 : Cond.methodLink RX9 139 yX9_leaves ∈ q_W := q_t7 169 rfl rfl
set_option maxRecDepth 100000 in
theorem lk_X9_142 : Cond.methodLink RX9 142 yX9_protests ∈ q_W := q_t7 177 rfl rfl
set_option maxRecDepth 100000 in
theorem lk_X9_145 : Cond.methodLink RX9 145 yX9_ofTeam ∈ q_W := q_t7 209 rfl rfl
set_option maxRecDepth 100000 in
theorem lk_X9_148 : Cond.methodLink RX9 148 yX9_isNoResult ∈ q_W := q_t8 21 rfl rfl
set_option maxRecDepth 100000 in
theorem lk_X9_151 : Cond.methodLink RX9 151 yX9_result ∈ q_W := q_t8 29 rfl rfl
set_option maxRecDepth 100000 in
theorem lk_X9_154 : Cond.methodLink RX9 154 yX9_group ∈ q_W := q_t8 45 rfl rfl
set_option maxRecDepth 100000 in
theorem lk_X9_157 : Cond.methodLink RX9 157 yX9_isAhead ∈ q_W := q_t8 41 rfl rfl
set_option maxRecDepth 100000 in
theorem lk_X9_161 : Cond.methodLink RX9 161 yX9_rank ∈ q_W := q_t8 37 rfl rfl
set_option maxRecDepth 100000 in
theorem lk_X9_164 : Cond.methodLink RX9 164 yX9_reach ∈ q_W := q_t8 65 rfl rfl
set_option maxRecDepth 100000 in
theorem lk_X9_170 : Cond.methodLink RX9 170 yX9_number ∈ q_W := q_t8 86 rfl rfl
set_option maxRecDepth 100000 in
theorem lk_X9_173 : Cond.methodLink RX9 173 yX9_puts ∈ q_W := q_t8 82 rfl rfl
set_option maxRecDepth 100000 in
theorem lk_X9_190 : Cond.methodLink RX9 190 yX9_sign ∈ q_W := q_t8 112 rfl rfl
set_option maxRecDepth 100000 in
theorem lk_X9_193 : Cond.methodLink RX9 193 yX9_isSign ∈ q_W := q_t8 127 rfl rfl
set_option maxRecDepth 100000 in
theorem lk_X9_196 : Cond.methodLink RX9 196 yX9_isNumber ∈ q_W := q_t8 142 rfl rfl
set_option maxRecDepth 100000 in
theorem lk_X9_204 : Cond.methodLink RX9 204 yX9_isWord ∈ q_W := q_t8 132 rfl rfl
set_option maxRecDepth 100000 in
theorem lk_X9_210 : Cond.methodLink RX9 210 yX9_isSpaced ∈ q_W := q_t8 138 rfl rfl
set_option maxRecDepth 100000 in
theorem lk_X9_217 : Cond.methodLink RX9 217 yX9_isKind ∈ q_W := q_t8 152 rfl rfl
set_option maxRecDepth 100000 in
theorem lk_X9_224 : Cond.methodLink RX9 224 yX9_readsS ∈ q_W := q_t8 123 rfl rfl
set_option maxRecDepth 100000 in
theorem lk_X9_227 : Cond.methodLink RX9 227 yX9_readsP ∈ q_W := q_t8 146 rfl rfl
set_option maxRecDepth 100000 in
theorem lk_X9_230 : Cond.methodLink RX9 230 yX9_readsD ∈ q_W := q_t8 156 rfl rfl
set_option maxRecDepth 100000 in
theorem lk_X9_240 : Cond.methodLink RX9 240 yX9_isFirst ∈ q_W := q_t8 116 rfl rfl
set_option maxRecDepth 100000 in
theorem lk_X9_243 : Cond.methodLink RX9 243 yX9_readsRest ∈ q_W := q_t8 119 rfl rfl
set_option maxRecDepth 100000 in
theorem lk_X9_246 : Cond.methodLink RX9 246 yX9_readsCommand ∈ q_W := q_t8 108 rfl rfl
set_option maxRecDepth 100000 in
theorem lk_X9_249 : Cond.methodLink RX9 249 yX9_isProgram ∈ q_W := q_t8 104 rfl rfl
set_option maxRecDepth 100000 in
theorem lk_X9_252 : Cond.methodLink RX9 252 yX9_does ∈ q_W := q_t8 164 rfl rfl
