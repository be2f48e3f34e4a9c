/-! words, methods, classes: what the rows of names rest on -/
-- the words: of the tables, those that every call hands on; and the private constructors of nest mates
def pv_T : List Cond := lw_tbl.filter goodWord
theorem pv_m {w : Cond} (i : Nat) (h : lw_tbl[i]? = some w) (hg : goodWord w = true) : w ∈ pv_T := List.mem_filter.mpr ⟨List.mem_of_getElem? h, hg⟩
theorem pv_T_good {ws : List Cond} (h : ∀ w ∈ ws, w ∈ pv_T) : GoodIn pv_T ws := fun w hw => ⟨h w hw, good_of_word (List.mem_filter.mp (h w hw)).2⟩
abbrev pv_N : List (String × Nat × MethodName × String) := [("StrikeOut", 9, ⟨"StrikeOut$Tape", "<init>", "()V"⟩, "StrikeOut"), ("StrikeOut", 22, ⟨"StrikeOut$Blank", "<init>", "()V"⟩, "StrikeOut"), ("StrikeOut", 38, ⟨"StrikeOut$Law", "<init>", "()V"⟩, "StrikeOut"), ("StrikeOut", 45, ⟨"StrikeOut$LawReader", "<init>", "()V"⟩, "StrikeOut"), ("StrikeOut$LawReader", 17, ⟨"StrikeOut$Law", "<init>", "()V"⟩, "StrikeOut"), ("StrikeOut", 52, ⟨"StrikeOut$Book", "<init>", "()V"⟩, "StrikeOut"), ("StrikeOut", 65, ⟨"StrikeOut$Fits", "<init>", "()V"⟩, "StrikeOut"), ("StrikeOut", 72, ⟨"StrikeOut$Choice", "<init>", "()V"⟩, "StrikeOut"), ("StrikeOut", 79, ⟨"StrikeOut$Hiding", "<init>", "()V"⟩, "StrikeOut"), ("StrikeOut", 90, ⟨"StrikeOut$Sharing", "<init>", "()V"⟩, "StrikeOut")]
/-- a method's rows: its class, its name, its code, its locals, its return -/
abbrev pv_M : Type := String × String × ByteArray × Nat × Option FieldType
def pv_F (ci : Nat) (C : String) (T : u_T) (N : Nat) (ty : Nat → FieldType) : Prop := vwCl[ci]? = some (C, T, N) ∧ (∀ w ∈ u_ws C T N, w ∈ pv_T) ∧ (∀ k, k < N → parseFieldDescriptor (T k).2.2.1 = some (ty k)) ∧ (∀ a, a < N → ∀ b, b < N → a ≠ b → (T a).2.1 ≠ (T b).2.1)
/-- what the tables say of a method -/
def pv_y (y : MethodName) (M : pv_M) (n : Nat) : Prop := Cond.code y M.2.2.1 M.2.2.2.1 M.2.2.2.2 ∈ pv_T ∧ Cond.initialized y.cls ∈ pv_T ∧ (y.cls ≠ "java/lang/invoke/MethodHandle" ∧ y.cls ≠ "java/lang/invoke/VarHandle" ∧ (parseMethodDescriptor y.desc).map (fun d => d.parameters.length) = some n) ∧ M.2.2.2.1 ≤ 21
