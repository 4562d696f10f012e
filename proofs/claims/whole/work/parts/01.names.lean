def am_tb : List Cond := lw_tbl.filter goodWord
theorem tb_of {w : Cond} (h : w ∈ lw_tbl) (hg : goodWord w = true) : w ∈ am_tb := List.mem_filter.mpr ⟨h, hg⟩
theorem tb_at {w : Cond} (i : Nat) (h : tables_1[i]? = some w) (hg : goodWord w = true) : w ∈ am_tb := tb_of (List.mem_append_right _ (List.mem_of_getElem? h)) hg
-- classes: 0 RumourCircle, 1 Buffer, 2 Message, 3 Node, 4 Row, 5 the reference, 6 the law
def R_o (o : Nat) : String := ["RumourCircle", "RumourCircle$Buffer", "RumourCircle$Message", "RumourCircle$Node", "RumourCircle$Row", "RumourCircleModel", "RumourCircleLaw"].getD o ""
def T_o (ci : Nat) : u_T := fun f => [[("RumourCircle", "n", "I", true), ("RumourCircle", "nodes", "[LRumourCircle$Node;", true), ("RumourCircle", "row", "LRumourCircle$Row;", true)],
  [("RumourCircle$Buffer", "newsStatus", "[I", true), ("RumourCircle$Buffer", "newsIncarnation", "[I", true), ("RumourCircle$Buffer", "timesSent", "[I", true)],
  [("RumourCircle$Message", "kind", "I", false), ("RumourCircle$Message", "sender", "I", false), ("RumourCircle$Message", "receiver", "I", false), ("RumourCircle$Message", "origin", "I", false), ("RumourCircle$Message", "target", "I", false), ("RumourCircle$Message", "probeNumber", "I", false), ("RumourCircle$Message", "newsCount", "I", false), ("RumourCircle$Message", "newsNode", "[I", true), ("RumourCircle$Message", "newsStatus", "[I", true), ("RumourCircle$Message", "newsIncarnation", "[I", true)],
  [("RumourCircle$Node", "self", "I", true), ("RumourCircle$Node", "n", "I", true), ("RumourCircle$Node", "statusOf", "[I", true), ("RumourCircle$Node", "incarnationOf", "[I", true), ("RumourCircle$Node", "timerFor", "[I", true), ("RumourCircle$Node", "buffer", "LRumourCircle$Buffer;", true), ("RumourCircle$Node", "up", "Z", false), ("RumourCircle$Node", "lastTarget", "I", false), ("RumourCircle$Node", "probeNumber", "I", false), ("RumourCircle$Node", "target", "I", false), ("RumourCircle$Node", "answered", "Z", false)],
  [("RumourCircle$Row", "places", "[LRumourCircle$Message;", true), ("RumourCircle$Row", "size", "I", false)],
  [("RumourCircleModel", "n", "I", false), ("RumourCircleModel", "down", "[Z", false), ("RumourCircleModel", "view", "[I", false), ("RumourCircleModel", "incarnations", "[I", false), ("RumourCircleModel", "timers", "[I", false), ("RumourCircleModel", "kept", "[Z", false), ("RumourCircleModel", "keptStatus", "[I", false), ("RumourCircleModel", "keptNumber", "[I", false), ("RumourCircleModel", "keptSent", "[I", false), ("RumourCircleModel", "last", "[I", false), ("RumourCircleModel", "latest", "[I", false), ("RumourCircleModel", "target", "[I", false), ("RumourCircleModel", "answered", "[Z", false), ("RumourCircleModel", "row", "I", false), ("RumourCircleModel", "kind", "[I", false), ("RumourCircleModel", "from", "[I", false), ("RumourCircleModel", "to", "[I", false), ("RumourCircleModel", "origin", "[I", false), ("RumourCircleModel", "about", "[I", false), ("RumourCircleModel", "number", "[I", false), ("RumourCircleModel", "carried", "[I", false), ("RumourCircleModel", "newsNode", "[I", false), ("RumourCircleModel", "newsStatus", "[I", false), ("RumourCircleModel", "newsNumber", "[I", false)]].getD ci [] |>.getD f ("", "", "", false)
def t_f (ci f : Nat) : FieldType := [[.int, .array (.object "RumourCircle$Node"), .object "RumourCircle$Row"],
  [.array .int, .array .int, .array .int],
  [.int, .int, .int, .int, .int, .int, .int, .array .int, .array .int, .array .int],
  [.int, .int, .array .int, .array .int, .array .int, .object "RumourCircle$Buffer", .boolean, .int, .int, .int, .boolean],
  [.array (.object "RumourCircle$Message"), .int],
  [.int, .array .boolean, .array .int, .array .int, .array .int, .array .boolean, .array .int, .array .int, .array .int, .array .int, .array .int, .array .int, .array .boolean, .int, .array .int, .array .int, .array .int, .array .int, .array .int, .array .int, .array .int, .array .int, .array .int, .array .int]].getD ci [] |>.getD f .int
def N_c (ci : Nat) : Nat := [3, 3, 10, 11, 2, 24].getD ci 0
def am_cl : List vw_C := [(R_o 0, T_o 0, N_c 0), (R_o 1, T_o 1, N_c 1), (R_o 2, T_o 2, N_c 2), (R_o 3, T_o 3, N_c 3), (R_o 4, T_o 4, N_c 4), (R_o 5, T_o 5, N_c 5)]
theorem cl_at (ci : Nat) (h : ci < 6) : am_cl[ci]? = some (R_o ci, T_o ci, N_c ci) := by
  match ci, h with
  | 0, _ => rfl
  | 1, _ => rfl
  | 2, _ => rfl
  | 3, _ => rfl
  | 4, _ => rfl
  | 5, _ => rfl
  | k + 6, h => omega
theorem c_ok_0 : (∀ w ∈ u_ws (R_o 0) (T_o 0) (N_c 0), w ∈ am_tb) ∧ (∀ f, f < N_c 0 → parseFieldDescriptor (T_o 0 f).2.2.1 = some (t_f 0 f)) ∧ (∀ a, a < N_c 0 → ∀ b, b < N_c 0 → a ≠ b → (T_o 0 a).2.1 ≠ (T_o 0 b).2.1) ∧ (∀ f, f < N_c 0 → (T_o 0 f).1 = R_o 0) ∧ Cond.instantiable (R_o 0) (N_c 0) ∈ am_tb ∧ Cond.initialized (R_o 0) ∈ am_tb := ⟨by decide +kernel, by decide +kernel, by decide +kernel, by decide +kernel, by decide +kernel, by decide +kernel⟩
theorem c_ok_1 : (∀ w ∈ u_ws (R_o 1) (T_o 1) (N_c 1), w ∈ am_tb) ∧ (∀ f, f < N_c 1 → parseFieldDescriptor (T_o 1 f).2.2.1 = some (t_f 1 f)) ∧ (∀ a, a < N_c 1 → ∀ b, b < N_c 1 → a ≠ b → (T_o 1 a).2.1 ≠ (T_o 1 b).2.1) ∧ (∀ f, f < N_c 1 → (T_o 1 f).1 = R_o 1) ∧ Cond.instantiable (R_o 1) (N_c 1) ∈ am_tb ∧ Cond.initialized (R_o 1) ∈ am_tb := ⟨by decide +kernel, by decide +kernel, by decide +kernel, by decide +kernel, by decide +kernel, by decide +kernel⟩
theorem c_ok_2 : (∀ w ∈ u_ws (R_o 2) (T_o 2) (N_c 2), w ∈ am_tb) ∧ (∀ f, f < N_c 2 → parseFieldDescriptor (T_o 2 f).2.2.1 = some (t_f 2 f)) ∧ (∀ a, a < N_c 2 → ∀ b, b < N_c 2 → a ≠ b → (T_o 2 a).2.1 ≠ (T_o 2 b).2.1) ∧ (∀ f, f < N_c 2 → (T_o 2 f).1 = R_o 2) ∧ Cond.instantiable (R_o 2) (N_c 2) ∈ am_tb ∧ Cond.initialized (R_o 2) ∈ am_tb := ⟨by decide +kernel, by decide +kernel, by decide +kernel, by decide +kernel, by decide +kernel, by decide +kernel⟩
theorem c_ok_3 : (∀ w ∈ u_ws (R_o 3) (T_o 3) (N_c 3), w ∈ am_tb) ∧ (∀ f, f < N_c 3 → parseFieldDescriptor (T_o 3 f).2.2.1 = some (t_f 3 f)) ∧ (∀ a, a < N_c 3 → ∀ b, b < N_c 3 → a ≠ b → (T_o 3 a).2.1 ≠ (T_o 3 b).2.1) ∧ (∀ f, f < N_c 3 → (T_o 3 f).1 = R_o 3) ∧ Cond.instantiable (R_o 3) (N_c 3) ∈ am_tb ∧ Cond.initialized (R_o 3) ∈ am_tb := ⟨by decide +kernel, by decide +kernel, by decide +kernel, by decide +kernel, by decide +kernel, by decide +kernel⟩
theorem c_ok_4 : (∀ w ∈ u_ws (R_o 4) (T_o 4) (N_c 4), w ∈ am_tb) ∧ (∀ f, f < N_c 4 → parseFieldDescriptor (T_o 4 f).2.2.1 = some (t_f 4 f)) ∧ (∀ a, a < N_c 4 → ∀ b, b < N_c 4 → a ≠ b → (T_o 4 a).2.1 ≠ (T_o 4 b).2.1) ∧ (∀ f, f < N_c 4 → (T_o 4 f).1 = R_o 4) ∧ Cond.instantiable (R_o 4) (N_c 4) ∈ am_tb ∧ Cond.initialized (R_o 4) ∈ am_tb := ⟨by decide +kernel, by decide +kernel, by decide +kernel, by decide +kernel, by decide +kernel, by decide +kernel⟩
theorem c_ok_5 : (∀ w ∈ u_ws (R_o 5) (T_o 5) (N_c 5), w ∈ am_tb) ∧ (∀ f, f < N_c 5 → parseFieldDescriptor (T_o 5 f).2.2.1 = some (t_f 5 f)) ∧ (∀ a, a < N_c 5 → ∀ b, b < N_c 5 → a ≠ b → (T_o 5 a).2.1 ≠ (T_o 5 b).2.1) ∧ (∀ f, f < N_c 5 → (T_o 5 f).1 = R_o 5) ∧ Cond.instantiable (R_o 5) (N_c 5) ∈ am_tb ∧ Cond.initialized (R_o 5) ∈ am_tb := ⟨by decide +kernel, by decide +kernel, by decide +kernel, by decide +kernel, by decide +kernel, by decide +kernel⟩
theorem c_ok (ci : Nat) (h : ci < 6) : (∀ w ∈ u_ws (R_o ci) (T_o ci) (N_c ci), w ∈ am_tb) ∧ (∀ f, f < N_c ci → parseFieldDescriptor (T_o ci f).2.2.1 = some (t_f ci f)) ∧ (∀ a, a < N_c ci → ∀ b, b < N_c ci → a ≠ b → (T_o ci a).2.1 ≠ (T_o ci b).2.1) ∧ (∀ f, f < N_c ci → (T_o ci f).1 = R_o ci) ∧ Cond.instantiable (R_o ci) (N_c ci) ∈ am_tb ∧ Cond.initialized (R_o ci) ∈ am_tb := by
  match ci, h with
  | 0, _ => exact c_ok_0
  | 1, _ => exact c_ok_1
  | 2, _ => exact c_ok_2
  | 3, _ => exact c_ok_3
  | 4, _ => exact c_ok_4
  | 5, _ => exact c_ok_5
  | k + 6, h => omega
def F_T : List (Nat × Nat × Nat × Nat) := [(0, 9, 0, 0), (0, 15, 0, 1), (0, 25, 0, 2), (3, 9, 3, 0), (3, 15, 3, 1), (3, 18, 3, 2), (3, 22, 3, 3), (3, 25, 3, 4), (3, 33, 3, 5), (3, 37, 3, 6), (3, 41, 3, 7), (3, 44, 3, 9), (1, 9, 1, 0), (1, 15, 1, 1), (1, 18, 1, 2), (4, 11, 4, 0), (2, 9, 2, 7), (2, 15, 2, 8), (2, 18, 2, 9), (0, 55, 3, 6), (0, 76, 3, 9), (0, 137, 3, 0), (0, 140, 3, 8), (3, 47, 3, 10), (3, 62, 3, 8), (0, 98, 2, 0), (0, 103, 2, 1), (0, 106, 2, 2), (0, 161, 2, 3), (0, 109, 2, 4), (0, 164, 2, 5), (0, 82, 3, 5), (4, 18, 4, 1), (1, 21, 2, 6), (1, 35, 2, 7), (1, 38, 2, 8), (1, 39, 2, 9), (3, 69, 2, 6), (3, 74, 2, 7), (3, 77, 2, 8), (3, 80, 2, 9), (0, 91, 4, 1), (0, 66, 3, 2), (0, 70, 3, 3), (0, 73, 3, 4), (0, 79, 3, 10), (0, 86, 1, 2), (0, 94, 4, 0), (0, 110, 2, 6), (0, 115, 2, 7), (0, 120, 2, 8), (0, 123, 2, 9), (5, 7, 5, 1), (5, 13, 5, 2), (5, 17, 5, 3), (5, 20, 5, 4), (5, 23, 5, 5), (5, 26, 5, 6), (5, 29, 5, 7), (5, 32, 5, 8), (5, 35, 5, 9), (5, 38, 5, 10), (5, 41, 5, 11), (5, 44, 5, 12), (5, 47, 5, 14), (5, 50, 5, 15), (5, 53, 5, 16), (5, 56, 5, 17), (5, 59, 5, 18), (5, 62, 5, 19), (5, 65, 5, 20), (5, 68, 5, 21), (5, 71, 5, 22), (5, 74, 5, 23), (5, 77, 5, 0), (5, 93, 5, 13)]
def C_T : List (Nat × Nat × Nat) := [(0, 13, 3), (0, 22, 4), (3, 28, 1), (4, 9, 2), (6, 7, 0), (6, 18, 5)]
def Q_T : List (Nat × Nat × Nat) := [(0, 13, 2), (4, 9, 3)]
def O_T : List (Nat × Nat) := [(0, 1), (3, 3), (1, 3), (4, 3), (2, 3), (5, 1)]
def M_T : List (Nat × Nat × Nat) := [(0, 19, 1), (0, 24, 3), (3, 30, 2), (4, 17, 4), (0, 29, 6), (0, 33, 8), (0, 63, 7), (0, 128, 9), (0, 131, 12), (0, 134, 14), (0, 143, 17), (3, 50, 10), (3, 90, 11), (3, 54, 13), (3, 58, 15), (3, 65, 16), (0, 169, 18), (0, 173, 19), (1, 27, 20), (1, 31, 21), (0, 37, 13), (0, 41, 23), (0, 147, 16), (0, 150, 24), (0, 44, 26), (0, 47, 27), (0, 51, 28), (0, 153, 29), (0, 157, 32), (3, 83, 30), (3, 86, 31), (0, 165, 33), (0, 59, 36), (5, 121, 51), (5, 110, 52), (5, 114, 54), (5, 117, 57), (5, 107, 53), (5, 85, 55), (5, 89, 56), (5, 96, 58), (5, 100, 59), (5, 104, 60), (5, 124, 63), (5, 127, 65), (5, 130, 66), (5, 81, 64), (5, 133, 68), (5, 136, 62), (5, 140, 70), (5, 144, 67), (5, 153, 73), (6, 9, 48), (6, 15, 0), (6, 20, 49), (6, 21, 5), (6, 25, 62), (6, 26, 22), (6, 29, 67), (6, 30, 25), (6, 33, 50), (6, 34, 34), (6, 38, 61), (6, 39, 35), (6, 43, 69), (6, 44, 37), (6, 47, 71), (6, 48, 6), (6, 51, 72), (6, 52, 38), (6, 56, 73), (6, 57, 39), (6, 60, 74), (6, 61, 40), (6, 64, 75), (6, 65, 41), (6, 68, 76), (6, 69, 42), (6, 72, 77), (6, 73, 43), (6, 76, 78), (6, 77, 44), (6, 80, 79), (6, 81, 45), (6, 85, 80), (6, 86, 46), (6, 89, 81), (6, 90, 47), (6, 93, 82)]
def m_N : Nat := 83
def m_Y (mi : Nat) : MethodName := [⟨"RumourCircle", "<init>", "(I)V"⟩,
  ⟨"RumourCircle$Node", "<init>", "(II)V"⟩,
  ⟨"RumourCircle$Buffer", "<init>", "(I)V"⟩,
  ⟨"RumourCircle$Row", "<init>", "()V"⟩,
  ⟨"RumourCircle$Message", "<init>", "()V"⟩,
  ⟨"RumourCircle", "period", "(I)I"⟩,
  ⟨"RumourCircle", "isUp", "(I)Z"⟩,
  ⟨"RumourCircle", "isNode", "(I)Z"⟩,
  ⟨"RumourCircle", "makePeriod", "(LRumourCircle$Node;)I"⟩,
  ⟨"RumourCircle$Node", "ageSuspects", "()V"⟩,
  ⟨"RumourCircle$Node", "adopt", "(III)V"⟩,
  ⟨"RumourCircle$Buffer", "announce", "(III)V"⟩,
  ⟨"RumourCircle$Node", "suspectSilentTarget", "()V"⟩,
  ⟨"RumourCircle$Node", "waitsForAnswer", "()Z"⟩,
  ⟨"RumourCircle$Node", "chooseTarget", "()V"⟩,
  ⟨"RumourCircle$Node", "nextTarget", "()I"⟩,
  ⟨"RumourCircle$Node", "nextAfter", "(I)I"⟩,
  ⟨"RumourCircle", "send", "(ILRumourCircle$Node;IIII)V"⟩,
  ⟨"RumourCircle$Row", "placeForNext", "()LRumourCircle$Message;"⟩,
  ⟨"RumourCircle$Buffer", "load", "(LRumourCircle$Message;)V"⟩,
  ⟨"RumourCircle$Buffer", "leastSentBut", "(I)I"⟩,
  ⟨"RumourCircle$Buffer", "handOver", "(ILRumourCircle$Message;)V"⟩,
  ⟨"RumourCircle", "help", "(I)I"⟩,
  ⟨"RumourCircle", "askForHelp", "(LRumourCircle$Node;)I"⟩,
  ⟨"RumourCircle$Node", "mayAsk", "(I)Z"⟩,
  ⟨"RumourCircle", "deliver", "(I)I"⟩,
  ⟨"RumourCircle$Row", "has", "(I)Z"⟩,
  ⟨"RumourCircle", "arrive", "(I)I"⟩,
  ⟨"RumourCircle$Row", "takeOut", "(I)LRumourCircle$Message;"⟩,
  ⟨"RumourCircle$Node", "hearAll", "(LRumourCircle$Message;)V"⟩,
  ⟨"RumourCircle$Node", "hear", "(III)V"⟩,
  ⟨"RumourCircle$Node", "isNewer", "(IIII)Z"⟩,
  ⟨"RumourCircle", "react", "(LRumourCircle$Node;LRumourCircle$Message;)V"⟩,
  ⟨"RumourCircle$Node", "takeAnswer", "(I)V"⟩,
  ⟨"RumourCircle", "lose", "(I)Z"⟩,
  ⟨"RumourCircle", "round", "()I"⟩,
  ⟨"RumourCircle", "arriveAll", "()I"⟩,
  ⟨"RumourCircle", "stop", "(I)Z"⟩,
  ⟨"RumourCircle", "status", "(II)I"⟩,
  ⟨"RumourCircle", "incarnation", "(II)I"⟩,
  ⟨"RumourCircle", "timer", "(II)I"⟩,
  ⟨"RumourCircle", "probe", "(I)I"⟩,
  ⟨"RumourCircle", "sent", "(II)I"⟩,
  ⟨"RumourCircle", "flying", "()I"⟩,
  ⟨"RumourCircle", "message", "(I)I"⟩,
  ⟨"RumourCircle", "news", "(II)J"⟩,
  ⟨"RumourCircle", "declared", "(I)I"⟩,
  ⟨"RumourCircle", "doubted", "()I"⟩,
  ⟨"RumourCircleLaw", "cell", "([II)I"⟩,
  ⟨"RumourCircleModel", "<init>", "(I)V"⟩,
  ⟨"RumourCircleModel", "deliver", "(I)I"⟩,
  ⟨"RumourCircleModel", "arrive", "(I)V"⟩,
  ⟨"RumourCircleModel", "takeOut", "(I)V"⟩,
  ⟨"RumourCircleModel", "copy", "(II)V"⟩,
  ⟨"RumourCircleModel", "hear", "(IIII)V"⟩,
  ⟨"RumourCircleModel", "announce", "(IIII)V"⟩,
  ⟨"RumourCircleModel", "isNewer", "(IIII)Z"⟩,
  ⟨"RumourCircleModel", "send", "(IIIIII)V"⟩,
  ⟨"RumourCircleModel", "pick", "(II)I"⟩,
  ⟨"RumourCircleModel", "carry", "(II)V"⟩,
  ⟨"RumourCircleModel", "spend", "(II)V"⟩,
  ⟨"RumourCircleModel", "lose", "(I)Z"⟩,
  ⟨"RumourCircleModel", "period", "(I)I"⟩,
  ⟨"RumourCircleModel", "works", "(I)Z"⟩,
  ⟨"RumourCircleModel", "isNode", "(I)Z"⟩,
  ⟨"RumourCircleModel", "age", "(I)V"⟩,
  ⟨"RumourCircleModel", "doubt", "(I)V"⟩,
  ⟨"RumourCircleModel", "help", "(I)I"⟩,
  ⟨"RumourCircleModel", "waits", "(I)Z"⟩,
  ⟨"RumourCircleModel", "round", "()I"⟩,
  ⟨"RumourCircleModel", "empty", "()I"⟩,
  ⟨"RumourCircleModel", "stop", "(I)Z"⟩,
  ⟨"RumourCircleModel", "isUp", "(I)Z"⟩,
  ⟨"RumourCircleModel", "status", "(II)I"⟩,
  ⟨"RumourCircleModel", "incarnation", "(II)I"⟩,
  ⟨"RumourCircleModel", "timer", "(II)I"⟩,
  ⟨"RumourCircleModel", "probe", "(I)I"⟩,
  ⟨"RumourCircleModel", "sent", "(II)I"⟩,
  ⟨"RumourCircleModel", "flying", "()I"⟩,
  ⟨"RumourCircleModel", "message", "(I)I"⟩,
  ⟨"RumourCircleModel", "news", "(II)J"⟩,
  ⟨"RumourCircleModel", "declared", "(I)I"⟩,
  ⟨"RumourCircleModel", "doubted", "()I"⟩,
  ⟨"RumourCircleLaw", "law", "([I)Z"⟩].getD mi ⟨"", "", ""⟩
def m_B (mi : Nat) : ByteArray := [prog_1_method_1_code, prog_4_method_1_code, prog_2_method_1_code, prog_5_method_1_code, prog_3_method_1_code, prog_1_method_2_code, prog_1_method_8_code, prog_1_method_19_code, prog_1_method_20_code, prog_4_method_5_code, prog_4_method_12_code, prog_2_method_2_code, prog_4_method_6_code, prog_4_method_3_code, prog_4_method_7_code, prog_4_method_8_code, prog_4_method_2_code, prog_1_method_25_code, prog_5_method_3_code, prog_2_method_3_code, prog_2_method_4_code, prog_2_method_5_code, prog_1_method_3_code, prog_1_method_21_code, prog_4_method_4_code, prog_1_method_4_code, prog_5_method_2_code, prog_1_method_23_code, prog_5_method_4_code, prog_4_method_10_code, prog_4_method_11_code, prog_4_method_13_code, prog_1_method_24_code, prog_4_method_9_code, prog_1_method_5_code, prog_1_method_6_code, prog_1_method_22_code, prog_1_method_7_code, prog_1_method_9_code, prog_1_method_10_code, prog_1_method_11_code, prog_1_method_12_code, prog_1_method_13_code, prog_1_method_14_code, prog_1_method_15_code, prog_1_method_16_code, prog_1_method_17_code, prog_1_method_18_code, method_2_code, prog_7_method_1_code, prog_7_method_14_code, prog_7_method_13_code, prog_7_method_12_code, prog_7_method_11_code, prog_7_method_7_code, prog_7_method_4_code, prog_7_method_6_code, prog_7_method_10_code, prog_7_method_5_code, prog_7_method_8_code, prog_7_method_9_code, prog_7_method_15_code, prog_7_method_18_code, prog_7_method_3_code, prog_7_method_2_code, prog_7_method_16_code, prog_7_method_17_code, prog_7_method_20_code, prog_7_method_19_code, prog_7_method_22_code, prog_7_method_21_code, prog_7_method_23_code, prog_7_method_24_code, prog_7_method_25_code, prog_7_method_26_code, prog_7_method_27_code, prog_7_method_28_code, prog_7_method_29_code, prog_7_method_30_code, prog_7_method_31_code, prog_7_method_32_code, prog_7_method_33_code, prog_7_method_34_code, code].getD mi ⟨#[]⟩
def m_L (mi : Nat) : Nat := [3, 3, 3, 2, 1, 2, 2, 2, 2, 2, 4, 4, 1, 1, 1, 3, 2, 8, 2, 4, 4, 4, 2, 5, 2, 2, 2, 4, 4, 3, 4, 4, 6, 2, 2, 3, 2, 2, 3, 3, 3, 2, 3, 1, 3, 4, 4, 4, 2, 3, 3, 4, 3, 4, 6, 6, 5, 9, 6, 4, 3, 2, 5, 2, 2, 4, 3, 5, 2, 4, 3, 2, 2, 3, 3, 3, 2, 3, 1, 2, 3, 4, 4, 4].getD mi 0
def m_R (mi : Nat) : Option FieldType := [none, none, none, none, none, some .int, some .boolean, some .boolean, some .int, none, none, none, none, some .boolean, none, some .int, some .int, none, some (.object "RumourCircle$Message"), none, some .int, none, some .int, some .int, some .boolean, some .int, some .boolean, some .int, some (.object "RumourCircle$Message"), none, none, some .boolean, none, none, some .boolean, some .int, some .int, some .boolean, some .int, some .int, some .int, some .int, some .int, some .int, some .int, some .long, some .int, some .int, some .int, none, some .int, none, none, none, none, none, some .boolean, none, some .int, none, none, some .boolean, some .int, some .boolean, some .boolean, none, none, some .int, some .boolean, some .int, some .int, some .boolean, some .boolean, some .int, some .int, some .int, some .int, some .int, some .int, some .int, some .long, some .int, some .int, some .boolean].getD mi none
def m_o (mi : Nat) : Nat := [0, 3, 1, 4, 2, 0, 0, 0, 0, 3, 3, 1, 3, 3, 3, 3, 3, 0, 4, 1, 1, 1, 0, 0, 3, 0, 4, 0, 4, 3, 3, 3, 0, 3, 0, 0, 0, 0, 0, 0, 0, 0, 0, 0, 0, 0, 0, 0, 6, 5, 5, 5, 5, 5, 5, 5, 5, 5, 5, 5, 5, 5, 5, 5, 5, 5, 5, 5, 5, 5, 5, 5, 5, 5, 5, 5, 5, 5, 5, 5, 5, 5, 5, 6].getD mi 0
def m_k (mi : Nat) : Nat := [2, 2, 2, 2, 2, 0, 0, 0, 0, 0, 0, 0, 0, 0, 0, 0, 0, 0, 0, 0, 0, 0, 0, 0, 0, 0, 0, 0, 0, 0, 0, 1, 0, 0, 0, 0, 0, 0, 0, 0, 0, 0, 0, 0, 0, 0, 0, 0, 1, 2, 0, 0, 0, 0, 0, 0, 0, 0, 0, 0, 0, 0, 0, 0, 0, 0, 0, 0, 0, 0, 0, 0, 0, 0, 0, 0, 0, 0, 0, 0, 0, 0, 0, 1].getD mi 0
def m_na (mi : Nat) : Nat := [2, 3, 2, 1, 1, 2, 2, 2, 2, 1, 4, 4, 1, 1, 1, 1, 2, 7, 1, 2, 2, 3, 2, 2, 2, 2, 2, 2, 2, 2, 4, 4, 3, 2, 2, 1, 1, 2, 3, 3, 3, 2, 3, 1, 2, 3, 2, 1, 2, 2, 2, 2, 2, 3, 5, 5, 5, 7, 3, 3, 3, 2, 2, 2, 2, 2, 2, 2, 2, 1, 1, 2, 2, 3, 3, 3, 2, 3, 1, 2, 3, 2, 1, 1].getD mi 0
theorem F_ok : ∀ e ∈ F_T, e.2.2.1 < 6 ∧ e.2.2.2 < N_c e.2.2.1 ∧ Cond.fieldLink (R_o e.1) e.2.1 (R_o e.2.2.1) (T_o e.2.2.1 e.2.2.2).2.1 (T_o e.2.2.1 e.2.2.2).2.2.1 ∈ am_tb := by decide +kernel
theorem C_ok : ∀ e ∈ C_T, e.2.2 < 6 ∧ Cond.classLink (R_o e.1) e.2.1 (R_o e.2.2) ∈ am_tb := by decide +kernel
theorem Q_ok : ∀ e ∈ Q_T, (e.2.2 = 2 ∨ e.2.2 = 3) ∧ Cond.classLink (R_o e.1) e.2.1 (R_o (5 - e.2.2)) ∈ am_tb := by decide +kernel
theorem O_ok : ∀ e ∈ O_T, Cond.methodLink (R_o e.1) e.2 objectInit ∈ am_tb := by decide +kernel
theorem M_ok : ∀ e ∈ M_T, Cond.methodLink (R_o e.1) e.2.1 (m_Y e.2.2) ∈ am_tb ∧ e.2.2 < m_N := by decide +kernel
theorem tb_oc : Cond.code objectInit ⟨#[0xb1]⟩ 1 none ∈ am_tb := tb_at 14 rfl rfl
theorem tb_oi : Cond.instanceMethod objectInit ∈ am_tb := by decide +kernel
theorem tb_aI : Cond.arrayClass .int ∈ am_tb := by decide +kernel
theorem tb_aZ : Cond.arrayClass .boolean ∈ am_tb := by decide +kernel
/-- what the tables say of a method -/
def m_P (mj : Nat) : Prop := Cond.code (m_Y mj) (m_B mj) (m_L mj) (m_R mj) ∈ am_tb ∧ Cond.initialized (m_Y mj).cls ∈ am_tb ∧ (m_Y mj).cls = R_o (m_o mj) ∧ ((m_k mj = 0 → m_o mj < 6) ∧ m_na mj ≤ m_L mj ∧ m_L mj ≤ 21 ∧ plainName (R_o (m_o mj)) = true) ∧ (m_k mj = 0 → Cond.instanceMethod (m_Y mj) ∈ am_tb ∧ Cond.selects (m_Y mj).cls (m_Y mj) (m_Y mj) ∈ am_tb) ∧
  ((m_k mj = 1 → Cond.static (m_Y mj) ∈ am_tb) ∧ (m_k mj = 2 → Cond.instanceMethod (m_Y mj) ∈ am_tb ∧ (m_Y mj).name = "<init>" ∧ m_R mj = none)) ∧ ((m_Y mj).cls ≠ "java/lang/invoke/MethodHandle" ∧ (m_Y mj).cls ≠ "java/lang/invoke/VarHandle" ∧ (parseMethodDescriptor (m_Y mj).desc).map (fun d => d.parameters.length) = some (if m_k mj = 1 then m_na mj else m_na mj - 1))
set_option maxRecDepth 100000 in
theorem mo_0 : m_P 0 := ⟨tb_at 11 rfl rfl, by decide +kernel, by decide +kernel, by decide +kernel, by decide +kernel, by decide +kernel, by decide +kernel⟩
set_option maxRecDepth 100000 in
theorem mo_1 : m_P 1 := ⟨tb_at 20 rfl rfl, by decide +kernel, by decide +kernel, by decide +kernel, by decide +kernel, by decide +kernel, by decide +kernel⟩
set_option maxRecDepth 100000 in
theorem mo_2 : m_P 2 := ⟨tb_at 26 rfl rfl, by decide +kernel, by decide +kernel, by decide +kernel, by decide +kernel, by decide +kernel, by decide +kernel⟩
set_option maxRecDepth 100000 in
theorem mo_3 : m_P 3 := ⟨tb_at 87 rfl rfl, by decide +kernel, by decide +kernel, by decide +kernel, by decide +kernel, by decide +kernel, by decide +kernel⟩
set_option maxRecDepth 100000 in
theorem mo_4 : m_P 4 := ⟨tb_at 94 rfl rfl, by decide +kernel, by decide +kernel, by decide +kernel, by decide +kernel, by decide +kernel, by decide +kernel⟩
set_option maxRecDepth 100000 in
theorem mo_5 : m_P 5 := ⟨tb_at 160 rfl rfl, by decide +kernel, by decide +kernel, by decide +kernel, by decide +kernel, by decide +kernel, by decide +kernel⟩
set_option maxRecDepth 100000 in
theorem mo_6 : m_P 6 := ⟨tb_at 164 rfl rfl, by decide +kernel, by decide +kernel, by decide +kernel, by decide +kernel, by decide +kernel, by decide +kernel⟩
set_option maxRecDepth 100000 in
theorem mo_7 : m_P 7 := ⟨tb_at 168 rfl rfl, by decide +kernel, by decide +kernel, by decide +kernel, by decide +kernel, by decide +kernel, by decide +kernel⟩
set_option maxRecDepth 100000 in
theorem mo_8 : m_P 8 := ⟨tb_at 172 rfl rfl, by decide +kernel, by decide +kernel, by decide +kernel, by decide +kernel, by decide +kernel, by decide +kernel⟩
set_option maxRecDepth 100000 in
theorem mo_9 : m_P 9 := ⟨tb_at 176 rfl rfl, by decide +kernel, by decide +kernel, by decide +kernel, by decide +kernel, by decide +kernel, by decide +kernel⟩
set_option maxRecDepth 100000 in
theorem mo_10 : m_P 10 := ⟨tb_at 180 rfl rfl, by decide +kernel, by decide +kernel, by decide +kernel, by decide +kernel, by decide +kernel, by decide +kernel⟩
set_option maxRecDepth 100000 in
theorem mo_11 : m_P 11 := ⟨tb_at 184 rfl rfl, by decide +kernel, by decide +kernel, by decide +kernel, by decide +kernel, by decide +kernel, by decide +kernel⟩
set_option maxRecDepth 100000 in
theorem mo_12 : m_P 12 := ⟨tb_at 188 rfl rfl, by decide +kernel, by decide +kernel, by decide +kernel, by decide +kernel, by decide +kernel, by decide +kernel⟩
set_option maxRecDepth 100000 in
theorem mo_13 : m_P 13 := ⟨tb_at 192 rfl rfl, by decide +kernel, by decide +kernel, by decide +kernel, by decide +kernel, by decide +kernel, by decide +kernel⟩
set_option maxRecDepth 100000 in
theorem mo_14 : m_P 14 := ⟨tb_at 196 rfl rfl, by decide +kernel, by decide +kernel, by decide +kernel, by decide +kernel, by decide +kernel, by decide +kernel⟩
set_option maxRecDepth 100000 in
theorem mo_15 : m_P 15 := ⟨tb_at 200 rfl rfl, by decide +kernel, by decide +kernel, by decide +kernel, by decide +kernel, by decide +kernel, by decide +kernel⟩
set_option maxRecDepth 100000 in
theorem mo_16 : m_P 16 := ⟨tb_at 204 rfl rfl, by decide +kernel, by decide +kernel, by decide +kernel, by decide +kernel, by decide +kernel, by decide +kernel⟩
set_option maxRecDepth 100000 in
theorem mo_17 : m_P 17 := ⟨tb_at 208 rfl rfl, by decide +kernel, by decide +kernel, by decide +kernel, by decide +kernel, by decide +kernel, by decide +kernel⟩
set_option maxRecDepth 100000 in
theorem mo_18 : m_P 18 := ⟨tb_at 212 rfl rfl, by decide +kernel, by decide +kernel, by decide +kernel, by decide +kernel, by decide +kernel, by decide +kernel⟩
set_option maxRecDepth 100000 in
theorem mo_19 : m_P 19 := ⟨tb_at 216 rfl rfl, by decide +kernel, by decide +kernel, by decide +kernel, by decide +kernel, by decide +kernel, by decide +kernel⟩
set_option maxRecDepth 100000 in
theorem mo_20 : m_P 20 := ⟨tb_at 220 rfl rfl, by decide +kernel, by decide +kernel, by decide +kernel, by decide +kernel, by decide +kernel, by decide +kernel⟩
set_option maxRecDepth 100000 in
theorem mo_21 : m_P 21 := ⟨tb_at 224 rfl rfl, by decide +kernel, by decide +kernel, by decide +kernel, by decide +kernel, by decide +kernel, by decide +kernel⟩
set_option maxRecDepth 100000 in
theorem mo_22 : m_P 22 := ⟨tb_at 228 rfl rfl, by decide +kernel, by decide +kernel, by decide +kernel, by decide +kernel, by decide +kernel, by decide +kernel⟩
set_option maxRecDepth 100000 in
theorem mo_23 : m_P 23 := ⟨tb_at 233 rfl rfl, by decide +kernel, by decide +kernel, by decide +kernel, by decide +kernel, by decide +kernel, by decide +kernel⟩
set_option maxRecDepth 100000 in
theorem mo_24 : m_P 24 := ⟨tb_at 238 rfl rfl, by decide +kernel, by decide +kernel, by decide +kernel, by decide +kernel, by decide +kernel, by decide +kernel⟩
set_option maxRecDepth 100000 in
theorem mo_25 : m_P 25 := ⟨tb_at 242 rfl rfl, by decide +kernel, by decide +kernel, by decide +kernel, by decide +kernel, by decide +kernel, by decide +kernel⟩
set_option maxRecDepth 100000 in
theorem mo_26 : m_P 26 := ⟨tb_at 246 rfl rfl, by decide +kernel, by decide +kernel, by decide +kernel, by decide +kernel, by decide +kernel, by decide +kernel⟩
set_option maxRecDepth 100000 in
theorem mo_27 : m_P 27 := ⟨tb_at 250 rfl rfl, by decide +kernel, by decide +kernel, by decide +kernel, by decide +kernel, by decide +kernel, by decide +kernel⟩
set_option maxRecDepth 100000 in
theorem mo_28 : m_P 28 := ⟨tb_at 254 rfl rfl, by decide +kernel, by decide +kernel, by decide +kernel, by decide +kernel, by decide +kernel, by decide +kernel⟩
set_option maxRecDepth 100000 in
theorem mo_29 : m_P 29 := ⟨tb_at 258 rfl rfl, by decide +kernel, by decide +kernel, by decide +kernel, by decide +kernel, by decide +kernel, by decide +kernel⟩
set_option maxRecDepth 100000 in
theorem mo_30 : m_P 30 := ⟨tb_at 262 rfl rfl, by decide +kernel, by decide +kernel, by decide +kernel, by decide +kernel, by decide +kernel, by decide +kernel⟩
set_option maxRecDepth 100000 in
theorem mo_31 : m_P 31 := ⟨tb_at 265 rfl rfl, by decide +kernel, by decide +kernel, by decide +kernel, by decide +kernel, by decide +kernel, by decide +kernel⟩
set_option maxRecDepth 100000 in
theorem mo_32 : m_P 32 := ⟨tb_at 269 rfl rfl, by decide +kernel, by decide +kernel, by decide +kernel, by decide +kernel, by decide +kernel, by decide +kernel⟩
set_option maxRecDepth 100000 in
theorem mo_33 : m_P 33 := ⟨tb_at 273 rfl rfl, by decide +kernel, by decide +kernel, by decide +kernel, by decide +kernel, by decide +kernel, by decide +kernel⟩
set_option maxRecDepth 100000 in
theorem mo_34 : m_P 34 := ⟨tb_at 277 rfl rfl, by decide +kernel, by decide +kernel, by decide +kernel, by decide +kernel, by decide +kernel, by decide +kernel⟩
set_option maxRecDepth 100000 in
theorem mo_35 : m_P 35 := ⟨tb_at 281 rfl rfl, by decide +kernel, by decide +kernel, by decide +kernel, by decide +kernel, by decide +kernel, by decide +kernel⟩
set_option maxRecDepth 100000 in
theorem mo_36 : m_P 36 := ⟨tb_at 285 rfl rfl, by decide +kernel, by decide +kernel, by decide +kernel, by decide +kernel, by decide +kernel, by decide +kernel⟩
set_option maxRecDepth 100000 in
theorem mo_37 : m_P 37 := ⟨tb_at 289 rfl rfl, by decide +kernel, by decide +kernel, by decide +kernel, by decide +kernel, by decide +kernel, by decide +kernel⟩
set_option maxRecDepth 100000 in
theorem mo_38 : m_P 38 := ⟨tb_at 294 rfl rfl, by decide +kernel, by decide +kernel, by decide +kernel, by decide +kernel, by decide +kernel, by decide +kernel⟩
set_option maxRecDepth 100000 in
theorem mo_39 : m_P 39 := ⟨tb_at 298 rfl rfl, by decide +kernel, by decide +kernel, by decide +kernel, by decide +kernel, by decide +kernel, by decide +kernel⟩
set_option maxRecDepth 100000 in
theorem mo_40 : m_P 40 := ⟨tb_at 302 rfl rfl, by decide +kernel, by decide +kernel, by decide +kernel, by decide +kernel, by decide +kernel, by decide +kernel⟩
set_option maxRecDepth 100000 in
theorem mo_41 : m_P 41 := ⟨tb_at 306 rfl rfl, by decide +kernel, by decide +kernel, by decide +kernel, by decide +kernel, by decide +kernel, by decide +kernel⟩
set_option maxRecDepth 100000 in
theorem mo_42 : m_P 42 := ⟨tb_at 310 rfl rfl, by decide +kernel, by decide +kernel, by decide +kernel, by decide +kernel, by decide +kernel, by decide +kernel⟩
set_option maxRecDepth 100000 in
theorem mo_43 : m_P 43 := ⟨tb_at 314 rfl rfl, by decide +kernel, by decide +kernel, by decide +kernel, by decide +kernel, by decide +kernel, by decide +kernel⟩
set_option maxRecDepth 100000 in
theorem mo_44 : m_P 44 := ⟨tb_at 318 rfl rfl, by decide +kernel, by decide +kernel, by decide +kernel, by decide +kernel, by decide +kernel, by decide +kernel⟩
set_option maxRecDepth 100000 in
theorem mo_45 : m_P 45 := ⟨tb_at 322 rfl rfl, by decide +kernel, by decide +kernel, by decide +kernel, by decide +kernel, by decide +kernel, by decide +kernel⟩
set_option maxRecDepth 100000 in
theorem mo_46 : m_P 46 := ⟨tb_at 329 rfl rfl, by decide +kernel, by decide +kernel, by decide +kernel, by decide +kernel, by decide +kernel, by decide +kernel⟩
set_option maxRecDepth 100000 in
theorem mo_47 : m_P 47 := ⟨tb_at 333 rfl rfl, by decide +kernel, by decide +kernel, by decide +kernel, by decide +kernel, by decide +kernel, by decide +kernel⟩
set_option maxRecDepth 100000 in
theorem mo_48 : m_P 48 := ⟨tb_at 336 rfl rfl, by decide +kernel, by decide +kernel, by decide +kernel, by decide +kernel, by decide +kernel, by decide +kernel⟩
set_option maxRecDepth 100000 in
theorem mo_49 : m_P 49 := ⟨tb_at 341 rfl rfl, by decide +kernel, by decide +kernel, by decide +kernel, by decide +kernel, by decide +kernel, by decide +kernel⟩
set_option maxRecDepth 100000 in
theorem mo_50 : m_P 50 := ⟨tb_at 420 rfl rfl, by decide +kernel, by decide +kernel, by decide +kernel, by decide +kernel, by decide +kernel, by decide +kernel⟩
set_option maxRecDepth 100000 in
theorem mo_51 : m_P 51 := ⟨tb_at 424 rfl rfl, by decide +kernel, by decide +kernel, by decide +kernel, by decide +kernel, by decide +kernel, by decide +kernel⟩
set_option maxRecDepth 100000 in
theorem mo_52 : m_P 52 := ⟨tb_at 428 rfl rfl, by decide +kernel, by decide +kernel, by decide +kernel, by decide +kernel, by decide +kernel, by decide +kernel⟩
set_option maxRecDepth 100000 in
theorem mo_53 : m_P 53 := ⟨tb_at 432 rfl rfl, by decide +kernel, by decide +kernel, by decide +kernel, by decide +kernel, by decide +kernel, by decide +kernel⟩
set_option maxRecDepth 100000 in
theorem mo_54 : m_P 54 := ⟨tb_at 436 rfl rfl, by decide +kernel, by decide +kernel, by decide +kernel, by decide +kernel, by decide +kernel, by decide +kernel⟩
set_option maxRecDepth 100000 in
theorem mo_55 : m_P 55 := ⟨tb_at 440 rfl rfl, by decide +kernel, by decide +kernel, by decide +kernel, by decide +kernel, by decide +kernel, by decide +kernel⟩
set_option maxRecDepth 100000 in
theorem mo_56 : m_P 56 := ⟨tb_at 444 rfl rfl, by decide +kernel, by decide +kernel, by decide +kernel, by decide +kernel, by decide +kernel, by decide +kernel⟩
set_option maxRecDepth 100000 in
theorem mo_57 : m_P 57 := ⟨tb_at 448 rfl rfl, by decide +kernel, by decide +kernel, by decide +kernel, by decide +kernel, by decide +kernel, by decide +kernel⟩
set_option maxRecDepth 100000 in
theorem mo_58 : m_P 58 := ⟨tb_at 452 rfl rfl, by decide +kernel, by decide +kernel, by decide +kernel, by decide +kernel, by decide +kernel, by decide +kernel⟩
set_option maxRecDepth 100000 in
theorem mo_59 : m_P 59 := ⟨tb_at 456 rfl rfl, by decide +kernel, by decide +kernel, by decide +kernel, by decide +kernel, by decide +kernel, by decide +kernel⟩
set_option maxRecDepth 100000 in
theorem mo_60 : m_P 60 := ⟨tb_at 460 rfl rfl, by decide +kernel, by decide +kernel, by decide +kernel, by decide +kernel, by decide +kernel, by decide +kernel⟩
set_option maxRecDepth 100000 in
theorem mo_61 : m_P 61 := ⟨tb_at 464 rfl rfl, by decide +kernel, by decide +kernel, by decide +kernel, by decide +kernel, by decide +kernel, by decide +kernel⟩
set_option maxRecDepth 100000 in
theorem mo_62 : m_P 62 := ⟨tb_at 468 rfl rfl, by decide +kernel, by decide +kernel, by decide +kernel, by decide +kernel, by decide +kernel, by decide +kernel⟩
set_option maxRecDepth 100000 in
theorem mo_63 : m_P 63 := ⟨tb_at 472 rfl rfl, by decide +kernel, by decide +kernel, by decide +kernel, by decide +kernel, by decide +kernel, by decide +kernel⟩
set_option maxRecDepth 100000 in
theorem mo_64 : m_P 64 := ⟨tb_at 476 rfl rfl, by decide +kernel, by decide +kernel, by decide +kernel, by decide +kernel, by decide +kernel, by decide +kernel⟩
set_option maxRecDepth 100000 in
theorem mo_65 : m_P 65 := ⟨tb_at 480 rfl rfl, by decide +kernel, by decide +kernel, by decide +kernel, by decide +kernel, by decide +kernel, by decide +kernel⟩
set_option maxRecDepth 100000 in
theorem mo_66 : m_P 66 := ⟨tb_at 484 rfl rfl, by decide +kernel, by decide +kernel, by decide +kernel, by decide +kernel, by decide +kernel, by decide +kernel⟩
set_option maxRecDepth 100000 in
theorem mo_67 : m_P 67 := ⟨tb_at 488 rfl rfl, by decide +kernel, by decide +kernel, by decide +kernel, by decide +kernel, by decide +kernel, by decide +kernel⟩
set_option maxRecDepth 100000 in
theorem mo_68 : m_P 68 := ⟨tb_at 492 rfl rfl, by decide +kernel, by decide +kernel, by decide +kernel, by decide +kernel, by decide +kernel, by decide +kernel⟩
set_option maxRecDepth 100000 in
theorem mo_69 : m_P 69 := ⟨tb_at 496 rfl rfl, by decide +kernel, by decide +kernel, by decide +kernel, by decide +kernel, by decide +kernel, by decide +kernel⟩
set_option maxRecDepth 100000 in
theorem mo_70 : m_P 70 := ⟨tb_at 501 rfl rfl, by decide +kernel, by decide +kernel, by decide +kernel, by decide +kernel, by decide +kernel, by decide +kernel⟩
set_option maxRecDepth 100000 in
theorem mo_71 : m_P 71 := ⟨tb_at 506 rfl rfl, by decide +kernel, by decide +kernel, by decide +kernel, by decide +kernel, by decide +kernel, by decide +kernel⟩
set_option maxRecDepth 100000 in
theorem mo_72 : m_P 72 := ⟨tb_at 510 rfl rfl, by decide +kernel, by decide +kernel, by decide +kernel, by decide +kernel, by decide +kernel, by decide +kernel⟩
set_option maxRecDepth 100000 in
theorem mo_73 : m_P 73 := ⟨tb_at 514 rfl rfl, by decide +kernel, by decide +kernel, by decide +kernel, by decide +kernel, by decide +kernel, by decide +kernel⟩
set_option maxRecDepth 100000 in
theorem mo_74 : m_P 74 := ⟨tb_at 518 rfl rfl, by decide +kernel, by decide +kernel, by decide +kernel, by decide +kernel, by decide +kernel, by decide +kernel⟩
set_option maxRecDepth 100000 in
theorem mo_75 : m_P 75 := ⟨tb_at 522 rfl rfl, by decide +kernel, by decide +kernel, by decide +kernel, by decide +kernel, by decide +kernel, by decide +kernel⟩
set_option maxRecDepth 100000 in
theorem mo_76 : m_P 76 := ⟨tb_at 526 rfl rfl, by decide +kernel, by decide +kernel, by decide +kernel, by decide +kernel, by decide +kernel, by decide +kernel⟩
set_option maxRecDepth 100000 in
theorem mo_77 : m_P 77 := ⟨tb_at 530 rfl rfl, by decide +kernel, by decide +kernel, by decide +kernel, by decide +kernel, by decide +kernel, by decide +kernel⟩
set_option maxRecDepth 100000 in
theorem mo_78 : m_P 78 := ⟨tb_at 534 rfl rfl, by decide +kernel, by decide +kernel, by decide +kernel, by decide +kernel, by decide +kernel, by decide +kernel⟩
set_option maxRecDepth 100000 in
theorem mo_79 : m_P 79 := ⟨tb_at 538 rfl rfl, by decide +kernel, by decide +kernel, by decide +kernel, by decide +kernel, by decide +kernel, by decide +kernel⟩
set_option maxRecDepth 100000 in
theorem mo_80 : m_P 80 := ⟨tb_at 542 rfl rfl, by decide +kernel, by decide +kernel, by decide +kernel, by decide +kernel, by decide +kernel, by decide +kernel⟩
set_option maxRecDepth 100000 in
theorem mo_81 : m_P 81 := ⟨tb_at 549 rfl rfl, by decide +kernel, by decide +kernel, by decide +kernel, by decide +kernel, by decide +kernel, by decide +kernel⟩
set_option maxRecDepth 100000 in
theorem mo_82 : m_P 82 := ⟨tb_at 554 rfl rfl, by decide +kernel, by decide +kernel, by decide +kernel, by decide +kernel, by decide +kernel, by decide +kernel⟩
set_option maxRecDepth 100000 in
theorem m_ok (mj : Nat) (h : mj < m_N) : m_P mj := by
  match mj, h with
  | 0, _ => exact mo_0
  | 1, _ => exact mo_1
  | 2, _ => exact mo_2
  | 3, _ => exact mo_3
  | 4, _ => exact mo_4
  | 5, _ => exact mo_5
  | 6, _ => exact mo_6
  | 7, _ => exact mo_7
  | 8, _ => exact mo_8
  | 9, _ => exact mo_9
  | 10, _ => exact mo_10
  | 11, _ => exact mo_11
  | 12, _ => exact mo_12
  | 13, _ => exact mo_13
  | 14, _ => exact mo_14
  | 15, _ => exact mo_15
  | 16, _ => exact mo_16
  | 17, _ => exact mo_17
  | 18, _ => exact mo_18
  | 19, _ => exact mo_19
  | 20, _ => exact mo_20
  | 21, _ => exact mo_21
  | 22, _ => exact mo_22
  | 23, _ => exact mo_23
  | 24, _ => exact mo_24
  | 25, _ => exact mo_25
  | 26, _ => exact mo_26
  | 27, _ => exact mo_27
  | 28, _ => exact mo_28
  | 29, _ => exact mo_29
  | 30, _ => exact mo_30
  | 31, _ => exact mo_31
  | 32, _ => exact mo_32
  | 33, _ => exact mo_33
  | 34, _ => exact mo_34
  | 35, _ => exact mo_35
  | 36, _ => exact mo_36
  | 37, _ => exact mo_37
  | 38, _ => exact mo_38
  | 39, _ => exact mo_39
  | 40, _ => exact mo_40
  | 41, _ => exact mo_41
  | 42, _ => exact mo_42
  | 43, _ => exact mo_43
  | 44, _ => exact mo_44
  | 45, _ => exact mo_45
  | 46, _ => exact mo_46
  | 47, _ => exact mo_47
  | 48, _ => exact mo_48
  | 49, _ => exact mo_49
  | 50, _ => exact mo_50
  | 51, _ => exact mo_51
  | 52, _ => exact mo_52
  | 53, _ => exact mo_53
  | 54, _ => exact mo_54
  | 55, _ => exact mo_55
  | 56, _ => exact mo_56
  | 57, _ => exact mo_57
  | 58, _ => exact mo_58
  | 59, _ => exact mo_59
  | 60, _ => exact mo_60
  | 61, _ => exact mo_61
  | 62, _ => exact mo_62
  | 63, _ => exact mo_63
  | 64, _ => exact mo_64
  | 65, _ => exact mo_65
  | 66, _ => exact mo_66
  | 67, _ => exact mo_67
  | 68, _ => exact mo_68
  | 69, _ => exact mo_69
  | 70, _ => exact mo_70
  | 71, _ => exact mo_71
  | 72, _ => exact mo_72
  | 73, _ => exact mo_73
  | 74, _ => exact mo_74
  | 75, _ => exact mo_75
  | 76, _ => exact mo_76
  | 77, _ => exact mo_77
  | 78, _ => exact mo_78
  | 79, _ => exact mo_79
  | 80, _ => exact mo_80
  | 81, _ => exact mo_81
  | 82, _ => exact mo_82
  | k + 83, h => exact absurd h (by show ¬ k + 83 < 83; omega)
