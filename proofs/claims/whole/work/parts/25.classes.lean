/-! PART 25: the classes of the program, as the evaluator knows them. -/
def TC_0 : u_T := fun k => ([("LinkedTongue$Code", "functions", "[[I", true), ("LinkedTongue$Code", "functionCount", "I", false), ("LinkedTongue$Code", "units", "[I", true), ("LinkedTongue$Code", "unitCount", "I", false), ("LinkedTongue$Code", "ops", "[I", false), ("LinkedTongue$Code", "as", "[I", false), ("LinkedTongue$Code", "bs", "[I", false), ("LinkedTongue$Code", "instructionCount", "I", false), ("LinkedTongue$Code", "sites", "[[I", true), ("LinkedTongue$Code", "siteCount", "I", false), ("LinkedTongue$Code", "entries", "[[I", true), ("LinkedTongue$Code", "entryCount", "I", false), ("LinkedTongue$Code", "freeEntry", "I", false), ("LinkedTongue$Code", "firstSites", "[I", false), ("LinkedTongue$Code", "nexts", "[I", false), ("LinkedTongue$Code", "heads", "[I", true), ("LinkedTongue$Code", "descriptorCount", "I", false)] : List (String × String × String × Bool)).getD k ("", "", "", false)
def tC_0 : Nat → FieldType := fun k => ([.array (.array .int), .int, .array .int, .int, .array .int, .array .int, .array .int, .int, .array (.array .int), .int, .array (.array .int), .int, .int, .array .int, .array .int, .array .int, .int] : List FieldType).getD k .int
def iC_0 : Nat → Nat := fun k => [315, 317, 319, 321, 323, 325, 327, 329, 331, 333, 335, 337, 339, 341, 343, 345, 347].getD k 0
theorem tC_0_ok : ∀ k, k < 17 → parseFieldDescriptor (TC_0 k).2.2.1 = some (tC_0 k) := by decide +kernel
theorem nC_0 : ∀ a, a < 17 → ∀ b, b < 17 → a ≠ b → (TC_0 a).2.1 ≠ (TC_0 b).2.1 := by decide +kernel
theorem iC_0_ok : ∀ k, k < 17 → tables_1[iC_0 k]? = some (u_lay "LinkedTongue$Code" TC_0 k) ∧ goodWord (u_lay "LinkedTongue$Code" TC_0 k) = true := by decide +kernel
theorem inC_0 : ∀ w ∈ u_ws "LinkedTongue$Code" TC_0 17, w ∈ pm_tb := by
  intro w hw
  obtain ⟨k, hk, rfl⟩ := List.mem_map.mp hw
  obtain ⟨h1, h2⟩ := iC_0_ok k (List.mem_range.mp hk)
  exact pm_mem _ h1 h2
def TC_1 : u_T := fun k => ([("LinkedTongue$Compiler", "reader", "LLinkedTongue$Reader;", true), ("LinkedTongue$Compiler", "words", "LLinkedTongue$Words;", true), ("LinkedTongue$Compiler", "code", "LLinkedTongue$Code;", true), ("LinkedTongue$Compiler", "ops", "[I", false), ("LinkedTongue$Compiler", "as", "[I", false), ("LinkedTongue$Compiler", "bs", "[I", false), ("LinkedTongue$Compiler", "owners", "[I", false), ("LinkedTongue$Compiler", "noted", "I", false), ("LinkedTongue$Compiler", "siteCount", "I", false), ("LinkedTongue$Compiler", "functions", "[[I", true), ("LinkedTongue$Compiler", "functionCount", "I", false), ("LinkedTongue$Compiler", "current", "I", false), ("LinkedTongue$Compiler", "variables", "[[I", true), ("LinkedTongue$Compiler", "variableCount", "I", false), ("LinkedTongue$Compiler", "waiting", "[I", true), ("LinkedTongue$Compiler", "waitingSize", "I", false), ("LinkedTongue$Compiler", "target", "I", false), ("LinkedTongue$Compiler", "fault", "I", false)] : List (String × String × String × Bool)).getD k ("", "", "", false)
def tC_1 : Nat → FieldType := fun k => ([.object "LinkedTongue$Reader", .object "LinkedTongue$Words", .object "LinkedTongue$Code", .array .int, .array .int, .array .int, .array .int, .int, .int, .array (.array .int), .int, .int, .array (.array .int), .int, .array .int, .int, .int, .int] : List FieldType).getD k .int
def iC_1 : Nat → Nat := fun k => [397, 399, 401, 403, 405, 407, 409, 411, 413, 415, 417, 419, 421, 423, 425, 427, 429, 431].getD k 0
theorem tC_1_ok : ∀ k, k < 18 → parseFieldDescriptor (TC_1 k).2.2.1 = some (tC_1 k) := by decide +kernel
theorem nC_1 : ∀ a, a < 18 → ∀ b, b < 18 → a ≠ b → (TC_1 a).2.1 ≠ (TC_1 b).2.1 := by decide +kernel
theorem iC_1_ok : ∀ k, k < 18 → tables_1[iC_1 k]? = some (u_lay "LinkedTongue$Compiler" TC_1 k) ∧ goodWord (u_lay "LinkedTongue$Compiler" TC_1 k) = true := by decide +kernel
theorem inC_1 : ∀ w ∈ u_ws "LinkedTongue$Compiler" TC_1 18, w ∈ pm_tb := by
  intro w hw
  obtain ⟨k, hk, rfl⟩ := List.mem_map.mp hw
  obtain ⟨h1, h2⟩ := iC_1_ok k (List.mem_range.mp hk)
  exact pm_mem _ h1 h2
def TC_2 : u_T := fun k => ([("LinkedTongue$Heap", "words", "LLinkedTongue$Words;", true), ("LinkedTongue$Heap", "host", "LLinkedTongue$Host;", false), ("LinkedTongue$Heap", "things", "[[I", true), ("LinkedTongue$Heap", "thingCount", "I", false), ("LinkedTongue$Heap", "calls", "[[I", true), ("LinkedTongue$Heap", "callCount", "I", false), ("LinkedTongue$Heap", "cells", "LLinkedTongue$Row;", true), ("LinkedTongue$Heap", "shapes", "[[I", true), ("LinkedTongue$Heap", "shapeCount", "I", false), ("LinkedTongue$Heap", "shapeHeads", "[I", true), ("LinkedTongue$Heap", "used", "[I", true), ("LinkedTongue$Heap", "changes", "I", false), ("LinkedTongue$Heap", "output", "[B", false), ("LinkedTongue$Heap", "outputSize", "I", false), ("LinkedTongue$Heap", "trace", "[I", false), ("LinkedTongue$Heap", "traceSize", "I", false), ("LinkedTongue$Heap", "globals", "LLinkedTongue$Row;", true), ("LinkedTongue$Heap", "order", "[I", true), ("LinkedTongue$Heap", "scratch", "[B", true), ("LinkedTongue$Heap", "shownStart", "I", false)] : List (String × String × String × Bool)).getD k ("", "", "", false)
def tC_2 : Nat → FieldType := fun k => ([.object "LinkedTongue$Words", .object "LinkedTongue$Host", .array (.array .int), .int, .array (.array .int), .int, .object "LinkedTongue$Row", .array (.array .int), .int, .array .int, .array .int, .int, .array .byte, .int, .array .int, .int, .object "LinkedTongue$Row", .array .int, .array .byte, .int] : List FieldType).getD k .int
def iC_2 : Nat → Nat := fun k => [616, 618, 620, 622, 624, 626, 628, 630, 632, 634, 636, 638, 640, 642, 644, 646, 648, 650, 652, 654].getD k 0
theorem tC_2_ok : ∀ k, k < 20 → parseFieldDescriptor (TC_2 k).2.2.1 = some (tC_2 k) := by decide +kernel
theorem nC_2 : ∀ a, a < 20 → ∀ b, b < 20 → a ≠ b → (TC_2 a).2.1 ≠ (TC_2 b).2.1 := by decide +kernel
theorem iC_2_ok : ∀ k, k < 20 → tables_1[iC_2 k]? = some (u_lay "LinkedTongue$Heap" TC_2 k) ∧ goodWord (u_lay "LinkedTongue$Heap" TC_2 k) = true := by decide +kernel
theorem inC_2 : ∀ w ∈ u_ws "LinkedTongue$Heap" TC_2 20, w ∈ pm_tb := by
  intro w hw
  obtain ⟨k, hk, rfl⟩ := List.mem_map.mp hw
  obtain ⟨h1, h2⟩ := iC_2_ok k (List.mem_range.mp hk)
  exact pm_mem _ h1 h2
def TC_3 : u_T := fun k => ([("LinkedTongue$Host", "words", "LLinkedTongue$Words;", true), ("LinkedTongue$Host", "types", "[[I", true), ("LinkedTongue$Host", "typeCount", "I", false), ("LinkedTongue$Host", "members", "[[I", true), ("LinkedTongue$Host", "memberCount", "I", false), ("LinkedTongue$Host", "orders", "[I", true), ("LinkedTongue$Host", "above", "[J", true), ("LinkedTongue$Host", "statics", "LLinkedTongue$Row;", true), ("LinkedTongue$Host", "scratch", "[B", true), ("LinkedTongue$Host", "candidates", "[I", false), ("LinkedTongue$Host", "candidateCount", "I", false), ("LinkedTongue$Host", "keptAsked", "[I", false), ("LinkedTongue$Host", "keptEs", "[J", false), ("LinkedTongue$Host", "keptAnswers", "[I", false), ("LinkedTongue$Host", "keptNexts", "[I", false), ("LinkedTongue$Host", "keptHeads", "[I", true), ("LinkedTongue$Host", "keptCount", "I", false), ("LinkedTongue$Host", "keptMost", "I", false), ("LinkedTongue$Host", "workedOut", "I", false)] : List (String × String × String × Bool)).getD k ("", "", "", false)
def tC_3 : Nat → FieldType := fun k => ([.object "LinkedTongue$Words", .array (.array .int), .int, .array (.array .int), .int, .array .int, .array .long, .object "LinkedTongue$Row", .array .byte, .array .int, .int, .array .int, .array .long, .array .int, .array .int, .array .int, .int, .int, .int] : List FieldType).getD k .int
def iC_3 : Nat → Nat := fun k => [521, 523, 525, 527, 529, 531, 533, 535, 537, 539, 541, 543, 545, 547, 549, 551, 553, 555, 557].getD k 0
theorem tC_3_ok : ∀ k, k < 19 → parseFieldDescriptor (TC_3 k).2.2.1 = some (tC_3 k) := by decide +kernel
theorem nC_3 : ∀ a, a < 19 → ∀ b, b < 19 → a ≠ b → (TC_3 a).2.1 ≠ (TC_3 b).2.1 := by decide +kernel
theorem iC_3_ok : ∀ k, k < 19 → tables_1[iC_3 k]? = some (u_lay "LinkedTongue$Host" TC_3 k) ∧ goodWord (u_lay "LinkedTongue$Host" TC_3 k) = true := by decide +kernel
theorem inC_3 : ∀ w ∈ u_ws "LinkedTongue$Host" TC_3 19, w ∈ pm_tb := by
  intro w hw
  obtain ⟨k, hk, rfl⟩ := List.mem_map.mp hw
  obtain ⟨h1, h2⟩ := iC_3_ok k (List.mem_range.mp hk)
  exact pm_mem _ h1 h2
def TC_4 : u_T := fun k => ([("LinkedTongue$HostReader", "reader", "LLinkedTongue$Reader;", true), ("LinkedTongue$HostReader", "host", "LLinkedTongue$Host;", false), ("LinkedTongue$HostReader", "fault", "I", false), ("LinkedTongue$HostReader", "supers", "[I", true), ("LinkedTongue$HostReader", "superCount", "I", false)] : List (String × String × String × Bool)).getD k ("", "", "", false)
def tC_4 : Nat → FieldType := fun k => ([.object "LinkedTongue$Reader", .object "LinkedTongue$Host", .int, .array .int, .int] : List FieldType).getD k .int
def iC_4 : Nat → Nat := fun k => [361, 363, 365, 367, 369].getD k 0
theorem tC_4_ok : ∀ k, k < 5 → parseFieldDescriptor (TC_4 k).2.2.1 = some (tC_4 k) := by decide +kernel
theorem nC_4 : ∀ a, a < 5 → ∀ b, b < 5 → a ≠ b → (TC_4 a).2.1 ≠ (TC_4 b).2.1 := by decide +kernel
theorem iC_4_ok : ∀ k, k < 5 → tables_1[iC_4 k]? = some (u_lay "LinkedTongue$HostReader" TC_4 k) ∧ goodWord (u_lay "LinkedTongue$HostReader" TC_4 k) = true := by decide +kernel
theorem inC_4 : ∀ w ∈ u_ws "LinkedTongue$HostReader" TC_4 5, w ∈ pm_tb := by
  intro w hw
  obtain ⟨k, hk, rfl⟩ := List.mem_map.mp hw
  obtain ⟨h1, h2⟩ := iC_4_ok k (List.mem_range.mp hk)
  exact pm_mem _ h1 h2
def TC_5 : u_T := fun k => ([("LinkedTongue$Linker", "heap", "LLinkedTongue$Heap;", true), ("LinkedTongue$Linker", "code", "LLinkedTongue$Code;", true), ("LinkedTongue$Linker", "sites", "[[I", true), ("LinkedTongue$Linker", "entries", "[[I", true), ("LinkedTongue$Linker", "task", "LLinkedTongue$Task;", false), ("LinkedTongue$Linker", "pile", "LLinkedTongue$Row;", false), ("LinkedTongue$Linker", "site", "I", false), ("LinkedTongue$Linker", "kind", "I", false), ("LinkedTongue$Linker", "base", "I", false), ("LinkedTongue$Linker", "goalKind", "I", false), ("LinkedTongue$Linker", "goalBits", "J", false), ("LinkedTongue$Linker", "name", "I", false), ("LinkedTongue$Linker", "esCount", "I", false), ("LinkedTongue$Linker", "es", "J", false), ("LinkedTongue$Linker", "found", "I", false), ("LinkedTongue$Linker", "scratch", "[B", true), ("LinkedTongue$Linker", "gaveKind", "I", false), ("LinkedTongue$Linker", "gaveBits", "J", false), ("LinkedTongue$Linker", "asked", "[I", true), ("LinkedTongue$Linker", "wrong", "I", false)] : List (String × String × String × Bool)).getD k ("", "", "", false)
def tC_5 : Nat → FieldType := fun k => ([.object "LinkedTongue$Heap", .object "LinkedTongue$Code", .array (.array .int), .array (.array .int), .object "LinkedTongue$Task", .object "LinkedTongue$Row", .int, .int, .int, .int, .long, .int, .int, .long, .int, .array .byte, .int, .long, .array .int, .int] : List FieldType).getD k .int
def iC_5 : Nat → Nat := fun k => [693, 695, 697, 699, 701, 703, 705, 707, 709, 711, 713, 715, 717, 719, 721, 723, 725, 727, 729, 731].getD k 0
theorem tC_5_ok : ∀ k, k < 20 → parseFieldDescriptor (TC_5 k).2.2.1 = some (tC_5 k) := by decide +kernel
theorem nC_5 : ∀ a, a < 20 → ∀ b, b < 20 → a ≠ b → (TC_5 a).2.1 ≠ (TC_5 b).2.1 := by decide +kernel
theorem iC_5_ok : ∀ k, k < 20 → tables_1[iC_5 k]? = some (u_lay "LinkedTongue$Linker" TC_5 k) ∧ goodWord (u_lay "LinkedTongue$Linker" TC_5 k) = true := by decide +kernel
theorem inC_5 : ∀ w ∈ u_ws "LinkedTongue$Linker" TC_5 20, w ∈ pm_tb := by
  intro w hw
  obtain ⟨k, hk, rfl⟩ := List.mem_map.mp hw
  obtain ⟨h1, h2⟩ := iC_5_ok k (List.mem_range.mp hk)
  exact pm_mem _ h1 h2
def TC_6 : u_T := fun k => ([("LinkedTongue$Reader", "kinds", "[B", false), ("LinkedTongue$Reader", "places", "[I", false), ("LinkedTongue$Reader", "values", "[I", false), ("LinkedTongue$Reader", "count", "I", false), ("LinkedTongue$Reader", "at", "I", false), ("LinkedTongue$Reader", "tape", "[B", false), ("LinkedTongue$Reader", "size", "I", false), ("LinkedTongue$Reader", "words", "LLinkedTongue$Words;", false), ("LinkedTongue$Reader", "ofHost", "Z", false), ("LinkedTongue$Reader", "unescaped", "[B", true)] : List (String × String × String × Bool)).getD k ("", "", "", false)
def tC_6 : Nat → FieldType := fun k => ([.array .byte, .array .int, .array .int, .int, .int, .array .byte, .int, .object "LinkedTongue$Words", .boolean, .array .byte] : List FieldType).getD k .int
def iC_6 : Nat → Nat := fun k => [242, 244, 246, 248, 250, 252, 254, 256, 258, 260].getD k 0
theorem tC_6_ok : ∀ k, k < 10 → parseFieldDescriptor (TC_6 k).2.2.1 = some (tC_6 k) := by decide +kernel
theorem nC_6 : ∀ a, a < 10 → ∀ b, b < 10 → a ≠ b → (TC_6 a).2.1 ≠ (TC_6 b).2.1 := by decide +kernel
theorem iC_6_ok : ∀ k, k < 10 → tables_1[iC_6 k]? = some (u_lay "LinkedTongue$Reader" TC_6 k) ∧ goodWord (u_lay "LinkedTongue$Reader" TC_6 k) = true := by decide +kernel
theorem inC_6 : ∀ w ∈ u_ws "LinkedTongue$Reader" TC_6 10, w ∈ pm_tb := by
  intro w hw
  obtain ⟨k, hk, rfl⟩ := List.mem_map.mp hw
  obtain ⟨h1, h2⟩ := iC_6_ok k (List.mem_range.mp hk)
  exact pm_mem _ h1 h2
def TC_7 : u_T := fun k => ([("LinkedTongue$Row", "kinds", "[B", false), ("LinkedTongue$Row", "bits", "[J", false), ("LinkedTongue$Row", "size", "I", false)] : List (String × String × String × Bool)).getD k ("", "", "", false)
def tC_7 : Nat → FieldType := fun k => ([.array .byte, .array .long, .int] : List FieldType).getD k .int
def iC_7 : Nat → Nat := fun k => [472, 474, 476].getD k 0
theorem tC_7_ok : ∀ k, k < 3 → parseFieldDescriptor (TC_7 k).2.2.1 = some (tC_7 k) := by decide +kernel
theorem nC_7 : ∀ a, a < 3 → ∀ b, b < 3 → a ≠ b → (TC_7 a).2.1 ≠ (TC_7 b).2.1 := by decide +kernel
theorem iC_7_ok : ∀ k, k < 3 → tables_1[iC_7 k]? = some (u_lay "LinkedTongue$Row" TC_7 k) ∧ goodWord (u_lay "LinkedTongue$Row" TC_7 k) = true := by decide +kernel
theorem inC_7 : ∀ w ∈ u_ws "LinkedTongue$Row" TC_7 3, w ∈ pm_tb := by
  intro w hw
  obtain ⟨k, hk, rfl⟩ := List.mem_map.mp hw
  obtain ⟨h1, h2⟩ := iC_7_ok k (List.mem_range.mp hk)
  exact pm_mem _ h1 h2
def TC_8 : u_T := fun k => ([("LinkedTongue$Task", "heap", "LLinkedTongue$Heap;", true), ("LinkedTongue$Task", "code", "LLinkedTongue$Code;", true), ("LinkedTongue$Task", "linker", "LLinkedTongue$Linker;", true), ("LinkedTongue$Task", "pile", "LLinkedTongue$Row;", true), ("LinkedTongue$Task", "calls", "I", false), ("LinkedTongue$Task", "functions", "[I", true), ("LinkedTongue$Task", "nexts", "[I", true), ("LinkedTongue$Task", "numbers", "[I", true), ("LinkedTongue$Task", "thisKinds", "[B", true), ("LinkedTongue$Task", "thisBits", "[J", true), ("LinkedTongue$Task", "ofNew", "[Z", true), ("LinkedTongue$Task", "tries", "[I", false), ("LinkedTongue$Task", "triesSize", "I", false), ("LinkedTongue$Task", "state", "I", false), ("LinkedTongue$Task", "endKind", "I", false), ("LinkedTongue$Task", "endBits", "J", false), ("LinkedTongue$Task", "problem", "I", false)] : List (String × String × String × Bool)).getD k ("", "", "", false)
def tC_8 : Nat → FieldType := fun k => ([.object "LinkedTongue$Heap", .object "LinkedTongue$Code", .object "LinkedTongue$Linker", .object "LinkedTongue$Row", .int, .array .int, .array .int, .array .int, .array .byte, .array .long, .array .boolean, .array .int, .int, .int, .int, .long, .int] : List FieldType).getD k .int
def iC_8 : Nat → Nat := fun k => [773, 775, 777, 779, 781, 783, 785, 787, 789, 791, 793, 795, 797, 799, 801, 803, 805].getD k 0
theorem tC_8_ok : ∀ k, k < 17 → parseFieldDescriptor (TC_8 k).2.2.1 = some (tC_8 k) := by decide +kernel
theorem nC_8 : ∀ a, a < 17 → ∀ b, b < 17 → a ≠ b → (TC_8 a).2.1 ≠ (TC_8 b).2.1 := by decide +kernel
theorem iC_8_ok : ∀ k, k < 17 → tables_1[iC_8 k]? = some (u_lay "LinkedTongue$Task" TC_8 k) ∧ goodWord (u_lay "LinkedTongue$Task" TC_8 k) = true := by decide +kernel
theorem inC_8 : ∀ w ∈ u_ws "LinkedTongue$Task" TC_8 17, w ∈ pm_tb := by
  intro w hw
  obtain ⟨k, hk, rfl⟩ := List.mem_map.mp hw
  obtain ⟨h1, h2⟩ := iC_8_ok k (List.mem_range.mp hk)
  exact pm_mem _ h1 h2
def TC_9 : u_T := fun k => ([("LinkedTongue$Words", "pool", "[B", false), ("LinkedTongue$Words", "used", "I", false), ("LinkedTongue$Words", "starts", "[I", false), ("LinkedTongue$Words", "sizes", "[I", false), ("LinkedTongue$Words", "nexts", "[I", false), ("LinkedTongue$Words", "nameOf", "[I", false), ("LinkedTongue$Words", "textOf", "[I", false), ("LinkedTongue$Words", "count", "I", false), ("LinkedTongue$Words", "heads", "[I", true), ("LinkedTongue$Words", "names", "[I", false), ("LinkedTongue$Words", "nameCount", "I", false), ("LinkedTongue$Words", "texts", "[I", false), ("LinkedTongue$Words", "textCount", "I", false), ("LinkedTongue$Words", "marks", "[I", true), ("LinkedTongue$Words", "firstCount", "I", true), ("LinkedTongue$Words", "firstUsed", "I", true)] : List (String × String × String × Bool)).getD k ("", "", "", false)
def tC_9 : Nat → FieldType := fun k => ([.array .byte, .int, .array .int, .array .int, .array .int, .array .int, .array .int, .int, .array .int, .array .int, .int, .array .int, .int, .array .int, .int, .int] : List FieldType).getD k .int
def iC_9 : Nat → Nat := fun k => [185, 187, 189, 191, 193, 195, 197, 199, 201, 203, 205, 207, 209, 211, 213, 215].getD k 0
theorem tC_9_ok : ∀ k, k < 16 → parseFieldDescriptor (TC_9 k).2.2.1 = some (tC_9 k) := by decide +kernel
theorem nC_9 : ∀ a, a < 16 → ∀ b, b < 16 → a ≠ b → (TC_9 a).2.1 ≠ (TC_9 b).2.1 := by decide +kernel
theorem iC_9_ok : ∀ k, k < 16 → tables_1[iC_9 k]? = some (u_lay "LinkedTongue$Words" TC_9 k) ∧ goodWord (u_lay "LinkedTongue$Words" TC_9 k) = true := by decide +kernel
theorem inC_9 : ∀ w ∈ u_ws "LinkedTongue$Words" TC_9 16, w ∈ pm_tb := by
  intro w hw
  obtain ⟨k, hk, rfl⟩ := List.mem_map.mp hw
  obtain ⟨h1, h2⟩ := iC_9_ok k (List.mem_range.mp hk)
  exact pm_mem _ h1 h2
def TC_10 : u_T := fun k => ([("LinkedTongue", "tape", "[B", false), ("LinkedTongue", "tapeSize", "I", false), ("LinkedTongue", "words", "LLinkedTongue$Words;", true), ("LinkedTongue", "reader", "LLinkedTongue$Reader;", true), ("LinkedTongue", "code", "LLinkedTongue$Code;", true), ("LinkedTongue", "hostReader", "LLinkedTongue$HostReader;", true), ("LinkedTongue", "compiler", "LLinkedTongue$Compiler;", true), ("LinkedTongue", "heap", "LLinkedTongue$Heap;", true), ("LinkedTongue", "linker", "LLinkedTongue$Linker;", true), ("LinkedTongue", "tasks", "[LLinkedTongue$Task;", true), ("LinkedTongue", "spare", "LLinkedTongue$Host;", false)] : List (String × String × String × Bool)).getD k ("", "", "", false)
def tC_10 : Nat → FieldType := fun k => ([.array .byte, .int, .object "LinkedTongue$Words", .object "LinkedTongue$Reader", .object "LinkedTongue$Code", .object "LinkedTongue$HostReader", .object "LinkedTongue$Compiler", .object "LinkedTongue$Heap", .object "LinkedTongue$Linker", .array (.object "LinkedTongue$Task"), .object "LinkedTongue$Host"] : List FieldType).getD k .int
def iC_10 : Nat → Nat := fun k => [820, 822, 824, 826, 828, 830, 832, 834, 836, 838, 840].getD k 0
theorem tC_10_ok : ∀ k, k < 11 → parseFieldDescriptor (TC_10 k).2.2.1 = some (tC_10 k) := by decide +kernel
theorem nC_10 : ∀ a, a < 11 → ∀ b, b < 11 → a ≠ b → (TC_10 a).2.1 ≠ (TC_10 b).2.1 := by decide +kernel
theorem iC_10_ok : ∀ k, k < 11 → tables_1[iC_10 k]? = some (u_lay "LinkedTongue" TC_10 k) ∧ goodWord (u_lay "LinkedTongue" TC_10 k) = true := by decide +kernel
theorem inC_10 : ∀ w ∈ u_ws "LinkedTongue" TC_10 11, w ∈ pm_tb := by
  intro w hw
  obtain ⟨k, hk, rfl⟩ := List.mem_map.mp hw
  obtain ⟨h1, h2⟩ := iC_10_ok k (List.mem_range.mp hk)
  exact pm_mem _ h1 h2
def TC_11 : u_T := fun k => ([("java/lang/Throwable", "cause", "Ljava/lang/Throwable;", false), ("java/lang/Throwable", "stackTrace", "[Ljava/lang/StackTraceElement;", false), ("java/lang/Throwable", "suppressedExceptions", "Ljava/util/List;", false), ("java/lang/Throwable", "detailMessage", "Ljava/lang/String;", false), ("java/lang/Throwable", "backtrace", "Ljava/lang/Object;", false), ("LinkedTongueModel$Halt", "number", "I", false), ("LinkedTongueModel$Halt", "place", "I", false), ("java/lang/Throwable", "depth", "I", false)] : List (String × String × String × Bool)).getD k ("", "", "", false)
def tC_11 : Nat → FieldType := fun k => ([.object "java/lang/Throwable", .array (.object "java/lang/StackTraceElement"), .object "java/util/List", .object "java/lang/String", .object "java/lang/Object", .int, .int, .int] : List FieldType).getD k .int
def iC_11 : Nat → Nat := fun k => [2201, 2202, 2203, 2204, 2205, 2220, 2222, 2224].getD k 0
theorem tC_11_ok : ∀ k, k < 8 → parseFieldDescriptor (TC_11 k).2.2.1 = some (tC_11 k) := by decide +kernel
theorem nC_11 : ∀ a, a < 8 → ∀ b, b < 8 → a ≠ b → (TC_11 a).2.1 ≠ (TC_11 b).2.1 := by decide +kernel
theorem iC_11_ok : ∀ k, k < 8 → tables_1[iC_11 k]? = some (u_lay "LinkedTongueModel$Halt" TC_11 k) ∧ goodWord (u_lay "LinkedTongueModel$Halt" TC_11 k) = true := by decide +kernel
theorem inC_11 : ∀ w ∈ u_ws "LinkedTongueModel$Halt" TC_11 8, w ∈ pm_tb := by
  intro w hw
  obtain ⟨k, hk, rfl⟩ := List.mem_map.mp hw
  obtain ⟨h1, h2⟩ := iC_11_ok k (List.mem_range.mp hk)
  exact pm_mem _ h1 h2
def TC_12 : u_T := fun k => ([("LinkedTongueModel$Host", "signs", "[B", true), ("LinkedTongueModel$Host", "classes", "I", false), ("LinkedTongueModel$Host", "isInterface", "[Z", true), ("LinkedTongueModel$Host", "above", "[I", true), ("LinkedTongueModel$Host", "supers", "[I", true), ("LinkedTongueModel$Host", "superOf", "[I", true), ("LinkedTongueModel$Host", "all", "[J", true), ("LinkedTongueModel$Host", "first", "[I", true), ("LinkedTongueModel$Host", "many", "[I", true), ("LinkedTongueModel$Host", "nameFrom", "[I", true), ("LinkedTongueModel$Host", "nameTo", "[I", true), ("LinkedTongueModel$Host", "members", "I", false), ("LinkedTongueModel$Host", "itsClass", "[I", true), ("LinkedTongueModel$Host", "sort", "[I", true), ("LinkedTongueModel$Host", "isStatic", "[Z", true), ("LinkedTongueModel$Host", "type", "[I", true), ("LinkedTongueModel$Host", "parameters", "[I", true), ("LinkedTongueModel$Host", "variable", "[Z", true), ("LinkedTongueModel$Host", "parameter", "[I", true), ("LinkedTongueModel$Host", "memberFrom", "[I", true), ("LinkedTongueModel$Host", "memberTo", "[I", true)] : List (String × String × String × Bool)).getD k ("", "", "", false)
def tC_12 : Nat → FieldType := fun k => ([.array .byte, .int, .array .boolean, .array .int, .array .int, .array .int, .array .long, .array .int, .array .int, .array .int, .array .int, .int, .array .int, .array .int, .array .boolean, .array .int, .array .int, .array .boolean, .array .int, .array .int, .array .int] : List FieldType).getD k .int
def iC_12 : Nat → Nat := fun k => [2274, 2276, 2278, 2280, 2282, 2284, 2286, 2288, 2290, 2292, 2294, 2296, 2298, 2300, 2302, 2304, 2306, 2308, 2310, 2312, 2314].getD k 0
theorem tC_12_ok : ∀ k, k < 21 → parseFieldDescriptor (TC_12 k).2.2.1 = some (tC_12 k) := by decide +kernel
theorem nC_12 : ∀ a, a < 21 → ∀ b, b < 21 → a ≠ b → (TC_12 a).2.1 ≠ (TC_12 b).2.1 := by decide +kernel
theorem iC_12_ok : ∀ k, k < 21 → tables_1[iC_12 k]? = some (u_lay "LinkedTongueModel$Host" TC_12 k) ∧ goodWord (u_lay "LinkedTongueModel$Host" TC_12 k) = true := by decide +kernel
theorem inC_12 : ∀ w ∈ u_ws "LinkedTongueModel$Host" TC_12 21, w ∈ pm_tb := by
  intro w hw
  obtain ⟨k, hk, rfl⟩ := List.mem_map.mp hw
  obtain ⟨h1, h2⟩ := iC_12_ok k (List.mem_range.mp hk)
  exact pm_mem _ h1 h2
def TC_13 : u_T := fun k => ([("LinkedTongueModel$Ints", "most", "I", true), ("LinkedTongueModel$Ints", "a", "[I", false), ("LinkedTongueModel$Ints", "size", "I", false)] : List (String × String × String × Bool)).getD k ("", "", "", false)
def tC_13 : Nat → FieldType := fun k => ([.int, .array .int, .int] : List FieldType).getD k .int
def iC_13 : Nat → Nat := fun k => [2333, 2335, 2337].getD k 0
theorem tC_13_ok : ∀ k, k < 3 → parseFieldDescriptor (TC_13 k).2.2.1 = some (tC_13 k) := by decide +kernel
theorem nC_13 : ∀ a, a < 3 → ∀ b, b < 3 → a ≠ b → (TC_13 a).2.1 ≠ (TC_13 b).2.1 := by decide +kernel
theorem iC_13_ok : ∀ k, k < 3 → tables_1[iC_13 k]? = some (u_lay "LinkedTongueModel$Ints" TC_13 k) ∧ goodWord (u_lay "LinkedTongueModel$Ints" TC_13 k) = true := by decide +kernel
theorem inC_13 : ∀ w ∈ u_ws "LinkedTongueModel$Ints" TC_13 3, w ∈ pm_tb := by
  intro w hw
  obtain ⟨k, hk, rfl⟩ := List.mem_map.mp hw
  obtain ⟨h1, h2⟩ := iC_13_ok k (List.mem_range.mp hk)
  exact pm_mem _ h1 h2
def TC_14 : u_T := fun k => ([("LinkedTongueModel$Part", "around", "I", false), ("LinkedTongueModel$Part", "parameters", "I", false), ("LinkedTongueModel$Part", "variables", "I", false), ("LinkedTongueModel$Part", "variable", "[I", true), ("LinkedTongueModel$Part", "op", "LLinkedTongueModel$Ints;", true), ("LinkedTongueModel$Part", "a", "LLinkedTongueModel$Ints;", true), ("LinkedTongueModel$Part", "b", "LLinkedTongueModel$Ints;", true), ("LinkedTongueModel$Part", "uncounted", "I", false)] : List (String × String × String × Bool)).getD k ("", "", "", false)
def tC_14 : Nat → FieldType := fun k => ([.int, .int, .int, .array .int, .object "LinkedTongueModel$Ints", .object "LinkedTongueModel$Ints", .object "LinkedTongueModel$Ints", .int] : List FieldType).getD k .int
def iC_14 : Nat → Nat := fun k => [3090, 3092, 3094, 3096, 3098, 3100, 3102, 3104].getD k 0
theorem tC_14_ok : ∀ k, k < 8 → parseFieldDescriptor (TC_14 k).2.2.1 = some (tC_14 k) := by decide +kernel
theorem nC_14 : ∀ a, a < 8 → ∀ b, b < 8 → a ≠ b → (TC_14 a).2.1 ≠ (TC_14 b).2.1 := by decide +kernel
theorem iC_14_ok : ∀ k, k < 8 → tables_1[iC_14 k]? = some (u_lay "LinkedTongueModel$Part" TC_14 k) ∧ goodWord (u_lay "LinkedTongueModel$Part" TC_14 k) = true := by decide +kernel
theorem inC_14 : ∀ w ∈ u_ws "LinkedTongueModel$Part" TC_14 8, w ∈ pm_tb := by
  intro w hw
  obtain ⟨k, hk, rfl⟩ := List.mem_map.mp hw
  obtain ⟨h1, h2⟩ := iC_14_ok k (List.mem_range.mp hk)
  exact pm_mem _ h1 h2
def TC_16 : u_T := fun k => ([("java/lang/Throwable", "cause", "Ljava/lang/Throwable;", false), ("java/lang/Throwable", "stackTrace", "[Ljava/lang/StackTraceElement;", false), ("java/lang/Throwable", "suppressedExceptions", "Ljava/util/List;", false), ("java/lang/Throwable", "detailMessage", "Ljava/lang/String;", false), ("java/lang/Throwable", "backtrace", "Ljava/lang/Object;", false), ("java/lang/Throwable", "depth", "I", false)] : List (String × String × String × Bool)).getD k ("", "", "", false)
def tC_16 : Nat → FieldType := fun k => ([.object "java/lang/Throwable", .array (.object "java/lang/StackTraceElement"), .object "java/util/List", .object "java/lang/String", .object "java/lang/Object", .int] : List FieldType).getD k .int
def iC_16 : Nat → Nat := fun k => [1590, 1591, 1592, 1593, 1594, 1600].getD k 0
theorem tC_16_ok : ∀ k, k < 6 → parseFieldDescriptor (TC_16 k).2.2.1 = some (tC_16 k) := by decide +kernel
theorem nC_16 : ∀ a, a < 6 → ∀ b, b < 6 → a ≠ b → (TC_16 a).2.1 ≠ (TC_16 b).2.1 := by decide +kernel
theorem iC_16_ok : ∀ k, k < 6 → tables_1[iC_16 k]? = some (u_lay "java/lang/IllegalArgumentException" TC_16 k) ∧ goodWord (u_lay "java/lang/IllegalArgumentException" TC_16 k) = true := by decide +kernel
theorem inC_16 : ∀ w ∈ u_ws "java/lang/IllegalArgumentException" TC_16 6, w ∈ pm_tb := by
  intro w hw
  obtain ⟨k, hk, rfl⟩ := List.mem_map.mp hw
  obtain ⟨h1, h2⟩ := iC_16_ok k (List.mem_range.mp hk)
  exact pm_mem _ h1 h2
def TC_17 : u_T := fun k => ([("java/lang/Throwable", "cause", "Ljava/lang/Throwable;", false), ("java/lang/Throwable", "stackTrace", "[Ljava/lang/StackTraceElement;", false), ("java/lang/Throwable", "suppressedExceptions", "Ljava/util/List;", false), ("java/lang/Throwable", "detailMessage", "Ljava/lang/String;", false), ("java/lang/Throwable", "backtrace", "Ljava/lang/Object;", false), ("java/lang/Throwable", "depth", "I", false)] : List (String × String × String × Bool)).getD k ("", "", "", false)
def tC_17 : Nat → FieldType := fun k => ([.object "java/lang/Throwable", .array (.object "java/lang/StackTraceElement"), .object "java/util/List", .object "java/lang/String", .object "java/lang/Object", .int] : List FieldType).getD k .int
def iC_17 : Nat → Nat := fun k => [1030, 1032, 1034, 1036, 1038, 1084].getD k 0
theorem tC_17_ok : ∀ k, k < 6 → parseFieldDescriptor (TC_17 k).2.2.1 = some (tC_17 k) := by decide +kernel
theorem nC_17 : ∀ a, a < 6 → ∀ b, b < 6 → a ≠ b → (TC_17 a).2.1 ≠ (TC_17 b).2.1 := by decide +kernel
theorem iC_17_ok : ∀ k, k < 6 → tables_1[iC_17 k]? = some (u_lay "java/lang/IllegalStateException" TC_17 k) ∧ goodWord (u_lay "java/lang/IllegalStateException" TC_17 k) = true := by decide +kernel
theorem inC_17 : ∀ w ∈ u_ws "java/lang/IllegalStateException" TC_17 6, w ∈ pm_tb := by
  intro w hw
  obtain ⟨k, hk, rfl⟩ := List.mem_map.mp hw
  obtain ⟨h1, h2⟩ := iC_17_ok k (List.mem_range.mp hk)
  exact pm_mem _ h1 h2
def TC_18 : u_T := fun k => ([("java/lang/Throwable", "cause", "Ljava/lang/Throwable;", false), ("java/lang/Throwable", "stackTrace", "[Ljava/lang/StackTraceElement;", false), ("java/lang/Throwable", "suppressedExceptions", "Ljava/util/List;", false), ("java/lang/Throwable", "detailMessage", "Ljava/lang/String;", false), ("java/lang/Throwable", "backtrace", "Ljava/lang/Object;", false), ("java/lang/Throwable", "depth", "I", false)] : List (String × String × String × Bool)).getD k ("", "", "", false)
def tC_18 : Nat → FieldType := fun k => ([.object "java/lang/Throwable", .array (.object "java/lang/StackTraceElement"), .object "java/util/List", .object "java/lang/String", .object "java/lang/Object", .int] : List FieldType).getD k .int
def iC_18 : Nat → Nat := fun k => [2139, 2140, 2141, 2142, 2143, 2149].getD k 0
theorem tC_18_ok : ∀ k, k < 6 → parseFieldDescriptor (TC_18 k).2.2.1 = some (tC_18 k) := by decide +kernel
theorem nC_18 : ∀ a, a < 6 → ∀ b, b < 6 → a ≠ b → (TC_18 a).2.1 ≠ (TC_18 b).2.1 := by decide +kernel
theorem iC_18_ok : ∀ k, k < 6 → tables_1[iC_18 k]? = some (u_lay "java/lang/IndexOutOfBoundsException" TC_18 k) ∧ goodWord (u_lay "java/lang/IndexOutOfBoundsException" TC_18 k) = true := by decide +kernel
theorem inC_18 : ∀ w ∈ u_ws "java/lang/IndexOutOfBoundsException" TC_18 6, w ∈ pm_tb := by
  intro w hw
  obtain ⟨k, hk, rfl⟩ := List.mem_map.mp hw
  obtain ⟨h1, h2⟩ := iC_18_ok k (List.mem_range.mp hk)
  exact pm_mem _ h1 h2
def TC_19 : u_T := fun k => ([("java/lang/Throwable", "cause", "Ljava/lang/Throwable;", false), ("java/lang/Throwable", "stackTrace", "[Ljava/lang/StackTraceElement;", false), ("java/lang/Throwable", "suppressedExceptions", "Ljava/util/List;", false), ("java/lang/Throwable", "detailMessage", "Ljava/lang/String;", false), ("java/lang/Throwable", "backtrace", "Ljava/lang/Object;", false), ("java/lang/Throwable", "depth", "I", false)] : List (String × String × String × Bool)).getD k ("", "", "", false)
def tC_19 : Nat → FieldType := fun k => ([.object "java/lang/Throwable", .array (.object "java/lang/StackTraceElement"), .object "java/util/List", .object "java/lang/String", .object "java/lang/Object", .int] : List FieldType).getD k .int
def iC_19 : Nat → Nat := fun k => [2169, 2170, 2171, 2172, 2173, 2179].getD k 0
theorem tC_19_ok : ∀ k, k < 6 → parseFieldDescriptor (TC_19 k).2.2.1 = some (tC_19 k) := by decide +kernel
theorem nC_19 : ∀ a, a < 6 → ∀ b, b < 6 → a ≠ b → (TC_19 a).2.1 ≠ (TC_19 b).2.1 := by decide +kernel
theorem iC_19_ok : ∀ k, k < 6 → tables_1[iC_19 k]? = some (u_lay "java/util/NoSuchElementException" TC_19 k) ∧ goodWord (u_lay "java/util/NoSuchElementException" TC_19 k) = true := by decide +kernel
theorem inC_19 : ∀ w ∈ u_ws "java/util/NoSuchElementException" TC_19 6, w ∈ pm_tb := by
  intro w hw
  obtain ⟨k, hk, rfl⟩ := List.mem_map.mp hw
  obtain ⟨h1, h2⟩ := iC_19_ok k (List.mem_range.mp hk)
  exact pm_mem _ h1 h2
theorem inC_15 : ∀ w ∈ u_ws "LinkedTongueModel" TM 180, w ∈ pm_tb := by
  intro w hw
  obtain ⟨k, hk, rfl⟩ := List.mem_map.mp hw
  obtain ⟨h1, h2⟩ := iM_ok k (List.mem_range.mp hk)
  exact pm_mem _ h1 h2
def pe_cl : List vw_C := [("LinkedTongue$Code", TC_0, 17), ("LinkedTongue$Compiler", TC_1, 18), ("LinkedTongue$Heap", TC_2, 20), ("LinkedTongue$Host", TC_3, 19), ("LinkedTongue$HostReader", TC_4, 5), ("LinkedTongue$Linker", TC_5, 20), ("LinkedTongue$Reader", TC_6, 10), ("LinkedTongue$Row", TC_7, 3), ("LinkedTongue$Task", TC_8, 17), ("LinkedTongue$Words", TC_9, 16), ("LinkedTongue", TC_10, 11), ("LinkedTongueModel$Halt", TC_11, 8), ("LinkedTongueModel$Host", TC_12, 21), ("LinkedTongueModel$Ints", TC_13, 3), ("LinkedTongueModel$Part", TC_14, 8), ("LinkedTongueModel", TM, 180), ("java/lang/IllegalArgumentException", TC_16, 6), ("java/lang/IllegalStateException", TC_17, 6), ("java/lang/IndexOutOfBoundsException", TC_18, 6), ("java/util/NoSuchElementException", TC_19, 6)]
def pe_dv_0 : List Value := [.null, .int 0, .null, .int 0, .null, .null, .null, .int 0, .null, .int 0, .null, .int 0, .int 0, .null, .null, .null, .int 0]
def pe_dv_1 : List Value := [.null, .null, .null, .null, .null, .null, .null, .int 0, .int 0, .null, .int 0, .int 0, .null, .int 0, .null, .int 0, .int 0, .int 0]
def pe_dv_2 : List Value := [.null, .null, .null, .int 0, .null, .int 0, .null, .null, .int 0, .null, .null, .int 0, .null, .int 0, .null, .int 0, .null, .null, .null, .int 0]
def pe_dv_3 : List Value := [.null, .null, .int 0, .null, .int 0, .null, .null, .null, .null, .null, .int 0, .null, .null, .null, .null, .null, .int 0, .int 0, .int 0]
def pe_dv_4 : List Value := [.null, .null, .int 0, .null, .int 0]
def pe_dv_5 : List Value := [.null, .null, .null, .null, .null, .null, .int 0, .int 0, .int 0, .int 0, .long 0, .int 0, .int 0, .long 0, .int 0, .null, .int 0, .long 0, .null, .int 0]
def pe_dv_6 : List Value := [.null, .null, .null, .int 0, .int 0, .null, .int 0, .null, .int 0, .null]
def pe_dv_7 : List Value := [.null, .null, .int 0]
def pe_dv_8 : List Value := [.null, .null, .null, .null, .int 0, .null, .null, .null, .null, .null, .null, .null, .int 0, .int 0, .int 0, .long 0, .int 0]
def pe_dv_9 : List Value := [.null, .int 0, .null, .null, .null, .null, .null, .int 0, .null, .null, .int 0, .null, .int 0, .null, .int 0, .int 0]
def pe_dv_10 : List Value := [.null, .int 0, .null, .null, .null, .null, .null, .null, .null, .null, .null]
def pe_dv_11 : List Value := [.null, .null, .null, .null, .null, .int 0, .int 0, .int 0]
def pe_dv_12 : List Value := [.null, .int 0, .null, .null, .null, .null, .null, .null, .null, .null, .null, .int 0, .null, .null, .null, .null, .null, .null, .null, .null, .null]
def pe_dv_13 : List Value := [.int 0, .null, .int 0]
def pe_dv_14 : List Value := [.int 0, .int 0, .int 0, .null, .null, .null, .null, .int 0]
def pe_dv_15 : List Value := [.int 0, .null, .null, .int 0, .int 0, .int 0, .int 0, .int 0, .int 0, .int 0, .int 0, .null, .int 0, .null, .null, .null, .int 0, .null, .null, .int 0, .int 0, .null, .null, .null, .null, .int 0, .int 0, .int 0, .null, .int 0, .null, .null, .null, .int 0, .int 0, .null, .null, .null, .null, .null, .null, .null, .null, .int 0, .null, .null, .null, .int 0, .int 0, .null, .null, .null, .null, .null, .null, .null, .null, .null, .null, .int 0, .int 0, .int 0, .int 0, .int 0, .int 0, .int 0, .int 0, .int 0, .int 0, .int 0, .null, .null, .null, .null, .null, .null, .null, .null, .null, .null, .null, .int 0, .int 0, .null, .null, .null, .null, .int 0, .null, .null, .null, .null, .null, .null, .int 0, .null, .null, .null, .null, .null, .null, .null, .int 0, .int 0, .int 0, .null, .int 0, .null, .int 0, .null, .int 0, .long 0, .null, .int 0, .int 0, .int 0, .null, .null, .null, .null, .null, .null, .int 0, .null, .int 0, .null, .int 0, .null, .int 0, .null, .int 0, .null, .null, .null, .null, .null, .null, .null, .null, .null, .null, .null, .null, .null, .null, .null, .null, .null, .null, .null, .null, .int 0, .int 0, .int 0, .int 0, .int 0, .null, .null, .null, .null, .null, .null, .null, .null, .null, .null, .int 0, .int 0, .int 0, .int 0, .int 0, .int 0, .int 0, .int 0, .int 0, .long 0, .int 0, .int 0, .null, .null]
def pe_dv_16 : List Value := [.null, .null, .null, .null, .null, .int 0]
def pe_dv_17 : List Value := [.null, .null, .null, .null, .null, .int 0]
def pe_dv_18 : List Value := [.null, .null, .null, .null, .null, .int 0]
def pe_dv_19 : List Value := [.null, .null, .null, .null, .null, .int 0]
def pe_dv : List (List Value) := [pe_dv_0, pe_dv_1, pe_dv_2, pe_dv_3, pe_dv_4, pe_dv_5, pe_dv_6, pe_dv_7, pe_dv_8, pe_dv_9, pe_dv_10, pe_dv_11, pe_dv_12, pe_dv_13, pe_dv_14, pe_dv_15, pe_dv_16, pe_dv_17, pe_dv_18, pe_dv_19]
set_option maxRecDepth 20000 in
theorem dvC_0 (ex : Nat → Nat) (B : Nat) : pe_dv_0.map (pm_v ex B) = pe_dv_0 := rfl
set_option maxRecDepth 20000 in
theorem dvC_0_ok : ∀ j, j < 17 → defaultValue (tC_0 j) = vp_V pe_dv_0 j := by decide +kernel
set_option maxRecDepth 20000 in
theorem dvC_1 (ex : Nat → Nat) (B : Nat) : pe_dv_1.map (pm_v ex B) = pe_dv_1 := rfl
set_option maxRecDepth 20000 in
theorem dvC_1_ok : ∀ j, j < 18 → defaultValue (tC_1 j) = vp_V pe_dv_1 j := by decide +kernel
set_option maxRecDepth 20000 in
theorem dvC_2 (ex : Nat → Nat) (B : Nat) : pe_dv_2.map (pm_v ex B) = pe_dv_2 := rfl
set_option maxRecDepth 20000 in
theorem dvC_2_ok : ∀ j, j < 20 → defaultValue (tC_2 j) = vp_V pe_dv_2 j := by decide +kernel
set_option maxRecDepth 20000 in
theorem dvC_3 (ex : Nat → Nat) (B : Nat) : pe_dv_3.map (pm_v ex B) = pe_dv_3 := rfl
set_option maxRecDepth 20000 in
theorem dvC_3_ok : ∀ j, j < 19 → defaultValue (tC_3 j) = vp_V pe_dv_3 j := by decide +kernel
set_option maxRecDepth 20000 in
theorem dvC_4 (ex : Nat → Nat) (B : Nat) : pe_dv_4.map (pm_v ex B) = pe_dv_4 := rfl
set_option maxRecDepth 20000 in
theorem dvC_4_ok : ∀ j, j < 5 → defaultValue (tC_4 j) = vp_V pe_dv_4 j := by decide +kernel
set_option maxRecDepth 20000 in
theorem dvC_5 (ex : Nat → Nat) (B : Nat) : pe_dv_5.map (pm_v ex B) = pe_dv_5 := rfl
set_option maxRecDepth 20000 in
theorem dvC_5_ok : ∀ j, j < 20 → defaultValue (tC_5 j) = vp_V pe_dv_5 j := by decide +kernel
set_option maxRecDepth 20000 in
theorem dvC_6 (ex : Nat → Nat) (B : Nat) : pe_dv_6.map (pm_v ex B) = pe_dv_6 := rfl
set_option maxRecDepth 20000 in
theorem dvC_6_ok : ∀ j, j < 10 → defaultValue (tC_6 j) = vp_V pe_dv_6 j := by decide +kernel
set_option maxRecDepth 20000 in
theorem dvC_7 (ex : Nat → Nat) (B : Nat) : pe_dv_7.map (pm_v ex B) = pe_dv_7 := rfl
set_option maxRecDepth 20000 in
theorem dvC_7_ok : ∀ j, j < 3 → defaultValue (tC_7 j) = vp_V pe_dv_7 j := by decide +kernel
set_option maxRecDepth 20000 in
theorem dvC_8 (ex : Nat → Nat) (B : Nat) : pe_dv_8.map (pm_v ex B) = pe_dv_8 := rfl
set_option maxRecDepth 20000 in
theorem dvC_8_ok : ∀ j, j < 17 → defaultValue (tC_8 j) = vp_V pe_dv_8 j := by decide +kernel
set_option maxRecDepth 20000 in
theorem dvC_9 (ex : Nat → Nat) (B : Nat) : pe_dv_9.map (pm_v ex B) = pe_dv_9 := rfl
set_option maxRecDepth 20000 in
theorem dvC_9_ok : ∀ j, j < 16 → defaultValue (tC_9 j) = vp_V pe_dv_9 j := by decide +kernel
set_option maxRecDepth 20000 in
theorem dvC_10 (ex : Nat → Nat) (B : Nat) : pe_dv_10.map (pm_v ex B) = pe_dv_10 := rfl
set_option maxRecDepth 20000 in
theorem dvC_10_ok : ∀ j, j < 11 → defaultValue (tC_10 j) = vp_V pe_dv_10 j := by decide +kernel
set_option maxRecDepth 20000 in
theorem dvC_11 (ex : Nat → Nat) (B : Nat) : pe_dv_11.map (pm_v ex B) = pe_dv_11 := rfl
set_option maxRecDepth 20000 in
theorem dvC_11_ok : ∀ j, j < 8 → defaultValue (tC_11 j) = vp_V pe_dv_11 j := by decide +kernel
set_option maxRecDepth 20000 in
theorem dvC_12 (ex : Nat → Nat) (B : Nat) : pe_dv_12.map (pm_v ex B) = pe_dv_12 := rfl
set_option maxRecDepth 20000 in
theorem dvC_12_ok : ∀ j, j < 21 → defaultValue (tC_12 j) = vp_V pe_dv_12 j := by decide +kernel
set_option maxRecDepth 20000 in
theorem dvC_13 (ex : Nat → Nat) (B : Nat) : pe_dv_13.map (pm_v ex B) = pe_dv_13 := rfl
set_option maxRecDepth 20000 in
theorem dvC_13_ok : ∀ j, j < 3 → defaultValue (tC_13 j) = vp_V pe_dv_13 j := by decide +kernel
set_option maxRecDepth 20000 in
theorem dvC_14 (ex : Nat → Nat) (B : Nat) : pe_dv_14.map (pm_v ex B) = pe_dv_14 := rfl
set_option maxRecDepth 20000 in
theorem dvC_14_ok : ∀ j, j < 8 → defaultValue (tC_14 j) = vp_V pe_dv_14 j := by decide +kernel
set_option maxRecDepth 20000 in
theorem dvC_15 (ex : Nat → Nat) (B : Nat) : pe_dv_15.map (pm_v ex B) = pe_dv_15 := rfl
set_option maxRecDepth 20000 in
theorem dvC_15_ok : ∀ j, j < 180 → defaultValue (tM j) = vp_V pe_dv_15 j := by decide +kernel
set_option maxRecDepth 20000 in
theorem dvC_16 (ex : Nat → Nat) (B : Nat) : pe_dv_16.map (pm_v ex B) = pe_dv_16 := rfl
set_option maxRecDepth 20000 in
theorem dvC_16_ok : ∀ j, j < 6 → defaultValue (tC_16 j) = vp_V pe_dv_16 j := by decide +kernel
set_option maxRecDepth 20000 in
theorem dvC_17 (ex : Nat → Nat) (B : Nat) : pe_dv_17.map (pm_v ex B) = pe_dv_17 := rfl
set_option maxRecDepth 20000 in
theorem dvC_17_ok : ∀ j, j < 6 → defaultValue (tC_17 j) = vp_V pe_dv_17 j := by decide +kernel
set_option maxRecDepth 20000 in
theorem dvC_18 (ex : Nat → Nat) (B : Nat) : pe_dv_18.map (pm_v ex B) = pe_dv_18 := rfl
set_option maxRecDepth 20000 in
theorem dvC_18_ok : ∀ j, j < 6 → defaultValue (tC_18 j) = vp_V pe_dv_18 j := by decide +kernel
set_option maxRecDepth 20000 in
theorem dvC_19 (ex : Nat → Nat) (B : Nat) : pe_dv_19.map (pm_v ex B) = pe_dv_19 := rfl
set_option maxRecDepth 20000 in
theorem dvC_19_ok : ∀ j, j < 6 → defaultValue (tC_19 j) = vp_V pe_dv_19 j := by decide +kernel
theorem pe_cl_ok (ex : Nat → Nat) (B : Nat) : pe_clok pe_cl pe_dv ex B := by
  intro ci C T N h
  match ci, h with
  | 0, h =>
    have h2 : some ("LinkedTongue$Code", TC_0, 17) = some (C, T, N) := h
    cases h2
    refine ⟨inC_0, tC_0, tC_0_ok, nC_0, fun vs hv => ?_⟩
    have hv2 : some pe_dv_0 = some vs := hv
    cases hv2
    exact ⟨rfl, fun j hj => by rw [dvC_0]; exact dvC_0_ok j hj⟩
  | 1, h =>
    have h2 : some ("LinkedTongue$Compiler", TC_1, 18) = some (C, T, N) := h
    cases h2
    refine ⟨inC_1, tC_1, tC_1_ok, nC_1, fun vs hv => ?_⟩
    have hv2 : some pe_dv_1 = some vs := hv
    cases hv2
    exact ⟨rfl, fun j hj => by rw [dvC_1]; exact dvC_1_ok j hj⟩
  | 2, h =>
    have h2 : some ("LinkedTongue$Heap", TC_2, 20) = some (C, T, N) := h
    cases h2
    refine ⟨inC_2, tC_2, tC_2_ok, nC_2, fun vs hv => ?_⟩
    have hv2 : some pe_dv_2 = some vs := hv
    cases hv2
    exact ⟨rfl, fun j hj => by rw [dvC_2]; exact dvC_2_ok j hj⟩
  | 3, h =>
    have h2 : some ("LinkedTongue$Host", TC_3, 19) = some (C, T, N) := h
    cases h2
    refine ⟨inC_3, tC_3, tC_3_ok, nC_3, fun vs hv => ?_⟩
    have hv2 : some pe_dv_3 = some vs := hv
    cases hv2
    exact ⟨rfl, fun j hj => by rw [dvC_3]; exact dvC_3_ok j hj⟩
  | 4, h =>
    have h2 : some ("LinkedTongue$HostReader", TC_4, 5) = some (C, T, N) := h
    cases h2
    refine ⟨inC_4, tC_4, tC_4_ok, nC_4, fun vs hv => ?_⟩
    have hv2 : some pe_dv_4 = some vs := hv
    cases hv2
    exact ⟨rfl, fun j hj => by rw [dvC_4]; exact dvC_4_ok j hj⟩
  | 5, h =>
    have h2 : some ("LinkedTongue$Linker", TC_5, 20) = some (C, T, N) := h
    cases h2
    refine ⟨inC_5, tC_5, tC_5_ok, nC_5, fun vs hv => ?_⟩
    have hv2 : some pe_dv_5 = some vs := hv
    cases hv2
    exact ⟨rfl, fun j hj => by rw [dvC_5]; exact dvC_5_ok j hj⟩
  | 6, h =>
    have h2 : some ("LinkedTongue$Reader", TC_6, 10) = some (C, T, N) := h
    cases h2
    refine ⟨inC_6, tC_6, tC_6_ok, nC_6, fun vs hv => ?_⟩
    have hv2 : some pe_dv_6 = some vs := hv
    cases hv2
    exact ⟨rfl, fun j hj => by rw [dvC_6]; exact dvC_6_ok j hj⟩
  | 7, h =>
    have h2 : some ("LinkedTongue$Row", TC_7, 3) = some (C, T, N) := h
    cases h2
    refine ⟨inC_7, tC_7, tC_7_ok, nC_7, fun vs hv => ?_⟩
    have hv2 : some pe_dv_7 = some vs := hv
    cases hv2
    exact ⟨rfl, fun j hj => by rw [dvC_7]; exact dvC_7_ok j hj⟩
  | 8, h =>
    have h2 : some ("LinkedTongue$Task", TC_8, 17) = some (C, T, N) := h
    cases h2
    refine ⟨inC_8, tC_8, tC_8_ok, nC_8, fun vs hv => ?_⟩
    have hv2 : some pe_dv_8 = some vs := hv
    cases hv2
    exact ⟨rfl, fun j hj => by rw [dvC_8]; exact dvC_8_ok j hj⟩
  | 9, h =>
    have h2 : some ("LinkedTongue$Words", TC_9, 16) = some (C, T, N) := h
    cases h2
    refine ⟨inC_9, tC_9, tC_9_ok, nC_9, fun vs hv => ?_⟩
    have hv2 : some pe_dv_9 = some vs := hv
    cases hv2
    exact ⟨rfl, fun j hj => by rw [dvC_9]; exact dvC_9_ok j hj⟩
  | 10, h =>
    have h2 : some ("LinkedTongue", TC_10, 11) = some (C, T, N) := h
    cases h2
    refine ⟨inC_10, tC_10, tC_10_ok, nC_10, fun vs hv => ?_⟩
    have hv2 : some pe_dv_10 = some vs := hv
    cases hv2
    exact ⟨rfl, fun j hj => by rw [dvC_10]; exact dvC_10_ok j hj⟩
  | 11, h =>
    have h2 : some ("LinkedTongueModel$Halt", TC_11, 8) = some (C, T, N) := h
    cases h2
    refine ⟨inC_11, tC_11, tC_11_ok, nC_11, fun vs hv => ?_⟩
    have hv2 : some pe_dv_11 = some vs := hv
    cases hv2
    exact ⟨rfl, fun j hj => by rw [dvC_11]; exact dvC_11_ok j hj⟩
  | 12, h =>
    have h2 : some ("LinkedTongueModel$Host", TC_12, 21) = some (C, T, N) := h
    cases h2
    refine ⟨inC_12, tC_12, tC_12_ok, nC_12, fun vs hv => ?_⟩
    have hv2 : some pe_dv_12 = some vs := hv
    cases hv2
    exact ⟨rfl, fun j hj => by rw [dvC_12]; exact dvC_12_ok j hj⟩
  | 13, h =>
    have h2 : some ("LinkedTongueModel$Ints", TC_13, 3) = some (C, T, N) := h
    cases h2
    refine ⟨inC_13, tC_13, tC_13_ok, nC_13, fun vs hv => ?_⟩
    have hv2 : some pe_dv_13 = some vs := hv
    cases hv2
    exact ⟨rfl, fun j hj => by rw [dvC_13]; exact dvC_13_ok j hj⟩
  | 14, h =>
    have h2 : some ("LinkedTongueModel$Part", TC_14, 8) = some (C, T, N) := h
    cases h2
    refine ⟨inC_14, tC_14, tC_14_ok, nC_14, fun vs hv => ?_⟩
    have hv2 : some pe_dv_14 = some vs := hv
    cases hv2
    exact ⟨rfl, fun j hj => by rw [dvC_14]; exact dvC_14_ok j hj⟩
  | 15, h =>
    have h2 : some ("LinkedTongueModel", TM, 180) = some (C, T, N) := h
    cases h2
    refine ⟨inC_15, tM, tM_ok, nM, fun vs hv => ?_⟩
    have hv2 : some pe_dv_15 = some vs := hv
    cases hv2
    exact ⟨rfl, fun j hj => by rw [dvC_15]; exact dvC_15_ok j hj⟩
  | 16, h =>
    have h2 : some ("java/lang/IllegalArgumentException", TC_16, 6) = some (C, T, N) := h
    cases h2
    refine ⟨inC_16, tC_16, tC_16_ok, nC_16, fun vs hv => ?_⟩
    have hv2 : some pe_dv_16 = some vs := hv
    cases hv2
    exact ⟨rfl, fun j hj => by rw [dvC_16]; exact dvC_16_ok j hj⟩
  | 17, h =>
    have h2 : some ("java/lang/IllegalStateException", TC_17, 6) = some (C, T, N) := h
    cases h2
    refine ⟨inC_17, tC_17, tC_17_ok, nC_17, fun vs hv => ?_⟩
    have hv2 : some pe_dv_17 = some vs := hv
    cases hv2
    exact ⟨rfl, fun j hj => by rw [dvC_17]; exact dvC_17_ok j hj⟩
  | 18, h =>
    have h2 : some ("java/lang/IndexOutOfBoundsException", TC_18, 6) = some (C, T, N) := h
    cases h2
    refine ⟨inC_18, tC_18, tC_18_ok, nC_18, fun vs hv => ?_⟩
    have hv2 : some pe_dv_18 = some vs := hv
    cases hv2
    exact ⟨rfl, fun j hj => by rw [dvC_18]; exact dvC_18_ok j hj⟩
  | 19, h =>
    have h2 : some ("java/util/NoSuchElementException", TC_19, 6) = some (C, T, N) := h
    cases h2
    refine ⟨inC_19, tC_19, tC_19_ok, nC_19, fun vs hv => ?_⟩
    have hv2 : some pe_dv_19 = some vs := hv
    cases hv2
    exact ⟨rfl, fun j hj => by rw [dvC_19]; exact dvC_19_ok j hj⟩
  | n + 20, h =>
    rw [pe_at_eq] at h
    exact absurd (List.getElem?_eq_some_iff.mp h).1 (by show ¬ n + 20 < 20; omega)
theorem pe_arr_ok : ∀ ty, ty = .int ∨ ty = .long ∨ ty = .byte ∨ ty = .boolean → Cond.arrayClass ty ∈ pm_tb := by
  intro ty h
  rcases h with rfl | rfl | rfl | rfl
  · exact (pm_mem 219 (by decide +kernel) (by decide +kernel))
  · exact (pm_mem 479 (by decide +kernel) (by decide +kernel))
  · exact (pm_mem 218 (by decide +kernel) (by decide +kernel))
  · exact (pm_mem 808 (by decide +kernel) (by decide +kernel))
