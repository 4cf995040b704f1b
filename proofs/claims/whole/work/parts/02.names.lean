
def R_Bytes : String := "EventLog$Bytes"
def T_Bytes : u_T := fun k => match k with
  | 0 => ("EventLog$Bytes", "row", "[I", true)
  | _ => ("EventLog$Bytes", "length", "I", false)
def ty_Bytes : Nat → FieldType := fun k => match k with
  | 0 => .array .int
  | _ => .int
theorem nm_Bytes : ∀ a, a < 2 → ∀ b, b < 2 → a ≠ b → (T_Bytes a).2.1 ≠ (T_Bytes b).2.1 := by decide +kernel
theorem tyok_Bytes : ∀ k, k < 2 → parseFieldDescriptor (T_Bytes k).2.2.1 = some (ty_Bytes k) := by decide +kernel
theorem iw_Bytes : ∀ x ∈ u_ws R_Bytes T_Bytes 2, x ∈ U0 := fun x h => mU ((by decide +kernel : ∀ x ∈ u_ws R_Bytes T_Bytes 2, x ∈ lw_tbl) x h) ((by decide +kernel : ∀ x ∈ u_ws R_Bytes T_Bytes 2, goodWord x = true) x h)
def R_Past : String := "EventLog$Past"
def T_Past : u_T := fun k => match k with
  | 0 => ("EventLog$Past", "typed", "[I", true)
  | 1 => ("EventLog$Past", "typedNumber", "I", false)
  | _ => ("EventLog$Past", "clock", "I", false)
def ty_Past : Nat → FieldType := fun k => match k with
  | 0 => .array .int
  | 1 => .int
  | _ => .int
theorem nm_Past : ∀ a, a < 3 → ∀ b, b < 3 → a ≠ b → (T_Past a).2.1 ≠ (T_Past b).2.1 := by decide +kernel
theorem tyok_Past : ∀ k, k < 3 → parseFieldDescriptor (T_Past k).2.2.1 = some (ty_Past k) := by decide +kernel
theorem iw_Past : ∀ x ∈ u_ws R_Past T_Past 3, x ∈ U0 := fun x h => mU ((by decide +kernel : ∀ x ∈ u_ws R_Past T_Past 3, x ∈ lw_tbl) x h) ((by decide +kernel : ∀ x ∈ u_ws R_Past T_Past 3, goodWord x = true) x h)
def R_Events : String := "EventLog$Events"
def T_Events : u_T := fun k => match k with
  | 0 => ("EventLog$Events", "kinds", "[I", true)
  | 1 => ("EventLog$Events", "differences", "[J", true)
  | 2 => ("EventLog$Events", "partsA", "[J", true)
  | 3 => ("EventLog$Events", "partsB", "[I", true)
  | _ => ("EventLog$Events", "number", "I", false)
def ty_Events : Nat → FieldType := fun k => match k with
  | 0 => .array .int
  | 1 => .array .long
  | 2 => .array .long
  | 3 => .array .int
  | _ => .int
theorem nm_Events : ∀ a, a < 5 → ∀ b, b < 5 → a ≠ b → (T_Events a).2.1 ≠ (T_Events b).2.1 := by decide +kernel
theorem tyok_Events : ∀ k, k < 5 → parseFieldDescriptor (T_Events k).2.2.1 = some (ty_Events k) := by decide +kernel
theorem iw_Events : ∀ x ∈ u_ws R_Events T_Events 5, x ∈ U0 := fun x h => mU ((by decide +kernel : ∀ x ∈ u_ws R_Events T_Events 5, x ∈ lw_tbl) x h) ((by decide +kernel : ∀ x ∈ u_ws R_Events T_Events 5, goodWord x = true) x h)
def R_Packer : String := "EventLog$Packer"
def T_Packer : u_T := fun k => match k with
  | 0 => ("EventLog$Packer", "log", "LEventLog$Bytes;", true)
  | 1 => ("EventLog$Packer", "past", "LEventLog$Past;", true)
  | 2 => ("EventLog$Packer", "writes", "Z", false)
  | 3 => ("EventLog$Packer", "bytes", "I", false)
  | 4 => ("EventLog$Packer", "entries", "I", false)
  | 5 => ("EventLog$Packer", "runs", "I", false)
  | 6 => ("EventLog$Packer", "sames", "I", false)
  | _ => ("EventLog$Packer", "repeats", "I", false)
def ty_Packer : Nat → FieldType := fun k => match k with
  | 0 => .object "EventLog$Bytes"
  | 1 => .object "EventLog$Past"
  | 2 => .boolean
  | 3 => .int
  | 4 => .int
  | 5 => .int
  | 6 => .int
  | _ => .int
theorem nm_Packer : ∀ a, a < 8 → ∀ b, b < 8 → a ≠ b → (T_Packer a).2.1 ≠ (T_Packer b).2.1 := by decide +kernel
theorem tyok_Packer : ∀ k, k < 8 → parseFieldDescriptor (T_Packer k).2.2.1 = some (ty_Packer k) := by decide +kernel
theorem iw_Packer : ∀ x ∈ u_ws R_Packer T_Packer 8, x ∈ U0 := fun x h => mU ((by decide +kernel : ∀ x ∈ u_ws R_Packer T_Packer 8, x ∈ lw_tbl) x h) ((by decide +kernel : ∀ x ∈ u_ws R_Packer T_Packer 8, goodWord x = true) x h)
def R_Reader : String := "EventLog$Reader"
def T_Reader : u_T := fun k => match k with
  | 0 => ("EventLog$Reader", "log", "LEventLog$Bytes;", true)
  | 1 => ("EventLog$Reader", "past", "LEventLog$Past;", true)
  | 2 => ("EventLog$Reader", "place", "I", false)
  | 3 => ("EventLog$Reader", "fault", "I", false)
  | _ => ("EventLog$Reader", "faultPlace", "I", false)
def ty_Reader : Nat → FieldType := fun k => match k with
  | 0 => .object "EventLog$Bytes"
  | 1 => .object "EventLog$Past"
  | 2 => .int
  | 3 => .int
  | _ => .int
theorem nm_Reader : ∀ a, a < 5 → ∀ b, b < 5 → a ≠ b → (T_Reader a).2.1 ≠ (T_Reader b).2.1 := by decide +kernel
theorem tyok_Reader : ∀ k, k < 5 → parseFieldDescriptor (T_Reader k).2.2.1 = some (ty_Reader k) := by decide +kernel
theorem iw_Reader : ∀ x ∈ u_ws R_Reader T_Reader 5, x ∈ U0 := fun x h => mU ((by decide +kernel : ∀ x ∈ u_ws R_Reader T_Reader 5, x ∈ lw_tbl) x h) ((by decide +kernel : ∀ x ∈ u_ws R_Reader T_Reader 5, goodWord x = true) x h)
def R_EventLog : String := "EventLog"
def T_EventLog : u_T := fun k => match k with
  | 0 => ("EventLog", "events", "LEventLog$Events;", false)
  | 1 => ("EventLog", "spare", "LEventLog$Events;", false)
  | 2 => ("EventLog", "log", "LEventLog$Bytes;", true)
  | 3 => ("EventLog", "packer", "LEventLog$Packer;", true)
  | _ => ("EventLog", "reader", "LEventLog$Reader;", true)
def ty_EventLog : Nat → FieldType := fun k => match k with
  | 0 => .object "EventLog$Events"
  | 1 => .object "EventLog$Events"
  | 2 => .object "EventLog$Bytes"
  | 3 => .object "EventLog$Packer"
  | _ => .object "EventLog$Reader"
theorem nm_EventLog : ∀ a, a < 5 → ∀ b, b < 5 → a ≠ b → (T_EventLog a).2.1 ≠ (T_EventLog b).2.1 := by decide +kernel
theorem tyok_EventLog : ∀ k, k < 5 → parseFieldDescriptor (T_EventLog k).2.2.1 = some (ty_EventLog k) := by decide +kernel
theorem iw_EventLog : ∀ x ∈ u_ws R_EventLog T_EventLog 5, x ∈ U0 := fun x h => mU ((by decide +kernel : ∀ x ∈ u_ws R_EventLog T_EventLog 5, x ∈ lw_tbl) x h) ((by decide +kernel : ∀ x ∈ u_ws R_EventLog T_EventLog 5, goodWord x = true) x h)
def R_Model : String := "EventLogModel"
def T_Model : u_T := fun k => match k with
  | 0 => ("EventLogModel", "code", "I", false)
  | 1 => ("EventLogModel", "events", "I", false)
  | 2 => ("EventLogModel", "kind", "[I", true)
  | 3 => ("EventLogModel", "b", "[I", true)
  | 4 => ("EventLogModel", "difference", "[J", true)
  | 5 => ("EventLogModel", "a", "[J", true)
  | 6 => ("EventLogModel", "newEvents", "I", false)
  | 7 => ("EventLogModel", "newKind", "[I", true)
  | 8 => ("EventLogModel", "newB", "[I", true)
  | 9 => ("EventLogModel", "newDifference", "[J", true)
  | 10 => ("EventLogModel", "newA", "[J", true)
  | 11 => ("EventLogModel", "length", "I", false)
  | 12 => ("EventLogModel", "log", "[I", true)
  | 13 => ("EventLogModel", "packed", "[I", true)
  | 14 => ("EventLogModel", "size", "I", false)
  | 15 => ("EventLogModel", "entries", "I", false)
  | 16 => ("EventLogModel", "runs", "I", false)
  | 17 => ("EventLogModel", "sames", "I", false)
  | 18 => ("EventLogModel", "copies", "I", false)
  | 19 => ("EventLogModel", "at", "I", false)
  | _ => ("EventLogModel", "fault", "I", false)
def ty_Model : Nat → FieldType := fun k => match k with
  | 0 => .int
  | 1 => .int
  | 2 => .array .int
  | 3 => .array .int
  | 4 => .array .long
  | 5 => .array .long
  | 6 => .int
  | 7 => .array .int
  | 8 => .array .int
  | 9 => .array .long
  | 10 => .array .long
  | 11 => .int
  | 12 => .array .int
  | 13 => .array .int
  | 14 => .int
  | 15 => .int
  | 16 => .int
  | 17 => .int
  | 18 => .int
  | 19 => .int
  | _ => .int
theorem nm_Model : ∀ a, a < 21 → ∀ b, b < 21 → a ≠ b → (T_Model a).2.1 ≠ (T_Model b).2.1 := by decide +kernel
theorem tyok_Model : ∀ k, k < 21 → parseFieldDescriptor (T_Model k).2.2.1 = some (ty_Model k) := by decide +kernel
theorem iw_Model : ∀ x ∈ u_ws R_Model T_Model 21, x ∈ U0 := fun x h => mU ((by decide +kernel : ∀ x ∈ u_ws R_Model T_Model 21, x ∈ lw_tbl) x h) ((by decide +kernel : ∀ x ∈ u_ws R_Model T_Model 21, goodWord x = true) x h)
abbrev vwCl : List vw_C := [(R_Bytes, T_Bytes, 2), (R_Past, T_Past, 3), (R_Events, T_Events, 5), (R_Packer, T_Packer, 8), (R_Reader, T_Reader, 5), (R_EventLog, T_EventLog, 5), (R_Model, T_Model, 21)]
