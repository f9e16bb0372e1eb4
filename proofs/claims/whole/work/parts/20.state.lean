/-! The classes, their fields, and what the cells of each region hold. -/
def xF_TG : u_T := fun k => match k with
  | 0 => ("SplitFabric$Tag", "master", "I", true)
  | 1 => ("SplitFabric$Tag", "number", "I", true)
  | 2 => ("SplitFabric$Tag", "kept", "[I", true)
  | 3 => ("SplitFabric$Tag", "state", "I", false)
  | 4 => ("SplitFabric$Tag", "kind", "I", false)
  | 5 => ("SplitFabric$Tag", "address", "I", false)
  | 6 => ("SplitFabric$Tag", "length", "I", false)
  | 7 => ("SplitFabric$Tag", "order", "I", false)
  | 8 => ("SplitFabric$Tag", "waited", "I", false)
  | 9 => ("SplitFabric$Tag", "isAnswered", "Z", false)
  | _ => ("SplitFabric$Tag", "returned", "I", false)
def xY_TG : Nat → FieldType := fun k => match k with
  | 0 => .int
  | 1 => .int
  | 2 => .array .int
  | 3 => .int
  | 4 => .int
  | 5 => .int
  | 6 => .int
  | 7 => .int
  | 8 => .int
  | 9 => .boolean
  | _ => .int
theorem xY_TG_ok : ∀ k, k < 11 → parseFieldDescriptor (xF_TG k).2.2.1 = some (xY_TG k) := by decide +kernel
theorem xF_TG_nm : ∀ a, a < 11 → ∀ b, b < 11 → a ≠ b → (xF_TG a).2.1 ≠ (xF_TG b).2.1 := by decide +kernel
def xF_TA : u_T := fun k => match k with
  | 0 => ("SplitFabric$Target", "queue", "[I", true)
  | 1 => ("SplitFabric$Target", "queued", "I", false)
  | 2 => ("SplitFabric$Target", "creditsLeft", "I", false)
  | 3 => ("SplitFabric$Target", "heldBy", "I", false)
  | _ => ("SplitFabric$Target", "isReady", "Z", false)
def xY_TA : Nat → FieldType := fun k => match k with
  | 0 => .array .int
  | 1 => .int
  | 2 => .int
  | 3 => .int
  | _ => .boolean
theorem xY_TA_ok : ∀ k, k < 5 → parseFieldDescriptor (xF_TA k).2.2.1 = some (xY_TA k) := by decide +kernel
theorem xF_TA_nm : ∀ a, a < 5 → ∀ b, b < 5 → a ≠ b → (xF_TA a).2.1 ≠ (xF_TA b).2.1 := by decide +kernel
def xF_SF : u_T := fun k => match k with
  | 0 => ("SplitFabric", "tags", "[LSplitFabric$Tag;", true)
  | 1 => ("SplitFabric", "targets", "[LSplitFabric$Target;", true)
  | 2 => ("SplitFabric", "words", "[I", true)
  | 3 => ("SplitFabric", "dataOfMaster", "[[I", true)
  | 4 => ("SplitFabric", "baseOfMaster", "[I", true)
  | 5 => ("SplitFabric", "log", "Ljava/util/ArrayList;", true)
  | 6 => ("SplitFabric", "cyclesDone", "I", false)
  | 7 => ("SplitFabric", "issued", "I", false)
  | 8 => ("SplitFabric", "lastGranted", "I", false)
  | _ => ("SplitFabric", "lastReturned", "I", false)
def xY_SF : Nat → FieldType := fun k => match k with
  | 0 => .array (.object "SplitFabric$Tag")
  | 1 => .array (.object "SplitFabric$Target")
  | 2 => .array .int
  | 3 => .array (.array .int)
  | 4 => .array .int
  | 5 => .object "java/util/ArrayList"
  | 6 => .int
  | 7 => .int
  | 8 => .int
  | _ => .int
theorem xY_SF_ok : ∀ k, k < 10 → parseFieldDescriptor (xF_SF k).2.2.1 = some (xY_SF k) := by decide +kernel
theorem xF_SF_nm : ∀ a, a < 10 → ∀ b, b < 10 → a ≠ b → (xF_SF a).2.1 ≠ (xF_SF b).2.1 := by decide +kernel
def xF_SV : u_T := fun k => match k with
  | 0 => ("SplitFabric$Served", "master", "I", true)
  | 1 => ("SplitFabric$Served", "tag", "I", true)
  | 2 => ("SplitFabric$Served", "kind", "I", true)
  | 3 => ("SplitFabric$Served", "address", "I", true)
  | 4 => ("SplitFabric$Served", "length", "I", true)
  | _ => ("SplitFabric$Served", "inCycle", "I", true)
def xY_SV : Nat → FieldType := fun k => match k with
  | 0 => .int
  | 1 => .int
  | 2 => .int
  | 3 => .int
  | 4 => .int
  | _ => .int
theorem xY_SV_ok : ∀ k, k < 6 → parseFieldDescriptor (xF_SV k).2.2.1 = some (xY_SV k) := by decide +kernel
theorem xF_SV_nm : ∀ a, a < 6 → ∀ b, b < 6 → a ≠ b → (xF_SV a).2.1 ≠ (xF_SV b).2.1 := by decide +kernel
def xF_AL : u_T := fun k => match k with
  | 0 => ("java/util/AbstractList", "modCount", "I", false)
  | 1 => ("java/util/ArrayList", "elementData", "[Ljava/lang/Object;", false)
  | _ => ("java/util/ArrayList", "size", "I", false)
def xY_AL : Nat → FieldType := fun k => match k with
  | 0 => .int
  | 1 => .array (.object "java/lang/Object")
  | _ => .int
theorem xY_AL_ok : ∀ k, k < 3 → parseFieldDescriptor (xF_AL k).2.2.1 = some (xY_AL k) := by decide +kernel
theorem xF_AL_nm : ∀ a, a < 3 → ∀ b, b < 3 → a ≠ b → (xF_AL a).2.1 ≠ (xF_AL b).2.1 := by decide +kernel
def xF_MD : u_T := fun k => match k with
  | 0 => ("SplitFabricModel", "fault", "I", false)
  | 1 => ("SplitFabricModel", "memory", "[I", true)
  | 2 => ("SplitFabricModel", "data", "[I", true)
  | 3 => ("SplitFabricModel", "base", "[I", true)
  | 4 => ("SplitFabricModel", "ready", "[Z", true)
  | 5 => ("SplitFabricModel", "holder", "[I", true)
  | 6 => ("SplitFabricModel", "state", "[I", true)
  | 7 => ("SplitFabricModel", "kind", "[I", true)
  | 8 => ("SplitFabricModel", "address", "[I", true)
  | 9 => ("SplitFabricModel", "length", "[I", true)
  | 10 => ("SplitFabricModel", "waited", "[I", true)
  | 11 => ("SplitFabricModel", "issued", "[I", true)
  | 12 => ("SplitFabricModel", "queued", "[I", true)
  | 13 => ("SplitFabricModel", "kept", "[I", true)
  | 14 => ("SplitFabricModel", "read", "[I", true)
  | 15 => ("SplitFabricModel", "left", "[I", true)
  | 16 => ("SplitFabricModel", "issues", "I", false)
  | 17 => ("SplitFabricModel", "grants", "I", false)
  | 18 => ("SplitFabricModel", "lastReturned", "I", false)
  | 19 => ("SplitFabricModel", "lastMaster", "I", false)
  | 20 => ("SplitFabricModel", "time", "I", false)
  | 21 => ("SplitFabricModel", "served", "I", false)
  | _ => ("SplitFabricModel", "services", "[I", true)
def xY_MD : Nat → FieldType := fun k => match k with
  | 0 => .int
  | 1 => .array .int
  | 2 => .array .int
  | 3 => .array .int
  | 4 => .array .boolean
  | 5 => .array .int
  | 6 => .array .int
  | 7 => .array .int
  | 8 => .array .int
  | 9 => .array .int
  | 10 => .array .int
  | 11 => .array .int
  | 12 => .array .int
  | 13 => .array .int
  | 14 => .array .int
  | 15 => .array .int
  | 16 => .int
  | 17 => .int
  | 18 => .int
  | 19 => .int
  | 20 => .int
  | 21 => .int
  | _ => .array .int
theorem xY_MD_ok : ∀ k, k < 23 → parseFieldDescriptor (xF_MD k).2.2.1 = some (xY_MD k) := by decide +kernel
theorem xF_MD_nm : ∀ a, a < 23 → ∀ b, b < 23 → a ≠ b → (xF_MD a).2.1 ≠ (xF_MD b).2.1 := by decide +kernel
abbrev xCl : List vw_C := [("SplitFabric$Tag", xF_TG, 11), ("SplitFabric$Target", xF_TA, 5), ("SplitFabric", xF_SF, 10), ("SplitFabric$Served", xF_SV, 6), ("java/util/ArrayList", xF_AL, 3), ("SplitFabricModel", xF_MD, 23)]
abbrev xMem : Type := Nat → Nat → Nat → Int32
def xT (cA : Nat → ClassId) : List (ClassId × FieldType) := [(cA 0, .int), (cA 1, .object "SplitFabric$Tag"), (cA 2, .object "SplitFabric$Target"), (cA 3, .array .int), (cA 4, .object "java/lang/Object"), (cA 5, .boolean), (cA 6, .long)]
/-- an array of references whose first n places are filled -/
def xv_fill (n : Nat) (g : Nat → Nat) : Nat → Option Nat := fun i => if i < n then some (g i) else none
/-- what a cell of region r, number k holds, by its ints f -/
def xcell (cA : Nat → ClassId) (tz : Nat) (ad : Nat → Nat → Nat) (r k : Nat) (f : Nat → Int32) : va_E := match r with
  | 0 => .inr (0, [.int (f 0), .int (f 1), .ref (ad 1 k), .int (f 3), .int (f 4), .int (f 5), .int (f 6), .int (f 7), .int (f 8), .int (f 9), .int (f 10)])
  | 1 => .inl (cA 0, 4, .inl f)
  | 2 => .inr (1, [.ref (ad 3 k), .int (f 1), .int (f 2), .int (f 3), .int (f 4)])
  | 3 => .inl (cA 0, 4, .inl f)
  | 4 => .inl (cA 0, 4, .inl f)
  | 5 => .inr (2, [.ref (ad 6 0), .ref (ad 7 0), .ref (ad 8 0), .ref (ad 9 0), .ref (ad 10 0), .ref (ad 11 0), .int (f 6), .int (f 7), .int (f 8), .int (f 9)])
  | 6 => .inl (cA 1, 16, .inr (.inr (.inr (.inr (xv_fill (f 0).toNatClampNeg (ad 0))))))
  | 7 => .inl (cA 2, 3, .inr (.inr (.inr (.inr (xv_fill (f 0).toNatClampNeg (ad 2))))))
  | 8 => .inl (cA 0, 48, .inl f)
  | 9 => .inl (cA 3, 4, .inr (.inr (.inr (.inr (fun i => some (ad 4 i))))))
  | 10 => .inl (cA 0, 4, .inl f)
  | 11 => .inr (4, [.int (f 0), .ref (if f 9 = 0 then tz else ad 12 (f 9).toNatClampNeg), .int (f 2)])
  | 12 => .inl (cA 4, (f 1).toNatClampNeg, .inr (.inr (.inr (.inr (xv_fill (f 0).toNatClampNeg (ad 13))))))
  | 13 => .inr (3, [.int (f 0), .int (f 1), .int (f 2), .int (f 3), .int (f 4), .int (f 5)])
  | 20 => .inr (5, [.int (f 0), .ref (ad 21 0), .ref (ad 22 0), .ref (ad 23 0), .ref (ad 24 0), .ref (ad 25 0), .ref (ad 26 0), .ref (ad 27 0), .ref (ad 28 0), .ref (ad 29 0), .ref (ad 30 0), .ref (ad 31 0), .ref (ad 32 0), .ref (ad 33 0), .ref (ad 34 0), .ref (ad 35 0), .int (f 16), .int (f 17), .int (f 18), .int (f 19), .int (f 20), .int (f 21), .ref (ad 36 0)])
  | 21 => .inl (cA 0, 48, .inl f)
  | 22 => .inl (cA 0, 16, .inl f)
  | 23 => .inl (cA 0, 4, .inl f)
  | 24 => .inl (cA 5, 3, .inl f)
  | 25 => .inl (cA 0, 3, .inl f)
  | 26 => .inl (cA 0, 16, .inl f)
  | 27 => .inl (cA 0, 16, .inl f)
  | 28 => .inl (cA 0, 16, .inl f)
  | 29 => .inl (cA 0, 16, .inl f)
  | 30 => .inl (cA 0, 16, .inl f)
  | 31 => .inl (cA 0, 16, .inl f)
  | 32 => .inl (cA 0, 16, .inl f)
  | 33 => .inl (cA 0, 64, .inl f)
  | 34 => .inl (cA 0, 64, .inl f)
  | 35 => .inl (cA 0, 16, .inl f)
  | 36 => .inl (cA 0, 3600, .inl f)
  | _ => .inl (cA 6, 1, .inr (.inl (fun i => (f i).toInt64)))
def xc (cA : Nat → ClassId) (tz : Nat) (ad : Nat → Nat → Nat) (σ : xMem) : Nat → Nat → va_E := fun r k => xcell cA tz ad r k (σ r k)
def xu3 (σ : xMem) (r k i : Nat) (v : Int32) : xMem := xw_u2 σ r k (va_up (σ r k) i v)
theorem xc_up (cA : Nat → ClassId) (tz : Nat) (ad : Nat → Nat → Nat) (σ : xMem) (r k : Nat) (f : Nat → Int32) : xw_u2 (xc cA tz ad σ) r k (xcell cA tz ad r k f) = xc cA tz ad (xw_u2 σ r k f) := by
  funext a b
  by_cases h : a = r ∧ b = k
  · obtain ⟨rfl, rfl⟩ := h
    rw [xw_u2_s]
    show _ = xcell cA tz ad a b (xw_u2 σ a b f a b)
    rw [xw_u2_s]
  · rw [xw_u2_n _ _ h]
    show xcell cA tz ad a b (σ a b) = xcell cA tz ad a b (xw_u2 σ r k f a b)
    rw [xw_u2_n _ _ h]
