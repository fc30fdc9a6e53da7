/-! An interpreter of the bytecode over abstract worlds: values are exact, or ints in an interval; cells are lists. -/
abbrev zi_V : Type := Value ⊕ (Int32 × Int32)
abbrev zi_C : Type := (Nat × List zi_V) ⊕ (Nat × Nat × zi_V × List (Nat × zi_V))
abbrev zi_E : Type := Instr × Nat × List Nat
abbrev zi_T : Type := List (Nat × List (Nat × zi_E))
abbrev zi_M : Type := MethodName × ByteArray × Nat × Option FieldType × zi_T × List Nat
abbrev zi_F : Type := Nat × List (Nat × zi_V) × List zi_V × List zi_C × Nat × Nat
abbrev zi_R : Type := Option zi_V × List zi_C × Nat × Nat
abbrev zi_K : Type := Nat → List zi_V → List zi_C → Option zi_R
/-- relations of lists, place by place -/
def zi_F2 {α β : Type} (r : α → β → Prop) : List α → List β → Prop
  | [], [] => True
  | a :: as, b :: bs => r a b ∧ zi_F2 r as bs
  | _, _ => False
noncomputable def zi_lk (pc : Nat) (l : List (Nat × zi_E)) : Option zi_E := List.rec (motive := fun _ => Option zi_E) none (fun q _ ih => bif Nat.beq q.1 pc then some q.2 else ih) l
noncomputable def zi_lk2 (pc : Nat) (l : zi_T) : Option zi_E := List.rec (motive := fun _ => Option zi_E) none (fun q _ ih => bif Nat.ble q.1 pc then ih else zi_lk pc q.2) l
noncomputable def zi_look (d : zi_V) (us : List (Nat × zi_V)) (j : Nat) : zi_V := List.rec (motive := fun _ => zi_V) d (fun q _ ih => bif Nat.beq q.1 j then q.2 else ih) us
noncomputable def zi_loc (al : List (Nat × zi_V)) (j : Nat) : Option zi_V := List.rec (motive := fun _ => Option zi_V) none (fun q _ ih => bif Nat.beq q.1 j then some q.2 else ih) al
def zi_kd (v : zi_V) : Nat := match v with
  | .inl (.int _) => 0
  | .inl (.long _) => 1
  | .inl (.ref _) => 2
  | .inl .null => 3
  | .inr _ => 0
  | _ => 9
def zi_cat (v : zi_V) : Nat := match v with
  | .inl (.long _) => 2
  | _ => 1
noncomputable def zi_del1 (i : Nat) (al : List (Nat × zi_V)) : List (Nat × zi_V) := List.rec (motive := fun _ => List (Nat × zi_V)) [] (fun q _ ih => bif (!(Nat.beq q.1 i) && !(Nat.beq (q.1 + 1) i && Nat.beq (zi_cat q.2) 2)) then q :: ih else ih) al
noncomputable def zi_del2 (i : Nat) (al : List (Nat × zi_V)) : List (Nat × zi_V) := List.rec (motive := fun _ => List (Nat × zi_V)) [] (fun q _ ih => bif (!(Nat.beq q.1 i) && (!(Nat.beq q.1 (i + 1)) && !(Nat.beq (q.1 + 1) i && Nat.beq (zi_cat q.2) 2))) then q :: ih else ih) al
noncomputable def zi_ent (i : Nat) (vs : List zi_V) : List (Nat × zi_V) := List.rec (motive := fun _ => Nat → List (Nat × zi_V)) (fun _ => []) (fun v _ ih => fun i => (i, v) :: ih (i + zi_cat v)) vs i
noncomputable def zi_cats (vs : List zi_V) : Nat := List.rec (motive := fun _ => Nat) 0 (fun v _ ih => zi_cat v + ih) vs
def zi_iv (v : zi_V) : Option (Int32 × Int32) := match v with
  | .inl (.int x) => some (x, x)
  | .inr p => some p
  | _ => none
def zi_lt (a b : Int32 × Int32) : Option Bool := bif decide (a.2 < b.1) then some true else bif decide (b.2 ≤ a.1) then some false else none
def zi_le (a b : Int32 × Int32) : Option Bool := bif decide (a.2 ≤ b.1) then some true else bif decide (b.2 < a.1) then some false else none
def zi_eq (a b : Int32 × Int32) : Option Bool := bif decide (a.2 < b.1) || decide (b.2 < a.1) then some false else bif decide (a.1 = a.2) && decide (b.1 = b.2) && decide (a.1 = b.1) then some true else none
def zi_cmp (c : ClassFile.Cond) (a b : Int32 × Int32) : Option Bool := match c with
  | .eq => zi_eq a b
  | .ne => (zi_eq a b).map (fun q => !q)
  | .lt => zi_lt a b
  | .ge => zi_le b a
  | .gt => zi_lt b a
  | .le => zi_le a b
def zi_test (c : ClassFile.Cond) (v w : zi_V) : Option Bool := match zi_iv v, zi_iv w with
  | some a, some b => zi_cmp c a b
  | _, _ => none
/-- the types of arrays, by their numbers -/
def zi_ft (t : Nat) : FieldType := match t with
  | 0 => .int
  | 1 => .long
  | 2 => .boolean
  | 3 => .char
  | 4 => .object "AgreeTold$FutureSet"
  | 5 => .object "AgreeTold$Story"
  | _ => .object "AgreeTold$Saying"
def zi_tk (t : Nat) : Nat := match t with
  | 0 => 0
  | 1 => 1
  | 2 => 0
  | 3 => 0
  | _ => 2
def zi_df (t : Nat) : zi_V := match t with
  | 0 => .inl (.int 0)
  | 1 => .inl (.long 0)
  | 2 => .inl (.int 0)
  | 3 => .inl (.int 0)
  | _ => .inl .null
def zi_fit (ty : FieldType) (v : zi_V) : Bool := match v with
  | .inl w => decide (narrow ty w = w) && fits ty w
  | .inr _ => decide (ty = .int)
def zi_rok (ty : FieldType) (v : zi_V) : Bool := match v with
  | .inl (.int x) => decide (narrow ty (.int x) = .int x)
  | .inl (.long _) => decide (ty = .long)
  | .inl (.ref _) => match ty with | .object _ => true | .array _ => true | _ => false
  | .inl .null => match ty with | .object _ => true | .array _ => true | _ => false
  | .inr _ => decide (ty = .int)
  | _ => false
def zi_in (x : Int32) (n : Nat) : Bool := !decide (x < 0) && Nat.ble (x.toNatClampNeg + 1) n
def zi_Fs : List (String × List ((String × String × String × Bool) × FieldType)) := [
  ("AgreeTold", [(("AgreeTold", "reader", "LAgreeTold$Reader;", true), (.object "AgreeTold$Reader")),
    (("AgreeTold", "tape", "LAgreeTold$Tape;", true), (.object "AgreeTold$Tape")),
    (("AgreeTold", "worlds", "LAgreeTold$Worlds;", true), (.object "AgreeTold$Worlds")),
    (("AgreeTold", "priceLaw", "LAgreeTold$PriceLaw;", true), (.object "AgreeTold$PriceLaw")),
    (("AgreeTold", "joint", "LAgreeTold$Joint;", true), (.object "AgreeTold$Joint")),
    (("AgreeTold", "draws", "LAgreeTold$Draws;", true), (.object "AgreeTold$Draws")),
    (("AgreeTold", "story", "LAgreeTold$Story;", true), (.object "AgreeTold$Story")),
    (("AgreeTold", "past", "[LAgreeTold$Story;", true), (.array (.object "AgreeTold$Story"))),
    (("AgreeTold", "marks", "[LAgreeTold$Story;", true), (.array (.object "AgreeTold$Story"))),
    (("AgreeTold", "left", "LAgreeTold$FutureSet;", true), (.object "AgreeTold$FutureSet")),
    (("AgreeTold", "scratch", "LAgreeTold$FutureSet;", true), (.object "AgreeTold$FutureSet")),
    (("AgreeTold", "second", "LAgreeTold$FutureSet;", true), (.object "AgreeTold$FutureSet")),
    (("AgreeTold", "openWords", "[I", true), (.array .int)),
    (("AgreeTold", "small", "[I", true), (.array .int)),
    (("AgreeTold", "tellings", "[I", true), (.array .int)),
    (("AgreeTold", "wins", "[Z", true), (.array .boolean)),
    (("AgreeTold", "land", "LAgreeTold$Land;", false), (.object "AgreeTold$Land")),
    (("AgreeTold", "pastStart", "I", false), .int),
    (("AgreeTold", "pastCount", "I", false), .int)]),
  ("AgreeTold$Reader", [(("AgreeTold$Reader", "tape", "LAgreeTold$Tape;", true), (.object "AgreeTold$Tape")),
    (("AgreeTold$Reader", "facts", "[J", true), (.array .long)),
    (("AgreeTold$Reader", "codes", "[I", true), (.array .int)),
    (("AgreeTold$Reader", "used", "I", false), .int),
    (("AgreeTold$Reader", "teller", "I", false), .int),
    (("AgreeTold$Reader", "naming", "Z", false), .boolean),
    (("AgreeTold$Reader", "land", "LAgreeTold$Land;", false), (.object "AgreeTold$Land")),
    (("AgreeTold$Reader", "softened", "Z", false), .boolean),
    (("AgreeTold$Reader", "at", "I", false), .int),
    (("AgreeTold$Reader", "kind", "I", false), .int),
    (("AgreeTold$Reader", "value", "J", false), .long),
    (("AgreeTold$Reader", "fault", "I", false), .int)]),
  ("AgreeTold$Tape", [(("AgreeTold$Tape", "signs", "[C", true), (.array .char)),
    (("AgreeTold$Tape", "kinds", "[I", true), (.array .int)),
    (("AgreeTold$Tape", "places", "[I", true), (.array .int)),
    (("AgreeTold$Tape", "values", "[J", true), (.array .long)),
    (("AgreeTold$Tape", "keywords", "[J", true), (.array .long)),
    (("AgreeTold$Tape", "length", "I", false), .int),
    (("AgreeTold$Tape", "tokens", "I", false), .int)]),
  ("AgreeTold$Land", [(("AgreeTold$Land", "peopleNames", "[J", true), (.array .long)),
    (("AgreeTold$Land", "eventNames", "[J", true), (.array .long)),
    (("AgreeTold$Land", "prophetNames", "[J", true), (.array .long)),
    (("AgreeTold$Land", "talls", "[I", true), (.array .int)),
    (("AgreeTold$Land", "kinds", "[I", true), (.array .int)),
    (("AgreeTold$Land", "purses", "[I", true), (.array .int)),
    (("AgreeTold$Land", "owners", "[I", true), (.array .int)),
    (("AgreeTold$Land", "coins", "[I", true), (.array .int)),
    (("AgreeTold$Land", "lawBegins", "[I", true), (.array .int)),
    (("AgreeTold$Land", "lawEnds", "[I", true), (.array .int)),
    (("AgreeTold$Land", "wishBegins", "[I", true), (.array .int)),
    (("AgreeTold$Land", "wishEnds", "[I", true), (.array .int)),
    (("AgreeTold$Land", "price", "[I", false), (.array .int)),
    (("AgreeTold$Land", "priced", "Z", false), .boolean),
    (("AgreeTold$Land", "days", "I", false), .int),
    (("AgreeTold$Land", "people", "I", false), .int),
    (("AgreeTold$Land", "events", "I", false), .int),
    (("AgreeTold$Land", "prophets", "I", false), .int),
    (("AgreeTold$Land", "laws", "I", false), .int),
    (("AgreeTold$Land", "wishes", "I", false), .int)]),
  ("AgreeTold$Worlds", [(("AgreeTold$Worlds", "laws", "LAgreeTold$FutureSet;", true), (.object "AgreeTold$FutureSet")),
    (("AgreeTold$Worlds", "nothing", "LAgreeTold$FutureSet;", true), (.object "AgreeTold$FutureSet")),
    (("AgreeTold$Worlds", "total", "I", false), .int),
    (("AgreeTold$Worlds", "words", "[LAgreeTold$FutureSet;", true), (.array (.object "AgreeTold$FutureSet"))),
    (("AgreeTold$Worlds", "wishes", "[LAgreeTold$FutureSet;", true), (.array (.object "AgreeTold$FutureSet"))),
    (("AgreeTold$Worlds", "one", "LAgreeTold$FutureSet;", true), (.object "AgreeTold$FutureSet")),
    (("AgreeTold$Worlds", "stack", "[J", true), (.array .long)),
    (("AgreeTold$Worlds", "days", "I", false), .int),
    (("AgreeTold$Worlds", "people", "I", false), .int),
    (("AgreeTold$Worlds", "length", "I", false), .int)]),
  ("AgreeTold$FutureSet", [(("AgreeTold$FutureSet", "cells", "[J", false), (.array .long)),
    (("AgreeTold$FutureSet", "length", "I", false), .int)]),
  ("AgreeTold$PriceLaw", [(("AgreeTold$PriceLaw", "stack", "[I", true), (.array .int))]),
  ("AgreeTold$Joint", [(("AgreeTold$Joint", "rows", "[LAgreeTold$FutureSet;", true), (.array (.object "AgreeTold$FutureSet"))),
    (("AgreeTold$Joint", "can", "[Z", false), (.array .boolean)),
    (("AgreeTold$Joint", "size", "I", false), .int)]),
  ("AgreeTold$Draws", [(("AgreeTold$Draws", "state", "J", false), .long)]),
  ("AgreeTold$Story", [(("AgreeTold$Story", "sayings", "[LAgreeTold$Saying;", true), (.array (.object "AgreeTold$Saying"))),
    (("AgreeTold$Story", "purses", "[I", true), (.array .int)),
    (("AgreeTold$Story", "cameEvents", "[I", true), (.array .int)),
    (("AgreeTold$Story", "owedTo", "[I", true), (.array .int)),
    (("AgreeTold$Story", "owedTall", "[I", true), (.array .int)),
    (("AgreeTold$Story", "asked", "LAgreeTold$FutureSet;", false), (.object "AgreeTold$FutureSet")),
    (("AgreeTold$Story", "told", "I", false), .int),
    (("AgreeTold$Story", "today", "I", false), .int),
    (("AgreeTold$Story", "promises", "I", false), .int)]),
  ("AgreeTold$Saying", [(("AgreeTold$Saying", "prophet", "I", true), .int),
    (("AgreeTold$Saying", "price", "I", true), .int),
    (("AgreeTold$Saying", "leftThen", "I", true), .int),
    (("AgreeTold$Saying", "row", "LAgreeTold$FutureSet;", true), (.object "AgreeTold$FutureSet"))]),
  ("AgreeToldModel", [(("AgreeToldModel", "thrown", "I", false), .int),
    (("AgreeToldModel", "tape", "[I", true), (.array .int)),
    (("AgreeToldModel", "taped", "I", false), .int),
    (("AgreeToldModel", "size", "I", false), .int),
    (("AgreeToldModel", "sort", "[I", true), (.array .int)),
    (("AgreeToldModel", "place", "[I", true), (.array .int)),
    (("AgreeToldModel", "value", "[J", true), (.array .long)),
    (("AgreeToldModel", "at", "I", false), .int),
    (("AgreeToldModel", "fault", "I", false), .int),
    (("AgreeToldModel", "words", "[J", true), (.array .long)),
    (("AgreeToldModel", "lands", "[I", true), (.array .int)),
    (("AgreeToldModel", "op", "[I", true), (.array .int)),
    (("AgreeToldModel", "arg", "[I", true), (.array .int)),
    (("AgreeToldModel", "codes", "I", false), .int),
    (("AgreeToldModel", "names", "[J", true), (.array .long)),
    (("AgreeToldModel", "readNames", "[J", true), (.array .long)),
    (("AgreeToldModel", "nameOf", "[I", true), (.array .int)),
    (("AgreeToldModel", "readNameOf", "[I", true), (.array .int)),
    (("AgreeToldModel", "namesMany", "I", false), .int),
    (("AgreeToldModel", "readMany", "I", false), .int),
    (("AgreeToldModel", "readFrom", "I", false), .int),
    (("AgreeToldModel", "facts", "[I", true), (.array .int)),
    (("AgreeToldModel", "pile", "[I", true), (.array .int)),
    (("AgreeToldModel", "bits", "[J", true), (.array .long)),
    (("AgreeToldModel", "futures", "I", false), .int),
    (("AgreeToldModel", "longs", "I", false), .int),
    (("AgreeToldModel", "power", "[I", true), (.array .int)),
    (("AgreeToldModel", "has", "[I", true), (.array .int)),
    (("AgreeToldModel", "isVague", "Z", false), .boolean),
    (("AgreeToldModel", "state", "[I", true), (.array .int)),
    (("AgreeToldModel", "undos", "I", false), .int),
    (("AgreeToldModel", "isMarked", "[Z", true), (.array .boolean)),
    (("AgreeToldModel", "isAsked", "[Z", true), (.array .boolean)),
    (("AgreeToldModel", "teller", "I", false), .int),
    (("AgreeToldModel", "bestSet", "I", false), .int),
    (("AgreeToldModel", "bestMany", "I", false), .int),
    (("AgreeToldModel", "open", "[I", true), (.array .int)),
    (("AgreeToldModel", "openMany", "I", false), .int),
    (("AgreeToldModel", "made", "[I", true), (.array .int)),
    (("AgreeToldModel", "vagueLeft", "[I", true), (.array .int)),
    (("AgreeToldModel", "duelWish", "I", false), .int),
    (("AgreeToldModel", "keeper", "[I", true), (.array .int)),
    (("AgreeToldModel", "tried", "[Z", true), (.array .boolean)),
    (("AgreeToldModel", "g", "J", false), .long),
    (("AgreeToldModel", "toldBy", "[I", true), (.array .int))])]
/-- the String constants: whose pool, which entry, the text -/
def zi_sr : List (String × Nat × String) := [("AgreeTold$Tape", 26, "days person tall event prophet purse law wish for price some all together ahead on by from ever never times most plain vague fool grand weather not and or"), ("AgreeTold$Reader", 18, "before after told"), ("AgreeTold$Tape", 77, "()<=+-*;"), ("AgreeTold", 343, "no such word")]
def zi_sn : List Nat := [154, 17, 8, 12]
def zi_sb : List (List Int32) := [[100, 97, 121, 115, 32, 112, 101, 114, 115, 111, 110, 32, 116, 97, 108, 108, 32, 101, 118, 101, 110, 116, 32, 112, 114, 111, 112, 104, 101, 116, 32, 112, 117, 114, 115, 101, 32, 108, 97, 119, 32, 119, 105, 115, 104, 32, 102, 111, 114, 32, 112, 114, 105, 99, 101, 32, 115, 111, 109, 101, 32, 97, 108, 108, 32, 116, 111, 103, 101, 116, 104, 101, 114, 32, 97, 104, 101, 97, 100, 32, 111, 110, 32, 98, 121, 32, 102, 114, 111, 109, 32, 101, 118, 101, 114, 32, 110, 101, 118, 101, 114, 32, 116, 105, 109, 101, 115, 32, 109, 111, 115, 116, 32, 112, 108, 97, 105, 110, 32, 118, 97, 103, 117, 101, 32, 102, 111, 111, 108, 32, 103, 114, 97, 110, 100, 32, 119, 101, 97, 116, 104, 101, 114, 32, 110, 111, 116, 32, 97, 110, 100, 32, 111, 114], [98, 101, 102, 111, 114, 101, 32, 97, 102, 116, 101, 114, 32, 116, 111, 108, 100], [40, 41, 60, 61, 43, 45, 42, 59], [110, 111, 32, 115, 117, 99, 104, 32, 119, 111, 114, 100]]
def zi_nest : List (String × Nat × MethodName × String) := [("AgreeTold", 9, ⟨"AgreeTold$Reader", "<init>", "()V"⟩, "AgreeTold"), ("AgreeTold$Reader", 11, ⟨"AgreeTold$Tape", "<init>", "()V"⟩, "AgreeTold"), ("AgreeTold$Reader", 34, ⟨"AgreeTold$Land", "<init>", "()V"⟩, "AgreeTold"), ("AgreeTold$Worlds", 11, ⟨"AgreeTold$FutureSet", "<init>", "()V"⟩, "AgreeTold"), ("AgreeTold", 30, ⟨"AgreeTold$PriceLaw", "<init>", "()V"⟩, "AgreeTold"), ("AgreeTold", 37, ⟨"AgreeTold$Joint", "<init>", "()V"⟩, "AgreeTold"), ("AgreeTold", 44, ⟨"AgreeTold$Draws", "<init>", "()V"⟩, "AgreeTold"), ("AgreeTold", 65, ⟨"AgreeTold$FutureSet", "<init>", "()V"⟩, "AgreeTold"), ("AgreeTold", 92, ⟨"AgreeTold$Land", "<init>", "()V"⟩, "AgreeTold"), ("AgreeTold$Reader", 197, ⟨"AgreeTold", "clauseCode", "(IIIII)I"⟩, "AgreeTold"), ("AgreeTold$Worlds", 98, ⟨"AgreeTold", "wordNumber", "(III)I"⟩, "AgreeTold")]
