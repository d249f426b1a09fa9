-- BASICS: entries, lookups
/-- an instruction with what its operand names: instruction, its length, a, b, c, the place of its word, a value -/
abbrev sm_E : Type := Instr × Nat × Nat × Nat × Nat × Nat × Value
def sm_lk {α : Type} : List (Nat × α) → Nat → Option α
  | [], _ => none
  | (p, a) :: t, q => match Nat.beq p q with
    | true => some a
    | false => sm_lk t q
def sm_nth {α : Type} (d : α) : List α → Nat → α
  | [], _ => d
  | a :: _, 0 => a
  | _ :: t, n + 1 => sm_nth d t n
