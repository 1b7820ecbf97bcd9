/-! tables of this landing: how many fields a class has, their types; the texts of its exceptions by their places in the pool -/
def clN : Nat → Nat := fun c => match c with | 0 => 3 | 1 => 3 | 2 => 13 | 3 => 5 | 4 => 5 | 5 => 3 | 6 => 2 | 7 => 2 | 8 => 17 | 9 => 16 | _ => 0
def clT : Nat → Nat → FieldType := fun c => match c with | 0 => tyJx4a65c | 1 => tyX4 | 2 => tyX1 | 3 => tyX2 | 4 => tyX3 | 5 => tyX4 | 6 => tyX5 | 7 => tyX6 | 8 => tyX7 | _ => tyX8
def strs : List (Nat × String) := [(404, "there is none of this number"), (392, "out of range"), (399, "not possible now"), (409, "no such train")]
