def lw_tbl : List Cond := ([] : List Cond) ++ tables_1
def am_code (m : Nat) : List am_I := []
def MLL (m : Nat) : Nat := 0
def PP : am_P := fun m i => (am_code m)[i]?
