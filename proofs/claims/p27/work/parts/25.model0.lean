/-! the model's row of 82 longs as a function of a board -/
def ofN (b : Bd) (k w : Nat) : Nat := match w with
  | 0 => bg b k
  | 1 => bo b k
  | 2 => bb b k
  | _ => bc b k
