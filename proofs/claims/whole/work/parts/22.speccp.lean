def copyS (ln la ln2 la2 x x2 n : Int) : Int := if ln < 0 ∨ ln2 < 0 then -11 else if la ≠ la2 then -12 else if HoldP ln x n ∧ HoldP ln2 x2 n then n else -13
def findS (L sz lane x n : Int) : Int := if L < 0 then -11 else if L ≠ lane then -12 else if x < 0 ∨ sz < x + n then -13 else 0
