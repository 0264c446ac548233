/-! feed -/
def byt (x : Int64) (k : Nat) : Nat := uN x / 2 ^ k % 256
