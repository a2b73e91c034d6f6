/-! the reference finds the S-box: the same numbers as the class's table -/
def tN (x : Nat) : Nat := bif Nat.blt x 128 then 2 * x else Nat.xor (2 * x) 283
def prN (b : Nat) : Nat → Nat → Nat → Nat → Nat
  | 0, _, acc, _ => acc
  | k + 1, i, acc, x => prN b k (i + 1) (Nat.xor acc (b / 2 ^ i % 2 * x)) (tN x)
def ivN (a : Nat) : Nat → Nat → Nat → Nat
  | 0, _, v => v
  | k + 1, b, v => ivN a k (b + 1) (bif Nat.beq (prN b 8 0 0 a) 1 then b else v)
def bvN (v : Nat) : Int32 := ((((nI v ^^^ (((nI v <<< (1 &&& 31)) ||| (nI v >>> ((8 - 1) &&& 31))) &&& 255)) ^^^ (((nI v <<< (2 &&& 31)) ||| (nI v >>> ((8 - 2) &&& 31))) &&& 255)) ^^^ (((nI v <<< (3 &&& 31)) ||| (nI v >>> ((8 - 3) &&& 31))) &&& 255)) ^^^ (((nI v <<< (4 &&& 31)) ||| (nI v >>> ((8 - 4) &&& 31))) &&& 255)) ^^^ 99
def ivL : List Nat := (List.range 256).map fun a => ivN a 255 1 0
set_option maxRecDepth 1000000 in
theorem box_a : ((List.range 64).all fun a => bvN (ivN a 255 1 0) == sc 193 a) = true := by decide +kernel
