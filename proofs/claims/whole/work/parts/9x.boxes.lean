/-! the reference finds the S-box: the same numbers as the class's table -/
def tN (x : Nat) : Nat := bif Nat.blt x 128 then 2 * x else Nat.xor (2 * x) 283
def prN (b : Nat) : Nat → Nat → Nat → Nat → Nat
  | 0, _, acc, _ => acc
  | k + 1, i, acc, x => prN b k (i + 1) (Nat.xor acc (b / 2 ^ i % 2 * x)) (tN x)
def ivN (a : Nat) : Nat → Nat → Nat → Nat
  | 0, _, v => v
  | k + 1, b, v => ivN a k (b + 1) (bif Nat.beq (prN b 8 0 0 a) 1 then b else v)
def tu (x k : Int32) : Int32 := ((x <<< (k &&& 31)) ||| (x >>> ((8 - k) &&& 31))) &&& 255
def bvN (v : Int32) : Int32 := ((((v ^^^ tu v 1) ^^^ tu v 2) ^^^ tu v 3) ^^^ tu v 4) ^^^ 99
set_option maxRecDepth 1000000 in
theorem box_a : ((List.range 64).all fun a => bvN (nI (ivN a 255 1 0)) == sc 193 a) = true := by decide +kernel
