/-! boxes: what packing gives -/
abbrev Bx : Type := Int32 × Int32 × Int32 × Int32
def isBar (b x y : Int32) : Bool := decide ((b >>> (((x * 4) + y) &&& 31)) &&& 1 = 1)
/-- whether a piece of an item fits into a box -/
def bxF (z t g : Nat → Int32) (b : Int32) (i : Nat) (x : Bx) : Bool := !decide (30 < x.1 + z i) && (!decide (50 < x.2.1 + t i) && (List.range 6).all fun o => !(decide ((x.2.2.2 >>> (nI o &&& 31)) &&& 1 = 1) && (decide (o ≠ i) && isBar b (g o) (g i))))
def bxP (z t : Nat → Int32) (i : Nat) (x : Bx) : Bx := (x.1 + z i, x.2.1 + t i, x.2.2.1 + 1, x.2.2.2 ||| (1 <<< (nI i &&& 31)))
def put1 (z t g : Nat → Int32) (b : Int32) (i : Nat) (xs : List Bx) : List Bx := match xs with
  | [] => [bxP z t i (0, 0, 0, 0)]
  | x :: r => if bxF z t g b i x = true then bxP z t i x :: r else x :: put1 z t g b i r
def putN (z t g : Nat → Int32) (b : Int32) (i n : Nat) (xs : List Bx) : List Bx := match n with
  | 0 => xs
  | m + 1 => putN z t g b i m (put1 z t g b i xs)
/-- packing: by falling sizes, then rising items -/
def pkS (z t g : Nat → Int32) (b : Int32) (c : Nat → Nat) (k : Nat) : List Bx := match k with
  | 0 => []
  | m + 1 => if z (m % 6) = nI (9 - m / 6) then putN z t g b (m % 6) (c (m % 6)) (pkS z t g b c m) else pkS z t g b c m
