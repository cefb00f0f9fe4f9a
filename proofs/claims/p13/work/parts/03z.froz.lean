/-! numbers that nothing writes any more (wip/gen16/spec_f0.py) -/
def zAl (l oh ol : Int64) (x : Int32) : Int64 := (l + ((oh - oh / x.toInt64 * x.toInt64) <<< ((44 : Int32).toInt64 &&& 63) + ol) / x.toInt64) &&& 17592186044415
def zAh (h l oh ol : Int64) (x : Int32) : Int64 := h + (oh / x.toInt64 + ((l + ((oh - oh / x.toInt64 * x.toInt64) <<< ((44 : Int32).toInt64 &&& 63) + ol) / x.toInt64) >>> ((44 : Int32).toInt64 &&& 63)))
def zSl (h l : Int64) (x y : Int32) : Int64 := ((h * x.toInt64 - h * x.toInt64 / y.toInt64 * y.toInt64) <<< ((44 : Int32).toInt64 &&& 63) + l * x.toInt64) / y.toInt64 &&& 17592186044415
def zSh (h l : Int64) (x y : Int32) : Int64 := (h * x.toInt64) / y.toInt64 + (((h * x.toInt64 - h * x.toInt64 / y.toInt64 * y.toInt64) <<< ((44 : Int32).toInt64 &&& 63) + l * x.toInt64) / y.toInt64) >>> ((44 : Int32).toInt64 &&& 63)
def zFd (x y : Int64) : Int64 := if (x ^^^ y).toInt < 0 ∧ ¬ x / y * y = x then x / y - 1 else x / y
def zFt (h l : Int64) (x : Int32) : Int64 := (h * x.toInt64 + (l * x.toInt64) >>> ((44 : Int32).toInt64 &&& 63)) >>> ((44 : Int32).toInt64 &&& 63)
def zPc (h l : Int64) (y : Int32) : Int32 := (zFd (zFt h l (2 * y) + (1 : Int32).toInt64) (2 * (1 : Int32).toInt64)).toInt32
/-- a shrink, once, twice -/
def zS1h (h l : Int64) (x y : Int32) : Int64 := if y.toInt < 1 then h else zSh h l x y
def zS1l (h l : Int64) (x y : Int32) : Int64 := if y.toInt < 1 then l else zSl h l x y
def zSwh (h l : Int64) (x y : Int32) : Int64 := zS1h (zS1h h l x y) (zS1l h l x y) x y
def zSwl (h l : Int64) (x y : Int32) : Int64 := zS1l (zS1h h l x y) (zS1l h l x y) x y
/-- the growth: its loop, n turns more -/
def zGo (x y : Int32) : Nat → Int32 → Int64 → Int64 → Int64 → Int64 → Int64 × Int64
  | 0, _, _, _, h, l => (h, l)
  | n + 1, i, th, tl, h, l => if i.toInt ≤ 99 ∧ ¬ (th = 0 ∧ tl = 0) then zGo x y n (i + 2) (zSwh th tl x y) (zSwl th tl x y) (if i.toInt < 1 then h else zAh h l th tl i) (if i.toInt < 1 then l else zAl l th tl i) else (h, l)
def zAg (h l : Int64) (x y : Int32) : Int64 × Int64 := if x.toInt < 1 then (h, l) else zGo x y 51 1 (zS1h 15280378647410 9283927628714 x y) (zS1l 15280378647410 9283927628714 x y) h l
/-- the class's table of logarithms -/
def zTab : Nat → Int64 × Int64
  | 0 => (0, 0)
  | k + 1 => zAg (zTab k).1 (zTab k).2 1 (2 * (100 + Int32.ofNat (k + 1)) - 1)
def zFz (f k : Nat) : Int64 := if f = 0 then (zTab k).1 else if f = 1 then (zTab k).2 else if f = 2 then [0, 693147180, 559945309, 417232121, 458176568, 75500113].getD k 0 else [2, 302585092, 994045684, 17991454, 684364207, 601101412].getD k 0
def zTq : Prop := zFz 0 0 = 0 ∧ zFz 1 0 = 0 ∧ ∀ k, k < 900 → (zFz 1 k - 0) >>> ((44 : Int32).toInt64 &&& 63) = 0 ∧ (zFz 1 k - 0) &&& 17592186044415 = zFz 1 k
