-- the pad and its reader: three cells
def zqE (V : zV) (g : Nat → Nat) (n : Nat) (pd : Nat → Int32) (a : Nat) (kd nu mo : Int32) : Nat → va_E
  | 0 => .inr (3, [.ref (g 1), .int (nI n)])
  | 1 => .inl (V.2.1, 80, .inl pd)
  | _ => .inr (4, [.ref (g 0), .int (nI a), .int kd, .int nu, .int mo])
def zqW (V : zV) (g : Nat → Nat) (n : Nat) (pd : Nat → Int32) (a : Nat) (kd nu mo : Int32) : va_W := zWd 3 g (zqE V g n pd a kd nu mo)
section ZQ
variable {p : Program} {l : Launch} {e : Env} {R : Room} {s : State} {m : MethodId} {args : Array Value} {below : List Frame} {meth : Method} {c : Code} {H : Heap} {locs : List Loc} {cells slots : Nat} {Q : State → Prop}
variable {V : zV} {g : Nat → Nat} {n : Nat} {pd : Nat → Int32} {a : Nat} {kd nu mo : Int32}
theorem zq_p (hP : va_P V.1 vwCl (zqW V g n pd a kd nu mo) H) : va_at V.1 vwCl (g 0, .inr (3, [.ref (g 1), .int (nI n)])) H := zP_at hP (p := 0) (by decide)
end ZQ
