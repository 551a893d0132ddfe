theorem okB_app {own : Nat} {ini : Bool} {cc : ByteArray} : ∀ (a b : List EI) (pc : Nat), okB own ini cc pc (a ++ b) = (okB own ini cc pc a && okB own ini cc (pc + (a.map (fun e => e.2.1)).sum) b)
  | [], b, pc => by
    show okB own ini cc pc b = (true && okB own ini cc (pc + 0) b)
    rw [Bool.true_and, Nat.add_zero]
  | e :: a, b, pc => by
    show (okI own ini cc pc e && okB own ini cc (pc + e.2.1) (a ++ b)) = ((okI own ini cc pc e && okB own ini cc (pc + e.2.1) a) && okB own ini cc (pc + (e.2.1 + (a.map (fun e => e.2.1)).sum)) b)
    rw [okB_app a b, Bool.and_assoc, Nat.add_assoc]
