def wld (G : vG) (a b : Int) (x : Nat) (u : SX) (m : Nat) (um : Nat → Nat) : va_W := [co x 6 [Value.ref u.2.2.2.2.2.1, Value.ref u.2.2.2.2.2.2.2.1, Value.ref u.1, Value.ref u.2.2.1, Value.ref u.2.2.2.2.1], co u.1 4 [Value.ref u.2.1.1, Value.int 0, Value.ref u.2.1.2.1, Value.ref u.2.1.2.2, Value.int 0, Value.int 0], cr G u.2.1.1 4 6 (fun j => if j < 6 then some (u.2.1.1 + 1 + j) else none), cz G (u.2.1.1 + 1) 0 256, cz G (u.2.1.1 + 2) 0 256, cz G (u.2.1.1 + 3) 0 256, cz G (u.2.1.1 + 4) 0 256, cz G (u.2.1.1 + 5) 0 256, cz G (u.2.1.1 + 6) 0 256, cz G u.2.1.2.1 0 256, cz G u.2.1.2.2 0 256, co u.2.2.1 2 [Value.ref u.2.2.2.1.1, Value.ref u.2.2.2.1.2, Value.int 0], cz G u.2.2.2.1.1 0 257, cz G u.2.2.2.1.2 0 64, cz G u.2.2.2.2.1 0 6, co u.2.2.2.2.2.1 5 [Value.ref u.2.2.2.2.2.2.1.2.2.1, Value.ref u.2.2.2.2.2.2.1.1, Value.ref u.2.2.2.2.2.2.1.2.1, Value.int 0, Value.int 0, Value.int 0, Value.int 0, Value.int 0], cr G u.2.2.2.2.2.2.1.1 2 6 (va_up (va_up (va_up (va_up (va_up (va_up (fun _ => none) 0 (some (u.2.2.2.2.2.2.1.2.2.2.2.1 0))) 1 (some (u.2.2.2.2.2.2.1.2.2.2.2.1 1))) 2 (some (u.2.2.2.2.2.2.1.2.2.2.2.1 2))) 3 (some (u.2.2.2.2.2.2.1.2.2.2.2.1 3))) 4 (some (u.2.2.2.2.2.2.1.2.2.2.2.1 4))) 5 (some (u.2.2.2.2.2.2.1.2.2.2.2.1 5))), cr G u.2.2.2.2.2.2.1.2.1 3 6 (va_up (va_up (va_up (va_up (va_up (va_up (fun _ => none) 0 (some (u.2.2.2.2.2.2.1.2.2.2.2.2 0).1)) 1 (some (u.2.2.2.2.2.2.1.2.2.2.2.2 1).1)) 2 (some (u.2.2.2.2.2.2.1.2.2.2.2.2 2).1)) 3 (some (u.2.2.2.2.2.2.1.2.2.2.2.2 3).1)) 4 (some (u.2.2.2.2.2.2.1.2.2.2.2.2 4).1)) 5 (some (u.2.2.2.2.2.2.1.2.2.2.2.2 5).1)), co u.2.2.2.2.2.2.1.2.2.1 0 [Value.int (Int32.ofInt (clp a 8)), Value.int (Int32.ofInt (clp b 6)), Value.ref u.2.2.2.2.2.2.1.2.2.2.1.1, Value.ref u.2.2.2.2.2.2.1.2.2.2.1.2.1, Value.ref u.2.2.2.2.2.2.1.2.2.2.1.2.2], cz G u.2.2.2.2.2.2.1.2.2.2.1.1 0 64, cz G u.2.2.2.2.2.2.1.2.2.2.1.2.1 0 384, cv G u.2.2.2.2.2.2.1.2.2.2.1.2.2 0 384 (fun _ => Int32.ofInt (-1)), co (u.2.2.2.2.2.2.1.2.2.2.2.1 0) 1 [Value.int 0, Value.int 0, Value.int 0], co (u.2.2.2.2.2.2.1.2.2.2.2.1 1) 1 [Value.int 0, Value.int 0, Value.int 0], co (u.2.2.2.2.2.2.1.2.2.2.2.1 2) 1 [Value.int 0, Value.int 0, Value.int 0], co (u.2.2.2.2.2.2.1.2.2.2.2.1 3) 1 [Value.int 0, Value.int 0, Value.int 0], co (u.2.2.2.2.2.2.1.2.2.2.2.1 4) 1 [Value.int 0, Value.int 0, Value.int 0], co (u.2.2.2.2.2.2.1.2.2.2.2.1 5) 1 [Value.int 0, Value.int 0, Value.int 0], co ((u.2.2.2.2.2.2.1.2.2.2.2.2 0).1) 3 [Value.ref (u.2.2.2.2.2.2.1.2.2.2.2.2 0).2.1, Value.int 0, Value.int 0, Value.int 0, Value.int 0, Value.int 0, Value.ref (u.2.2.2.2.2.2.1.2.2.2.2.2 0).2.2, Value.int 0, Value.int 0, Value.int 0], cz G ((u.2.2.2.2.2.2.1.2.2.2.2.2 0).2.1) 0 96, cz G ((u.2.2.2.2.2.2.1.2.2.2.2.2 0).2.2) 0 6, co ((u.2.2.2.2.2.2.1.2.2.2.2.2 1).1) 3 [Value.ref (u.2.2.2.2.2.2.1.2.2.2.2.2 1).2.1, Value.int 0, Value.int 0, Value.int 0, Value.int 0, Value.int 0, Value.ref (u.2.2.2.2.2.2.1.2.2.2.2.2 1).2.2, Value.int 0, Value.int 0, Value.int 0], cz G ((u.2.2.2.2.2.2.1.2.2.2.2.2 1).2.1) 0 96, cz G ((u.2.2.2.2.2.2.1.2.2.2.2.2 1).2.2) 0 6, co ((u.2.2.2.2.2.2.1.2.2.2.2.2 2).1) 3 [Value.ref (u.2.2.2.2.2.2.1.2.2.2.2.2 2).2.1, Value.int 0, Value.int 0, Value.int 0, Value.int 0, Value.int 0, Value.ref (u.2.2.2.2.2.2.1.2.2.2.2.2 2).2.2, Value.int 0, Value.int 0, Value.int 0], cz G ((u.2.2.2.2.2.2.1.2.2.2.2.2 2).2.1) 0 96, cz G ((u.2.2.2.2.2.2.1.2.2.2.2.2 2).2.2) 0 6, co ((u.2.2.2.2.2.2.1.2.2.2.2.2 3).1) 3 [Value.ref (u.2.2.2.2.2.2.1.2.2.2.2.2 3).2.1, Value.int 0, Value.int 0, Value.int 0, Value.int 0, Value.int 0, Value.ref (u.2.2.2.2.2.2.1.2.2.2.2.2 3).2.2, Value.int 0, Value.int 0, Value.int 0], cz G ((u.2.2.2.2.2.2.1.2.2.2.2.2 3).2.1) 0 96, cz G ((u.2.2.2.2.2.2.1.2.2.2.2.2 3).2.2) 0 6, co ((u.2.2.2.2.2.2.1.2.2.2.2.2 4).1) 3 [Value.ref (u.2.2.2.2.2.2.1.2.2.2.2.2 4).2.1, Value.int 0, Value.int 0, Value.int 0, Value.int 0, Value.int 0, Value.ref (u.2.2.2.2.2.2.1.2.2.2.2.2 4).2.2, Value.int 0, Value.int 0, Value.int 0], cz G ((u.2.2.2.2.2.2.1.2.2.2.2.2 4).2.1) 0 96, cz G ((u.2.2.2.2.2.2.1.2.2.2.2.2 4).2.2) 0 6, co ((u.2.2.2.2.2.2.1.2.2.2.2.2 5).1) 3 [Value.ref (u.2.2.2.2.2.2.1.2.2.2.2.2 5).2.1, Value.int 0, Value.int 0, Value.int 0, Value.int 0, Value.int 0, Value.ref (u.2.2.2.2.2.2.1.2.2.2.2.2 5).2.2, Value.int 0, Value.int 0, Value.int 0], cz G ((u.2.2.2.2.2.2.1.2.2.2.2.2 5).2.1) 0 96, cz G ((u.2.2.2.2.2.2.1.2.2.2.2.2 5).2.2) 0 6, co u.2.2.2.2.2.2.2.1 5 [Value.ref u.2.2.2.2.2.2.2.2.2.2.1, Value.ref u.2.2.2.2.2.2.2.2.1, Value.ref u.2.2.2.2.2.2.2.2.2.1, Value.int 0, Value.int 0, Value.int 0, Value.int 0, Value.int 0], cr G u.2.2.2.2.2.2.2.2.1 2 6 (va_up (va_up (va_up (va_up (va_up (va_up (fun _ => none) 0 (some (u.2.2.2.2.2.2.2.2.2.2.2.2.1 0))) 1 (some (u.2.2.2.2.2.2.2.2.2.2.2.2.1 1))) 2 (some (u.2.2.2.2.2.2.2.2.2.2.2.2.1 2))) 3 (some (u.2.2.2.2.2.2.2.2.2.2.2.2.1 3))) 4 (some (u.2.2.2.2.2.2.2.2.2.2.2.2.1 4))) 5 (some (u.2.2.2.2.2.2.2.2.2.2.2.2.1 5))), cr G u.2.2.2.2.2.2.2.2.2.1 3 6 (va_up (va_up (va_up (va_up (va_up (va_up (fun _ => none) 0 (some (u.2.2.2.2.2.2.2.2.2.2.2.2.2 0).1)) 1 (some (u.2.2.2.2.2.2.2.2.2.2.2.2.2 1).1)) 2 (some (u.2.2.2.2.2.2.2.2.2.2.2.2.2 2).1)) 3 (some (u.2.2.2.2.2.2.2.2.2.2.2.2.2 3).1)) 4 (some (u.2.2.2.2.2.2.2.2.2.2.2.2.2 4).1)) 5 (some (u.2.2.2.2.2.2.2.2.2.2.2.2.2 5).1)), co u.2.2.2.2.2.2.2.2.2.2.1 0 [Value.int (Int32.ofInt (clp a 8)), Value.int (Int32.ofInt (clp b 6)), Value.ref u.2.2.2.2.2.2.2.2.2.2.2.1.1, Value.ref u.2.2.2.2.2.2.2.2.2.2.2.1.2.1, Value.ref u.2.2.2.2.2.2.2.2.2.2.2.1.2.2], cz G u.2.2.2.2.2.2.2.2.2.2.2.1.1 0 64, cz G u.2.2.2.2.2.2.2.2.2.2.2.1.2.1 0 384, cv G u.2.2.2.2.2.2.2.2.2.2.2.1.2.2 0 384 (fun _ => Int32.ofInt (-1)), co (u.2.2.2.2.2.2.2.2.2.2.2.2.1 0) 1 [Value.int 0, Value.int 0, Value.int 0], co (u.2.2.2.2.2.2.2.2.2.2.2.2.1 1) 1 [Value.int 0, Value.int 0, Value.int 0], co (u.2.2.2.2.2.2.2.2.2.2.2.2.1 2) 1 [Value.int 0, Value.int 0, Value.int 0], co (u.2.2.2.2.2.2.2.2.2.2.2.2.1 3) 1 [Value.int 0, Value.int 0, Value.int 0], co (u.2.2.2.2.2.2.2.2.2.2.2.2.1 4) 1 [Value.int 0, Value.int 0, Value.int 0], co (u.2.2.2.2.2.2.2.2.2.2.2.2.1 5) 1 [Value.int 0, Value.int 0, Value.int 0], co ((u.2.2.2.2.2.2.2.2.2.2.2.2.2 0).1) 3 [Value.ref (u.2.2.2.2.2.2.2.2.2.2.2.2.2 0).2.1, Value.int 0, Value.int 0, Value.int 0, Value.int 0, Value.int 0, Value.ref (u.2.2.2.2.2.2.2.2.2.2.2.2.2 0).2.2, Value.int 0, Value.int 0, Value.int 0], cz G ((u.2.2.2.2.2.2.2.2.2.2.2.2.2 0).2.1) 0 96, cz G ((u.2.2.2.2.2.2.2.2.2.2.2.2.2 0).2.2) 0 6, co ((u.2.2.2.2.2.2.2.2.2.2.2.2.2 1).1) 3 [Value.ref (u.2.2.2.2.2.2.2.2.2.2.2.2.2 1).2.1, Value.int 0, Value.int 0, Value.int 0, Value.int 0, Value.int 0, Value.ref (u.2.2.2.2.2.2.2.2.2.2.2.2.2 1).2.2, Value.int 0, Value.int 0, Value.int 0], cz G ((u.2.2.2.2.2.2.2.2.2.2.2.2.2 1).2.1) 0 96, cz G ((u.2.2.2.2.2.2.2.2.2.2.2.2.2 1).2.2) 0 6, co ((u.2.2.2.2.2.2.2.2.2.2.2.2.2 2).1) 3 [Value.ref (u.2.2.2.2.2.2.2.2.2.2.2.2.2 2).2.1, Value.int 0, Value.int 0, Value.int 0, Value.int 0, Value.int 0, Value.ref (u.2.2.2.2.2.2.2.2.2.2.2.2.2 2).2.2, Value.int 0, Value.int 0, Value.int 0], cz G ((u.2.2.2.2.2.2.2.2.2.2.2.2.2 2).2.1) 0 96, cz G ((u.2.2.2.2.2.2.2.2.2.2.2.2.2 2).2.2) 0 6, co ((u.2.2.2.2.2.2.2.2.2.2.2.2.2 3).1) 3 [Value.ref (u.2.2.2.2.2.2.2.2.2.2.2.2.2 3).2.1, Value.int 0, Value.int 0, Value.int 0, Value.int 0, Value.int 0, Value.ref (u.2.2.2.2.2.2.2.2.2.2.2.2.2 3).2.2, Value.int 0, Value.int 0, Value.int 0], cz G ((u.2.2.2.2.2.2.2.2.2.2.2.2.2 3).2.1) 0 96, cz G ((u.2.2.2.2.2.2.2.2.2.2.2.2.2 3).2.2) 0 6, co ((u.2.2.2.2.2.2.2.2.2.2.2.2.2 4).1) 3 [Value.ref (u.2.2.2.2.2.2.2.2.2.2.2.2.2 4).2.1, Value.int 0, Value.int 0, Value.int 0, Value.int 0, Value.int 0, Value.ref (u.2.2.2.2.2.2.2.2.2.2.2.2.2 4).2.2, Value.int 0, Value.int 0, Value.int 0], cz G ((u.2.2.2.2.2.2.2.2.2.2.2.2.2 4).2.1) 0 96, cz G ((u.2.2.2.2.2.2.2.2.2.2.2.2.2 4).2.2) 0 6, co ((u.2.2.2.2.2.2.2.2.2.2.2.2.2 5).1) 3 [Value.ref (u.2.2.2.2.2.2.2.2.2.2.2.2.2 5).2.1, Value.int 0, Value.int 0, Value.int 0, Value.int 0, Value.int 0, Value.ref (u.2.2.2.2.2.2.2.2.2.2.2.2.2 5).2.2, Value.int 0, Value.int 0, Value.int 0], cz G ((u.2.2.2.2.2.2.2.2.2.2.2.2.2 5).2.1) 0 96, cz G ((u.2.2.2.2.2.2.2.2.2.2.2.2.2 5).2.2) 0 6, co m 7 [Value.int (Int32.ofInt (clp a 8)), Value.int (Int32.ofInt (clp b 6)), Value.ref (um 0), Value.ref (um 1), Value.int 0, Value.ref (um 2), Value.ref (um 3), Value.ref (um 4), Value.ref (um 5), Value.ref (um 6), Value.int 0, Value.ref (um 7), Value.ref (um 8), Value.ref (um 9), Value.ref (um 10), Value.ref (um 11), Value.ref (um 12), Value.ref (um 13), Value.ref (um 14), Value.ref (um 15), Value.ref (um 16), Value.int 0, Value.ref (um 17), Value.int 0, Value.int 0, Value.int 0, Value.ref (um 18), Value.ref (um 19), Value.ref (um 20), Value.ref (um 21), Value.ref (um 22), Value.ref (um 23)], cz G (um 0) 1 288, cz G (um 1) 0 288, cz G (um 2) 0 6, cz G (um 3) 0 6, cz G (um 4) 0 6, cz G (um 5) 1 6, cz G (um 6) 0 3456, cz G (um 7) 0 1800, cz G (um 8) 0 6, cz G (um 9) 0 6, cz G (um 10) 0 6, cz G (um 11) 0 6, cz G (um 12) 0 6, cz G (um 13) 1 6, cz G (um 14) 0 36, cz G (um 15) 0 6, cz G (um 16) 0 6, cz G (um 17) 0 600, cz G (um 18) 1 288, cz G (um 19) 0 288, cz G (um 20) 0 1800, cz G (um 21) 0 78, cz G (um 22) 0 18, cz G (um 23) 0 5]
def adl (x : Nat) (u : SX) (m : Nat) (um : Nat → Nat) : List Nat := [x, u.2.2.2.2.2.1, u.2.2.2.2.2.2.1.2.2.1, u.2.2.2.2.2.2.1.2.2.2.1.1, u.2.2.2.2.2.2.1.2.2.2.1.2.1, u.2.2.2.2.2.2.1.2.2.2.1.2.2, u.2.2.2.2.2.2.1.1, u.2.2.2.2.2.2.1.2.2.2.2.1 0, u.2.2.2.2.2.2.1.2.2.2.2.1 1, u.2.2.2.2.2.2.1.2.2.2.2.1 2, u.2.2.2.2.2.2.1.2.2.2.2.1 3, u.2.2.2.2.2.2.1.2.2.2.2.1 4, u.2.2.2.2.2.2.1.2.2.2.2.1 5, u.2.2.2.2.2.2.1.2.1, (u.2.2.2.2.2.2.1.2.2.2.2.2 0).1, (u.2.2.2.2.2.2.1.2.2.2.2.2 1).1, (u.2.2.2.2.2.2.1.2.2.2.2.2 2).1, (u.2.2.2.2.2.2.1.2.2.2.2.2 3).1, (u.2.2.2.2.2.2.1.2.2.2.2.2 4).1, (u.2.2.2.2.2.2.1.2.2.2.2.2 5).1, (u.2.2.2.2.2.2.1.2.2.2.2.2 0).2.1, (u.2.2.2.2.2.2.1.2.2.2.2.2 1).2.1, (u.2.2.2.2.2.2.1.2.2.2.2.2 2).2.1, (u.2.2.2.2.2.2.1.2.2.2.2.2 3).2.1, (u.2.2.2.2.2.2.1.2.2.2.2.2 4).2.1, (u.2.2.2.2.2.2.1.2.2.2.2.2 5).2.1, (u.2.2.2.2.2.2.1.2.2.2.2.2 0).2.2, (u.2.2.2.2.2.2.1.2.2.2.2.2 1).2.2, (u.2.2.2.2.2.2.1.2.2.2.2.2 2).2.2, (u.2.2.2.2.2.2.1.2.2.2.2.2 3).2.2, (u.2.2.2.2.2.2.1.2.2.2.2.2 4).2.2, (u.2.2.2.2.2.2.1.2.2.2.2.2 5).2.2, u.2.2.2.2.2.2.2.1, u.2.2.2.2.2.2.2.2.2.2.1, u.2.2.2.2.2.2.2.2.2.2.2.1.1, u.2.2.2.2.2.2.2.2.2.2.2.1.2.1, u.2.2.2.2.2.2.2.2.2.2.2.1.2.2, u.2.2.2.2.2.2.2.2.1, u.2.2.2.2.2.2.2.2.2.2.2.2.1 0, u.2.2.2.2.2.2.2.2.2.2.2.2.1 1, u.2.2.2.2.2.2.2.2.2.2.2.2.1 2, u.2.2.2.2.2.2.2.2.2.2.2.2.1 3, u.2.2.2.2.2.2.2.2.2.2.2.2.1 4, u.2.2.2.2.2.2.2.2.2.2.2.2.1 5, u.2.2.2.2.2.2.2.2.2.1, (u.2.2.2.2.2.2.2.2.2.2.2.2.2 0).1, (u.2.2.2.2.2.2.2.2.2.2.2.2.2 1).1, (u.2.2.2.2.2.2.2.2.2.2.2.2.2 2).1, (u.2.2.2.2.2.2.2.2.2.2.2.2.2 3).1, (u.2.2.2.2.2.2.2.2.2.2.2.2.2 4).1, (u.2.2.2.2.2.2.2.2.2.2.2.2.2 5).1, (u.2.2.2.2.2.2.2.2.2.2.2.2.2 0).2.1, (u.2.2.2.2.2.2.2.2.2.2.2.2.2 1).2.1, (u.2.2.2.2.2.2.2.2.2.2.2.2.2 2).2.1, (u.2.2.2.2.2.2.2.2.2.2.2.2.2 3).2.1, (u.2.2.2.2.2.2.2.2.2.2.2.2.2 4).2.1, (u.2.2.2.2.2.2.2.2.2.2.2.2.2 5).2.1, (u.2.2.2.2.2.2.2.2.2.2.2.2.2 0).2.2, (u.2.2.2.2.2.2.2.2.2.2.2.2.2 1).2.2, (u.2.2.2.2.2.2.2.2.2.2.2.2.2 2).2.2, (u.2.2.2.2.2.2.2.2.2.2.2.2.2 3).2.2, (u.2.2.2.2.2.2.2.2.2.2.2.2.2 4).2.2, (u.2.2.2.2.2.2.2.2.2.2.2.2.2 5).2.2, u.1, u.2.1.1, u.2.1.1 + 1, u.2.1.1 + 2, u.2.1.1 + 3, u.2.1.1 + 4, u.2.1.1 + 5, u.2.1.1 + 6, u.2.1.2.1, u.2.1.2.2, u.2.2.1, u.2.2.2.1.1, u.2.2.2.1.2, u.2.2.2.2.1, m, um 0, um 1, um 2, um 3, um 4, um 5, um 6, um 7, um 8, um 9, um 10, um 11, um 12, um 13, um 14, um 15, um 16, um 17, um 18, um 19, um 20, um 21, um 22, um 23]
def pil : List Nat := [0, 15, 18, 19, 20, 21, 16, 22, 23, 24, 25, 26, 27, 17, 28, 31, 34, 37, 40, 43, 29, 32, 35, 38, 41, 44, 30, 33, 36, 39, 42, 45, 46, 49, 50, 51, 52, 47, 53, 54, 55, 56, 57, 58, 48, 59, 62, 65, 68, 71, 74, 60, 63, 66, 69, 72, 75, 61, 64, 67, 70, 73, 76, 1, 2, 3, 4, 5, 6, 7, 8, 9, 10, 11, 12, 13, 14, 77, 78, 79, 80, 81, 82, 83, 84, 85, 86, 87, 88, 89, 90, 91, 92, 93, 94, 95, 96, 97, 98, 99, 100, 101]
def gdX (x : Nat) (u : SX) (m : Nat) (um : Nat → Nat) (t : Nat → Nat) (sb : Nat) : Nat → Nat := fun k => if k < 102 then (adl x u m um).getD k 0 else if k = 903 then sb else t (k - 900)
abbrev gX (G : vG) (x : Nat) (u : SX) (m : Nat) (um : Nat → Nat) (t : Nat → Nat) (sb : Nat) : vG := (G.1, G.2.1, gdX x u m um t sb, G.2.2.2)
theorem up6 (f : Nat → Nat) (g : Nat → Nat) (i0 i1 i2 i3 i4 i5 : Nat) (h0 : g i0 = f 0) (h1 : g i1 = f 1) (h2 : g i2 = f 2) (h3 : g i3 = f 3) (h4 : g i4 = f 4) (h5 : g i5 = f 5) : (va_up (va_up (va_up (va_up (va_up (va_up (fun _ => none) 0 (some (f 0))) 1 (some (f 1))) 2 (some (f 2))) 3 (some (f 3))) 4 (some (f 4))) 5 (some (f 5)) : Nat → Option Nat) = fun j => ([i0, i1, i2, i3, i4, i5][j]?).map g := by
  funext j
  rcases j with _ | _ | _ | _ | _ | _ | j
  · simp [va_up, h0]
  · simp [va_up, h1]
  · simp [va_up, h2]
  · simp [va_up, h3]
  · simp [va_up, h4]
  · simp [va_up, h5]
  · simp [va_up]
theorem mu6 (q : Nat) (g : Nat → Nat) (i0 i1 i2 i3 i4 i5 : Nat) (h0 : g i0 = q + 1) (h1 : g i1 = q + 2) (h2 : g i2 = q + 3) (h3 : g i3 = q + 4) (h4 : g i4 = q + 5) (h5 : g i5 = q + 6) : (fun j => if j < 6 then some (q + 1 + j) else none : Nat → Option Nat) = fun j => ([i0, i1, i2, i3, i4, i5][j]?).map g := by
  funext j
  rcases j with _ | _ | _ | _ | _ | _ | j
  · simp [h0]
  · simp [h1]
  · simp [h2]
  · simp [h3]
  · simp [h4]
  · simp [h5]
  · simp
set_option maxRecDepth 20000 in
theorem wc_0 {G : vG} {a b : Int} {x : Nat} {u : SX} {m : Nat} {um : Nat → Nat} {t : Nat → Nat} {sb : Nat} : (wld G a b x u m um)[0]? = (gWof shp (gX G x u m um t sb) (w0 (clp a 8) (clp b 6)))[0]? := rfl
set_option maxRecDepth 20000 in
theorem wc_1 {G : vG} {a b : Int} {x : Nat} {u : SX} {m : Nat} {um : Nat → Nat} {t : Nat → Nat} {sb : Nat} : (wld G a b x u m um)[15]? = (gWof shp (gX G x u m um t sb) (w0 (clp a 8) (clp b 6)))[1]? := rfl
set_option maxRecDepth 20000 in
theorem wc_2 {G : vG} {a b : Int} {x : Nat} {u : SX} {m : Nat} {um : Nat → Nat} {t : Nat → Nat} {sb : Nat} : (wld G a b x u m um)[18]? = (gWof shp (gX G x u m um t sb) (w0 (clp a 8) (clp b 6)))[2]? := rfl
set_option maxRecDepth 20000 in
theorem wc_3 {G : vG} {a b : Int} {x : Nat} {u : SX} {m : Nat} {um : Nat → Nat} {t : Nat → Nat} {sb : Nat} : (wld G a b x u m um)[19]? = (gWof shp (gX G x u m um t sb) (w0 (clp a 8) (clp b 6)))[3]? := rfl
set_option maxRecDepth 20000 in
theorem wc_4 {G : vG} {a b : Int} {x : Nat} {u : SX} {m : Nat} {um : Nat → Nat} {t : Nat → Nat} {sb : Nat} : (wld G a b x u m um)[20]? = (gWof shp (gX G x u m um t sb) (w0 (clp a 8) (clp b 6)))[4]? := rfl
set_option maxRecDepth 20000 in
theorem wc_5 {G : vG} {a b : Int} {x : Nat} {u : SX} {m : Nat} {um : Nat → Nat} {t : Nat → Nat} {sb : Nat} : (wld G a b x u m um)[21]? = (gWof shp (gX G x u m um t sb) (w0 (clp a 8) (clp b 6)))[5]? := rfl
theorem wc_6 {G : vG} {a b : Int} {x : Nat} {u : SX} {m : Nat} {um : Nat → Nat} {t : Nat → Nat} {sb : Nat} : (wld G a b x u m um)[16]? = (gWof shp (gX G x u m um t sb) (w0 (clp a 8) (clp b 6)))[6]? := by
  have e := up6 (fun k => u.2.2.2.2.2.2.1.2.2.2.2.1 k) (gdX x u m um t sb) 7 8 9 10 11 12 rfl rfl rfl rfl rfl rfl
  show some (cr G u.2.2.2.2.2.2.1.1 2 6 _) = some (cr G u.2.2.2.2.2.2.1.1 2 6 _)
  exact congrArg (fun f => some (cr G u.2.2.2.2.2.2.1.1 2 6 f)) e
set_option maxRecDepth 20000 in
theorem wc_7 {G : vG} {a b : Int} {x : Nat} {u : SX} {m : Nat} {um : Nat → Nat} {t : Nat → Nat} {sb : Nat} : (wld G a b x u m um)[22]? = (gWof shp (gX G x u m um t sb) (w0 (clp a 8) (clp b 6)))[7]? := rfl
set_option maxRecDepth 20000 in
theorem wc_8 {G : vG} {a b : Int} {x : Nat} {u : SX} {m : Nat} {um : Nat → Nat} {t : Nat → Nat} {sb : Nat} : (wld G a b x u m um)[23]? = (gWof shp (gX G x u m um t sb) (w0 (clp a 8) (clp b 6)))[8]? := rfl
set_option maxRecDepth 20000 in
theorem wc_9 {G : vG} {a b : Int} {x : Nat} {u : SX} {m : Nat} {um : Nat → Nat} {t : Nat → Nat} {sb : Nat} : (wld G a b x u m um)[24]? = (gWof shp (gX G x u m um t sb) (w0 (clp a 8) (clp b 6)))[9]? := rfl
set_option maxRecDepth 20000 in
theorem wc_10 {G : vG} {a b : Int} {x : Nat} {u : SX} {m : Nat} {um : Nat → Nat} {t : Nat → Nat} {sb : Nat} : (wld G a b x u m um)[25]? = (gWof shp (gX G x u m um t sb) (w0 (clp a 8) (clp b 6)))[10]? := rfl
set_option maxRecDepth 20000 in
theorem wc_11 {G : vG} {a b : Int} {x : Nat} {u : SX} {m : Nat} {um : Nat → Nat} {t : Nat → Nat} {sb : Nat} : (wld G a b x u m um)[26]? = (gWof shp (gX G x u m um t sb) (w0 (clp a 8) (clp b 6)))[11]? := rfl
set_option maxRecDepth 20000 in
theorem wc_12 {G : vG} {a b : Int} {x : Nat} {u : SX} {m : Nat} {um : Nat → Nat} {t : Nat → Nat} {sb : Nat} : (wld G a b x u m um)[27]? = (gWof shp (gX G x u m um t sb) (w0 (clp a 8) (clp b 6)))[12]? := rfl
theorem wc_13 {G : vG} {a b : Int} {x : Nat} {u : SX} {m : Nat} {um : Nat → Nat} {t : Nat → Nat} {sb : Nat} : (wld G a b x u m um)[17]? = (gWof shp (gX G x u m um t sb) (w0 (clp a 8) (clp b 6)))[13]? := by
  have e := up6 (fun k => (u.2.2.2.2.2.2.1.2.2.2.2.2 k).1) (gdX x u m um t sb) 14 15 16 17 18 19 rfl rfl rfl rfl rfl rfl
  show some (cr G u.2.2.2.2.2.2.1.2.1 3 6 _) = some (cr G u.2.2.2.2.2.2.1.2.1 3 6 _)
  exact congrArg (fun f => some (cr G u.2.2.2.2.2.2.1.2.1 3 6 f)) e
set_option maxRecDepth 20000 in
theorem wc_14 {G : vG} {a b : Int} {x : Nat} {u : SX} {m : Nat} {um : Nat → Nat} {t : Nat → Nat} {sb : Nat} : (wld G a b x u m um)[28]? = (gWof shp (gX G x u m um t sb) (w0 (clp a 8) (clp b 6)))[14]? := rfl
set_option maxRecDepth 20000 in
theorem wc_15 {G : vG} {a b : Int} {x : Nat} {u : SX} {m : Nat} {um : Nat → Nat} {t : Nat → Nat} {sb : Nat} : (wld G a b x u m um)[31]? = (gWof shp (gX G x u m um t sb) (w0 (clp a 8) (clp b 6)))[15]? := rfl
set_option maxRecDepth 20000 in
theorem wc_16 {G : vG} {a b : Int} {x : Nat} {u : SX} {m : Nat} {um : Nat → Nat} {t : Nat → Nat} {sb : Nat} : (wld G a b x u m um)[34]? = (gWof shp (gX G x u m um t sb) (w0 (clp a 8) (clp b 6)))[16]? := rfl
set_option maxRecDepth 20000 in
theorem wc_17 {G : vG} {a b : Int} {x : Nat} {u : SX} {m : Nat} {um : Nat → Nat} {t : Nat → Nat} {sb : Nat} : (wld G a b x u m um)[37]? = (gWof shp (gX G x u m um t sb) (w0 (clp a 8) (clp b 6)))[17]? := rfl
set_option maxRecDepth 20000 in
theorem wc_18 {G : vG} {a b : Int} {x : Nat} {u : SX} {m : Nat} {um : Nat → Nat} {t : Nat → Nat} {sb : Nat} : (wld G a b x u m um)[40]? = (gWof shp (gX G x u m um t sb) (w0 (clp a 8) (clp b 6)))[18]? := rfl
set_option maxRecDepth 20000 in
theorem wc_19 {G : vG} {a b : Int} {x : Nat} {u : SX} {m : Nat} {um : Nat → Nat} {t : Nat → Nat} {sb : Nat} : (wld G a b x u m um)[43]? = (gWof shp (gX G x u m um t sb) (w0 (clp a 8) (clp b 6)))[19]? := rfl
set_option maxRecDepth 20000 in
theorem wc_20 {G : vG} {a b : Int} {x : Nat} {u : SX} {m : Nat} {um : Nat → Nat} {t : Nat → Nat} {sb : Nat} : (wld G a b x u m um)[29]? = (gWof shp (gX G x u m um t sb) (w0 (clp a 8) (clp b 6)))[20]? := rfl
set_option maxRecDepth 20000 in
theorem wc_21 {G : vG} {a b : Int} {x : Nat} {u : SX} {m : Nat} {um : Nat → Nat} {t : Nat → Nat} {sb : Nat} : (wld G a b x u m um)[32]? = (gWof shp (gX G x u m um t sb) (w0 (clp a 8) (clp b 6)))[21]? := rfl
set_option maxRecDepth 20000 in
theorem wc_22 {G : vG} {a b : Int} {x : Nat} {u : SX} {m : Nat} {um : Nat → Nat} {t : Nat → Nat} {sb : Nat} : (wld G a b x u m um)[35]? = (gWof shp (gX G x u m um t sb) (w0 (clp a 8) (clp b 6)))[22]? := rfl
set_option maxRecDepth 20000 in
theorem wc_23 {G : vG} {a b : Int} {x : Nat} {u : SX} {m : Nat} {um : Nat → Nat} {t : Nat → Nat} {sb : Nat} : (wld G a b x u m um)[38]? = (gWof shp (gX G x u m um t sb) (w0 (clp a 8) (clp b 6)))[23]? := rfl
set_option maxRecDepth 20000 in
theorem wc_24 {G : vG} {a b : Int} {x : Nat} {u : SX} {m : Nat} {um : Nat → Nat} {t : Nat → Nat} {sb : Nat} : (wld G a b x u m um)[41]? = (gWof shp (gX G x u m um t sb) (w0 (clp a 8) (clp b 6)))[24]? := rfl
set_option maxRecDepth 20000 in
theorem wc_25 {G : vG} {a b : Int} {x : Nat} {u : SX} {m : Nat} {um : Nat → Nat} {t : Nat → Nat} {sb : Nat} : (wld G a b x u m um)[44]? = (gWof shp (gX G x u m um t sb) (w0 (clp a 8) (clp b 6)))[25]? := rfl
set_option maxRecDepth 20000 in
theorem wc_26 {G : vG} {a b : Int} {x : Nat} {u : SX} {m : Nat} {um : Nat → Nat} {t : Nat → Nat} {sb : Nat} : (wld G a b x u m um)[30]? = (gWof shp (gX G x u m um t sb) (w0 (clp a 8) (clp b 6)))[26]? := rfl
set_option maxRecDepth 20000 in
theorem wc_27 {G : vG} {a b : Int} {x : Nat} {u : SX} {m : Nat} {um : Nat → Nat} {t : Nat → Nat} {sb : Nat} : (wld G a b x u m um)[33]? = (gWof shp (gX G x u m um t sb) (w0 (clp a 8) (clp b 6)))[27]? := rfl
set_option maxRecDepth 20000 in
theorem wc_28 {G : vG} {a b : Int} {x : Nat} {u : SX} {m : Nat} {um : Nat → Nat} {t : Nat → Nat} {sb : Nat} : (wld G a b x u m um)[36]? = (gWof shp (gX G x u m um t sb) (w0 (clp a 8) (clp b 6)))[28]? := rfl
set_option maxRecDepth 20000 in
theorem wc_29 {G : vG} {a b : Int} {x : Nat} {u : SX} {m : Nat} {um : Nat → Nat} {t : Nat → Nat} {sb : Nat} : (wld G a b x u m um)[39]? = (gWof shp (gX G x u m um t sb) (w0 (clp a 8) (clp b 6)))[29]? := rfl
set_option maxRecDepth 20000 in
theorem wc_30 {G : vG} {a b : Int} {x : Nat} {u : SX} {m : Nat} {um : Nat → Nat} {t : Nat → Nat} {sb : Nat} : (wld G a b x u m um)[42]? = (gWof shp (gX G x u m um t sb) (w0 (clp a 8) (clp b 6)))[30]? := rfl
set_option maxRecDepth 20000 in
theorem wc_31 {G : vG} {a b : Int} {x : Nat} {u : SX} {m : Nat} {um : Nat → Nat} {t : Nat → Nat} {sb : Nat} : (wld G a b x u m um)[45]? = (gWof shp (gX G x u m um t sb) (w0 (clp a 8) (clp b 6)))[31]? := rfl
set_option maxRecDepth 20000 in
theorem wc_32 {G : vG} {a b : Int} {x : Nat} {u : SX} {m : Nat} {um : Nat → Nat} {t : Nat → Nat} {sb : Nat} : (wld G a b x u m um)[46]? = (gWof shp (gX G x u m um t sb) (w0 (clp a 8) (clp b 6)))[32]? := rfl
set_option maxRecDepth 20000 in
theorem wc_33 {G : vG} {a b : Int} {x : Nat} {u : SX} {m : Nat} {um : Nat → Nat} {t : Nat → Nat} {sb : Nat} : (wld G a b x u m um)[49]? = (gWof shp (gX G x u m um t sb) (w0 (clp a 8) (clp b 6)))[33]? := rfl
set_option maxRecDepth 20000 in
theorem wc_34 {G : vG} {a b : Int} {x : Nat} {u : SX} {m : Nat} {um : Nat → Nat} {t : Nat → Nat} {sb : Nat} : (wld G a b x u m um)[50]? = (gWof shp (gX G x u m um t sb) (w0 (clp a 8) (clp b 6)))[34]? := rfl
set_option maxRecDepth 20000 in
theorem wc_35 {G : vG} {a b : Int} {x : Nat} {u : SX} {m : Nat} {um : Nat → Nat} {t : Nat → Nat} {sb : Nat} : (wld G a b x u m um)[51]? = (gWof shp (gX G x u m um t sb) (w0 (clp a 8) (clp b 6)))[35]? := rfl
set_option maxRecDepth 20000 in
theorem wc_36 {G : vG} {a b : Int} {x : Nat} {u : SX} {m : Nat} {um : Nat → Nat} {t : Nat → Nat} {sb : Nat} : (wld G a b x u m um)[52]? = (gWof shp (gX G x u m um t sb) (w0 (clp a 8) (clp b 6)))[36]? := rfl
theorem wc_37 {G : vG} {a b : Int} {x : Nat} {u : SX} {m : Nat} {um : Nat → Nat} {t : Nat → Nat} {sb : Nat} : (wld G a b x u m um)[47]? = (gWof shp (gX G x u m um t sb) (w0 (clp a 8) (clp b 6)))[37]? := by
  have e := up6 (fun k => u.2.2.2.2.2.2.2.2.2.2.2.2.1 k) (gdX x u m um t sb) 38 39 40 41 42 43 rfl rfl rfl rfl rfl rfl
  show some (cr G u.2.2.2.2.2.2.2.2.1 2 6 _) = some (cr G u.2.2.2.2.2.2.2.2.1 2 6 _)
  exact congrArg (fun f => some (cr G u.2.2.2.2.2.2.2.2.1 2 6 f)) e
set_option maxRecDepth 20000 in
theorem wc_38 {G : vG} {a b : Int} {x : Nat} {u : SX} {m : Nat} {um : Nat → Nat} {t : Nat → Nat} {sb : Nat} : (wld G a b x u m um)[53]? = (gWof shp (gX G x u m um t sb) (w0 (clp a 8) (clp b 6)))[38]? := rfl
set_option maxRecDepth 20000 in
theorem wc_39 {G : vG} {a b : Int} {x : Nat} {u : SX} {m : Nat} {um : Nat → Nat} {t : Nat → Nat} {sb : Nat} : (wld G a b x u m um)[54]? = (gWof shp (gX G x u m um t sb) (w0 (clp a 8) (clp b 6)))[39]? := rfl
set_option maxRecDepth 20000 in
theorem wc_40 {G : vG} {a b : Int} {x : Nat} {u : SX} {m : Nat} {um : Nat → Nat} {t : Nat → Nat} {sb : Nat} : (wld G a b x u m um)[55]? = (gWof shp (gX G x u m um t sb) (w0 (clp a 8) (clp b 6)))[40]? := rfl
set_option maxRecDepth 20000 in
theorem wc_41 {G : vG} {a b : Int} {x : Nat} {u : SX} {m : Nat} {um : Nat → Nat} {t : Nat → Nat} {sb : Nat} : (wld G a b x u m um)[56]? = (gWof shp (gX G x u m um t sb) (w0 (clp a 8) (clp b 6)))[41]? := rfl
set_option maxRecDepth 20000 in
theorem wc_42 {G : vG} {a b : Int} {x : Nat} {u : SX} {m : Nat} {um : Nat → Nat} {t : Nat → Nat} {sb : Nat} : (wld G a b x u m um)[57]? = (gWof shp (gX G x u m um t sb) (w0 (clp a 8) (clp b 6)))[42]? := rfl
set_option maxRecDepth 20000 in
theorem wc_43 {G : vG} {a b : Int} {x : Nat} {u : SX} {m : Nat} {um : Nat → Nat} {t : Nat → Nat} {sb : Nat} : (wld G a b x u m um)[58]? = (gWof shp (gX G x u m um t sb) (w0 (clp a 8) (clp b 6)))[43]? := rfl
theorem wc_44 {G : vG} {a b : Int} {x : Nat} {u : SX} {m : Nat} {um : Nat → Nat} {t : Nat → Nat} {sb : Nat} : (wld G a b x u m um)[48]? = (gWof shp (gX G x u m um t sb) (w0 (clp a 8) (clp b 6)))[44]? := by
  have e := up6 (fun k => (u.2.2.2.2.2.2.2.2.2.2.2.2.2 k).1) (gdX x u m um t sb) 45 46 47 48 49 50 rfl rfl rfl rfl rfl rfl
  show some (cr G u.2.2.2.2.2.2.2.2.2.1 3 6 _) = some (cr G u.2.2.2.2.2.2.2.2.2.1 3 6 _)
  exact congrArg (fun f => some (cr G u.2.2.2.2.2.2.2.2.2.1 3 6 f)) e
set_option maxRecDepth 20000 in
theorem wc_45 {G : vG} {a b : Int} {x : Nat} {u : SX} {m : Nat} {um : Nat → Nat} {t : Nat → Nat} {sb : Nat} : (wld G a b x u m um)[59]? = (gWof shp (gX G x u m um t sb) (w0 (clp a 8) (clp b 6)))[45]? := rfl
set_option maxRecDepth 20000 in
theorem wc_46 {G : vG} {a b : Int} {x : Nat} {u : SX} {m : Nat} {um : Nat → Nat} {t : Nat → Nat} {sb : Nat} : (wld G a b x u m um)[62]? = (gWof shp (gX G x u m um t sb) (w0 (clp a 8) (clp b 6)))[46]? := rfl
set_option maxRecDepth 20000 in
theorem wc_47 {G : vG} {a b : Int} {x : Nat} {u : SX} {m : Nat} {um : Nat → Nat} {t : Nat → Nat} {sb : Nat} : (wld G a b x u m um)[65]? = (gWof shp (gX G x u m um t sb) (w0 (clp a 8) (clp b 6)))[47]? := rfl
set_option maxRecDepth 20000 in
theorem wc_48 {G : vG} {a b : Int} {x : Nat} {u : SX} {m : Nat} {um : Nat → Nat} {t : Nat → Nat} {sb : Nat} : (wld G a b x u m um)[68]? = (gWof shp (gX G x u m um t sb) (w0 (clp a 8) (clp b 6)))[48]? := rfl
set_option maxRecDepth 20000 in
theorem wc_49 {G : vG} {a b : Int} {x : Nat} {u : SX} {m : Nat} {um : Nat → Nat} {t : Nat → Nat} {sb : Nat} : (wld G a b x u m um)[71]? = (gWof shp (gX G x u m um t sb) (w0 (clp a 8) (clp b 6)))[49]? := rfl
set_option maxRecDepth 20000 in
theorem wc_50 {G : vG} {a b : Int} {x : Nat} {u : SX} {m : Nat} {um : Nat → Nat} {t : Nat → Nat} {sb : Nat} : (wld G a b x u m um)[74]? = (gWof shp (gX G x u m um t sb) (w0 (clp a 8) (clp b 6)))[50]? := rfl
set_option maxRecDepth 20000 in
theorem wc_51 {G : vG} {a b : Int} {x : Nat} {u : SX} {m : Nat} {um : Nat → Nat} {t : Nat → Nat} {sb : Nat} : (wld G a b x u m um)[60]? = (gWof shp (gX G x u m um t sb) (w0 (clp a 8) (clp b 6)))[51]? := rfl
set_option maxRecDepth 20000 in
theorem wc_52 {G : vG} {a b : Int} {x : Nat} {u : SX} {m : Nat} {um : Nat → Nat} {t : Nat → Nat} {sb : Nat} : (wld G a b x u m um)[63]? = (gWof shp (gX G x u m um t sb) (w0 (clp a 8) (clp b 6)))[52]? := rfl
set_option maxRecDepth 20000 in
theorem wc_53 {G : vG} {a b : Int} {x : Nat} {u : SX} {m : Nat} {um : Nat → Nat} {t : Nat → Nat} {sb : Nat} : (wld G a b x u m um)[66]? = (gWof shp (gX G x u m um t sb) (w0 (clp a 8) (clp b 6)))[53]? := rfl
set_option maxRecDepth 20000 in
theorem wc_54 {G : vG} {a b : Int} {x : Nat} {u : SX} {m : Nat} {um : Nat → Nat} {t : Nat → Nat} {sb : Nat} : (wld G a b x u m um)[69]? = (gWof shp (gX G x u m um t sb) (w0 (clp a 8) (clp b 6)))[54]? := rfl
set_option maxRecDepth 20000 in
theorem wc_55 {G : vG} {a b : Int} {x : Nat} {u : SX} {m : Nat} {um : Nat → Nat} {t : Nat → Nat} {sb : Nat} : (wld G a b x u m um)[72]? = (gWof shp (gX G x u m um t sb) (w0 (clp a 8) (clp b 6)))[55]? := rfl
set_option maxRecDepth 20000 in
theorem wc_56 {G : vG} {a b : Int} {x : Nat} {u : SX} {m : Nat} {um : Nat → Nat} {t : Nat → Nat} {sb : Nat} : (wld G a b x u m um)[75]? = (gWof shp (gX G x u m um t sb) (w0 (clp a 8) (clp b 6)))[56]? := rfl
set_option maxRecDepth 20000 in
theorem wc_57 {G : vG} {a b : Int} {x : Nat} {u : SX} {m : Nat} {um : Nat → Nat} {t : Nat → Nat} {sb : Nat} : (wld G a b x u m um)[61]? = (gWof shp (gX G x u m um t sb) (w0 (clp a 8) (clp b 6)))[57]? := rfl
set_option maxRecDepth 20000 in
theorem wc_58 {G : vG} {a b : Int} {x : Nat} {u : SX} {m : Nat} {um : Nat → Nat} {t : Nat → Nat} {sb : Nat} : (wld G a b x u m um)[64]? = (gWof shp (gX G x u m um t sb) (w0 (clp a 8) (clp b 6)))[58]? := rfl
set_option maxRecDepth 20000 in
theorem wc_59 {G : vG} {a b : Int} {x : Nat} {u : SX} {m : Nat} {um : Nat → Nat} {t : Nat → Nat} {sb : Nat} : (wld G a b x u m um)[67]? = (gWof shp (gX G x u m um t sb) (w0 (clp a 8) (clp b 6)))[59]? := rfl
set_option maxRecDepth 20000 in
theorem wc_60 {G : vG} {a b : Int} {x : Nat} {u : SX} {m : Nat} {um : Nat → Nat} {t : Nat → Nat} {sb : Nat} : (wld G a b x u m um)[70]? = (gWof shp (gX G x u m um t sb) (w0 (clp a 8) (clp b 6)))[60]? := rfl
set_option maxRecDepth 20000 in
theorem wc_61 {G : vG} {a b : Int} {x : Nat} {u : SX} {m : Nat} {um : Nat → Nat} {t : Nat → Nat} {sb : Nat} : (wld G a b x u m um)[73]? = (gWof shp (gX G x u m um t sb) (w0 (clp a 8) (clp b 6)))[61]? := rfl
set_option maxRecDepth 20000 in
theorem wc_62 {G : vG} {a b : Int} {x : Nat} {u : SX} {m : Nat} {um : Nat → Nat} {t : Nat → Nat} {sb : Nat} : (wld G a b x u m um)[76]? = (gWof shp (gX G x u m um t sb) (w0 (clp a 8) (clp b 6)))[62]? := rfl
set_option maxRecDepth 20000 in
theorem wc_63 {G : vG} {a b : Int} {x : Nat} {u : SX} {m : Nat} {um : Nat → Nat} {t : Nat → Nat} {sb : Nat} : (wld G a b x u m um)[1]? = (gWof shp (gX G x u m um t sb) (w0 (clp a 8) (clp b 6)))[63]? := rfl
theorem wc_64 {G : vG} {a b : Int} {x : Nat} {u : SX} {m : Nat} {um : Nat → Nat} {t : Nat → Nat} {sb : Nat} : (wld G a b x u m um)[2]? = (gWof shp (gX G x u m um t sb) (w0 (clp a 8) (clp b 6)))[64]? := by
  have e := mu6 u.2.1.1 (gdX x u m um t sb) 65 66 67 68 69 70 rfl rfl rfl rfl rfl rfl
  show some (cr G u.2.1.1 4 6 _) = some (cr G u.2.1.1 4 6 _)
  exact congrArg (fun f => some (cr G u.2.1.1 4 6 f)) e
set_option maxRecDepth 20000 in
theorem wc_65 {G : vG} {a b : Int} {x : Nat} {u : SX} {m : Nat} {um : Nat → Nat} {t : Nat → Nat} {sb : Nat} : (wld G a b x u m um)[3]? = (gWof shp (gX G x u m um t sb) (w0 (clp a 8) (clp b 6)))[65]? := rfl
set_option maxRecDepth 20000 in
theorem wc_66 {G : vG} {a b : Int} {x : Nat} {u : SX} {m : Nat} {um : Nat → Nat} {t : Nat → Nat} {sb : Nat} : (wld G a b x u m um)[4]? = (gWof shp (gX G x u m um t sb) (w0 (clp a 8) (clp b 6)))[66]? := rfl
set_option maxRecDepth 20000 in
theorem wc_67 {G : vG} {a b : Int} {x : Nat} {u : SX} {m : Nat} {um : Nat → Nat} {t : Nat → Nat} {sb : Nat} : (wld G a b x u m um)[5]? = (gWof shp (gX G x u m um t sb) (w0 (clp a 8) (clp b 6)))[67]? := rfl
set_option maxRecDepth 20000 in
theorem wc_68 {G : vG} {a b : Int} {x : Nat} {u : SX} {m : Nat} {um : Nat → Nat} {t : Nat → Nat} {sb : Nat} : (wld G a b x u m um)[6]? = (gWof shp (gX G x u m um t sb) (w0 (clp a 8) (clp b 6)))[68]? := rfl
set_option maxRecDepth 20000 in
theorem wc_69 {G : vG} {a b : Int} {x : Nat} {u : SX} {m : Nat} {um : Nat → Nat} {t : Nat → Nat} {sb : Nat} : (wld G a b x u m um)[7]? = (gWof shp (gX G x u m um t sb) (w0 (clp a 8) (clp b 6)))[69]? := rfl
set_option maxRecDepth 20000 in
theorem wc_70 {G : vG} {a b : Int} {x : Nat} {u : SX} {m : Nat} {um : Nat → Nat} {t : Nat → Nat} {sb : Nat} : (wld G a b x u m um)[8]? = (gWof shp (gX G x u m um t sb) (w0 (clp a 8) (clp b 6)))[70]? := rfl
set_option maxRecDepth 20000 in
theorem wc_71 {G : vG} {a b : Int} {x : Nat} {u : SX} {m : Nat} {um : Nat → Nat} {t : Nat → Nat} {sb : Nat} : (wld G a b x u m um)[9]? = (gWof shp (gX G x u m um t sb) (w0 (clp a 8) (clp b 6)))[71]? := rfl
set_option maxRecDepth 20000 in
theorem wc_72 {G : vG} {a b : Int} {x : Nat} {u : SX} {m : Nat} {um : Nat → Nat} {t : Nat → Nat} {sb : Nat} : (wld G a b x u m um)[10]? = (gWof shp (gX G x u m um t sb) (w0 (clp a 8) (clp b 6)))[72]? := rfl
set_option maxRecDepth 20000 in
theorem wc_73 {G : vG} {a b : Int} {x : Nat} {u : SX} {m : Nat} {um : Nat → Nat} {t : Nat → Nat} {sb : Nat} : (wld G a b x u m um)[11]? = (gWof shp (gX G x u m um t sb) (w0 (clp a 8) (clp b 6)))[73]? := rfl
set_option maxRecDepth 20000 in
theorem wc_74 {G : vG} {a b : Int} {x : Nat} {u : SX} {m : Nat} {um : Nat → Nat} {t : Nat → Nat} {sb : Nat} : (wld G a b x u m um)[12]? = (gWof shp (gX G x u m um t sb) (w0 (clp a 8) (clp b 6)))[74]? := rfl
set_option maxRecDepth 20000 in
theorem wc_75 {G : vG} {a b : Int} {x : Nat} {u : SX} {m : Nat} {um : Nat → Nat} {t : Nat → Nat} {sb : Nat} : (wld G a b x u m um)[13]? = (gWof shp (gX G x u m um t sb) (w0 (clp a 8) (clp b 6)))[75]? := rfl
set_option maxRecDepth 20000 in
theorem wc_76 {G : vG} {a b : Int} {x : Nat} {u : SX} {m : Nat} {um : Nat → Nat} {t : Nat → Nat} {sb : Nat} : (wld G a b x u m um)[14]? = (gWof shp (gX G x u m um t sb) (w0 (clp a 8) (clp b 6)))[76]? := rfl
set_option maxRecDepth 20000 in
theorem wc_77 {G : vG} {a b : Int} {x : Nat} {u : SX} {m : Nat} {um : Nat → Nat} {t : Nat → Nat} {sb : Nat} : (wld G a b x u m um)[77]? = (gWof shp (gX G x u m um t sb) (w0 (clp a 8) (clp b 6)))[77]? := rfl
set_option maxRecDepth 20000 in
theorem wc_78 {G : vG} {a b : Int} {x : Nat} {u : SX} {m : Nat} {um : Nat → Nat} {t : Nat → Nat} {sb : Nat} : (wld G a b x u m um)[78]? = (gWof shp (gX G x u m um t sb) (w0 (clp a 8) (clp b 6)))[78]? := rfl
set_option maxRecDepth 20000 in
theorem wc_79 {G : vG} {a b : Int} {x : Nat} {u : SX} {m : Nat} {um : Nat → Nat} {t : Nat → Nat} {sb : Nat} : (wld G a b x u m um)[79]? = (gWof shp (gX G x u m um t sb) (w0 (clp a 8) (clp b 6)))[79]? := rfl
set_option maxRecDepth 20000 in
theorem wc_80 {G : vG} {a b : Int} {x : Nat} {u : SX} {m : Nat} {um : Nat → Nat} {t : Nat → Nat} {sb : Nat} : (wld G a b x u m um)[80]? = (gWof shp (gX G x u m um t sb) (w0 (clp a 8) (clp b 6)))[80]? := rfl
set_option maxRecDepth 20000 in
theorem wc_81 {G : vG} {a b : Int} {x : Nat} {u : SX} {m : Nat} {um : Nat → Nat} {t : Nat → Nat} {sb : Nat} : (wld G a b x u m um)[81]? = (gWof shp (gX G x u m um t sb) (w0 (clp a 8) (clp b 6)))[81]? := rfl
set_option maxRecDepth 20000 in
theorem wc_82 {G : vG} {a b : Int} {x : Nat} {u : SX} {m : Nat} {um : Nat → Nat} {t : Nat → Nat} {sb : Nat} : (wld G a b x u m um)[82]? = (gWof shp (gX G x u m um t sb) (w0 (clp a 8) (clp b 6)))[82]? := rfl
set_option maxRecDepth 20000 in
theorem wc_83 {G : vG} {a b : Int} {x : Nat} {u : SX} {m : Nat} {um : Nat → Nat} {t : Nat → Nat} {sb : Nat} : (wld G a b x u m um)[83]? = (gWof shp (gX G x u m um t sb) (w0 (clp a 8) (clp b 6)))[83]? := rfl
set_option maxRecDepth 20000 in
theorem wc_84 {G : vG} {a b : Int} {x : Nat} {u : SX} {m : Nat} {um : Nat → Nat} {t : Nat → Nat} {sb : Nat} : (wld G a b x u m um)[84]? = (gWof shp (gX G x u m um t sb) (w0 (clp a 8) (clp b 6)))[84]? := rfl
set_option maxRecDepth 20000 in
theorem wc_85 {G : vG} {a b : Int} {x : Nat} {u : SX} {m : Nat} {um : Nat → Nat} {t : Nat → Nat} {sb : Nat} : (wld G a b x u m um)[85]? = (gWof shp (gX G x u m um t sb) (w0 (clp a 8) (clp b 6)))[85]? := rfl
set_option maxRecDepth 20000 in
theorem wc_86 {G : vG} {a b : Int} {x : Nat} {u : SX} {m : Nat} {um : Nat → Nat} {t : Nat → Nat} {sb : Nat} : (wld G a b x u m um)[86]? = (gWof shp (gX G x u m um t sb) (w0 (clp a 8) (clp b 6)))[86]? := rfl
set_option maxRecDepth 20000 in
theorem wc_87 {G : vG} {a b : Int} {x : Nat} {u : SX} {m : Nat} {um : Nat → Nat} {t : Nat → Nat} {sb : Nat} : (wld G a b x u m um)[87]? = (gWof shp (gX G x u m um t sb) (w0 (clp a 8) (clp b 6)))[87]? := rfl
set_option maxRecDepth 20000 in
theorem wc_88 {G : vG} {a b : Int} {x : Nat} {u : SX} {m : Nat} {um : Nat → Nat} {t : Nat → Nat} {sb : Nat} : (wld G a b x u m um)[88]? = (gWof shp (gX G x u m um t sb) (w0 (clp a 8) (clp b 6)))[88]? := rfl
set_option maxRecDepth 20000 in
theorem wc_89 {G : vG} {a b : Int} {x : Nat} {u : SX} {m : Nat} {um : Nat → Nat} {t : Nat → Nat} {sb : Nat} : (wld G a b x u m um)[89]? = (gWof shp (gX G x u m um t sb) (w0 (clp a 8) (clp b 6)))[89]? := rfl
set_option maxRecDepth 20000 in
theorem wc_90 {G : vG} {a b : Int} {x : Nat} {u : SX} {m : Nat} {um : Nat → Nat} {t : Nat → Nat} {sb : Nat} : (wld G a b x u m um)[90]? = (gWof shp (gX G x u m um t sb) (w0 (clp a 8) (clp b 6)))[90]? := rfl
set_option maxRecDepth 20000 in
theorem wc_91 {G : vG} {a b : Int} {x : Nat} {u : SX} {m : Nat} {um : Nat → Nat} {t : Nat → Nat} {sb : Nat} : (wld G a b x u m um)[91]? = (gWof shp (gX G x u m um t sb) (w0 (clp a 8) (clp b 6)))[91]? := rfl
set_option maxRecDepth 20000 in
theorem wc_92 {G : vG} {a b : Int} {x : Nat} {u : SX} {m : Nat} {um : Nat → Nat} {t : Nat → Nat} {sb : Nat} : (wld G a b x u m um)[92]? = (gWof shp (gX G x u m um t sb) (w0 (clp a 8) (clp b 6)))[92]? := rfl
set_option maxRecDepth 20000 in
theorem wc_93 {G : vG} {a b : Int} {x : Nat} {u : SX} {m : Nat} {um : Nat → Nat} {t : Nat → Nat} {sb : Nat} : (wld G a b x u m um)[93]? = (gWof shp (gX G x u m um t sb) (w0 (clp a 8) (clp b 6)))[93]? := rfl
set_option maxRecDepth 20000 in
theorem wc_94 {G : vG} {a b : Int} {x : Nat} {u : SX} {m : Nat} {um : Nat → Nat} {t : Nat → Nat} {sb : Nat} : (wld G a b x u m um)[94]? = (gWof shp (gX G x u m um t sb) (w0 (clp a 8) (clp b 6)))[94]? := rfl
set_option maxRecDepth 20000 in
theorem wc_95 {G : vG} {a b : Int} {x : Nat} {u : SX} {m : Nat} {um : Nat → Nat} {t : Nat → Nat} {sb : Nat} : (wld G a b x u m um)[95]? = (gWof shp (gX G x u m um t sb) (w0 (clp a 8) (clp b 6)))[95]? := rfl
set_option maxRecDepth 20000 in
theorem wc_96 {G : vG} {a b : Int} {x : Nat} {u : SX} {m : Nat} {um : Nat → Nat} {t : Nat → Nat} {sb : Nat} : (wld G a b x u m um)[96]? = (gWof shp (gX G x u m um t sb) (w0 (clp a 8) (clp b 6)))[96]? := rfl
set_option maxRecDepth 20000 in
theorem wc_97 {G : vG} {a b : Int} {x : Nat} {u : SX} {m : Nat} {um : Nat → Nat} {t : Nat → Nat} {sb : Nat} : (wld G a b x u m um)[97]? = (gWof shp (gX G x u m um t sb) (w0 (clp a 8) (clp b 6)))[97]? := rfl
set_option maxRecDepth 20000 in
theorem wc_98 {G : vG} {a b : Int} {x : Nat} {u : SX} {m : Nat} {um : Nat → Nat} {t : Nat → Nat} {sb : Nat} : (wld G a b x u m um)[98]? = (gWof shp (gX G x u m um t sb) (w0 (clp a 8) (clp b 6)))[98]? := rfl
set_option maxRecDepth 20000 in
theorem wc_99 {G : vG} {a b : Int} {x : Nat} {u : SX} {m : Nat} {um : Nat → Nat} {t : Nat → Nat} {sb : Nat} : (wld G a b x u m um)[99]? = (gWof shp (gX G x u m um t sb) (w0 (clp a 8) (clp b 6)))[99]? := rfl
set_option maxRecDepth 20000 in
theorem wc_100 {G : vG} {a b : Int} {x : Nat} {u : SX} {m : Nat} {um : Nat → Nat} {t : Nat → Nat} {sb : Nat} : (wld G a b x u m um)[100]? = (gWof shp (gX G x u m um t sb) (w0 (clp a 8) (clp b 6)))[100]? := rfl
set_option maxRecDepth 20000 in
theorem wc_101 {G : vG} {a b : Int} {x : Nat} {u : SX} {m : Nat} {um : Nat → Nat} {t : Nat → Nat} {sb : Nat} : (wld G a b x u m um)[101]? = (gWof shp (gX G x u m um t sb) (w0 (clp a 8) (clp b 6)))[101]? := rfl
theorem wc_all {G : vG} {a b : Int} {x : Nat} {u : SX} {m : Nat} {um : Nat → Nat} {t : Nat → Nat} {sb : Nat} : ∀ k, k < 102 → (wld G a b x u m um)[pil.getD k 0]? = (gWof shp (gX G x u m um t sb) (w0 (clp a 8) (clp b 6)))[k]?
  | 0, _ => wc_0
  | 1, _ => wc_1
  | 2, _ => wc_2
  | 3, _ => wc_3
  | 4, _ => wc_4
  | 5, _ => wc_5
  | 6, _ => wc_6
  | 7, _ => wc_7
  | 8, _ => wc_8
  | 9, _ => wc_9
  | 10, _ => wc_10
  | 11, _ => wc_11
  | 12, _ => wc_12
  | 13, _ => wc_13
  | 14, _ => wc_14
  | 15, _ => wc_15
  | 16, _ => wc_16
  | 17, _ => wc_17
  | 18, _ => wc_18
  | 19, _ => wc_19
  | 20, _ => wc_20
  | 21, _ => wc_21
  | 22, _ => wc_22
  | 23, _ => wc_23
  | 24, _ => wc_24
  | 25, _ => wc_25
  | 26, _ => wc_26
  | 27, _ => wc_27
  | 28, _ => wc_28
  | 29, _ => wc_29
  | 30, _ => wc_30
  | 31, _ => wc_31
  | 32, _ => wc_32
  | 33, _ => wc_33
  | 34, _ => wc_34
  | 35, _ => wc_35
  | 36, _ => wc_36
  | 37, _ => wc_37
  | 38, _ => wc_38
  | 39, _ => wc_39
  | 40, _ => wc_40
  | 41, _ => wc_41
  | 42, _ => wc_42
  | 43, _ => wc_43
  | 44, _ => wc_44
  | 45, _ => wc_45
  | 46, _ => wc_46
  | 47, _ => wc_47
  | 48, _ => wc_48
  | 49, _ => wc_49
  | 50, _ => wc_50
  | 51, _ => wc_51
  | 52, _ => wc_52
  | 53, _ => wc_53
  | 54, _ => wc_54
  | 55, _ => wc_55
  | 56, _ => wc_56
  | 57, _ => wc_57
  | 58, _ => wc_58
  | 59, _ => wc_59
  | 60, _ => wc_60
  | 61, _ => wc_61
  | 62, _ => wc_62
  | 63, _ => wc_63
  | 64, _ => wc_64
  | 65, _ => wc_65
  | 66, _ => wc_66
  | 67, _ => wc_67
  | 68, _ => wc_68
  | 69, _ => wc_69
  | 70, _ => wc_70
  | 71, _ => wc_71
  | 72, _ => wc_72
  | 73, _ => wc_73
  | 74, _ => wc_74
  | 75, _ => wc_75
  | 76, _ => wc_76
  | 77, _ => wc_77
  | 78, _ => wc_78
  | 79, _ => wc_79
  | 80, _ => wc_80
  | 81, _ => wc_81
  | 82, _ => wc_82
  | 83, _ => wc_83
  | 84, _ => wc_84
  | 85, _ => wc_85
  | 86, _ => wc_86
  | 87, _ => wc_87
  | 88, _ => wc_88
  | 89, _ => wc_89
  | 90, _ => wc_90
  | 91, _ => wc_91
  | 92, _ => wc_92
  | 93, _ => wc_93
  | 94, _ => wc_94
  | 95, _ => wc_95
  | 96, _ => wc_96
  | 97, _ => wc_97
  | 98, _ => wc_98
  | 99, _ => wc_99
  | 100, _ => wc_100
  | 101, _ => wc_101
  | n + 102, h => absurd h (by omega)
theorem pil_1 : ∀ i, i < 102 → ∀ j, j < 102 → pil.getD i 0 = pil.getD j 0 → i = j := by decide +kernel
