/-! what a rule comes to: the model -/
section RMC
variable {d : Nat} {mem : zM}

set_option maxRecDepth 100000 in
theorem w_tw {d : Nat} {mem : zM} {P : Option Value → zM → Prop} {s : Int32} {a b : Int64} (hm : aTm aT0 mem) (h1 : (s).toInt = 31 → (a + b).toInt ≤ (1000000 : Int64).toInt → ((-1000000) : Int64).toInt ≤ (a + b).toInt → aTm aT0 mem → P (some (.long (a + b))) mem) (h2 : (s).toInt = 31 → (a + b).toInt ≤ (1000000 : Int64).toInt → (a + b).toInt < ((-1000000) : Int64).toInt → aTm aT0 mem → P (some (.long (-1000000))) mem) (h3 : (s).toInt = 31 → (1000000 : Int64).toInt < (a + b).toInt → aTm aT0 mem → P (some (.long 1000000)) mem) (h4 : ¬ (s).toInt = 31 → (s).toInt = 32 → (a - b).toInt ≤ (1000000 : Int64).toInt → ((-1000000) : Int64).toInt ≤ (a - b).toInt → aTm aT0 mem → P (some (.long (a - b))) mem) (h5 : ¬ (s).toInt = 31 → (s).toInt = 32 → (a - b).toInt ≤ (1000000 : Int64).toInt → (a - b).toInt < ((-1000000) : Int64).toInt → aTm aT0 mem → P (some (.long (-1000000))) mem) (h6 : ¬ (s).toInt = 31 → (s).toInt = 32 → (1000000 : Int64).toInt < (a - b).toInt → aTm aT0 mem → P (some (.long 1000000)) mem) (h7 : ¬ (s).toInt = 31 → ¬ (s).toInt = 32 → (s).toInt = 33 → (a * b).toInt ≤ (1000000 : Int64).toInt → ((-1000000) : Int64).toInt ≤ (a * b).toInt → aTm aT0 mem → P (some (.long (a * b))) mem) (h8 : ¬ (s).toInt = 31 → ¬ (s).toInt = 32 → (s).toInt = 33 → (a * b).toInt ≤ (1000000 : Int64).toInt → (a * b).toInt < ((-1000000) : Int64).toInt → aTm aT0 mem → P (some (.long (-1000000))) mem) (h9 : ¬ (s).toInt = 31 → ¬ (s).toInt = 32 → (s).toInt = 33 → (1000000 : Int64).toInt < (a * b).toInt → aTm aT0 mem → P (some (.long 1000000)) mem) (h10 : ¬ (s).toInt = 31 → ¬ (s).toInt = 32 → ¬ (s).toInt = 33 → (s).toInt = 34 → ¬ b = 0 → (a - a / b * b) = 0 → (a / b).toInt ≤ (1000000 : Int64).toInt → ((-1000000) : Int64).toInt ≤ (a / b).toInt → aTm aT0 mem → P (some (.long (a / b))) mem) (h11 : ¬ (s).toInt = 31 → ¬ (s).toInt = 32 → ¬ (s).toInt = 33 → (s).toInt = 34 → ¬ b = 0 → (a - a / b * b) = 0 → (a / b).toInt ≤ (1000000 : Int64).toInt → (a / b).toInt < ((-1000000) : Int64).toInt → aTm aT0 mem → P (some (.long (-1000000))) mem) (h12 : ¬ (s).toInt = 31 → ¬ (s).toInt = 32 → ¬ (s).toInt = 33 → (s).toInt = 34 → ¬ b = 0 → (a - a / b * b) = 0 → (1000000 : Int64).toInt < (a / b).toInt → aTm aT0 mem → P (some (.long 1000000)) mem) (h13 : ¬ (s).toInt = 31 → ¬ (s).toInt = 32 → ¬ (s).toInt = 33 → (s).toInt = 34 → ¬ b = 0 → ¬ (a - a / b * b) = 0 → (0 : Int64).toInt ≤ a.toInt → (0 : Int64).toInt ≤ b.toInt → (a / b).toInt ≤ (1000000 : Int64).toInt → ((-1000000) : Int64).toInt ≤ (a / b).toInt → aTm aT0 mem → P (some (.long (a / b))) mem) (h14 : ¬ (s).toInt = 31 → ¬ (s).toInt = 32 → ¬ (s).toInt = 33 → (s).toInt = 34 → ¬ b = 0 → ¬ (a - a / b * b) = 0 → (0 : Int64).toInt ≤ a.toInt → (0 : Int64).toInt ≤ b.toInt → (a / b).toInt ≤ (1000000 : Int64).toInt → (a / b).toInt < ((-1000000) : Int64).toInt → aTm aT0 mem → P (some (.long (-1000000))) mem) (h15 : ¬ (s).toInt = 31 → ¬ (s).toInt = 32 → ¬ (s).toInt = 33 → (s).toInt = 34 → ¬ b = 0 → ¬ (a - a / b * b) = 0 → (0 : Int64).toInt ≤ a.toInt → (0 : Int64).toInt ≤ b.toInt → (1000000 : Int64).toInt < (a / b).toInt → aTm aT0 mem → P (some (.long 1000000)) mem) (h16 : ¬ (s).toInt = 31 → ¬ (s).toInt = 32 → ¬ (s).toInt = 33 → (s).toInt = 34 → ¬ b = 0 → ¬ (a - a / b * b) = 0 → (0 : Int64).toInt ≤ a.toInt → b.toInt < (0 : Int64).toInt → ((a / b) - 1).toInt ≤ (1000000 : Int64).toInt → ((-1000000) : Int64).toInt ≤ ((a / b) - 1).toInt → aTm aT0 mem → P (some (.long ((a / b) - 1))) mem) (h17 : ¬ (s).toInt = 31 → ¬ (s).toInt = 32 → ¬ (s).toInt = 33 → (s).toInt = 34 → ¬ b = 0 → ¬ (a - a / b * b) = 0 → (0 : Int64).toInt ≤ a.toInt → b.toInt < (0 : Int64).toInt → ((a / b) - 1).toInt ≤ (1000000 : Int64).toInt → ((a / b) - 1).toInt < ((-1000000) : Int64).toInt → aTm aT0 mem → P (some (.long (-1000000))) mem) (h18 : ¬ (s).toInt = 31 → ¬ (s).toInt = 32 → ¬ (s).toInt = 33 → (s).toInt = 34 → ¬ b = 0 → ¬ (a - a / b * b) = 0 → (0 : Int64).toInt ≤ a.toInt → b.toInt < (0 : Int64).toInt → (1000000 : Int64).toInt < ((a / b) - 1).toInt → aTm aT0 mem → P (some (.long 1000000)) mem) (h19 : ¬ (s).toInt = 31 → ¬ (s).toInt = 32 → ¬ (s).toInt = 33 → (s).toInt = 34 → ¬ b = 0 → ¬ (a - a / b * b) = 0 → a.toInt < (0 : Int64).toInt → (0 : Int64).toInt ≤ b.toInt → ((a / b) - 1).toInt ≤ (1000000 : Int64).toInt → ((-1000000) : Int64).toInt ≤ ((a / b) - 1).toInt → aTm aT0 mem → P (some (.long ((a / b) - 1))) mem) (h20 : ¬ (s).toInt = 31 → ¬ (s).toInt = 32 → ¬ (s).toInt = 33 → (s).toInt = 34 → ¬ b = 0 → ¬ (a - a / b * b) = 0 → a.toInt < (0 : Int64).toInt → (0 : Int64).toInt ≤ b.toInt → ((a / b) - 1).toInt ≤ (1000000 : Int64).toInt → ((a / b) - 1).toInt < ((-1000000) : Int64).toInt → aTm aT0 mem → P (some (.long (-1000000))) mem) (h21 : ¬ (s).toInt = 31 → ¬ (s).toInt = 32 → ¬ (s).toInt = 33 → (s).toInt = 34 → ¬ b = 0 → ¬ (a - a / b * b) = 0 → a.toInt < (0 : Int64).toInt → (0 : Int64).toInt ≤ b.toInt → (1000000 : Int64).toInt < ((a / b) - 1).toInt → aTm aT0 mem → P (some (.long 1000000)) mem) (h22 : ¬ (s).toInt = 31 → ¬ (s).toInt = 32 → ¬ (s).toInt = 33 → (s).toInt = 34 → ¬ b = 0 → ¬ (a - a / b * b) = 0 → a.toInt < (0 : Int64).toInt → b.toInt < (0 : Int64).toInt → (a / b).toInt ≤ (1000000 : Int64).toInt → ((-1000000) : Int64).toInt ≤ (a / b).toInt → aTm aT0 mem → P (some (.long (a / b))) mem) (h23 : ¬ (s).toInt = 31 → ¬ (s).toInt = 32 → ¬ (s).toInt = 33 → (s).toInt = 34 → ¬ b = 0 → ¬ (a - a / b * b) = 0 → a.toInt < (0 : Int64).toInt → b.toInt < (0 : Int64).toInt → (a / b).toInt ≤ (1000000 : Int64).toInt → (a / b).toInt < ((-1000000) : Int64).toInt → aTm aT0 mem → P (some (.long (-1000000))) mem) (h24 : ¬ (s).toInt = 31 → ¬ (s).toInt = 32 → ¬ (s).toInt = 33 → (s).toInt = 34 → ¬ b = 0 → ¬ (a - a / b * b) = 0 → a.toInt < (0 : Int64).toInt → b.toInt < (0 : Int64).toInt → (1000000 : Int64).toInt < (a / b).toInt → aTm aT0 mem → P (some (.long 1000000)) mem) (h25 : ¬ (s).toInt = 31 → ¬ (s).toInt = 32 → ¬ (s).toInt = 33 → (s).toInt = 34 → b = 0 → aTm aT0 mem → P (some (.long 0)) mem) (h26 : ¬ (s).toInt = 31 → ¬ (s).toInt = 32 → ¬ (s).toInt = 33 → ¬ (s).toInt = 34 → (s).toInt = 35 → ¬ b = 0 → (a - a / b * b) = 0 → (a - (b * (a / b))).toInt ≤ (1000000 : Int64).toInt → ((-1000000) : Int64).toInt ≤ (a - (b * (a / b))).toInt → aTm aT0 mem → P (some (.long (a - (b * (a / b))))) mem) (h27 : ¬ (s).toInt = 31 → ¬ (s).toInt = 32 → ¬ (s).toInt = 33 → ¬ (s).toInt = 34 → (s).toInt = 35 → ¬ b = 0 → (a - a / b * b) = 0 → (a - (b * (a / b))).toInt ≤ (1000000 : Int64).toInt → (a - (b * (a / b))).toInt < ((-1000000) : Int64).toInt → aTm aT0 mem → P (some (.long (-1000000))) mem) (h28 : ¬ (s).toInt = 31 → ¬ (s).toInt = 32 → ¬ (s).toInt = 33 → ¬ (s).toInt = 34 → (s).toInt = 35 → ¬ b = 0 → (a - a / b * b) = 0 → (1000000 : Int64).toInt < (a - (b * (a / b))).toInt → aTm aT0 mem → P (some (.long 1000000)) mem) (h29 : ¬ (s).toInt = 31 → ¬ (s).toInt = 32 → ¬ (s).toInt = 33 → ¬ (s).toInt = 34 → (s).toInt = 35 → ¬ b = 0 → ¬ (a - a / b * b) = 0 → (0 : Int64).toInt ≤ a.toInt → (0 : Int64).toInt ≤ b.toInt → (a - (b * (a / b))).toInt ≤ (1000000 : Int64).toInt → ((-1000000) : Int64).toInt ≤ (a - (b * (a / b))).toInt → aTm aT0 mem → P (some (.long (a - (b * (a / b))))) mem) (h30 : ¬ (s).toInt = 31 → ¬ (s).toInt = 32 → ¬ (s).toInt = 33 → ¬ (s).toInt = 34 → (s).toInt = 35 → ¬ b = 0 → ¬ (a - a / b * b) = 0 → (0 : Int64).toInt ≤ a.toInt → (0 : Int64).toInt ≤ b.toInt → (a - (b * (a / b))).toInt ≤ (1000000 : Int64).toInt → (a - (b * (a / b))).toInt < ((-1000000) : Int64).toInt → aTm aT0 mem → P (some (.long (-1000000))) mem) (h31 : ¬ (s).toInt = 31 → ¬ (s).toInt = 32 → ¬ (s).toInt = 33 → ¬ (s).toInt = 34 → (s).toInt = 35 → ¬ b = 0 → ¬ (a - a / b * b) = 0 → (0 : Int64).toInt ≤ a.toInt → (0 : Int64).toInt ≤ b.toInt → (1000000 : Int64).toInt < (a - (b * (a / b))).toInt → aTm aT0 mem → P (some (.long 1000000)) mem) (h32 : ¬ (s).toInt = 31 → ¬ (s).toInt = 32 → ¬ (s).toInt = 33 → ¬ (s).toInt = 34 → (s).toInt = 35 → ¬ b = 0 → ¬ (a - a / b * b) = 0 → (0 : Int64).toInt ≤ a.toInt → b.toInt < (0 : Int64).toInt → (a - (b * ((a / b) - 1))).toInt ≤ (1000000 : Int64).toInt → ((-1000000) : Int64).toInt ≤ (a - (b * ((a / b) - 1))).toInt → aTm aT0 mem → P (some (.long (a - (b * ((a / b) - 1))))) mem) (h33 : ¬ (s).toInt = 31 → ¬ (s).toInt = 32 → ¬ (s).toInt = 33 → ¬ (s).toInt = 34 → (s).toInt = 35 → ¬ b = 0 → ¬ (a - a / b * b) = 0 → (0 : Int64).toInt ≤ a.toInt → b.toInt < (0 : Int64).toInt → (a - (b * ((a / b) - 1))).toInt ≤ (1000000 : Int64).toInt → (a - (b * ((a / b) - 1))).toInt < ((-1000000) : Int64).toInt → aTm aT0 mem → P (some (.long (-1000000))) mem) (h34 : ¬ (s).toInt = 31 → ¬ (s).toInt = 32 → ¬ (s).toInt = 33 → ¬ (s).toInt = 34 → (s).toInt = 35 → ¬ b = 0 → ¬ (a - a / b * b) = 0 → (0 : Int64).toInt ≤ a.toInt → b.toInt < (0 : Int64).toInt → (1000000 : Int64).toInt < (a - (b * ((a / b) - 1))).toInt → aTm aT0 mem → P (some (.long 1000000)) mem) (h35 : ¬ (s).toInt = 31 → ¬ (s).toInt = 32 → ¬ (s).toInt = 33 → ¬ (s).toInt = 34 → (s).toInt = 35 → ¬ b = 0 → ¬ (a - a / b * b) = 0 → a.toInt < (0 : Int64).toInt → (0 : Int64).toInt ≤ b.toInt → (a - (b * ((a / b) - 1))).toInt ≤ (1000000 : Int64).toInt → ((-1000000) : Int64).toInt ≤ (a - (b * ((a / b) - 1))).toInt → aTm aT0 mem → P (some (.long (a - (b * ((a / b) - 1))))) mem) (h36 : ¬ (s).toInt = 31 → ¬ (s).toInt = 32 → ¬ (s).toInt = 33 → ¬ (s).toInt = 34 → (s).toInt = 35 → ¬ b = 0 → ¬ (a - a / b * b) = 0 → a.toInt < (0 : Int64).toInt → (0 : Int64).toInt ≤ b.toInt → (a - (b * ((a / b) - 1))).toInt ≤ (1000000 : Int64).toInt → (a - (b * ((a / b) - 1))).toInt < ((-1000000) : Int64).toInt → aTm aT0 mem → P (some (.long (-1000000))) mem) (h37 : ¬ (s).toInt = 31 → ¬ (s).toInt = 32 → ¬ (s).toInt = 33 → ¬ (s).toInt = 34 → (s).toInt = 35 → ¬ b = 0 → ¬ (a - a / b * b) = 0 → a.toInt < (0 : Int64).toInt → (0 : Int64).toInt ≤ b.toInt → (1000000 : Int64).toInt < (a - (b * ((a / b) - 1))).toInt → aTm aT0 mem → P (some (.long 1000000)) mem) (h38 : ¬ (s).toInt = 31 → ¬ (s).toInt = 32 → ¬ (s).toInt = 33 → ¬ (s).toInt = 34 → (s).toInt = 35 → ¬ b = 0 → ¬ (a - a / b * b) = 0 → a.toInt < (0 : Int64).toInt → b.toInt < (0 : Int64).toInt → (a - (b * (a / b))).toInt ≤ (1000000 : Int64).toInt → ((-1000000) : Int64).toInt ≤ (a - (b * (a / b))).toInt → aTm aT0 mem → P (some (.long (a - (b * (a / b))))) mem) (h39 : ¬ (s).toInt = 31 → ¬ (s).toInt = 32 → ¬ (s).toInt = 33 → ¬ (s).toInt = 34 → (s).toInt = 35 → ¬ b = 0 → ¬ (a - a / b * b) = 0 → a.toInt < (0 : Int64).toInt → b.toInt < (0 : Int64).toInt → (a - (b * (a / b))).toInt ≤ (1000000 : Int64).toInt → (a - (b * (a / b))).toInt < ((-1000000) : Int64).toInt → aTm aT0 mem → P (some (.long (-1000000))) mem) (h40 : ¬ (s).toInt = 31 → ¬ (s).toInt = 32 → ¬ (s).toInt = 33 → ¬ (s).toInt = 34 → (s).toInt = 35 → ¬ b = 0 → ¬ (a - a / b * b) = 0 → a.toInt < (0 : Int64).toInt → b.toInt < (0 : Int64).toInt → (1000000 : Int64).toInt < (a - (b * (a / b))).toInt → aTm aT0 mem → P (some (.long 1000000)) mem) (h41 : ¬ (s).toInt = 31 → ¬ (s).toInt = 32 → ¬ (s).toInt = 33 → ¬ (s).toInt = 34 → (s).toInt = 35 → b = 0 → aTm aT0 mem → P (some (.long 0)) mem) (h42 : ¬ (s).toInt = 31 → ¬ (s).toInt = 32 → ¬ (s).toInt = 33 → ¬ (s).toInt = 34 → ¬ (s).toInt = 35 → (s).toInt = 36 → b.toInt ≤ a.toInt → aTm aT0 mem → P (some (.long b)) mem) (h43 : ¬ (s).toInt = 31 → ¬ (s).toInt = 32 → ¬ (s).toInt = 33 → ¬ (s).toInt = 34 → ¬ (s).toInt = 35 → (s).toInt = 36 → a.toInt < b.toInt → aTm aT0 mem → P (some (.long a)) mem) (h44 : ¬ (s).toInt = 31 → ¬ (s).toInt = 32 → ¬ (s).toInt = 33 → ¬ (s).toInt = 34 → ¬ (s).toInt = 35 → ¬ (s).toInt = 36 → (s).toInt = 37 → a.toInt ≤ b.toInt → aTm aT0 mem → P (some (.long b)) mem) (h45 : ¬ (s).toInt = 31 → ¬ (s).toInt = 32 → ¬ (s).toInt = 33 → ¬ (s).toInt = 34 → ¬ (s).toInt = 35 → ¬ (s).toInt = 36 → (s).toInt = 37 → b.toInt < a.toInt → aTm aT0 mem → P (some (.long a)) mem) (h46 : ¬ (s).toInt = 31 → ¬ (s).toInt = 32 → ¬ (s).toInt = 33 → ¬ (s).toInt = 34 → ¬ (s).toInt = 35 → ¬ (s).toInt = 36 → ¬ (s).toInt = 37 → (s).toInt = 38 → b.toInt ≤ a.toInt → aTm aT0 mem → P (some (.long 0)) mem) (h47 : ¬ (s).toInt = 31 → ¬ (s).toInt = 32 → ¬ (s).toInt = 33 → ¬ (s).toInt = 34 → ¬ (s).toInt = 35 → ¬ (s).toInt = 36 → ¬ (s).toInt = 37 → (s).toInt = 38 → a.toInt < b.toInt → aTm aT0 mem → P (some (.long 1)) mem) (h48 : ¬ (s).toInt = 31 → ¬ (s).toInt = 32 → ¬ (s).toInt = 33 → ¬ (s).toInt = 34 → ¬ (s).toInt = 35 → ¬ (s).toInt = 36 → ¬ (s).toInt = 37 → ¬ (s).toInt = 38 → (s).toInt = 39 → a.toInt ≤ b.toInt → aTm aT0 mem → P (some (.long 0)) mem) (h49 : ¬ (s).toInt = 31 → ¬ (s).toInt = 32 → ¬ (s).toInt = 33 → ¬ (s).toInt = 34 → ¬ (s).toInt = 35 → ¬ (s).toInt = 36 → ¬ (s).toInt = 37 → ¬ (s).toInt = 38 → (s).toInt = 39 → b.toInt < a.toInt → aTm aT0 mem → P (some (.long 1)) mem) (h50 : ¬ (s).toInt = 31 → ¬ (s).toInt = 32 → ¬ (s).toInt = 33 → ¬ (s).toInt = 34 → ¬ (s).toInt = 35 → ¬ (s).toInt = 36 → ¬ (s).toInt = 37 → ¬ (s).toInt = 38 → ¬ (s).toInt = 39 → (s).toInt = 40 → ¬ a = b → aTm aT0 mem → P (some (.long 0)) mem) (h51 : ¬ (s).toInt = 31 → ¬ (s).toInt = 32 → ¬ (s).toInt = 33 → ¬ (s).toInt = 34 → ¬ (s).toInt = 35 → ¬ (s).toInt = 36 → ¬ (s).toInt = 37 → ¬ (s).toInt = 38 → ¬ (s).toInt = 39 → (s).toInt = 40 → a = b → aTm aT0 mem → P (some (.long 1)) mem) (h52 : ¬ (s).toInt = 31 → ¬ (s).toInt = 32 → ¬ (s).toInt = 33 → ¬ (s).toInt = 34 → ¬ (s).toInt = 35 → ¬ (s).toInt = 36 → ¬ (s).toInt = 37 → ¬ (s).toInt = 38 → ¬ (s).toInt = 39 → ¬ (s).toInt = 40 → (s).toInt = 41 → aTm aT0 mem → P (some (.long (a &&& b))) mem) (h53 : ¬ (s).toInt = 31 → ¬ (s).toInt = 32 → ¬ (s).toInt = 33 → ¬ (s).toInt = 34 → ¬ (s).toInt = 35 → ¬ (s).toInt = 36 → ¬ (s).toInt = 37 → ¬ (s).toInt = 38 → ¬ (s).toInt = 39 → ¬ (s).toInt = 40 → ¬ (s).toInt = 41 → aTm aT0 mem → P (some (.long (a ||| b))) mem) : yR zpg tX12_two (d + 1) (0, [(0, .int s), (1, .long a), (3, .long b)], [], mem) P := by
  refine yR_m 1 (fun _ _ _ _ => rfl) ?_
  refine wR_ts rfl rfl ⟨fun q1 => ?_, fun q1 => ⟨fun q2 => ?_, fun q2 => ⟨fun q3 => ?_, fun q3 => ⟨fun q4 => ?_, fun q4 => ⟨fun q5 => ?_, fun q5 => ⟨fun q6 => ?_, fun q6 => ⟨fun q7 => ?_, fun q7 => ⟨fun q8 => ?_, fun q8 => ⟨fun q9 => ?_, fun q9 => ⟨fun q10 => ?_, fun q10 => ⟨fun q11 => ?_, fun q11 => ?_⟩⟩⟩⟩⟩⟩⟩⟩⟩⟩⟩
  ·
    have q1 : (s).toInt = 31 := q1
    refine yR_m 3 (fun _ _ _ _ => rfl) ?_
    refine wR_is rfl rfl rfl rfl rfl rfl ?_
    show yR zpg tX12_within d (0, [(0, .long (a + b))], [], mem) _
    refine yR_m 3 (fun _ _ _ _ => rfl) ?_
    refine wR_lf_le rfl (fun q12 => ?_) (fun q12 => ?_)
    ·
      refine yR_m 3 (fun _ _ _ _ => rfl) ?_
      refine wR_lf_ge rfl (fun q13 => ?_) (fun q13 => ?_)
      ·
        refine yR_m 1 (fun _ _ _ _ => rfl) ?_
        refine yR_rl rfl ?_
        show yR zpg tX12_two (d + 1) (66, [(0, .int s), (1, .long a), (3, .long b)], [.long (a + b)], mem) _
        exact yR_rl rfl (h1 q1 q12 q13 hm)
      ·
        refine yR_m 2 (fun _ _ _ _ => rfl) ?_
        refine yR_rl rfl ?_
        show yR zpg tX12_two (d + 1) (66, [(0, .int s), (1, .long a), (3, .long b)], [.long (-1000000)], mem) _
        exact yR_rl rfl (h2 q1 q12 q13 hm)
    ·
      refine yR_m 2 (fun _ _ _ _ => rfl) ?_
      refine yR_rl rfl ?_
      show yR zpg tX12_two (d + 1) (66, [(0, .int s), (1, .long a), (3, .long b)], [.long 1000000], mem) _
      exact yR_rl rfl (h3 q1 q12 hm)
  ·
    have q1 : ¬ (s).toInt = 31 := q1
    have q2 : (s).toInt = 32 := q2
    refine yR_m 3 (fun _ _ _ _ => rfl) ?_
    refine wR_is rfl rfl rfl rfl rfl rfl ?_
    show yR zpg tX12_within d (0, [(0, .long (a - b))], [], mem) _
    refine yR_m 3 (fun _ _ _ _ => rfl) ?_
    refine wR_lf_le rfl (fun q14 => ?_) (fun q14 => ?_)
    ·
      refine yR_m 3 (fun _ _ _ _ => rfl) ?_
      refine wR_lf_ge rfl (fun q15 => ?_) (fun q15 => ?_)
      ·
        refine yR_m 1 (fun _ _ _ _ => rfl) ?_
        refine yR_rl rfl ?_
        show yR zpg tX12_two (d + 1) (73, [(0, .int s), (1, .long a), (3, .long b)], [.long (a - b)], mem) _
        exact yR_rl rfl (h4 q1 q2 q14 q15 hm)
      ·
        refine yR_m 2 (fun _ _ _ _ => rfl) ?_
        refine yR_rl rfl ?_
        show yR zpg tX12_two (d + 1) (73, [(0, .int s), (1, .long a), (3, .long b)], [.long (-1000000)], mem) _
        exact yR_rl rfl (h5 q1 q2 q14 q15 hm)
    ·
      refine yR_m 2 (fun _ _ _ _ => rfl) ?_
      refine yR_rl rfl ?_
      show yR zpg tX12_two (d + 1) (73, [(0, .int s), (1, .long a), (3, .long b)], [.long 1000000], mem) _
      exact yR_rl rfl (h6 q1 q2 q14 hm)
  ·
    have q1 : ¬ (s).toInt = 31 := q1
    have q2 : ¬ (s).toInt = 32 := q2
    have q3 : (s).toInt = 33 := q3
    refine yR_m 3 (fun _ _ _ _ => rfl) ?_
    refine wR_is rfl rfl rfl rfl rfl rfl ?_
    show yR zpg tX12_within d (0, [(0, .long (a * b))], [], mem) _
    refine yR_m 3 (fun _ _ _ _ => rfl) ?_
    refine wR_lf_le rfl (fun q16 => ?_) (fun q16 => ?_)
    ·
      refine yR_m 3 (fun _ _ _ _ => rfl) ?_
      refine wR_lf_ge rfl (fun q17 => ?_) (fun q17 => ?_)
      ·
        refine yR_m 1 (fun _ _ _ _ => rfl) ?_
        refine yR_rl rfl ?_
        show yR zpg tX12_two (d + 1) (80, [(0, .int s), (1, .long a), (3, .long b)], [.long (a * b)], mem) _
        exact yR_rl rfl (h7 q1 q2 q3 q16 q17 hm)
      ·
        refine yR_m 2 (fun _ _ _ _ => rfl) ?_
        refine yR_rl rfl ?_
        show yR zpg tX12_two (d + 1) (80, [(0, .int s), (1, .long a), (3, .long b)], [.long (-1000000)], mem) _
        exact yR_rl rfl (h8 q1 q2 q3 q16 q17 hm)
    ·
      refine yR_m 2 (fun _ _ _ _ => rfl) ?_
      refine yR_rl rfl ?_
      show yR zpg tX12_two (d + 1) (80, [(0, .int s), (1, .long a), (3, .long b)], [.long 1000000], mem) _
      exact yR_rl rfl (h9 q1 q2 q3 q16 hm)
  ·
    have q1 : ¬ (s).toInt = 31 := q1
    have q2 : ¬ (s).toInt = 32 := q2
    have q3 : ¬ (s).toInt = 33 := q3
    have q4 : (s).toInt = 34 := q4
    refine yR_m 2 (fun _ _ _ _ => rfl) ?_
    refine wR_is rfl rfl rfl rfl rfl rfl ?_
    show yR zpg tX12_floor d (0, [(0, .long a), (2, .long b)], [], mem) _
    refine yR_m 3 (fun _ _ _ _ => rfl) ?_
    refine wR_lf_ne rfl (fun q18 => ?_) (fun q18 => ?_)
    ·
      refine yR_m 2 (fun _ _ _ _ => rfl) ?_
      refine wR_ldz rfl q18 ?_
      refine yR_m 3 (fun _ _ _ _ => rfl) ?_
      refine wR_ldz rfl q18 ?_
      refine yR_m 2 (fun _ _ _ _ => rfl) ?_
      refine wR_lf_eq rfl (fun q19 => ?_) (fun q19 => ?_)
      ·
        refine yR_m 1 (fun _ _ _ _ => rfl) ?_
        refine yR_rl rfl ?_
        show yR zpg tX12_two (d + 1) (86, [(0, .int s), (1, .long a), (3, .long b)], [.long (a / b)], mem) _
        refine wR_is rfl rfl rfl rfl rfl rfl ?_
        show yR zpg tX12_within d (0, [(0, .long (a / b))], [], mem) _
        refine yR_m 3 (fun _ _ _ _ => rfl) ?_
        refine wR_lf_le rfl (fun q20 => ?_) (fun q20 => ?_)
        ·
          refine yR_m 3 (fun _ _ _ _ => rfl) ?_
          refine wR_lf_ge rfl (fun q21 => ?_) (fun q21 => ?_)
          ·
            refine yR_m 1 (fun _ _ _ _ => rfl) ?_
            refine yR_rl rfl ?_
            show yR zpg tX12_two (d + 1) (89, [(0, .int s), (1, .long a), (3, .long b)], [.long (a / b)], mem) _
            exact yR_rl rfl (h10 q1 q2 q3 q4 q18 q19 q20 q21 hm)
          ·
            refine yR_m 2 (fun _ _ _ _ => rfl) ?_
            refine yR_rl rfl ?_
            show yR zpg tX12_two (d + 1) (89, [(0, .int s), (1, .long a), (3, .long b)], [.long (-1000000)], mem) _
            exact yR_rl rfl (h11 q1 q2 q3 q4 q18 q19 q20 q21 hm)
        ·
          refine yR_m 2 (fun _ _ _ _ => rfl) ?_
          refine yR_rl rfl ?_
          show yR zpg tX12_two (d + 1) (89, [(0, .int s), (1, .long a), (3, .long b)], [.long 1000000], mem) _
          exact yR_rl rfl (h12 q1 q2 q3 q4 q18 q19 q20 hm)
      ·
        refine yR_m 3 (fun _ _ _ _ => rfl) ?_
        refine wR_lf_ge rfl (fun q22 => ?_) (fun q22 => ?_)
        ·
          refine yR_m 4 (fun _ _ _ _ => rfl) ?_
          refine wR_lf_ge rfl (fun q23 => ?_) (fun q23 => ?_)
          ·
            refine yR_m 1 (fun _ _ _ _ => rfl) ?_
            refine wR_ic_eq rfl (a := 0) (c := 0) rfl rfl (fun _ => ?_) (fun q => by exfalso; omega)
            refine yR_m 1 (fun _ _ _ _ => rfl) ?_
            refine yR_rl rfl ?_
            show yR zpg tX12_two (d + 1) (86, [(0, .int s), (1, .long a), (3, .long b)], [.long (a / b)], mem) _
            refine wR_is rfl rfl rfl rfl rfl rfl ?_
            show yR zpg tX12_within d (0, [(0, .long (a / b))], [], mem) _
            refine yR_m 3 (fun _ _ _ _ => rfl) ?_
            refine wR_lf_le rfl (fun q24 => ?_) (fun q24 => ?_)
            ·
              refine yR_m 3 (fun _ _ _ _ => rfl) ?_
              refine wR_lf_ge rfl (fun q25 => ?_) (fun q25 => ?_)
              ·
                refine yR_m 1 (fun _ _ _ _ => rfl) ?_
                refine yR_rl rfl ?_
                show yR zpg tX12_two (d + 1) (89, [(0, .int s), (1, .long a), (3, .long b)], [.long (a / b)], mem) _
                exact yR_rl rfl (h13 q1 q2 q3 q4 q18 q19 q22 q23 q24 q25 hm)
              ·
                refine yR_m 2 (fun _ _ _ _ => rfl) ?_
                refine yR_rl rfl ?_
                show yR zpg tX12_two (d + 1) (89, [(0, .int s), (1, .long a), (3, .long b)], [.long (-1000000)], mem) _
                exact yR_rl rfl (h14 q1 q2 q3 q4 q18 q19 q22 q23 q24 q25 hm)
            ·
              refine yR_m 2 (fun _ _ _ _ => rfl) ?_
              refine yR_rl rfl ?_
              show yR zpg tX12_two (d + 1) (89, [(0, .int s), (1, .long a), (3, .long b)], [.long 1000000], mem) _
              exact yR_rl rfl (h15 q1 q2 q3 q4 q18 q19 q22 q23 q24 hm)
          ·
            refine yR_m 2 (fun _ _ _ _ => rfl) ?_
            refine wR_ic_eq rfl (a := 0) (c := 1) rfl rfl (fun q => by exfalso; omega) (fun _ => ?_)
            refine yR_m 4 (fun _ _ _ _ => rfl) ?_
            refine yR_rl rfl ?_
            show yR zpg tX12_two (d + 1) (86, [(0, .int s), (1, .long a), (3, .long b)], [.long ((a / b) - 1)], mem) _
            refine wR_is rfl rfl rfl rfl rfl rfl ?_
            show yR zpg tX12_within d (0, [(0, .long ((a / b) - 1))], [], mem) _
            refine yR_m 3 (fun _ _ _ _ => rfl) ?_
            refine wR_lf_le rfl (fun q26 => ?_) (fun q26 => ?_)
            ·
              refine yR_m 3 (fun _ _ _ _ => rfl) ?_
              refine wR_lf_ge rfl (fun q27 => ?_) (fun q27 => ?_)
              ·
                refine yR_m 1 (fun _ _ _ _ => rfl) ?_
                refine yR_rl rfl ?_
                show yR zpg tX12_two (d + 1) (89, [(0, .int s), (1, .long a), (3, .long b)], [.long ((a / b) - 1)], mem) _
                exact yR_rl rfl (h16 q1 q2 q3 q4 q18 q19 q22 q23 q26 q27 hm)
              ·
                refine yR_m 2 (fun _ _ _ _ => rfl) ?_
                refine yR_rl rfl ?_
                show yR zpg tX12_two (d + 1) (89, [(0, .int s), (1, .long a), (3, .long b)], [.long (-1000000)], mem) _
                exact yR_rl rfl (h17 q1 q2 q3 q4 q18 q19 q22 q23 q26 q27 hm)
            ·
              refine yR_m 2 (fun _ _ _ _ => rfl) ?_
              refine yR_rl rfl ?_
              show yR zpg tX12_two (d + 1) (89, [(0, .int s), (1, .long a), (3, .long b)], [.long 1000000], mem) _
              exact yR_rl rfl (h18 q1 q2 q3 q4 q18 q19 q22 q23 q26 hm)
        ·
          refine yR_m 5 (fun _ _ _ _ => rfl) ?_
          refine wR_lf_ge rfl (fun q28 => ?_) (fun q28 => ?_)
          ·
            refine yR_m 1 (fun _ _ _ _ => rfl) ?_
            refine wR_ic_eq rfl (a := 1) (c := 0) rfl rfl (fun q => by exfalso; omega) (fun _ => ?_)
            refine yR_m 4 (fun _ _ _ _ => rfl) ?_
            refine yR_rl rfl ?_
            show yR zpg tX12_two (d + 1) (86, [(0, .int s), (1, .long a), (3, .long b)], [.long ((a / b) - 1)], mem) _
            refine wR_is rfl rfl rfl rfl rfl rfl ?_
            show yR zpg tX12_within d (0, [(0, .long ((a / b) - 1))], [], mem) _
            refine yR_m 3 (fun _ _ _ _ => rfl) ?_
            refine wR_lf_le rfl (fun q29 => ?_) (fun q29 => ?_)
            ·
              refine yR_m 3 (fun _ _ _ _ => rfl) ?_
              refine wR_lf_ge rfl (fun q30 => ?_) (fun q30 => ?_)
              ·
                refine yR_m 1 (fun _ _ _ _ => rfl) ?_
                refine yR_rl rfl ?_
                show yR zpg tX12_two (d + 1) (89, [(0, .int s), (1, .long a), (3, .long b)], [.long ((a / b) - 1)], mem) _
                exact yR_rl rfl (h19 q1 q2 q3 q4 q18 q19 q22 q28 q29 q30 hm)
              ·
                refine yR_m 2 (fun _ _ _ _ => rfl) ?_
                refine yR_rl rfl ?_
                show yR zpg tX12_two (d + 1) (89, [(0, .int s), (1, .long a), (3, .long b)], [.long (-1000000)], mem) _
                exact yR_rl rfl (h20 q1 q2 q3 q4 q18 q19 q22 q28 q29 q30 hm)
            ·
              refine yR_m 2 (fun _ _ _ _ => rfl) ?_
              refine yR_rl rfl ?_
              show yR zpg tX12_two (d + 1) (89, [(0, .int s), (1, .long a), (3, .long b)], [.long 1000000], mem) _
              exact yR_rl rfl (h21 q1 q2 q3 q4 q18 q19 q22 q28 q29 hm)
          ·
            refine yR_m 2 (fun _ _ _ _ => rfl) ?_
            refine wR_ic_eq rfl (a := 1) (c := 1) rfl rfl (fun _ => ?_) (fun q => by exfalso; omega)
            refine yR_m 1 (fun _ _ _ _ => rfl) ?_
            refine yR_rl rfl ?_
            show yR zpg tX12_two (d + 1) (86, [(0, .int s), (1, .long a), (3, .long b)], [.long (a / b)], mem) _
            refine wR_is rfl rfl rfl rfl rfl rfl ?_
            show yR zpg tX12_within d (0, [(0, .long (a / b))], [], mem) _
            refine yR_m 3 (fun _ _ _ _ => rfl) ?_
            refine wR_lf_le rfl (fun q31 => ?_) (fun q31 => ?_)
            ·
              refine yR_m 3 (fun _ _ _ _ => rfl) ?_
              refine wR_lf_ge rfl (fun q32 => ?_) (fun q32 => ?_)
              ·
                refine yR_m 1 (fun _ _ _ _ => rfl) ?_
                refine yR_rl rfl ?_
                show yR zpg tX12_two (d + 1) (89, [(0, .int s), (1, .long a), (3, .long b)], [.long (a / b)], mem) _
                exact yR_rl rfl (h22 q1 q2 q3 q4 q18 q19 q22 q28 q31 q32 hm)
              ·
                refine yR_m 2 (fun _ _ _ _ => rfl) ?_
                refine yR_rl rfl ?_
                show yR zpg tX12_two (d + 1) (89, [(0, .int s), (1, .long a), (3, .long b)], [.long (-1000000)], mem) _
                exact yR_rl rfl (h23 q1 q2 q3 q4 q18 q19 q22 q28 q31 q32 hm)
            ·
              refine yR_m 2 (fun _ _ _ _ => rfl) ?_
              refine yR_rl rfl ?_
              show yR zpg tX12_two (d + 1) (89, [(0, .int s), (1, .long a), (3, .long b)], [.long 1000000], mem) _
              exact yR_rl rfl (h24 q1 q2 q3 q4 q18 q19 q22 q28 q31 hm)
    ·
      refine yR_m 1 (fun _ _ _ _ => rfl) ?_
      refine yR_rl rfl ?_
      show yR zpg tX12_two (d + 1) (86, [(0, .int s), (1, .long a), (3, .long b)], [.long 0], mem) _
      refine wR_is rfl rfl rfl rfl rfl rfl ?_
      show yR zpg tX12_within d (0, [(0, .long 0)], [], mem) _
      refine yR_m 3 (fun _ _ _ _ => rfl) ?_
      refine wR_lf_le rfl (fun _ => ?_) (fun q => absurd q (by decide))
      refine yR_m 3 (fun _ _ _ _ => rfl) ?_
      refine wR_lf_ge rfl (fun _ => ?_) (fun q => absurd q (by decide))
      refine yR_m 1 (fun _ _ _ _ => rfl) ?_
      refine yR_rl rfl ?_
      show yR zpg tX12_two (d + 1) (89, [(0, .int s), (1, .long a), (3, .long b)], [.long 0], mem) _
      exact yR_rl rfl (h25 q1 q2 q3 q4 q18 hm)
  ·
    have q1 : ¬ (s).toInt = 31 := q1
    have q2 : ¬ (s).toInt = 32 := q2
    have q3 : ¬ (s).toInt = 33 := q3
    have q4 : ¬ (s).toInt = 34 := q4
    have q5 : (s).toInt = 35 := q5
    refine yR_m 3 (fun _ _ _ _ => rfl) ?_
    refine wR_lf_ne rfl (fun q33 => ?_) (fun q33 => ?_)
    ·
      refine yR_m 4 (fun _ _ _ _ => rfl) ?_
      refine wR_is rfl rfl rfl rfl rfl rfl ?_
      show yR zpg tX12_floor d (0, [(0, .long a), (2, .long b)], [], mem) _
      refine yR_m 3 (fun _ _ _ _ => rfl) ?_
      refine wR_lf_ne rfl (fun _ => ?_) (fun q => absurd q q33)
      refine yR_m 2 (fun _ _ _ _ => rfl) ?_
      refine wR_ldz rfl q33 ?_
      refine yR_m 3 (fun _ _ _ _ => rfl) ?_
      refine wR_ldz rfl q33 ?_
      refine yR_m 2 (fun _ _ _ _ => rfl) ?_
      refine wR_lf_eq rfl (fun q34 => ?_) (fun q34 => ?_)
      ·
        refine yR_m 1 (fun _ _ _ _ => rfl) ?_
        refine yR_rl rfl ?_
        show yR zpg tX12_two (d + 1) (107, [(0, .int s), (1, .long a), (3, .long b)], [.long (a / b), .long b, .long a], mem) _
        refine yR_m 2 (fun _ _ _ _ => rfl) ?_
        refine wR_is rfl rfl rfl rfl rfl rfl ?_
        show yR zpg tX12_within d (0, [(0, .long (a - (b * (a / b))))], [], mem) _
        refine yR_m 3 (fun _ _ _ _ => rfl) ?_
        refine wR_lf_le rfl (fun q35 => ?_) (fun q35 => ?_)
        ·
          refine yR_m 3 (fun _ _ _ _ => rfl) ?_
          refine wR_lf_ge rfl (fun q36 => ?_) (fun q36 => ?_)
          ·
            refine yR_m 1 (fun _ _ _ _ => rfl) ?_
            refine yR_rl rfl ?_
            show yR zpg tX12_two (d + 1) (112, [(0, .int s), (1, .long a), (3, .long b)], [.long (a - (b * (a / b)))], mem) _
            exact yR_rl rfl (h26 q1 q2 q3 q4 q5 q33 q34 q35 q36 hm)
          ·
            refine yR_m 2 (fun _ _ _ _ => rfl) ?_
            refine yR_rl rfl ?_
            show yR zpg tX12_two (d + 1) (112, [(0, .int s), (1, .long a), (3, .long b)], [.long (-1000000)], mem) _
            exact yR_rl rfl (h27 q1 q2 q3 q4 q5 q33 q34 q35 q36 hm)
        ·
          refine yR_m 2 (fun _ _ _ _ => rfl) ?_
          refine yR_rl rfl ?_
          show yR zpg tX12_two (d + 1) (112, [(0, .int s), (1, .long a), (3, .long b)], [.long 1000000], mem) _
          exact yR_rl rfl (h28 q1 q2 q3 q4 q5 q33 q34 q35 hm)
      ·
        refine yR_m 3 (fun _ _ _ _ => rfl) ?_
        refine wR_lf_ge rfl (fun q37 => ?_) (fun q37 => ?_)
        ·
          refine yR_m 4 (fun _ _ _ _ => rfl) ?_
          refine wR_lf_ge rfl (fun q38 => ?_) (fun q38 => ?_)
          ·
            refine yR_m 1 (fun _ _ _ _ => rfl) ?_
            refine wR_ic_eq rfl (a := 0) (c := 0) rfl rfl (fun _ => ?_) (fun q => by exfalso; omega)
            refine yR_m 1 (fun _ _ _ _ => rfl) ?_
            refine yR_rl rfl ?_
            show yR zpg tX12_two (d + 1) (107, [(0, .int s), (1, .long a), (3, .long b)], [.long (a / b), .long b, .long a], mem) _
            refine yR_m 2 (fun _ _ _ _ => rfl) ?_
            refine wR_is rfl rfl rfl rfl rfl rfl ?_
            show yR zpg tX12_within d (0, [(0, .long (a - (b * (a / b))))], [], mem) _
            refine yR_m 3 (fun _ _ _ _ => rfl) ?_
            refine wR_lf_le rfl (fun q39 => ?_) (fun q39 => ?_)
            ·
              refine yR_m 3 (fun _ _ _ _ => rfl) ?_
              refine wR_lf_ge rfl (fun q40 => ?_) (fun q40 => ?_)
              ·
                refine yR_m 1 (fun _ _ _ _ => rfl) ?_
                refine yR_rl rfl ?_
                show yR zpg tX12_two (d + 1) (112, [(0, .int s), (1, .long a), (3, .long b)], [.long (a - (b * (a / b)))], mem) _
                exact yR_rl rfl (h29 q1 q2 q3 q4 q5 q33 q34 q37 q38 q39 q40 hm)
              ·
                refine yR_m 2 (fun _ _ _ _ => rfl) ?_
                refine yR_rl rfl ?_
                show yR zpg tX12_two (d + 1) (112, [(0, .int s), (1, .long a), (3, .long b)], [.long (-1000000)], mem) _
                exact yR_rl rfl (h30 q1 q2 q3 q4 q5 q33 q34 q37 q38 q39 q40 hm)
            ·
              refine yR_m 2 (fun _ _ _ _ => rfl) ?_
              refine yR_rl rfl ?_
              show yR zpg tX12_two (d + 1) (112, [(0, .int s), (1, .long a), (3, .long b)], [.long 1000000], mem) _
              exact yR_rl rfl (h31 q1 q2 q3 q4 q5 q33 q34 q37 q38 q39 hm)
          ·
            refine yR_m 2 (fun _ _ _ _ => rfl) ?_
            refine wR_ic_eq rfl (a := 0) (c := 1) rfl rfl (fun q => by exfalso; omega) (fun _ => ?_)
            refine yR_m 4 (fun _ _ _ _ => rfl) ?_
            refine yR_rl rfl ?_
            show yR zpg tX12_two (d + 1) (107, [(0, .int s), (1, .long a), (3, .long b)], [.long ((a / b) - 1), .long b, .long a], mem) _
            refine yR_m 2 (fun _ _ _ _ => rfl) ?_
            refine wR_is rfl rfl rfl rfl rfl rfl ?_
            show yR zpg tX12_within d (0, [(0, .long (a - (b * ((a / b) - 1))))], [], mem) _
            refine yR_m 3 (fun _ _ _ _ => rfl) ?_
            refine wR_lf_le rfl (fun q41 => ?_) (fun q41 => ?_)
            ·
              refine yR_m 3 (fun _ _ _ _ => rfl) ?_
              refine wR_lf_ge rfl (fun q42 => ?_) (fun q42 => ?_)
              ·
                refine yR_m 1 (fun _ _ _ _ => rfl) ?_
                refine yR_rl rfl ?_
                show yR zpg tX12_two (d + 1) (112, [(0, .int s), (1, .long a), (3, .long b)], [.long (a - (b * ((a / b) - 1)))], mem) _
                exact yR_rl rfl (h32 q1 q2 q3 q4 q5 q33 q34 q37 q38 q41 q42 hm)
              ·
                refine yR_m 2 (fun _ _ _ _ => rfl) ?_
                refine yR_rl rfl ?_
                show yR zpg tX12_two (d + 1) (112, [(0, .int s), (1, .long a), (3, .long b)], [.long (-1000000)], mem) _
                exact yR_rl rfl (h33 q1 q2 q3 q4 q5 q33 q34 q37 q38 q41 q42 hm)
            ·
              refine yR_m 2 (fun _ _ _ _ => rfl) ?_
              refine yR_rl rfl ?_
              show yR zpg tX12_two (d + 1) (112, [(0, .int s), (1, .long a), (3, .long b)], [.long 1000000], mem) _
              exact yR_rl rfl (h34 q1 q2 q3 q4 q5 q33 q34 q37 q38 q41 hm)
        ·
          refine yR_m 5 (fun _ _ _ _ => rfl) ?_
          refine wR_lf_ge rfl (fun q43 => ?_) (fun q43 => ?_)
          ·
            refine yR_m 1 (fun _ _ _ _ => rfl) ?_
            refine wR_ic_eq rfl (a := 1) (c := 0) rfl rfl (fun q => by exfalso; omega) (fun _ => ?_)
            refine yR_m 4 (fun _ _ _ _ => rfl) ?_
            refine yR_rl rfl ?_
            show yR zpg tX12_two (d + 1) (107, [(0, .int s), (1, .long a), (3, .long b)], [.long ((a / b) - 1), .long b, .long a], mem) _
            refine yR_m 2 (fun _ _ _ _ => rfl) ?_
            refine wR_is rfl rfl rfl rfl rfl rfl ?_
            show yR zpg tX12_within d (0, [(0, .long (a - (b * ((a / b) - 1))))], [], mem) _
            refine yR_m 3 (fun _ _ _ _ => rfl) ?_
            refine wR_lf_le rfl (fun q44 => ?_) (fun q44 => ?_)
            ·
              refine yR_m 3 (fun _ _ _ _ => rfl) ?_
              refine wR_lf_ge rfl (fun q45 => ?_) (fun q45 => ?_)
              ·
                refine yR_m 1 (fun _ _ _ _ => rfl) ?_
                refine yR_rl rfl ?_
                show yR zpg tX12_two (d + 1) (112, [(0, .int s), (1, .long a), (3, .long b)], [.long (a - (b * ((a / b) - 1)))], mem) _
                exact yR_rl rfl (h35 q1 q2 q3 q4 q5 q33 q34 q37 q43 q44 q45 hm)
              ·
                refine yR_m 2 (fun _ _ _ _ => rfl) ?_
                refine yR_rl rfl ?_
                show yR zpg tX12_two (d + 1) (112, [(0, .int s), (1, .long a), (3, .long b)], [.long (-1000000)], mem) _
                exact yR_rl rfl (h36 q1 q2 q3 q4 q5 q33 q34 q37 q43 q44 q45 hm)
            ·
              refine yR_m 2 (fun _ _ _ _ => rfl) ?_
              refine yR_rl rfl ?_
              show yR zpg tX12_two (d + 1) (112, [(0, .int s), (1, .long a), (3, .long b)], [.long 1000000], mem) _
              exact yR_rl rfl (h37 q1 q2 q3 q4 q5 q33 q34 q37 q43 q44 hm)
          ·
            refine yR_m 2 (fun _ _ _ _ => rfl) ?_
            refine wR_ic_eq rfl (a := 1) (c := 1) rfl rfl (fun _ => ?_) (fun q => by exfalso; omega)
            refine yR_m 1 (fun _ _ _ _ => rfl) ?_
            refine yR_rl rfl ?_
            show yR zpg tX12_two (d + 1) (107, [(0, .int s), (1, .long a), (3, .long b)], [.long (a / b), .long b, .long a], mem) _
            refine yR_m 2 (fun _ _ _ _ => rfl) ?_
            refine wR_is rfl rfl rfl rfl rfl rfl ?_
            show yR zpg tX12_within d (0, [(0, .long (a - (b * (a / b))))], [], mem) _
            refine yR_m 3 (fun _ _ _ _ => rfl) ?_
            refine wR_lf_le rfl (fun q46 => ?_) (fun q46 => ?_)
            ·
              refine yR_m 3 (fun _ _ _ _ => rfl) ?_
              refine wR_lf_ge rfl (fun q47 => ?_) (fun q47 => ?_)
              ·
                refine yR_m 1 (fun _ _ _ _ => rfl) ?_
                refine yR_rl rfl ?_
                show yR zpg tX12_two (d + 1) (112, [(0, .int s), (1, .long a), (3, .long b)], [.long (a - (b * (a / b)))], mem) _
                exact yR_rl rfl (h38 q1 q2 q3 q4 q5 q33 q34 q37 q43 q46 q47 hm)
              ·
                refine yR_m 2 (fun _ _ _ _ => rfl) ?_
                refine yR_rl rfl ?_
                show yR zpg tX12_two (d + 1) (112, [(0, .int s), (1, .long a), (3, .long b)], [.long (-1000000)], mem) _
                exact yR_rl rfl (h39 q1 q2 q3 q4 q5 q33 q34 q37 q43 q46 q47 hm)
            ·
              refine yR_m 2 (fun _ _ _ _ => rfl) ?_
              refine yR_rl rfl ?_
              show yR zpg tX12_two (d + 1) (112, [(0, .int s), (1, .long a), (3, .long b)], [.long 1000000], mem) _
              exact yR_rl rfl (h40 q1 q2 q3 q4 q5 q33 q34 q37 q43 q46 hm)
    ·
      refine yR_m 2 (fun _ _ _ _ => rfl) ?_
      exact yR_rl rfl (h41 q1 q2 q3 q4 q5 q33 hm)
  ·
    have q1 : ¬ (s).toInt = 31 := q1
    have q2 : ¬ (s).toInt = 32 := q2
    have q3 : ¬ (s).toInt = 33 := q3
    have q4 : ¬ (s).toInt = 34 := q4
    have q5 : ¬ (s).toInt = 35 := q5
    have q6 : (s).toInt = 36 := q6
    refine yR_m 3 (fun _ _ _ _ => rfl) ?_
    refine wR_lf_ge rfl (fun q48 => ?_) (fun q48 => ?_)
    ·
      refine yR_m 1 (fun _ _ _ _ => rfl) ?_
      exact yR_rl rfl (h42 q1 q2 q3 q4 q5 q6 q48 hm)
    ·
      refine yR_m 2 (fun _ _ _ _ => rfl) ?_
      exact yR_rl rfl (h43 q1 q2 q3 q4 q5 q6 q48 hm)
  ·
    have q1 : ¬ (s).toInt = 31 := q1
    have q2 : ¬ (s).toInt = 32 := q2
    have q3 : ¬ (s).toInt = 33 := q3
    have q4 : ¬ (s).toInt = 34 := q4
    have q5 : ¬ (s).toInt = 35 := q5
    have q6 : ¬ (s).toInt = 36 := q6
    have q7 : (s).toInt = 37 := q7
    refine yR_m 3 (fun _ _ _ _ => rfl) ?_
    refine wR_lf_le rfl (fun q49 => ?_) (fun q49 => ?_)
    ·
      refine yR_m 1 (fun _ _ _ _ => rfl) ?_
      exact yR_rl rfl (h44 q1 q2 q3 q4 q5 q6 q7 q49 hm)
    ·
      refine yR_m 2 (fun _ _ _ _ => rfl) ?_
      exact yR_rl rfl (h45 q1 q2 q3 q4 q5 q6 q7 q49 hm)
  ·
    have q1 : ¬ (s).toInt = 31 := q1
    have q2 : ¬ (s).toInt = 32 := q2
    have q3 : ¬ (s).toInt = 33 := q3
    have q4 : ¬ (s).toInt = 34 := q4
    have q5 : ¬ (s).toInt = 35 := q5
    have q6 : ¬ (s).toInt = 36 := q6
    have q7 : ¬ (s).toInt = 37 := q7
    have q8 : (s).toInt = 38 := q8
    refine yR_m 3 (fun _ _ _ _ => rfl) ?_
    refine wR_lf_ge rfl (fun q50 => ?_) (fun q50 => ?_)
    ·
      refine yR_m 1 (fun _ _ _ _ => rfl) ?_
      exact yR_rl rfl (h46 q1 q2 q3 q4 q5 q6 q7 q8 q50 hm)
    ·
      refine yR_m 2 (fun _ _ _ _ => rfl) ?_
      exact yR_rl rfl (h47 q1 q2 q3 q4 q5 q6 q7 q8 q50 hm)
  ·
    have q1 : ¬ (s).toInt = 31 := q1
    have q2 : ¬ (s).toInt = 32 := q2
    have q3 : ¬ (s).toInt = 33 := q3
    have q4 : ¬ (s).toInt = 34 := q4
    have q5 : ¬ (s).toInt = 35 := q5
    have q6 : ¬ (s).toInt = 36 := q6
    have q7 : ¬ (s).toInt = 37 := q7
    have q8 : ¬ (s).toInt = 38 := q8
    have q9 : (s).toInt = 39 := q9
    refine yR_m 3 (fun _ _ _ _ => rfl) ?_
    refine wR_lf_le rfl (fun q51 => ?_) (fun q51 => ?_)
    ·
      refine yR_m 1 (fun _ _ _ _ => rfl) ?_
      exact yR_rl rfl (h48 q1 q2 q3 q4 q5 q6 q7 q8 q9 q51 hm)
    ·
      refine yR_m 2 (fun _ _ _ _ => rfl) ?_
      exact yR_rl rfl (h49 q1 q2 q3 q4 q5 q6 q7 q8 q9 q51 hm)
  ·
    have q1 : ¬ (s).toInt = 31 := q1
    have q2 : ¬ (s).toInt = 32 := q2
    have q3 : ¬ (s).toInt = 33 := q3
    have q4 : ¬ (s).toInt = 34 := q4
    have q5 : ¬ (s).toInt = 35 := q5
    have q6 : ¬ (s).toInt = 36 := q6
    have q7 : ¬ (s).toInt = 37 := q7
    have q8 : ¬ (s).toInt = 38 := q8
    have q9 : ¬ (s).toInt = 39 := q9
    have q10 : (s).toInt = 40 := q10
    refine yR_m 3 (fun _ _ _ _ => rfl) ?_
    refine wR_lf_ne rfl (fun q52 => ?_) (fun q52 => ?_)
    ·
      refine yR_m 1 (fun _ _ _ _ => rfl) ?_
      exact yR_rl rfl (h50 q1 q2 q3 q4 q5 q6 q7 q8 q9 q10 q52 hm)
    ·
      refine yR_m 2 (fun _ _ _ _ => rfl) ?_
      exact yR_rl rfl (h51 q1 q2 q3 q4 q5 q6 q7 q8 q9 q10 q52 hm)
  ·
    have q1 : ¬ (s).toInt = 31 := q1
    have q2 : ¬ (s).toInt = 32 := q2
    have q3 : ¬ (s).toInt = 33 := q3
    have q4 : ¬ (s).toInt = 34 := q4
    have q5 : ¬ (s).toInt = 35 := q5
    have q6 : ¬ (s).toInt = 36 := q6
    have q7 : ¬ (s).toInt = 37 := q7
    have q8 : ¬ (s).toInt = 38 := q8
    have q9 : ¬ (s).toInt = 39 := q9
    have q10 : ¬ (s).toInt = 40 := q10
    have q11 : (s).toInt = 41 := q11
    refine yR_m 3 (fun _ _ _ _ => rfl) ?_
    exact yR_rl rfl (h52 q1 q2 q3 q4 q5 q6 q7 q8 q9 q10 q11 hm)
  ·
    have q1 : ¬ (s).toInt = 31 := q1
    have q2 : ¬ (s).toInt = 32 := q2
    have q3 : ¬ (s).toInt = 33 := q3
    have q4 : ¬ (s).toInt = 34 := q4
    have q5 : ¬ (s).toInt = 35 := q5
    have q6 : ¬ (s).toInt = 36 := q6
    have q7 : ¬ (s).toInt = 37 := q7
    have q8 : ¬ (s).toInt = 38 := q8
    have q9 : ¬ (s).toInt = 39 := q9
    have q10 : ¬ (s).toInt = 40 := q10
    have q11 : ¬ (s).toInt = 41 := q11
    refine yR_m 3 (fun _ _ _ _ => rfl) ?_
    exact yR_rl rfl (h53 q1 q2 q3 q4 q5 q6 q7 q8 q9 q10 q11 hm)

def ssW (s : Int) : Int := cdI s 0 - 10000
def twK (s a b : Int) : Prop := (31 ≤ s ∧ s ≤ 42) ∧ (-1000000 ≤ a ∧ a ≤ 1000000) ∧ (-1000000 ≤ b ∧ b ≤ 1000000) ∧ (s = 41 ∨ s = 42 → (a = 0 ∨ a = 1) ∧ (b = 0 ∨ b = 1))
theorem q_1 : (1000000 : Int64).toInt = 1000000 ∧ ((-1000000) : Int64).toInt = -1000000 ∧ (0 : Int64).toInt = 0 ∧ (1 : Int64).toInt = 1 := ⟨rfl, rfl, rfl, rfl⟩
theorem wi_0 {z : Int64} {c : Int} (e : z.toInt = c) (h1 : z.toInt ≤ (1000000 : Int64).toInt) (h0 : ((-1000000) : Int64).toInt ≤ z.toInt) : z.toInt = bndI c := by
  have k := q_1
  rw [b_0 (by omega) (by omega)]
  exact e
theorem wi_l {z : Int64} {c : Int} (e : z.toInt = c) (h : z.toInt < ((-1000000) : Int64).toInt) : ((-1000000) : Int64).toInt = bndI c := by
  have k := q_1
  rw [b_l (by omega)]
  exact k.2.1
theorem wi_h {z : Int64} {c : Int} (e : z.toInt = c) (h : (1000000 : Int64).toInt < z.toInt) : (1000000 : Int64).toInt = bndI c := by
  have k := q_1
  rw [b_h (by omega)]
  exact k.1
section QQ
theorem q_ad {a b : Int64} (ha : -1000000 ≤ a.toInt ∧ a.toInt ≤ 1000000) (hb : -1000000 ≤ b.toInt ∧ b.toInt ≤ 1000000) : (a + b).toInt = a.toInt + b.toInt := by
  rw [Int64.toInt_add]
  exact Int.bmod_eq_of_le (by omega) (by omega)
theorem q_sb {a b : Int64} (ha : -1000000 ≤ a.toInt ∧ a.toInt ≤ 1000000) (hb : -1000000 ≤ b.toInt ∧ b.toInt ≤ 1000000) : (a - b).toInt = a.toInt - b.toInt := by
  rw [Int64.toInt_sub]
  exact Int.bmod_eq_of_le (by omega) (by omega)
theorem q_ml {a b : Int64} (ha : -1000000 ≤ a.toInt ∧ a.toInt ≤ 1000000) (hb : -1000000 ≤ b.toInt ∧ b.toInt ≤ 1000000) : (a * b).toInt = a.toInt * b.toInt := by
  have k := (show (a.toInt * b.toInt).natAbs ≤ 1000000 * 1000000 from by
    rw [Int.natAbs_mul]
    exact Nat.mul_le_mul (by omega) (by omega))
  rw [Int64.toInt_mul]
  exact Int.bmod_eq_of_le (by omega) (by omega)
theorem q_dv {a b : Int64} (ha : -1000000 ≤ a.toInt ∧ a.toInt ≤ 1000000) : (a / b).toInt = a.toInt.tdiv b.toInt := by
  have k := tdv_b (b := b.toInt) ha.1 ha.2
  rw [Int64.toInt_div]
  exact Int.bmod_eq_of_le (by omega) (by omega)
theorem q_pm {a b : Int64} (ha : -1000000 ≤ a.toInt ∧ a.toInt ≤ 1000000) (hb : -1000000 ≤ b.toInt ∧ b.toInt ≤ 1000000) : (b * (a / b)).toInt = a.toInt - a.toInt.tmod b.toInt ∧ (a / b * b).toInt = a.toInt - a.toInt.tmod b.toInt := by
  have k := Int.tmod_add_tdiv_mul a.toInt b.toInt
  have n1 := Int.natAbs_tmod a.toInt b.toInt
  have n2 := Nat.mod_le a.toInt.natAbs b.toInt.natAbs
  have d := q_dv (b := b) ha
  constructor
  · rw [Int64.toInt_mul, d, Int.mul_comm]
    have e : a.toInt.tdiv b.toInt * b.toInt = a.toInt - a.toInt.tmod b.toInt := by omega
    rw [e]
    exact Int.bmod_eq_of_le (by omega) (by omega)
  · rw [Int64.toInt_mul, d]
    have e : a.toInt.tdiv b.toInt * b.toInt = a.toInt - a.toInt.tmod b.toInt := by omega
    rw [e]
    exact Int.bmod_eq_of_le (by omega) (by omega)
theorem q_rm {a b : Int64} (ha : -1000000 ≤ a.toInt ∧ a.toInt ≤ 1000000) (hb : -1000000 ≤ b.toInt ∧ b.toInt ≤ 1000000) : (a - a / b * b).toInt = a.toInt.tmod b.toInt ∧ (a - b * (a / b)).toInt = a.toInt.tmod b.toInt := by
  have n1 := Int.natAbs_tmod a.toInt b.toInt
  have n2 := Nat.mod_le a.toInt.natAbs b.toInt.natAbs
  have p := q_pm ha hb
  constructor
  · rw [Int64.toInt_sub, p.2]
    have e : a.toInt - (a.toInt - a.toInt.tmod b.toInt) = a.toInt.tmod b.toInt := by omega
    rw [e]
    exact Int.bmod_eq_of_le (by omega) (by omega)
  · rw [Int64.toInt_sub, p.1]
    have e : a.toInt - (a.toInt - a.toInt.tmod b.toInt) = a.toInt.tmod b.toInt := by omega
    rw [e]
    exact Int.bmod_eq_of_le (by omega) (by omega)
theorem q_d1 {a b : Int64} (ha : -1000000 ≤ a.toInt ∧ a.toInt ≤ 1000000) : ((a / b) - 1).toInt = a.toInt.tdiv b.toInt - 1 := by
  have k := tdv_b (b := b.toInt) ha.1 ha.2
  rw [Int64.toInt_sub, q_dv ha, q_1.2.2.2]
  exact Int.bmod_eq_of_le (by omega) (by omega)
theorem q_r1 {a b : Int64} (ha : -1000000 ≤ a.toInt ∧ a.toInt ≤ 1000000) (hb : -1000000 ≤ b.toInt ∧ b.toInt ≤ 1000000) : (a - (b * ((a / b) - 1))).toInt = a.toInt.tmod b.toInt + b.toInt := by
  have k := Int.tmod_add_tdiv_mul a.toInt b.toInt
  have n1 := Int.natAbs_tmod a.toInt b.toInt
  have n2 := Nat.mod_le a.toInt.natAbs b.toInt.natAbs
  have e : (b * ((a / b) - 1)).toInt = a.toInt - a.toInt.tmod b.toInt - b.toInt := by
    rw [Int64.toInt_mul, q_d1 ha, Int.mul_comm, Int.sub_mul]
    have e : a.toInt.tdiv b.toInt * b.toInt - 1 * b.toInt = a.toInt - a.toInt.tmod b.toInt - b.toInt := by omega
    rw [e]
    exact Int.bmod_eq_of_le (by omega) (by omega)
  rw [Int64.toInt_sub, e]
  have e2 : a.toInt - (a.toInt - a.toInt.tmod b.toInt - b.toInt) = a.toInt.tmod b.toInt + b.toInt := by omega
  rw [e2]
  exact Int.bmod_eq_of_le (by omega) (by omega)
theorem q_z {a b : Int64} (ha : -1000000 ≤ a.toInt ∧ a.toInt ≤ 1000000) (hb : -1000000 ≤ b.toInt ∧ b.toInt ≤ 1000000) : (a - a / b * b) = 0 ↔ a.toInt.tmod b.toInt = 0 := by
  rw [← (q_rm ha hb).1]
  constructor
  · intro h
    rw [h]
    rfl
  · intro h
    exact Int64.toInt_inj.1 h
theorem dv_e0 {a b : Int64} (ha : -1000000 ≤ a.toInt ∧ a.toInt ≤ 1000000) (hb : -1000000 ≤ b.toInt ∧ b.toInt ≤ 1000000) (h : (a - a / b * b) = 0 ∨ (a.toInt < 0 ↔ b.toInt < 0)) : (a / b).toInt = divI a.toInt b.toInt := by
  unfold divI
  rw [if_neg (fun z => by
    rcases h with h | h
    · exact z.1 ((q_z ha hb).1 h)
    · exact z.2 h)]
  exact q_dv ha
theorem dv_e1 {a b : Int64} (ha : -1000000 ≤ a.toInt ∧ a.toInt ≤ 1000000) (hb : -1000000 ≤ b.toInt ∧ b.toInt ≤ 1000000) (h0 : ¬ (a - a / b * b) = 0) (h : ¬ (a.toInt < 0 ↔ b.toInt < 0)) : ((a / b) - 1).toInt = divI a.toInt b.toInt := by
  unfold divI
  rw [if_pos ⟨fun z => h0 ((q_z ha hb).2 z), h⟩]
  exact q_d1 ha
theorem md_e0 {a b : Int64} (ha : -1000000 ≤ a.toInt ∧ a.toInt ≤ 1000000) (hb : -1000000 ≤ b.toInt ∧ b.toInt ≤ 1000000) (h : (a - a / b * b) = 0 ∨ (a.toInt < 0 ↔ b.toInt < 0)) : (a - (b * (a / b))).toInt = modI a.toInt b.toInt := by
  unfold modI
  rw [if_neg (fun z => by
    rcases h with h | h
    · exact z.1 ((q_z ha hb).1 h)
    · exact z.2 h)]
  exact (q_rm ha hb).2
theorem md_e1 {a b : Int64} (ha : -1000000 ≤ a.toInt ∧ a.toInt ≤ 1000000) (hb : -1000000 ≤ b.toInt ∧ b.toInt ≤ 1000000) (h0 : ¬ (a - a / b * b) = 0) (h : ¬ (a.toInt < 0 ↔ b.toInt < 0)) : (a - (b * ((a / b) - 1))).toInt = modI a.toInt b.toInt := by
  unfold modI
  rw [if_pos ⟨fun z => h0 ((q_z ha hb).2 z), h⟩]
  exact q_r1 ha hb
end QQ
theorem q_nz {b : Int64} (h : ¬ b = 0) : ¬ b.toInt = 0 := fun q => h (Int64.toInt_inj.1 q)
theorem q_eq {a b : Int64} (h : ¬ a = b) : ¬ a.toInt = b.toInt := fun q => h (Int64.toInt_inj.1 q)
theorem t_dv2 {w a b : Int} (h : w = 47) (ha : -1000000 ≤ a ∧ a ≤ 1000000) (hb : ¬ b = 0) : bndI (divI a b) = twoI w a b := by
  have k := divI_b ha.1 ha.2 hb
  rw [b_0 k.1 k.2, t_dv h hb]
theorem t_md2 {w a b : Int} (h : w = 37) (hb : -1000000 ≤ b ∧ b ≤ 1000000) (hn : ¬ b = 0) : bndI (modI a b) = twoI w a b := by
  have k := modI_b (a := a) hb.1 hb.2 hn
  rw [b_0 k.1 k.2, t_md h hn]
theorem q_01 {a : Int64} (h : a.toInt = 0 ∨ a.toInt = 1) : a = 0 ∨ a = 1 := by
  rcases h with h | h
  · exact Or.inl (Int64.toInt_inj.1 h)
  · exact Or.inr (Int64.toInt_inj.1 h)
theorem t_and {a b : Int64} (ha : a.toInt = 0 ∨ a.toInt = 1) (hb : b.toInt = 0 ∨ b.toInt = 1) : (a &&& b).toInt = min a.toInt b.toInt ∧ (a ||| b).toInt = max a.toInt b.toInt := by
  rcases q_01 ha with rfl | rfl <;> rcases q_01 hb with rfl | rfl <;> exact ⟨by decide, by decide⟩
theorem h_tw {s : Int32} {a b : Int64} (hm : aTm aT0 mem) (hk : twK s.toInt a.toInt b.toInt) (hd : 2 ≤ d) : yC zpg d 217 [.int s, .long a, .long b] mem (fun r m => ∃ v : Int64, r = some (.long v) ∧ mem = m ∧ v.toInt = twoI (ssW s.toInt) a.toInt b.toInt) := by
  obtain ⟨d, rfl⟩ : ∃ q, d = q + 2 := ⟨d - 2, by omega⟩
  obtain ⟨hs, ha, hb, hl⟩ := hk
  refine yC_of (t := tX12_two) rfl rfl ?_
  refine w_tw hm 
        (fun q1 q12 q13 hm2 => ⟨_, rfl, rfl, (wi_0 (q_ad ha hb) q12 q13).trans (t_bn (Or.inl ⟨(by rw [q1]; rfl), rfl⟩)).symm⟩)
        (fun q1 q12 q13 hm2 => ⟨_, rfl, rfl, (wi_l (q_ad ha hb) q13).trans (t_bn (Or.inl ⟨(by rw [q1]; rfl), rfl⟩)).symm⟩)
        (fun q1 q12 hm2 => ⟨_, rfl, rfl, (wi_h (q_ad ha hb) q12).trans (t_bn (Or.inl ⟨(by rw [q1]; rfl), rfl⟩)).symm⟩)
        (fun q1 q2 q14 q15 hm2 => ⟨_, rfl, rfl, (wi_0 (q_sb ha hb) q14 q15).trans (t_bn (Or.inr (Or.inl ⟨(by rw [q2]; rfl), rfl⟩))).symm⟩)
        (fun q1 q2 q14 q15 hm2 => ⟨_, rfl, rfl, (wi_l (q_sb ha hb) q15).trans (t_bn (Or.inr (Or.inl ⟨(by rw [q2]; rfl), rfl⟩))).symm⟩)
        (fun q1 q2 q14 hm2 => ⟨_, rfl, rfl, (wi_h (q_sb ha hb) q14).trans (t_bn (Or.inr (Or.inl ⟨(by rw [q2]; rfl), rfl⟩))).symm⟩)
        (fun q1 q2 q3 q16 q17 hm2 => ⟨_, rfl, rfl, (wi_0 (q_ml ha hb) q16 q17).trans (t_bn (Or.inr (Or.inr ⟨(by rw [q3]; rfl), rfl⟩))).symm⟩)
        (fun q1 q2 q3 q16 q17 hm2 => ⟨_, rfl, rfl, (wi_l (q_ml ha hb) q17).trans (t_bn (Or.inr (Or.inr ⟨(by rw [q3]; rfl), rfl⟩))).symm⟩)
        (fun q1 q2 q3 q16 hm2 => ⟨_, rfl, rfl, (wi_h (q_ml ha hb) q16).trans (t_bn (Or.inr (Or.inr ⟨(by rw [q3]; rfl), rfl⟩))).symm⟩)
        (fun q1 q2 q3 q4 q18 q19 q20 q21 hm2 => ⟨_, rfl, rfl, (wi_0 (dv_e0 ha hb (Or.inl q19)) q20 q21).trans (t_dv2 (by rw [q4]; rfl) ha (q_nz q18))⟩)
        (fun q1 q2 q3 q4 q18 q19 q20 q21 hm2 => ⟨_, rfl, rfl, (wi_l (dv_e0 ha hb (Or.inl q19)) q21).trans (t_dv2 (by rw [q4]; rfl) ha (q_nz q18))⟩)
        (fun q1 q2 q3 q4 q18 q19 q20 hm2 => ⟨_, rfl, rfl, (wi_h (dv_e0 ha hb (Or.inl q19)) q20).trans (t_dv2 (by rw [q4]; rfl) ha (q_nz q18))⟩)
        (fun q1 q2 q3 q4 q18 q19 q22 q23 q24 q25 hm2 => ⟨_, rfl, rfl, (wi_0 (dv_e0 ha hb (Or.inr (by have k := q_1.2.2.1; omega))) q24 q25).trans (t_dv2 (by rw [q4]; rfl) ha (q_nz q18))⟩)
        (fun q1 q2 q3 q4 q18 q19 q22 q23 q24 q25 hm2 => ⟨_, rfl, rfl, (wi_l (dv_e0 ha hb (Or.inr (by have k := q_1.2.2.1; omega))) q25).trans (t_dv2 (by rw [q4]; rfl) ha (q_nz q18))⟩)
        (fun q1 q2 q3 q4 q18 q19 q22 q23 q24 hm2 => ⟨_, rfl, rfl, (wi_h (dv_e0 ha hb (Or.inr (by have k := q_1.2.2.1; omega))) q24).trans (t_dv2 (by rw [q4]; rfl) ha (q_nz q18))⟩)
        (fun q1 q2 q3 q4 q18 q19 q22 q23 q26 q27 hm2 => ⟨_, rfl, rfl, (wi_0 (dv_e1 ha hb q19 (by have k := q_1.2.2.1; omega)) q26 q27).trans (t_dv2 (by rw [q4]; rfl) ha (q_nz q18))⟩)
        (fun q1 q2 q3 q4 q18 q19 q22 q23 q26 q27 hm2 => ⟨_, rfl, rfl, (wi_l (dv_e1 ha hb q19 (by have k := q_1.2.2.1; omega)) q27).trans (t_dv2 (by rw [q4]; rfl) ha (q_nz q18))⟩)
        (fun q1 q2 q3 q4 q18 q19 q22 q23 q26 hm2 => ⟨_, rfl, rfl, (wi_h (dv_e1 ha hb q19 (by have k := q_1.2.2.1; omega)) q26).trans (t_dv2 (by rw [q4]; rfl) ha (q_nz q18))⟩)
        (fun q1 q2 q3 q4 q18 q19 q22 q28 q29 q30 hm2 => ⟨_, rfl, rfl, (wi_0 (dv_e1 ha hb q19 (by have k := q_1.2.2.1; omega)) q29 q30).trans (t_dv2 (by rw [q4]; rfl) ha (q_nz q18))⟩)
        (fun q1 q2 q3 q4 q18 q19 q22 q28 q29 q30 hm2 => ⟨_, rfl, rfl, (wi_l (dv_e1 ha hb q19 (by have k := q_1.2.2.1; omega)) q30).trans (t_dv2 (by rw [q4]; rfl) ha (q_nz q18))⟩)
        (fun q1 q2 q3 q4 q18 q19 q22 q28 q29 hm2 => ⟨_, rfl, rfl, (wi_h (dv_e1 ha hb q19 (by have k := q_1.2.2.1; omega)) q29).trans (t_dv2 (by rw [q4]; rfl) ha (q_nz q18))⟩)
        (fun q1 q2 q3 q4 q18 q19 q22 q28 q31 q32 hm2 => ⟨_, rfl, rfl, (wi_0 (dv_e0 ha hb (Or.inr (by have k := q_1.2.2.1; omega))) q31 q32).trans (t_dv2 (by rw [q4]; rfl) ha (q_nz q18))⟩)
        (fun q1 q2 q3 q4 q18 q19 q22 q28 q31 q32 hm2 => ⟨_, rfl, rfl, (wi_l (dv_e0 ha hb (Or.inr (by have k := q_1.2.2.1; omega))) q32).trans (t_dv2 (by rw [q4]; rfl) ha (q_nz q18))⟩)
        (fun q1 q2 q3 q4 q18 q19 q22 q28 q31 hm2 => ⟨_, rfl, rfl, (wi_h (dv_e0 ha hb (Or.inr (by have k := q_1.2.2.1; omega))) q31).trans (t_dv2 (by rw [q4]; rfl) ha (q_nz q18))⟩)
        (fun q1 q2 q3 q4 q18 hm2 => ⟨_, rfl, rfl, Eq.trans q_1.2.2.1 (t_z (Or.inl (by rw [q4]; rfl)) (by rw [q18]; rfl)).symm⟩)
        (fun q1 q2 q3 q4 q5 q33 q34 q35 q36 hm2 => ⟨_, rfl, rfl, (wi_0 (md_e0 ha hb (Or.inl q34)) q35 q36).trans (t_md2 (by rw [q5]; rfl) hb (q_nz q33))⟩)
        (fun q1 q2 q3 q4 q5 q33 q34 q35 q36 hm2 => ⟨_, rfl, rfl, (wi_l (md_e0 ha hb (Or.inl q34)) q36).trans (t_md2 (by rw [q5]; rfl) hb (q_nz q33))⟩)
        (fun q1 q2 q3 q4 q5 q33 q34 q35 hm2 => ⟨_, rfl, rfl, (wi_h (md_e0 ha hb (Or.inl q34)) q35).trans (t_md2 (by rw [q5]; rfl) hb (q_nz q33))⟩)
        (fun q1 q2 q3 q4 q5 q33 q34 q37 q38 q39 q40 hm2 => ⟨_, rfl, rfl, (wi_0 (md_e0 ha hb (Or.inr (by have k := q_1.2.2.1; omega))) q39 q40).trans (t_md2 (by rw [q5]; rfl) hb (q_nz q33))⟩)
        (fun q1 q2 q3 q4 q5 q33 q34 q37 q38 q39 q40 hm2 => ⟨_, rfl, rfl, (wi_l (md_e0 ha hb (Or.inr (by have k := q_1.2.2.1; omega))) q40).trans (t_md2 (by rw [q5]; rfl) hb (q_nz q33))⟩)
        (fun q1 q2 q3 q4 q5 q33 q34 q37 q38 q39 hm2 => ⟨_, rfl, rfl, (wi_h (md_e0 ha hb (Or.inr (by have k := q_1.2.2.1; omega))) q39).trans (t_md2 (by rw [q5]; rfl) hb (q_nz q33))⟩)
        (fun q1 q2 q3 q4 q5 q33 q34 q37 q38 q41 q42 hm2 => ⟨_, rfl, rfl, (wi_0 (md_e1 ha hb q34 (by have k := q_1.2.2.1; omega)) q41 q42).trans (t_md2 (by rw [q5]; rfl) hb (q_nz q33))⟩)
        (fun q1 q2 q3 q4 q5 q33 q34 q37 q38 q41 q42 hm2 => ⟨_, rfl, rfl, (wi_l (md_e1 ha hb q34 (by have k := q_1.2.2.1; omega)) q42).trans (t_md2 (by rw [q5]; rfl) hb (q_nz q33))⟩)
        (fun q1 q2 q3 q4 q5 q33 q34 q37 q38 q41 hm2 => ⟨_, rfl, rfl, (wi_h (md_e1 ha hb q34 (by have k := q_1.2.2.1; omega)) q41).trans (t_md2 (by rw [q5]; rfl) hb (q_nz q33))⟩)
        (fun q1 q2 q3 q4 q5 q33 q34 q37 q43 q44 q45 hm2 => ⟨_, rfl, rfl, (wi_0 (md_e1 ha hb q34 (by have k := q_1.2.2.1; omega)) q44 q45).trans (t_md2 (by rw [q5]; rfl) hb (q_nz q33))⟩)
        (fun q1 q2 q3 q4 q5 q33 q34 q37 q43 q44 q45 hm2 => ⟨_, rfl, rfl, (wi_l (md_e1 ha hb q34 (by have k := q_1.2.2.1; omega)) q45).trans (t_md2 (by rw [q5]; rfl) hb (q_nz q33))⟩)
        (fun q1 q2 q3 q4 q5 q33 q34 q37 q43 q44 hm2 => ⟨_, rfl, rfl, (wi_h (md_e1 ha hb q34 (by have k := q_1.2.2.1; omega)) q44).trans (t_md2 (by rw [q5]; rfl) hb (q_nz q33))⟩)
        (fun q1 q2 q3 q4 q5 q33 q34 q37 q43 q46 q47 hm2 => ⟨_, rfl, rfl, (wi_0 (md_e0 ha hb (Or.inr (by have k := q_1.2.2.1; omega))) q46 q47).trans (t_md2 (by rw [q5]; rfl) hb (q_nz q33))⟩)
        (fun q1 q2 q3 q4 q5 q33 q34 q37 q43 q46 q47 hm2 => ⟨_, rfl, rfl, (wi_l (md_e0 ha hb (Or.inr (by have k := q_1.2.2.1; omega))) q47).trans (t_md2 (by rw [q5]; rfl) hb (q_nz q33))⟩)
        (fun q1 q2 q3 q4 q5 q33 q34 q37 q43 q46 hm2 => ⟨_, rfl, rfl, (wi_h (md_e0 ha hb (Or.inr (by have k := q_1.2.2.1; omega))) q46).trans (t_md2 (by rw [q5]; rfl) hb (q_nz q33))⟩)
        (fun q1 q2 q3 q4 q5 q33 hm2 => ⟨_, rfl, rfl, Eq.trans q_1.2.2.1 (t_z (Or.inr (by rw [q5]; rfl)) (by rw [q33]; rfl)).symm⟩)
        (fun q1 q2 q3 q4 q5 q6 q48 hm2 => ⟨_, rfl, rfl, by rw [show ssW s.toInt = 24 from by rw [q6]; rfl]; show _ = min a.toInt b.toInt; omega⟩)
        (fun q1 q2 q3 q4 q5 q6 q48 hm2 => ⟨_, rfl, rfl, by rw [show ssW s.toInt = 24 from by rw [q6]; rfl]; show _ = min a.toInt b.toInt; omega⟩)
        (fun q1 q2 q3 q4 q5 q6 q7 q49 hm2 => ⟨_, rfl, rfl, by rw [show ssW s.toInt = 25 from by rw [q7]; rfl]; show _ = max a.toInt b.toInt; omega⟩)
        (fun q1 q2 q3 q4 q5 q6 q7 q49 hm2 => ⟨_, rfl, rfl, by rw [show ssW s.toInt = 25 from by rw [q7]; rfl]; show _ = max a.toInt b.toInt; omega⟩)
        (fun q1 q2 q3 q4 q5 q6 q7 q8 q50 hm2 => ⟨_, rfl, rfl, by rw [show ssW s.toInt = 60 from by rw [q8]; rfl]; show _ = if a.toInt < b.toInt then 1 else 0; rw [if_neg (by omega)]; exact q_1.2.2.1⟩)
        (fun q1 q2 q3 q4 q5 q6 q7 q8 q50 hm2 => ⟨_, rfl, rfl, by rw [show ssW s.toInt = 60 from by rw [q8]; rfl]; show _ = if a.toInt < b.toInt then 1 else 0; rw [if_pos (by omega)]; exact q_1.2.2.2⟩)
        (fun q1 q2 q3 q4 q5 q6 q7 q8 q9 q51 hm2 => ⟨_, rfl, rfl, by rw [show ssW s.toInt = 62 from by rw [q9]; rfl]; show _ = if b.toInt < a.toInt then 1 else 0; rw [if_neg (by omega)]; exact q_1.2.2.1⟩)
        (fun q1 q2 q3 q4 q5 q6 q7 q8 q9 q51 hm2 => ⟨_, rfl, rfl, by rw [show ssW s.toInt = 62 from by rw [q9]; rfl]; show _ = if b.toInt < a.toInt then 1 else 0; rw [if_pos (by omega)]; exact q_1.2.2.2⟩)
        (fun q1 q2 q3 q4 q5 q6 q7 q8 q9 q10 q52 hm2 => ⟨_, rfl, rfl, by rw [show ssW s.toInt = 61 from by rw [q10]; rfl]; show _ = if a.toInt = b.toInt then 1 else 0; rw [if_neg (q_eq q52)]; exact q_1.2.2.1⟩)
        (fun q1 q2 q3 q4 q5 q6 q7 q8 q9 q10 q52 hm2 => ⟨_, rfl, rfl, by rw [show ssW s.toInt = 61 from by rw [q10]; rfl]; show _ = if a.toInt = b.toInt then 1 else 0; rw [if_pos (congrArg Int64.toInt q52)]; exact q_1.2.2.2⟩)
        (fun q1 q2 q3 q4 q5 q6 q7 q8 q9 q10 q11 hm2 => ⟨_, rfl, rfl, by rw [show ssW s.toInt = 21 from by rw [q11]; rfl]; exact (t_and (hl (Or.inl q11)).1 (hl (Or.inl q11)).2).1⟩)
        (fun q1 q2 q3 q4 q5 q6 q7 q8 q9 q10 q11 hm2 => ⟨_, rfl, rfl, by
          have q : s.toInt = 42 := by omega
          rw [show ssW s.toInt = 20 from by rw [q]; rfl]
          exact (t_and (hl (Or.inr q)).1 (hl (Or.inr q)).2).2⟩)
theorem h_tw2 {s : Int32} {a b : Int64} {z : Int} (hm : aTm aT0 mem) (hz : s.toInt = z) (hk : twK z a.toInt b.toInt) (hd : 2 ≤ d) : yC zpg d 217 [.int s, .long a, .long b] mem (fun r m => ∃ v : Int64, r = some (.long v) ∧ mem = m ∧ v.toInt = twoI (ssW z) a.toInt b.toInt) := by
  subst hz
  exact h_tw hm hk hd
set_option maxRecDepth 100000 in
theorem w_rv_0 {E : zM → Prop} (hE : aEs (aΘ0 E)) {d : Nat} {m0 mem : zM} {P : Option Value → zM → Prop} {w : Int32} {lo : List (Nat × Value)} (hm : wI (aΘ0 E) m0 mem) (l_0 : zlg lo 0 = some (.ref 221)) (l_1 : zlg lo 1 = some (.int w)) (hw : 0 ≤ w.toInt ∧ w.toInt ≤ 2) (h6 : 0 ≤ gn (ga mem 236) (3 * (gi mem 221 13).toInt + w.toInt) ∧ gn (ga mem 236) (3 * (gi mem 221 13).toInt + w.toInt) ≤ 1600) (h1 : ∀ (x4 : Int32), x4.toInt = (1600 * (gi mem 221 13).toInt) → ∀ (x6 : Int32), x6.toInt = (3 * (gi mem 221 13).toInt) → ∀ (x8 : Int32), x8.toInt = ((3 * (gi mem 221 13).toInt) + (w).toInt) → ∀ (y10 : Int32), y10.toInt = (gn (ga mem 236) ((3 * (gi mem 221 13).toInt) + (w).toInt)) → ∀ (x12 : Int32), x12.toInt = ((1600 * (gi mem 221 13).toInt) + (gn (ga mem 236) ((3 * (gi mem 221 13).toInt) + (w).toInt))) → ∀ lo, zlg lo 0 = some (.ref 221) → zlg lo 1 = some (.int w) → zlg lo 2 = some (.int 0) → zlg lo 3 = some (.int x12) → wI (aΘ0 E) m0 mem → yR zpg tX12_reckons (d + 3) (25, lo, [], mem) P) : yR zpg tX12_reckons (d + 3) (0, lo, [], mem) P := by
  have rb := mO_r13 hm.1.1
  refine yR_m 1 (fun _ _ _ _ => rfl) ?_
  refine wR_si rfl rfl (fun lo1 e2 f3 => ?_)
  have lo1_0 := f3 0 _ (by decide) (Or.inl rfl) l_0
  have lo1_1 := f3 1 _ (by decide) (Or.inl rfl) l_1
  refine yR_m 1 (fun _ _ _ _ => rfl) ?_
  refine wR_la rfl lo1_0 ?_
  refine wR_gi rfl mO_e mO_13 hm.1.1 rfl ?_
  refine wN_mul (a := 1600) (b := (gi mem 221 13).toInt) rfl rfl rfl (by omega) (fun x4 e5 => ?_)
  refine wR_la rfl lo1_0 ?_
  refine wR_gr rfl mO_e mO_27 hm.1.1 ?_
  refine yR_m 1 (fun _ _ _ _ => rfl) ?_
  refine wR_la rfl lo1_0 ?_
  refine wR_gi rfl mO_e mO_13 hm.1.1 rfl ?_
  refine wN_mul (a := 3) (b := (gi mem 221 13).toInt) rfl rfl rfl (by omega) (fun x6 e7 => ?_)
  refine wR_li rfl lo1_1 ?_
  refine wN_add (a := (3 * (gi mem 221 13).toInt)) (b := (w).toInt) rfl e7 rfl (by omega) (fun x8 e9 => ?_)
  refine wN_al (a := ((3 * (gi mem 221 13).toInt) + (w).toInt)) rfl aR_236 hm.1.1 rfl e9 (by omega) (fun y10 e11 => ?_)
  refine wN_add (a := (1600 * (gi mem 221 13).toInt)) (b := (gn (ga mem 236) ((3 * (gi mem 221 13).toInt) + (w).toInt))) rfl e5 e11 (by omega) (fun x12 e13 => ?_)
  refine wR_si rfl rfl (fun lo14 e15 f16 => ?_)
  have lo14_2 := f16 2 _ (by decide) (Or.inl rfl) e2
  have lo14_0 := f16 0 _ (by decide) (Or.inl rfl) lo1_0
  have lo14_1 := f16 1 _ (by decide) (Or.inl rfl) lo1_1
  exact h1 x4 e5 x6 e7 x8 e9 y10 e11 x12 e13 lo14 lo14_0 lo14_1 lo14_2 e15 hm

set_option maxRecDepth 100000 in
theorem w_rv_25 {E : zM → Prop} (hE : aEs (aΘ0 E)) {d : Nat} {m0 mem : zM} {P : Option Value → zM → Prop} {w n c : Int32} {lo : List (Nat × Value)} (hm : wI (aΘ0 E) m0 mem) (l_0 : zlg lo 0 = some (.ref 221)) (l_1 : zlg lo 1 = some (.int w)) (l_2 : zlg lo 2 = some (.int n)) (l_3 : zlg lo 3 = some (.int c)) (hw : 0 ≤ w.toInt ∧ w.toInt ≤ 2) (h7 : 0 ≤ gn (ga mem 237) (3 * (gi mem 221 13).toInt + w.toInt) ∧ gn (ga mem 237) (3 * (gi mem 221 13).toInt + w.toInt) ≤ 1600) (hn : 0 ≤ n.toInt ∧ n.toInt ≤ 499) (hc : 0 ≤ c.toInt ∧ c.toInt ≤ 3200) (h1 : ∀ (x1 : Int32), x1.toInt = (1600 * (gi mem 221 13).toInt) → ∀ (x3 : Int32), x3.toInt = (3 * (gi mem 221 13).toInt) → ∀ (x5 : Int32), x5.toInt = ((3 * (gi mem 221 13).toInt) + (w).toInt) → ∀ (y7 : Int32), y7.toInt = (gn (ga mem 237) ((3 * (gi mem 221 13).toInt) + (w).toInt)) → ∀ (x9 : Int32), x9.toInt = ((1600 * (gi mem 221 13).toInt) + (gn (ga mem 237) ((3 * (gi mem 221 13).toInt) + (w).toInt))) → ((1600 * (gi mem 221 13).toInt) + (gn (ga mem 237) ((3 * (gi mem 221 13).toInt) + (w).toInt))) ≤ (c).toInt → wI (aΘ0 E) m0 mem → P (some (.long ((gA mem 256).getD (0 : Int).toNat 0))) mem) (s1 : ∀ (x1 : Int32), x1.toInt = (1600 * (gi mem 221 13).toInt) → ∀ (x3 : Int32), x3.toInt = (3 * (gi mem 221 13).toInt) → ∀ (x5 : Int32), x5.toInt = ((3 * (gi mem 221 13).toInt) + (w).toInt) → ∀ (y7 : Int32), y7.toInt = (gn (ga mem 237) ((3 * (gi mem 221 13).toInt) + (w).toInt)) → ∀ (x9 : Int32), x9.toInt = ((1600 * (gi mem 221 13).toInt) + (gn (ga mem 237) ((3 * (gi mem 221 13).toInt) + (w).toInt))) → (c).toInt < ((1600 * (gi mem 221 13).toInt) + (gn (ga mem 237) ((3 * (gi mem 221 13).toInt) + (w).toInt))) → ∀ (y12 : Int32), y12.toInt = (gn (ga mem 238) (c).toInt) → 30 < (gn (ga mem 238) (c).toInt) → ¬ (gn (ga mem 238) (c).toInt) = 43 → ¬ (gn (ga mem 238) (c).toInt) = 44 → ∀ (x20 : Int32), x20.toInt = ((n).toInt + (-1)) → ∀ (x25 : Int32), x25.toInt = (((n).toInt + (-1)) - 1) → ∀ (x27 : Int32), x27.toInt = (((n).toInt + (-1)) - 1) → (0 : Int) ≤ (((n).toInt + (-1)) - 1) ∧ (((n).toInt + (-1)) - 1) < 500) (s2 : ∀ (x1 : Int32), x1.toInt = (1600 * (gi mem 221 13).toInt) → ∀ (x3 : Int32), x3.toInt = (3 * (gi mem 221 13).toInt) → ∀ (x5 : Int32), x5.toInt = ((3 * (gi mem 221 13).toInt) + (w).toInt) → ∀ (y7 : Int32), y7.toInt = (gn (ga mem 237) ((3 * (gi mem 221 13).toInt) + (w).toInt)) → ∀ (x9 : Int32), x9.toInt = ((1600 * (gi mem 221 13).toInt) + (gn (ga mem 237) ((3 * (gi mem 221 13).toInt) + (w).toInt))) → (c).toInt < ((1600 * (gi mem 221 13).toInt) + (gn (ga mem 237) ((3 * (gi mem 221 13).toInt) + (w).toInt))) → ∀ (y12 : Int32), y12.toInt = (gn (ga mem 238) (c).toInt) → 30 < (gn (ga mem 238) (c).toInt) → ¬ (gn (ga mem 238) (c).toInt) = 43 → ¬ (gn (ga mem 238) (c).toInt) = 44 → ∀ (x20 : Int32), x20.toInt = ((n).toInt + (-1)) → ∀ (x25 : Int32), x25.toInt = (((n).toInt + (-1)) - 1) → ∀ (x27 : Int32), x27.toInt = (((n).toInt + (-1)) - 1) → (0 : Int) ≤ ((n).toInt + (-1)) ∧ ((n).toInt + (-1)) < 500) (s3 : ∀ (x1 : Int32), x1.toInt = (1600 * (gi mem 221 13).toInt) → ∀ (x3 : Int32), x3.toInt = (3 * (gi mem 221 13).toInt) → ∀ (x5 : Int32), x5.toInt = ((3 * (gi mem 221 13).toInt) + (w).toInt) → ∀ (y7 : Int32), y7.toInt = (gn (ga mem 237) ((3 * (gi mem 221 13).toInt) + (w).toInt)) → ∀ (x9 : Int32), x9.toInt = ((1600 * (gi mem 221 13).toInt) + (gn (ga mem 237) ((3 * (gi mem 221 13).toInt) + (w).toInt))) → (c).toInt < ((1600 * (gi mem 221 13).toInt) + (gn (ga mem 237) ((3 * (gi mem 221 13).toInt) + (w).toInt))) → ∀ (y12 : Int32), y12.toInt = (gn (ga mem 238) (c).toInt) → 30 < (gn (ga mem 238) (c).toInt) → ¬ (gn (ga mem 238) (c).toInt) = 43 → ¬ (gn (ga mem 238) (c).toInt) = 44 → ∀ (x20 : Int32), x20.toInt = ((n).toInt + (-1)) → ∀ (x25 : Int32), x25.toInt = (((n).toInt + (-1)) - 1) → ∀ (x27 : Int32), x27.toInt = (((n).toInt + (-1)) - 1) → twK (gn (ga mem 238) (c).toInt) ((gA mem 256).getD ((((n).toInt + (-1)) - 1) : Int).toNat 0).toInt ((gA mem 256).getD (((n).toInt + (-1)) : Int).toNat 0).toInt) (s4 : ∀ (x1 : Int32), x1.toInt = (1600 * (gi mem 221 13).toInt) → ∀ (x3 : Int32), x3.toInt = (3 * (gi mem 221 13).toInt) → ∀ (x5 : Int32), x5.toInt = ((3 * (gi mem 221 13).toInt) + (w).toInt) → ∀ (y7 : Int32), y7.toInt = (gn (ga mem 237) ((3 * (gi mem 221 13).toInt) + (w).toInt)) → ∀ (x9 : Int32), x9.toInt = ((1600 * (gi mem 221 13).toInt) + (gn (ga mem 237) ((3 * (gi mem 221 13).toInt) + (w).toInt))) → (c).toInt < ((1600 * (gi mem 221 13).toInt) + (gn (ga mem 237) ((3 * (gi mem 221 13).toInt) + (w).toInt))) → ∀ (y12 : Int32), y12.toInt = (gn (ga mem 238) (c).toInt) → 30 < (gn (ga mem 238) (c).toInt) → ¬ (gn (ga mem 238) (c).toInt) = 43 → ¬ (gn (ga mem 238) (c).toInt) = 44 → ∀ (x20 : Int32), x20.toInt = ((n).toInt + (-1)) → ∀ (x25 : Int32), x25.toInt = (((n).toInt + (-1)) - 1) → ∀ (x27 : Int32), x27.toInt = (((n).toInt + (-1)) - 1) → ∀ (v29 : Int64), v29.toInt = twoI (ssW (gn (ga mem 238) (c).toInt)) ((gA mem 256).getD ((((n).toInt + (-1)) - 1) : Int).toNat 0).toInt ((gA mem 256).getD (((n).toInt + (-1)) : Int).toNat 0).toInt → (0 : Int) ≤ (((n).toInt + (-1)) - 1) ∧ (((n).toInt + (-1)) - 1) < 500) (h2 : ∀ (x1 : Int32), x1.toInt = (1600 * (gi mem 221 13).toInt) → ∀ (x3 : Int32), x3.toInt = (3 * (gi mem 221 13).toInt) → ∀ (x5 : Int32), x5.toInt = ((3 * (gi mem 221 13).toInt) + (w).toInt) → ∀ (y7 : Int32), y7.toInt = (gn (ga mem 237) ((3 * (gi mem 221 13).toInt) + (w).toInt)) → ∀ (x9 : Int32), x9.toInt = ((1600 * (gi mem 221 13).toInt) + (gn (ga mem 237) ((3 * (gi mem 221 13).toInt) + (w).toInt))) → (c).toInt < ((1600 * (gi mem 221 13).toInt) + (gn (ga mem 237) ((3 * (gi mem 221 13).toInt) + (w).toInt))) → ∀ (y12 : Int32), y12.toInt = (gn (ga mem 238) (c).toInt) → 30 < (gn (ga mem 238) (c).toInt) → ¬ (gn (ga mem 238) (c).toInt) = 43 → ¬ (gn (ga mem 238) (c).toInt) = 44 → ∀ (x20 : Int32), x20.toInt = ((n).toInt + (-1)) → ∀ (x25 : Int32), x25.toInt = (((n).toInt + (-1)) - 1) → ∀ (x27 : Int32), x27.toInt = (((n).toInt + (-1)) - 1) → ∀ (v29 : Int64), v29.toInt = twoI (ssW (gn (ga mem 238) (c).toInt)) ((gA mem 256).getD ((((n).toInt + (-1)) - 1) : Int).toNat 0).toInt ((gA mem 256).getD (((n).toInt + (-1)) : Int).toNat 0).toInt → ∀ (x31 : Int32), x31.toInt = ((c).toInt + 1) → ∀ lo, zlg lo 0 = some (.ref 221) → zlg lo 1 = some (.int w) → zlg lo 2 = some (.int x20) → zlg lo 3 = some (.int x31) → wI (aΘ0 E) m0 (sX mem 256 x25 v29) → yR zpg tX12_reckons (d + 3) (25, lo, [], (sX mem 256 x25 v29)) P) (s5 : ∀ (x1 : Int32), x1.toInt = (1600 * (gi mem 221 13).toInt) → ∀ (x3 : Int32), x3.toInt = (3 * (gi mem 221 13).toInt) → ∀ (x5 : Int32), x5.toInt = ((3 * (gi mem 221 13).toInt) + (w).toInt) → ∀ (y7 : Int32), y7.toInt = (gn (ga mem 237) ((3 * (gi mem 221 13).toInt) + (w).toInt)) → ∀ (x9 : Int32), x9.toInt = ((1600 * (gi mem 221 13).toInt) + (gn (ga mem 237) ((3 * (gi mem 221 13).toInt) + (w).toInt))) → (c).toInt < ((1600 * (gi mem 221 13).toInt) + (gn (ga mem 237) ((3 * (gi mem 221 13).toInt) + (w).toInt))) → ∀ (y12 : Int32), y12.toInt = (gn (ga mem 238) (c).toInt) → 30 < (gn (ga mem 238) (c).toInt) → ¬ (gn (ga mem 238) (c).toInt) = 43 → (gn (ga mem 238) (c).toInt) = 44 → ∀ (x36 : Int32), x36.toInt = ((n).toInt + (-2)) → ∀ (x41 : Int32), x41.toInt = (((n).toInt + (-2)) - 1) → ∀ (x43 : Int32), x43.toInt = (((n).toInt + (-2)) - 1) → (0 : Int) ≤ (((n).toInt + (-2)) - 1) ∧ (((n).toInt + (-2)) - 1) < 500) (s6 : ∀ (x1 : Int32), x1.toInt = (1600 * (gi mem 221 13).toInt) → ∀ (x3 : Int32), x3.toInt = (3 * (gi mem 221 13).toInt) → ∀ (x5 : Int32), x5.toInt = ((3 * (gi mem 221 13).toInt) + (w).toInt) → ∀ (y7 : Int32), y7.toInt = (gn (ga mem 237) ((3 * (gi mem 221 13).toInt) + (w).toInt)) → ∀ (x9 : Int32), x9.toInt = ((1600 * (gi mem 221 13).toInt) + (gn (ga mem 237) ((3 * (gi mem 221 13).toInt) + (w).toInt))) → (c).toInt < ((1600 * (gi mem 221 13).toInt) + (gn (ga mem 237) ((3 * (gi mem 221 13).toInt) + (w).toInt))) → ∀ (y12 : Int32), y12.toInt = (gn (ga mem 238) (c).toInt) → 30 < (gn (ga mem 238) (c).toInt) → ¬ (gn (ga mem 238) (c).toInt) = 43 → (gn (ga mem 238) (c).toInt) = 44 → ∀ (x36 : Int32), x36.toInt = ((n).toInt + (-2)) → ∀ (x41 : Int32), x41.toInt = (((n).toInt + (-2)) - 1) → ∀ (x43 : Int32), x43.toInt = (((n).toInt + (-2)) - 1) → ¬ ((gA mem 256).getD ((((n).toInt + (-2)) - 1) : Int).toNat 0) = 1 → ∀ (x46 : Int32), x46.toInt = (((n).toInt + (-2)) + 1) → (0 : Int) ≤ (((n).toInt + (-2)) + 1) ∧ (((n).toInt + (-2)) + 1) < 500) (s7 : ∀ (x1 : Int32), x1.toInt = (1600 * (gi mem 221 13).toInt) → ∀ (x3 : Int32), x3.toInt = (3 * (gi mem 221 13).toInt) → ∀ (x5 : Int32), x5.toInt = ((3 * (gi mem 221 13).toInt) + (w).toInt) → ∀ (y7 : Int32), y7.toInt = (gn (ga mem 237) ((3 * (gi mem 221 13).toInt) + (w).toInt)) → ∀ (x9 : Int32), x9.toInt = ((1600 * (gi mem 221 13).toInt) + (gn (ga mem 237) ((3 * (gi mem 221 13).toInt) + (w).toInt))) → (c).toInt < ((1600 * (gi mem 221 13).toInt) + (gn (ga mem 237) ((3 * (gi mem 221 13).toInt) + (w).toInt))) → ∀ (y12 : Int32), y12.toInt = (gn (ga mem 238) (c).toInt) → 30 < (gn (ga mem 238) (c).toInt) → ¬ (gn (ga mem 238) (c).toInt) = 43 → (gn (ga mem 238) (c).toInt) = 44 → ∀ (x36 : Int32), x36.toInt = ((n).toInt + (-2)) → ∀ (x41 : Int32), x41.toInt = (((n).toInt + (-2)) - 1) → ∀ (x43 : Int32), x43.toInt = (((n).toInt + (-2)) - 1) → ¬ ((gA mem 256).getD ((((n).toInt + (-2)) - 1) : Int).toNat 0) = 1 → ∀ (x46 : Int32), x46.toInt = (((n).toInt + (-2)) + 1) → (0 : Int) ≤ (((n).toInt + (-2)) - 1) ∧ (((n).toInt + (-2)) - 1) < 500) (h3 : ∀ (x1 : Int32), x1.toInt = (1600 * (gi mem 221 13).toInt) → ∀ (x3 : Int32), x3.toInt = (3 * (gi mem 221 13).toInt) → ∀ (x5 : Int32), x5.toInt = ((3 * (gi mem 221 13).toInt) + (w).toInt) → ∀ (y7 : Int32), y7.toInt = (gn (ga mem 237) ((3 * (gi mem 221 13).toInt) + (w).toInt)) → ∀ (x9 : Int32), x9.toInt = ((1600 * (gi mem 221 13).toInt) + (gn (ga mem 237) ((3 * (gi mem 221 13).toInt) + (w).toInt))) → (c).toInt < ((1600 * (gi mem 221 13).toInt) + (gn (ga mem 237) ((3 * (gi mem 221 13).toInt) + (w).toInt))) → ∀ (y12 : Int32), y12.toInt = (gn (ga mem 238) (c).toInt) → 30 < (gn (ga mem 238) (c).toInt) → ¬ (gn (ga mem 238) (c).toInt) = 43 → (gn (ga mem 238) (c).toInt) = 44 → ∀ (x36 : Int32), x36.toInt = ((n).toInt + (-2)) → ∀ (x41 : Int32), x41.toInt = (((n).toInt + (-2)) - 1) → ∀ (x43 : Int32), x43.toInt = (((n).toInt + (-2)) - 1) → ¬ ((gA mem 256).getD ((((n).toInt + (-2)) - 1) : Int).toNat 0) = 1 → ∀ (x46 : Int32), x46.toInt = (((n).toInt + (-2)) + 1) → ∀ (x48 : Int32), x48.toInt = ((c).toInt + 1) → ∀ lo, zlg lo 0 = some (.ref 221) → zlg lo 1 = some (.int w) → zlg lo 2 = some (.int x36) → zlg lo 3 = some (.int x48) → wI (aΘ0 E) m0 (sX mem 256 x41 ((gA mem 256).getD ((((n).toInt + (-2)) + 1) : Int).toNat 0)) → yR zpg tX12_reckons (d + 3) (25, lo, [], (sX mem 256 x41 ((gA mem 256).getD ((((n).toInt + (-2)) + 1) : Int).toNat 0))) P) (s8 : ∀ (x1 : Int32), x1.toInt = (1600 * (gi mem 221 13).toInt) → ∀ (x3 : Int32), x3.toInt = (3 * (gi mem 221 13).toInt) → ∀ (x5 : Int32), x5.toInt = ((3 * (gi mem 221 13).toInt) + (w).toInt) → ∀ (y7 : Int32), y7.toInt = (gn (ga mem 237) ((3 * (gi mem 221 13).toInt) + (w).toInt)) → ∀ (x9 : Int32), x9.toInt = ((1600 * (gi mem 221 13).toInt) + (gn (ga mem 237) ((3 * (gi mem 221 13).toInt) + (w).toInt))) → (c).toInt < ((1600 * (gi mem 221 13).toInt) + (gn (ga mem 237) ((3 * (gi mem 221 13).toInt) + (w).toInt))) → ∀ (y12 : Int32), y12.toInt = (gn (ga mem 238) (c).toInt) → 30 < (gn (ga mem 238) (c).toInt) → ¬ (gn (ga mem 238) (c).toInt) = 43 → (gn (ga mem 238) (c).toInt) = 44 → ∀ (x36 : Int32), x36.toInt = ((n).toInt + (-2)) → ∀ (x41 : Int32), x41.toInt = (((n).toInt + (-2)) - 1) → ∀ (x43 : Int32), x43.toInt = (((n).toInt + (-2)) - 1) → ((gA mem 256).getD ((((n).toInt + (-2)) - 1) : Int).toNat 0) = 1 → (0 : Int) ≤ ((n).toInt + (-2)) ∧ ((n).toInt + (-2)) < 500) (s9 : ∀ (x1 : Int32), x1.toInt = (1600 * (gi mem 221 13).toInt) → ∀ (x3 : Int32), x3.toInt = (3 * (gi mem 221 13).toInt) → ∀ (x5 : Int32), x5.toInt = ((3 * (gi mem 221 13).toInt) + (w).toInt) → ∀ (y7 : Int32), y7.toInt = (gn (ga mem 237) ((3 * (gi mem 221 13).toInt) + (w).toInt)) → ∀ (x9 : Int32), x9.toInt = ((1600 * (gi mem 221 13).toInt) + (gn (ga mem 237) ((3 * (gi mem 221 13).toInt) + (w).toInt))) → (c).toInt < ((1600 * (gi mem 221 13).toInt) + (gn (ga mem 237) ((3 * (gi mem 221 13).toInt) + (w).toInt))) → ∀ (y12 : Int32), y12.toInt = (gn (ga mem 238) (c).toInt) → 30 < (gn (ga mem 238) (c).toInt) → ¬ (gn (ga mem 238) (c).toInt) = 43 → (gn (ga mem 238) (c).toInt) = 44 → ∀ (x36 : Int32), x36.toInt = ((n).toInt + (-2)) → ∀ (x41 : Int32), x41.toInt = (((n).toInt + (-2)) - 1) → ∀ (x43 : Int32), x43.toInt = (((n).toInt + (-2)) - 1) → ((gA mem 256).getD ((((n).toInt + (-2)) - 1) : Int).toNat 0) = 1 → (0 : Int) ≤ (((n).toInt + (-2)) - 1) ∧ (((n).toInt + (-2)) - 1) < 500) (h4 : ∀ (x1 : Int32), x1.toInt = (1600 * (gi mem 221 13).toInt) → ∀ (x3 : Int32), x3.toInt = (3 * (gi mem 221 13).toInt) → ∀ (x5 : Int32), x5.toInt = ((3 * (gi mem 221 13).toInt) + (w).toInt) → ∀ (y7 : Int32), y7.toInt = (gn (ga mem 237) ((3 * (gi mem 221 13).toInt) + (w).toInt)) → ∀ (x9 : Int32), x9.toInt = ((1600 * (gi mem 221 13).toInt) + (gn (ga mem 237) ((3 * (gi mem 221 13).toInt) + (w).toInt))) → (c).toInt < ((1600 * (gi mem 221 13).toInt) + (gn (ga mem 237) ((3 * (gi mem 221 13).toInt) + (w).toInt))) → ∀ (y12 : Int32), y12.toInt = (gn (ga mem 238) (c).toInt) → 30 < (gn (ga mem 238) (c).toInt) → ¬ (gn (ga mem 238) (c).toInt) = 43 → (gn (ga mem 238) (c).toInt) = 44 → ∀ (x36 : Int32), x36.toInt = ((n).toInt + (-2)) → ∀ (x41 : Int32), x41.toInt = (((n).toInt + (-2)) - 1) → ∀ (x43 : Int32), x43.toInt = (((n).toInt + (-2)) - 1) → ((gA mem 256).getD ((((n).toInt + (-2)) - 1) : Int).toNat 0) = 1 → ∀ (x53 : Int32), x53.toInt = ((c).toInt + 1) → ∀ lo, zlg lo 0 = some (.ref 221) → zlg lo 1 = some (.int w) → zlg lo 2 = some (.int x36) → zlg lo 3 = some (.int x53) → wI (aΘ0 E) m0 (sX mem 256 x41 ((gA mem 256).getD (((n).toInt + (-2)) : Int).toNat 0)) → yR zpg tX12_reckons (d + 3) (25, lo, [], (sX mem 256 x41 ((gA mem 256).getD (((n).toInt + (-2)) : Int).toNat 0))) P) (s10 : ∀ (x1 : Int32), x1.toInt = (1600 * (gi mem 221 13).toInt) → ∀ (x3 : Int32), x3.toInt = (3 * (gi mem 221 13).toInt) → ∀ (x5 : Int32), x5.toInt = ((3 * (gi mem 221 13).toInt) + (w).toInt) → ∀ (y7 : Int32), y7.toInt = (gn (ga mem 237) ((3 * (gi mem 221 13).toInt) + (w).toInt)) → ∀ (x9 : Int32), x9.toInt = ((1600 * (gi mem 221 13).toInt) + (gn (ga mem 237) ((3 * (gi mem 221 13).toInt) + (w).toInt))) → (c).toInt < ((1600 * (gi mem 221 13).toInt) + (gn (ga mem 237) ((3 * (gi mem 221 13).toInt) + (w).toInt))) → ∀ (y12 : Int32), y12.toInt = (gn (ga mem 238) (c).toInt) → 30 < (gn (ga mem 238) (c).toInt) → (gn (ga mem 238) (c).toInt) = 43 → ∀ (x58 : Int32), x58.toInt = ((n).toInt - 1) → ∀ (x60 : Int32), x60.toInt = ((n).toInt - 1) → (0 : Int) ≤ ((n).toInt - 1) ∧ ((n).toInt - 1) < 500) (h5 : ∀ (x1 : Int32), x1.toInt = (1600 * (gi mem 221 13).toInt) → ∀ (x3 : Int32), x3.toInt = (3 * (gi mem 221 13).toInt) → ∀ (x5 : Int32), x5.toInt = ((3 * (gi mem 221 13).toInt) + (w).toInt) → ∀ (y7 : Int32), y7.toInt = (gn (ga mem 237) ((3 * (gi mem 221 13).toInt) + (w).toInt)) → ∀ (x9 : Int32), x9.toInt = ((1600 * (gi mem 221 13).toInt) + (gn (ga mem 237) ((3 * (gi mem 221 13).toInt) + (w).toInt))) → (c).toInt < ((1600 * (gi mem 221 13).toInt) + (gn (ga mem 237) ((3 * (gi mem 221 13).toInt) + (w).toInt))) → ∀ (y12 : Int32), y12.toInt = (gn (ga mem 238) (c).toInt) → 30 < (gn (ga mem 238) (c).toInt) → (gn (ga mem 238) (c).toInt) = 43 → ∀ (x58 : Int32), x58.toInt = ((n).toInt - 1) → ∀ (x60 : Int32), x60.toInt = ((n).toInt - 1) → ∀ (x62 : Int32), x62.toInt = ((c).toInt + 1) → ∀ lo, zlg lo 0 = some (.ref 221) → zlg lo 1 = some (.int w) → zlg lo 2 = some (.int n) → zlg lo 3 = some (.int x62) → wI (aΘ0 E) m0 (sX mem 256 x58 (1 - ((gA mem 256).getD (((n).toInt - 1) : Int).toNat 0))) → yR zpg tX12_reckons (d + 3) (25, lo, [], (sX mem 256 x58 (1 - ((gA mem 256).getD (((n).toInt - 1) : Int).toNat 0)))) P) (s11 : ∀ (x1 : Int32), x1.toInt = (1600 * (gi mem 221 13).toInt) → ∀ (x3 : Int32), x3.toInt = (3 * (gi mem 221 13).toInt) → ∀ (x5 : Int32), x5.toInt = ((3 * (gi mem 221 13).toInt) + (w).toInt) → ∀ (y7 : Int32), y7.toInt = (gn (ga mem 237) ((3 * (gi mem 221 13).toInt) + (w).toInt)) → ∀ (x9 : Int32), x9.toInt = ((1600 * (gi mem 221 13).toInt) + (gn (ga mem 237) ((3 * (gi mem 221 13).toInt) + (w).toInt))) → (c).toInt < ((1600 * (gi mem 221 13).toInt) + (gn (ga mem 237) ((3 * (gi mem 221 13).toInt) + (w).toInt))) → ∀ (y12 : Int32), y12.toInt = (gn (ga mem 238) (c).toInt) → (gn (ga mem 238) (c).toInt) ≤ 30 → ¬ (gn (ga mem 238) (c).toInt) = 0 → ¬ (gn (ga mem 238) (c).toInt) = 30 → (0 : Int) ≤ (gn (ga mem 238) (c).toInt) ∧ (gn (ga mem 238) (c).toInt) < 10) (s12 : ∀ (x1 : Int32), x1.toInt = (1600 * (gi mem 221 13).toInt) → ∀ (x3 : Int32), x3.toInt = (3 * (gi mem 221 13).toInt) → ∀ (x5 : Int32), x5.toInt = ((3 * (gi mem 221 13).toInt) + (w).toInt) → ∀ (y7 : Int32), y7.toInt = (gn (ga mem 237) ((3 * (gi mem 221 13).toInt) + (w).toInt)) → ∀ (x9 : Int32), x9.toInt = ((1600 * (gi mem 221 13).toInt) + (gn (ga mem 237) ((3 * (gi mem 221 13).toInt) + (w).toInt))) → (c).toInt < ((1600 * (gi mem 221 13).toInt) + (gn (ga mem 237) ((3 * (gi mem 221 13).toInt) + (w).toInt))) → ∀ (y12 : Int32), y12.toInt = (gn (ga mem 238) (c).toInt) → (gn (ga mem 238) (c).toInt) ≤ 30 → ¬ (gn (ga mem 238) (c).toInt) = 0 → ¬ (gn (ga mem 238) (c).toInt) = 30 → ∀ (y69 : Int32), y69.toInt = (gn (ga mem 257) (gn (ga mem 238) (c).toInt)) → (0 : Int) ≤ (n).toInt ∧ (n).toInt < 500) (h6 : ∀ (x1 : Int32), x1.toInt = (1600 * (gi mem 221 13).toInt) → ∀ (x3 : Int32), x3.toInt = (3 * (gi mem 221 13).toInt) → ∀ (x5 : Int32), x5.toInt = ((3 * (gi mem 221 13).toInt) + (w).toInt) → ∀ (y7 : Int32), y7.toInt = (gn (ga mem 237) ((3 * (gi mem 221 13).toInt) + (w).toInt)) → ∀ (x9 : Int32), x9.toInt = ((1600 * (gi mem 221 13).toInt) + (gn (ga mem 237) ((3 * (gi mem 221 13).toInt) + (w).toInt))) → (c).toInt < ((1600 * (gi mem 221 13).toInt) + (gn (ga mem 237) ((3 * (gi mem 221 13).toInt) + (w).toInt))) → ∀ (y12 : Int32), y12.toInt = (gn (ga mem 238) (c).toInt) → (gn (ga mem 238) (c).toInt) ≤ 30 → ¬ (gn (ga mem 238) (c).toInt) = 0 → ¬ (gn (ga mem 238) (c).toInt) = 30 → ∀ (y69 : Int32), y69.toInt = (gn (ga mem 257) (gn (ga mem 238) (c).toInt)) → ∀ (x71 : Int32), x71.toInt = ((n).toInt + 1) → ∀ (x76 : Int32), x76.toInt = ((c).toInt + 1) → ∀ lo, zlg lo 0 = some (.ref 221) → zlg lo 1 = some (.int w) → zlg lo 2 = some (.int x71) → zlg lo 3 = some (.int x76) → wI (aΘ0 E) m0 (sX mem 256 n (y69 : Int32).toInt64) → yR zpg tX12_reckons (d + 3) (25, lo, [], (sX mem 256 n (y69 : Int32).toInt64)) P) (s13 : ∀ (x1 : Int32), x1.toInt = (1600 * (gi mem 221 13).toInt) → ∀ (x3 : Int32), x3.toInt = (3 * (gi mem 221 13).toInt) → ∀ (x5 : Int32), x5.toInt = ((3 * (gi mem 221 13).toInt) + (w).toInt) → ∀ (y7 : Int32), y7.toInt = (gn (ga mem 237) ((3 * (gi mem 221 13).toInt) + (w).toInt)) → ∀ (x9 : Int32), x9.toInt = ((1600 * (gi mem 221 13).toInt) + (gn (ga mem 237) ((3 * (gi mem 221 13).toInt) + (w).toInt))) → (c).toInt < ((1600 * (gi mem 221 13).toInt) + (gn (ga mem 237) ((3 * (gi mem 221 13).toInt) + (w).toInt))) → ∀ (y12 : Int32), y12.toInt = (gn (ga mem 238) (c).toInt) → (gn (ga mem 238) (c).toInt) ≤ 30 → ¬ (gn (ga mem 238) (c).toInt) = 0 → (gn (ga mem 238) (c).toInt) = 30 → (0 : Int) ≤ (n).toInt ∧ (n).toInt < 500) (h7 : ∀ (x1 : Int32), x1.toInt = (1600 * (gi mem 221 13).toInt) → ∀ (x3 : Int32), x3.toInt = (3 * (gi mem 221 13).toInt) → ∀ (x5 : Int32), x5.toInt = ((3 * (gi mem 221 13).toInt) + (w).toInt) → ∀ (y7 : Int32), y7.toInt = (gn (ga mem 237) ((3 * (gi mem 221 13).toInt) + (w).toInt)) → ∀ (x9 : Int32), x9.toInt = ((1600 * (gi mem 221 13).toInt) + (gn (ga mem 237) ((3 * (gi mem 221 13).toInt) + (w).toInt))) → (c).toInt < ((1600 * (gi mem 221 13).toInt) + (gn (ga mem 237) ((3 * (gi mem 221 13).toInt) + (w).toInt))) → ∀ (y12 : Int32), y12.toInt = (gn (ga mem 238) (c).toInt) → (gn (ga mem 238) (c).toInt) ≤ 30 → ¬ (gn (ga mem 238) (c).toInt) = 0 → (gn (ga mem 238) (c).toInt) = 30 → ∀ (x81 : Int32), x81.toInt = ((n).toInt + 1) → ∀ (x86 : Int32), x86.toInt = ((c).toInt + 1) → ∀ lo, zlg lo 0 = some (.ref 221) → zlg lo 1 = some (.int w) → zlg lo 2 = some (.int x81) → zlg lo 3 = some (.int x86) → wI (aΘ0 E) m0 (sX mem 256 n 1) → yR zpg tX12_reckons (d + 3) (25, lo, [], (sX mem 256 n 1)) P) (s14 : ∀ (x1 : Int32), x1.toInt = (1600 * (gi mem 221 13).toInt) → ∀ (x3 : Int32), x3.toInt = (3 * (gi mem 221 13).toInt) → ∀ (x5 : Int32), x5.toInt = ((3 * (gi mem 221 13).toInt) + (w).toInt) → ∀ (y7 : Int32), y7.toInt = (gn (ga mem 237) ((3 * (gi mem 221 13).toInt) + (w).toInt)) → ∀ (x9 : Int32), x9.toInt = ((1600 * (gi mem 221 13).toInt) + (gn (ga mem 237) ((3 * (gi mem 221 13).toInt) + (w).toInt))) → (c).toInt < ((1600 * (gi mem 221 13).toInt) + (gn (ga mem 237) ((3 * (gi mem 221 13).toInt) + (w).toInt))) → ∀ (y12 : Int32), y12.toInt = (gn (ga mem 238) (c).toInt) → (gn (ga mem 238) (c).toInt) ≤ 30 → (gn (ga mem 238) (c).toInt) = 0 → ∀ (y91 : Int32), y91.toInt = (gn (ga mem 239) (c).toInt) → (0 : Int) ≤ (n).toInt ∧ (n).toInt < 500) (h8 : ∀ (x1 : Int32), x1.toInt = (1600 * (gi mem 221 13).toInt) → ∀ (x3 : Int32), x3.toInt = (3 * (gi mem 221 13).toInt) → ∀ (x5 : Int32), x5.toInt = ((3 * (gi mem 221 13).toInt) + (w).toInt) → ∀ (y7 : Int32), y7.toInt = (gn (ga mem 237) ((3 * (gi mem 221 13).toInt) + (w).toInt)) → ∀ (x9 : Int32), x9.toInt = ((1600 * (gi mem 221 13).toInt) + (gn (ga mem 237) ((3 * (gi mem 221 13).toInt) + (w).toInt))) → (c).toInt < ((1600 * (gi mem 221 13).toInt) + (gn (ga mem 237) ((3 * (gi mem 221 13).toInt) + (w).toInt))) → ∀ (y12 : Int32), y12.toInt = (gn (ga mem 238) (c).toInt) → (gn (ga mem 238) (c).toInt) ≤ 30 → (gn (ga mem 238) (c).toInt) = 0 → ∀ (y91 : Int32), y91.toInt = (gn (ga mem 239) (c).toInt) → ∀ (x93 : Int32), x93.toInt = ((n).toInt + 1) → ∀ (x98 : Int32), x98.toInt = ((c).toInt + 1) → ∀ lo, zlg lo 0 = some (.ref 221) → zlg lo 1 = some (.int w) → zlg lo 2 = some (.int x93) → zlg lo 3 = some (.int x98) → wI (aΘ0 E) m0 (sX mem 256 n (y91 : Int32).toInt64) → yR zpg tX12_reckons (d + 3) (25, lo, [], (sX mem 256 n (y91 : Int32).toInt64)) P) : yR zpg tX12_reckons (d + 3) (25, lo, [], mem) P := by
  have rb := mO_r13 hm.1.1
  refine wR_li rfl l_3 ?_
  refine yR_m 1 (fun _ _ _ _ => rfl) ?_
  refine wR_la rfl l_0 ?_
  refine wR_gi rfl mO_e mO_13 hm.1.1 rfl ?_
  refine wN_mul (a := 1600) (b := (gi mem 221 13).toInt) rfl rfl rfl (by omega) (fun x1 e2 => ?_)
  refine wR_la rfl l_0 ?_
  refine wR_gr rfl mO_e mO_28 hm.1.1 ?_
  refine yR_m 1 (fun _ _ _ _ => rfl) ?_
  refine wR_la rfl l_0 ?_
  refine wR_gi rfl mO_e mO_13 hm.1.1 rfl ?_
  refine wN_mul (a := 3) (b := (gi mem 221 13).toInt) rfl rfl rfl (by omega) (fun x3 e4 => ?_)
  refine wR_li rfl l_1 ?_
  refine wN_add (a := (3 * (gi mem 221 13).toInt)) (b := (w).toInt) rfl e4 rfl (by omega) (fun x5 e6 => ?_)
  refine wN_al (a := ((3 * (gi mem 221 13).toInt) + (w).toInt)) rfl aR_237 hm.1.1 rfl e6 (by omega) (fun y7 e8 => ?_)
  refine wN_add (a := (1600 * (gi mem 221 13).toInt)) (b := (gn (ga mem 237) ((3 * (gi mem 221 13).toInt) + (w).toInt))) rfl e2 e8 (by omega) (fun x9 e10 => ?_)
  refine wR_ic_ge rfl (a := (c).toInt) (c := ((1600 * (gi mem 221 13).toInt) + (gn (ga mem 237) ((3 * (gi mem 221 13).toInt) + (w).toInt)))) rfl e10 (fun q11 => ?_) (fun q11 => ?_)
  ·
    refine wR_la rfl l_0 ?_
    refine wR_gr rfl mO_e mO_58 hm.1.1 ?_
    refine yR_m 1 (fun _ _ _ _ => rfl) ?_
    refine wN_ll (a := 0) rfl aR_256 hm.1.1 rfl rfl (by decide) ?_
    exact yR_rl rfl (h1 x1 e2 x3 e4 x5 e6 y7 e8 x9 e10 q11 hm)
  ·
    refine wR_la rfl l_0 ?_
    refine wR_gr rfl mO_e mO_29 hm.1.1 ?_
    refine wR_li rfl l_3 ?_
    refine wN_al (a := (c).toInt) rfl aR_238 hm.1.1 rfl rfl (by omega) (fun y12 e13 => ?_)
    refine wR_si rfl rfl (fun lo14 e15 f16 => ?_)
    have lo14_0 := f16 0 _ (by decide) (Or.inl rfl) l_0
    have lo14_1 := f16 1 _ (by decide) (Or.inl rfl) l_1
    have lo14_2 := f16 2 _ (by decide) (Or.inl rfl) l_2
    have lo14_3 := f16 3 _ (by decide) (Or.inl rfl) l_3
    refine wR_li rfl e15 ?_
    refine yR_m 1 (fun _ _ _ _ => rfl) ?_
    refine wR_ic_gt rfl (a := (gn (ga mem 238) (c).toInt)) (c := 30) e13 rfl (fun q17 => ?_) (fun q17 => ?_)
    ·
      refine wR_li rfl e15 ?_
      refine yR_m 1 (fun _ _ _ _ => rfl) ?_
      refine wR_ic_ne rfl (a := (gn (ga mem 238) (c).toInt)) (c := 43) e13 rfl (fun q18 => ?_) (fun q18 => ?_)
      ·
        refine wR_li rfl e15 ?_
        refine yR_m 1 (fun _ _ _ _ => rfl) ?_
        refine wR_ic_ne rfl (a := (gn (ga mem 238) (c).toInt)) (c := 44) e13 rfl (fun q19 => ?_) (fun q19 => ?_)
        ·
          refine wN_in (a := (n).toInt) (b := (-1)) rfl rfl lo14_2 rfl tm1 (by omega) (fun x20 e21 => fun lo22 e23 f24 => ?_)
          have lo22_4 := f24 4 _ (by decide) (Or.inl rfl) e15
          have lo22_0 := f24 0 _ (by decide) (Or.inl rfl) lo14_0
          have lo22_1 := f24 1 _ (by decide) (Or.inl rfl) lo14_1
          have lo22_3 := f24 3 _ (by decide) (Or.inl rfl) lo14_3
          refine wR_la rfl lo22_0 ?_
          refine wR_gr rfl mO_e mO_58 hm.1.1 ?_
          refine wR_li rfl e23 ?_
          refine yR_m 1 (fun _ _ _ _ => rfl) ?_
          refine wN_sub (a := ((n).toInt + (-1))) (b := 1) rfl e21 rfl (by omega) (fun x25 e26 => ?_)
          refine wR_li rfl lo22_4 ?_
          refine wR_la rfl lo22_0 ?_
          refine wR_gr rfl mO_e mO_58 hm.1.1 ?_
          refine wR_li rfl e23 ?_
          refine yR_m 1 (fun _ _ _ _ => rfl) ?_
          refine wN_sub (a := ((n).toInt + (-1))) (b := 1) rfl e21 rfl (by omega) (fun x27 e28 => ?_)
          refine wN_ll (a := (((n).toInt + (-1)) - 1)) rfl aR_256 hm.1.1 rfl e28 (s1 x1 e2 x3 e4 x5 e6 y7 e8 x9 e10 q11 y12 e13 q17 q18 q19 x20 e21 x25 e26 x27 e28) ?_
          refine wR_la rfl lo22_0 ?_
          refine wR_gr rfl mO_e mO_58 hm.1.1 ?_
          refine wR_li rfl e23 ?_
          refine wN_ll (a := ((n).toInt + (-1))) rfl aR_256 hm.1.1 rfl e21 (s2 x1 e2 x3 e4 x5 e6 y7 e8 x9 e10 q11 y12 e13 q17 q18 q19 x20 e21 x25 e26 x27 e28) ?_
          refine yR_cs rfl rfl rfl (h_tw2 hm.1.1 e13 (s3 x1 e2 x3 e4 x5 e6 y7 e8 x9 e10 q11 y12 e13 q17 q18 q19 x20 e21 x25 e26 x27 e28) (by omega)) ?_
          rintro _ _ ⟨v29, rfl, rfl, k30⟩
          show yR zpg tX12_reckons (d + 3) (220, lo22, [.long v29, .int x25, .ref 256], mem) _
          refine wN_las (a := (((n).toInt + (-1)) - 1)) rfl aR_256 hm.1.1 e26 (s4 x1 e2 x3 e4 x5 e6 y7 e8 x9 e10 q11 y12 e13 q17 q18 q19 x20 e21 x25 e26 x27 e28 v29 k30) ?_
          have hm_1 : wI (aΘ0 E) m0 (sX mem 256 x25 v29) := wI_sA hE aR_256 hm
          refine wN_in (a := (c).toInt) (b := 1) rfl rfl lo22_3 rfl rfl (by omega) (fun x31 e32 => fun lo33 e34 f35 => ?_)
          have lo33_2 := f35 2 _ (by decide) (Or.inl rfl) e23
          have lo33_4 := f35 4 _ (by decide) (Or.inl rfl) lo22_4
          have lo33_0 := f35 0 _ (by decide) (Or.inl rfl) lo22_0
          have lo33_1 := f35 1 _ (by decide) (Or.inl rfl) lo22_1
          exact yR_m 1 (fun _ _ _ _ => rfl) (h2 x1 e2 x3 e4 x5 e6 y7 e8 x9 e10 q11 y12 e13 q17 q18 q19 x20 e21 x25 e26 x27 e28 v29 k30 x31 e32 lo33 lo33_0 lo33_1 lo33_2 e34 hm_1)
        ·
          refine wN_in (a := (n).toInt) (b := (-2)) rfl rfl lo14_2 rfl tm2 (by omega) (fun x36 e37 => fun lo38 e39 f40 => ?_)
          have lo38_4 := f40 4 _ (by decide) (Or.inl rfl) e15
          have lo38_0 := f40 0 _ (by decide) (Or.inl rfl) lo14_0
          have lo38_1 := f40 1 _ (by decide) (Or.inl rfl) lo14_1
          have lo38_3 := f40 3 _ (by decide) (Or.inl rfl) lo14_3
          refine wR_la rfl lo38_0 ?_
          refine wR_gr rfl mO_e mO_58 hm.1.1 ?_
          refine wR_li rfl e39 ?_
          refine yR_m 1 (fun _ _ _ _ => rfl) ?_
          refine wN_sub (a := ((n).toInt + (-2))) (b := 1) rfl e37 rfl (by omega) (fun x41 e42 => ?_)
          refine wR_la rfl lo38_0 ?_
          refine wR_gr rfl mO_e mO_58 hm.1.1 ?_
          refine wR_li rfl e39 ?_
          refine yR_m 1 (fun _ _ _ _ => rfl) ?_
          refine wN_sub (a := ((n).toInt + (-2))) (b := 1) rfl e37 rfl (by omega) (fun x43 e44 => ?_)
          refine wN_ll (a := (((n).toInt + (-2)) - 1)) rfl aR_256 hm.1.1 rfl e44 (s5 x1 e2 x3 e4 x5 e6 y7 e8 x9 e10 q11 y12 e13 q17 q18 q19 x36 e37 x41 e42 x43 e44) ?_
          refine yR_m 2 (fun _ _ _ _ => rfl) ?_
          refine wR_lf_ne rfl (fun q45 => ?_) (fun q45 => ?_)
          ·
            refine wR_la rfl lo38_0 ?_
            refine wR_gr rfl mO_e mO_58 hm.1.1 ?_
            refine wR_li rfl e39 ?_
            refine yR_m 1 (fun _ _ _ _ => rfl) ?_
            refine wN_add (a := ((n).toInt + (-2))) (b := 1) rfl e37 rfl (by omega) (fun x46 e47 => ?_)
            refine wN_ll (a := (((n).toInt + (-2)) + 1)) rfl aR_256 hm.1.1 rfl e47 (s6 x1 e2 x3 e4 x5 e6 y7 e8 x9 e10 q11 y12 e13 q17 q18 q19 x36 e37 x41 e42 x43 e44 q45 x46 e47) ?_
            refine wN_las (a := (((n).toInt + (-2)) - 1)) rfl aR_256 hm.1.1 e42 (s7 x1 e2 x3 e4 x5 e6 y7 e8 x9 e10 q11 y12 e13 q17 q18 q19 x36 e37 x41 e42 x43 e44 q45 x46 e47) ?_
            have hm_2 : wI (aΘ0 E) m0 (sX mem 256 x41 ((gA mem 256).getD ((((n).toInt + (-2)) + 1) : Int).toNat 0)) := wI_sA hE aR_256 hm
            refine yR_m 1 (fun _ _ _ _ => rfl) ?_
            refine wN_in (a := (c).toInt) (b := 1) rfl rfl lo38_3 rfl rfl (by omega) (fun x48 e49 => fun lo50 e51 f52 => ?_)
            have lo50_2 := f52 2 _ (by decide) (Or.inl rfl) e39
            have lo50_4 := f52 4 _ (by decide) (Or.inl rfl) lo38_4
            have lo50_0 := f52 0 _ (by decide) (Or.inl rfl) lo38_0
            have lo50_1 := f52 1 _ (by decide) (Or.inl rfl) lo38_1
            exact yR_m 1 (fun _ _ _ _ => rfl) (h3 x1 e2 x3 e4 x5 e6 y7 e8 x9 e10 q11 y12 e13 q17 q18 q19 x36 e37 x41 e42 x43 e44 q45 x46 e47 x48 e49 lo50 lo50_0 lo50_1 lo50_2 e51 hm_2)
          ·
            refine wR_la rfl lo38_0 ?_
            refine wR_gr rfl mO_e mO_58 hm.1.1 ?_
            refine wR_li rfl e39 ?_
            refine wN_ll (a := ((n).toInt + (-2))) rfl aR_256 hm.1.1 rfl e37 (s8 x1 e2 x3 e4 x5 e6 y7 e8 x9 e10 q11 y12 e13 q17 q18 q19 x36 e37 x41 e42 x43 e44 q45) ?_
            refine yR_m 1 (fun _ _ _ _ => rfl) ?_
            refine wN_las (a := (((n).toInt + (-2)) - 1)) rfl aR_256 hm.1.1 e42 (s9 x1 e2 x3 e4 x5 e6 y7 e8 x9 e10 q11 y12 e13 q17 q18 q19 x36 e37 x41 e42 x43 e44 q45) ?_
            have hm_3 : wI (aΘ0 E) m0 (sX mem 256 x41 ((gA mem 256).getD (((n).toInt + (-2)) : Int).toNat 0)) := wI_sA hE aR_256 hm
            refine yR_m 1 (fun _ _ _ _ => rfl) ?_
            refine wN_in (a := (c).toInt) (b := 1) rfl rfl lo38_3 rfl rfl (by omega) (fun x53 e54 => fun lo55 e56 f57 => ?_)
            have lo55_2 := f57 2 _ (by decide) (Or.inl rfl) e39
            have lo55_4 := f57 4 _ (by decide) (Or.inl rfl) lo38_4
            have lo55_0 := f57 0 _ (by decide) (Or.inl rfl) lo38_0
            have lo55_1 := f57 1 _ (by decide) (Or.inl rfl) lo38_1
            exact yR_m 1 (fun _ _ _ _ => rfl) (h4 x1 e2 x3 e4 x5 e6 y7 e8 x9 e10 q11 y12 e13 q17 q18 q19 x36 e37 x41 e42 x43 e44 q45 x53 e54 lo55 lo55_0 lo55_1 lo55_2 e56 hm_3)
      ·
        refine wR_la rfl lo14_0 ?_
        refine wR_gr rfl mO_e mO_58 hm.1.1 ?_
        refine wR_li rfl lo14_2 ?_
        refine yR_m 1 (fun _ _ _ _ => rfl) ?_
        refine wN_sub (a := (n).toInt) (b := 1) rfl rfl rfl (by omega) (fun x58 e59 => ?_)
        refine yR_m 1 (fun _ _ _ _ => rfl) ?_
        refine wR_la rfl lo14_0 ?_
        refine wR_gr rfl mO_e mO_58 hm.1.1 ?_
        refine wR_li rfl lo14_2 ?_
        refine yR_m 1 (fun _ _ _ _ => rfl) ?_
        refine wN_sub (a := (n).toInt) (b := 1) rfl rfl rfl (by omega) (fun x60 e61 => ?_)
        refine wN_ll (a := ((n).toInt - 1)) rfl aR_256 hm.1.1 rfl e61 (s10 x1 e2 x3 e4 x5 e6 y7 e8 x9 e10 q11 y12 e13 q17 q18 x58 e59 x60 e61) ?_
        refine yR_m 1 (fun _ _ _ _ => rfl) ?_
        refine wN_las (a := ((n).toInt - 1)) rfl aR_256 hm.1.1 e59 (s10 x1 e2 x3 e4 x5 e6 y7 e8 x9 e10 q11 y12 e13 q17 q18 x58 e59 x60 e61) ?_
        have hm_4 : wI (aΘ0 E) m0 (sX mem 256 x58 (1 - ((gA mem 256).getD (((n).toInt - 1) : Int).toNat 0))) := wI_sA hE aR_256 hm
        refine yR_m 1 (fun _ _ _ _ => rfl) ?_
        refine wN_in (a := (c).toInt) (b := 1) rfl rfl lo14_3 rfl rfl (by omega) (fun x62 e63 => fun lo64 e65 f66 => ?_)
        have lo64_4 := f66 4 _ (by decide) (Or.inl rfl) e15
        have lo64_0 := f66 0 _ (by decide) (Or.inl rfl) lo14_0
        have lo64_1 := f66 1 _ (by decide) (Or.inl rfl) lo14_1
        have lo64_2 := f66 2 _ (by decide) (Or.inl rfl) lo14_2
        exact yR_m 1 (fun _ _ _ _ => rfl) (h5 x1 e2 x3 e4 x5 e6 y7 e8 x9 e10 q11 y12 e13 q17 q18 x58 e59 x60 e61 x62 e63 lo64 lo64_0 lo64_1 lo64_2 e65 hm_4)
    ·
      refine wR_la rfl lo14_0 ?_
      refine wR_gr rfl mO_e mO_58 hm.1.1 ?_
      refine wR_li rfl lo14_2 ?_
      refine wR_li rfl e15 ?_
      refine wR_if_ne rfl (a := (gn (ga mem 238) (c).toInt)) e13 (fun q67 => ?_) (fun q67 => ?_)
      ·
        refine wR_li rfl e15 ?_
        refine yR_m 1 (fun _ _ _ _ => rfl) ?_
        refine wR_ic_ne rfl (a := (gn (ga mem 238) (c).toInt)) (c := 30) e13 rfl (fun q68 => ?_) (fun q68 => ?_)
        ·
          refine wR_la rfl lo14_0 ?_
          refine wR_gr rfl mO_e mO_59 hm.1.1 ?_
          refine wR_li rfl e15 ?_
          refine wN_al (a := (gn (ga mem 238) (c).toInt)) rfl aR_257 hm.1.1 rfl e13 (s11 x1 e2 x3 e4 x5 e6 y7 e8 x9 e10 q11 y12 e13 q17 q67 q68) (fun y69 e70 => ?_)
          refine yR_m 1 (fun _ _ _ _ => rfl) ?_
          refine wN_las (a := (n).toInt) rfl aR_256 hm.1.1 rfl (s12 x1 e2 x3 e4 x5 e6 y7 e8 x9 e10 q11 y12 e13 q17 q67 q68 y69 e70) ?_
          have hm_5 : wI (aΘ0 E) m0 (sX mem 256 n (y69 : Int32).toInt64) := wI_sA hE aR_256 hm
          refine wN_in (a := (n).toInt) (b := 1) rfl rfl lo14_2 rfl rfl (by omega) (fun x71 e72 => fun lo73 e74 f75 => ?_)
          have lo73_4 := f75 4 _ (by decide) (Or.inl rfl) e15
          have lo73_0 := f75 0 _ (by decide) (Or.inl rfl) lo14_0
          have lo73_1 := f75 1 _ (by decide) (Or.inl rfl) lo14_1
          have lo73_3 := f75 3 _ (by decide) (Or.inl rfl) lo14_3
          refine yR_m 1 (fun _ _ _ _ => rfl) ?_
          refine wN_in (a := (c).toInt) (b := 1) rfl rfl lo73_3 rfl rfl (by omega) (fun x76 e77 => fun lo78 e79 f80 => ?_)
          have lo78_2 := f80 2 _ (by decide) (Or.inl rfl) e74
          have lo78_4 := f80 4 _ (by decide) (Or.inl rfl) lo73_4
          have lo78_0 := f80 0 _ (by decide) (Or.inl rfl) lo73_0
          have lo78_1 := f80 1 _ (by decide) (Or.inl rfl) lo73_1
          exact yR_m 1 (fun _ _ _ _ => rfl) (h6 x1 e2 x3 e4 x5 e6 y7 e8 x9 e10 q11 y12 e13 q17 q67 q68 y69 e70 x71 e72 x76 e77 lo78 lo78_0 lo78_1 lo78_2 e79 hm_5)
        ·
          refine yR_m 2 (fun _ _ _ _ => rfl) ?_
          refine wN_las (a := (n).toInt) rfl aR_256 hm.1.1 rfl (s13 x1 e2 x3 e4 x5 e6 y7 e8 x9 e10 q11 y12 e13 q17 q67 q68) ?_
          have hm_6 : wI (aΘ0 E) m0 (sX mem 256 n 1) := wI_sA hE aR_256 hm
          refine wN_in (a := (n).toInt) (b := 1) rfl rfl lo14_2 rfl rfl (by omega) (fun x81 e82 => fun lo83 e84 f85 => ?_)
          have lo83_4 := f85 4 _ (by decide) (Or.inl rfl) e15
          have lo83_0 := f85 0 _ (by decide) (Or.inl rfl) lo14_0
          have lo83_1 := f85 1 _ (by decide) (Or.inl rfl) lo14_1
          have lo83_3 := f85 3 _ (by decide) (Or.inl rfl) lo14_3
          refine yR_m 1 (fun _ _ _ _ => rfl) ?_
          refine wN_in (a := (c).toInt) (b := 1) rfl rfl lo83_3 rfl rfl (by omega) (fun x86 e87 => fun lo88 e89 f90 => ?_)
          have lo88_2 := f90 2 _ (by decide) (Or.inl rfl) e84
          have lo88_4 := f90 4 _ (by decide) (Or.inl rfl) lo83_4
          have lo88_0 := f90 0 _ (by decide) (Or.inl rfl) lo83_0
          have lo88_1 := f90 1 _ (by decide) (Or.inl rfl) lo83_1
          exact yR_m 1 (fun _ _ _ _ => rfl) (h7 x1 e2 x3 e4 x5 e6 y7 e8 x9 e10 q11 y12 e13 q17 q67 q68 x81 e82 x86 e87 lo88 lo88_0 lo88_1 lo88_2 e89 hm_6)
      ·
        refine wR_la rfl lo14_0 ?_
        refine wR_gr rfl mO_e mO_30 hm.1.1 ?_
        refine wR_li rfl lo14_3 ?_
        refine wN_al (a := (c).toInt) rfl aR_239 hm.1.1 rfl rfl (by omega) (fun y91 e92 => ?_)
        refine yR_m 2 (fun _ _ _ _ => rfl) ?_
        refine wN_las (a := (n).toInt) rfl aR_256 hm.1.1 rfl (s14 x1 e2 x3 e4 x5 e6 y7 e8 x9 e10 q11 y12 e13 q17 q67 y91 e92) ?_
        have hm_7 : wI (aΘ0 E) m0 (sX mem 256 n (y91 : Int32).toInt64) := wI_sA hE aR_256 hm
        refine wN_in (a := (n).toInt) (b := 1) rfl rfl lo14_2 rfl rfl (by omega) (fun x93 e94 => fun lo95 e96 f97 => ?_)
        have lo95_4 := f97 4 _ (by decide) (Or.inl rfl) e15
        have lo95_0 := f97 0 _ (by decide) (Or.inl rfl) lo14_0
        have lo95_1 := f97 1 _ (by decide) (Or.inl rfl) lo14_1
        have lo95_3 := f97 3 _ (by decide) (Or.inl rfl) lo14_3
        refine yR_m 1 (fun _ _ _ _ => rfl) ?_
        refine wN_in (a := (c).toInt) (b := 1) rfl rfl lo95_3 rfl rfl (by omega) (fun x98 e99 => fun lo100 e101 f102 => ?_)
        have lo100_2 := f102 2 _ (by decide) (Or.inl rfl) e96
        have lo100_4 := f102 4 _ (by decide) (Or.inl rfl) lo95_4
        have lo100_0 := f102 0 _ (by decide) (Or.inl rfl) lo95_0
        have lo100_1 := f102 1 _ (by decide) (Or.inl rfl) lo95_1
        exact yR_m 1 (fun _ _ _ _ => rfl) (h8 x1 e2 x3 e4 x5 e6 y7 e8 x9 e10 q11 y12 e13 q17 q67 y91 e92 x93 e94 x98 e99 lo100 lo100_0 lo100_1 lo100_2 e101 hm_7)

theorem cdI_c {s v i : Int} (h : cdI s v = i) : (s = 0 ∧ v = i ∧ 0 ≤ i ∧ i < 10000) ∨ (s = 1 ∧ i = 10015) ∨ (s = 2 ∧ i = 10007) ∨ (s = 3 ∧ i = 10008) ∨ (s = 4 ∧ i = 10016) ∨ (s = 5 ∧ i = 10017) ∨ (s = 6 ∧ i = 10018) ∨ (s = 30 ∧ i = 10023) ∨ (s = 43 ∧ i = 10022) ∨ (s = 44 ∧ i = 10019) ∨ ((31 ≤ s ∧ s ≤ 42) ∧ (10020 ≤ i ∧ i ≤ 10062) ∧ ¬ i = 10022 ∧ ¬ i = 10023 ∧ ssW s = i - 10000) ∨ i = 10000 := by
  unfold cdI at h
  split at h
  · split at h <;> omega
  split at h
  · omega
  split at h
  · omega
  split at h
  · omega
  split at h
  · omega
  split at h
  · omega
  split at h
  · omega
  split at h
  · omega
  split at h
  · rename_i c
    rcases c with rfl | rfl | rfl
    · have h : (10000 + 24 : Int) = i := h
      have hs : ssW 36 = 24 := rfl
      omega
    · have h : (10000 + 25 : Int) = i := h
      have hs : ssW 37 = 25 := rfl
      omega
    · have h : (10000 + 19 : Int) = i := h
      omega
  by_cases c42 : s = 42
  · subst c42
    have h : (10000 + 20 : Int) = i := h
    have hs : ssW 42 = 20 := rfl
    omega
  by_cases c41 : s = 41
  · subst c41
    have h : (10000 + 21 : Int) = i := h
    have hs : ssW 41 = 21 := rfl
    omega
  by_cases c43 : s = 43
  · subst c43
    have h : (10000 + 22 : Int) = i := h
    have hs : ssW 43 = 22 := rfl
    omega
  by_cases c38 : s = 38
  · subst c38
    have h : (10000 + 60 : Int) = i := h
    have hs : ssW 38 = 60 := rfl
    omega
  by_cases c39 : s = 39
  · subst c39
    have h : (10000 + 62 : Int) = i := h
    have hs : ssW 39 = 62 := rfl
    omega
  by_cases c40 : s = 40
  · subst c40
    have h : (10000 + 61 : Int) = i := h
    have hs : ssW 40 = 61 := rfl
    omega
  by_cases c31 : s = 31
  · subst c31
    have h : (10000 + 43 : Int) = i := h
    have hs : ssW 31 = 43 := rfl
    omega
  by_cases c32 : s = 32
  · subst c32
    have h : (10000 + 45 : Int) = i := h
    have hs : ssW 32 = 45 := rfl
    omega
  by_cases c33 : s = 33
  · subst c33
    have h : (10000 + 42 : Int) = i := h
    have hs : ssW 33 = 42 := rfl
    omega
  by_cases c34 : s = 34
  · subst c34
    have h : (10000 + 47 : Int) = i := h
    have hs : ssW 34 = 47 := rfl
    omega
  by_cases c35 : s = 35
  · subst c35
    have h : (10000 + 37 : Int) = i := h
    have hs : ssW 35 = 37 := rfl
    omega
  have e : clO s = 0 := by
    unfold clO
    rw [if_neg c42, if_neg c41, if_neg c43, if_neg c38, if_neg c39, if_neg c40, if_neg c31, if_neg c32, if_neg c33, if_neg c34, if_neg c35]
  rw [e] at h
  omega
def ciP (s v i : Int) : Prop := (s = 0 → v = i ∧ 0 ≤ i ∧ i < 10000) ∧ (s = 30 → i = 10023) ∧ (s = 43 → i = 10022) ∧ (s = 44 → i = 10019) ∧ (¬ s = 0 → ¬ s = 30 → s ≤ 30 → (s = 1 ∧ i = 10015) ∨ (s = 2 ∧ i = 10007) ∨ (s = 3 ∧ i = 10008) ∨ (s = 4 ∧ i = 10016) ∨ (s = 5 ∧ i = 10017) ∨ (s = 6 ∧ i = 10018)) ∧ (30 < s → ¬ s = 43 → ¬ s = 44 → (31 ≤ s ∧ s ≤ 42) ∧ (10020 ≤ i ∧ i ≤ 10062) ∧ ¬ i = 10022 ∧ ¬ i = 10023 ∧ ssW s = i - 10000)
theorem ci_P {s v i : Int} (h : cdI s v = i) (ni : ¬ i = 10000) : ciP s v i := by
  rcases cdI_c h with c | c | c | c | c | c | c | c | c | c | c | c
  all_goals exact ⟨fun z => by omega, fun z => by omega, fun z => by omega, fun z => by omega, fun z1 z2 z3 => by omega, fun z1 z2 z3 => by omega⟩
theorem n_not {x : Int64} (h : x.toInt = 0 ∨ x.toInt = 1) : (1 - x).toInt = 1 - x.toInt := by
  rcases q_01 h with rfl | rfl <;> rfl
def gQ (m : zM) (j : Int) : Int := ((gA m 256).getD j.toNat 0).toInt
theorem sk_sX {j : Int32} {v : Int64} {s : List Int} (hm : aTm aT0 mem) (h0 : (s.length : Int) ≤ j.toInt) (h1 : j.toInt < 500) (h : sk (gQ mem) (j.toInt - 1) s) : sk (gQ (sX mem 256 j v)) j.toInt (v.toInt :: s) := by
  have l := (gA_ty aR_256 hm).2
  have hc := zclamp (x := j) (by omega)
  have e : ∀ i, 0 ≤ i → gQ (sX mem 256 j v) i = if i = j.toInt then v.toInt else gQ mem i := fun i hi => by
    unfold gQ
    rw [gA_sA_eq, List.getD_eq_getElem?_getD, List.getElem?_set, List.getD_eq_getElem?_getD]
    by_cases q : i = j.toInt
    · rw [if_pos q, if_pos (by omega), if_pos (by omega)]
      rfl
    · rw [if_neg q, if_neg (by omega)]
  refine ⟨by rw [e _ (by omega), if_pos rfl], sk_up (fun i i0 i1 => ?_) h⟩
  rw [e i (by omega), if_neg (by omega)]
theorem rv_loop {E : zM → Prop} (hE : aEs (aΘ0 E)) {m0 mr : zM} {env : Int → Int} {b : Bool} {w : Int32} {B : Int} (he : ∀ z, -1000000 ≤ env z ∧ env z ≤ 1000000) (hn : gn (ga mr 257) 1 = env 15 ∧ gn (ga mr 257) 2 = env 7 ∧ gn (ga mr 257) 3 = env 8 ∧ gn (ga mr 257) 4 = env 16 ∧ gn (ga mr 257) 5 = env 17) (hw : 0 ≤ w.toInt ∧ w.toInt ≤ 2) (hB : (gi mr 221 13).toInt = B) (hE7 : 0 ≤ gn (ga mr 237) (3 * B + w.toInt) ∧ gn (ga mr 237) (3 * B + w.toInt) ≤ 1600) : ∀ (c : List Int) (st : List Bool) (vs : List Int) (n k : Int32) (mem : zM) (lo : List (Nat × Value)), ((10018 : Int) ∈ c → gn (ga mr 257) 6 = env 18) → tyS c st = some [b] → vsOK st vs → n.toInt = (vs.length : Int) → 0 ≤ k.toInt → k.toInt + (c.length : Int) ≤ 3200 → (∀ i : Nat, i < c.length → cdI (gn (ga mr 238) (k.toInt + (i : Int))) (gn (ga mr 239) (k.toInt + (i : Int))) = c.getD i 0) → 1600 * B + gn (ga mr 237) (3 * B + w.toInt) = k.toInt + (c.length : Int) → sk (gQ mem) (n.toInt - 1) vs → wI (aΘ0 E) m0 mem → onl [256] mr mem → zlg lo 0 = some (.ref 221) → zlg lo 1 = some (.int w) → zlg lo 2 = some (.int n) → zlg lo 3 = some (.int k) → yR zpg tX12_reckons (d + 3) (25, lo, [], mem) (fun r m => ∃ v : Int64, r = some (.long v) ∧ wI (aΘ0 E) m0 m ∧ (onl [256] mr m ∧ v.toInt = (rvS env c vs).headD 0)) := by
  intro c
  induction c with
  | nil =>
    intro st vs n k mem lo hn6 ht hv hp k0 k1 hc hE6 hs hI ho l0 l1 l2 l3
    have ht : some st = some [b] := ht
    cases ht
    obtain ⟨x, s, rfl, -, hz⟩ := vs_c hv
    have sl := vs_len hz
    have sl : s.length = 0 := sl
    rw [List.length_cons] at hp
    have b9 : (gi mem 221 13).toInt = B := by rw [onl_gi ho rfl, hB]
    have h7 : gn (ga mem 237) (3 * (gi mem 221 13).toInt + w.toInt) = gn (ga mr 237) (3 * B + w.toInt) := by rw [onl_ga ho rfl, b9]
    have hE6 : 1600 * B + gn (ga mr 237) (3 * B + w.toInt) = k.toInt + 0 := hE6
    have hx : gQ mem (n.toInt - 1) = x := hs.1
    rw [show n.toInt - 1 = 0 by omega] at hx
    refine w_rv_25 hE hI l0 l1 l2 l3 hw (by omega) (by omega) (by omega) 
        (fun x1 e2 x3 e4 x5 e6 y7 e8 x9 e10 q11 hI2 => ⟨_, rfl, hI2, ho, hx⟩)
        (fun x1 e2 x3 e4 x5 e6 y7 e8 x9 e10 q11 y12 e13 q17 q18 q19 x20 e21 x25 e26 x27 e28 => by exfalso; omega)
        (fun x1 e2 x3 e4 x5 e6 y7 e8 x9 e10 q11 y12 e13 q17 q18 q19 x20 e21 x25 e26 x27 e28 => by exfalso; omega)
        (fun x1 e2 x3 e4 x5 e6 y7 e8 x9 e10 q11 y12 e13 q17 q18 q19 x20 e21 x25 e26 x27 e28 => by exfalso; omega)
        (fun x1 e2 x3 e4 x5 e6 y7 e8 x9 e10 q11 y12 e13 q17 q18 q19 x20 e21 x25 e26 x27 e28 v29 k30 => by exfalso; omega)
        (fun x1 e2 x3 e4 x5 e6 y7 e8 x9 e10 q11 y12 e13 q17 q18 q19 x20 e21 x25 e26 x27 e28 v29 k30 x31 e32 lo a0 a1 a2 a3 hI2 => by exfalso; omega)
        (fun x1 e2 x3 e4 x5 e6 y7 e8 x9 e10 q11 y12 e13 q17 q18 q19 x36 e37 x41 e42 x43 e44 => by exfalso; omega)
        (fun x1 e2 x3 e4 x5 e6 y7 e8 x9 e10 q11 y12 e13 q17 q18 q19 x36 e37 x41 e42 x43 e44 q45 x46 e47 => by exfalso; omega)
        (fun x1 e2 x3 e4 x5 e6 y7 e8 x9 e10 q11 y12 e13 q17 q18 q19 x36 e37 x41 e42 x43 e44 q45 x46 e47 => by exfalso; omega)
        (fun x1 e2 x3 e4 x5 e6 y7 e8 x9 e10 q11 y12 e13 q17 q18 q19 x36 e37 x41 e42 x43 e44 q45 x46 e47 x48 e49 lo a0 a1 a2 a3 hI2 => by exfalso; omega)
        (fun x1 e2 x3 e4 x5 e6 y7 e8 x9 e10 q11 y12 e13 q17 q18 q19 x36 e37 x41 e42 x43 e44 q45 => by exfalso; omega)
        (fun x1 e2 x3 e4 x5 e6 y7 e8 x9 e10 q11 y12 e13 q17 q18 q19 x36 e37 x41 e42 x43 e44 q45 => by exfalso; omega)
        (fun x1 e2 x3 e4 x5 e6 y7 e8 x9 e10 q11 y12 e13 q17 q18 q19 x36 e37 x41 e42 x43 e44 q45 x53 e54 lo a0 a1 a2 a3 hI2 => by exfalso; omega)
        (fun x1 e2 x3 e4 x5 e6 y7 e8 x9 e10 q11 y12 e13 q17 q18 x58 e59 x60 e61 => by exfalso; omega)
        (fun x1 e2 x3 e4 x5 e6 y7 e8 x9 e10 q11 y12 e13 q17 q18 x58 e59 x60 e61 x62 e63 lo a0 a1 a2 a3 hI2 => by exfalso; omega)
        (fun x1 e2 x3 e4 x5 e6 y7 e8 x9 e10 q11 y12 e13 q17 q67 q68 => by exfalso; omega)
        (fun x1 e2 x3 e4 x5 e6 y7 e8 x9 e10 q11 y12 e13 q17 q67 q68 y69 e70 => by exfalso; omega)
        (fun x1 e2 x3 e4 x5 e6 y7 e8 x9 e10 q11 y12 e13 q17 q67 q68 y69 e70 x71 e72 x76 e77 lo a0 a1 a2 a3 hI2 => by exfalso; omega)
        (fun x1 e2 x3 e4 x5 e6 y7 e8 x9 e10 q11 y12 e13 q17 q67 q68 => by exfalso; omega)
        (fun x1 e2 x3 e4 x5 e6 y7 e8 x9 e10 q11 y12 e13 q17 q67 q68 x81 e82 x86 e87 lo a0 a1 a2 a3 hI2 => by exfalso; omega)
        (fun x1 e2 x3 e4 x5 e6 y7 e8 x9 e10 q11 y12 e13 q17 q67 y91 e92 => by exfalso; omega)
        (fun x1 e2 x3 e4 x5 e6 y7 e8 x9 e10 q11 y12 e13 q17 q67 y91 e92 x93 e94 x98 e99 lo a0 a1 a2 a3 hI2 => by exfalso; omega)
  | cons i c ih =>
    intro st vs n k mem lo hn6 ht hv hp k0 k1 hc hE6 hs hI ho l0 l1 l2 l3
    obtain ⟨st', h1, ht⟩ := ob_s (show (ty1 i st).bind (tyS c) = some [b] from ht)
    obtain ⟨q1, q2, q3⟩ := rv_cs he h1 hv
    rw [List.length_cons] at k1 hc
    have hE8 : 1600 * B + gn (ga mr 237) (3 * B + w.toInt) = k.toInt + ((c.length + 1 : Nat) : Int) := hE6
    have b9 : (gi mem 221 13).toInt = B := by rw [onl_gi ho rfl, hB]
    have h7 : gn (ga mem 237) (3 * (gi mem 221 13).toInt + w.toInt) = gn (ga mr 237) (3 * B + w.toInt) := by rw [onl_ga ho rfl, b9]
    have hi : cdI (gn (ga mem 238) k.toInt) (gn (ga mem 239) k.toInt) = i := by
      have q := hc 0 (by omega)
      rw [onl_ga ho rfl, onl_ga ho rfl]
      refine Eq.trans ?_ q
      rw [show k.toInt + ((0 : Nat) : Int) = k.toInt by omega]
    have hc' : ∀ z : Nat, z < c.length → cdI (gn (ga mr 238) (k.toInt + 1 + (z : Int))) (gn (ga mr 239) (k.toInt + 1 + (z : Int))) = c.getD z 0 := fun z hz => by
      have q := hc (z + 1) (by omega)
      rw [show k.toInt + 1 + (z : Int) = k.toInt + ((z + 1 : Nat) : Int) by omega]
      exact q
    have s2 : (rv1 env i vs).length ≤ 101 := by
      rcases q2 with ⟨-, -, e⟩ | ⟨-, e⟩ | ⟨-, e⟩ | ⟨-, x, r, e0, -, e⟩ | ⟨-, x, y, z, r, e0, -, e⟩ | ⟨-, x, y, r, e0, -, -, -, e⟩
      · rw [e, List.length_cons]
        omega
      · rw [e, List.length_cons]
        omega
      · rw [e, List.length_cons]
        omega
      · rw [e0, List.length_cons] at q1
        rw [e, List.length_cons]
        omega
      · rw [e0, List.length_cons, List.length_cons, List.length_cons] at q1
        rw [e, List.length_cons]
        omega
      · rw [e0, List.length_cons, List.length_cons] at q1
        rw [e, List.length_cons]
        omega
    have go : ∀ (j n' k' : Int32) (v : Int64) (lo' : List (Nat × Value)) (x : Int) (s : List Int), rv1 env i vs = x :: s → v.toInt = x → j.toInt = n'.toInt - 1 → n'.toInt = ((s.length + 1 : Nat) : Int) → k'.toInt = k.toInt + 1 → sk (gQ mem) (n'.toInt - 2) s → wI (aΘ0 E) m0 (sX mem 256 j v) → zlg lo' 0 = some (.ref 221) → zlg lo' 1 = some (.int w) → zlg lo' 2 = some (.int n') → zlg lo' 3 = some (.int k') → yR zpg tX12_reckons (d + 3) (25, lo', [], sX mem 256 j v) (fun r m => ∃ v : Int64, r = some (.long v) ∧ wI (aΘ0 E) m0 m ∧ (onl [256] mr m ∧ v.toInt = (rvS env (i :: c) vs).headD 0)) := by
      intro j n' k' v lo' x s e1 e2 e3 e4 e5 e6 e7 a0 a1 a2 a3
      have q3 := q3
      have s2 := s2
      rw [e1] at q3 s2
      rw [List.length_cons] at s2
      have z := ih st' (x :: s) n' k' (sX mem 256 j v) lo' (fun z6 => hn6 (List.mem_cons_of_mem _ z6)) ht q3 (by rw [List.length_cons]; exact e4) (by omega) (by omega) (fun z hz => by rw [e5]; exact hc' z hz) (by rw [hE8, e5]; omega) ?_ e7 (onl_sA rfl ho) a0 a1 a2 a3
      · show yR zpg tX12_reckons (d + 3) (25, lo', [], sX mem 256 j v) (fun r m => ∃ v : Int64, r = some (.long v) ∧ wI (aΘ0 E) m0 m ∧ (onl [256] mr m ∧ v.toInt = (rvS env c (rv1 env i vs)).headD 0))
        rw [e1]
        exact z
      · rw [← e3, ← e2]
        exact sk_sX hI.1.1 (by omega) (by omega) (by rw [show j.toInt - 1 = n'.toInt - 2 by omega]; exact e6)
    have n10 : ¬ i = 10000 := fun q => by
      rcases q2 with ⟨-, e, -⟩ | ⟨e, -⟩ | ⟨e, -⟩ | ⟨e, -⟩ | ⟨e, -⟩ | ⟨e, -⟩
      · omega
      · omega
      · unfold isE at e
        omega
      · omega
      · omega
      · unfold isA isC at e
        omega
    have CI := ci_P hi n10
    have hNU : gn (ga mem 238) k.toInt = 0 → rv1 env i vs = gn (ga mem 239) k.toInt :: vs := by
      intro z
      have u := CI.1 z
      rw [u.1]
      exact if_pos u.2.2
    have hAL : gn (ga mem 238) k.toInt = 30 → rv1 env i vs = 1 :: vs := by
      intro z
      have u : i = 10023 := CI.2.1 z
      rw [u]
      rfl
    have a7 : ga mem 257 = ga mr 257 := onl_ga ho rfl
    have hAS : ¬ gn (ga mem 238) k.toInt = 0 → ¬ gn (ga mem 238) k.toInt = 30 → gn (ga mem 238) k.toInt ≤ 30 → (0 ≤ gn (ga mem 238) k.toInt ∧ gn (ga mem 238) k.toInt < 10) ∧ rv1 env i vs = gn (ga mem 257) (gn (ga mem 238) k.toInt) :: vs := by
      intro z1 z2 z3
      obtain ⟨n1, n2, n3, n4, n5⟩ := hn
      have cs : (gn (ga mem 238) k.toInt = 1 ∧ i = 10015) ∨ (gn (ga mem 238) k.toInt = 2 ∧ i = 10007) ∨ (gn (ga mem 238) k.toInt = 3 ∧ i = 10008) ∨ (gn (ga mem 238) k.toInt = 4 ∧ i = 10016) ∨ (gn (ga mem 238) k.toInt = 5 ∧ i = 10017) ∨ (gn (ga mem 238) k.toInt = 6 ∧ i = 10018) := CI.2.2.2.2.1 z1 z2 z3
      rw [a7]
      rcases cs with ⟨c1, c2⟩ | ⟨c1, c2⟩ | ⟨c1, c2⟩ | ⟨c1, c2⟩ | ⟨c1, c2⟩ | ⟨c1, c2⟩
      · rw [c1, c2, n1]
        exact ⟨by decide, rfl⟩
      · rw [c1, c2, n2]
        exact ⟨by decide, rfl⟩
      · rw [c1, c2, n3]
        exact ⟨by decide, rfl⟩
      · rw [c1, c2, n4]
        exact ⟨by decide, rfl⟩
      · rw [c1, c2, n5]
        exact ⟨by decide, rfl⟩
      · rw [c1, c2, hn6 (by rw [← c2]; exact List.mem_cons_self)]
        exact ⟨by decide, rfl⟩
    have hBI : 30 < gn (ga mem 238) k.toInt → ¬ gn (ga mem 238) k.toInt = 43 → ¬ gn (ga mem 238) k.toInt = 44 → ∃ r, rv1 env i vs = twoI (ssW (gn (ga mem 238) k.toInt)) (gQ mem (n.toInt - 2)) (gQ mem (n.toInt - 1)) :: r ∧ vs.length = r.length + 2 ∧ sk (gQ mem) (n.toInt - 3) r ∧ twK (gn (ga mem 238) k.toInt) (gQ mem (n.toInt - 2)) (gQ mem (n.toInt - 1)) := by
      intro z1 z2 z3
      have cs : (31 ≤ gn (ga mem 238) k.toInt ∧ gn (ga mem 238) k.toInt ≤ 42) ∧ (10020 ≤ i ∧ i ≤ 10062) ∧ ¬ i = 10022 ∧ ¬ i = 10023 ∧ ssW (gn (ga mem 238) k.toInt) = i - 10000 := CI.2.2.2.2.2 z1 z2 z3
      have lg : gn (ga mem 238) k.toInt = 41 ∨ gn (ga mem 238) k.toInt = 42 → i = 10020 ∨ i = 10021 := by
        intro u
        have c5 := cs.2.2.2.2
        rcases u with u | u
        · rw [u] at c5
          have c6 : (21 : Int) = i - 10000 := c5
          omega
        · rw [u] at c5
          have c6 : (20 : Int) = i - 10000 := c5
          omega
      rcases q2 with ⟨-, e, -⟩ | ⟨e, -⟩ | ⟨e, -⟩ | ⟨e, -⟩ | ⟨e, -⟩ | ⟨-, x, y, r, e0, b1, b2, b3, e⟩
      · exfalso
        omega
      · exfalso
        omega
      · exfalso
        unfold isE at e
        omega
      · exfalso
        omega
      · exfalso
        omega
      · rw [e0] at hs
        obtain ⟨y1, x1, s1⟩ := hs
        rw [show n.toInt - 1 - 1 = n.toInt - 2 by omega] at x1 s1
        rw [show n.toInt - 2 - 1 = n.toInt - 3 by omega] at s1
        rw [x1, y1, cs.2.2.2.2]
        exact ⟨r, e, by rw [e0]; rfl, s1, cs.1, b1, b2, fun u => b3 (lg u)⟩
    have hIF : gn (ga mem 238) k.toInt = 44 → ∃ r, rv1 env i vs = (if gQ mem (n.toInt - 3) = 0 then gQ mem (n.toInt - 1) else gQ mem (n.toInt - 2)) :: r ∧ vs.length = r.length + 3 ∧ sk (gQ mem) (n.toInt - 4) r ∧ (gQ mem (n.toInt - 3) = 0 ∨ gQ mem (n.toInt - 3) = 1) := by
      intro z1
      have u : i = 10019 := CI.2.2.2.1 z1
      rcases q2 with ⟨-, e, -⟩ | ⟨e, -⟩ | ⟨e, -⟩ | ⟨e, -⟩ | ⟨-, x, y, z, r, e0, b1, e⟩ | ⟨e, -⟩
      · exfalso
        omega
      · exfalso
        omega
      · exfalso
        unfold isE at e
        omega
      · exfalso
        omega
      · rw [e0] at hs
        obtain ⟨z1, y1, x1, s1⟩ := hs
        rw [show n.toInt - 1 - 1 = n.toInt - 2 by omega] at y1 x1 s1
        rw [show n.toInt - 2 - 1 = n.toInt - 3 by omega] at x1 s1
        rw [show n.toInt - 3 - 1 = n.toInt - 4 by omega] at s1
        rw [x1, y1, z1]
        exact ⟨r, e, by rw [e0]; rfl, s1, b1⟩
      · exfalso
        unfold isA isC at e
        omega
    have hNO : gn (ga mem 238) k.toInt = 43 → ∃ r, rv1 env i vs = (1 - gQ mem (n.toInt - 1)) :: r ∧ vs.length = r.length + 1 ∧ sk (gQ mem) (n.toInt - 2) r ∧ (gQ mem (n.toInt - 1) = 0 ∨ gQ mem (n.toInt - 1) = 1) := by
      intro z1
      have u : i = 10022 := CI.2.2.1 z1
      rcases q2 with ⟨-, e, -⟩ | ⟨e, -⟩ | ⟨e, -⟩ | ⟨-, x, r, e0, b1, e⟩ | ⟨e, -⟩ | ⟨e, -⟩
      · exfalso
        omega
      · exfalso
        omega
      · exfalso
        unfold isE at e
        omega
      · rw [e0] at hs
        obtain ⟨x1, s1⟩ := hs
        rw [show n.toInt - 1 - 1 = n.toInt - 2 by omega] at s1
        rw [x1]
        exact ⟨r, e, by rw [e0]; rfl, s1, b1⟩
      · exfalso
        omega
      · exfalso
        unfold isA isC at e
        omega
    refine w_rv_25 hE hI l0 l1 l2 l3 hw (by omega) (by omega) (by omega) 
        (fun x1 e2 x3 e4 x5 e6 y7 e8 x9 e10 q11 hI2 => by exfalso; omega)
        (fun x1 e2 x3 e4 x5 e6 y7 e8 x9 e10 q11 y12 e13 q17 q18 q19 x20 e21 x25 e26 x27 e28 => by obtain ⟨r, r1, r2, r3, r4⟩ := hBI q17 q18 q19; omega)
        (fun x1 e2 x3 e4 x5 e6 y7 e8 x9 e10 q11 y12 e13 q17 q18 q19 x20 e21 x25 e26 x27 e28 => by obtain ⟨r, r1, r2, r3, r4⟩ := hBI q17 q18 q19; omega)
        (fun x1 e2 x3 e4 x5 e6 y7 e8 x9 e10 q11 y12 e13 q17 q18 q19 x20 e21 x25 e26 x27 e28 => by obtain ⟨r, r1, r2, r3, r4⟩ := hBI q17 q18 q19; rw [show n.toInt + (-1) - 1 = n.toInt - 2 by omega, show n.toInt + (-1) = n.toInt - 1 by omega]; exact r4)
        (fun x1 e2 x3 e4 x5 e6 y7 e8 x9 e10 q11 y12 e13 q17 q18 q19 x20 e21 x25 e26 x27 e28 v29 k30 => by obtain ⟨r, r1, r2, r3, r4⟩ := hBI q17 q18 q19; omega)
        (fun x1 e2 x3 e4 x5 e6 y7 e8 x9 e10 q11 y12 e13 q17 q18 q19 x20 e21 x25 e26 x27 e28 v29 k30 x31 e32 lo a0 a1 a2 a3 hI2 => by obtain ⟨r, r1, r2, r3, r4⟩ := hBI q17 q18 q19; exact go x25 x20 x31 _ lo _ r r1 (by rw [k30, show n.toInt + (-1) - 1 = n.toInt - 2 by omega, show n.toInt + (-1) = n.toInt - 1 by omega]; rfl) (by omega) (by omega) (by omega) (by rw [show x20.toInt - 2 = n.toInt - 3 by omega]; exact r3) hI2 a0 a1 a2 a3)
        (fun x1 e2 x3 e4 x5 e6 y7 e8 x9 e10 q11 y12 e13 q17 q18 q19 x36 e37 x41 e42 x43 e44 => by obtain ⟨r, r1, r2, r3, r4⟩ := hIF q19; omega)
        (fun x1 e2 x3 e4 x5 e6 y7 e8 x9 e10 q11 y12 e13 q17 q18 q19 x36 e37 x41 e42 x43 e44 q45 x46 e47 => by obtain ⟨r, r1, r2, r3, r4⟩ := hIF q19; omega)
        (fun x1 e2 x3 e4 x5 e6 y7 e8 x9 e10 q11 y12 e13 q17 q18 q19 x36 e37 x41 e42 x43 e44 q45 x46 e47 => by obtain ⟨r, r1, r2, r3, r4⟩ := hIF q19; omega)
        (fun x1 e2 x3 e4 x5 e6 y7 e8 x9 e10 q11 y12 e13 q17 q18 q19 x36 e37 x41 e42 x43 e44 q45 x46 e47 x48 e49 lo a0 a1 a2 a3 hI2 => by
          obtain ⟨r, r1, r2, r3, r4⟩ := hIF q19
          have u : gQ mem (n.toInt - 3) = 0 := by
            rcases r4 with h | h
            · exact h
            · exact absurd (Int64.toInt_inj.1 (by rw [show n.toInt + (-2) - 1 = n.toInt - 3 by omega]; exact h)) q45
          exact go x41 x36 x48 _ lo _ r (by rw [r1, if_pos u]) (show gQ mem (n.toInt + (-2) + 1) = gQ mem (n.toInt - 1) from congrArg (gQ mem) (by omega)) (by omega) (by omega) (by omega) (by rw [show x36.toInt - 2 = n.toInt - 4 by omega]; exact r3) hI2 a0 a1 a2 a3)
        (fun x1 e2 x3 e4 x5 e6 y7 e8 x9 e10 q11 y12 e13 q17 q18 q19 x36 e37 x41 e42 x43 e44 q45 => by obtain ⟨r, r1, r2, r3, r4⟩ := hIF q19; omega)
        (fun x1 e2 x3 e4 x5 e6 y7 e8 x9 e10 q11 y12 e13 q17 q18 q19 x36 e37 x41 e42 x43 e44 q45 => by obtain ⟨r, r1, r2, r3, r4⟩ := hIF q19; omega)
        (fun x1 e2 x3 e4 x5 e6 y7 e8 x9 e10 q11 y12 e13 q17 q18 q19 x36 e37 x41 e42 x43 e44 q45 x53 e54 lo a0 a1 a2 a3 hI2 => by
          obtain ⟨r, r1, r2, r3, r4⟩ := hIF q19
          have u : gQ mem (n.toInt - 3) = 1 := by rw [show n.toInt - 3 = n.toInt + (-2) - 1 by omega]; exact congrArg Int64.toInt q45
          exact go x41 x36 x53 _ lo _ r (by rw [r1, if_neg (by rw [u]; decide)]) (show gQ mem (n.toInt + (-2)) = gQ mem (n.toInt - 2) from congrArg (gQ mem) (by omega)) (by omega) (by omega) (by omega) (by rw [show x36.toInt - 2 = n.toInt - 4 by omega]; exact r3) hI2 a0 a1 a2 a3)
        (fun x1 e2 x3 e4 x5 e6 y7 e8 x9 e10 q11 y12 e13 q17 q18 x58 e59 x60 e61 => by obtain ⟨r, r1, r2, r3, r4⟩ := hNO q18; omega)
        (fun x1 e2 x3 e4 x5 e6 y7 e8 x9 e10 q11 y12 e13 q17 q18 x58 e59 x60 e61 x62 e63 lo a0 a1 a2 a3 hI2 => by obtain ⟨r, r1, r2, r3, r4⟩ := hNO q18; exact go x58 n x62 _ lo _ r r1 (n_not r4) (by omega) (by omega) (by omega) r3 hI2 a0 a1 a2 a3)
        (fun x1 e2 x3 e4 x5 e6 y7 e8 x9 e10 q11 y12 e13 q17 q67 q68 => (hAS q67 q68 q17).1)
        (fun x1 e2 x3 e4 x5 e6 y7 e8 x9 e10 q11 y12 e13 q17 q67 q68 y69 e70 => by omega)
        (fun x1 e2 x3 e4 x5 e6 y7 e8 x9 e10 q11 y12 e13 q17 q67 q68 y69 e70 x71 e72 x76 e77 lo a0 a1 a2 a3 hI2 => go n x71 x76 _ lo _ vs (hAS q67 q68 q17).2 ((Int32.toInt_toInt64 _).trans e70) (by omega) (by omega) (by omega) (by rw [show x71.toInt - 2 = n.toInt - 1 by omega]; exact hs) hI2 a0 a1 a2 a3)
        (fun x1 e2 x3 e4 x5 e6 y7 e8 x9 e10 q11 y12 e13 q17 q67 q68 => by omega)
        (fun x1 e2 x3 e4 x5 e6 y7 e8 x9 e10 q11 y12 e13 q17 q67 q68 x81 e82 x86 e87 lo a0 a1 a2 a3 hI2 => go n x81 x86 _ lo _ vs (hAL q68) rfl (by omega) (by omega) (by omega) (by rw [show x81.toInt - 2 = n.toInt - 1 by omega]; exact hs) hI2 a0 a1 a2 a3)
        (fun x1 e2 x3 e4 x5 e6 y7 e8 x9 e10 q11 y12 e13 q17 q67 y91 e92 => by omega)
        (fun x1 e2 x3 e4 x5 e6 y7 e8 x9 e10 q11 y12 e13 q17 q67 y91 e92 x93 e94 x98 e99 lo a0 a1 a2 a3 hI2 => go n x93 x98 _ lo _ vs (hNU q67) ((Int32.toInt_toInt64 _).trans e92) (by omega) (by omega) (by omega) (by rw [show x93.toInt - 2 = n.toInt - 1 by omega]; exact hs) hI2 a0 a1 a2 a3)
/-- a rule that is told: its value -/
theorem h_rkV {E : zM → Prop} (hE : aEs (aΘ0 E)) {m0 mem : zM} {env : Int → Int} {b : Bool} {w : Int32} {B : Int} {c : List Int} (hI : wI (aΘ0 E) m0 mem) (he : ∀ z, -1000000 ≤ env z ∧ env z ≤ 1000000) (hn : gn (ga mem 257) 1 = env 15 ∧ gn (ga mem 257) 2 = env 7 ∧ gn (ga mem 257) 3 = env 8 ∧ gn (ga mem 257) 4 = env 16 ∧ gn (ga mem 257) 5 = env 17) (hn6 : (10018 : Int) ∈ c → gn (ga mem 257) 6 = env 18) (hw : 0 ≤ w.toInt ∧ w.toInt ≤ 2) (hB : (gi mem 221 13).toInt = B) (ht : tyS c [] = some [b]) (h6 : 0 ≤ gn (ga mem 236) (3 * B + w.toInt)) (h7 : gn (ga mem 237) (3 * B + w.toInt) = gn (ga mem 236) (3 * B + w.toInt) + (c.length : Int)) (h8 : gn (ga mem 237) (3 * B + w.toInt) ≤ 1600) (hc : ∀ i : Nat, i < c.length → cdAt B (gn (ga mem 236) (3 * B + w.toInt) + (i : Int)) mem = c.getD i 0) (hd : 4 ≤ d) : yC zpg d 218 [.ref 221, .int w] mem (fun r m => ∃ v : Int64, r = some (.long v) ∧ wI (aΘ0 E) m0 m ∧ (onl [256] mem m ∧ v.toInt = rvV env c)) := by
  obtain ⟨d, rfl⟩ : ∃ q, d = q + 4 := ⟨d - 4, by omega⟩
  have rb := mO_r13 hI.1.1
  subst hB
  refine yC_of (t := tX12_reckons) rfl rfl ?_
  refine w_rv_0 hE hI rfl rfl hw (by omega) ?_
  intro x4 e5 x6 e7 x8 e9 y10 e11 x12 e13 lo a0 a1 a2 a3 hI
  exact rv_loop hE he hn hw rfl (by omega) c [] [] 0 x12 mem lo hn6 ht trivial rfl (by omega) (by omega) (fun i hi => by
    have q := hc i hi
    rw [e13, show 1600 * (gi mem 221 13).toInt + gn (ga mem 236) (3 * (gi mem 221 13).toInt + w.toInt) + (i : Int) = 1600 * (gi mem 221 13).toInt + (gn (ga mem 236) (3 * (gi mem 221 13).toInt + w.toInt) + (i : Int)) by omega]
    exact q) (by rw [e13, h7]; omega) trivial hI onl_rf a0 a1 a2 a3
end RMC
