theorem zk_0 (a b c d e : Int32) : zRes (zboth 112 167 [.int a, .int b, .int c, .int d, .int e]) := sorry
theorem zk_15 (a : Int32) : zRes (zboth 127 257 [.int a]) := sorry
