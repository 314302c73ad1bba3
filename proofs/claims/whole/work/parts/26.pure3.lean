def g_fl (a b c e : Int32) (i : Nat) : Int32 := if i = 0 then a else if i = 1 then b else if i = 2 then c else if i = 3 then e else nI 0
def g_half (x : Int32) : Int32 := (x.toUInt32 >>> ((nI 1).toUInt32 &&& Int32.toUInt32 31)).toInt32
/-- a private key drawn: entropy, user, which draw -/
def g_priv (lo hi : Int32) (u : Nat) (c : Int32) : Int32 := nI 2 + (g_half (g_mix (g_fl lo hi (nI u) (nI 0)) c (nI 1) (nI 0) (nI 0) 0) - g_half (g_mix (g_fl lo hi (nI u) (nI 0)) c (nI 1) (nI 0) (nI 0) 0) / nI 2147483644 * nI 2147483644)
def g_pub (x : Int32) : Int32 := g_pow (nI 7) x
def g_hash (x s r : Int32) : Int32 := g_half (g_mix (g_fl (nI 0) (nI 0) (nI 0) (nI 0)) x s r (nI 3) 0)
def g_up (z : Int64) : Int32 := (z >>> ((nI 32).toInt64 &&& 63)).toInt32
def g_tag (key : Nat → Int32) (x n pn : Int32) (z : Int64) (a b : Int32) : Int64 := g_wide (fun i => g_mix key x n pn (g_up z) i) z.toInt32 a b (nI 10)
