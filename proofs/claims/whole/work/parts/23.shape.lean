/-! the two worlds: the class, and the reference -/
def shC : List Sh := [(0, 8, [(2, 1), (2, 3), (2, 12), (2, 13), (2, 17), (2, 23), (2, 26), (0, 0), (0, 0), (0, 0)]), (0, 4, [(2, 2), (0, 0), (0, 0), (0, 0), (0, 0)]), (1, 1000, []), (0, 1, [(2, 4), (2, 7), (2, 10), (2, 11), (0, 0)]), (0, 2, [(0, 0), (2, 5), (2, 6), (0, 0)]), (1, 128, []), (1, 16, []), (0, 2, [(0, 0), (2, 8), (2, 9), (0, 0)]), (1, 384, []), (1, 32, []), (1, 17, []), (1, 2448, []), (0, 5, [(0, 0), (0, 0), (2, 1), (2, 3), (0, 0), (0, 0), (0, 0), (0, 0), (0, 0), (0, 0), (0, 0), (0, 0), (0, 0)]), (0, 3, [(2, 14), (2, 1)]), (0, 2, [(0, 0), (2, 15), (2, 16), (0, 0)]), (1, 96, []), (1, 8, []), (0, 0, [(0, 0), (2, 3), (2, 18), (2, 19), (2, 20), (2, 21), (2, 22), (2, 29)]), (1, 8, []), (1, 63360, []), (1, 63360, []), (1, 720, []), (1, 5280, []), (0, 6, [(0, 0), (2, 3), (2, 17), (2, 24), (2, 25)]), (1, 56, []), (1, 672, []), (0, 7, [(0, 0), (2, 3), (2, 23), (2, 27), (2, 28), (0, 0)]), (1, 576, []), (1, 288, []), (1, 16, [])]
def shM : List Sh := [(0, 9, [(0, 0), (2, 1), (0, 0), (0, 0), (0, 0), (2, 2), (2, 3), (0, 0), (2, 4), (2, 5), (0, 0), (2, 6), (2, 7), (2, 8), (2, 9), (2, 10), (2, 11), (2, 12), (2, 13), (2, 14), (2, 15), (2, 16), (2, 17), (0, 0), (2, 18), (2, 19), (0, 0), (0, 0), (0, 0), (0, 0), (0, 0), (0, 0), (0, 0), (0, 0), (0, 0), (0, 0), (1, 0), (0, 0), (2, 20), (2, 21), (2, 22), (2, 23), (0, 0), (2, 24), (2, 25), (2, 26), (2, 27), (2, 28), (0, 0), (2, 29), (0, 0)]), (2, 1000, []), (2, 136, []), (1, 17, []), (2, 396, []), (1, 33, []), (1, 204, []), (1, 204, []), (1, 204, []), (1, 204, []), (1, 204, []), (1, 204, []), (1, 204, []), (3, 204, []), (3, 204, []), (3, 204, []), (3, 204, []), (1, 17, []), (2, 108, []), (1, 9, []), (1, 6561, []), (4, 95040, []), (4, 95040, []), (1, 70, []), (1, 120, []), (1, 120, []), (1, 120, []), (1, 1400, []), (4, 200, []), (1, 720, [])]
def zf0 (k : Nat) : Int := ([0, 1, 3, 6, 10, 15, 21, 28, 36] : List Int).getD k 0
def zf1 (k : Nat) : Int := ([0, 0, 1, 4, 10, 20, 35, 56, 84] : List Int).getD k 0
def zf2 (k : Nat) : Int := ([0, 0, 1, 5, 15, 35, 70, 126, 210] : List Int).getD k 0
def zf3 (k : Nat) : Int := ([0, 0, 0, 0, 1, 0, 1, 0, 0, 0, 1, 1] : List Int).getD k 0
def zsC : Zs := [(RX0, "SECOND", 9, fun k => Int32.ofInt (zf0 k)), (RX0, "THIRD", 9, fun k => Int32.ofInt (zf1 k)), (RX0, "FOURTH", 9, fun k => Int32.ofInt (zf2 k)), (RX1, "OF_LEAF", 12, fun k => Int32.ofInt (zf3 k))]
def zsM : Zs := []
theorem iX0 : ∀ w ∈ u_ws RX0 TX0 8, w ∈ TBL := by decide +kernel
theorem iX1 : ∀ w ∈ u_ws RX1 TX1 5, w ∈ TBL := by decide +kernel
theorem iX2 : ∀ w ∈ u_ws RX2 TX2 4, w ∈ TBL := by decide +kernel
theorem iX3 : ∀ w ∈ u_ws RX3 TX3 2, w ∈ TBL := by decide +kernel
theorem iX4 : ∀ w ∈ u_ws RX4 TX4 5, w ∈ TBL := by decide +kernel
theorem iX5 : ∀ w ∈ u_ws RX5 TX5 13, w ∈ TBL := by decide +kernel
theorem iX6 : ∀ w ∈ u_ws RX6 TX6 5, w ∈ TBL := by decide +kernel
theorem iX7 : ∀ w ∈ u_ws RX7 TX7 6, w ∈ TBL := by decide +kernel
theorem iX8 : ∀ w ∈ u_ws RX8 TX8 10, w ∈ TBL := by decide +kernel
theorem iX9 : ∀ w ∈ u_ws RX9 TX9 51, w ∈ TBL := by decide +kernel
theorem tw_maxS : Cond.static Lib.Math.max.name ∈ TBL := by decide +kernel
theorem tw_maxI : Cond.initialized "java/lang/Math" ∈ TBL := by decide +kernel
theorem tw_maxC : Cond.code Lib.Math.max.name Lib.Math.max.code 2 (some .int) ∈ TBL := by decide +kernel
theorem tw_cpN : Cond.native arraycopyName ∈ TBL := by decide +kernel
theorem tw_cpS : Cond.static arraycopyName ∈ TBL := by decide +kernel
theorem tw_cpI : Cond.initialized "java/lang/System" ∈ TBL := by decide +kernel
