/-! the shape of the world: 0 .. 24 the class's, 25 .. 50 the reference's, 51 the law's own row of longs -/
def oPS : sO := .inl (4, [.inl 1, .inl 2, .inl 3, .inl 4, .inr false, .inr false, .inr false, .inr false, .inr false, .inr false, .inr false, .inr true, .inr true])
def oPlan (r : Nat) : sO := .inl (2, [.inr false, .inr false, .inr false, .inl r])
def oPiece : sO := .inl (1, [.inr false, .inr false, .inr false, .inr false, .inr false, .inr false, .inr false, .inr false])
def oSpot : sO := .inl (3, [.inr true, .inr false, .inr false, .inr false, .inr false, .inr false, .inr false, .inr false, .inr false, .inr false, .inr false])
def oM : sO := .inl (5, [.inr false, .inr false, .inr false, .inr false, .inr false, .inl 26, .inl 27, .inl 28, .inl 29, .inl 30, .inl 31, .inr false, .inr false, .inl 32, .inl 33, .inl 34, .inl 35, .inl 36, .inl 37, .inl 38, .inr true, .inr false, .inl 39, .inl 40, .inl 41, .inl 42, .inr false, .inr true, .inr false, .inl 43, .inl 44, .inl 45, .inl 46, .inl 47, .inl 48, .inl 49, .inl 50])
def SH : List sO := [oPS, .inr (1, 6, some (some 5)), oPlan 11, oPlan 12, .inr (0, 6, none), oPiece, oPiece, oPiece, oPiece, oPiece, oPiece, .inr (2, 6, some (some 13)), .inr (2, 6, some (some 19)), oSpot, oSpot, oSpot, oSpot, oSpot, oSpot, oSpot, oSpot, oSpot, oSpot, oSpot, oSpot, oM, .inr (0, 18, none), .inr (0, 6, none), .inr (0, 6, none), .inr (0, 6, none), .inr (0, 6, none), .inr (0, 6, none), .inr (0, 6, none), .inr (0, 6, none), .inr (0, 6, none), .inr (0, 6, none), .inr (0, 6, none), .inr (0, 6, none), .inr (0, 6, none), .inr (0, 6, none), .inr (0, 6, none), .inr (0, 6, none), .inr (0, 6, none), .inr (0, 6, none), .inr (0, 7, none), .inr (0, 7, none), .inr (0, 7, none), .inr (0, 7, none), .inr (0, 168, none), .inr (0, 21, none), .inr (0, 8, none), .inr (3, 1, some none)]
theorem SH_piece {i : Nat} (h : i < 6) : SH[5 + i]? = some oPiece := by
  rcases (show i = 0 ∨ i = 1 ∨ i = 2 ∨ i = 3 ∨ i = 4 ∨ i = 5 by omega) with rfl | rfl | rfl | rfl | rfl | rfl <;> rfl
theorem SH_spot {b i : Nat} (hb : b < 2) (h : i < 6) : SH[13 + 6 * b + i]? = some oSpot := by
  rcases (show b = 0 ∨ b = 1 by omega) with rfl | rfl <;> rcases (show i = 0 ∨ i = 1 ∨ i = 2 ∨ i = 3 ∨ i = 4 ∨ i = 5 by omega) with rfl | rfl | rfl | rfl | rfl | rfl <;> rfl
theorem SH_plan {b : Nat} (hb : b < 2) : SH[2 + b]? = some (oPlan (11 + b)) := by
  rcases (show b = 0 ∨ b = 1 by omega) with rfl | rfl <;> rfl
theorem SH_spots {b : Nat} (hb : b < 2) : SH[11 + b]? = some (.inr (2, 6, some (some (13 + 6 * b)))) := by
  rcases (show b = 0 ∨ b = 1 by omega) with rfl | rfl <;> rfl
theorem ty0 (ca : Nat → ClassId) : (tys ca)[0]? = some (ca 0, .int) := rfl
theorem ty1 (ca : Nat → ClassId) : (tys ca)[1]? = some (ca 1, .object "PackingSearch$Piece") := rfl
theorem ty2 (ca : Nat → ClassId) : (tys ca)[2]? = some (ca 2, .object "PackingSearch$Spot") := rfl
theorem ty3 (ca : Nat → ClassId) : (tys ca)[3]? = some (ca 3, .long) := rfl
theorem inWSX0 : ∀ w ∈ u_ws RX0 TX0 8, w ∈ WS := by decide +kernel
theorem inWSX1 : ∀ w ∈ u_ws RX1 TX1 4, w ∈ WS := by decide +kernel
theorem inWSX2 : ∀ w ∈ u_ws RX2 TX2 11, w ∈ WS := by decide +kernel
theorem inWSX3 : ∀ w ∈ u_ws RX3 TX3 13, w ∈ WS := by decide +kernel
theorem inWSX4 : ∀ w ∈ u_ws RX4 TX4 37, w ∈ WS := by decide +kernel
