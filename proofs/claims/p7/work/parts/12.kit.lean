abbrev zXS : Type := (Nat → Int32) × (Nat → Int64) × (Nat → Nat → Int32) × (Nat → Nat → Int64)
def zup {T : Type} (f : Nat → T) (k : Nat) (v : T) : Nat → T := fun j => cond (Nat.beq j k) v (f j)
def zXW (cA : zCA) (x0 : Nat) (ad : Nat → Nat) (tf kh ko kr : Nat → Option Nat) (x : zXS) : va_W := [(x0, .inr (11, [.int (x.1 0), .long (x.2.1 0), .long (x.2.1 1), .ref (ad 0), .ref (ad 1), .ref (ad 2), .ref (ad 3), .ref (ad 4), .ref (ad 5), .ref (ad 6), .ref (ad 7), .ref (ad 8), .ref (ad 9), .ref (ad 10), .int (x.1 1), .ref (ad 11), .ref (ad 12), .ref (ad 13)])), ((ad 2), .inr (2, [.int (x.1 2), .ref (ad 14), .ref (ad 15), .ref (ad 16), .ref (ad 17), .int (x.1 3), .ref (ad 18), .int (x.1 4), .int (x.1 5), .ref (ad 19), .ref (ad 20), .int (x.1 6), .ref (ad 21), .ref (ad 22), .ref (ad 23), .int (x.1 7), .int (x.1 8), .ref (ad 24)])), ((ad 14), .inl (cA.1 1, 3, .inr (.inl (x.2.2.2 0)))), ((ad 15), .inl (cA.1 0, 3, .inl (x.2.2.1 0))), ((ad 16), .inl (cA.1 0, 3, .inl (x.2.2.1 1))), ((ad 17), .inl (cA.1 0, 48, .inl (x.2.2.1 2))), ((ad 18), .inl (cA.1 0, 30, .inl (x.2.2.1 3))), ((ad 19), .inl (cA.1 0, 30, .inl (x.2.2.1 4))), ((ad 20), .inl (cA.1 0, 3, .inl (x.2.2.1 5))), ((ad 21), .inl (cA.1 0, 5, .inl (x.2.2.1 6))), ((ad 22), .inl (cA.1 0, 5, .inl (x.2.2.1 7))), ((ad 23), .inl (cA.1 0, 4, .inl (x.2.2.1 8))), ((ad 24), .inl (cA.1 0, 12, .inl (x.2.2.1 9))), ((ad 3), .inr (9, [.ref (ad 2), .int (x.1 9), .int (x.1 10), .ref (ad 25), .ref (ad 26), .ref (ad 27)])), ((ad 25), .inl (cA.1 0, 10, .inl (x.2.2.1 10))), ((ad 26), .inl (cA.1 1, 20, .inr (.inl (x.2.2.2 1)))), ((ad 27), .inl (cA.1 1, 20, .inr (.inl (x.2.2.2 2)))), ((ad 4), .inr (5, [.int (x.1 11), .int (x.1 12), .int (x.1 13), .ref (ad 28), .ref (ad 29), .ref (ad 30), .ref (ad 31), .ref (ad 32)])), ((ad 28), .inl (cA.1 0, 60, .inl (x.2.2.1 11))), ((ad 29), .inl (cA.1 0, 60, .inl (x.2.2.1 12))), ((ad 30), .inl (cA.1 0, 60, .inl (x.2.2.1 13))), ((ad 31), .inl (cA.1 0, 60, .inl (x.2.2.1 14))), ((ad 32), .inl (cA.1 0, 60, .inl (x.2.2.1 15))), ((ad 1), .inr (8, [.ref (ad 33), .int (x.1 14), .int (x.1 15), .int (x.1 16), .int (x.1 17), .int (x.1 18), .int (x.1 19), .int (x.1 20), .long (x.2.1 2), .int (x.1 21), .int (x.1 22)])), ((ad 33), .inl (cA.1 2, 900, .inl (x.2.2.1 16))), ((ad 7), .inr (7, [.ref (ad 2), .ref (ad 34), .int (x.1 23), .ref (ad 35), .int (x.1 24), .ref (ad 36), .ref (ad 37), .ref (ad 38), .ref (ad 39), .long (x.2.1 3), .long (x.2.1 4)])), ((ad 34), .inl (cA.1 0, 10, .inl (x.2.2.1 17))), ((ad 35), .inl (cA.1 0, 10, .inl (x.2.2.1 18))), ((ad 36), .inl (cA.1 0, 3, .inl (x.2.2.1 19))), ((ad 37), .inl (cA.1 0, 3, .inl (x.2.2.1 20))), ((ad 38), .inl (cA.1 0, 3, .inl (x.2.2.1 21))), ((ad 39), .inl (cA.1 3, 3, .inl (x.2.2.1 22))), ((ad 8), .inr (4, [.ref (ad 2), .ref (ad 40), .int (x.1 25)])), ((ad 40), .inl (cA.1 0, 10, .inl (x.2.2.1 23))), ((ad 9), .inr (0, [.ref (ad 2), .ref (ad 3), .ref (ad 41), .int (x.1 26), .int (x.1 27), .long (x.2.1 5), .int (x.1 28)])), ((ad 41), .inl (cA.1 1, 100, .inr (.inl (x.2.2.2 3)))), ((ad 10), .inr (1, [.ref (ad 2), .ref (ad 4), .ref (ad 42), .ref (ad 43), .ref (ad 44), .int (x.1 29), .int (x.1 30), .int (x.1 31), .int (x.1 32), .int (x.1 33), .int (x.1 34), .int (x.1 35), .int (x.1 36), .long (x.2.1 6), .int (x.1 37), .int (x.1 38), .int (x.1 39), .int (x.1 40), .ref (ad 45), .int (x.1 41)])), ((ad 43), .inl (cA.1 0, 60, .inl (x.2.2.1 24))), ((ad 44), .inl (cA.1 0, 3, .inl (x.2.2.1 25))), ((ad 45), .inl (cA.1 0, 7, .inl (x.2.2.1 26))), ((ad 42), .inr (9, [.ref (ad 2), .int (x.1 42), .int (x.1 43), .ref (ad 46), .ref (ad 47), .ref (ad 48)])), ((ad 46), .inl (cA.1 0, 10, .inl (x.2.2.1 27))), ((ad 47), .inl (cA.1 1, 20, .inr (.inl (x.2.2.2 4)))), ((ad 48), .inl (cA.1 1, 20, .inr (.inl (x.2.2.2 5)))), ((ad 5), .inr (3, [.ref (ad 1), .ref (ad 49), .ref (ad 50), .ref (ad 51), .ref (ad 52), .ref (ad 53), .int (x.1 44), .int (x.1 45), .int (x.1 46), .int (x.1 47)])), ((ad 50), .inl (cA.1 1, 3, .inr (.inl (x.2.2.2 6)))), ((ad 51), .inl (cA.1 1, 10, .inr (.inl (x.2.2.2 7)))), ((ad 52), .inl (cA.1 1, 3, .inr (.inl (x.2.2.2 8)))), ((ad 53), .inl (cA.1 1, 5, .inr (.inl (x.2.2.2 9)))), ((ad 49), .inr (2, [.int (x.1 48), .ref (ad 54), .ref (ad 55), .ref (ad 56), .ref (ad 57), .int (x.1 49), .ref (ad 58), .int (x.1 50), .int (x.1 51), .ref (ad 59), .ref (ad 60), .int (x.1 52), .ref (ad 61), .ref (ad 62), .ref (ad 63), .int (x.1 53), .int (x.1 54), .ref (ad 64)])), ((ad 54), .inl (cA.1 1, 3, .inr (.inl (x.2.2.2 10)))), ((ad 55), .inl (cA.1 0, 3, .inl (x.2.2.1 28))), ((ad 56), .inl (cA.1 0, 3, .inl (x.2.2.1 29))), ((ad 57), .inl (cA.1 0, 48, .inl (x.2.2.1 30))), ((ad 58), .inl (cA.1 0, 30, .inl (x.2.2.1 31))), ((ad 59), .inl (cA.1 0, 30, .inl (x.2.2.1 32))), ((ad 60), .inl (cA.1 0, 3, .inl (x.2.2.1 33))), ((ad 61), .inl (cA.1 0, 5, .inl (x.2.2.1 34))), ((ad 62), .inl (cA.1 0, 5, .inl (x.2.2.1 35))), ((ad 63), .inl (cA.1 0, 4, .inl (x.2.2.1 36))), ((ad 64), .inl (cA.1 0, 12, .inl (x.2.2.1 37))), ((ad 6), .inr (6, [.ref (ad 1), .ref (ad 2), .ref (ad 65), .ref (ad 66), .int (x.1 55)])), ((ad 66), .inl (cA.1 0, 3, .inl (x.2.2.1 38))), ((ad 65), .inr (5, [.int (x.1 56), .int (x.1 57), .int (x.1 58), .ref (ad 67), .ref (ad 68), .ref (ad 69), .ref (ad 70), .ref (ad 71)])), ((ad 67), .inl (cA.1 0, 60, .inl (x.2.2.1 39))), ((ad 68), .inl (cA.1 0, 60, .inl (x.2.2.1 40))), ((ad 69), .inl (cA.1 0, 60, .inl (x.2.2.1 41))), ((ad 70), .inl (cA.1 0, 60, .inl (x.2.2.1 42))), ((ad 71), .inl (cA.1 0, 60, .inl (x.2.2.1 43))), ((ad 0), .inl (cA.1 4, 4, .inr (.inr (.inr (.inr tf))))), ((ad 72), .inr (10, [.int (x.1 59), .int (x.1 60), .ref (ad 73)])), ((ad 73), .inl (cA.1 1, 60, .inr (.inl (x.2.2.2 11)))), ((ad 74), .inr (10, [.int (x.1 61), .int (x.1 62), .ref (ad 75)])), ((ad 75), .inl (cA.1 1, 60, .inr (.inl (x.2.2.2 12)))), ((ad 76), .inr (10, [.int (x.1 63), .int (x.1 64), .ref (ad 77)])), ((ad 77), .inl (cA.1 1, 60, .inr (.inl (x.2.2.2 13)))), ((ad 78), .inr (10, [.int (x.1 65), .int (x.1 66), .ref (ad 79)])), ((ad 79), .inl (cA.1 1, 60, .inr (.inl (x.2.2.2 14)))), ((ad 11), .inl (cA.1 5, 3, .inr (.inr (.inr (.inr kh))))), ((ad 12), .inl (cA.1 6, 3, .inr (.inr (.inr (.inr ko))))), ((ad 13), .inl (cA.1 7, 3, .inr (.inr (.inr (.inr kr))))), ((ad 80), .inr (2, [.int (x.1 67), .ref (ad 81), .ref (ad 82), .ref (ad 83), .ref (ad 84), .int (x.1 68), .ref (ad 85), .int (x.1 69), .int (x.1 70), .ref (ad 86), .ref (ad 87), .int (x.1 71), .ref (ad 88), .ref (ad 89), .ref (ad 90), .int (x.1 72), .int (x.1 73), .ref (ad 91)])), ((ad 81), .inl (cA.1 1, 3, .inr (.inl (x.2.2.2 15)))), ((ad 82), .inl (cA.1 0, 3, .inl (x.2.2.1 44))), ((ad 83), .inl (cA.1 0, 3, .inl (x.2.2.1 45))), ((ad 84), .inl (cA.1 0, 48, .inl (x.2.2.1 46))), ((ad 85), .inl (cA.1 0, 30, .inl (x.2.2.1 47))), ((ad 86), .inl (cA.1 0, 30, .inl (x.2.2.1 48))), ((ad 87), .inl (cA.1 0, 3, .inl (x.2.2.1 49))), ((ad 88), .inl (cA.1 0, 5, .inl (x.2.2.1 50))), ((ad 89), .inl (cA.1 0, 5, .inl (x.2.2.1 51))), ((ad 90), .inl (cA.1 0, 4, .inl (x.2.2.1 52))), ((ad 91), .inl (cA.1 0, 12, .inl (x.2.2.1 53))), ((ad 92), .inr (9, [.ref (ad 2), .int (x.1 74), .int (x.1 75), .ref (ad 93), .ref (ad 94), .ref (ad 95)])), ((ad 93), .inl (cA.1 0, 10, .inl (x.2.2.1 54))), ((ad 94), .inl (cA.1 1, 20, .inr (.inl (x.2.2.2 16)))), ((ad 96), .inr (5, [.int (x.1 76), .int (x.1 77), .int (x.1 78), .ref (ad 97), .ref (ad 98), .ref (ad 99), .ref (ad 100), .ref (ad 101)])), ((ad 97), .inl (cA.1 0, 60, .inl (x.2.2.1 55))), ((ad 98), .inl (cA.1 0, 60, .inl (x.2.2.1 56))), ((ad 99), .inl (cA.1 0, 60, .inl (x.2.2.1 57))), ((ad 100), .inl (cA.1 0, 60, .inl (x.2.2.1 58))), ((ad 101), .inl (cA.1 0, 60, .inl (x.2.2.1 59))), ((ad 102), .inr (2, [.int (x.1 79), .ref (ad 103), .ref (ad 104), .ref (ad 105), .ref (ad 106), .int (x.1 80), .ref (ad 107), .int (x.1 81), .int (x.1 82), .ref (ad 108), .ref (ad 109), .int (x.1 83), .ref (ad 110), .ref (ad 111), .ref (ad 112), .int (x.1 84), .int (x.1 85), .ref (ad 113)])), ((ad 103), .inl (cA.1 1, 3, .inr (.inl (x.2.2.2 17)))), ((ad 104), .inl (cA.1 0, 3, .inl (x.2.2.1 60))), ((ad 105), .inl (cA.1 0, 3, .inl (x.2.2.1 61))), ((ad 106), .inl (cA.1 0, 48, .inl (x.2.2.1 62))), ((ad 107), .inl (cA.1 0, 30, .inl (x.2.2.1 63))), ((ad 108), .inl (cA.1 0, 30, .inl (x.2.2.1 64))), ((ad 109), .inl (cA.1 0, 3, .inl (x.2.2.1 65))), ((ad 110), .inl (cA.1 0, 5, .inl (x.2.2.1 66))), ((ad 111), .inl (cA.1 0, 5, .inl (x.2.2.1 67))), ((ad 112), .inl (cA.1 0, 4, .inl (x.2.2.1 68))), ((ad 113), .inl (cA.1 0, 12, .inl (x.2.2.1 69))), ((ad 114), .inr (9, [.ref (ad 2), .int (x.1 86), .int (x.1 87), .ref (ad 115), .ref (ad 116), .ref (ad 117)])), ((ad 115), .inl (cA.1 0, 10, .inl (x.2.2.1 70))), ((ad 116), .inl (cA.1 1, 20, .inr (.inl (x.2.2.2 18)))), ((ad 118), .inr (5, [.int (x.1 88), .int (x.1 89), .int (x.1 90), .ref (ad 119), .ref (ad 120), .ref (ad 121), .ref (ad 122), .ref (ad 123)])), ((ad 119), .inl (cA.1 0, 60, .inl (x.2.2.1 71))), ((ad 120), .inl (cA.1 0, 60, .inl (x.2.2.1 72))), ((ad 121), .inl (cA.1 0, 60, .inl (x.2.2.1 73))), ((ad 122), .inl (cA.1 0, 60, .inl (x.2.2.1 74))), ((ad 123), .inl (cA.1 0, 60, .inl (x.2.2.1 75))), ((ad 124), .inr (2, [.int (x.1 91), .ref (ad 125), .ref (ad 126), .ref (ad 127), .ref (ad 128), .int (x.1 92), .ref (ad 129), .int (x.1 93), .int (x.1 94), .ref (ad 130), .ref (ad 131), .int (x.1 95), .ref (ad 132), .ref (ad 133), .ref (ad 134), .int (x.1 96), .int (x.1 97), .ref (ad 135)])), ((ad 125), .inl (cA.1 1, 3, .inr (.inl (x.2.2.2 19)))), ((ad 126), .inl (cA.1 0, 3, .inl (x.2.2.1 76))), ((ad 127), .inl (cA.1 0, 3, .inl (x.2.2.1 77))), ((ad 128), .inl (cA.1 0, 48, .inl (x.2.2.1 78))), ((ad 129), .inl (cA.1 0, 30, .inl (x.2.2.1 79))), ((ad 130), .inl (cA.1 0, 30, .inl (x.2.2.1 80))), ((ad 131), .inl (cA.1 0, 3, .inl (x.2.2.1 81))), ((ad 132), .inl (cA.1 0, 5, .inl (x.2.2.1 82))), ((ad 133), .inl (cA.1 0, 5, .inl (x.2.2.1 83))), ((ad 134), .inl (cA.1 0, 4, .inl (x.2.2.1 84))), ((ad 135), .inl (cA.1 0, 12, .inl (x.2.2.1 85))), ((ad 136), .inr (9, [.ref (ad 2), .int (x.1 98), .int (x.1 99), .ref (ad 137), .ref (ad 138), .ref (ad 139)])), ((ad 137), .inl (cA.1 0, 10, .inl (x.2.2.1 86))), ((ad 138), .inl (cA.1 1, 20, .inr (.inl (x.2.2.2 20)))), ((ad 140), .inr (5, [.int (x.1 100), .int (x.1 101), .int (x.1 102), .ref (ad 141), .ref (ad 142), .ref (ad 143), .ref (ad 144), .ref (ad 145)])), ((ad 141), .inl (cA.1 0, 60, .inl (x.2.2.1 87))), ((ad 142), .inl (cA.1 0, 60, .inl (x.2.2.1 88))), ((ad 143), .inl (cA.1 0, 60, .inl (x.2.2.1 89))), ((ad 144), .inl (cA.1 0, 60, .inl (x.2.2.1 90))), ((ad 145), .inl (cA.1 0, 60, .inl (x.2.2.1 91)))]
def zMW (cA : zCA) (m0 : Nat) (am : Nat → Nat) (y : zXS) : va_W := [(m0, .inr (12, [.int (y.1 0), .int (y.1 1), .long (y.2.1 0), .long (y.2.1 1), .ref (am 0), .ref (am 1), .ref (am 2), .ref (am 3), .int (y.1 2), .int (y.1 3), .int (y.1 4), .int (y.1 5), .int (y.1 6), .int (y.1 7), .int (y.1 8), .int (y.1 9), .int (y.1 10), .int (y.1 11), .int (y.1 12), .long (y.2.1 2), .ref (am 4), .ref (am 5), .int (y.1 13), .ref (am 6), .ref (am 7), .ref (am 8), .ref (am 9), .int (y.1 14), .int (y.1 15), .int (y.1 16), .int (y.1 17), .int (y.1 18), .int (y.1 19), .long (y.2.1 3), .long (y.2.1 4), .ref (am 10), .ref (am 11), .int (y.1 20), .int (y.1 21), .int (y.1 22), .int (y.1 23), .int (y.1 24), .int (y.1 25), .int (y.1 26), .int (y.1 27), .int (y.1 28), .int (y.1 29), .int (y.1 30), .int (y.1 31), .int (y.1 32), .int (y.1 33), .ref (am 12), .ref (am 13), .ref (am 14), .int (y.1 34), .int (y.1 35), .int (y.1 36), .ref (am 15), .ref (am 16), .int (y.1 37), .long (y.2.1 5), .long (y.2.1 6), .ref (am 17), .int (y.1 38), .int (y.1 39)])), ((am 0), .inl (cA.1 0, 4, .inl (y.2.2.1 0))), ((am 1), .inl (cA.1 0, 4, .inl (y.2.2.1 1))), ((am 2), .inl (cA.1 1, 240, .inr (.inl (y.2.2.2 0)))), ((am 3), .inl (cA.1 2, 900, .inl (y.2.2.1 2))), ((am 4), .inl (cA.1 0, 1825, .inl (y.2.2.1 3))), ((am 5), .inl (cA.1 1, 105, .inr (.inl (y.2.2.2 1)))), ((am 6), .inl (cA.1 0, 10, .inl (y.2.2.1 4))), ((am 7), .inl (cA.1 0, 10, .inl (y.2.2.1 5))), ((am 8), .inl (cA.1 0, 10, .inl (y.2.2.1 6))), ((am 9), .inl (cA.1 0, 10, .inl (y.2.2.1 7))), ((am 10), .inl (cA.1 1, 100, .inr (.inl (y.2.2.2 2)))), ((am 11), .inl (cA.1 1, 20, .inr (.inl (y.2.2.2 3)))), ((am 12), .inl (cA.1 0, 3, .inl (y.2.2.1 8))), ((am 13), .inl (cA.1 0, 7, .inl (y.2.2.1 9))), ((am 14), .inl (cA.1 0, 20, .inl (y.2.2.1 10))), ((am 15), .inl (cA.1 3, 3, .inl (y.2.2.1 11))), ((am 16), .inl (cA.1 3, 10, .inl (y.2.2.1 12))), ((am 17), .inl (cA.1 0, 10, .inl (y.2.2.1 13)))]
abbrev zXH (x : zXS) : Prop := (0 ≤ (x.1 2).toInt ∧ (x.1 2).toInt ≤ 3) ∧ (zOM (x.2.2.1 5)) ∧ ((x.1 13) = 0 ∨ (x.1 13) = 1) ∧ ((x.1 29) = 0 ∨ (x.1 29) = 1) ∧ ((x.1 35) = 0 ∨ (x.1 35) = 1) ∧ ((x.1 36) = 0 ∨ (x.1 36) = 1) ∧ ((x.1 40) = 0 ∨ (x.1 40) = 1) ∧ ((x.1 41) = 0 ∨ (x.1 41) = 1) ∧ ((x.1 46) = 0 ∨ (x.1 46) = 1) ∧ ((x.1 47) = 0 ∨ (x.1 47) = 1) ∧ (0 ≤ (x.1 48).toInt ∧ (x.1 48).toInt ≤ 3) ∧ (zOM (x.2.2.1 33)) ∧ ((x.1 58) = 0 ∨ (x.1 58) = 1) ∧ (-1 ≤ (x.1 60).toInt ∧ (x.1 60).toInt ≤ 60) ∧ (-1 ≤ (x.1 62).toInt ∧ (x.1 62).toInt ≤ 60) ∧ (-1 ≤ (x.1 64).toInt ∧ (x.1 64).toInt ≤ 60) ∧ (-1 ≤ (x.1 66).toInt ∧ (x.1 66).toInt ≤ 60) ∧ (0 ≤ (x.1 67).toInt ∧ (x.1 67).toInt ≤ 3) ∧ (zOM (x.2.2.1 49)) ∧ ((x.1 78) = 0 ∨ (x.1 78) = 1) ∧ (0 ≤ (x.1 79).toInt ∧ (x.1 79).toInt ≤ 3) ∧ (zOM (x.2.2.1 65)) ∧ ((x.1 90) = 0 ∨ (x.1 90) = 1) ∧ (0 ≤ (x.1 91).toInt ∧ (x.1 91).toInt ≤ 3) ∧ (zOM (x.2.2.1 81)) ∧ ((x.1 102) = 0 ∨ (x.1 102) = 1)
theorem zXH_hm_h_features {x : zXS} (h : zXH x) : 0 ≤ (x.1 2).toInt ∧ (x.1 2).toInt ≤ 3 := h.1
theorem zXH_hO_c_h_onMany {x : zXS} (h : zXH x) : zOM (x.2.2.1 5) := h.2.1
theorem zXH_hz_r_asksSure {x : zXS} (h : zXH x) : (x.1 13) = 0 ∨ (x.1 13) = 1 := h.2.2.1
theorem zXH_hz_ga_triedHere {x : zXS} (h : zXH x) : (x.1 29) = 0 ∨ (x.1 29) = 1 := h.2.2.2.1
theorem zXH_hz_ga_isOver {x : zXS} (h : zXH x) : (x.1 35) = 0 ∨ (x.1 35) = 1 := h.2.2.2.2.1
theorem zXH_hz_ga_open {x : zXS} (h : zXH x) : (x.1 36) = 0 ∨ (x.1 36) = 1 := h.2.2.2.2.2.1
theorem zXH_hz_ga_cutOff {x : zXS} (h : zXH x) : (x.1 40) = 0 ∨ (x.1 40) = 1 := h.2.2.2.2.2.2.1
theorem zXH_hz_ga_isKept {x : zXS} (h : zXH x) : (x.1 41) = 0 ∨ (x.1 41) = 1 := h.2.2.2.2.2.2.2.1
theorem zXH_hz_hr_secondsTold {x : zXS} (h : zXH x) : (x.1 46) = 0 ∨ (x.1 46) = 1 := h.2.2.2.2.2.2.2.2.1
theorem zXH_hz_hr_turnedTold {x : zXS} (h : zXH x) : (x.1 47) = 0 ∨ (x.1 47) = 1 := h.2.2.2.2.2.2.2.2.2.1
theorem zXH_hm_hf_features {x : zXS} (h : zXH x) : 0 ≤ (x.1 48).toInt ∧ (x.1 48).toInt ≤ 3 := h.2.2.2.2.2.2.2.2.2.2.1
theorem zXH_hO_c_hf_onMany {x : zXS} (h : zXH x) : zOM (x.2.2.1 33) := h.2.2.2.2.2.2.2.2.2.2.2.1
theorem zXH_hz_rf_asksSure {x : zXS} (h : zXH x) : (x.1 58) = 0 ∨ (x.1 58) = 1 := h.2.2.2.2.2.2.2.2.2.2.2.2.1
theorem zXH_hm_T0_many {x : zXS} (h : zXH x) : -1 ≤ (x.1 60).toInt ∧ (x.1 60).toInt ≤ 60 := h.2.2.2.2.2.2.2.2.2.2.2.2.2.1
theorem zXH_hm_T1_many {x : zXS} (h : zXH x) : -1 ≤ (x.1 62).toInt ∧ (x.1 62).toInt ≤ 60 := h.2.2.2.2.2.2.2.2.2.2.2.2.2.2.1
theorem zXH_hm_T2_many {x : zXS} (h : zXH x) : -1 ≤ (x.1 64).toInt ∧ (x.1 64).toInt ≤ 60 := h.2.2.2.2.2.2.2.2.2.2.2.2.2.2.2.1
theorem zXH_hm_T3_many {x : zXS} (h : zXH x) : -1 ≤ (x.1 66).toInt ∧ (x.1 66).toInt ≤ 60 := h.2.2.2.2.2.2.2.2.2.2.2.2.2.2.2.2.1
theorem zXH_hm_kh0_features {x : zXS} (h : zXH x) : 0 ≤ (x.1 67).toInt ∧ (x.1 67).toInt ≤ 3 := h.2.2.2.2.2.2.2.2.2.2.2.2.2.2.2.2.2.1
theorem zXH_hO_c_kh0_onMany {x : zXS} (h : zXH x) : zOM (x.2.2.1 49) := h.2.2.2.2.2.2.2.2.2.2.2.2.2.2.2.2.2.2.1
theorem zXH_hz_kr0_asksSure {x : zXS} (h : zXH x) : (x.1 78) = 0 ∨ (x.1 78) = 1 := h.2.2.2.2.2.2.2.2.2.2.2.2.2.2.2.2.2.2.2.1
theorem zXH_hm_kh1_features {x : zXS} (h : zXH x) : 0 ≤ (x.1 79).toInt ∧ (x.1 79).toInt ≤ 3 := h.2.2.2.2.2.2.2.2.2.2.2.2.2.2.2.2.2.2.2.2.1
theorem zXH_hO_c_kh1_onMany {x : zXS} (h : zXH x) : zOM (x.2.2.1 65) := h.2.2.2.2.2.2.2.2.2.2.2.2.2.2.2.2.2.2.2.2.2.1
theorem zXH_hz_kr1_asksSure {x : zXS} (h : zXH x) : (x.1 90) = 0 ∨ (x.1 90) = 1 := h.2.2.2.2.2.2.2.2.2.2.2.2.2.2.2.2.2.2.2.2.2.2.1
theorem zXH_hm_kh2_features {x : zXS} (h : zXH x) : 0 ≤ (x.1 91).toInt ∧ (x.1 91).toInt ≤ 3 := h.2.2.2.2.2.2.2.2.2.2.2.2.2.2.2.2.2.2.2.2.2.2.2.1
theorem zXH_hO_c_kh2_onMany {x : zXS} (h : zXH x) : zOM (x.2.2.1 81) := h.2.2.2.2.2.2.2.2.2.2.2.2.2.2.2.2.2.2.2.2.2.2.2.2.1
theorem zXH_hz_kr2_asksSure {x : zXS} (h : zXH x) : (x.1 102) = 0 ∨ (x.1 102) = 1 := h.2.2.2.2.2.2.2.2.2.2.2.2.2.2.2.2.2.2.2.2.2.2.2.2.2
abbrev zMH (y : zXS) : Prop := (0 ≤ (y.1 14).toInt ∧ (y.1 14).toInt ≤ 10) ∧ (0 ≤ (y.1 15).toInt ∧ (y.1 15).toInt ≤ 10) ∧ (0 ≤ (y.1 18).toInt ∧ (y.1 18).toInt ≤ 10) ∧ (0 ≤ (y.1 38).toInt ∧ (y.1 38).toInt ≤ 3) ∧ (0 ≤ (y.1 13).toInt ∧ (y.1 13).toInt ≤ 3) ∧ (0 ≤ (y.1 2).toInt ∧ (y.1 2).toInt ≤ 900) ∧ (0 ≤ (y.1 3).toInt ∧ (y.1 3).toInt ≤ 900) ∧ (0 ≤ (y.1 9).toInt ∧ (y.1 9).toInt ≤ 900) ∧ (0 ≤ (y.1 10).toInt ∧ (y.1 10).toInt ≤ 900) ∧ (0 ≤ (y.1 6).toInt ∧ (y.1 6).toInt ≤ 9) ∧ (0 ≤ (y.1 8).toInt ∧ (y.1 8).toInt ≤ 4) ∧ (0 ≤ (y.1 11).toInt ∧ (y.1 11).toInt ≤ 9999) ∧ (0 ≤ (y.1 12).toInt ∧ (y.1 12).toInt ≤ 900) ∧ (0 ≤ (y.1 39).toInt ∧ (y.1 39).toInt ≤ 30) ∧ (0 ≤ (y.1 24).toInt ∧ (y.1 24).toInt ≤ 200) ∧ (0 ≤ (y.1 20).toInt ∧ (y.1 20).toInt ≤ 65535) ∧ (0 ≤ (y.1 21).toInt ∧ (y.1 21).toInt ≤ 9) ∧ (0 ≤ (y.1 22).toInt ∧ (y.1 22).toInt ≤ 1) ∧ (0 ≤ (y.1 28).toInt ∧ (y.1 28).toInt ≤ 4) ∧ (0 ≤ (y.1 27).toInt ∧ (y.1 27).toInt ≤ 1) ∧ (0 ≤ (y.1 16).toInt ∧ (y.1 16).toInt ≤ 2) ∧ (0 ≤ (y.1 19).toInt ∧ (y.1 19).toInt ≤ 1) ∧ ((y.1 19) = 0 ∨ (y.1 19) = 1) ∧ ((y.1 30) = 0 ∨ (y.1 30) = 1) ∧ ((y.1 31) = 0 ∨ (y.1 31) = 1) ∧ ((y.1 32) = 0 ∨ (y.1 32) = 1) ∧ ((y.1 33) = 0 ∨ (y.1 33) = 1) ∧ ((y.1 34) = 0 ∨ (y.1 34) = 1) ∧ ((y.1 35) = 0 ∨ (y.1 35) = 1) ∧ ((y.1 36) = 0 ∨ (y.1 36) = 1) ∧ (zRg 4 (-1) 60 (y.2.2.1 1)) ∧ (zC (y.2.2.1 3)) ∧ (zRg 10 0 9 (y.2.2.1 4)) ∧ (zRg 10 0 9 (y.2.2.1 5)) ∧ (zRg 10 0 9 (y.2.2.1 6)) ∧ (zRg 10 0 9 (y.2.2.1 7)) ∧ (zRg 3 0 1 (y.2.2.1 11)) ∧ (zRg 10 0 1 (y.2.2.1 12)) ∧ (zRg 10 0 9 (y.2.2.1 13))
theorem zMH_hr_m_thereMany {y : zXS} (h : zMH y) : 0 ≤ (y.1 14).toInt ∧ (y.1 14).toInt ≤ 10 := h.1
theorem zMH_hr_m_foundMany {y : zXS} (h : zMH y) : 0 ≤ (y.1 15).toInt ∧ (y.1 15).toInt ≤ 10 := h.2.1
theorem zMH_hr_m_orderMany {y : zXS} (h : zMH y) : 0 ≤ (y.1 18).toInt ∧ (y.1 18).toInt ≤ 10 := h.2.2.1
theorem zMH_hr_m_rowMany {y : zXS} (h : zMH y) : 0 ≤ (y.1 38).toInt ∧ (y.1 38).toInt ≤ 3 := h.2.2.2.1
theorem zMH_hr_m_markMany {y : zXS} (h : zMH y) : 0 ≤ (y.1 13).toInt ∧ (y.1 13).toInt ≤ 3 := h.2.2.2.2.1
theorem zMH_hr_m_taped {y : zXS} (h : zMH y) : 0 ≤ (y.1 2).toInt ∧ (y.1 2).toInt ≤ 900 := h.2.2.2.2.2.1
theorem zMH_hr_m_textEnd {y : zXS} (h : zMH y) : 0 ≤ (y.1 3).toInt ∧ (y.1 3).toInt ≤ 900 := h.2.2.2.2.2.2.1
theorem zMH_hr_m_at {y : zXS} (h : zMH y) : 0 ≤ (y.1 9).toInt ∧ (y.1 9).toInt ≤ 900 := h.2.2.2.2.2.2.2.1
theorem zMH_hr_m_behind {y : zXS} (h : zMH y) : 0 ≤ (y.1 10).toInt ∧ (y.1 10).toInt ≤ 900 := h.2.2.2.2.2.2.2.2.1
theorem zMH_hr_m_bad {y : zXS} (h : zMH y) : 0 ≤ (y.1 6).toInt ∧ (y.1 6).toInt ≤ 9 := h.2.2.2.2.2.2.2.2.2.1
theorem zMH_hr_m_token {y : zXS} (h : zMH y) : 0 ≤ (y.1 8).toInt ∧ (y.1 8).toInt ≤ 4 := h.2.2.2.2.2.2.2.2.2.2.1
theorem zMH_hr_m_number {y : zXS} (h : zMH y) : 0 ≤ (y.1 11).toInt ∧ (y.1 11).toInt ≤ 9999 := h.2.2.2.2.2.2.2.2.2.2.2.1
theorem zMH_hr_m_letters {y : zXS} (h : zMH y) : 0 ≤ (y.1 12).toInt ∧ (y.1 12).toInt ≤ 900 := h.2.2.2.2.2.2.2.2.2.2.2.2.1
theorem zMH_hr_m_newSteps {y : zXS} (h : zMH y) : 0 ≤ (y.1 39).toInt ∧ (y.1 39).toInt ≤ 30 := h.2.2.2.2.2.2.2.2.2.2.2.2.2.1
theorem zMH_hr_m_done {y : zXS} (h : zMH y) : 0 ≤ (y.1 24).toInt ∧ (y.1 24).toInt ≤ 200 := h.2.2.2.2.2.2.2.2.2.2.2.2.2.2.1
theorem zMH_hr_m_random {y : zXS} (h : zMH y) : 0 ≤ (y.1 20).toInt ∧ (y.1 20).toInt ≤ 65535 := h.2.2.2.2.2.2.2.2.2.2.2.2.2.2.2.1
theorem zMH_hr_m_truePlace {y : zXS} (h : zMH y) : 0 ≤ (y.1 21).toInt ∧ (y.1 21).toInt ≤ 9 := h.2.2.2.2.2.2.2.2.2.2.2.2.2.2.2.2.1
theorem zMH_hr_m_trueWay {y : zXS} (h : zMH y) : 0 ≤ (y.1 22).toInt ∧ (y.1 22).toInt ≤ 1 := h.2.2.2.2.2.2.2.2.2.2.2.2.2.2.2.2.2.1
theorem zMH_hr_m_playDoor {y : zXS} (h : zMH y) : 0 ≤ (y.1 28).toInt ∧ (y.1 28).toInt ≤ 4 := h.2.2.2.2.2.2.2.2.2.2.2.2.2.2.2.2.2.2.1
theorem zMH_hr_m_leftOver {y : zXS} (h : zMH y) : 0 ≤ (y.1 27).toInt ∧ (y.1 27).toInt ≤ 1 := h.2.2.2.2.2.2.2.2.2.2.2.2.2.2.2.2.2.2.2.1
theorem zMH_hr_m_orderHow {y : zXS} (h : zMH y) : 0 ≤ (y.1 16).toInt ∧ (y.1 16).toInt ≤ 2 := h.2.2.2.2.2.2.2.2.2.2.2.2.2.2.2.2.2.2.2.2.1
theorem zMH_hr_m_hasBest {y : zXS} (h : zMH y) : 0 ≤ (y.1 19).toInt ∧ (y.1 19).toInt ≤ 1 := h.2.2.2.2.2.2.2.2.2.2.2.2.2.2.2.2.2.2.2.2.2.1
theorem zMH_hz_m_hasBest {y : zXS} (h : zMH y) : (y.1 19) = 0 ∨ (y.1 19) = 1 := h.2.2.2.2.2.2.2.2.2.2.2.2.2.2.2.2.2.2.2.2.2.2.1
theorem zMH_hz_m_isOpen {y : zXS} (h : zMH y) : (y.1 30) = 0 ∨ (y.1 30) = 1 := h.2.2.2.2.2.2.2.2.2.2.2.2.2.2.2.2.2.2.2.2.2.2.2.1
theorem zMH_hz_m_isOver {y : zXS} (h : zMH y) : (y.1 31) = 0 ∨ (y.1 31) = 1 := h.2.2.2.2.2.2.2.2.2.2.2.2.2.2.2.2.2.2.2.2.2.2.2.2.1
theorem zMH_hz_m_wasTried {y : zXS} (h : zMH y) : (y.1 32) = 0 ∨ (y.1 32) = 1 := h.2.2.2.2.2.2.2.2.2.2.2.2.2.2.2.2.2.2.2.2.2.2.2.2.2.1
theorem zMH_hz_m_hasPlayed {y : zXS} (h : zMH y) : (y.1 33) = 0 ∨ (y.1 33) = 1 := h.2.2.2.2.2.2.2.2.2.2.2.2.2.2.2.2.2.2.2.2.2.2.2.2.2.2.1
theorem zMH_hz_m_hasSeconds {y : zXS} (h : zMH y) : (y.1 34) = 0 ∨ (y.1 34) = 1 := h.2.2.2.2.2.2.2.2.2.2.2.2.2.2.2.2.2.2.2.2.2.2.2.2.2.2.2.1
theorem zMH_hz_m_hasTurned {y : zXS} (h : zMH y) : (y.1 35) = 0 ∨ (y.1 35) = 1 := h.2.2.2.2.2.2.2.2.2.2.2.2.2.2.2.2.2.2.2.2.2.2.2.2.2.2.2.2.1
theorem zMH_hz_m_hasRound {y : zXS} (h : zMH y) : (y.1 36) = 0 ∨ (y.1 36) = 1 := h.2.2.2.2.2.2.2.2.2.2.2.2.2.2.2.2.2.2.2.2.2.2.2.2.2.2.2.2.2.1
theorem zMH_hC_g_trayMany {y : zXS} (h : zMH y) : zRg 4 (-1) 60 (y.2.2.1 1) := h.2.2.2.2.2.2.2.2.2.2.2.2.2.2.2.2.2.2.2.2.2.2.2.2.2.2.2.2.2.2.1
theorem zMH_hC_g_c {y : zXS} (h : zMH y) : zC (y.2.2.1 3) := h.2.2.2.2.2.2.2.2.2.2.2.2.2.2.2.2.2.2.2.2.2.2.2.2.2.2.2.2.2.2.2.1
theorem zMH_hC_g_there {y : zXS} (h : zMH y) : zRg 10 0 9 (y.2.2.1 4) := h.2.2.2.2.2.2.2.2.2.2.2.2.2.2.2.2.2.2.2.2.2.2.2.2.2.2.2.2.2.2.2.2.1
theorem zMH_hC_g_tried {y : zXS} (h : zMH y) : zRg 10 0 9 (y.2.2.1 5) := h.2.2.2.2.2.2.2.2.2.2.2.2.2.2.2.2.2.2.2.2.2.2.2.2.2.2.2.2.2.2.2.2.2.1
theorem zMH_hC_g_best {y : zXS} (h : zMH y) : zRg 10 0 9 (y.2.2.1 6) := h.2.2.2.2.2.2.2.2.2.2.2.2.2.2.2.2.2.2.2.2.2.2.2.2.2.2.2.2.2.2.2.2.2.2.1
theorem zMH_hC_g_found {y : zXS} (h : zMH y) : zRg 10 0 9 (y.2.2.1 7) := h.2.2.2.2.2.2.2.2.2.2.2.2.2.2.2.2.2.2.2.2.2.2.2.2.2.2.2.2.2.2.2.2.2.2.2.1
theorem zMH_hC_g_hasFeels {y : zXS} (h : zMH y) : zRg 3 0 1 (y.2.2.1 11) := h.2.2.2.2.2.2.2.2.2.2.2.2.2.2.2.2.2.2.2.2.2.2.2.2.2.2.2.2.2.2.2.2.2.2.2.2.1
theorem zMH_hC_g_isOn {y : zXS} (h : zMH y) : zRg 10 0 1 (y.2.2.1 12) := h.2.2.2.2.2.2.2.2.2.2.2.2.2.2.2.2.2.2.2.2.2.2.2.2.2.2.2.2.2.2.2.2.2.2.2.2.2.1
theorem zMH_hC_g_order {y : zXS} (h : zMH y) : zRg 10 0 9 (y.2.2.1 13) := h.2.2.2.2.2.2.2.2.2.2.2.2.2.2.2.2.2.2.2.2.2.2.2.2.2.2.2.2.2.2.2.2.2.2.2.2.2.2
abbrev zXR (ad : Nat → Nat) (tf kh ko kr : Nat → Option Nat) : Prop := (tf 0 = some (ad 72) ∧ tf 1 = some (ad 74) ∧ tf 2 = some (ad 76) ∧ tf 3 = some (ad 78)) ∧ (kh 0 = some (ad 80) ∧ kh 1 = some (ad 102) ∧ kh 2 = some (ad 124)) ∧ (ko 0 = some (ad 92) ∧ ko 1 = some (ad 114) ∧ ko 2 = some (ad 136)) ∧ (kr 0 = some (ad 96) ∧ kr 1 = some (ad 118) ∧ kr 2 = some (ad 140))
theorem zXR_h_tf {ad : Nat → Nat} {tf kh ko kr : Nat → Option Nat} (h : zXR ad tf kh ko kr) : tf 0 = some (ad 72) ∧ tf 1 = some (ad 74) ∧ tf 2 = some (ad 76) ∧ tf 3 = some (ad 78) := h.1
theorem zXR_h_kh {ad : Nat → Nat} {tf kh ko kr : Nat → Option Nat} (h : zXR ad tf kh ko kr) : kh 0 = some (ad 80) ∧ kh 1 = some (ad 102) ∧ kh 2 = some (ad 124) := h.2.1
theorem zXR_h_ko {ad : Nat → Nat} {tf kh ko kr : Nat → Option Nat} (h : zXR ad tf kh ko kr) : ko 0 = some (ad 92) ∧ ko 1 = some (ad 114) ∧ ko 2 = some (ad 136) := h.2.2.1
theorem zXR_h_kr {ad : Nat → Nat} {tf kh ko kr : Nat → Option Nat} (h : zXR ad tf kh ko kr) : kr 0 = some (ad 96) ∧ kr 1 = some (ad 118) ∧ kr 2 = some (ad 140) := h.2.2.2
def z_pick (is : List Nat) (ws : va_W) : va_W := is.filterMap (fun i => ws[i]?)
theorem z_pick_ok {ws : va_W} : ∀ {is : List Nat}, (∀ i ∈ is, i < ws.length) → is.map (fun i => ws[i]?) = (z_pick is ws).map some
  | [], _ => rfl
  | i :: is, h => by
    have h1 : i < ws.length := h i List.mem_cons_self
    have h2 : ws[i]? = some ws[i] := List.getElem?_eq_getElem h1
    have h3 := z_pick_ok (ws := ws) (is := is) (fun j hj => h j (List.mem_cons_of_mem _ hj))
    unfold z_pick at h3 ⊢
    rw [List.map_cons, List.filterMap_cons, h2, h3]
    rfl
def zRst (isC : List Nat) : List Nat := (List.range 163).filter (fun i => !isC.contains i)
theorem zRst_lt {isC : List Nat} {i : Nat} (h : i ∈ zRst isC) : i < 163 := List.mem_range.mp (List.mem_filter.mp h).1
theorem zRst_nc {isC : List Nat} {i : Nat} (h : i ∈ zRst isC) : i ∉ isC := by
  have h1 := (List.mem_filter.mp h).2
  intro h2
  simp [h2] at h1
theorem zRst_in {isC : List Nat} {i : Nat} (h : i < 163) : i ∈ isC ∨ i ∈ zRst isC := by
  by_cases h1 : i ∈ isC
  · exact Or.inl h1
  · exact Or.inr (List.mem_filter.mpr ⟨List.mem_range.mpr h, by simp [h1]⟩)
def zSame (bs : List Bool) (l l' : va_W) : Prop := ∀ k : Nat, bs[k]? ≠ some false → l'[k]? = l[k]?
theorem zs_e {l : va_W} : zSame [] l l := fun _ _ => rfl
theorem zs_t {bs : List Bool} {a b : Nat × va_E} {l l' : va_W} (h : b = a) (k : zSame bs l l') : zSame (true :: bs) (a :: l) (b :: l') := by
  intro j hj
  cases j with
  | zero => exact congrArg some h
  | succ j => exact k j hj
theorem zs_f {bs : List Bool} {a b : Nat × va_E} {l l' : va_W} (k : zSame bs l l') : zSame (false :: bs) (a :: l) (b :: l') := by
  intro j hj
  cases j with
  | zero => exact absurd rfl hj
  | succ j => exact k j hj
theorem zs_L {bs : List Bool} {l l' r : va_W} (e : l'.length = l.length) (h : zSame bs l l') : zSame bs (l ++ r) (l' ++ r) := by
  intro j hj
  rcases Nat.lt_or_ge j l.length with h1 | h1
  · rw [List.getElem?_append_left h1, List.getElem?_append_left (by omega)]
    exact h j hj
  · rw [List.getElem?_append_right h1, List.getElem?_append_right (by omega), e]
theorem zs_R {bs : List Bool} {l r r' : va_W} {n : Nat} (hn : l.length = n) (h : zSame bs r r') : zSame (List.replicate n true ++ bs) (l ++ r) (l ++ r') := by
  intro j hj
  rcases Nat.lt_or_ge j l.length with h1 | h1
  · rw [List.getElem?_append_left h1, List.getElem?_append_left h1]
  · rw [List.getElem?_append_right h1, List.getElem?_append_right h1]
    refine h (j - l.length) (fun h2 => hj ?_)
    rw [List.getElem?_append_right (by rw [List.length_replicate]; omega), List.length_replicate, ← hn]
    exact h2
theorem z_putS {G : va_G} {ws ws' w1 : va_W} {H : Heap} {isC : List Nat} {bs : List Bool} (hP : va_P G vwCl (z_pick (zRst isC) ws ++ w1) H) (h1 : zSame bs ws ws') (hb : (zRst isC).all (fun i => decide (bs[i]? ≠ some false)) = true) (h2 : isC.map (fun i => ws'[i]?) = w1.map some) (hN : ws'.length = 163) : va_P G vwCl ws' H := by
  intro k q hk
  have hkN : k < 163 := by
    rw [← hN]
    exact (List.getElem?_eq_some_iff.mp hk).1
  rcases zRst_in (isC := isC) hkN with h5 | h5
  · obtain ⟨j, hj, ej⟩ := List.mem_iff_getElem.mp h5
    have h6 : (isC.map (fun i => ws'[i]?))[j]? = some (some q) := by
      rw [List.getElem?_map, List.getElem?_eq_getElem hj, ej]
      exact congrArg some hk
    rw [h2, List.getElem?_map] at h6
    cases h7 : w1[j]? with
    | none => rw [h7] at h6; cases h6
    | some z =>
      rw [h7] at h6
      cases h6
      refine hP ((z_pick (zRst isC) ws).length + j) q ?_
      rw [List.getElem?_append_right (by omega)]
      rw [show (z_pick (zRst isC) ws).length + j - (z_pick (zRst isC) ws).length = j by omega]
      exact h7
  · have h6 : ws[k]? = some q := by
      have h7 : bs[k]? ≠ some false := of_decide_eq_true (List.all_eq_true.mp hb k h5)
      rw [← h1 k h7]
      exact hk
    have h8 : q ∈ z_pick (zRst isC) ws := List.mem_filterMap.mpr ⟨k, h5, h6⟩
    obtain ⟨j, hj, ej⟩ := List.mem_iff_getElem.mp h8
    refine hP j q ?_
    rw [List.getElem?_append_left hj, List.getElem?_eq_getElem hj, ej]
theorem z_moveD {A : Nat → Prop} {ws ws' : va_W} (hD : va_D A ws) (h : ws'.map Prod.fst = ws.map Prod.fst) : va_D A ws' := by
  have key : ∀ (i : Nat) (p : Nat × va_E), ws'[i]? = some p → ∃ q : Nat × va_E, ws[i]? = some q ∧ q.1 = p.1 := by
    intro i p hp
    have h1 : (ws'.map Prod.fst)[i]? = some p.1 := by rw [List.getElem?_map, hp]; rfl
    rw [h, List.getElem?_map] at h1
    cases h2 : ws[i]? with
    | none => rw [h2] at h1; cases h1
    | some q => rw [h2] at h1; exact ⟨q, rfl, Option.some.inj h1⟩
  refine ⟨fun i j p q hp hq e => ?_, fun k q hq => ?_⟩
  · obtain ⟨p', hp', ep⟩ := key i p hp
    obtain ⟨q', hq', eq⟩ := key j q hq
    exact hD.1 i j p' q' hp' hq' (by rw [ep, eq, e])
  · obtain ⟨q', hq', eq⟩ := key k q hq
    rw [← eq]
    exact hD.2 k q' hq'

def zRel (T0_sort : Int32) (T0_many : Int32) (c_R0 : Nat → Int64) (T1_sort : Int32) (T1_many : Int32) (c_R1 : Nat → Int64) (T2_sort : Int32) (T2_many : Int32) (c_R2 : Nat → Int64) (T3_sort : Int32) (T3_many : Int32) (c_R3 : Nat → Int64) (g_traySort : Nat → Int32) (g_trayMany : Nat → Int32) (g_numbers : Nat → Int64) : Prop := qTy T0_sort T0_many c_R0 0 g_traySort g_trayMany g_numbers ∧ qTy T1_sort T1_many c_R1 1 g_traySort g_trayMany g_numbers ∧ qTy T2_sort T2_many c_R2 2 g_traySort g_trayMany g_numbers ∧ qTy T3_sort T3_many c_R3 3 g_traySort g_trayMany g_numbers
abbrev zRl (x y : zXS) : Prop := zRel (x.1 59) (x.1 60) (x.2.2.2 11) (x.1 61) (x.1 62) (x.2.2.2 12) (x.1 63) (x.1 64) (x.2.2.2 13) (x.1 65) (x.1 66) (x.2.2.2 14) (y.2.2.1 0) (y.2.2.1 1) (y.2.2.2 0)
theorem zR_tray {T0_sort : Int32} {T0_many : Int32} {c_R0 : Nat → Int64} {T1_sort : Int32} {T1_many : Int32} {c_R1 : Nat → Int64} {T2_sort : Int32} {T2_many : Int32} {c_R2 : Nat → Int64} {T3_sort : Int32} {T3_many : Int32} {c_R3 : Nat → Int64} {k1 : Int32} {k2 : Int32} {k3 : Int32} {g_traySort : Nat → Int32} {g_trayMany : Nat → Int32} {g_numbers : Nat → Int64} {n_T0_sort : Int32} {n_T0_many : Int32} {n_c_R0 : Nat → Int64} {n_T1_sort : Int32} {n_T1_many : Int32} {n_c_R1 : Nat → Int64} {n_T2_sort : Int32} {n_T2_many : Int32} {n_c_R2 : Nat → Int64} {n_T3_sort : Int32} {n_T3_many : Int32} {n_c_R3 : Nat → Int64} {n_g_traySort : Nat → Int32} {n_g_trayMany : Nat → Int32} {n_g_numbers : Nat → Int64} (h : zRel T0_sort T0_many c_R0 T1_sort T1_many c_R1 T2_sort T2_many c_R2 T3_sort T3_many c_R3 g_traySort g_trayMany g_numbers) (hM : zRg 4 (-1) 60 g_trayMany) (x_0 : n_T0_sort = (F_X_tray T0_sort T0_many c_R0 T1_sort T1_many c_R1 T2_sort T2_many c_R2 T3_sort T3_many c_R3 k1 k2 k3).2.1) (x_1 : n_T0_many = (F_X_tray T0_sort T0_many c_R0 T1_sort T1_many c_R1 T2_sort T2_many c_R2 T3_sort T3_many c_R3 k1 k2 k3).2.2.1) (x_2 : n_c_R0 = (F_X_tray T0_sort T0_many c_R0 T1_sort T1_many c_R1 T2_sort T2_many c_R2 T3_sort T3_many c_R3 k1 k2 k3).2.2.2.1) (x_3 : n_T1_sort = (F_X_tray T0_sort T0_many c_R0 T1_sort T1_many c_R1 T2_sort T2_many c_R2 T3_sort T3_many c_R3 k1 k2 k3).2.2.2.2.1) (x_4 : n_T1_many = (F_X_tray T0_sort T0_many c_R0 T1_sort T1_many c_R1 T2_sort T2_many c_R2 T3_sort T3_many c_R3 k1 k2 k3).2.2.2.2.2.1) (x_5 : n_c_R1 = (F_X_tray T0_sort T0_many c_R0 T1_sort T1_many c_R1 T2_sort T2_many c_R2 T3_sort T3_many c_R3 k1 k2 k3).2.2.2.2.2.2.1) (x_6 : n_T2_sort = (F_X_tray T0_sort T0_many c_R0 T1_sort T1_many c_R1 T2_sort T2_many c_R2 T3_sort T3_many c_R3 k1 k2 k3).2.2.2.2.2.2.2.1) (x_7 : n_T2_many = (F_X_tray T0_sort T0_many c_R0 T1_sort T1_many c_R1 T2_sort T2_many c_R2 T3_sort T3_many c_R3 k1 k2 k3).2.2.2.2.2.2.2.2.1) (x_8 : n_c_R2 = (F_X_tray T0_sort T0_many c_R0 T1_sort T1_many c_R1 T2_sort T2_many c_R2 T3_sort T3_many c_R3 k1 k2 k3).2.2.2.2.2.2.2.2.2.1) (x_9 : n_T3_sort = (F_X_tray T0_sort T0_many c_R0 T1_sort T1_many c_R1 T2_sort T2_many c_R2 T3_sort T3_many c_R3 k1 k2 k3).2.2.2.2.2.2.2.2.2.2.1) (x_10 : n_T3_many = (F_X_tray T0_sort T0_many c_R0 T1_sort T1_many c_R1 T2_sort T2_many c_R2 T3_sort T3_many c_R3 k1 k2 k3).2.2.2.2.2.2.2.2.2.2.2.1) (x_11 : n_c_R3 = (F_X_tray T0_sort T0_many c_R0 T1_sort T1_many c_R1 T2_sort T2_many c_R2 T3_sort T3_many c_R3 k1 k2 k3).2.2.2.2.2.2.2.2.2.2.2.2) (y_0 : n_g_traySort = (F_r_tray_ok g_traySort g_trayMany g_numbers k1 k2 k3).2.1) (y_1 : n_g_trayMany = (F_r_tray_ok g_traySort g_trayMany g_numbers k1 k2 k3).2.2.1) (y_2 : n_g_numbers = (F_r_tray_ok g_traySort g_trayMany g_numbers k1 k2 k3).2.2.2) : True ∧ zRel n_T0_sort n_T0_many n_c_R0 n_T1_sort n_T1_many n_c_R1 n_T2_sort n_T2_many n_c_R2 n_T3_sort n_T3_many n_c_R3 n_g_traySort n_g_trayMany n_g_numbers := by
  obtain ⟨h0, h1, h2, h3⟩ := h
  have h9 := tz_trayA (k1 := k1) (k2 := k2) (k3 := k3) h0 h1 h2 h3 hM
  refine ⟨trivial, ?_⟩
  show qTy n_T0_sort n_T0_many n_c_R0 0 n_g_traySort n_g_trayMany n_g_numbers ∧ qTy n_T1_sort n_T1_many n_c_R1 1 n_g_traySort n_g_trayMany n_g_numbers ∧ qTy n_T2_sort n_T2_many n_c_R2 2 n_g_traySort n_g_trayMany n_g_numbers ∧ qTy n_T3_sort n_T3_many n_c_R3 3 n_g_traySort n_g_trayMany n_g_numbers
  rw [x_0, x_1, x_2, x_3, x_4, x_5, x_6, x_7, x_8, x_9, x_10, x_11, y_0, y_1, y_2]
  exact h9
theorem zR_write {T0_sort : Int32} {T0_many : Int32} {c_R0 : Nat → Int64} {T1_sort : Int32} {T1_many : Int32} {c_R1 : Nat → Int64} {T2_sort : Int32} {T2_many : Int32} {c_R2 : Nat → Int64} {T3_sort : Int32} {T3_many : Int32} {c_R3 : Nat → Int64} {k1 : Int32} {k2 : Int32} {l1 : Int64} {g_traySort : Nat → Int32} {g_trayMany : Nat → Int32} {g_numbers : Nat → Int64} {n_c_R0 : Nat → Int64} {n_c_R1 : Nat → Int64} {n_c_R2 : Nat → Int64} {n_c_R3 : Nat → Int64} {n_g_numbers : Nat → Int64} (h : zRel T0_sort T0_many c_R0 T1_sort T1_many c_R1 T2_sort T2_many c_R2 T3_sort T3_many c_R3 g_traySort g_trayMany g_numbers) (hM : zRg 4 (-1) 60 g_trayMany) (x_0 : n_c_R0 = (F_X_write T0_sort T0_many c_R0 T1_sort T1_many c_R1 T2_sort T2_many c_R2 T3_sort T3_many c_R3 k1 k2 l1).2.1) (x_1 : n_c_R1 = (F_X_write T0_sort T0_many c_R0 T1_sort T1_many c_R1 T2_sort T2_many c_R2 T3_sort T3_many c_R3 k1 k2 l1).2.2.1) (x_2 : n_c_R2 = (F_X_write T0_sort T0_many c_R0 T1_sort T1_many c_R1 T2_sort T2_many c_R2 T3_sort T3_many c_R3 k1 k2 l1).2.2.2.1) (x_3 : n_c_R3 = (F_X_write T0_sort T0_many c_R0 T1_sort T1_many c_R1 T2_sort T2_many c_R2 T3_sort T3_many c_R3 k1 k2 l1).2.2.2.2) (y_0 : n_g_numbers = (F_r_write g_traySort g_trayMany g_numbers k1 k2 l1).2) : True ∧ zRel T0_sort T0_many n_c_R0 T1_sort T1_many n_c_R1 T2_sort T2_many n_c_R2 T3_sort T3_many n_c_R3 g_traySort g_trayMany n_g_numbers := by
  obtain ⟨h0, h1, h2, h3⟩ := h
  have h9 := tz_writeA (k1 := k1) (k2 := k2) (l1 := l1) h0 h1 h2 h3 hM
  refine ⟨trivial, ?_⟩
  show qTy T0_sort T0_many n_c_R0 0 g_traySort g_trayMany n_g_numbers ∧ qTy T1_sort T1_many n_c_R1 1 g_traySort g_trayMany n_g_numbers ∧ qTy T2_sort T2_many n_c_R2 2 g_traySort g_trayMany n_g_numbers ∧ qTy T3_sort T3_many n_c_R3 3 g_traySort g_trayMany n_g_numbers
  rw [x_0, x_1, x_2, x_3, y_0]
  exact h9
theorem zR_read {T0_many : Int32} {c_R0 : Nat → Int64} {T1_many : Int32} {c_R1 : Nat → Int64} {T2_many : Int32} {c_R2 : Nat → Int64} {T3_many : Int32} {c_R3 : Nat → Int64} {k1 : Int32} {k2 : Int32} {g_trayMany : Nat → Int32} {g_numbers : Nat → Int64} {T0_sort : Int32} {T1_sort : Int32} {T2_sort : Int32} {T3_sort : Int32} {g_traySort : Nat → Int32} {r r2 : Int64} (h : zRel T0_sort T0_many c_R0 T1_sort T1_many c_R1 T2_sort T2_many c_R2 T3_sort T3_many c_R3 g_traySort g_trayMany g_numbers) (hM : zRg 4 (-1) 60 g_trayMany) (x_0 : r = (F_X_read T0_many c_R0 T1_many c_R1 T2_many c_R2 T3_many c_R3 k1 k2)) (y_0 : r2 = (F_r_read g_trayMany g_numbers k1 k2)) : r = r2 ∧ zRel T0_sort T0_many c_R0 T1_sort T1_many c_R1 T2_sort T2_many c_R2 T3_sort T3_many c_R3 g_traySort g_trayMany g_numbers := by
  obtain ⟨h0, h1, h2, h3⟩ := h
  exact ⟨x_0.trans ((tz_readA h0 h1 h2 h3 hM).trans y_0.symm), h0, h1, h2, h3⟩
theorem zR_pour {T0_sort : Int32} {T0_many : Int32} {c_R0 : Nat → Int64} {T1_sort : Int32} {T1_many : Int32} {c_R1 : Nat → Int64} {T2_sort : Int32} {T2_many : Int32} {c_R2 : Nat → Int64} {T3_sort : Int32} {T3_many : Int32} {c_R3 : Nat → Int64} {k1 : Int32} {k2 : Int32} {k3 : Int32} {k4 : Int32} {k5 : Int32} {g_traySort : Nat → Int32} {g_trayMany : Nat → Int32} {g_numbers : Nat → Int64} {n_c_R0 : Nat → Int64} {n_c_R1 : Nat → Int64} {n_c_R2 : Nat → Int64} {n_c_R3 : Nat → Int64} {n_g_numbers : Nat → Int64} (h : zRel T0_sort T0_many c_R0 T1_sort T1_many c_R1 T2_sort T2_many c_R2 T3_sort T3_many c_R3 g_traySort g_trayMany g_numbers) (hM : zRg 4 (-1) 60 g_trayMany) (x_0 : n_c_R0 = (F_X_pour T0_sort T0_many c_R0 T1_sort T1_many c_R1 T2_sort T2_many c_R2 T3_sort T3_many c_R3 k1 k2 k3 k4 k5).2.1) (x_1 : n_c_R1 = (F_X_pour T0_sort T0_many c_R0 T1_sort T1_many c_R1 T2_sort T2_many c_R2 T3_sort T3_many c_R3 k1 k2 k3 k4 k5).2.2.1) (x_2 : n_c_R2 = (F_X_pour T0_sort T0_many c_R0 T1_sort T1_many c_R1 T2_sort T2_many c_R2 T3_sort T3_many c_R3 k1 k2 k3 k4 k5).2.2.2.1) (x_3 : n_c_R3 = (F_X_pour T0_sort T0_many c_R0 T1_sort T1_many c_R1 T2_sort T2_many c_R2 T3_sort T3_many c_R3 k1 k2 k3 k4 k5).2.2.2.2) (y_0 : n_g_numbers = (F_r_pour g_traySort g_trayMany g_numbers k1 k2 k3 k4 k5).2) : True ∧ zRel T0_sort T0_many n_c_R0 T1_sort T1_many n_c_R1 T2_sort T2_many n_c_R2 T3_sort T3_many n_c_R3 g_traySort g_trayMany n_g_numbers := by
  obtain ⟨h0, h1, h2, h3⟩ := h
  have h9 := tz_pourA (k1 := k1) (k2 := k2) (k3 := k3) (k4 := k4) (k5 := k5) h0 h1 h2 h3 hM
  refine ⟨trivial, ?_⟩
  show qTy T0_sort T0_many n_c_R0 0 g_traySort g_trayMany n_g_numbers ∧ qTy T1_sort T1_many n_c_R1 1 g_traySort g_trayMany n_g_numbers ∧ qTy T2_sort T2_many n_c_R2 2 g_traySort g_trayMany n_g_numbers ∧ qTy T3_sort T3_many n_c_R3 3 g_traySort g_trayMany n_g_numbers
  rw [x_0, x_1, x_2, x_3, y_0]
  exact h9
set_option maxHeartbeats 4000000 in
set_option maxRecDepth 100000 in
theorem zXW_lx {cA : zCA} {x0 : Nat} {ad : Nat → Nat} {tf kh ko kr : Nat → Option Nat} (x : zXS) : (zXW cA x0 ad tf kh ko kr x).length = 144 := rfl
set_option maxHeartbeats 4000000 in
set_option maxRecDepth 100000 in
theorem zXW_len {cA : zCA} {x0 m0 : Nat} {ad am : Nat → Nat} {tf kh ko kr : Nat → Option Nat} (x y : zXS) : (zXW cA x0 ad tf kh ko kr x ++ zMW cA m0 am y).length = 163 := rfl
set_option maxHeartbeats 4000000 in
set_option maxRecDepth 100000 in
theorem zXW_D {cA : zCA} {x0 m0 : Nat} {ad am : Nat → Nat} {tf kh ko kr : Nat → Option Nat} {A : Nat → Prop} {x y x1 y1 : zXS} (hD : va_D A (zXW cA x0 ad tf kh ko kr x ++ zMW cA m0 am y)) : va_D A (zXW cA x0 ad tf kh ko kr x1 ++ zMW cA m0 am y1) := z_moveD hD rfl
set_option maxHeartbeats 4000000 in
set_option maxRecDepth 100000 in
theorem zXW_lt {cA : zCA} {x0 m0 : Nat} {ad am : Nat → Nat} {tf kh ko kr : Nat → Option Nat} (x y : zXS) {isC : List Nat} : ∀ i ∈ zRst isC, i < (zXW cA x0 ad tf kh ko kr x ++ zMW cA m0 am y).length := fun i hi => by
  rw [zXW_len]
  exact zRst_lt hi
theorem lw_le {L j : Nat} (hL : L ≤ 3072) (hj : j ≤ 3072) (h : nI L - 6 < nI j) : L < j + 6 := by
  have h1 := Int32.lt_iff_toInt_lt.mp h
  have e6 : (6 : Int32).toInt = 6 := by decide +kernel
  rw [z_subq (z := nI L - 6) rfl (nI_toInt (by omega)) e6 (by omega) (by omega), nI_toInt (by omega)] at h1
  omega
theorem lw_ge {L j : Nat} (hL : L ≤ 3072) (hj : j ≤ 3072) (h : ¬ nI L - 6 < nI j) : j + 6 ≤ L := by
  have h1 : ¬ (nI L - 6).toInt < (nI j).toInt := fun h9 => h (Int32.lt_iff_toInt_lt.mpr h9)
  have e6 : (6 : Int32).toInt = 6 := by decide +kernel
  rw [z_subq (z := nI L - 6) rfl (nI_toInt (by omega)) e6 (by omega) (by omega), nI_toInt (by omega)] at h1
  omega
theorem lw_in {L j : Nat} (hL : L ≤ 3072) (h : j + 6 ≤ L) {k : Int32} {n : Nat} (hk : k.toInt = (n : Int)) (hn : n < 6) : vp_in (nI j + k) L := by
  have h1 : (nI j + k).toInt = (j : Int) + n := z_addq (z := nI j + k) rfl (nI_toInt (by omega)) hk (by omega) (by omega)
  have hc := z_cval (i := nI j + k) (by omega)
  intro h9
  rcases h9 with h9 | h9
  · have := Int32.lt_iff_toInt_lt.mp h9
    have e0 : (0 : Int32).toInt = 0 := by decide +kernel
    omega
  · omega
theorem lw_in0 {L j : Nat} (hL : L ≤ 3072) (h : j + 6 ≤ L) : vp_in (nI j) L := by
  have h1 : (nI j).toInt = (j : Int) := nI_toInt (by omega)
  have hc := z_cval (i := nI j) (by omega)
  intro h9
  rcases h9 with h9 | h9
  · have := Int32.lt_iff_toInt_lt.mp h9
    have e0 : (0 : Int32).toInt = 0 := by decide +kernel
    omega
  · omega
