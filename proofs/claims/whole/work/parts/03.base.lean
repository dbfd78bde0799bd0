abbrev XG : Type := va_G × ClassId × ClassId × ClassId × Nat × Nat × Nat × Nat
abbrev xz (G : XG) : Nat := G.2.2.2.2.1
abbrev xaW (G : XG) : Nat := G.2.2.2.2.2.1
abbrev xaS (G : XG) : Nat := G.2.2.2.2.2.2.1
abbrev xaB (G : XG) : Nat := G.2.2.2.2.2.2.2
def xTx : String := "rate hour late in good div stock made day place men shares price seller buyer marks if or and not "
def xsl : List Nat := [98]
def xsb : List (List Int32) := [[114, 97, 116, 101, 32, 104, 111, 117, 114, 32, 108, 97, 116, 101, 32, 105, 110, 32, 103, 111, 111, 100, 32, 100, 105, 118, 32, 115, 116, 111, 99, 107, 32, 109, 97, 100, 101, 32, 100, 97, 121, 32, 112, 108, 97, 99, 101, 32, 109, 101, 110, 32, 115, 104, 97, 114, 101, 115, 32, 112, 114, 105, 99, 101, 32, 115, 101, 108, 108, 101, 114, 32, 98, 117, 121, 101, 114, 32, 109, 97, 114, 107, 115, 32, 105, 102, 32, 111, 114, 32, 97, 110, 100, 32, 110, 111, 116, 32]]
def xwo (j : Nat) : Int32 := [0, 120, 0, 0, 0, 1].getD j 0
abbrev xTI : Type := Nat → Nat → Int32
abbrev xTL : Type := Nat → Nat → Int64
abbrev xcl : List vw_C := [(RX0, TX0, 1), (RX1, TX1, 13), (RX2, TX2, 0), (RX3, TX3, 8), (RX4, TX4, 9), (RX5, TX5, 4), (RX6, TX6, 4), (RX7, TX7, 9), (RX8, TX8, 4), (RX9, TX9, 10), (RX10, TX10, 10), (RX11, TX11, 48)]
abbrev xtys (G : XG) : List (ClassId × FieldType) := [(G.2.1, .int), (G.2.2.1, .long), (G.2.2.2.1, .boolean)]
def xcells (G : XG) (kp : Bool) (f : Nat → Int32) (g : Nat → Int64) : List va_E := [
  .inr (10, [.ref (xz G + 1), (if kp then .ref (xz G + 87) else .null), .ref (xz G + 29), .ref (xz G + 32), .ref (xz G + 33), .ref (xz G + 41), .ref (xz G + 46), .ref (xz G + 55), .int (f 8), .ref (xz G + 56)]),
  .inr (1, [.int (f 0), .int (f 1), .ref (xz G + 2), .ref (xz G + 3), .ref (xz G + 11), .ref (xz G + 14), .ref (xz G + 20), .ref (xz G + 22), .ref (xz G + 24), .ref (xz G + 26), .ref (xz G + 28), .int (f 11), .int (f 12)]),
  .inl (G.2.1, (5, .inl f)),
  .inr (3, [.int (f 0), .ref (xz G + 4), .ref (xz G + 5), .ref (xz G + 6), .ref (xz G + 7), .ref (xz G + 8), .ref (xz G + 9), .ref (xz G + 10)]),
  .inl (G.2.2.1, (12, .inr (.inl g))),
  .inl (G.2.2.1, (12, .inr (.inl g))),
  .inl (G.2.2.1, (144, .inr (.inl g))),
  .inl (G.2.1, (12, .inl f)),
  .inl (G.2.1, (12, .inl f)),
  .inl (G.2.1, (60, .inl f)),
  .inl (G.2.1, (60, .inl f)),
  .inr (0, [.ref (xz G + 12)]),
  .inr (8, [.int 60, .int 11, .ref (xz G + 13), .int (f 3)]),
  .inl (G.2.1, (660, .inl f)),
  .inr (5, [.ref (xz G + 15), .ref (xz G + 17), .ref (xz G + 18), .ref (xz G + 19)]),
  .inr (8, [.int 12, .int 5, .ref (xz G + 16), .int (f 3)]),
  .inl (G.2.1, (60, .inl f)),
  .inl (G.2.1, (1440, .inl f)),
  .inl (G.2.1, (10, .inl f)),
  .inl (G.2.1, (120, .inl f)),
  .inr (8, [.int 20, .int 7, .ref (xz G + 21), .int (f 3)]),
  .inl (G.2.1, (140, .inl f)),
  .inr (8, [.int 10, .int 3, .ref (xz G + 23), .int (f 3)]),
  .inl (G.2.1, (30, .inl f)),
  .inr (8, [.int 300, .int 7, .ref (xz G + 25), .int (f 3)]),
  .inl (G.2.1, (2100, .inl f)),
  .inr (8, [.int 200, .int 6, .ref (xz G + 27), .int (f 3)]),
  .inl (G.2.1, (1200, .inl f)),
  .inl (G.2.2.1, (60, .inr (.inl g))),
  .inr (9, [.int (f 0), .ref (xz G + 30), .int (f 2), .int (f 3), .int (f 4), .int (f 5), .int (f 6), .ref (xz G + 31), .int (f 8), .int (f 9)]),
  .inl (G.2.1, (120, .inl f)),
  .inl (G.2.1, (120, .inl f)),
  .inr (2, []),
  .inr (4, [.ref (xz G + 34), .ref (xz G + 35), .ref (xz G + 36), .ref (xz G + 37), .ref (xz G + 38), .int (f 5), .int (f 6), .ref (xz G + 39), .ref (xz G + 40)]),
  .inl (G.2.1, (128, .inl f)),
  .inl (G.2.1, (128, .inl f)),
  .inl (G.2.1, (128, .inl f)),
  .inl (G.2.1, (128, .inl f)),
  .inl (G.2.1, (128, .inl f)),
  .inl (G.2.1, (12, .inl f)),
  .inl (G.2.1, (60, .inl f)),
  .inr (6, [.ref (xz G + 42), .ref (xz G + 43), .ref (xz G + 44), .ref (xz G + 45)]),
  .inl (G.2.2.1, (156, .inr (.inl g))),
  .inl (G.2.2.1, (156, .inr (.inl g))),
  .inl (G.2.2.1, (156, .inr (.inl g))),
  .inl (G.2.2.1, (12, .inr (.inl g))),
  .inr (7, [.ref (xz G + 47), .ref (xz G + 48), .ref (xz G + 49), .ref (xz G + 50), .ref (xz G + 51), .ref (xz G + 52), .ref (xz G + 53), .ref (xz G + 54), .int (f 8)]),
  .inl (G.2.1, (12, .inl f)),
  .inl (G.2.1, (10, .inl f)),
  .inl (G.2.1, (1024, .inl f)),
  .inl (G.2.1, (1024, .inl f)),
  .inl (G.2.2.1, (12, .inr (.inl g))),
  .inl (G.2.2.1, (12, .inr (.inl g))),
  .inl (G.2.1, (12, .inl f)),
  .inl (G.2.2.1, (12, .inr (.inl g))),
  .inl (G.2.1, (60, .inl f)),
  .inl (G.2.1, (9, .inl f)),
  .inr (11, [.int (f 0), .ref (xz G + 58), .ref (xz G + 59), .ref (xz G + 60), .ref (xz G + 61), .int (f 5), .ref (xz G + 62), .int (f 7), .int (f 8), .int (f 9), .long (g 10), .int (f 11), .int (f 12), .int (f 13), .int (f 14), .int (f 15), .int (f 16), .int (f 17), .int (f 18), .int (f 19), .ref (xz G + 63), .ref (xz G + 64), .ref (xz G + 65), .ref (xz G + 66), .ref (xz G + 67), .int (f 25), .ref (xz G + 68), .ref (xz G + 69), .ref (xz G + 70), .ref (xz G + 71), .ref (xz G + 72), .ref (xz G + 73), .ref (xz G + 74), .ref (xz G + 75), .ref (xz G + 76), .ref (xz G + 77), .ref (xz G + 78), .ref (xz G + 79), .ref (xz G + 80), .ref (xz G + 81), .ref (xz G + 82), .ref (xz G + 83), .ref (xz G + 84), .ref (xz G + 85), .int (f 44), .ref (xz G + 86), .int (f 46), .int (f 47)]),
  .inl (G.2.1, (40670, .inl f)),
  .inl (G.2.2.1, (216, .inr (.inl g))),
  .inl (G.2.1, (9, .inl f)),
  .inl (G.2.1, (120, .inl f)),
  .inl (G.2.1, (120, .inl f)),
  .inl (G.2.1, (8000, .inl f)),
  .inl (G.2.1, (8000, .inl f)),
  .inl (G.2.1, (8000, .inl f)),
  .inl (G.2.1, (8000, .inl f)),
  .inl (G.2.1, (8000, .inl f)),
  .inl (G.2.1, (12, .inl f)),
  .inl (G.2.1, (60, .inl f)),
  .inl (G.2.2.1, (144, .inr (.inl g))),
  .inl (G.2.2.1, (12, .inr (.inl g))),
  .inl (G.2.2.1, (12, .inr (.inl g))),
  .inl (G.2.2.1, (144, .inr (.inl g))),
  .inl (G.2.2.1, (144, .inr (.inl g))),
  .inl (G.2.2.1, (12, .inr (.inl g))),
  .inl (G.2.1, (60, .inl f)),
  .inl (G.2.1, (12, .inl f)),
  .inl (G.2.1, (12, .inl f)),
  .inl (G.2.1, (1024, .inl f)),
  .inl (G.2.1, (1024, .inl f)),
  .inl (G.2.2.1, (12, .inr (.inl g))),
  .inl (G.2.2.2.1, (12, .inl f)),
  .inl (G.2.2.2.1, (60, .inl f)),
  .inl (G.2.1, (40670, .inl f)),
  .inl (G.2.2.1, (216, .inr (.inl g))),
  .inl (G.2.1, (60, .inl f))]
def xcellsK (G : XG) (f : Nat → Int32) (g : Nat → Int64) : List va_E := [
  .inr (1, [.int (f 0), .int (f 1), .ref (xz G + 88), .ref (xz G + 89), .ref (xz G + 97), .ref (xz G + 100), .ref (xz G + 106), .ref (xz G + 108), .ref (xz G + 110), .ref (xz G + 112), .ref (xz G + 114), .int (f 11), .int (f 12)]),
  .inl (G.2.1, (5, .inl f)),
  .inr (3, [.int (f 0), .ref (xz G + 90), .ref (xz G + 91), .ref (xz G + 92), .ref (xz G + 93), .ref (xz G + 94), .ref (xz G + 95), .ref (xz G + 96)]),
  .inl (G.2.2.1, (12, .inr (.inl g))),
  .inl (G.2.2.1, (12, .inr (.inl g))),
  .inl (G.2.2.1, (144, .inr (.inl g))),
  .inl (G.2.1, (12, .inl f)),
  .inl (G.2.1, (12, .inl f)),
  .inl (G.2.1, (60, .inl f)),
  .inl (G.2.1, (60, .inl f)),
  .inr (0, [.ref (xz G + 98)]),
  .inr (8, [.int 60, .int 11, .ref (xz G + 99), .int (f 3)]),
  .inl (G.2.1, (660, .inl f)),
  .inr (5, [.ref (xz G + 101), .ref (xz G + 103), .ref (xz G + 104), .ref (xz G + 105)]),
  .inr (8, [.int 12, .int 5, .ref (xz G + 102), .int (f 3)]),
  .inl (G.2.1, (60, .inl f)),
  .inl (G.2.1, (1440, .inl f)),
  .inl (G.2.1, (10, .inl f)),
  .inl (G.2.1, (120, .inl f)),
  .inr (8, [.int 20, .int 7, .ref (xz G + 107), .int (f 3)]),
  .inl (G.2.1, (140, .inl f)),
  .inr (8, [.int 10, .int 3, .ref (xz G + 109), .int (f 3)]),
  .inl (G.2.1, (30, .inl f)),
  .inr (8, [.int 300, .int 7, .ref (xz G + 111), .int (f 3)]),
  .inl (G.2.1, (2100, .inl f)),
  .inr (8, [.int 200, .int 6, .ref (xz G + 113), .int (f 3)]),
  .inl (G.2.1, (1200, .inl f)),
  .inl (G.2.2.1, (60, .inr (.inl g)))]
def xE (G : XG) (kp : Bool) (k : Nat) (f : Nat → Int32) (g : Nat → Int64) : Option va_E := if k < 87 then (xcells G kp f g)[k]? else if kp then (xcellsK G f g)[k - 87]? else none
def xK (kp : Bool) : Nat := if kp then 115 else 87
theorem xce_0 (G : XG) (kp : Bool) (f : Nat → Int32) (g : Nat → Int64) : xE G kp 0 f g = some (.inr (10, [.ref (xz G + 1), (if kp then .ref (xz G + 87) else .null), .ref (xz G + 29), .ref (xz G + 32), .ref (xz G + 33), .ref (xz G + 41), .ref (xz G + 46), .ref (xz G + 55), .int (f 8), .ref (xz G + 56)])) := rfl
theorem xce_1 (G : XG) (kp : Bool) (f : Nat → Int32) (g : Nat → Int64) : xE G kp 1 f g = some (.inr (1, [.int (f 0), .int (f 1), .ref (xz G + 2), .ref (xz G + 3), .ref (xz G + 11), .ref (xz G + 14), .ref (xz G + 20), .ref (xz G + 22), .ref (xz G + 24), .ref (xz G + 26), .ref (xz G + 28), .int (f 11), .int (f 12)])) := rfl
theorem xce_2 (G : XG) (kp : Bool) (f : Nat → Int32) (g : Nat → Int64) : xE G kp 2 f g = some (.inl (G.2.1, (5, .inl f))) := rfl
theorem xce_3 (G : XG) (kp : Bool) (f : Nat → Int32) (g : Nat → Int64) : xE G kp 3 f g = some (.inr (3, [.int (f 0), .ref (xz G + 4), .ref (xz G + 5), .ref (xz G + 6), .ref (xz G + 7), .ref (xz G + 8), .ref (xz G + 9), .ref (xz G + 10)])) := rfl
theorem xce_4 (G : XG) (kp : Bool) (f : Nat → Int32) (g : Nat → Int64) : xE G kp 4 f g = some (.inl (G.2.2.1, (12, .inr (.inl g)))) := rfl
theorem xce_5 (G : XG) (kp : Bool) (f : Nat → Int32) (g : Nat → Int64) : xE G kp 5 f g = some (.inl (G.2.2.1, (12, .inr (.inl g)))) := rfl
theorem xce_6 (G : XG) (kp : Bool) (f : Nat → Int32) (g : Nat → Int64) : xE G kp 6 f g = some (.inl (G.2.2.1, (144, .inr (.inl g)))) := rfl
theorem xce_7 (G : XG) (kp : Bool) (f : Nat → Int32) (g : Nat → Int64) : xE G kp 7 f g = some (.inl (G.2.1, (12, .inl f))) := rfl
theorem xce_8 (G : XG) (kp : Bool) (f : Nat → Int32) (g : Nat → Int64) : xE G kp 8 f g = some (.inl (G.2.1, (12, .inl f))) := rfl
theorem xce_9 (G : XG) (kp : Bool) (f : Nat → Int32) (g : Nat → Int64) : xE G kp 9 f g = some (.inl (G.2.1, (60, .inl f))) := rfl
theorem xce_10 (G : XG) (kp : Bool) (f : Nat → Int32) (g : Nat → Int64) : xE G kp 10 f g = some (.inl (G.2.1, (60, .inl f))) := rfl
theorem xce_11 (G : XG) (kp : Bool) (f : Nat → Int32) (g : Nat → Int64) : xE G kp 11 f g = some (.inr (0, [.ref (xz G + 12)])) := rfl
theorem xce_12 (G : XG) (kp : Bool) (f : Nat → Int32) (g : Nat → Int64) : xE G kp 12 f g = some (.inr (8, [.int 60, .int 11, .ref (xz G + 13), .int (f 3)])) := rfl
theorem xce_13 (G : XG) (kp : Bool) (f : Nat → Int32) (g : Nat → Int64) : xE G kp 13 f g = some (.inl (G.2.1, (660, .inl f))) := rfl
theorem xce_14 (G : XG) (kp : Bool) (f : Nat → Int32) (g : Nat → Int64) : xE G kp 14 f g = some (.inr (5, [.ref (xz G + 15), .ref (xz G + 17), .ref (xz G + 18), .ref (xz G + 19)])) := rfl
theorem xce_15 (G : XG) (kp : Bool) (f : Nat → Int32) (g : Nat → Int64) : xE G kp 15 f g = some (.inr (8, [.int 12, .int 5, .ref (xz G + 16), .int (f 3)])) := rfl
theorem xce_16 (G : XG) (kp : Bool) (f : Nat → Int32) (g : Nat → Int64) : xE G kp 16 f g = some (.inl (G.2.1, (60, .inl f))) := rfl
theorem xce_17 (G : XG) (kp : Bool) (f : Nat → Int32) (g : Nat → Int64) : xE G kp 17 f g = some (.inl (G.2.1, (1440, .inl f))) := rfl
theorem xce_18 (G : XG) (kp : Bool) (f : Nat → Int32) (g : Nat → Int64) : xE G kp 18 f g = some (.inl (G.2.1, (10, .inl f))) := rfl
theorem xce_19 (G : XG) (kp : Bool) (f : Nat → Int32) (g : Nat → Int64) : xE G kp 19 f g = some (.inl (G.2.1, (120, .inl f))) := rfl
theorem xce_20 (G : XG) (kp : Bool) (f : Nat → Int32) (g : Nat → Int64) : xE G kp 20 f g = some (.inr (8, [.int 20, .int 7, .ref (xz G + 21), .int (f 3)])) := rfl
theorem xce_21 (G : XG) (kp : Bool) (f : Nat → Int32) (g : Nat → Int64) : xE G kp 21 f g = some (.inl (G.2.1, (140, .inl f))) := rfl
theorem xce_22 (G : XG) (kp : Bool) (f : Nat → Int32) (g : Nat → Int64) : xE G kp 22 f g = some (.inr (8, [.int 10, .int 3, .ref (xz G + 23), .int (f 3)])) := rfl
theorem xce_23 (G : XG) (kp : Bool) (f : Nat → Int32) (g : Nat → Int64) : xE G kp 23 f g = some (.inl (G.2.1, (30, .inl f))) := rfl
theorem xce_24 (G : XG) (kp : Bool) (f : Nat → Int32) (g : Nat → Int64) : xE G kp 24 f g = some (.inr (8, [.int 300, .int 7, .ref (xz G + 25), .int (f 3)])) := rfl
theorem xce_25 (G : XG) (kp : Bool) (f : Nat → Int32) (g : Nat → Int64) : xE G kp 25 f g = some (.inl (G.2.1, (2100, .inl f))) := rfl
theorem xce_26 (G : XG) (kp : Bool) (f : Nat → Int32) (g : Nat → Int64) : xE G kp 26 f g = some (.inr (8, [.int 200, .int 6, .ref (xz G + 27), .int (f 3)])) := rfl
theorem xce_27 (G : XG) (kp : Bool) (f : Nat → Int32) (g : Nat → Int64) : xE G kp 27 f g = some (.inl (G.2.1, (1200, .inl f))) := rfl
theorem xce_28 (G : XG) (kp : Bool) (f : Nat → Int32) (g : Nat → Int64) : xE G kp 28 f g = some (.inl (G.2.2.1, (60, .inr (.inl g)))) := rfl
theorem xce_29 (G : XG) (kp : Bool) (f : Nat → Int32) (g : Nat → Int64) : xE G kp 29 f g = some (.inr (9, [.int (f 0), .ref (xz G + 30), .int (f 2), .int (f 3), .int (f 4), .int (f 5), .int (f 6), .ref (xz G + 31), .int (f 8), .int (f 9)])) := rfl
theorem xce_30 (G : XG) (kp : Bool) (f : Nat → Int32) (g : Nat → Int64) : xE G kp 30 f g = some (.inl (G.2.1, (120, .inl f))) := rfl
theorem xce_31 (G : XG) (kp : Bool) (f : Nat → Int32) (g : Nat → Int64) : xE G kp 31 f g = some (.inl (G.2.1, (120, .inl f))) := rfl
theorem xce_32 (G : XG) (kp : Bool) (f : Nat → Int32) (g : Nat → Int64) : xE G kp 32 f g = some (.inr (2, [])) := rfl
theorem xce_33 (G : XG) (kp : Bool) (f : Nat → Int32) (g : Nat → Int64) : xE G kp 33 f g = some (.inr (4, [.ref (xz G + 34), .ref (xz G + 35), .ref (xz G + 36), .ref (xz G + 37), .ref (xz G + 38), .int (f 5), .int (f 6), .ref (xz G + 39), .ref (xz G + 40)])) := rfl
theorem xce_34 (G : XG) (kp : Bool) (f : Nat → Int32) (g : Nat → Int64) : xE G kp 34 f g = some (.inl (G.2.1, (128, .inl f))) := rfl
theorem xce_35 (G : XG) (kp : Bool) (f : Nat → Int32) (g : Nat → Int64) : xE G kp 35 f g = some (.inl (G.2.1, (128, .inl f))) := rfl
theorem xce_36 (G : XG) (kp : Bool) (f : Nat → Int32) (g : Nat → Int64) : xE G kp 36 f g = some (.inl (G.2.1, (128, .inl f))) := rfl
theorem xce_37 (G : XG) (kp : Bool) (f : Nat → Int32) (g : Nat → Int64) : xE G kp 37 f g = some (.inl (G.2.1, (128, .inl f))) := rfl
theorem xce_38 (G : XG) (kp : Bool) (f : Nat → Int32) (g : Nat → Int64) : xE G kp 38 f g = some (.inl (G.2.1, (128, .inl f))) := rfl
theorem xce_39 (G : XG) (kp : Bool) (f : Nat → Int32) (g : Nat → Int64) : xE G kp 39 f g = some (.inl (G.2.1, (12, .inl f))) := rfl
theorem xce_40 (G : XG) (kp : Bool) (f : Nat → Int32) (g : Nat → Int64) : xE G kp 40 f g = some (.inl (G.2.1, (60, .inl f))) := rfl
theorem xce_41 (G : XG) (kp : Bool) (f : Nat → Int32) (g : Nat → Int64) : xE G kp 41 f g = some (.inr (6, [.ref (xz G + 42), .ref (xz G + 43), .ref (xz G + 44), .ref (xz G + 45)])) := rfl
theorem xce_42 (G : XG) (kp : Bool) (f : Nat → Int32) (g : Nat → Int64) : xE G kp 42 f g = some (.inl (G.2.2.1, (156, .inr (.inl g)))) := rfl
theorem xce_43 (G : XG) (kp : Bool) (f : Nat → Int32) (g : Nat → Int64) : xE G kp 43 f g = some (.inl (G.2.2.1, (156, .inr (.inl g)))) := rfl
theorem xce_44 (G : XG) (kp : Bool) (f : Nat → Int32) (g : Nat → Int64) : xE G kp 44 f g = some (.inl (G.2.2.1, (156, .inr (.inl g)))) := rfl
theorem xce_45 (G : XG) (kp : Bool) (f : Nat → Int32) (g : Nat → Int64) : xE G kp 45 f g = some (.inl (G.2.2.1, (12, .inr (.inl g)))) := rfl
theorem xce_46 (G : XG) (kp : Bool) (f : Nat → Int32) (g : Nat → Int64) : xE G kp 46 f g = some (.inr (7, [.ref (xz G + 47), .ref (xz G + 48), .ref (xz G + 49), .ref (xz G + 50), .ref (xz G + 51), .ref (xz G + 52), .ref (xz G + 53), .ref (xz G + 54), .int (f 8)])) := rfl
theorem xce_47 (G : XG) (kp : Bool) (f : Nat → Int32) (g : Nat → Int64) : xE G kp 47 f g = some (.inl (G.2.1, (12, .inl f))) := rfl
theorem xce_48 (G : XG) (kp : Bool) (f : Nat → Int32) (g : Nat → Int64) : xE G kp 48 f g = some (.inl (G.2.1, (10, .inl f))) := rfl
theorem xce_49 (G : XG) (kp : Bool) (f : Nat → Int32) (g : Nat → Int64) : xE G kp 49 f g = some (.inl (G.2.1, (1024, .inl f))) := rfl
theorem xce_50 (G : XG) (kp : Bool) (f : Nat → Int32) (g : Nat → Int64) : xE G kp 50 f g = some (.inl (G.2.1, (1024, .inl f))) := rfl
theorem xce_51 (G : XG) (kp : Bool) (f : Nat → Int32) (g : Nat → Int64) : xE G kp 51 f g = some (.inl (G.2.2.1, (12, .inr (.inl g)))) := rfl
theorem xce_52 (G : XG) (kp : Bool) (f : Nat → Int32) (g : Nat → Int64) : xE G kp 52 f g = some (.inl (G.2.2.1, (12, .inr (.inl g)))) := rfl
theorem xce_53 (G : XG) (kp : Bool) (f : Nat → Int32) (g : Nat → Int64) : xE G kp 53 f g = some (.inl (G.2.1, (12, .inl f))) := rfl
theorem xce_54 (G : XG) (kp : Bool) (f : Nat → Int32) (g : Nat → Int64) : xE G kp 54 f g = some (.inl (G.2.2.1, (12, .inr (.inl g)))) := rfl
theorem xce_55 (G : XG) (kp : Bool) (f : Nat → Int32) (g : Nat → Int64) : xE G kp 55 f g = some (.inl (G.2.1, (60, .inl f))) := rfl
theorem xce_56 (G : XG) (kp : Bool) (f : Nat → Int32) (g : Nat → Int64) : xE G kp 56 f g = some (.inl (G.2.1, (9, .inl f))) := rfl
theorem xce_57 (G : XG) (kp : Bool) (f : Nat → Int32) (g : Nat → Int64) : xE G kp 57 f g = some (.inr (11, [.int (f 0), .ref (xz G + 58), .ref (xz G + 59), .ref (xz G + 60), .ref (xz G + 61), .int (f 5), .ref (xz G + 62), .int (f 7), .int (f 8), .int (f 9), .long (g 10), .int (f 11), .int (f 12), .int (f 13), .int (f 14), .int (f 15), .int (f 16), .int (f 17), .int (f 18), .int (f 19), .ref (xz G + 63), .ref (xz G + 64), .ref (xz G + 65), .ref (xz G + 66), .ref (xz G + 67), .int (f 25), .ref (xz G + 68), .ref (xz G + 69), .ref (xz G + 70), .ref (xz G + 71), .ref (xz G + 72), .ref (xz G + 73), .ref (xz G + 74), .ref (xz G + 75), .ref (xz G + 76), .ref (xz G + 77), .ref (xz G + 78), .ref (xz G + 79), .ref (xz G + 80), .ref (xz G + 81), .ref (xz G + 82), .ref (xz G + 83), .ref (xz G + 84), .ref (xz G + 85), .int (f 44), .ref (xz G + 86), .int (f 46), .int (f 47)])) := rfl
theorem xce_58 (G : XG) (kp : Bool) (f : Nat → Int32) (g : Nat → Int64) : xE G kp 58 f g = some (.inl (G.2.1, (40670, .inl f))) := rfl
theorem xce_59 (G : XG) (kp : Bool) (f : Nat → Int32) (g : Nat → Int64) : xE G kp 59 f g = some (.inl (G.2.2.1, (216, .inr (.inl g)))) := rfl
theorem xce_60 (G : XG) (kp : Bool) (f : Nat → Int32) (g : Nat → Int64) : xE G kp 60 f g = some (.inl (G.2.1, (9, .inl f))) := rfl
theorem xce_61 (G : XG) (kp : Bool) (f : Nat → Int32) (g : Nat → Int64) : xE G kp 61 f g = some (.inl (G.2.1, (120, .inl f))) := rfl
theorem xce_62 (G : XG) (kp : Bool) (f : Nat → Int32) (g : Nat → Int64) : xE G kp 62 f g = some (.inl (G.2.1, (120, .inl f))) := rfl
theorem xce_63 (G : XG) (kp : Bool) (f : Nat → Int32) (g : Nat → Int64) : xE G kp 63 f g = some (.inl (G.2.1, (8000, .inl f))) := rfl
theorem xce_64 (G : XG) (kp : Bool) (f : Nat → Int32) (g : Nat → Int64) : xE G kp 64 f g = some (.inl (G.2.1, (8000, .inl f))) := rfl
theorem xce_65 (G : XG) (kp : Bool) (f : Nat → Int32) (g : Nat → Int64) : xE G kp 65 f g = some (.inl (G.2.1, (8000, .inl f))) := rfl
theorem xce_66 (G : XG) (kp : Bool) (f : Nat → Int32) (g : Nat → Int64) : xE G kp 66 f g = some (.inl (G.2.1, (8000, .inl f))) := rfl
theorem xce_67 (G : XG) (kp : Bool) (f : Nat → Int32) (g : Nat → Int64) : xE G kp 67 f g = some (.inl (G.2.1, (8000, .inl f))) := rfl
theorem xce_68 (G : XG) (kp : Bool) (f : Nat → Int32) (g : Nat → Int64) : xE G kp 68 f g = some (.inl (G.2.1, (12, .inl f))) := rfl
theorem xce_69 (G : XG) (kp : Bool) (f : Nat → Int32) (g : Nat → Int64) : xE G kp 69 f g = some (.inl (G.2.1, (60, .inl f))) := rfl
theorem xce_70 (G : XG) (kp : Bool) (f : Nat → Int32) (g : Nat → Int64) : xE G kp 70 f g = some (.inl (G.2.2.1, (144, .inr (.inl g)))) := rfl
theorem xce_71 (G : XG) (kp : Bool) (f : Nat → Int32) (g : Nat → Int64) : xE G kp 71 f g = some (.inl (G.2.2.1, (12, .inr (.inl g)))) := rfl
theorem xce_72 (G : XG) (kp : Bool) (f : Nat → Int32) (g : Nat → Int64) : xE G kp 72 f g = some (.inl (G.2.2.1, (12, .inr (.inl g)))) := rfl
theorem xce_73 (G : XG) (kp : Bool) (f : Nat → Int32) (g : Nat → Int64) : xE G kp 73 f g = some (.inl (G.2.2.1, (144, .inr (.inl g)))) := rfl
theorem xce_74 (G : XG) (kp : Bool) (f : Nat → Int32) (g : Nat → Int64) : xE G kp 74 f g = some (.inl (G.2.2.1, (144, .inr (.inl g)))) := rfl
theorem xce_75 (G : XG) (kp : Bool) (f : Nat → Int32) (g : Nat → Int64) : xE G kp 75 f g = some (.inl (G.2.2.1, (12, .inr (.inl g)))) := rfl
theorem xce_76 (G : XG) (kp : Bool) (f : Nat → Int32) (g : Nat → Int64) : xE G kp 76 f g = some (.inl (G.2.1, (60, .inl f))) := rfl
theorem xce_77 (G : XG) (kp : Bool) (f : Nat → Int32) (g : Nat → Int64) : xE G kp 77 f g = some (.inl (G.2.1, (12, .inl f))) := rfl
theorem xce_78 (G : XG) (kp : Bool) (f : Nat → Int32) (g : Nat → Int64) : xE G kp 78 f g = some (.inl (G.2.1, (12, .inl f))) := rfl
theorem xce_79 (G : XG) (kp : Bool) (f : Nat → Int32) (g : Nat → Int64) : xE G kp 79 f g = some (.inl (G.2.1, (1024, .inl f))) := rfl
theorem xce_80 (G : XG) (kp : Bool) (f : Nat → Int32) (g : Nat → Int64) : xE G kp 80 f g = some (.inl (G.2.1, (1024, .inl f))) := rfl
theorem xce_81 (G : XG) (kp : Bool) (f : Nat → Int32) (g : Nat → Int64) : xE G kp 81 f g = some (.inl (G.2.2.1, (12, .inr (.inl g)))) := rfl
theorem xce_82 (G : XG) (kp : Bool) (f : Nat → Int32) (g : Nat → Int64) : xE G kp 82 f g = some (.inl (G.2.2.2.1, (12, .inl f))) := rfl
theorem xce_83 (G : XG) (kp : Bool) (f : Nat → Int32) (g : Nat → Int64) : xE G kp 83 f g = some (.inl (G.2.2.2.1, (60, .inl f))) := rfl
theorem xce_84 (G : XG) (kp : Bool) (f : Nat → Int32) (g : Nat → Int64) : xE G kp 84 f g = some (.inl (G.2.1, (40670, .inl f))) := rfl
theorem xce_85 (G : XG) (kp : Bool) (f : Nat → Int32) (g : Nat → Int64) : xE G kp 85 f g = some (.inl (G.2.2.1, (216, .inr (.inl g)))) := rfl
theorem xce_86 (G : XG) (kp : Bool) (f : Nat → Int32) (g : Nat → Int64) : xE G kp 86 f g = some (.inl (G.2.1, (60, .inl f))) := rfl
theorem xce_87 (G : XG) (f : Nat → Int32) (g : Nat → Int64) : xE G true 87 f g = some (.inr (1, [.int (f 0), .int (f 1), .ref (xz G + 88), .ref (xz G + 89), .ref (xz G + 97), .ref (xz G + 100), .ref (xz G + 106), .ref (xz G + 108), .ref (xz G + 110), .ref (xz G + 112), .ref (xz G + 114), .int (f 11), .int (f 12)])) := rfl
theorem xce_88 (G : XG) (f : Nat → Int32) (g : Nat → Int64) : xE G true 88 f g = some (.inl (G.2.1, (5, .inl f))) := rfl
theorem xce_89 (G : XG) (f : Nat → Int32) (g : Nat → Int64) : xE G true 89 f g = some (.inr (3, [.int (f 0), .ref (xz G + 90), .ref (xz G + 91), .ref (xz G + 92), .ref (xz G + 93), .ref (xz G + 94), .ref (xz G + 95), .ref (xz G + 96)])) := rfl
theorem xce_90 (G : XG) (f : Nat → Int32) (g : Nat → Int64) : xE G true 90 f g = some (.inl (G.2.2.1, (12, .inr (.inl g)))) := rfl
theorem xce_91 (G : XG) (f : Nat → Int32) (g : Nat → Int64) : xE G true 91 f g = some (.inl (G.2.2.1, (12, .inr (.inl g)))) := rfl
theorem xce_92 (G : XG) (f : Nat → Int32) (g : Nat → Int64) : xE G true 92 f g = some (.inl (G.2.2.1, (144, .inr (.inl g)))) := rfl
theorem xce_93 (G : XG) (f : Nat → Int32) (g : Nat → Int64) : xE G true 93 f g = some (.inl (G.2.1, (12, .inl f))) := rfl
theorem xce_94 (G : XG) (f : Nat → Int32) (g : Nat → Int64) : xE G true 94 f g = some (.inl (G.2.1, (12, .inl f))) := rfl
theorem xce_95 (G : XG) (f : Nat → Int32) (g : Nat → Int64) : xE G true 95 f g = some (.inl (G.2.1, (60, .inl f))) := rfl
theorem xce_96 (G : XG) (f : Nat → Int32) (g : Nat → Int64) : xE G true 96 f g = some (.inl (G.2.1, (60, .inl f))) := rfl
theorem xce_97 (G : XG) (f : Nat → Int32) (g : Nat → Int64) : xE G true 97 f g = some (.inr (0, [.ref (xz G + 98)])) := rfl
theorem xce_98 (G : XG) (f : Nat → Int32) (g : Nat → Int64) : xE G true 98 f g = some (.inr (8, [.int 60, .int 11, .ref (xz G + 99), .int (f 3)])) := rfl
theorem xce_99 (G : XG) (f : Nat → Int32) (g : Nat → Int64) : xE G true 99 f g = some (.inl (G.2.1, (660, .inl f))) := rfl
theorem xce_100 (G : XG) (f : Nat → Int32) (g : Nat → Int64) : xE G true 100 f g = some (.inr (5, [.ref (xz G + 101), .ref (xz G + 103), .ref (xz G + 104), .ref (xz G + 105)])) := rfl
theorem xce_101 (G : XG) (f : Nat → Int32) (g : Nat → Int64) : xE G true 101 f g = some (.inr (8, [.int 12, .int 5, .ref (xz G + 102), .int (f 3)])) := rfl
theorem xce_102 (G : XG) (f : Nat → Int32) (g : Nat → Int64) : xE G true 102 f g = some (.inl (G.2.1, (60, .inl f))) := rfl
theorem xce_103 (G : XG) (f : Nat → Int32) (g : Nat → Int64) : xE G true 103 f g = some (.inl (G.2.1, (1440, .inl f))) := rfl
theorem xce_104 (G : XG) (f : Nat → Int32) (g : Nat → Int64) : xE G true 104 f g = some (.inl (G.2.1, (10, .inl f))) := rfl
theorem xce_105 (G : XG) (f : Nat → Int32) (g : Nat → Int64) : xE G true 105 f g = some (.inl (G.2.1, (120, .inl f))) := rfl
theorem xce_106 (G : XG) (f : Nat → Int32) (g : Nat → Int64) : xE G true 106 f g = some (.inr (8, [.int 20, .int 7, .ref (xz G + 107), .int (f 3)])) := rfl
theorem xce_107 (G : XG) (f : Nat → Int32) (g : Nat → Int64) : xE G true 107 f g = some (.inl (G.2.1, (140, .inl f))) := rfl
theorem xce_108 (G : XG) (f : Nat → Int32) (g : Nat → Int64) : xE G true 108 f g = some (.inr (8, [.int 10, .int 3, .ref (xz G + 109), .int (f 3)])) := rfl
theorem xce_109 (G : XG) (f : Nat → Int32) (g : Nat → Int64) : xE G true 109 f g = some (.inl (G.2.1, (30, .inl f))) := rfl
theorem xce_110 (G : XG) (f : Nat → Int32) (g : Nat → Int64) : xE G true 110 f g = some (.inr (8, [.int 300, .int 7, .ref (xz G + 111), .int (f 3)])) := rfl
theorem xce_111 (G : XG) (f : Nat → Int32) (g : Nat → Int64) : xE G true 111 f g = some (.inl (G.2.1, (2100, .inl f))) := rfl
theorem xce_112 (G : XG) (f : Nat → Int32) (g : Nat → Int64) : xE G true 112 f g = some (.inr (8, [.int 200, .int 6, .ref (xz G + 113), .int (f 3)])) := rfl
theorem xce_113 (G : XG) (f : Nat → Int32) (g : Nat → Int64) : xE G true 113 f g = some (.inl (G.2.1, (1200, .inl f))) := rfl
theorem xce_114 (G : XG) (f : Nat → Int32) (g : Nat → Int64) : xE G true 114 f g = some (.inl (G.2.2.1, (60, .inr (.inl g)))) := rfl
theorem tb_1 {w : Cond} (h : w ∈ tables_1_1) : w ∈ lw_tbl := List.mem_append_right _ (show w ∈ tables_1_1 ++ (tables_1_2 ++ (tables_1_3 ++ (tables_1_4 ++ (tables_1_5 ++ (tables_1_6 ++ (tables_1_7 ++ tables_1_8)))))) from List.mem_append_left _ h)
theorem tb_2 {w : Cond} (h : w ∈ tables_1_2) : w ∈ lw_tbl := List.mem_append_right _ (show w ∈ tables_1_1 ++ (tables_1_2 ++ (tables_1_3 ++ (tables_1_4 ++ (tables_1_5 ++ (tables_1_6 ++ (tables_1_7 ++ tables_1_8)))))) from List.mem_append_right _ (List.mem_append_left _ h))
theorem tb_3 {w : Cond} (h : w ∈ tables_1_3) : w ∈ lw_tbl := List.mem_append_right _ (show w ∈ tables_1_1 ++ (tables_1_2 ++ (tables_1_3 ++ (tables_1_4 ++ (tables_1_5 ++ (tables_1_6 ++ (tables_1_7 ++ tables_1_8)))))) from List.mem_append_right _ (List.mem_append_right _ (List.mem_append_left _ h)))
theorem tb_4 {w : Cond} (h : w ∈ tables_1_4) : w ∈ lw_tbl := List.mem_append_right _ (show w ∈ tables_1_1 ++ (tables_1_2 ++ (tables_1_3 ++ (tables_1_4 ++ (tables_1_5 ++ (tables_1_6 ++ (tables_1_7 ++ tables_1_8)))))) from List.mem_append_right _ (List.mem_append_right _ (List.mem_append_right _ (List.mem_append_left _ h))))
theorem tb_5 {w : Cond} (h : w ∈ tables_1_5) : w ∈ lw_tbl := List.mem_append_right _ (show w ∈ tables_1_1 ++ (tables_1_2 ++ (tables_1_3 ++ (tables_1_4 ++ (tables_1_5 ++ (tables_1_6 ++ (tables_1_7 ++ tables_1_8)))))) from List.mem_append_right _ (List.mem_append_right _ (List.mem_append_right _ (List.mem_append_right _ (List.mem_append_left _ h)))))
theorem tb_6 {w : Cond} (h : w ∈ tables_1_6) : w ∈ lw_tbl := List.mem_append_right _ (show w ∈ tables_1_1 ++ (tables_1_2 ++ (tables_1_3 ++ (tables_1_4 ++ (tables_1_5 ++ (tables_1_6 ++ (tables_1_7 ++ tables_1_8)))))) from List.mem_append_right _ (List.mem_append_right _ (List.mem_append_right _ (List.mem_append_right _ (List.mem_append_right _ (List.mem_append_left _ h))))))
theorem tb_7 {w : Cond} (h : w ∈ tables_1_7) : w ∈ lw_tbl := List.mem_append_right _ (show w ∈ tables_1_1 ++ (tables_1_2 ++ (tables_1_3 ++ (tables_1_4 ++ (tables_1_5 ++ (tables_1_6 ++ (tables_1_7 ++ tables_1_8)))))) from List.mem_append_right _ (List.mem_append_right _ (List.mem_append_right _ (List.mem_append_right _ (List.mem_append_right _ (List.mem_append_right _ (List.mem_append_left _ h)))))))
theorem tb_8 {w : Cond} (h : w ∈ tables_1_8) : w ∈ lw_tbl := List.mem_append_right _ (show w ∈ tables_1_1 ++ (tables_1_2 ++ (tables_1_3 ++ (tables_1_4 ++ (tables_1_5 ++ (tables_1_6 ++ (tables_1_7 ++ tables_1_8)))))) from List.mem_append_right _ (List.mem_append_right _ (List.mem_append_right _ (List.mem_append_right _ (List.mem_append_right _ (List.mem_append_right _ (List.mem_append_right _ (h))))))))
def xRep (G : XG) (kp : Bool) (I : xTI) (L : xTL) (H : Heap) : Prop := H.size = xz G + xK kp ∧ ∀ (k : Nat) (e : va_E), xE G kp k (I k) (L k) = some e → va_at G.1 xcl (xz G + k, e) H
def xS (G : XG) (H0 H : Heap) (locs : List Loc) : Prop := H.size = H0.size ∧ (∀ q : Nat, q < xz G → H[q]? = H0[q]?) ∧ ∀ q ∈ locs, xz G ≤ q.base
def xW (U : State) : Prop := ∀ w ∈ lw_tbl, goodWord w = true → w.before #[] U = true
def xup {α : Type} (I : Nat → Nat → α) (k i : Nat) (v : α) : Nat → Nat → α := fun k' i' => if k' = k ∧ i' = i then v else I k' i'
def xbn {α R : Type} (e : α) (K : α → Option R) : Option R := K e
def xal {α R : Type} (I : Nat → Nat → α) (k n : Nat) (i : Int32) (K : α → Option R) : Option R := if i < 0 ∨ n ≤ i.toNatClampNeg then none else K (I k i.toNatClampNeg)
def xas {α R : Type} (I : Nat → Nat → α) (k n : Nat) (i : Int32) (v : α) (K : (Nat → Nat → α) → Option R) : Option R := if i < 0 ∨ n ≤ i.toNatClampNeg then none else K (xup I k i.toNatClampNeg v)
def xzc {R : Type} (v : Int32) (K : Option R) : Option R := if v = 0 ∨ v = 1 then K else none
def xnz {α R : Type} (e y : α) [DecidableEq α] [OfNat α 0] (K : α → Option R) : Option R := if y = 0 then none else K e
def xlp {S R : Type} (b : S → (S → Option R) → Option R) : Nat → S → Option R
  | 0, _ => none
  | n + 1, s => b s (xlp b n)
theorem xup_ne {α : Type} {I : Nat → Nat → α} {k i k' : Nat} {v : α} (h : k' ≠ k) : xup I k i v k' = I k' := by
  funext i'
  simp [xup, h]
theorem xup_self {α : Type} {I : Nat → Nat → α} {k i : Nat} {v : α} : xup I k i v k = fun j => if j = i then v else I k j := by
  funext i'
  simp [xup]
theorem xW.use {U : State} (h : xW U) {w : Cond} (hw : w ∈ lw_tbl) (hg : goodWord w = true) (a : Array Value) : w.before a U = true :=
  word_at (s := U) (U := U) (State.WarmedH.refl U) (good_of_word hg) (h w hw hg)
theorem xW.warm {s U : State} (hW : s.WarmedH U.vm) (h : xW s) : xW U := fun w hw hg => word_at hW (good_of_word hg) (h w hw hg)
theorem xW.calling {U : State} (h : xW U) (g : JFrame) (mk : MethodId) (a : Array Value) : xW (U.calling g mk a) := fun w hw hg => word_at (s := U) (U := U.calling g mk a) (State.WarmedH.refl U) (good_of_word hg) (h w hw hg)
abbrev xfr (G : XG) : Addr → Prop := fun q => xz G ≤ q
/-- what lies below and nobody writes: the static row, the text, the statics of String that are read -/
def xSt (G : XG) (U : State) (H : Heap) : Prop := va_Z "AccountDay$Rules" "WITHOUT" "[I" (.ref (xaW G)) (xfr G) U H ∧ va_T .int (xaW G) 6 (fun j => .int (xwo j)) (xfr G) U H ∧ vk_R "AccountDay$Tape" 87 xTx (xaS G) U ∧ vk_S 1 xsl xsb (fun _ => xaS G) (fun _ => xaB G) (xfr G) U H ∧ va_Z "java/lang/String" "COMPACT_STRINGS" "Z" (.int 1) (xfr G) U H ∧ va_Zq "jdk/internal/util/Preconditions" "SIOOBE_FORMATTER" "Ljava/util/function/BiFunction;" (xfr G) U H
theorem xSt.warm {G : XG} {s U : State} {H H1 : Heap} (hW : s.WarmedH U.vm) (hH : ∀ q : Nat, q < xz G → H1[q]? = H[q]?) (h : xSt G s H) : xSt G U H1 := by
  obtain ⟨h1, h2, h3, h4, h5, h6⟩ := h
  have hq : ∀ a : Nat, a < H.size → ¬ xfr G a → H1[a]? = H[a]? := fun a _ h => hH a (Nat.not_le.mp h)
  exact ⟨(h1.moved hW.alike).kept hq, (h2.moved hW.alike).kept hq, h3.warm hW, (h4.moved hW.alike).kept hq, (h5.moved hW.alike).kept hq, (h6.moved hW.alike).kept hq⟩
def xPc (G : XG) (kp : Bool) (As : List Value) (I : xTI) (L : xTL) : Array Value → State → Prop := fun a U => a = As.toArray ∧ xW U ∧ va_K G.1 xcl (xtys G) U ∧ xRep G kp I L U.heap ∧ xSt G U U.heap
def xQ (G : XG) (kp : Bool) (v : Option Value) (I : xTI) (L : xTL) : Array Value → State → Outcome → State → Prop := fun _ st o t => o = .returned v ∧ xRep G kp I L t.heap ∧ t.heap.size = st.heap.size ∧ ∀ q : Nat, q < xz G → t.heap[q]? = st.heap[q]?
abbrev xrm (fr lo : Nat) : Room := { frames := fr, cells := 0, slots := 0, locals := lo }
def xMet (G : XG) (l : Launch) (y : MethodName) (cc : ByteArray) (nL : Nat) (ret : Option FieldType) (fr lo : Nat) (kp : Bool) (As : List Value) (I : xTI) (L : xTL) (v : Option Value) (I' : xTI) (L' : xTL) : Prop :=
  Met l y [.code y cc nL ret] (xrm fr lo) (xPc G kp As I L) (xQ G kp v I' L') 0 0 (xfr G)
def xC (G : XG) (p : Program) (s : State) (m : MethodId) (args : Array Value) (meth : Method) (c : Code) (cc : ByteArray) (nL : Nat) (own : String) (ret : Option FieldType) : Prop :=
  p.tables.exec = Jvm.exec ∧ c.code = cc ∧ c.maxLocals = nL ∧ s.vm.findClass own = some m.cls ∧ xW s ∧ va_K G.1 xcl (xtys G) s ∧ meth.sig.returnType = ret ∧ meth.locks = false ∧ xSt G s s.heap
abbrev xMQ (G : XG) (kp : Bool) (below : List Frame) (args : Array Value) (s : State) (v : Option Value) (I : xTI) (L : xTL) : State → Prop := MQ below (xQ G kp v I L) args s 0 0 (xfr G)
theorem xPc_blind (G : XG) (kp : Bool) (As : List Value) (I : xTI) (L : xTL) : FrameBlind (xPc G kp As I L) := by
  intro a U g mk ⟨h1, h2, h3, h4, h5⟩
  exact ⟨h1, h2.calling g mk a, va_K.moved (u := U) (U := U.calling g mk a) (Vm.Alike.refl U.vm) h3, h4, xSt.warm (s := U) (U := U.calling g mk a) (State.WarmedH.refl U) (fun _ _ => rfl) h5⟩
theorem xMet.ofW {G : XG} {l : Launch} {y : MethodName} {cc : ByteArray} {nL : Nat} {ret : Option FieldType} {fr lo : Nat} {kp : Bool} {As : List Value} {I : xTI} {L : xTL} {v : Option Value} {I' : xTI} {L' : xTL} (hy : plainName y.cls = true) (hn : (lg_sl As).length ≤ nL)
    (body : ∀ (p : Program) (e : Env) (s : State) (m : MethodId) (args : Array Value) (below : List Frame) (meth : Method) (c : Code), xC G p s m args meth c cc nL y.cls ret → ∀ (H : Heap) (locs : List Loc) (ls : Array Slot), xRep G kp I L H → xS G s.heap H locs → lv_has ls nL (lv_args 0 As) →
      W p l e (xrm fr lo) s m args below meth c H locs 0 0 (xMQ G kp below args s v I' L') (F0 m 0 ls [])) : xMet G l y cc nL ret fr lo kp As I L v I' L' := by
  refine Met.ofW (cc := cc) (maxL := nL) (ret := ret) hy rfl ?_
  intro p e s m args below meth c s₁ B hml hv
  obtain ⟨rfl, hW, hK, hR, hT⟩ := hv
  rw [lg_entry_eq]
  exact body p e s m _ below meth c ⟨B.exec, B.bytes, hml, findClass_of_methodNamed B.named, hW, hK, B.returns, B.notSynchronized, hT⟩ s.heap [] _ hR ⟨rfl, fun _ _ => rfl, fun _ h => by cases h⟩ (lv_entry As hn)
/-- a field that (own, idx) links: class number ci, place j -/
def xFl (own : String) (idx ci j : Nat) : Prop := ∃ q : vw_C, xcl[ci]? = some q ∧ j < q.2.2 ∧ (∀ w ∈ u_ws q.1 q.2.1 q.2.2, w ∈ lw_tbl ∧ goodWord w = true) ∧ Cond.fieldLink own idx q.1 (q.2.1 j).2.1 (q.2.1 j).2.2.1 ∈ lw_tbl ∧ (q.2.1 j).1 = q.1
/-- and one that is put to: not final, its type -/
def xFp (ci j : Nat) (ty : FieldType) : Prop := ∃ (q : vw_C) (ty0 : Nat → FieldType), xcl[ci]? = some q ∧ (q.2.1 j).2.2.2 = false ∧ parseFieldDescriptor (q.2.1 j).2.2.1 = some ty ∧ (∀ k, k < q.2.2 → parseFieldDescriptor (q.2.1 k).2.2.1 = some (ty0 k)) ∧ (∀ a, a < q.2.2 → ∀ b, b < q.2.2 → a ≠ b → (q.2.1 a).2.1 ≠ (q.2.1 b).2.1)
/-- a method that can be called: its code, and how it is found -/
def xYv (y : MethodName) (cc : ByteArray) (nL : Nat) (ret : Option FieldType) (n : Nat) : Prop := Cond.code y cc nL ret ∈ lw_tbl ∧ Cond.instanceMethod y ∈ lw_tbl ∧ Cond.selects y.cls y y ∈ lw_tbl ∧ Cond.initialized y.cls ∈ lw_tbl ∧ (y.cls ≠ "java/lang/invoke/MethodHandle" ∧ y.cls ≠ "java/lang/invoke/VarHandle") ∧ (parseMethodDescriptor y.desc).map (fun d => d.parameters.length) = some n
def xYs (y : MethodName) (cc : ByteArray) (nL : Nat) (ret : Option FieldType) (n : Nat) : Prop := Cond.code y cc nL ret ∈ lw_tbl ∧ Cond.static y ∈ lw_tbl ∧ Cond.initialized y.cls ∈ lw_tbl ∧ (y.cls ≠ "java/lang/invoke/MethodHandle" ∧ y.cls ≠ "java/lang/invoke/VarHandle") ∧ (parseMethodDescriptor y.desc).map (fun d => d.parameters.length) = some n
section XROWS
variable {G : XG} {kp : Bool} {p : Program} {l : Launch} {e : Env} {R : Room} {s : State} {m : MethodId} {args : Array Value} {below : List Frame} {meth : Method} {c : Code} {H : Heap} {locs : List Loc} {cells slots : Nat} {Q : State → Prop} {cc : ByteArray} {nL pc : Nat} {own : String} {ret : Option FieldType} {ls : Array Slot} {rest : List Value} {I : xTI} {L : xTL} {Rt : Type} {r : Rt}
theorem xR_set {k : Nat} {I1 : xTI} {L1 : xTL} {H1 : Heap} (hR : xRep G kp I L H) (hsz : H1.size = H.size) (ho : ∀ q : Nat, q ≠ xz G + k → H1[q]? = H[q]?) (hI : ∀ k', k' ≠ k → I1 k' = I k') (hL : ∀ k', k' ≠ k → L1 k' = L k') (hk : ∀ e : va_E, xE G kp k (I1 k) (L1 k) = some e → va_at G.1 xcl (xz G + k, e) H1) : xRep G kp I1 L1 H1 := by
  refine ⟨hsz.trans hR.1, fun k' e he => ?_⟩
  by_cases h : k' = k
  · subst h
    exact hk e he
  · rw [hI k' h, hL k' h] at he
    exact (hR.2 k' e he).kept (ho _ (by show xz G + k' ≠ xz G + k; omega))
theorem xS_put {H0 H1 : Heap} {k i : Nat} (hS : xS G H0 H locs) (hsz : H1.size = H.size) (ho : ∀ q : Nat, q ≠ xz G + k → H1[q]? = H[q]?) : xS G H0 H1 (locs ++ [⟨xz G + k, i⟩]) := by
  refine ⟨hsz.trans hS.1, fun q hq => by rw [ho q (by omega)]; exact hS.2.1 q hq, fun q hq => ?_⟩
  rcases List.mem_append.mp hq with h | h
  · exact hS.2.2 q h
  · rw [List.mem_singleton.mp h]
    exact Nat.le_add_right _ _
theorem x_get {idx ci j k : Nat} {fs : List Value} {v : Value} (hC : xC G p s m args meth c cc nL own ret) (hF : xFl own idx ci j) (ce : xE G kp k (I k) (L k) = some (.inr (ci, fs))) (hv : fs[j]? = some v) (hR : xRep G kp I L H) (hdg : decode cc pc = .ok (.getfield idx, 3))
    (kk : W p l e R s m args below meth c H locs cells slots Q (F0 m (pc + 3) ls (v :: rest))) : W p l e R s m args below meth c H locs cells slots Q (F0 m pc ls (.ref (xz G + k) :: rest)) := by
  obtain ⟨hx, hb, hml, hown, hW, hK, -, -, -⟩ := hC
  obtain ⟨⟨Cn, T, Nf⟩, hc, hj, hin, hlk, hsm⟩ := hF
  have hP : va_P G.1 xcl [(xz G + k, .inr (ci, fs))] H := fun i q hq => by
    match i, hq with
    | 0, hq => cases hq; exact hR.2 k _ ce
    | i + 1, hq => simp at hq
  exact va_get (D := G.1) (ci := ci) (C := Cn) (T := T) (N := Nf) (Ts := u_ws Cn T Nf) hx hb (fun w hw => hW.use (hin w hw).1 (hin w hw).2 args) (fun _ h => h) hown hK hP 0 rfl hc j hj (hW.use hlk rfl args) (fun z hz => by have e : (T j).1 = Cn := hsm; rw [e] at hz; exact hz) hv hdg kk
theorem x_getI {idx ci j k : Nat} {fs : List Value} {x : Int32} {K : Int32 → Option Rt} (hC : xC G p s m args meth c cc nL own ret) (hF : xFl own idx ci j) (ce : xE G kp k (I k) (L k) = some (.inr (ci, fs))) (hv : fs[j]? = some (.int x)) (hR : xRep G kp I L H) (hdg : decode cc pc = .ok (.getfield idx, 3)) (hf : xbn x K = some r)
    (kk : ∀ v : Int32, K v = some r → W p l e R s m args below meth c H locs cells slots Q (F0 m (pc + 3) ls (.int v :: rest))) : W p l e R s m args below meth c H locs cells slots Q (F0 m pc ls (.ref (xz G + k) :: rest)) := x_get hC hF ce hv hR hdg (kk x hf)
theorem x_getL {idx ci j k : Nat} {fs : List Value} {x : Int64} {K : Int64 → Option Rt} (hC : xC G p s m args meth c cc nL own ret) (hF : xFl own idx ci j) (ce : xE G kp k (I k) (L k) = some (.inr (ci, fs))) (hv : fs[j]? = some (.long x)) (hR : xRep G kp I L H) (hdg : decode cc pc = .ok (.getfield idx, 3)) (hf : xbn x K = some r)
    (kk : ∀ v : Int64, K v = some r → W p l e R s m args below meth c H locs cells slots Q (F0 m (pc + 3) ls (.long v :: rest))) : W p l e R s m args below meth c H locs cells slots Q (F0 m pc ls (.ref (xz G + k) :: rest)) := x_get hC hF ce hv hR hdg (kk x hf)
theorem x_put {idx ci j k : Nat} {ty : FieldType} {fs : List Value} {v : Value} {I1 : xTI} {L1 : xTL} (hC : xC G p s m args meth c cc nL own ret) (hF : xFl own idx ci j) (hFp : xFp ci j ty) (ce : xE G kp k (I k) (L k) = some (.inr (ci, fs))) (ce1 : xE G kp k (I1 k) (L1 k) = some (.inr (ci, fs.set j v))) (hl : j < fs.length) (hn : narrow ty v = v) (hfit : fits ty v = true)
    (hI : ∀ k', k' ≠ k → I1 k' = I k') (hL : ∀ k', k' ≠ k → L1 k' = L k') (hR : xRep G kp I L H) (hS : xS G s.heap H locs) (hdg : decode cc pc = .ok (.putfield idx, 3))
    (kk : ∀ (H1 : Heap) (locs1 : List Loc), xRep G kp I1 L1 H1 → xS G s.heap H1 locs1 → W p l e R s m args below meth c H1 locs1 cells slots Q (F0 m (pc + 3) ls rest)) : W p l e R s m args below meth c H locs cells slots Q (F0 m pc ls (v :: .ref (xz G + k) :: rest)) := by
  obtain ⟨hx, hb, hml, hown, hW, hK, -, -, -⟩ := hC
  obtain ⟨⟨Cn, T, Nf⟩, hc, hj, hin, hlk, hsm⟩ := hF
  obtain ⟨q', ty0, hc', hfin, hd, hty, hnm⟩ := hFp
  have hq : q' = (Cn, T, Nf) := Option.some.inj (hc'.symm.trans hc)
  subst hq
  have hts : ∀ w ∈ u_ws Cn T Nf, w.before args s = true := fun w hw => hW.use (hin w hw).1 (hin w hw).2 args
  have hap := va_apart (own := own) hts (fun _ h => h) ty0 hty hnm hK hc
  obtain ⟨r0, h1, cell, q1, q2, q3, q4⟩ := hR.2 k _ ce
  have hr : r0 = (Cn, T, Nf) := Option.some.inj (h1.symm.trans hc)
  subst hr
  obtain ⟨hSl, hfc, kC, hkC, hkind⟩ := hK.1 ci _ hc
  obtain ⟨cf, kf, fi, f, hi, hsl⟩ := hSl j hj
  have hlay := hts _ (u_in_lay hj)
  unfold u_lay at hlay
  rw [if_neg (by rw [hfin]; decide)] at hlay
  have hst := (u_facts hfc hkC (u_lays hts (fun _ h => h) hj) hi).1
  have h6 := u_store hfc hkC hkind hlay hi hd hn hfit
  refine W.putK hx hb (f := f) ⟨hown, hW.use hlk rfl args, ⟨_, _, _, by have e : (T j).1 = Cn := hsm; rw [e] at hi; exact hi⟩, hst⟩ (by rw [q2]; exact h6) q1 q3 (by rw [hsl]; exact k2_hasslot (q4 j hj)) rfl rfl hdg fun H' e1 e2 e3 => ?_
  rw [hsl] at e1 ⊢
  refine kk H' _ (xR_set (k := k) hR e2 e3 hI hL fun e9 he => ?_) (xS_put hS e2 e3)
  rw [ce1] at he
  cases he
  exact ⟨_, hc, t_OB.to (V := updV (vp_V fs) j v) ⟨_, e1, q2, q3, t_set q4 hap hj v⟩ (fun i _ => vp_updV_set hl v i)⟩
theorem x_ial {k n : Nat} {i : Int32} {K : Int32 → Option Rt} (hC : xC G p s m args meth c cc nL own ret) (ce : xE G kp k (I k) (L k) = some (.inl (G.2.1, (n, .inl (I k))))) (hR : xRep G kp I L H) (hdg : decode cc pc = .ok (.iaload, 1)) (hf : xal I k n i K = some r)
    (kk : ∀ v : Int32, K v = some r → W p l e R s m args below meth c H locs cells slots Q (F0 m (pc + 1) ls (.int v :: rest))) : W p l e R s m args below meth c H locs cells slots Q (F0 m pc ls (.int i :: .ref (xz G + k) :: rest)) := by
  unfold xal at hf
  split at hf
  · cases hf
  · rename_i hin
    have hlt : i.toNatClampNeg < n := Nat.not_le.mp fun q => hin (Or.inr q)
    exact W.iald (v := .int (I k i.toNatClampNeg)) hC.1 hC.2.1 (hR.2 k _ ce) ((hC.2.2.2.2.2.1.2 0 _ rfl).1 n (fun j => .int (I k j))) (fun q => by cases q) (by show ¬ (i < 0 ∨ (arrV _ _ _).slots.size ≤ _); rw [arrV_size]; exact hin) (by show (arrV _ _ _).slots[_]? = _; rw [arrV_read _ _ hlt]) rfl rfl hdg (kk _ hf)
theorem x_zal {k n : Nat} {i : Int32} {K : Int32 → Option Rt} (hC : xC G p s m args meth c cc nL own ret) (ce : xE G kp k (I k) (L k) = some (.inl (G.2.2.2.1, (n, .inl (I k))))) (hR : xRep G kp I L H) (hdg : decode cc pc = .ok (.baload, 1)) (hf : xal I k n i K = some r)
    (kk : ∀ v : Int32, K v = some r → W p l e R s m args below meth c H locs cells slots Q (F0 m (pc + 1) ls (.int v :: rest))) : W p l e R s m args below meth c H locs cells slots Q (F0 m pc ls (.int i :: .ref (xz G + k) :: rest)) := by
  unfold xal at hf
  split at hf
  · cases hf
  · rename_i hin
    have hlt : i.toNatClampNeg < n := Nat.not_le.mp fun q => hin (Or.inr q)
    exact W.zald (v := .int (I k i.toNatClampNeg)) hC.1 hC.2.1 (hR.2 k _ ce) ((hC.2.2.2.2.2.1.2 2 _ rfl).1 n (fun j => .int (I k j))) (fun q => by cases q) (by show ¬ (i < 0 ∨ (arrV _ _ _).slots.size ≤ _); rw [arrV_size]; exact hin) (by show (arrV _ _ _).slots[_]? = _; rw [arrV_read _ _ hlt]) rfl rfl hdg (kk _ hf)
theorem x_lal {k n : Nat} {i : Int32} {K : Int64 → Option Rt} (hC : xC G p s m args meth c cc nL own ret) (ce : xE G kp k (I k) (L k) = some (.inl (G.2.2.1, (n, .inr (.inl (L k)))))) (hR : xRep G kp I L H) (hdg : decode cc pc = .ok (.laload, 1)) (hf : xal L k n i K = some r)
    (kk : ∀ v : Int64, K v = some r → W p l e R s m args below meth c H locs cells slots Q (F0 m (pc + 1) ls (.long v :: rest))) : W p l e R s m args below meth c H locs cells slots Q (F0 m pc ls (.int i :: .ref (xz G + k) :: rest)) := by
  unfold xal at hf
  split at hf
  · cases hf
  · rename_i hin
    have hlt : i.toNatClampNeg < n := Nat.not_le.mp fun q => hin (Or.inr q)
    exact W.lald (v := .long (L k i.toNatClampNeg)) hC.1 hC.2.1 (hR.2 k _ ce) ((hC.2.2.2.2.2.1.2 1 _ rfl).1 n (fun j => .long (L k j))) (fun q => by cases q) (by show ¬ (i < 0 ∨ (arrV _ _ _).slots.size ≤ _); rw [arrV_size]; exact hin) (by show (arrV _ _ _).slots[_]? = _; rw [arrV_read _ _ hlt]) rfl rfl hdg (kk _ hf)
theorem x_ias {k n : Nat} {i x : Int32} {K : xTI → Option Rt} (hC : xC G p s m args meth c cc nL own ret) (ce : ∀ f : Nat → Int32, xE G kp k f (L k) = some (.inl (G.2.1, (n, .inl f)))) (hR : xRep G kp I L H) (hS : xS G s.heap H locs) (hdg : decode cc pc = .ok (.iastore, 1)) (hf : xas I k n i x K = some r)
    (kk : ∀ (I1 : xTI), K I1 = some r → ∀ (H1 : Heap) (locs1 : List Loc), xRep G kp I1 L H1 → xS G s.heap H1 locs1 → W p l e R s m args below meth c H1 locs1 cells slots Q (F0 m (pc + 1) ls rest)) : W p l e R s m args below meth c H locs cells slots Q (F0 m pc ls (.int x :: .int i :: .ref (xz G + k) :: rest)) := by
  unfold xas at hf
  split at hf
  · cases hf
  · rename_i hin
    refine W.iast hC.1 hC.2.1 (hR.2 k _ (ce (I k))) ((hC.2.2.2.2.2.1.2 0 _ rfl).1 n (fun j => .int (I k j))) (fun q => by cases q) (by show ¬ (i < 0 ∨ (arrV _ _ _).slots.size ≤ _); rw [arrV_size]; exact hin) rfl rfl hdg fun H1 e1 e2 e3 => ?_
    refine kk _ hf H1 _ (xR_set (k := k) hR e2 e3 (fun k' h => xup_ne h) (fun _ _ => rfl) fun e9 he => ?_) (xS_put hS e2 e3)
    rw [ce] at he
    cases he
    show H1[_]? = some (vp_cell _ _)
    rw [e1, vp_cell_i, vp_cell_i, arrV_store]
    congr 2
    funext q
    by_cases hq : q = i.toNatClampNeg
    · subst hq
      simp [updV, xup]
    · simp [updV, xup, hq]
theorem x_zas {k n : Nat} {i x : Int32} {K : xTI → Option Rt} (hC : xC G p s m args meth c cc nL own ret) (ce : ∀ f : Nat → Int32, xE G kp k f (L k) = some (.inl (G.2.2.2.1, (n, .inl f)))) (hR : xRep G kp I L H) (hS : xS G s.heap H locs) (hdg : decode cc pc = .ok (.bastore, 1)) (hf : xzc x (xas I k n i x K) = some r)
    (kk : ∀ (I1 : xTI), K I1 = some r → ∀ (H1 : Heap) (locs1 : List Loc), xRep G kp I1 L H1 → xS G s.heap H1 locs1 → W p l e R s m args below meth c H1 locs1 cells slots Q (F0 m (pc + 1) ls rest)) : W p l e R s m args below meth c H locs cells slots Q (F0 m pc ls (.int x :: .int i :: .ref (xz G + k) :: rest)) := by
  unfold xzc at hf
  split at hf
  · rename_i hx01
    unfold xas at hf
    split at hf
    · cases hf
    · rename_i hin
      have hnx : narrow .boolean (.int x) = .int x := by rcases hx01 with h | h <;> subst h <;> rfl
      refine W.zast hC.1 hC.2.1 (hR.2 k _ (ce (I k))) ((hC.2.2.2.2.2.1.2 2 _ rfl).1 n (fun j => .int (I k j))) (fun q => by cases q) (by show ¬ (i < 0 ∨ (arrV _ _ _).slots.size ≤ _); rw [arrV_size]; exact hin) rfl rfl hdg fun H1 e1 e2 e3 => ?_
      refine kk _ hf H1 _ (xR_set (k := k) hR e2 e3 (fun k' h => xup_ne h) (fun _ _ => rfl) fun e9 he => ?_) (xS_put hS e2 e3)
      rw [ce] at he
      cases he
      show H1[_]? = some (vp_cell _ _)
      rw [e1, hnx, vp_cell_i, vp_cell_i, arrV_store]
      congr 2
      funext q
      by_cases hq : q = i.toNatClampNeg
      · subst hq
        simp [updV, xup]
      · simp [updV, xup, hq]
  · cases hf
theorem x_las {k n : Nat} {i : Int32} {x : Int64} {K : xTL → Option Rt} (hC : xC G p s m args meth c cc nL own ret) (ce : ∀ g : Nat → Int64, xE G kp k (I k) g = some (.inl (G.2.2.1, (n, .inr (.inl g))))) (hR : xRep G kp I L H) (hS : xS G s.heap H locs) (hdg : decode cc pc = .ok (.lastore, 1)) (hf : xas L k n i x K = some r)
    (kk : ∀ (L1 : xTL), K L1 = some r → ∀ (H1 : Heap) (locs1 : List Loc), xRep G kp I L1 H1 → xS G s.heap H1 locs1 → W p l e R s m args below meth c H1 locs1 cells slots Q (F0 m (pc + 1) ls rest)) : W p l e R s m args below meth c H locs cells slots Q (F0 m pc ls (.long x :: .int i :: .ref (xz G + k) :: rest)) := by
  unfold xas at hf
  split at hf
  · cases hf
  · rename_i hin
    refine W.last hC.1 hC.2.1 (hR.2 k _ (ce (L k))) ((hC.2.2.2.2.2.1.2 1 _ rfl).1 n (fun j => .long (L k j))) (fun q => by cases q) (by show ¬ (i < 0 ∨ (arrV _ _ _).slots.size ≤ _); rw [arrV_size]; exact hin) rfl rfl hdg fun H1 e1 e2 e3 => ?_
    refine kk _ hf H1 _ (xR_set (k := k) hR e2 e3 (fun _ _ => rfl) (fun k' h => xup_ne h) fun e9 he => ?_) (xS_put hS e2 e3)
    rw [ce] at he
    cases he
    show H1[_]? = some (vp_cell _ _)
    rw [e1, vp_cell_l, vp_cell_l, arrV_store]
    congr 2
    funext q
    by_cases hq : q = i.toNatClampNeg
    · subst hq
      simp [updV, xup]
    · simp [updV, xup, hq]

theorem x_putI {idx ci j k : Nat} {fs : (Nat → Int32) → List Value} {x : Int32} {K : xTI → Option Rt} (hC : xC G p s m args meth c cc nL own ret) (hF : xFl own idx ci j) (hFp : xFp ci j .int) (ce : ∀ f : Nat → Int32, xE G kp k f (L k) = some (.inr (ci, fs f))) (hset : fs (xup I k j x k) = (fs (I k)).set j (.int x)) (hl : j < (fs (I k)).length) (hR : xRep G kp I L H) (hS : xS G s.heap H locs) (hdg : decode cc pc = .ok (.putfield idx, 3)) (hf : xbn (xup I k j x) K = some r)
    (kk : ∀ (I1 : xTI), K I1 = some r → ∀ (H1 : Heap) (locs1 : List Loc), xRep G kp I1 L H1 → xS G s.heap H1 locs1 → W p l e R s m args below meth c H1 locs1 cells slots Q (F0 m (pc + 3) ls rest)) : W p l e R s m args below meth c H locs cells slots Q (F0 m pc ls (.int x :: .ref (xz G + k) :: rest)) := by
  exact x_put (I1 := xup I k j x) (L1 := L) hC hF hFp (ce _) (by rw [ce, hset]) hl rfl rfl (fun _ h => xup_ne h) (fun _ _ => rfl) hR hS hdg (kk _ hf)
theorem x_putZ {idx ci j k : Nat} {fs : (Nat → Int32) → List Value} {x : Int32} {K : xTI → Option Rt} (hC : xC G p s m args meth c cc nL own ret) (hF : xFl own idx ci j) (hFp : xFp ci j .boolean) (ce : ∀ f : Nat → Int32, xE G kp k f (L k) = some (.inr (ci, fs f))) (hset : fs (xup I k j x k) = (fs (I k)).set j (.int x)) (hl : j < (fs (I k)).length) (hR : xRep G kp I L H) (hS : xS G s.heap H locs) (hdg : decode cc pc = .ok (.putfield idx, 3)) (hf : xzc x (xbn (xup I k j x) K) = some r)
    (kk : ∀ (I1 : xTI), K I1 = some r → ∀ (H1 : Heap) (locs1 : List Loc), xRep G kp I1 L H1 → xS G s.heap H1 locs1 → W p l e R s m args below meth c H1 locs1 cells slots Q (F0 m (pc + 3) ls rest)) : W p l e R s m args below meth c H locs cells slots Q (F0 m pc ls (.int x :: .ref (xz G + k) :: rest)) := by
  unfold xzc at hf
  split at hf
  · rename_i hx01
    refine x_put (I1 := xup I k j x) (L1 := L) hC hF hFp (ce _) (by rw [ce, hset]) hl (by rcases hx01 with h | h <;> subst h <;> rfl) (by rcases hx01 with h | h <;> subst h <;> rfl) (fun _ h => xup_ne h) (fun _ _ => rfl) hR hS hdg (kk _ hf)
  · cases hf
theorem x_putL {idx ci j k : Nat} {fs : (Nat → Int64) → List Value} {x : Int64} {K : xTL → Option Rt} (hC : xC G p s m args meth c cc nL own ret) (hF : xFl own idx ci j) (hFp : xFp ci j .long) (ce : ∀ f : Nat → Int64, xE G kp k (I k) f = some (.inr (ci, fs f))) (hset : fs (xup L k j x k) = (fs (L k)).set j (.long x)) (hl : j < (fs (L k)).length) (hR : xRep G kp I L H) (hS : xS G s.heap H locs) (hdg : decode cc pc = .ok (.putfield idx, 3)) (hf : xbn (xup L k j x) K = some r)
    (kk : ∀ (I1 : xTL), K I1 = some r → ∀ (H1 : Heap) (locs1 : List Loc), xRep G kp I I1 H1 → xS G s.heap H1 locs1 → W p l e R s m args below meth c H1 locs1 cells slots Q (F0 m (pc + 3) ls rest)) : W p l e R s m args below meth c H locs cells slots Q (F0 m pc ls (.long x :: .ref (xz G + k) :: rest)) := by
  exact x_put (I1 := I) (L1 := xup L k j x) hC hF hFp (ce _) (by rw [ce, hset]) hl rfl rfl (fun _ _ => rfl) (fun _ h => xup_ne h) hR hS hdg (kk _ hf)
theorem x_alen_i {k n : Nat} {v : Int32} (hC : xC G p s m args meth c cc nL own ret) (ce : xE G kp k (I k) (L k) = some (.inl (G.2.1, (n, .inl (I k))))) (hv : Int32.ofNat n = v) (hR : xRep G kp I L H) (hdg : decode cc pc = .ok (.arraylength, 1))
    (kk : W p l e R s m args below meth c H locs cells slots Q (F0 m (pc + 1) ls (.int v :: rest))) : W p l e R s m args below meth c H locs cells slots Q (F0 m pc ls (.ref (xz G + k) :: rest)) := by
  subst hv
  exact W.alen (n := Int32.ofNat n) hC.1 hC.2.1 (hR.2 k _ ce) ((hC.2.2.2.2.2.1.2 0 _ rfl).1 n (fun j => .int (I k j))) (by show (arrV _ _ _).slots.size.toInt32 = _; rw [arrV_size]; try rfl) rfl rfl hdg kk
theorem x_alen_l {k n : Nat} {v : Int32} (hC : xC G p s m args meth c cc nL own ret) (ce : xE G kp k (I k) (L k) = some (.inl (G.2.2.1, (n, .inr (.inl (L k)))))) (hv : Int32.ofNat n = v) (hR : xRep G kp I L H) (hdg : decode cc pc = .ok (.arraylength, 1))
    (kk : W p l e R s m args below meth c H locs cells slots Q (F0 m (pc + 1) ls (.int v :: rest))) : W p l e R s m args below meth c H locs cells slots Q (F0 m pc ls (.ref (xz G + k) :: rest)) := by
  subst hv
  exact W.alen (n := Int32.ofNat n) hC.1 hC.2.1 (hR.2 k _ ce) ((hC.2.2.2.2.2.1.2 1 _ rfl).1 n (fun j => .long (L k j))) (by show (arrV _ _ _).slots.size.toInt32 = _; rw [arrV_size]; try rfl) rfl rfl hdg kk
theorem x_if_eq {x : Int32} {off : Int} {tgt : Nat} {A B : Option Rt} (hC : xC G p s m args meth c cc nL own ret) (hdg : decode cc pc = .ok (.ifCond .eq off, 3)) (ht : (pc : Int) + off = (tgt : Int)) (hf : (if x = 0 then A else B) = some r)
    (kt : A = some r → W p l e R s m args below meth c H locs cells slots Q (F0 m tgt ls rest)) (kf : B = some r → W p l e R s m args below meth c H locs cells slots Q (F0 m (pc + 3) ls rest)) : W p l e R s m args below meth c H locs cells slots Q (F0 m pc ls (.int x :: rest)) := by
  refine lv_if_eq hC.1 hC.2.1 hdg ht (fun h => kt ?_) (fun h => kf ?_)
  · rw [if_pos h] at hf; exact hf
  · rw [if_neg h] at hf; exact hf
theorem x_ic_eq {x y : Int32} {off : Int} {tgt : Nat} {A B : Option Rt} (hC : xC G p s m args meth c cc nL own ret) (hdg : decode cc pc = .ok (.if_icmp .eq off, 3)) (ht : (pc : Int) + off = (tgt : Int)) (hf : (if x = y then A else B) = some r)
    (kt : A = some r → W p l e R s m args below meth c H locs cells slots Q (F0 m tgt ls rest)) (kf : B = some r → W p l e R s m args below meth c H locs cells slots Q (F0 m (pc + 3) ls rest)) : W p l e R s m args below meth c H locs cells slots Q (F0 m pc ls (.int y :: .int x :: rest)) := by
  refine lv_icmp_eq hC.1 hC.2.1 hdg ht (fun h => kt ?_) (fun h => kf ?_)
  · rw [if_pos h] at hf; exact hf
  · rw [if_neg h] at hf; exact hf
theorem x_if_ne {x : Int32} {off : Int} {tgt : Nat} {A B : Option Rt} (hC : xC G p s m args meth c cc nL own ret) (hdg : decode cc pc = .ok (.ifCond .ne off, 3)) (ht : (pc : Int) + off = (tgt : Int)) (hf : (if x = 0 then B else A) = some r)
    (kt : A = some r → W p l e R s m args below meth c H locs cells slots Q (F0 m tgt ls rest)) (kf : B = some r → W p l e R s m args below meth c H locs cells slots Q (F0 m (pc + 3) ls rest)) : W p l e R s m args below meth c H locs cells slots Q (F0 m pc ls (.int x :: rest)) := by
  refine lv_if_ne hC.1 hC.2.1 hdg ht (fun h => kt ?_) (fun h => kf ?_)
  · first | (rw [if_neg h] at hf; exact hf) | (rw [if_neg (by simpa using h)] at hf; exact hf)
  · first | (rw [if_pos h] at hf; exact hf) | (rw [if_pos (by simpa using h)] at hf; exact hf)
theorem x_ic_ne {x y : Int32} {off : Int} {tgt : Nat} {A B : Option Rt} (hC : xC G p s m args meth c cc nL own ret) (hdg : decode cc pc = .ok (.if_icmp .ne off, 3)) (ht : (pc : Int) + off = (tgt : Int)) (hf : (if x = y then B else A) = some r)
    (kt : A = some r → W p l e R s m args below meth c H locs cells slots Q (F0 m tgt ls rest)) (kf : B = some r → W p l e R s m args below meth c H locs cells slots Q (F0 m (pc + 3) ls rest)) : W p l e R s m args below meth c H locs cells slots Q (F0 m pc ls (.int y :: .int x :: rest)) := by
  refine lv_icmp_ne hC.1 hC.2.1 hdg ht (fun h => kt ?_) (fun h => kf ?_)
  · first | (rw [if_neg h] at hf; exact hf) | (rw [if_neg (by simpa using h)] at hf; exact hf)
  · first | (rw [if_pos h] at hf; exact hf) | (rw [if_pos (by simpa using h)] at hf; exact hf)
theorem x_if_lt {x : Int32} {off : Int} {tgt : Nat} {A B : Option Rt} (hC : xC G p s m args meth c cc nL own ret) (hdg : decode cc pc = .ok (.ifCond .lt off, 3)) (ht : (pc : Int) + off = (tgt : Int)) (hf : (if x < 0 then A else B) = some r)
    (kt : A = some r → W p l e R s m args below meth c H locs cells slots Q (F0 m tgt ls rest)) (kf : B = some r → W p l e R s m args below meth c H locs cells slots Q (F0 m (pc + 3) ls rest)) : W p l e R s m args below meth c H locs cells slots Q (F0 m pc ls (.int x :: rest)) := by
  refine lv_if_lt hC.1 hC.2.1 hdg ht (fun h => kt ?_) (fun h => kf ?_)
  · rw [if_pos h] at hf; exact hf
  · rw [if_neg h] at hf; exact hf
theorem x_ic_lt {x y : Int32} {off : Int} {tgt : Nat} {A B : Option Rt} (hC : xC G p s m args meth c cc nL own ret) (hdg : decode cc pc = .ok (.if_icmp .lt off, 3)) (ht : (pc : Int) + off = (tgt : Int)) (hf : (if x < y then A else B) = some r)
    (kt : A = some r → W p l e R s m args below meth c H locs cells slots Q (F0 m tgt ls rest)) (kf : B = some r → W p l e R s m args below meth c H locs cells slots Q (F0 m (pc + 3) ls rest)) : W p l e R s m args below meth c H locs cells slots Q (F0 m pc ls (.int y :: .int x :: rest)) := by
  refine lv_icmp_lt hC.1 hC.2.1 hdg ht (fun h => kt ?_) (fun h => kf ?_)
  · rw [if_pos h] at hf; exact hf
  · rw [if_neg h] at hf; exact hf
theorem x_if_ge {x : Int32} {off : Int} {tgt : Nat} {A B : Option Rt} (hC : xC G p s m args meth c cc nL own ret) (hdg : decode cc pc = .ok (.ifCond .ge off, 3)) (ht : (pc : Int) + off = (tgt : Int)) (hf : (if 0 ≤ x then A else B) = some r)
    (kt : A = some r → W p l e R s m args below meth c H locs cells slots Q (F0 m tgt ls rest)) (kf : B = some r → W p l e R s m args below meth c H locs cells slots Q (F0 m (pc + 3) ls rest)) : W p l e R s m args below meth c H locs cells slots Q (F0 m pc ls (.int x :: rest)) := by
  refine lv_if_ge hC.1 hC.2.1 hdg ht (fun h => kt ?_) (fun h => kf ?_)
  · rw [if_pos h] at hf; exact hf
  · rw [if_neg h] at hf; exact hf
theorem x_ic_ge {x y : Int32} {off : Int} {tgt : Nat} {A B : Option Rt} (hC : xC G p s m args meth c cc nL own ret) (hdg : decode cc pc = .ok (.if_icmp .ge off, 3)) (ht : (pc : Int) + off = (tgt : Int)) (hf : (if y ≤ x then A else B) = some r)
    (kt : A = some r → W p l e R s m args below meth c H locs cells slots Q (F0 m tgt ls rest)) (kf : B = some r → W p l e R s m args below meth c H locs cells slots Q (F0 m (pc + 3) ls rest)) : W p l e R s m args below meth c H locs cells slots Q (F0 m pc ls (.int y :: .int x :: rest)) := by
  refine lv_icmp_ge hC.1 hC.2.1 hdg ht (fun h => kt ?_) (fun h => kf ?_)
  · rw [if_pos h] at hf; exact hf
  · rw [if_neg h] at hf; exact hf
theorem x_if_gt {x : Int32} {off : Int} {tgt : Nat} {A B : Option Rt} (hC : xC G p s m args meth c cc nL own ret) (hdg : decode cc pc = .ok (.ifCond .gt off, 3)) (ht : (pc : Int) + off = (tgt : Int)) (hf : (if 0 < x then A else B) = some r)
    (kt : A = some r → W p l e R s m args below meth c H locs cells slots Q (F0 m tgt ls rest)) (kf : B = some r → W p l e R s m args below meth c H locs cells slots Q (F0 m (pc + 3) ls rest)) : W p l e R s m args below meth c H locs cells slots Q (F0 m pc ls (.int x :: rest)) := by
  refine lv_if_gt hC.1 hC.2.1 hdg ht (fun h => kt ?_) (fun h => kf ?_)
  · rw [if_pos h] at hf; exact hf
  · rw [if_neg h] at hf; exact hf
theorem x_ic_gt {x y : Int32} {off : Int} {tgt : Nat} {A B : Option Rt} (hC : xC G p s m args meth c cc nL own ret) (hdg : decode cc pc = .ok (.if_icmp .gt off, 3)) (ht : (pc : Int) + off = (tgt : Int)) (hf : (if y < x then A else B) = some r)
    (kt : A = some r → W p l e R s m args below meth c H locs cells slots Q (F0 m tgt ls rest)) (kf : B = some r → W p l e R s m args below meth c H locs cells slots Q (F0 m (pc + 3) ls rest)) : W p l e R s m args below meth c H locs cells slots Q (F0 m pc ls (.int y :: .int x :: rest)) := by
  refine lv_icmp_gt hC.1 hC.2.1 hdg ht (fun h => kt ?_) (fun h => kf ?_)
  · rw [if_pos h] at hf; exact hf
  · rw [if_neg h] at hf; exact hf
theorem x_if_le {x : Int32} {off : Int} {tgt : Nat} {A B : Option Rt} (hC : xC G p s m args meth c cc nL own ret) (hdg : decode cc pc = .ok (.ifCond .le off, 3)) (ht : (pc : Int) + off = (tgt : Int)) (hf : (if x ≤ 0 then A else B) = some r)
    (kt : A = some r → W p l e R s m args below meth c H locs cells slots Q (F0 m tgt ls rest)) (kf : B = some r → W p l e R s m args below meth c H locs cells slots Q (F0 m (pc + 3) ls rest)) : W p l e R s m args below meth c H locs cells slots Q (F0 m pc ls (.int x :: rest)) := by
  refine lv_if_le hC.1 hC.2.1 hdg ht (fun h => kt ?_) (fun h => kf ?_)
  · rw [if_pos h] at hf; exact hf
  · rw [if_neg h] at hf; exact hf
theorem x_ic_le {x y : Int32} {off : Int} {tgt : Nat} {A B : Option Rt} (hC : xC G p s m args meth c cc nL own ret) (hdg : decode cc pc = .ok (.if_icmp .le off, 3)) (ht : (pc : Int) + off = (tgt : Int)) (hf : (if x ≤ y then A else B) = some r)
    (kt : A = some r → W p l e R s m args below meth c H locs cells slots Q (F0 m tgt ls rest)) (kf : B = some r → W p l e R s m args below meth c H locs cells slots Q (F0 m (pc + 3) ls rest)) : W p l e R s m args below meth c H locs cells slots Q (F0 m pc ls (.int y :: .int x :: rest)) := by
  refine lv_icmp_le hC.1 hC.2.1 hdg ht (fun h => kt ?_) (fun h => kf ?_)
  · rw [if_pos h] at hf; exact hf
  · rw [if_neg h] at hf; exact hf
theorem x_istn {k : Fin 4} {i : Nat} {x : Int32} {lv : List (Nat × Value)} {lv' : Int32 → List (Nat × Value)} {K : Int32 → Option Rt} (hC : xC G p s m args meth c cc nL own ret) (hl : lv_has ls nL lv) (hdg : decode cc pc = .ok (.istore_n k, 1)) (hi : (k : Nat) = i) (hn : i < nL) (hf : xbn x K = some r) (hlv : ∀ v : Int32, (i, Value.int v) :: lv.filter (fun q => !(q.1 == i) && !(q.1 + 1 == i && q.2.category == 2)) = lv' v)
    (kk : ∀ v : Int32, K v = some r → ∀ ls' : Array Slot, lv_has ls' nL (lv' v) → W p l e R s m args below meth c H locs cells slots Q (F0 m (pc + 1) ls' rest)) : W p l e R s m args below meth c H locs cells slots Q (F0 m pc ls (.int x :: rest)) := lv_istore_n hC.1 hC.2.1 hdg hi hl hn (hlv x) (kk x hf)
theorem x_ist {i : Nat} {x : Int32} {lv : List (Nat × Value)} {lv' : Int32 → List (Nat × Value)} {K : Int32 → Option Rt} (hC : xC G p s m args meth c cc nL own ret) (hl : lv_has ls nL lv) (hdg : decode cc pc = .ok (.istore i, 2)) (hn : i < nL) (hf : xbn x K = some r) (hlv : ∀ v : Int32, (i, Value.int v) :: lv.filter (fun q => !(q.1 == i) && !(q.1 + 1 == i && q.2.category == 2)) = lv' v)
    (kk : ∀ v : Int32, K v = some r → ∀ ls' : Array Slot, lv_has ls' nL (lv' v) → W p l e R s m args below meth c H locs cells slots Q (F0 m (pc + 2) ls' rest)) : W p l e R s m args below meth c H locs cells slots Q (F0 m pc ls (.int x :: rest)) := lv_istore hC.1 hC.2.1 hdg hl hn (hlv x) (kk x hf)
theorem x_lstn {k : Fin 4} {i : Nat} {x : Int64} {lv : List (Nat × Value)} {lv' : Int64 → List (Nat × Value)} {K : Int64 → Option Rt} (hC : xC G p s m args meth c cc nL own ret) (hl : lv_has ls nL lv) (hdg : decode cc pc = .ok (.lstore_n k, 1)) (hi : (k : Nat) = i) (hn : i + 1 < nL) (hf : xbn x K = some r) (hlv : ∀ v : Int64, (i, Value.long v) :: lv.filter (fun q => !(q.1 == i) && (!(q.1 == i + 1) && !(q.1 + 1 == i && q.2.category == 2))) = lv' v)
    (kk : ∀ v : Int64, K v = some r → ∀ ls' : Array Slot, lv_has ls' nL (lv' v) → W p l e R s m args below meth c H locs cells slots Q (F0 m (pc + 1) ls' rest)) : W p l e R s m args below meth c H locs cells slots Q (F0 m pc ls (.long x :: rest)) := lv_lstore_n hC.1 hC.2.1 hdg hi hl hn (hlv x) (kk x hf)
theorem x_lst {i : Nat} {x : Int64} {lv : List (Nat × Value)} {lv' : Int64 → List (Nat × Value)} {K : Int64 → Option Rt} (hC : xC G p s m args meth c cc nL own ret) (hl : lv_has ls nL lv) (hdg : decode cc pc = .ok (.lstore i, 2)) (hn : i + 1 < nL) (hf : xbn x K = some r) (hlv : ∀ v : Int64, (i, Value.long v) :: lv.filter (fun q => !(q.1 == i) && (!(q.1 == i + 1) && !(q.1 + 1 == i && q.2.category == 2))) = lv' v)
    (kk : ∀ v : Int64, K v = some r → ∀ ls' : Array Slot, lv_has ls' nL (lv' v) → W p l e R s m args below meth c H locs cells slots Q (F0 m (pc + 2) ls' rest)) : W p l e R s m args below meth c H locs cells slots Q (F0 m pc ls (.long x :: rest)) := lv_lstore hC.1 hC.2.1 hdg hl hn (hlv x) (kk x hf)
theorem x_iinc {i k : Nat} {n : Int} {x d : Int32} {lv : List (Nat × Value)} {lv' : Int32 → List (Nat × Value)} {K : Int32 → Option Rt} (hC : xC G p s m args meth c cc nL own ret) (hl : lv_has ls nL lv) (hdg : decode cc pc = .ok (.iinc i n, 3)) (hk : lv[k]? = some (i, .int x)) (hd : Int32.ofInt n = d) (hn : i < nL) (hf : xbn (x + d) K = some r) (hlv : ∀ v : Int32, (i, Value.int v) :: lv.filter (fun q => !(q.1 == i) && !(q.1 + 1 == i && q.2.category == 2)) = lv' v)
    (kk : ∀ v : Int32, K v = some r → ∀ ls' : Array Slot, lv_has ls' nL (lv' v) → W p l e R s m args below meth c H locs cells slots Q (F0 m (pc + 3) ls' rest)) : W p l e R s m args below meth c H locs cells slots Q (F0 m pc ls rest) := by
  subst hd
  exact lv_iinc hC.1 hC.2.1 hdg hl hk rfl hn (hlv _) (kk _ hf)
theorem x_ldc {idx : Nat} {v : Int32} (hC : xC G p s m args meth c cc nL own ret) (hm : Cond.constant own idx v ∈ lw_tbl) (hdg : decode cc pc = .ok (.ldc idx, 2)) (kk : W p l e R s m args below meth c H locs cells slots Q (F0 m (pc + 2) ls (.int v :: rest))) : W p l e R s m args below meth c H locs cells slots Q (F0 m pc ls rest) := lv_ldc hC.1 hC.2.1 hC.2.2.2.1 (hC.2.2.2.2.1.use hm rfl args) hdg kk
theorem x_ldc2 {idx : Nat} {v : Int64} (hC : xC G p s m args meth c cc nL own ret) (hm : Cond.constantLong own idx v ∈ lw_tbl) (hdg : decode cc pc = .ok (.ldc2_w idx, 3)) (kk : W p l e R s m args below meth c H locs cells slots Q (F0 m (pc + 3) ls (.long v :: rest))) : W p l e R s m args below meth c H locs cells slots Q (F0 m pc ls rest) := lv_ldc2 hC.1 hC.2.1 hC.2.2.2.1 (hC.2.2.2.2.1.use hm rfl args) hdg kk
theorem x_idiv {x y : Int32} {K : Int32 → Option Rt} (hC : xC G p s m args meth c cc nL own ret) (hdg : decode cc pc = .ok (.idiv, 1)) (hf : xnz (x / y) y K = some r) (kk : ∀ v : Int32, K v = some r → W p l e R s m args below meth c H locs cells slots Q (F0 m (pc + 1) ls (.int v :: rest))) : W p l e R s m args below meth c H locs cells slots Q (F0 m pc ls (.int y :: .int x :: rest)) := by
  unfold xnz at hf
  split at hf
  · cases hf
  · rename_i h
    exact lv_idiv hC.1 hC.2.1 hdg h (kk _ hf)
theorem x_irem {x y : Int32} {K : Int32 → Option Rt} (hC : xC G p s m args meth c cc nL own ret) (hdg : decode cc pc = .ok (.irem, 1)) (hf : xnz (x - x / y * y) y K = some r) (kk : ∀ v : Int32, K v = some r → W p l e R s m args below meth c H locs cells slots Q (F0 m (pc + 1) ls (.int v :: rest))) : W p l e R s m args below meth c H locs cells slots Q (F0 m pc ls (.int y :: .int x :: rest)) := by
  unfold xnz at hf
  split at hf
  · cases hf
  · rename_i h
    exact lv_irem hC.1 hC.2.1 hdg h (kk _ hf)
theorem x_ldiv {x y : Int64} {K : Int64 → Option Rt} (hC : xC G p s m args meth c cc nL own ret) (hdg : decode cc pc = .ok (.ldiv, 1)) (hf : xnz (x / y) y K = some r) (kk : ∀ v : Int64, K v = some r → W p l e R s m args below meth c H locs cells slots Q (F0 m (pc + 1) ls (.long v :: rest))) : W p l e R s m args below meth c H locs cells slots Q (F0 m pc ls (.long y :: .long x :: rest)) := by
  unfold xnz at hf
  split at hf
  · cases hf
  · rename_i h
    exact lv_ldiv hC.1 hC.2.1 hdg h (kk _ hf)
theorem x_lrem {x y : Int64} {K : Int64 → Option Rt} (hC : xC G p s m args meth c cc nL own ret) (hdg : decode cc pc = .ok (.lrem, 1)) (hf : xnz (x - x / y * y) y K = some r) (kk : ∀ v : Int64, K v = some r → W p l e R s m args below meth c H locs cells slots Q (F0 m (pc + 1) ls (.long v :: rest))) : W p l e R s m args below meth c H locs cells slots Q (F0 m pc ls (.long y :: .long x :: rest)) := by
  unfold xnz at hf
  split at hf
  · cases hf
  · rename_i h
    exact lv_lrem hC.1 hC.2.1 hdg h (kk _ hf)
theorem x_iret {x : Int32} (hC : xC G p s m args meth c cc nL own (some .int)) (hR : xRep G kp I L H) (hS : xS G s.heap H locs) (hdg : decode cc pc = .ok (.ireturn, 1)) : W p l e R s m args below meth c H locs 0 0 (xMQ G kp below args s (some (.int x)) I L) (F0 m pc ls [.int x]) :=
  W.iret hC.1 hC.2.1 hC.2.2.2.2.2.2.1 (fun t ht hW => ⟨rfl, by rw [ht]; exact hR, by rw [ht]; exact hS.1, fun q hq => by rw [ht]; exact hS.2.1 q hq⟩) hS.2.2 hdg (hlocks := hC.2.2.2.2.2.2.2.1)
theorem x_lret {x : Int64} (hC : xC G p s m args meth c cc nL own (some .long)) (hR : xRep G kp I L H) (hS : xS G s.heap H locs) (hdg : decode cc pc = .ok (.lreturn, 1)) : W p l e R s m args below meth c H locs 0 0 (xMQ G kp below args s (some (.long x)) I L) (F0 m pc ls [.long x]) :=
  W.lret hC.1 hC.2.1 hC.2.2.2.2.2.2.1 (fun t ht hW => ⟨rfl, by rw [ht]; exact hR, by rw [ht]; exact hS.1, fun q hq => by rw [ht]; exact hS.2.1 q hq⟩) hS.2.2 hdg (hlocks := hC.2.2.2.2.2.2.2.1)
theorem x_vret (hC : xC G p s m args meth c cc nL own (none)) (hR : xRep G kp I L H) (hS : xS G s.heap H locs) (hdg : decode cc pc = .ok (.return_, 1)) : W p l e R s m args below meth c H locs 0 0 (xMQ G kp below args s none I L) (F0 m pc ls []) :=
  W.vret hC.1 hC.2.1 hC.2.2.2.2.2.2.1 (fun t ht hW => ⟨rfl, by rw [ht]; exact hR, by rw [ht]; exact hS.1, fun q hq => by rw [ht]; exact hS.2.1 q hq⟩) hS.2.2 hdg (hlocks := hC.2.2.2.2.2.2.2.1)
theorem x_zret {x : Int32} (h01 : x = 0 ∨ x = 1) (hC : xC G p s m args meth c cc nL own (some .boolean)) (hR : xRep G kp I L H) (hS : xS G s.heap H locs) (hdg : decode cc pc = .ok (.ireturn, 1)) : W p l e R s m args below meth c H locs 0 0 (xMQ G kp below args s (some (.int x)) I L) (F0 m pc ls [.int x]) :=
  W.zret hC.1 hC.2.1 hC.2.2.2.2.2.2.1 (by rcases h01 with h | h <;> subst h <;> rfl) (fun t ht hW => ⟨rfl, by rw [ht]; exact hR, by rw [ht]; exact hS.1, fun q hq => by rw [ht]; exact hS.2.1 q hq⟩) hS.2.2 hdg (hlocks := hC.2.2.2.2.2.2.2.1)
theorem xzc_some {v : Int32} {K : Option Rt} (h : xzc v K = some r) : (v = 0 ∨ v = 1) ∧ K = some r := by
  unfold xzc at h
  split at h
  · rename_i h1
    exact ⟨h1, h⟩
  · cases h
theorem x_run {v : Option Value} {I1 : xTI} {L1 : xTL} {a : Array Value} {st0 : List Value} (hr : va_Run p l e R s m args below meth c H locs cells slots 0 0 (F0 m pc ls st0) rest (xQ G kp v I1 L1 a) (xfr G)) (hS : xS G s.heap H locs)
    (kk : ∀ (H1 : Heap) (locs1 : List Loc), xRep G kp I1 L1 H1 → xS G s.heap H1 locs1 → W p l e R s m args below meth c H1 locs1 cells slots Q (F0 m (pc + 3) ls (v.toList ++ rest))) : W p l e R s m args below meth c H locs cells slots Q (F0 m pc ls st0) := by
  intro T hT X
  obtain ⟨v', st₀, t, T', L', h0, X', hL, e1, e2, ⟨hv, hq, hz, hk⟩, st⟩ := hr T hT X
  cases hv
  rw [h0] at hz hk
  obtain ⟨t2, a1, b1⟩ := kk T'.heap (locs ++ L') (by rw [e1]; exact hq) ⟨by rw [e1]; exact hz.trans hS.1, fun q h1 => by rw [e1, hk q h1]; exact hS.2.1 q h1, fun q hq => by
      rcases List.mem_append.mp hq with h | h
      · exact hS.2.2 q h
      · exact hL q h⟩ T' rfl X'
  exact ⟨t2, st t2 a1, b1⟩
theorem x_cv {y : MethodName} {ccY : ByteArray} {nLY n fr lo idx k ci : Nat} {retY : Option FieldType} {fs As st0 : List Value} {v : Option Value} {I1 : xTI} {L1 : xTL} (hC : xC G p s m args meth c cc nL own ret) (hY : xYv y ccY nLY retY n) (hlk : Cond.methodLink own idx y ∈ lw_tbl) (hM : xMet G l y ccY nLY retY fr lo kp (.ref (xz G + k) :: As) I L v I1 L1)
    (hrm : fr + 1 ≤ R.frames ∧ 8 + (nLY + 11) + lo ≤ R.locals) (ce : xE G kp k (I k) (L k) = some (.inr (ci, fs))) (hci : (xcl[ci]?).map (fun q => q.1) = some y.cls) (hn : As.length = n) (hst : st0 = As.reverse ++ .ref (xz G + k) :: rest) (hrest : (rest.map fun v => v.category).sum ≤ 8) (hl : ls.size = nL) (hR : xRep G kp I L H) (hS : xS G s.heap H locs) (hdg : decode cc pc = .ok (.invokevirtual idx, 3)) (hcs : cells ≤ R.cells ∧ slots ≤ R.slots)
    (kk : ∀ (H1 : Heap) (locs1 : List Loc), xRep G kp I1 L1 H1 → xS G s.heap H1 locs1 → W p l e R s m args below meth c H1 locs1 cells slots Q (F0 m (pc + 3) ls (v.toList ++ rest))) : W p l e R s m args below meth c H locs cells slots Q (F0 m pc ls st0) := by
  obtain ⟨hx, hb, hml, hown, hW, hK, -, -, hT⟩ := hC
  obtain ⟨h1, h2, h3, h4, h5, h6⟩ := hY
  have hcw : CallW R s args own y.cls idx y ccY nLY retY [.code y ccY nLY retY] (xrm fr lo) 0 0 n := by
    refine ⟨⟨rfl, rfl, hrm.1, hrm.2, fun w hw a' U hWU => ?_, List.mem_singleton.mpr rfl, hW.use h1 rfl args, hW.use h4 rfl args, h5, fun sig h => ?_, hW.use hlk rfl args⟩, hW.use h2 rfl args, hW.use h3 rfl args⟩
    · rw [List.mem_singleton.mp hw]
      exact (hW.warm hWU).use h1 rfl a'
    · rw [h] at h6
      exact (Option.some.inj h6).symm
  obtain ⟨q, hq⟩ : ∃ q, xcl[ci]? = some q := by
    cases h : xcl[ci]? with
    | none => rw [h] at hci; cases hci
    | some q => exact ⟨q, rfl⟩
  have hqc : q.1 = y.cls := by rw [hq] at hci; exact Option.some.inj hci
  have hP : va_P G.1 xcl [(xz G + k, .inr (ci, fs))] H := fun i q hq => by
    match i, hq with
    | 0, hq => cases hq; exact hR.2 k _ ce
    | i + 1, hq => simp at hq
  have hrec := va_recv hK hP hq (q0 := 0) rfl
  rw [hqc] at hrec
  refine x_run (a := (Value.ref (xz G + k) :: As).toArray) (va_runV (Ts := []) (As := As) (b := xz G + k) ⟨hx, hb, hml, hown, fun w h => by cases h⟩ hM hcw ⟨xPc_blind _ _ _ _ _, hrec, fun U hU hWU => ⟨rfl, hW.warm hWU, va_K.moved hWU.alike hK, by rw [hU]; exact hR, by rw [hU]; exact xSt.warm hWU hS.2.1 hT⟩⟩ rfl hn hl hst (lv_room hrest) hdg ⟨hcs.1, hcs.2⟩) hS kk
theorem x_cs {y : MethodName} {ccY : ByteArray} {nLY n fr lo idx : Nat} {retY : Option FieldType} {As st0 : List Value} {v : Option Value} {I1 : xTI} {L1 : xTL} (hC : xC G p s m args meth c cc nL own ret) (hY : xYs y ccY nLY retY n) (hlk : Cond.methodLink own idx y ∈ lw_tbl) (hM : xMet G l y ccY nLY retY fr lo kp As I L v I1 L1)
    (hrm : fr + 1 ≤ R.frames ∧ 8 + (nLY + 11) + lo ≤ R.locals) (hn : As.length = n) (hst : st0 = As.reverse ++ rest) (hrest : (rest.map fun v => v.category).sum ≤ 8) (hl : ls.size = nL) (hR : xRep G kp I L H) (hS : xS G s.heap H locs) (hdg : decode cc pc = .ok (.invokestatic idx, 3)) (hcs : cells ≤ R.cells ∧ slots ≤ R.slots)
    (kk : ∀ (H1 : Heap) (locs1 : List Loc), xRep G kp I1 L1 H1 → xS G s.heap H1 locs1 → W p l e R s m args below meth c H1 locs1 cells slots Q (F0 m (pc + 3) ls (v.toList ++ rest))) : W p l e R s m args below meth c H locs cells slots Q (F0 m pc ls st0) := by
  obtain ⟨hx, hb, hml, hown, hW, hK, -, -, hT⟩ := hC
  obtain ⟨h1, h2, h4, h5, h6⟩ := hY
  have hcw : CallB R s args own idx y ccY nLY retY [.code y ccY nLY retY] (xrm fr lo) 0 0 n ∧ (Cond.static y).before args s = true := by
    refine ⟨⟨rfl, rfl, hrm.1, hrm.2, fun w hw a' U hWU => ?_, List.mem_singleton.mpr rfl, hW.use h1 rfl args, hW.use h4 rfl args, h5, fun sig h => ?_, hW.use hlk rfl args⟩, hW.use h2 rfl args⟩
    · rw [List.mem_singleton.mp hw]
      exact (hW.warm hWU).use h1 rfl a'
    · rw [h] at h6
      exact (Option.some.inj h6).symm
  refine x_run (a := As.toArray) (va_runS (Ts := []) (As := As) ⟨hx, hb, hml, hown, fun w h => by cases h⟩ hM hcw ⟨xPc_blind _ _ _ _ _, fun U hU hWU => ⟨rfl, hW.warm hWU, va_K.moved hWU.alike hK, by rw [hU]; exact hR, by rw [hU]; exact xSt.warm hWU hS.2.1 hT⟩⟩ rfl hn hl hst (lv_room hrest) hdg ⟨hcs.1, hcs.2⟩) hS kk
theorem x_cvi00 {y : MethodName} {ccY : ByteArray} {nLY n fr lo idx k ci : Nat} {fs As st0 : List Value} {retY : Option FieldType} {o : Option (Int32)} {K : Int32 → Option Rt} (hC : xC G p s m args meth c cc nL own ret) (hY : xYv y ccY nLY retY n) (hlk : Cond.methodLink own idx y ∈ lw_tbl) (hf : Option.bind o K = some r) (hM : ∀ (v : Int32), o = some v → xMet G l y ccY nLY retY fr lo kp (.ref (xz G + k) :: As) I L (some (.int v)) I L)
    (hrm : fr + 1 ≤ R.frames ∧ 8 + (nLY + 11) + lo ≤ R.locals) (ce : xE G kp k (I k) (L k) = some (.inr (ci, fs))) (hci : (xcl[ci]?).map (fun q => q.1) = some y.cls) (hn : As.length = n) (hst : st0 = As.reverse ++ .ref (xz G + k) :: rest) (hrest : (rest.map fun v => v.category).sum ≤ 8) (hl : ls.size = nL) (hR : xRep G kp I L H) (hS : xS G s.heap H locs) (hdg : decode cc pc = .ok (.invokevirtual idx, 3)) (hcs : cells ≤ R.cells ∧ slots ≤ R.slots)
    (kk : ∀ (v : Int32), K v = some r → ∀ (H1 : Heap) (locs1 : List Loc), xRep G kp I L H1 → xS G s.heap H1 locs1 → W p l e R s m args below meth c H1 locs1 cells slots Q (F0 m (pc + 3) ls (.int v :: rest))) : W p l e R s m args below meth c H locs cells slots Q (F0 m pc ls st0) := by
  obtain ⟨v, ho, hf⟩ := Option.bind_eq_some_iff.mp hf
  exact x_cv hC hY hlk (hM v ho) hrm ce hci hn hst hrest hl hR hS hdg hcs (kk v hf)
theorem x_cvi01 {y : MethodName} {ccY : ByteArray} {nLY n fr lo idx k ci : Nat} {fs As st0 : List Value} {retY : Option FieldType} {o : Option (Int32 × xTL)} {K : Int32 × xTL → Option Rt} (hC : xC G p s m args meth c cc nL own ret) (hY : xYv y ccY nLY retY n) (hlk : Cond.methodLink own idx y ∈ lw_tbl) (hf : Option.bind o K = some r) (hM : ∀ (v : Int32) (L1 : xTL), o = some (v, L1) → xMet G l y ccY nLY retY fr lo kp (.ref (xz G + k) :: As) I L (some (.int v)) I L1)
    (hrm : fr + 1 ≤ R.frames ∧ 8 + (nLY + 11) + lo ≤ R.locals) (ce : xE G kp k (I k) (L k) = some (.inr (ci, fs))) (hci : (xcl[ci]?).map (fun q => q.1) = some y.cls) (hn : As.length = n) (hst : st0 = As.reverse ++ .ref (xz G + k) :: rest) (hrest : (rest.map fun v => v.category).sum ≤ 8) (hl : ls.size = nL) (hR : xRep G kp I L H) (hS : xS G s.heap H locs) (hdg : decode cc pc = .ok (.invokevirtual idx, 3)) (hcs : cells ≤ R.cells ∧ slots ≤ R.slots)
    (kk : ∀ (v : Int32) (L1 : xTL), K (v, L1) = some r → ∀ (H1 : Heap) (locs1 : List Loc), xRep G kp I L1 H1 → xS G s.heap H1 locs1 → W p l e R s m args below meth c H1 locs1 cells slots Q (F0 m (pc + 3) ls (.int v :: rest))) : W p l e R s m args below meth c H locs cells slots Q (F0 m pc ls st0) := by
  obtain ⟨⟨v, L1⟩, ho, hf⟩ := Option.bind_eq_some_iff.mp hf
  exact x_cv hC hY hlk (hM v L1 ho) hrm ce hci hn hst hrest hl hR hS hdg hcs (kk v L1 hf)
theorem x_cvi10 {y : MethodName} {ccY : ByteArray} {nLY n fr lo idx k ci : Nat} {fs As st0 : List Value} {retY : Option FieldType} {o : Option (Int32 × xTI)} {K : Int32 × xTI → Option Rt} (hC : xC G p s m args meth c cc nL own ret) (hY : xYv y ccY nLY retY n) (hlk : Cond.methodLink own idx y ∈ lw_tbl) (hf : Option.bind o K = some r) (hM : ∀ (v : Int32) (I1 : xTI), o = some (v, I1) → xMet G l y ccY nLY retY fr lo kp (.ref (xz G + k) :: As) I L (some (.int v)) I1 L)
    (hrm : fr + 1 ≤ R.frames ∧ 8 + (nLY + 11) + lo ≤ R.locals) (ce : xE G kp k (I k) (L k) = some (.inr (ci, fs))) (hci : (xcl[ci]?).map (fun q => q.1) = some y.cls) (hn : As.length = n) (hst : st0 = As.reverse ++ .ref (xz G + k) :: rest) (hrest : (rest.map fun v => v.category).sum ≤ 8) (hl : ls.size = nL) (hR : xRep G kp I L H) (hS : xS G s.heap H locs) (hdg : decode cc pc = .ok (.invokevirtual idx, 3)) (hcs : cells ≤ R.cells ∧ slots ≤ R.slots)
    (kk : ∀ (v : Int32) (I1 : xTI), K (v, I1) = some r → ∀ (H1 : Heap) (locs1 : List Loc), xRep G kp I1 L H1 → xS G s.heap H1 locs1 → W p l e R s m args below meth c H1 locs1 cells slots Q (F0 m (pc + 3) ls (.int v :: rest))) : W p l e R s m args below meth c H locs cells slots Q (F0 m pc ls st0) := by
  obtain ⟨⟨v, I1⟩, ho, hf⟩ := Option.bind_eq_some_iff.mp hf
  exact x_cv hC hY hlk (hM v I1 ho) hrm ce hci hn hst hrest hl hR hS hdg hcs (kk v I1 hf)
theorem x_cvi11 {y : MethodName} {ccY : ByteArray} {nLY n fr lo idx k ci : Nat} {fs As st0 : List Value} {retY : Option FieldType} {o : Option (Int32 × xTI × xTL)} {K : Int32 × xTI × xTL → Option Rt} (hC : xC G p s m args meth c cc nL own ret) (hY : xYv y ccY nLY retY n) (hlk : Cond.methodLink own idx y ∈ lw_tbl) (hf : Option.bind o K = some r) (hM : ∀ (v : Int32) (I1 : xTI) (L1 : xTL), o = some (v, I1, L1) → xMet G l y ccY nLY retY fr lo kp (.ref (xz G + k) :: As) I L (some (.int v)) I1 L1)
    (hrm : fr + 1 ≤ R.frames ∧ 8 + (nLY + 11) + lo ≤ R.locals) (ce : xE G kp k (I k) (L k) = some (.inr (ci, fs))) (hci : (xcl[ci]?).map (fun q => q.1) = some y.cls) (hn : As.length = n) (hst : st0 = As.reverse ++ .ref (xz G + k) :: rest) (hrest : (rest.map fun v => v.category).sum ≤ 8) (hl : ls.size = nL) (hR : xRep G kp I L H) (hS : xS G s.heap H locs) (hdg : decode cc pc = .ok (.invokevirtual idx, 3)) (hcs : cells ≤ R.cells ∧ slots ≤ R.slots)
    (kk : ∀ (v : Int32) (I1 : xTI) (L1 : xTL), K (v, I1, L1) = some r → ∀ (H1 : Heap) (locs1 : List Loc), xRep G kp I1 L1 H1 → xS G s.heap H1 locs1 → W p l e R s m args below meth c H1 locs1 cells slots Q (F0 m (pc + 3) ls (.int v :: rest))) : W p l e R s m args below meth c H locs cells slots Q (F0 m pc ls st0) := by
  obtain ⟨⟨v, I1, L1⟩, ho, hf⟩ := Option.bind_eq_some_iff.mp hf
  exact x_cv hC hY hlk (hM v I1 L1 ho) hrm ce hci hn hst hrest hl hR hS hdg hcs (kk v I1 L1 hf)
theorem x_cvl00 {y : MethodName} {ccY : ByteArray} {nLY n fr lo idx k ci : Nat} {fs As st0 : List Value} {retY : Option FieldType} {o : Option (Int64)} {K : Int64 → Option Rt} (hC : xC G p s m args meth c cc nL own ret) (hY : xYv y ccY nLY retY n) (hlk : Cond.methodLink own idx y ∈ lw_tbl) (hf : Option.bind o K = some r) (hM : ∀ (v : Int64), o = some v → xMet G l y ccY nLY retY fr lo kp (.ref (xz G + k) :: As) I L (some (.long v)) I L)
    (hrm : fr + 1 ≤ R.frames ∧ 8 + (nLY + 11) + lo ≤ R.locals) (ce : xE G kp k (I k) (L k) = some (.inr (ci, fs))) (hci : (xcl[ci]?).map (fun q => q.1) = some y.cls) (hn : As.length = n) (hst : st0 = As.reverse ++ .ref (xz G + k) :: rest) (hrest : (rest.map fun v => v.category).sum ≤ 8) (hl : ls.size = nL) (hR : xRep G kp I L H) (hS : xS G s.heap H locs) (hdg : decode cc pc = .ok (.invokevirtual idx, 3)) (hcs : cells ≤ R.cells ∧ slots ≤ R.slots)
    (kk : ∀ (v : Int64), K v = some r → ∀ (H1 : Heap) (locs1 : List Loc), xRep G kp I L H1 → xS G s.heap H1 locs1 → W p l e R s m args below meth c H1 locs1 cells slots Q (F0 m (pc + 3) ls (.long v :: rest))) : W p l e R s m args below meth c H locs cells slots Q (F0 m pc ls st0) := by
  obtain ⟨v, ho, hf⟩ := Option.bind_eq_some_iff.mp hf
  exact x_cv hC hY hlk (hM v ho) hrm ce hci hn hst hrest hl hR hS hdg hcs (kk v hf)
theorem x_cvl01 {y : MethodName} {ccY : ByteArray} {nLY n fr lo idx k ci : Nat} {fs As st0 : List Value} {retY : Option FieldType} {o : Option (Int64 × xTL)} {K : Int64 × xTL → Option Rt} (hC : xC G p s m args meth c cc nL own ret) (hY : xYv y ccY nLY retY n) (hlk : Cond.methodLink own idx y ∈ lw_tbl) (hf : Option.bind o K = some r) (hM : ∀ (v : Int64) (L1 : xTL), o = some (v, L1) → xMet G l y ccY nLY retY fr lo kp (.ref (xz G + k) :: As) I L (some (.long v)) I L1)
    (hrm : fr + 1 ≤ R.frames ∧ 8 + (nLY + 11) + lo ≤ R.locals) (ce : xE G kp k (I k) (L k) = some (.inr (ci, fs))) (hci : (xcl[ci]?).map (fun q => q.1) = some y.cls) (hn : As.length = n) (hst : st0 = As.reverse ++ .ref (xz G + k) :: rest) (hrest : (rest.map fun v => v.category).sum ≤ 8) (hl : ls.size = nL) (hR : xRep G kp I L H) (hS : xS G s.heap H locs) (hdg : decode cc pc = .ok (.invokevirtual idx, 3)) (hcs : cells ≤ R.cells ∧ slots ≤ R.slots)
    (kk : ∀ (v : Int64) (L1 : xTL), K (v, L1) = some r → ∀ (H1 : Heap) (locs1 : List Loc), xRep G kp I L1 H1 → xS G s.heap H1 locs1 → W p l e R s m args below meth c H1 locs1 cells slots Q (F0 m (pc + 3) ls (.long v :: rest))) : W p l e R s m args below meth c H locs cells slots Q (F0 m pc ls st0) := by
  obtain ⟨⟨v, L1⟩, ho, hf⟩ := Option.bind_eq_some_iff.mp hf
  exact x_cv hC hY hlk (hM v L1 ho) hrm ce hci hn hst hrest hl hR hS hdg hcs (kk v L1 hf)
theorem x_cvl10 {y : MethodName} {ccY : ByteArray} {nLY n fr lo idx k ci : Nat} {fs As st0 : List Value} {retY : Option FieldType} {o : Option (Int64 × xTI)} {K : Int64 × xTI → Option Rt} (hC : xC G p s m args meth c cc nL own ret) (hY : xYv y ccY nLY retY n) (hlk : Cond.methodLink own idx y ∈ lw_tbl) (hf : Option.bind o K = some r) (hM : ∀ (v : Int64) (I1 : xTI), o = some (v, I1) → xMet G l y ccY nLY retY fr lo kp (.ref (xz G + k) :: As) I L (some (.long v)) I1 L)
    (hrm : fr + 1 ≤ R.frames ∧ 8 + (nLY + 11) + lo ≤ R.locals) (ce : xE G kp k (I k) (L k) = some (.inr (ci, fs))) (hci : (xcl[ci]?).map (fun q => q.1) = some y.cls) (hn : As.length = n) (hst : st0 = As.reverse ++ .ref (xz G + k) :: rest) (hrest : (rest.map fun v => v.category).sum ≤ 8) (hl : ls.size = nL) (hR : xRep G kp I L H) (hS : xS G s.heap H locs) (hdg : decode cc pc = .ok (.invokevirtual idx, 3)) (hcs : cells ≤ R.cells ∧ slots ≤ R.slots)
    (kk : ∀ (v : Int64) (I1 : xTI), K (v, I1) = some r → ∀ (H1 : Heap) (locs1 : List Loc), xRep G kp I1 L H1 → xS G s.heap H1 locs1 → W p l e R s m args below meth c H1 locs1 cells slots Q (F0 m (pc + 3) ls (.long v :: rest))) : W p l e R s m args below meth c H locs cells slots Q (F0 m pc ls st0) := by
  obtain ⟨⟨v, I1⟩, ho, hf⟩ := Option.bind_eq_some_iff.mp hf
  exact x_cv hC hY hlk (hM v I1 ho) hrm ce hci hn hst hrest hl hR hS hdg hcs (kk v I1 hf)
theorem x_cvl11 {y : MethodName} {ccY : ByteArray} {nLY n fr lo idx k ci : Nat} {fs As st0 : List Value} {retY : Option FieldType} {o : Option (Int64 × xTI × xTL)} {K : Int64 × xTI × xTL → Option Rt} (hC : xC G p s m args meth c cc nL own ret) (hY : xYv y ccY nLY retY n) (hlk : Cond.methodLink own idx y ∈ lw_tbl) (hf : Option.bind o K = some r) (hM : ∀ (v : Int64) (I1 : xTI) (L1 : xTL), o = some (v, I1, L1) → xMet G l y ccY nLY retY fr lo kp (.ref (xz G + k) :: As) I L (some (.long v)) I1 L1)
    (hrm : fr + 1 ≤ R.frames ∧ 8 + (nLY + 11) + lo ≤ R.locals) (ce : xE G kp k (I k) (L k) = some (.inr (ci, fs))) (hci : (xcl[ci]?).map (fun q => q.1) = some y.cls) (hn : As.length = n) (hst : st0 = As.reverse ++ .ref (xz G + k) :: rest) (hrest : (rest.map fun v => v.category).sum ≤ 8) (hl : ls.size = nL) (hR : xRep G kp I L H) (hS : xS G s.heap H locs) (hdg : decode cc pc = .ok (.invokevirtual idx, 3)) (hcs : cells ≤ R.cells ∧ slots ≤ R.slots)
    (kk : ∀ (v : Int64) (I1 : xTI) (L1 : xTL), K (v, I1, L1) = some r → ∀ (H1 : Heap) (locs1 : List Loc), xRep G kp I1 L1 H1 → xS G s.heap H1 locs1 → W p l e R s m args below meth c H1 locs1 cells slots Q (F0 m (pc + 3) ls (.long v :: rest))) : W p l e R s m args below meth c H locs cells slots Q (F0 m pc ls st0) := by
  obtain ⟨⟨v, I1, L1⟩, ho, hf⟩ := Option.bind_eq_some_iff.mp hf
  exact x_cv hC hY hlk (hM v I1 L1 ho) hrm ce hci hn hst hrest hl hR hS hdg hcs (kk v I1 L1 hf)
theorem x_cvv00 {y : MethodName} {ccY : ByteArray} {nLY n fr lo idx k ci : Nat} {fs As st0 : List Value} {retY : Option FieldType} {o : Option (Unit)} {K : Unit → Option Rt} (hC : xC G p s m args meth c cc nL own ret) (hY : xYv y ccY nLY retY n) (hlk : Cond.methodLink own idx y ∈ lw_tbl) (hf : Option.bind o K = some r) (hM : o = some () → xMet G l y ccY nLY retY fr lo kp (.ref (xz G + k) :: As) I L none I L)
    (hrm : fr + 1 ≤ R.frames ∧ 8 + (nLY + 11) + lo ≤ R.locals) (ce : xE G kp k (I k) (L k) = some (.inr (ci, fs))) (hci : (xcl[ci]?).map (fun q => q.1) = some y.cls) (hn : As.length = n) (hst : st0 = As.reverse ++ .ref (xz G + k) :: rest) (hrest : (rest.map fun v => v.category).sum ≤ 8) (hl : ls.size = nL) (hR : xRep G kp I L H) (hS : xS G s.heap H locs) (hdg : decode cc pc = .ok (.invokevirtual idx, 3)) (hcs : cells ≤ R.cells ∧ slots ≤ R.slots)
    (kk : K () = some r → ∀ (H1 : Heap) (locs1 : List Loc), xRep G kp I L H1 → xS G s.heap H1 locs1 → W p l e R s m args below meth c H1 locs1 cells slots Q (F0 m (pc + 3) ls rest)) : W p l e R s m args below meth c H locs cells slots Q (F0 m pc ls st0) := by
  obtain ⟨⟨⟩, ho, hf⟩ := Option.bind_eq_some_iff.mp hf
  exact x_cv hC hY hlk (hM ho) hrm ce hci hn hst hrest hl hR hS hdg hcs (kk hf)
theorem x_cvv01 {y : MethodName} {ccY : ByteArray} {nLY n fr lo idx k ci : Nat} {fs As st0 : List Value} {retY : Option FieldType} {o : Option (xTL)} {K : xTL → Option Rt} (hC : xC G p s m args meth c cc nL own ret) (hY : xYv y ccY nLY retY n) (hlk : Cond.methodLink own idx y ∈ lw_tbl) (hf : Option.bind o K = some r) (hM : ∀ (L1 : xTL), o = some L1 → xMet G l y ccY nLY retY fr lo kp (.ref (xz G + k) :: As) I L none I L1)
    (hrm : fr + 1 ≤ R.frames ∧ 8 + (nLY + 11) + lo ≤ R.locals) (ce : xE G kp k (I k) (L k) = some (.inr (ci, fs))) (hci : (xcl[ci]?).map (fun q => q.1) = some y.cls) (hn : As.length = n) (hst : st0 = As.reverse ++ .ref (xz G + k) :: rest) (hrest : (rest.map fun v => v.category).sum ≤ 8) (hl : ls.size = nL) (hR : xRep G kp I L H) (hS : xS G s.heap H locs) (hdg : decode cc pc = .ok (.invokevirtual idx, 3)) (hcs : cells ≤ R.cells ∧ slots ≤ R.slots)
    (kk : ∀ (L1 : xTL), K L1 = some r → ∀ (H1 : Heap) (locs1 : List Loc), xRep G kp I L1 H1 → xS G s.heap H1 locs1 → W p l e R s m args below meth c H1 locs1 cells slots Q (F0 m (pc + 3) ls rest)) : W p l e R s m args below meth c H locs cells slots Q (F0 m pc ls st0) := by
  obtain ⟨L1, ho, hf⟩ := Option.bind_eq_some_iff.mp hf
  exact x_cv hC hY hlk (hM L1 ho) hrm ce hci hn hst hrest hl hR hS hdg hcs (kk L1 hf)
theorem x_cvv10 {y : MethodName} {ccY : ByteArray} {nLY n fr lo idx k ci : Nat} {fs As st0 : List Value} {retY : Option FieldType} {o : Option (xTI)} {K : xTI → Option Rt} (hC : xC G p s m args meth c cc nL own ret) (hY : xYv y ccY nLY retY n) (hlk : Cond.methodLink own idx y ∈ lw_tbl) (hf : Option.bind o K = some r) (hM : ∀ (I1 : xTI), o = some I1 → xMet G l y ccY nLY retY fr lo kp (.ref (xz G + k) :: As) I L none I1 L)
    (hrm : fr + 1 ≤ R.frames ∧ 8 + (nLY + 11) + lo ≤ R.locals) (ce : xE G kp k (I k) (L k) = some (.inr (ci, fs))) (hci : (xcl[ci]?).map (fun q => q.1) = some y.cls) (hn : As.length = n) (hst : st0 = As.reverse ++ .ref (xz G + k) :: rest) (hrest : (rest.map fun v => v.category).sum ≤ 8) (hl : ls.size = nL) (hR : xRep G kp I L H) (hS : xS G s.heap H locs) (hdg : decode cc pc = .ok (.invokevirtual idx, 3)) (hcs : cells ≤ R.cells ∧ slots ≤ R.slots)
    (kk : ∀ (I1 : xTI), K I1 = some r → ∀ (H1 : Heap) (locs1 : List Loc), xRep G kp I1 L H1 → xS G s.heap H1 locs1 → W p l e R s m args below meth c H1 locs1 cells slots Q (F0 m (pc + 3) ls rest)) : W p l e R s m args below meth c H locs cells slots Q (F0 m pc ls st0) := by
  obtain ⟨I1, ho, hf⟩ := Option.bind_eq_some_iff.mp hf
  exact x_cv hC hY hlk (hM I1 ho) hrm ce hci hn hst hrest hl hR hS hdg hcs (kk I1 hf)
theorem x_cvv11 {y : MethodName} {ccY : ByteArray} {nLY n fr lo idx k ci : Nat} {fs As st0 : List Value} {retY : Option FieldType} {o : Option (xTI × xTL)} {K : xTI × xTL → Option Rt} (hC : xC G p s m args meth c cc nL own ret) (hY : xYv y ccY nLY retY n) (hlk : Cond.methodLink own idx y ∈ lw_tbl) (hf : Option.bind o K = some r) (hM : ∀ (I1 : xTI) (L1 : xTL), o = some (I1, L1) → xMet G l y ccY nLY retY fr lo kp (.ref (xz G + k) :: As) I L none I1 L1)
    (hrm : fr + 1 ≤ R.frames ∧ 8 + (nLY + 11) + lo ≤ R.locals) (ce : xE G kp k (I k) (L k) = some (.inr (ci, fs))) (hci : (xcl[ci]?).map (fun q => q.1) = some y.cls) (hn : As.length = n) (hst : st0 = As.reverse ++ .ref (xz G + k) :: rest) (hrest : (rest.map fun v => v.category).sum ≤ 8) (hl : ls.size = nL) (hR : xRep G kp I L H) (hS : xS G s.heap H locs) (hdg : decode cc pc = .ok (.invokevirtual idx, 3)) (hcs : cells ≤ R.cells ∧ slots ≤ R.slots)
    (kk : ∀ (I1 : xTI) (L1 : xTL), K (I1, L1) = some r → ∀ (H1 : Heap) (locs1 : List Loc), xRep G kp I1 L1 H1 → xS G s.heap H1 locs1 → W p l e R s m args below meth c H1 locs1 cells slots Q (F0 m (pc + 3) ls rest)) : W p l e R s m args below meth c H locs cells slots Q (F0 m pc ls st0) := by
  obtain ⟨⟨I1, L1⟩, ho, hf⟩ := Option.bind_eq_some_iff.mp hf
  exact x_cv hC hY hlk (hM I1 L1 ho) hrm ce hci hn hst hrest hl hR hS hdg hcs (kk I1 L1 hf)
theorem x_csi00 {y : MethodName} {ccY : ByteArray} {nLY n fr lo idx : Nat} {As st0 : List Value} {retY : Option FieldType} {o : Option (Int32)} {K : Int32 → Option Rt} (hC : xC G p s m args meth c cc nL own ret) (hY : xYs y ccY nLY retY n) (hlk : Cond.methodLink own idx y ∈ lw_tbl) (hf : Option.bind o K = some r) (hM : ∀ (v : Int32), o = some v → xMet G l y ccY nLY retY fr lo kp As I L (some (.int v)) I L)
    (hrm : fr + 1 ≤ R.frames ∧ 8 + (nLY + 11) + lo ≤ R.locals) (hn : As.length = n) (hst : st0 = As.reverse ++ rest) (hrest : (rest.map fun v => v.category).sum ≤ 8) (hl : ls.size = nL) (hR : xRep G kp I L H) (hS : xS G s.heap H locs) (hdg : decode cc pc = .ok (.invokestatic idx, 3)) (hcs : cells ≤ R.cells ∧ slots ≤ R.slots)
    (kk : ∀ (v : Int32), K v = some r → ∀ (H1 : Heap) (locs1 : List Loc), xRep G kp I L H1 → xS G s.heap H1 locs1 → W p l e R s m args below meth c H1 locs1 cells slots Q (F0 m (pc + 3) ls (.int v :: rest))) : W p l e R s m args below meth c H locs cells slots Q (F0 m pc ls st0) := by
  obtain ⟨v, ho, hf⟩ := Option.bind_eq_some_iff.mp hf
  exact x_cs hC hY hlk (hM v ho) hrm hn hst hrest hl hR hS hdg hcs (kk v hf)
theorem x_csi01 {y : MethodName} {ccY : ByteArray} {nLY n fr lo idx : Nat} {As st0 : List Value} {retY : Option FieldType} {o : Option (Int32 × xTL)} {K : Int32 × xTL → Option Rt} (hC : xC G p s m args meth c cc nL own ret) (hY : xYs y ccY nLY retY n) (hlk : Cond.methodLink own idx y ∈ lw_tbl) (hf : Option.bind o K = some r) (hM : ∀ (v : Int32) (L1 : xTL), o = some (v, L1) → xMet G l y ccY nLY retY fr lo kp As I L (some (.int v)) I L1)
    (hrm : fr + 1 ≤ R.frames ∧ 8 + (nLY + 11) + lo ≤ R.locals) (hn : As.length = n) (hst : st0 = As.reverse ++ rest) (hrest : (rest.map fun v => v.category).sum ≤ 8) (hl : ls.size = nL) (hR : xRep G kp I L H) (hS : xS G s.heap H locs) (hdg : decode cc pc = .ok (.invokestatic idx, 3)) (hcs : cells ≤ R.cells ∧ slots ≤ R.slots)
    (kk : ∀ (v : Int32) (L1 : xTL), K (v, L1) = some r → ∀ (H1 : Heap) (locs1 : List Loc), xRep G kp I L1 H1 → xS G s.heap H1 locs1 → W p l e R s m args below meth c H1 locs1 cells slots Q (F0 m (pc + 3) ls (.int v :: rest))) : W p l e R s m args below meth c H locs cells slots Q (F0 m pc ls st0) := by
  obtain ⟨⟨v, L1⟩, ho, hf⟩ := Option.bind_eq_some_iff.mp hf
  exact x_cs hC hY hlk (hM v L1 ho) hrm hn hst hrest hl hR hS hdg hcs (kk v L1 hf)
theorem x_csi10 {y : MethodName} {ccY : ByteArray} {nLY n fr lo idx : Nat} {As st0 : List Value} {retY : Option FieldType} {o : Option (Int32 × xTI)} {K : Int32 × xTI → Option Rt} (hC : xC G p s m args meth c cc nL own ret) (hY : xYs y ccY nLY retY n) (hlk : Cond.methodLink own idx y ∈ lw_tbl) (hf : Option.bind o K = some r) (hM : ∀ (v : Int32) (I1 : xTI), o = some (v, I1) → xMet G l y ccY nLY retY fr lo kp As I L (some (.int v)) I1 L)
    (hrm : fr + 1 ≤ R.frames ∧ 8 + (nLY + 11) + lo ≤ R.locals) (hn : As.length = n) (hst : st0 = As.reverse ++ rest) (hrest : (rest.map fun v => v.category).sum ≤ 8) (hl : ls.size = nL) (hR : xRep G kp I L H) (hS : xS G s.heap H locs) (hdg : decode cc pc = .ok (.invokestatic idx, 3)) (hcs : cells ≤ R.cells ∧ slots ≤ R.slots)
    (kk : ∀ (v : Int32) (I1 : xTI), K (v, I1) = some r → ∀ (H1 : Heap) (locs1 : List Loc), xRep G kp I1 L H1 → xS G s.heap H1 locs1 → W p l e R s m args below meth c H1 locs1 cells slots Q (F0 m (pc + 3) ls (.int v :: rest))) : W p l e R s m args below meth c H locs cells slots Q (F0 m pc ls st0) := by
  obtain ⟨⟨v, I1⟩, ho, hf⟩ := Option.bind_eq_some_iff.mp hf
  exact x_cs hC hY hlk (hM v I1 ho) hrm hn hst hrest hl hR hS hdg hcs (kk v I1 hf)
theorem x_csi11 {y : MethodName} {ccY : ByteArray} {nLY n fr lo idx : Nat} {As st0 : List Value} {retY : Option FieldType} {o : Option (Int32 × xTI × xTL)} {K : Int32 × xTI × xTL → Option Rt} (hC : xC G p s m args meth c cc nL own ret) (hY : xYs y ccY nLY retY n) (hlk : Cond.methodLink own idx y ∈ lw_tbl) (hf : Option.bind o K = some r) (hM : ∀ (v : Int32) (I1 : xTI) (L1 : xTL), o = some (v, I1, L1) → xMet G l y ccY nLY retY fr lo kp As I L (some (.int v)) I1 L1)
    (hrm : fr + 1 ≤ R.frames ∧ 8 + (nLY + 11) + lo ≤ R.locals) (hn : As.length = n) (hst : st0 = As.reverse ++ rest) (hrest : (rest.map fun v => v.category).sum ≤ 8) (hl : ls.size = nL) (hR : xRep G kp I L H) (hS : xS G s.heap H locs) (hdg : decode cc pc = .ok (.invokestatic idx, 3)) (hcs : cells ≤ R.cells ∧ slots ≤ R.slots)
    (kk : ∀ (v : Int32) (I1 : xTI) (L1 : xTL), K (v, I1, L1) = some r → ∀ (H1 : Heap) (locs1 : List Loc), xRep G kp I1 L1 H1 → xS G s.heap H1 locs1 → W p l e R s m args below meth c H1 locs1 cells slots Q (F0 m (pc + 3) ls (.int v :: rest))) : W p l e R s m args below meth c H locs cells slots Q (F0 m pc ls st0) := by
  obtain ⟨⟨v, I1, L1⟩, ho, hf⟩ := Option.bind_eq_some_iff.mp hf
  exact x_cs hC hY hlk (hM v I1 L1 ho) hrm hn hst hrest hl hR hS hdg hcs (kk v I1 L1 hf)
theorem x_csl00 {y : MethodName} {ccY : ByteArray} {nLY n fr lo idx : Nat} {As st0 : List Value} {retY : Option FieldType} {o : Option (Int64)} {K : Int64 → Option Rt} (hC : xC G p s m args meth c cc nL own ret) (hY : xYs y ccY nLY retY n) (hlk : Cond.methodLink own idx y ∈ lw_tbl) (hf : Option.bind o K = some r) (hM : ∀ (v : Int64), o = some v → xMet G l y ccY nLY retY fr lo kp As I L (some (.long v)) I L)
    (hrm : fr + 1 ≤ R.frames ∧ 8 + (nLY + 11) + lo ≤ R.locals) (hn : As.length = n) (hst : st0 = As.reverse ++ rest) (hrest : (rest.map fun v => v.category).sum ≤ 8) (hl : ls.size = nL) (hR : xRep G kp I L H) (hS : xS G s.heap H locs) (hdg : decode cc pc = .ok (.invokestatic idx, 3)) (hcs : cells ≤ R.cells ∧ slots ≤ R.slots)
    (kk : ∀ (v : Int64), K v = some r → ∀ (H1 : Heap) (locs1 : List Loc), xRep G kp I L H1 → xS G s.heap H1 locs1 → W p l e R s m args below meth c H1 locs1 cells slots Q (F0 m (pc + 3) ls (.long v :: rest))) : W p l e R s m args below meth c H locs cells slots Q (F0 m pc ls st0) := by
  obtain ⟨v, ho, hf⟩ := Option.bind_eq_some_iff.mp hf
  exact x_cs hC hY hlk (hM v ho) hrm hn hst hrest hl hR hS hdg hcs (kk v hf)
theorem x_csl01 {y : MethodName} {ccY : ByteArray} {nLY n fr lo idx : Nat} {As st0 : List Value} {retY : Option FieldType} {o : Option (Int64 × xTL)} {K : Int64 × xTL → Option Rt} (hC : xC G p s m args meth c cc nL own ret) (hY : xYs y ccY nLY retY n) (hlk : Cond.methodLink own idx y ∈ lw_tbl) (hf : Option.bind o K = some r) (hM : ∀ (v : Int64) (L1 : xTL), o = some (v, L1) → xMet G l y ccY nLY retY fr lo kp As I L (some (.long v)) I L1)
    (hrm : fr + 1 ≤ R.frames ∧ 8 + (nLY + 11) + lo ≤ R.locals) (hn : As.length = n) (hst : st0 = As.reverse ++ rest) (hrest : (rest.map fun v => v.category).sum ≤ 8) (hl : ls.size = nL) (hR : xRep G kp I L H) (hS : xS G s.heap H locs) (hdg : decode cc pc = .ok (.invokestatic idx, 3)) (hcs : cells ≤ R.cells ∧ slots ≤ R.slots)
    (kk : ∀ (v : Int64) (L1 : xTL), K (v, L1) = some r → ∀ (H1 : Heap) (locs1 : List Loc), xRep G kp I L1 H1 → xS G s.heap H1 locs1 → W p l e R s m args below meth c H1 locs1 cells slots Q (F0 m (pc + 3) ls (.long v :: rest))) : W p l e R s m args below meth c H locs cells slots Q (F0 m pc ls st0) := by
  obtain ⟨⟨v, L1⟩, ho, hf⟩ := Option.bind_eq_some_iff.mp hf
  exact x_cs hC hY hlk (hM v L1 ho) hrm hn hst hrest hl hR hS hdg hcs (kk v L1 hf)
theorem x_csl10 {y : MethodName} {ccY : ByteArray} {nLY n fr lo idx : Nat} {As st0 : List Value} {retY : Option FieldType} {o : Option (Int64 × xTI)} {K : Int64 × xTI → Option Rt} (hC : xC G p s m args meth c cc nL own ret) (hY : xYs y ccY nLY retY n) (hlk : Cond.methodLink own idx y ∈ lw_tbl) (hf : Option.bind o K = some r) (hM : ∀ (v : Int64) (I1 : xTI), o = some (v, I1) → xMet G l y ccY nLY retY fr lo kp As I L (some (.long v)) I1 L)
    (hrm : fr + 1 ≤ R.frames ∧ 8 + (nLY + 11) + lo ≤ R.locals) (hn : As.length = n) (hst : st0 = As.reverse ++ rest) (hrest : (rest.map fun v => v.category).sum ≤ 8) (hl : ls.size = nL) (hR : xRep G kp I L H) (hS : xS G s.heap H locs) (hdg : decode cc pc = .ok (.invokestatic idx, 3)) (hcs : cells ≤ R.cells ∧ slots ≤ R.slots)
    (kk : ∀ (v : Int64) (I1 : xTI), K (v, I1) = some r → ∀ (H1 : Heap) (locs1 : List Loc), xRep G kp I1 L H1 → xS G s.heap H1 locs1 → W p l e R s m args below meth c H1 locs1 cells slots Q (F0 m (pc + 3) ls (.long v :: rest))) : W p l e R s m args below meth c H locs cells slots Q (F0 m pc ls st0) := by
  obtain ⟨⟨v, I1⟩, ho, hf⟩ := Option.bind_eq_some_iff.mp hf
  exact x_cs hC hY hlk (hM v I1 ho) hrm hn hst hrest hl hR hS hdg hcs (kk v I1 hf)
theorem x_csl11 {y : MethodName} {ccY : ByteArray} {nLY n fr lo idx : Nat} {As st0 : List Value} {retY : Option FieldType} {o : Option (Int64 × xTI × xTL)} {K : Int64 × xTI × xTL → Option Rt} (hC : xC G p s m args meth c cc nL own ret) (hY : xYs y ccY nLY retY n) (hlk : Cond.methodLink own idx y ∈ lw_tbl) (hf : Option.bind o K = some r) (hM : ∀ (v : Int64) (I1 : xTI) (L1 : xTL), o = some (v, I1, L1) → xMet G l y ccY nLY retY fr lo kp As I L (some (.long v)) I1 L1)
    (hrm : fr + 1 ≤ R.frames ∧ 8 + (nLY + 11) + lo ≤ R.locals) (hn : As.length = n) (hst : st0 = As.reverse ++ rest) (hrest : (rest.map fun v => v.category).sum ≤ 8) (hl : ls.size = nL) (hR : xRep G kp I L H) (hS : xS G s.heap H locs) (hdg : decode cc pc = .ok (.invokestatic idx, 3)) (hcs : cells ≤ R.cells ∧ slots ≤ R.slots)
    (kk : ∀ (v : Int64) (I1 : xTI) (L1 : xTL), K (v, I1, L1) = some r → ∀ (H1 : Heap) (locs1 : List Loc), xRep G kp I1 L1 H1 → xS G s.heap H1 locs1 → W p l e R s m args below meth c H1 locs1 cells slots Q (F0 m (pc + 3) ls (.long v :: rest))) : W p l e R s m args below meth c H locs cells slots Q (F0 m pc ls st0) := by
  obtain ⟨⟨v, I1, L1⟩, ho, hf⟩ := Option.bind_eq_some_iff.mp hf
  exact x_cs hC hY hlk (hM v I1 L1 ho) hrm hn hst hrest hl hR hS hdg hcs (kk v I1 L1 hf)
theorem x_csv00 {y : MethodName} {ccY : ByteArray} {nLY n fr lo idx : Nat} {As st0 : List Value} {retY : Option FieldType} {o : Option (Unit)} {K : Unit → Option Rt} (hC : xC G p s m args meth c cc nL own ret) (hY : xYs y ccY nLY retY n) (hlk : Cond.methodLink own idx y ∈ lw_tbl) (hf : Option.bind o K = some r) (hM : o = some () → xMet G l y ccY nLY retY fr lo kp As I L none I L)
    (hrm : fr + 1 ≤ R.frames ∧ 8 + (nLY + 11) + lo ≤ R.locals) (hn : As.length = n) (hst : st0 = As.reverse ++ rest) (hrest : (rest.map fun v => v.category).sum ≤ 8) (hl : ls.size = nL) (hR : xRep G kp I L H) (hS : xS G s.heap H locs) (hdg : decode cc pc = .ok (.invokestatic idx, 3)) (hcs : cells ≤ R.cells ∧ slots ≤ R.slots)
    (kk : K () = some r → ∀ (H1 : Heap) (locs1 : List Loc), xRep G kp I L H1 → xS G s.heap H1 locs1 → W p l e R s m args below meth c H1 locs1 cells slots Q (F0 m (pc + 3) ls rest)) : W p l e R s m args below meth c H locs cells slots Q (F0 m pc ls st0) := by
  obtain ⟨⟨⟩, ho, hf⟩ := Option.bind_eq_some_iff.mp hf
  exact x_cs hC hY hlk (hM ho) hrm hn hst hrest hl hR hS hdg hcs (kk hf)
theorem x_csv01 {y : MethodName} {ccY : ByteArray} {nLY n fr lo idx : Nat} {As st0 : List Value} {retY : Option FieldType} {o : Option (xTL)} {K : xTL → Option Rt} (hC : xC G p s m args meth c cc nL own ret) (hY : xYs y ccY nLY retY n) (hlk : Cond.methodLink own idx y ∈ lw_tbl) (hf : Option.bind o K = some r) (hM : ∀ (L1 : xTL), o = some L1 → xMet G l y ccY nLY retY fr lo kp As I L none I L1)
    (hrm : fr + 1 ≤ R.frames ∧ 8 + (nLY + 11) + lo ≤ R.locals) (hn : As.length = n) (hst : st0 = As.reverse ++ rest) (hrest : (rest.map fun v => v.category).sum ≤ 8) (hl : ls.size = nL) (hR : xRep G kp I L H) (hS : xS G s.heap H locs) (hdg : decode cc pc = .ok (.invokestatic idx, 3)) (hcs : cells ≤ R.cells ∧ slots ≤ R.slots)
    (kk : ∀ (L1 : xTL), K L1 = some r → ∀ (H1 : Heap) (locs1 : List Loc), xRep G kp I L1 H1 → xS G s.heap H1 locs1 → W p l e R s m args below meth c H1 locs1 cells slots Q (F0 m (pc + 3) ls rest)) : W p l e R s m args below meth c H locs cells slots Q (F0 m pc ls st0) := by
  obtain ⟨L1, ho, hf⟩ := Option.bind_eq_some_iff.mp hf
  exact x_cs hC hY hlk (hM L1 ho) hrm hn hst hrest hl hR hS hdg hcs (kk L1 hf)
theorem x_csv10 {y : MethodName} {ccY : ByteArray} {nLY n fr lo idx : Nat} {As st0 : List Value} {retY : Option FieldType} {o : Option (xTI)} {K : xTI → Option Rt} (hC : xC G p s m args meth c cc nL own ret) (hY : xYs y ccY nLY retY n) (hlk : Cond.methodLink own idx y ∈ lw_tbl) (hf : Option.bind o K = some r) (hM : ∀ (I1 : xTI), o = some I1 → xMet G l y ccY nLY retY fr lo kp As I L none I1 L)
    (hrm : fr + 1 ≤ R.frames ∧ 8 + (nLY + 11) + lo ≤ R.locals) (hn : As.length = n) (hst : st0 = As.reverse ++ rest) (hrest : (rest.map fun v => v.category).sum ≤ 8) (hl : ls.size = nL) (hR : xRep G kp I L H) (hS : xS G s.heap H locs) (hdg : decode cc pc = .ok (.invokestatic idx, 3)) (hcs : cells ≤ R.cells ∧ slots ≤ R.slots)
    (kk : ∀ (I1 : xTI), K I1 = some r → ∀ (H1 : Heap) (locs1 : List Loc), xRep G kp I1 L H1 → xS G s.heap H1 locs1 → W p l e R s m args below meth c H1 locs1 cells slots Q (F0 m (pc + 3) ls rest)) : W p l e R s m args below meth c H locs cells slots Q (F0 m pc ls st0) := by
  obtain ⟨I1, ho, hf⟩ := Option.bind_eq_some_iff.mp hf
  exact x_cs hC hY hlk (hM I1 ho) hrm hn hst hrest hl hR hS hdg hcs (kk I1 hf)
theorem x_csv11 {y : MethodName} {ccY : ByteArray} {nLY n fr lo idx : Nat} {As st0 : List Value} {retY : Option FieldType} {o : Option (xTI × xTL)} {K : xTI × xTL → Option Rt} (hC : xC G p s m args meth c cc nL own ret) (hY : xYs y ccY nLY retY n) (hlk : Cond.methodLink own idx y ∈ lw_tbl) (hf : Option.bind o K = some r) (hM : ∀ (I1 : xTI) (L1 : xTL), o = some (I1, L1) → xMet G l y ccY nLY retY fr lo kp As I L none I1 L1)
    (hrm : fr + 1 ≤ R.frames ∧ 8 + (nLY + 11) + lo ≤ R.locals) (hn : As.length = n) (hst : st0 = As.reverse ++ rest) (hrest : (rest.map fun v => v.category).sum ≤ 8) (hl : ls.size = nL) (hR : xRep G kp I L H) (hS : xS G s.heap H locs) (hdg : decode cc pc = .ok (.invokestatic idx, 3)) (hcs : cells ≤ R.cells ∧ slots ≤ R.slots)
    (kk : ∀ (I1 : xTI) (L1 : xTL), K (I1, L1) = some r → ∀ (H1 : Heap) (locs1 : List Loc), xRep G kp I1 L1 H1 → xS G s.heap H1 locs1 → W p l e R s m args below meth c H1 locs1 cells slots Q (F0 m (pc + 3) ls rest)) : W p l e R s m args below meth c H locs cells slots Q (F0 m pc ls st0) := by
  obtain ⟨⟨I1, L1⟩, ho, hf⟩ := Option.bind_eq_some_iff.mp hf
  exact x_cs hC hY hlk (hM I1 L1 ho) hrm hn hst hrest hl hR hS hdg hcs (kk I1 L1 hf)
end XROWS

section XSW
variable {G : XG} {kp : Bool} {p : Program} {l : Launch} {e : Env} {R : Room} {s : State} {m : MethodId} {args : Array Value} {below : List Frame} {meth : Method} {c : Code} {H : Heap} {locs : List Loc} {cells slots : Nat} {Q : State → Prop} {cc : ByteArray} {nL pc : Nat} {own : String} {ret : Option FieldType} {ls : Array Slot} {rest : List Value}
theorem x_tsi {dflt lo hi : Int} {offs : Array Int} {len : Nat} {x v : Int32} {tgt : Nat} (hC : xC G p s m args meth c cc nL own ret) (hdg : decode cc pc = .ok (.tableswitch dflt lo hi offs, len)) (hx : x = v) (hd : (¬ v.toInt < lo) ∧ (¬ hi < v.toInt) ∧ (offs[(v.toInt - lo).toNat]?).map (fun o => (pc : Int) + o) = some (tgt : Int))
    (k : W p l e R s m args below meth c H locs cells slots Q (F0 m tgt ls rest)) : W p l e R s m args below meth c H locs cells slots Q (F0 m pc ls (.int x :: rest)) := by
  subst hx
  obtain ⟨h1, h2, h3⟩ := hd
  obtain ⟨o, ho, ht⟩ := Option.map_eq_some_iff.mp h3
  exact lv_tableIn hC.1 hC.2.1 hdg h1 h2 ho ht k
theorem x_tso {dflt lo hi : Int} {offs : Array Int} {len : Nat} {x : Int32} {tgt : Nat} (hC : xC G p s m args meth c cc nL own ret) (hdg : decode cc pc = .ok (.tableswitch dflt lo hi offs, len)) (h : x.toInt < lo ∨ hi < x.toInt) (ht : (pc : Int) + dflt = (tgt : Int))
    (k : W p l e R s m args below meth c H locs cells slots Q (F0 m tgt ls rest)) : W p l e R s m args below meth c H locs cells slots Q (F0 m pc ls (.int x :: rest)) := lv_tableOut hC.1 hC.2.1 hdg h ht k
theorem x_lsi {dflt : Int} {ps : Array (Int × Int)} {len : Nat} {x v : Int32} {tgt : Nat} (hC : xC G p s m args meth c cc nL own ret) (hdg : decode cc pc = .ok (.lookupswitch dflt ps, len)) (hx : x = v) (hd : (ps.toList.zip (ps.toList.drop 1)).all (fun (a, next) => a.1 < next.1) = true ∧ (pc : Int) + Op.lookupswitch.offset ps.toList dflt v.toInt = (tgt : Int))
    (k : W p l e R s m args below meth c H locs cells slots Q (F0 m tgt ls rest)) : W p l e R s m args below meth c H locs cells slots Q (F0 m pc ls (.int x :: rest)) := by
  subst hx
  exact lv_lookup hC.1 hC.2.1 hdg hd.1 rfl hd.2 k
theorem x_lsd (dflt x : Int) : ∀ ps : List (Int × Int), (∀ q ∈ ps, x ≠ q.1) → Op.lookupswitch.offset ps dflt x = dflt := by
  intro ps
  induction ps with
  | nil => intro _; rfl
  | cons q t ih =>
    intro hq
    have h1 : x ≠ q.1 := hq q List.mem_cons_self
    have h2 := ih (fun z hz => hq z (List.mem_cons_of_mem _ hz))
    obtain ⟨a, b⟩ := q
    simp [Op.lookupswitch.offset] at h2 ⊢
    first | exact h2 | (simp [h1, Ne.symm h1, h2]; done) | (split <;> simp_all)
theorem x_lso {dflt : Int} {ps : Array (Int × Int)} {len : Nat} {x : Int32} {tgt : Nat} (hC : xC G p s m args meth c cc nL own ret) (hdg : decode cc pc = .ok (.lookupswitch dflt ps, len)) (hd : (ps.toList.zip (ps.toList.drop 1)).all (fun (a, next) => a.1 < next.1) = true ∧ (pc : Int) + dflt = (tgt : Int)) (hn : ∀ q ∈ ps.toList, x.toInt ≠ q.1)
    (k : W p l e R s m args below meth c H locs cells slots Q (F0 m tgt ls rest)) : W p l e R s m args below meth c H locs cells slots Q (F0 m pc ls (.int x :: rest)) := lv_lookup hC.1 hC.2.1 hdg hd.1 (x_lsd _ _ _ hn) hd.2 k
end XSW
theorem x_wl {C : String} {T : u_T} {N : Nat} (ps : List Nat) (h : (List.range N).all (fun k => decide (tables_1[ps.getD k 0]? = some (u_lay C T k)) && goodWord (u_lay C T k)) = true) : ∀ w ∈ u_ws C T N, w ∈ lw_tbl ∧ goodWord w = true := by
  intro w hw
  obtain ⟨k, hk, rfl⟩ := List.mem_map.mp hw
  have h1 := List.all_eq_true.mp h k hk
  simp only [Bool.and_eq_true, decide_eq_true_eq] at h1
  exact ⟨List.mem_append_right _ (List.mem_of_getElem? h1.1), h1.2⟩

