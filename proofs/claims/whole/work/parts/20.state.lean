/-! STATE: the heap behind the two constructors, as a list of cells read off functions; written by gen20.py -/
/-- ints (place, slot), longs, references -/
abbrev St := (Nat → Nat → Int32) × (Nat → Nat → Int64) × (Nat → Nat → Option Nat)
def u2 {α : Type} (f : Nat → Nat → α) (k j : Nat) (v : α) : Nat → Nat → α := fun a => match Nat.beq a k with
  | true => fun b => match Nat.beq b j with
    | true => v
    | false => f a b
  | false => f a
def uF {α : Type} (f : Nat → Nat → α) (k : Nat) (g : Nat → α) : Nat → Nat → α := fun a => match Nat.beq a k with
  | true => g
  | false => f a
/-- a scalar, an array of ints, of longs, a reference, an array of references is set -/
def sI (S : St) (k j : Nat) (v : Int32) : St := (u2 S.1 k j v, S.2.1, S.2.2)
def sA (S : St) (k : Nat) (g : Nat → Int32) : St := (uF S.1 k g, S.2.1, S.2.2)
def sG (S : St) (k : Nat) (g : Nat → Int64) : St := (S.1, uF S.2.1 k g, S.2.2)
def sR (S : St) (k j : Nat) (v : Option Nat) : St := (S.1, S.2.1, u2 S.2.2 k j v)
def sQ (S : St) (k : Nat) (g : Nat → Option Nat) : St := (S.1, S.2.1, uF S.2.2 k g)
def hsF : Nat → Option Nat
  | 0 => some 40
  | 1 => some 44
  | 2 => some 48
  | 3 => some 52
  | 4 => some 56
  | 5 => some 60
  | _ => none
def tpF : Nat → Option Nat
  | 0 => some 64
  | 1 => some 66
  | 2 => some 68
  | 3 => some 70
  | 4 => some 72
  | 5 => some 74
  | _ => none
abbrev spC : VC := .inr (999, [])
abbrev aI (S : St) (k n : Nat) : VC := .inl (.int, n, .inl (S.1 k))
abbrev aB (S : St) (k n : Nat) : VC := .inl (.byte, n, .inl (S.1 k))
abbrev aZ (S : St) (k n : Nat) : VC := .inl (.boolean, n, .inl (S.1 k))
abbrev aL (S : St) (k n : Nat) : VC := .inl (.long, n, .inr (.inl (S.2.1 k)))
abbrev aQ (C : String) (n : Nat) (f : Nat → Option Nat) : VC := .inl (.object C, n, .inr (.inr (.inr (.inr f))))
/-- 7: x -/
abbrev cl7 (S : St) : VC := .inr (11, [.ref 8, .ref 18, .int (S.1 7 2), .ref 28, .int (S.1 7 4), .ref 29, .int (S.1 7 6), .ref 30, .ref 32, .ref 33, .ref 34, .ref 35, .ref 36, .ref 37, .ref 38, .ref 39])
/-- 8: x.now -/
abbrev cl8 (S : St) : VC := .inr (7, [.int (S.1 8 0), .int (S.1 8 1), .int (S.1 8 2), .int (S.1 8 3), .int (S.1 8 4), .int (S.1 8 5), .ref 9, .ref 10, .ref 11, .ref 12, .ref 13, .ref 14, .ref 15, .ref 16, .ref 17])
/-- 9: x.now.good -/
abbrev cl9 (S : St) : VC := aI S 9 8
/-- 10: x.now.minutes -/
abbrev cl10 (S : St) : VC := aI S 10 8
/-- 11: x.now.who -/
abbrev cl11 (S : St) : VC := aQ RX3 6 (S.2.2 11)
/-- 12: x.now.times -/
abbrev cl12 (S : St) : VC := aI S 12 48
/-- 13: x.now.last -/
abbrev cl13 (S : St) : VC := aI S 13 48
/-- 14: x.now.rows -/
abbrev cl14 (S : St) : VC := aI S 14 24
/-- 15: x.now.faceStory -/
abbrev cl15 (S : St) : VC := aI S 15 6
/-- 16: x.now.faceSet -/
abbrev cl16 (S : St) : VC := aI S 16 6
/-- 17: x.now.book -/
abbrev cl17 (S : St) : VC := aI S 17 10
/-- 18: x.kept -/
abbrev cl18 (S : St) : VC := .inr (7, [.int (S.1 18 0), .int (S.1 18 1), .int (S.1 18 2), .int (S.1 18 3), .int (S.1 18 4), .int (S.1 18 5), .ref 19, .ref 20, .ref 21, .ref 22, .ref 23, .ref 24, .ref 25, .ref 26, .ref 27])
/-- 19: x.kept.good -/
abbrev cl19 (S : St) : VC := aI S 19 8
/-- 20: x.kept.minutes -/
abbrev cl20 (S : St) : VC := aI S 20 8
/-- 21: x.kept.who -/
abbrev cl21 (S : St) : VC := aQ RX3 6 (S.2.2 21)
/-- 22: x.kept.times -/
abbrev cl22 (S : St) : VC := aI S 22 48
/-- 23: x.kept.last -/
abbrev cl23 (S : St) : VC := aI S 23 48
/-- 24: x.kept.rows -/
abbrev cl24 (S : St) : VC := aI S 24 24
/-- 25: x.kept.faceStory -/
abbrev cl25 (S : St) : VC := aI S 25 6
/-- 26: x.kept.faceSet -/
abbrev cl26 (S : St) : VC := aI S 26 6
/-- 27: x.kept.book -/
abbrev cl27 (S : St) : VC := aI S 27 10
/-- 28: x.text -/
abbrev cl28 (S : St) : VC := aB S 28 100
/-- 29: x.houses -/
abbrev cl29 (S : St) : VC := aQ RX5 6 hsF
/-- 30: x.trace -/
abbrev cl30 (S : St) : VC := .inr (10, [.ref 31, .int (S.1 30 1)])
/-- 31: x.trace.bodies -/
abbrev cl31 (S : St) : VC := aI S 31 20
/-- 32: x.tapes -/
abbrev cl32 (S : St) : VC := aQ RX8 6 tpF
/-- 33: x.facts -/
abbrev cl33 (S : St) : VC := aI S 33 6
/-- 34: x.worths -/
abbrev cl34 (S : St) : VC := aI S 34 8
/-- 35: x.laterWorths -/
abbrev cl35 (S : St) : VC := aI S 35 8
/-- 36: x.laughs -/
abbrev cl36 (S : St) : VC := aI S 36 6
/-- 37: x.supperWorths -/
abbrev cl37 (S : St) : VC := aI S 37 96
/-- 38: x.order -/
abbrev cl38 (S : St) : VC := aI S 38 6
/-- 39: x.bestOrder -/
abbrev cl39 (S : St) : VC := aI S 39 6
/-- 40: x.houses.0 -/
abbrev cl40 (S : St) : VC := .inr (5, [.ref 41, .ref 42, .int (S.1 40 2), .int (S.1 40 3), .int (S.1 40 4), va_rf (S.2.2 40 5), .int (S.1 40 6), .int (S.1 40 7)])
/-- 41: x.houses.0.step -/
abbrev cl41 (S : St) : VC := aI S 41 100
/-- 42: x.houses.0.number -/
abbrev cl42 (S : St) : VC := aI S 42 100
/-- 43: x.houses.0.text -/
abbrev cl43 (S : St) : VC := aB S 43 0
/-- 44: x.houses.1 -/
abbrev cl44 (S : St) : VC := .inr (5, [.ref 45, .ref 46, .int (S.1 44 2), .int (S.1 44 3), .int (S.1 44 4), va_rf (S.2.2 44 5), .int (S.1 44 6), .int (S.1 44 7)])
/-- 45: x.houses.1.step -/
abbrev cl45 (S : St) : VC := aI S 45 100
/-- 46: x.houses.1.number -/
abbrev cl46 (S : St) : VC := aI S 46 100
/-- 47: x.houses.1.text -/
abbrev cl47 (S : St) : VC := aB S 47 0
/-- 48: x.houses.2 -/
abbrev cl48 (S : St) : VC := .inr (5, [.ref 49, .ref 50, .int (S.1 48 2), .int (S.1 48 3), .int (S.1 48 4), va_rf (S.2.2 48 5), .int (S.1 48 6), .int (S.1 48 7)])
/-- 49: x.houses.2.step -/
abbrev cl49 (S : St) : VC := aI S 49 100
/-- 50: x.houses.2.number -/
abbrev cl50 (S : St) : VC := aI S 50 100
/-- 51: x.houses.2.text -/
abbrev cl51 (S : St) : VC := aB S 51 0
/-- 52: x.houses.3 -/
abbrev cl52 (S : St) : VC := .inr (5, [.ref 53, .ref 54, .int (S.1 52 2), .int (S.1 52 3), .int (S.1 52 4), va_rf (S.2.2 52 5), .int (S.1 52 6), .int (S.1 52 7)])
/-- 53: x.houses.3.step -/
abbrev cl53 (S : St) : VC := aI S 53 100
/-- 54: x.houses.3.number -/
abbrev cl54 (S : St) : VC := aI S 54 100
/-- 55: x.houses.3.text -/
abbrev cl55 (S : St) : VC := aB S 55 0
/-- 56: x.houses.4 -/
abbrev cl56 (S : St) : VC := .inr (5, [.ref 57, .ref 58, .int (S.1 56 2), .int (S.1 56 3), .int (S.1 56 4), va_rf (S.2.2 56 5), .int (S.1 56 6), .int (S.1 56 7)])
/-- 57: x.houses.4.step -/
abbrev cl57 (S : St) : VC := aI S 57 100
/-- 58: x.houses.4.number -/
abbrev cl58 (S : St) : VC := aI S 58 100
/-- 59: x.houses.4.text -/
abbrev cl59 (S : St) : VC := aB S 59 0
/-- 60: x.houses.5 -/
abbrev cl60 (S : St) : VC := .inr (5, [.ref 61, .ref 62, .int (S.1 60 2), .int (S.1 60 3), .int (S.1 60 4), va_rf (S.2.2 60 5), .int (S.1 60 6), .int (S.1 60 7)])
/-- 61: x.houses.5.step -/
abbrev cl61 (S : St) : VC := aI S 61 100
/-- 62: x.houses.5.number -/
abbrev cl62 (S : St) : VC := aI S 62 100
/-- 63: x.houses.5.text -/
abbrev cl63 (S : St) : VC := aB S 63 0
/-- 64: x.tapes.0 -/
abbrev cl64 (S : St) : VC := .inr (8, [.ref 65, .int (S.1 64 1), .int (S.1 64 2)])
/-- 65: x.tapes.0.items -/
abbrev cl65 (S : St) : VC := aL S 65 60
/-- 66: x.tapes.1 -/
abbrev cl66 (S : St) : VC := .inr (8, [.ref 67, .int (S.1 66 1), .int (S.1 66 2)])
/-- 67: x.tapes.1.items -/
abbrev cl67 (S : St) : VC := aL S 67 60
/-- 68: x.tapes.2 -/
abbrev cl68 (S : St) : VC := .inr (8, [.ref 69, .int (S.1 68 1), .int (S.1 68 2)])
/-- 69: x.tapes.2.items -/
abbrev cl69 (S : St) : VC := aL S 69 60
/-- 70: x.tapes.3 -/
abbrev cl70 (S : St) : VC := .inr (8, [.ref 71, .int (S.1 70 1), .int (S.1 70 2)])
/-- 71: x.tapes.3.items -/
abbrev cl71 (S : St) : VC := aL S 71 60
/-- 72: x.tapes.4 -/
abbrev cl72 (S : St) : VC := .inr (8, [.ref 73, .int (S.1 72 1), .int (S.1 72 2)])
/-- 73: x.tapes.4.items -/
abbrev cl73 (S : St) : VC := aL S 73 60
/-- 74: x.tapes.5 -/
abbrev cl74 (S : St) : VC := .inr (8, [.ref 75, .int (S.1 74 1), .int (S.1 74 2)])
/-- 75: x.tapes.5.items -/
abbrev cl75 (S : St) : VC := aL S 75 60
/-- 76: m -/
abbrev cl76 (S : St) : VC := .inr (12, [.int (S.1 76 0), .int (S.1 76 1), .int (S.1 76 2), .ref 77, .ref 78, .ref 79, .ref 80, .ref 81, .ref 82, .ref 83, .int (S.1 76 10), .int (S.1 76 11), .int (S.1 76 12), .int (S.1 76 13), .int (S.1 76 14), .ref 84, .ref 85, .ref 86, .ref 87, .ref 88, .ref 89, .ref 90, .ref 91, .int (S.1 76 23), .int (S.1 76 24), .int (S.1 76 25), .ref 92, .ref 93, .int (S.1 76 28), .ref 94, .int (S.1 76 30), .ref 95, .ref 96, .ref 97, .ref 98, .ref 99, .ref 100, .int (S.1 76 37), .ref 101, .ref 102, .int (S.1 76 40), .ref 103, .int (S.1 76 42), .int (S.1 76 43), .int (S.1 76 44), .int (S.1 76 45), .int (S.1 76 46), .int (S.1 76 47), .int (S.1 76 48), .ref 104, .ref 105, .ref 106, .ref 107, .ref 108, .ref 109, .ref 110, .ref 111, .ref 112, .ref 113, .int (S.1 76 59), .ref 114, .ref 115, .ref 116, .ref 117, .ref 118])
/-- 77: m.good -/
abbrev cl77 (S : St) : VC := aI S 77 8
/-- 78: m.minutes -/
abbrev cl78 (S : St) : VC := aI S 78 8
/-- 79: m.kind -/
abbrev cl79 (S : St) : VC := aI S 79 6
/-- 80: m.v -/
abbrev cl80 (S : St) : VC := aI S 80 6
/-- 81: m.rows -/
abbrev cl81 (S : St) : VC := aI S 81 24
/-- 82: m.times -/
abbrev cl82 (S : St) : VC := aI S 82 48
/-- 83: m.latest -/
abbrev cl83 (S : St) : VC := aI S 83 48
/-- 84: m.text -/
abbrev cl84 (S : St) : VC := aI S 84 100
/-- 85: m.clauses -/
abbrev cl85 (S : St) : VC := aI S 85 6
/-- 86: m.word -/
abbrev cl86 (S : St) : VC := aI S 86 60
/-- 87: m.number -/
abbrev cl87 (S : St) : VC := aI S 87 60
/-- 88: m.from -/
abbrev cl88 (S : St) : VC := aI S 88 60
/-- 89: m.to -/
abbrev cl89 (S : St) : VC := aI S 89 60
/-- 90: m.sign -/
abbrev cl90 (S : St) : VC := aI S 90 600
/-- 91: m.waits -/
abbrev cl91 (S : St) : VC := aI S 91 101
/-- 92: m.letters -/
abbrev cl92 (S : St) : VC := aI S 92 15
/-- 93: m.pile -/
abbrev cl93 (S : St) : VC := aZ S 93 100
/-- 94: m.fun -/
abbrev cl94 (S : St) : VC := aI S 94 8
/-- 95: m.keptTimes -/
abbrev cl95 (S : St) : VC := aI S 95 48
/-- 96: m.keptLatest -/
abbrev cl96 (S : St) : VC := aI S 96 48
/-- 97: m.rowNow -/
abbrev cl97 (S : St) : VC := aI S 97 3
/-- 98: m.bestRow -/
abbrev cl98 (S : St) : VC := aI S 98 3
/-- 99: m.order -/
abbrev cl99 (S : St) : VC := aI S 99 6
/-- 100: m.bestOrder -/
abbrev cl100 (S : St) : VC := aI S 100 6
/-- 101: m.faceStory -/
abbrev cl101 (S : St) : VC := aI S 101 6
/-- 102: m.faceSet -/
abbrev cl102 (S : St) : VC := aI S 102 6
/-- 103: m.book -/
abbrev cl103 (S : St) : VC := aI S 103 10
/-- 104: m.imageGood -/
abbrev cl104 (S : St) : VC := aI S 104 8
/-- 105: m.imageMinutes -/
abbrev cl105 (S : St) : VC := aI S 105 8
/-- 106: m.imageKind -/
abbrev cl106 (S : St) : VC := aI S 106 6
/-- 107: m.imageV -/
abbrev cl107 (S : St) : VC := aI S 107 6
/-- 108: m.imageRows -/
abbrev cl108 (S : St) : VC := aI S 108 24
/-- 109: m.imageTimes -/
abbrev cl109 (S : St) : VC := aI S 109 48
/-- 110: m.imageLatest -/
abbrev cl110 (S : St) : VC := aI S 110 48
/-- 111: m.imageStory -/
abbrev cl111 (S : St) : VC := aI S 111 6
/-- 112: m.imageSet -/
abbrev cl112 (S : St) : VC := aI S 112 6
/-- 113: m.imageBook -/
abbrev cl113 (S : St) : VC := aI S 113 10
/-- 114: m.bodies -/
abbrev cl114 (S : St) : VC := aI S 114 20
/-- 115: m.sort -/
abbrev cl115 (S : St) : VC := aI S 115 6
/-- 116: m.length -/
abbrev cl116 (S : St) : VC := aI S 116 6
/-- 117: m.item -/
abbrev cl117 (S : St) : VC := aL S 117 360
/-- 118: m.aside -/
abbrev cl118 (S : St) : VC := aL S 118 60
/-- HEARERS made: class, kind, number, v -/
abbrev Hr := Nat × Int32 × Int32 × Int32
def hrC (q : Hr) : VC := .inr (q.1, [.int q.2.1, .int q.2.2.1, .int q.2.2.2, .ref 30])
def st (S : St) (hs : List Hr) : Hp := spC :: spC :: spC :: spC :: spC :: spC :: spC :: cl7 S :: cl8 S :: cl9 S :: cl10 S :: cl11 S :: cl12 S :: cl13 S :: cl14 S :: cl15 S :: cl16 S :: cl17 S :: cl18 S :: cl19 S :: cl20 S :: cl21 S :: cl22 S :: cl23 S :: cl24 S :: cl25 S :: cl26 S :: cl27 S :: cl28 S :: cl29 S :: cl30 S :: cl31 S :: cl32 S :: cl33 S :: cl34 S :: cl35 S :: cl36 S :: cl37 S :: cl38 S :: cl39 S :: cl40 S :: cl41 S :: cl42 S :: cl43 S :: cl44 S :: cl45 S :: cl46 S :: cl47 S :: cl48 S :: cl49 S :: cl50 S :: cl51 S :: cl52 S :: cl53 S :: cl54 S :: cl55 S :: cl56 S :: cl57 S :: cl58 S :: cl59 S :: cl60 S :: cl61 S :: cl62 S :: cl63 S :: cl64 S :: cl65 S :: cl66 S :: cl67 S :: cl68 S :: cl69 S :: cl70 S :: cl71 S :: cl72 S :: cl73 S :: cl74 S :: cl75 S :: cl76 S :: cl77 S :: cl78 S :: cl79 S :: cl80 S :: cl81 S :: cl82 S :: cl83 S :: cl84 S :: cl85 S :: cl86 S :: cl87 S :: cl88 S :: cl89 S :: cl90 S :: cl91 S :: cl92 S :: cl93 S :: cl94 S :: cl95 S :: cl96 S :: cl97 S :: cl98 S :: cl99 S :: cl100 S :: cl101 S :: cl102 S :: cl103 S :: cl104 S :: cl105 S :: cl106 S :: cl107 S :: cl108 S :: cl109 S :: cl110 S :: cl111 S :: cl112 S :: cl113 S :: cl114 S :: cl115 S :: cl116 S :: cl117 S :: cl118 S :: hs.map hrC
-- 7 x: 0 now, 1 kept, 2 imaged, 3 text, 4 typed, 5 houses, 6 built, 7 trace, 8 tapes, 9 facts, 10 worths, 11 laterWorths, 12 laughs, 13 supperWorths, 14 order, 15 bestOrder
-- 8 x.now: 0 day, 1 holds, 2 stories, 3 hearers, 4 faces, 5 entries, 6 good, 7 minutes, 8 who, 9 times, 10 last, 11 rows, 12 faceStory, 13 faceSet, 14 book
-- 18 x.kept: 0 day, 1 holds, 2 stories, 3 hearers, 4 faces, 5 entries, 6 good, 7 minutes, 8 who, 9 times, 10 last, 11 rows, 12 faceStory, 13 faceSet, 14 book
-- 30 x.trace: 0 bodies, 1 ran
-- 40 x.houses.0: 0 step, 1 number, 2 steps, 3 days, 4 face, 5 text, 6 length, 7 at
-- 64 x.tapes.0: 0 items, 1 sort, 2 size
-- 76 m: 0 stories, 1 hearers, 2 day, 3 good, 4 minutes, 5 kind, 6 v, 7 rows, 8 times, 9 latest, 10 houses, 11 the, 12 fed, 13 at, 14 digits, 15 text, 16 clauses, 17 word, 18 number, 19 from, 20 to, 21 sign, 22 waits, 23 signs, 24 waiting, 25 open, 26 letters, 27 pile, 28 gone, 29 fun, 30 keptDay, 31 keptTimes, 32 keptLatest, 33 rowNow, 34 bestRow, 35 order, 36 bestOrder, 37 faces, 38 faceStory, 39 faceSet, 40 books, 41 book, 42 hasImage, 43 imageThe, 44 imageStories, 45 imageHearers, 46 imageDay, 47 imageFaces, 48 imageBooks, 49 imageGood, 50 imageMinutes, 51 imageKind, 52 imageV, 53 imageRows, 54 imageTimes, 55 imageLatest, 56 imageStory, 57 imageSet, 58 imageBook, 59 ran, 60 bodies, 61 sort, 62 length, 63 item, 64 aside
