-- THE WORLD: 71 cells by number; the strings are 71, 72, the static arrays 73, 74
-- 0: shop (kind 5, length 0)
-- 1: accentText (kind 3, length 0)
-- 2: accentText.bytes (kind 7, length 55)
-- 3: peopleText (kind 3, length 0)
-- 4: peopleText.bytes (kind 7, length 23)
-- 5: told (kind 1, length 0)
-- 6: told.sorts (kind 7, length 8)
-- 7: told.marks (kind 7, length 40)
-- 8: told.kinds (kind 7, length 8)
-- 9: told.owns (kind 7, length 8)
-- 10: told.days (kind 7, length 9)
-- 11: told.who (kind 7, length 9)
-- 12: told.which (kind 7, length 9)
-- 13: tried (kind 1, length 0)
-- 14: tried.sorts (kind 7, length 8)
-- 15: tried.marks (kind 7, length 40)
-- 16: tried.kinds (kind 7, length 8)
-- 17: tried.owns (kind 7, length 8)
-- 18: tried.days (kind 7, length 9)
-- 19: tried.who (kind 7, length 9)
-- 20: tried.which (kind 7, length 9)
-- 21: days (kind 4, length 0)
-- 22: days.marks (kind 7, length 40)
-- 23: days.speech (kind 7, length 40)
-- 24: days.wears (kind 7, length 8)
-- 25: days.wearers (kind 7, length 8)
-- 26: trial (kind 4, length 0)
-- 27: trial.marks (kind 7, length 40)
-- 28: trial.speech (kind 7, length 40)
-- 29: trial.wears (kind 7, length 8)
-- 30: trial.wearers (kind 7, length 8)
-- 31: heard (kind 0, length 0)
-- 32: heard.days (kind 7, length 8)
-- 33: heard.who (kind 7, length 8)
-- 34: heard.sounds (kind 7, length 8)
-- 35: heard.heardMarks (kind 7, length 8)
-- 36: sheets (kind 8, length 4)
-- 37: sheet0 (kind 2, length 0)
-- 38: sheet0.items (kind 7, length 60)
-- 39: sheet1 (kind 2, length 0)
-- 40: sheet1.items (kind 7, length 60)
-- 41: sheet2 (kind 2, length 0)
-- 42: sheet2.items (kind 7, length 60)
-- 43: sheet3 (kind 2, length 0)
-- 44: sheet3.items (kind 7, length 60)
-- 45: strays (kind 7, length 256)
-- 46: firstDays (kind 7, length 8)
-- 47: tally (kind 7, length 270)
-- 48: refused (kind 7, length 2)
-- 49: model (kind 6, length 0)
-- 50: model.forms (kind 7, length 4)
-- 51: model.sizes (kind 7, length 4)
-- 52: model.items (kind 7, length 240)
-- 53: model.moved (kind 7, length 60)
-- 54: model.bytes (kind 7, length 112)
-- 55: model.typed (kind 7, length 2)
-- 56: model.accent (kind 7, length 48)
-- 57: model.person (kind 7, length 16)
-- 58: model.hiring (kind 7, length 24)
-- 59: model.mark (kind 7, length 40)
-- 60: model.speech (kind 7, length 40)
-- 61: model.wears (kind 7, length 8)
-- 62: model.markBy (kind 7, length 1200)
-- 63: model.speechBy (kind 7, length 1200)
-- 64: model.wearsBy (kind 7, length 240)
-- 65: model.takenBy (kind 7, length 240)
-- 66: model.farBy (kind 7, length 240)
-- 67: model.becomes (kind 7, length 8)
-- 68: model.sound (kind 7, length 32)
-- 69: model.takes (kind 7, length 240)
-- 70: model.told (kind 7, length 24)
def NC : Nat := 71
def kd : Nat → Nat := fun k => match k with
  | 0 => 5
  | 1 => 3
  | 2 => 7
  | 3 => 3
  | 4 => 7
  | 5 => 1
  | 6 => 7
  | 7 => 7
  | 8 => 7
  | 9 => 7
  | 10 => 7
  | 11 => 7
  | 12 => 7
  | 13 => 1
  | 14 => 7
  | 15 => 7
  | 16 => 7
  | 17 => 7
  | 18 => 7
  | 19 => 7
  | 20 => 7
  | 21 => 4
  | 22 => 7
  | 23 => 7
  | 24 => 7
  | 25 => 7
  | 26 => 4
  | 27 => 7
  | 28 => 7
  | 29 => 7
  | 30 => 7
  | 31 => 0
  | 32 => 7
  | 33 => 7
  | 34 => 7
  | 35 => 7
  | 36 => 8
  | 37 => 2
  | 38 => 7
  | 39 => 2
  | 40 => 7
  | 41 => 2
  | 42 => 7
  | 43 => 2
  | 44 => 7
  | 45 => 7
  | 46 => 7
  | 47 => 7
  | 48 => 7
  | 49 => 6
  | 50 => 7
  | 51 => 7
  | 52 => 7
  | 53 => 7
  | 54 => 7
  | 55 => 7
  | 56 => 7
  | 57 => 7
  | 58 => 7
  | 59 => 7
  | 60 => 7
  | 61 => 7
  | 62 => 7
  | 63 => 7
  | 64 => 7
  | 65 => 7
  | 66 => 7
  | 67 => 7
  | 68 => 7
  | 69 => 7
  | 70 => 7
  | _ => 9
def ln : Nat → Nat := fun k => match k with
  | 2 => 55
  | 4 => 23
  | 6 => 8
  | 7 => 40
  | 8 => 8
  | 9 => 8
  | 10 => 9
  | 11 => 9
  | 12 => 9
  | 14 => 8
  | 15 => 40
  | 16 => 8
  | 17 => 8
  | 18 => 9
  | 19 => 9
  | 20 => 9
  | 22 => 40
  | 23 => 40
  | 24 => 8
  | 25 => 8
  | 27 => 40
  | 28 => 40
  | 29 => 8
  | 30 => 8
  | 32 => 8
  | 33 => 8
  | 34 => 8
  | 35 => 8
  | 38 => 60
  | 40 => 60
  | 42 => 60
  | 44 => 60
  | 45 => 256
  | 46 => 8
  | 47 => 270
  | 48 => 2
  | 50 => 4
  | 51 => 4
  | 52 => 240
  | 53 => 60
  | 54 => 112
  | 55 => 2
  | 56 => 48
  | 57 => 16
  | 58 => 24
  | 59 => 40
  | 60 => 40
  | 61 => 8
  | 62 => 1200
  | 63 => 1200
  | 64 => 240
  | 65 => 240
  | 66 => 240
  | 67 => 8
  | 68 => 32
  | 69 => 240
  | 70 => 24
  | 73 => 3
  | 74 => 4
  | _ => 0
def rf : Nat → Nat → Nat := fun k j => match k, j with
  | 0, 0 => 1
  | 0, 1 => 3
  | 0, 2 => 5
  | 0, 3 => 13
  | 0, 4 => 21
  | 0, 5 => 26
  | 0, 6 => 31
  | 0, 7 => 36
  | 0, 8 => 45
  | 0, 10 => 46
  | 0, 11 => 47
  | 0, 12 => 48
  | 1, 0 => 2
  | 1, 1 => 71
  | 3, 0 => 4
  | 3, 1 => 72
  | 5, 1 => 6
  | 5, 2 => 7
  | 5, 4 => 8
  | 5, 5 => 9
  | 5, 7 => 10
  | 5, 8 => 11
  | 5, 9 => 12
  | 13, 1 => 14
  | 13, 2 => 15
  | 13, 4 => 16
  | 13, 5 => 17
  | 13, 7 => 18
  | 13, 8 => 19
  | 13, 9 => 20
  | 21, 0 => 5
  | 21, 2 => 22
  | 21, 3 => 23
  | 21, 4 => 24
  | 21, 5 => 25
  | 26, 0 => 13
  | 26, 2 => 27
  | 26, 3 => 28
  | 26, 4 => 29
  | 26, 5 => 30
  | 31, 1 => 32
  | 31, 2 => 33
  | 31, 3 => 34
  | 31, 4 => 35
  | 36, 0 => 37
  | 36, 1 => 39
  | 36, 2 => 41
  | 36, 3 => 43
  | 37, 2 => 38
  | 39, 2 => 40
  | 41, 2 => 42
  | 43, 2 => 44
  | 49, 0 => 50
  | 49, 1 => 51
  | 49, 2 => 52
  | 49, 3 => 53
  | 49, 5 => 54
  | 49, 6 => 55
  | 49, 8 => 56
  | 49, 10 => 57
  | 49, 12 => 58
  | 49, 17 => 59
  | 49, 18 => 60
  | 49, 19 => 61
  | 49, 20 => 62
  | 49, 21 => 63
  | 49, 22 => 64
  | 49, 23 => 65
  | 49, 24 => 66
  | 49, 25 => 67
  | 49, 27 => 68
  | 49, 28 => 69
  | 49, 30 => 70
  | _, _ => 0
def nf : Nat → Nat := fun c => match c with
  | 0 => 5
  | 1 => 10
  | 2 => 3
  | 3 => 5
  | 4 => 6
  | 5 => 14
  | 6 => 31
  | _ => 0
def isR : Nat → Nat → Bool := fun c j => match c, j with
  | 0, 1 => true
  | 0, 2 => true
  | 0, 3 => true
  | 0, 4 => true
  | 1, 1 => true
  | 1, 2 => true
  | 1, 4 => true
  | 1, 5 => true
  | 1, 7 => true
  | 1, 8 => true
  | 1, 9 => true
  | 2, 2 => true
  | 3, 0 => true
  | 3, 1 => true
  | 4, 0 => true
  | 4, 2 => true
  | 4, 3 => true
  | 4, 4 => true
  | 4, 5 => true
  | 5, 0 => true
  | 5, 1 => true
  | 5, 2 => true
  | 5, 3 => true
  | 5, 4 => true
  | 5, 5 => true
  | 5, 6 => true
  | 5, 7 => true
  | 5, 8 => true
  | 5, 10 => true
  | 5, 11 => true
  | 5, 12 => true
  | 6, 0 => true
  | 6, 1 => true
  | 6, 2 => true
  | 6, 3 => true
  | 6, 5 => true
  | 6, 6 => true
  | 6, 8 => true
  | 6, 10 => true
  | 6, 12 => true
  | 6, 17 => true
  | 6, 18 => true
  | 6, 19 => true
  | 6, 20 => true
  | 6, 21 => true
  | 6, 22 => true
  | 6, 23 => true
  | 6, 24 => true
  | 6, 25 => true
  | 6, 27 => true
  | 6, 28 => true
  | 6, 30 => true
  | _, _ => false
