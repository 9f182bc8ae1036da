-- pages by hand
def LP0 : List (List Int) := [[2, 100, 0, 0, 0, 0, 0, 0, 0, 0, 0, 0, 0, 0, 0, 0, 0], [0, 0, 0, 0, 0, 0, 0, 0, 0, 0, 0, 0, 0, 0, 0, 0, 0], [0, 0, 0, 0, 0, 0, 0, 0, 0, 0, 0, 0, 0, 0, 0, 0, 0], [0, 0, 0, 0, 0, 0, 0, 0, 0, 0, 0, 0, 0, 0, 0, 0, 0], [0, 0, 0, 0, 0, 0, 0, 0, 0, 0, 0, 0, 0, 0, 0, 0, 0], [0, 0, 0, 0, 0, 0, 0, 0, 0, 0, 0, 0, 0, 0, 0, 0, 0], [0, 0, 0, 0, 0, 0, 0, 0, 0, 0, 0, 0, 0, 0, 0, 0, 0], [0, 0, 0, 0, 0, 0, 0, 0, 0, 0, 0, 0, 0, 0, 0, 0, 0], [0, 0, 0, 0, 0, 0, 0, 0, 0, 0, 0, 0, 0, 0, 0, 0, 0], [0, 0, 0, 0, 0, 0, 0, 0, 0, 0, 0, -5, -5, -5, -5, -5, -5]]
def LP1 : List (List Int) := [[2, 100, 0, 1, 0, 1, 0, 0, 3, 3, 3, 3, 3, 3, 3, 3, 3], [3, 3, 3, 0, 0, 0, 0, 0, 0, 0, 0, 0, 0, 0, 0, 0, 0], [0, 0, 0, 0, 0, 0, 0, 0, 0, 0, 0, 0, 0, 0, 0, 0, 0], [0, 0, 0, 0, 0, 0, 0, 0, 0, 0, 0, 0, 0, 0, 0, 0, 0], [0, 0, 0, 0, 0, 0, 0, 0, 0, 0, 0, 0, 0, 0, 0, 0, 0], [0, 0, 0, 0, 0, 0, 0, 0, 0, 0, 0, 0, 0, 0, 0, 0, 0], [0, 0, 0, 0, 0, 0, 0, 0, 0, 0, 0, 0, 0, 0, 0, 0, 0], [0, 0, 0, 0, 0, 0, 0, 0, 0, 0, 0, 0, 0, 0, 0, 0, 0], [0, 0, 0, 0, 0, 0, 0, 0, 0, 0, 0, 0, 0, 0, 0, 0, 0], [0, 0, 0, 0, 0, 0, 0, 0, 0, 0, 0, -5, -5, -5, -5, -5, -5], [0, 0, 0, 12, 0, 3, 3, 3, 3, 3, 3, 3, 3, 3, 3, 3, 3]]
def LP2 : List (List Int) := [[0, 100, 0, 1, 0, 1, 0, 0, 3, 3, 3, 3, 3, 3, 3, 3, 3], [3, 3, 3, 0, 0, 0, 0, 0, 0, 0, 0, 0, 0, 0, 0, 0, 0], [0, 0, 0, 0, 0, 0, 0, 0, 0, 0, 0, 0, 0, 0, 0, 0, 0], [0, 0, 0, 0, 0, 0, 0, 0, 0, 0, 0, 0, 0, 0, 0, 0, 0], [0, 0, 0, 0, 0, 0, 0, 0, 0, 0, 0, 0, 0, 0, 0, 0, 0], [0, 0, 0, 0, 0, 0, 0, 0, 0, 0, 0, 0, 0, 0, 0, 0, 0], [0, 0, 0, 0, 0, 0, 0, 0, 0, 0, 0, 0, 0, 0, 0, 0, 0], [0, 0, 0, 0, 0, 0, 0, 0, 0, 0, 0, 0, 0, 0, 0, 0, 0], [0, 0, 0, 0, 0, 0, 0, 0, 0, 0, 0, 0, 0, 0, 0, 0, 0], [0, 0, 0, 0, 0, 0, 0, 0, 0, 0, 0, -5, -5, -5, -5, -5, -5], [0, 0, 0, 12, 0, 3, 3, 3, 3, 3, 3, 3, 3, 3, 3, 3, 3]]
def LP3 : List (List Int) := [[0, 100, 0, 2, 0, 1, 1, 0, 3, 3, 7, 7, 7, 3, 3, 3, 3], [3, 3, 3, 0, 0, 0, 0, 0, 0, 0, 0, 0, 0, 0, 0, 0, 0], [0, 0, 0, 0, 0, 0, 0, 0, 0, 0, 0, 0, 0, 0, 0, 0, 0], [0, 0, 0, 0, 0, 0, 0, 0, 0, 0, 0, 0, 0, 0, 0, 0, 0], [0, 0, 0, 0, 0, 0, 0, 0, 0, 0, 0, 0, 0, 0, 0, 0, 0], [0, 0, 0, 0, 0, 0, 0, 0, 0, 0, 0, 0, 0, 0, 0, 0, 0], [0, 0, 0, 0, 0, 0, 0, 0, 0, 0, 0, 0, 0, 0, 0, 0, 0], [0, 0, 0, 0, 0, 0, 0, 0, 0, 0, 0, 0, 0, 0, 0, 0, 0], [0, 0, 0, 0, 0, 0, 0, 0, 0, 0, 0, 0, 0, 0, 0, 0, 0], [0, 0, 0, 0, 0, 0, 0, 0, 0, 0, 0, -5, -5, -5, -5, -5, -5], [0, 0, 0, 12, 0, 3, 3, 3, 3, 3, 3, 3, 3, 3, 3, 3, 3], [0, 1, 2, 3, 0, 7, 0, 0, 0, 0, 0, 0, 0, 0, 0, 0, 0]]
def LP4 : List (List Int) := [[0, 100, 0, 3, 0, 1, 2, 0, 3, 3, 7, 7, 6, 2, 3, 3, 3], [3, 3, 3, 0, 0, 0, 0, 0, 0, 0, 0, 0, 0, 0, 0, 0, 0], [0, 0, 0, 0, 0, 0, 0, 0, 0, 0, 0, 0, 0, 0, 0, 0, 0], [0, 0, 0, 0, 0, 0, 0, 0, 0, 0, 0, 0, 0, 0, 0, 0, 0], [0, 0, 0, 0, 0, 0, 0, 0, 0, 0, 0, 0, 0, 0, 0, 0, 0], [0, 0, 0, 0, 0, 0, 0, 0, 0, 0, 0, 0, 0, 0, 0, 0, 0], [0, 0, 0, 0, 0, 0, 0, 0, 0, 0, 0, 0, 0, 0, 0, 0, 0], [0, 0, 0, 0, 0, 0, 0, 0, 0, 0, 0, 0, 0, 0, 0, 0, 0], [0, 0, 0, 0, 0, 0, 0, 0, 0, 0, 0, 0, 0, 0, 0, 0, 0], [0, 0, 0, 0, 0, 0, 0, 0, 0, 0, 0, -5, -5, -5, -5, -5, -5], [0, 0, 0, 12, 0, 3, 3, 3, 3, 3, 3, 3, 3, 3, 3, 3, 3], [0, 1, 2, 3, 0, 7, 0, 0, 0, 0, 0, 0, 0, 0, 0, 0, 0], [0, 2, 4, 2, 0, 9, 0, 0, 0, 0, 0, 0, 0, 0, 0, 0, 0]]
def LP5 : List (List Int) := [[0, 100, 0, 4, 0, 1, 3, 0, 3, 3, 3, 7, 7, 6, 2, 3, 3], [3, 3, 3, 0, 0, 0, 0, 0, 0, 0, 0, 0, 0, 0, 0, 0, 0], [0, 0, 0, 0, 0, 0, 0, 0, 0, 0, 0, 0, 0, 0, 0, 0, 0], [0, 0, 0, 0, 0, 0, 0, 0, 0, 0, 0, 0, 0, 0, 0, 0, 0], [0, 0, 0, 0, 0, 0, 0, 0, 0, 0, 0, 0, 0, 0, 0, 0, 0], [0, 0, 0, 0, 0, 0, 0, 0, 0, 0, 0, 0, 0, 0, 0, 0, 0], [0, 0, 0, 0, 0, 0, 0, 0, 0, 0, 0, 0, 0, 0, 0, 0, 0], [0, 0, 0, 0, 0, 0, 0, 0, 0, 0, 0, 0, 0, 0, 0, 0, 0], [0, 0, 0, 0, 0, 0, 0, 0, 0, 0, 0, 0, 0, 0, 0, 0, 0], [0, 0, 0, 0, 0, 0, 0, 0, 0, 0, 0, -5, -5, -5, -5, -5, -5], [0, 0, 0, 12, 0, 3, 3, 3, 3, 3, 3, 3, 3, 3, 3, 3, 3], [0, 1, 2, 3, 0, 7, 0, 0, 0, 0, 0, 0, 0, 0, 0, 0, 0], [0, 2, 4, 2, 0, 9, 0, 0, 0, 0, 0, 0, 0, 0, 0, 0, 0], [0, 3, 0, 12, 0, 1, 0, 0, 0, 0, 0, 0, 0, 0, 0, 0, 0]]
def LP6 : List (List Int) := [[0, 100, 0, 5, 0, 2, 3, 0, 3, 3, 3, 7, 7, 6, 2, 3, 3], [3, 3, 3, 0, 0, 0, 0, 0, 0, 0, 0, 0, 0, 0, 0, 0, 0], [0, 0, 0, 0, 0, 0, 0, 0, 0, 0, 0, 0, 0, 0, 0, 0, 0], [0, 0, 0, 0, 0, 0, 0, 0, 0, 0, 0, 0, 0, 0, 0, 0, 0], [0, 0, 0, 0, 0, 0, 0, 0, 0, 0, 0, 0, 0, 0, 0, 0, 0], [0, 0, 0, 0, 0, 0, 0, 0, 0, 0, 0, 0, 0, 0, 0, 0, 0], [0, 0, 0, 0, 0, 0, 0, 0, 0, 0, 0, 0, 0, 0, 0, 0, 0], [0, 0, 0, 0, 0, 0, 0, 0, 0, 0, 0, 0, 0, 0, 0, 0, 0], [0, 0, 0, 0, 0, 0, 0, 0, 0, 0, 0, 0, 0, 0, 0, 0, 0], [0, 0, 0, 0, 0, 0, 0, 0, 0, 0, 0, -5, -5, -5, -5, -5, -5], [0, 0, 0, 12, 0, 3, 3, 3, 3, 3, 3, 3, 3, 3, 3, 3, 3], [0, 1, 2, 3, 0, 7, 0, 0, 0, 0, 0, 0, 0, 0, 0, 0, 0], [0, 2, 4, 2, 0, 9, 0, 0, 0, 0, 0, 0, 0, 0, 0, 0, 0], [0, 3, 0, 12, 0, 1, 0, 0, 0, 0, 0, 0, 0, 0, 0, 0, 0], [0, 0, 0, 12, 0, 3, 3, 3, 7, 7, 6, 2, 3, 3, 3, 3, 3]]
def LP7 : List (List Int) := [[0, 100, 0, 5, 5, 2, 3, 0, 3, 3, 3, 7, 7, 6, 2, 3, 3], [3, 3, 3, 0, 0, 0, 0, 0, 0, 0, 0, 0, 0, 0, 0, 0, 0], [0, 0, 0, 0, 0, 0, 0, 0, 0, 0, 0, 0, 0, 0, 0, 0, 0], [0, 0, 0, 0, 0, 0, 0, 0, 0, 0, 0, 0, 0, 0, 0, 0, 0], [0, 0, 0, 0, 0, 0, 0, 0, 0, 0, 0, 0, 0, 0, 0, 0, 0], [0, 0, 0, 0, 0, 0, 0, 0, 0, 0, 0, 0, 0, 0, 0, 0, 0], [0, 0, 0, 0, 0, 0, 0, 0, 0, 0, 0, 0, 0, 0, 0, 0, 0], [0, 0, 0, 0, 0, 0, 0, 0, 0, 0, 0, 0, 0, 0, 0, 0, 0], [0, 0, 0, 0, 0, 0, 0, 0, 0, 0, 0, 0, 0, 0, 0, 0, 0], [0, 0, 0, 0, 0, 0, 0, 0, 0, 0, 0, -5, -5, -5, -5, -5, -5], [0, 0, 0, 12, 0, 3, 3, 3, 3, 3, 3, 3, 3, 3, 3, 3, 3], [0, 1, 2, 3, 0, 7, 0, 0, 0, 0, 0, 0, 0, 0, 0, 0, 0], [0, 2, 4, 2, 0, 9, 0, 0, 0, 0, 0, 0, 0, 0, 0, 0, 0], [0, 3, 0, 12, 0, 1, 0, 0, 0, 0, 0, 0, 0, 0, 0, 0, 0], [0, 0, 0, 12, 0, 3, 3, 3, 7, 7, 6, 2, 3, 3, 3, 3, 3]]
def LP8 : List (List Int) := [[0, 100, 4, 5, 5, 2, 3, 0, 3, 3, 3, 7, 7, 6, 2, 3, 3], [3, 3, 3, 0, 0, 0, 0, 0, 0, 0, 0, 0, 0, 0, 0, 0, 0], [0, 0, 0, 0, 0, 0, 0, 0, 0, 0, 0, 0, 0, 0, 0, 0, 0], [0, 0, 0, 0, 0, 0, 0, 0, 0, 0, 0, 0, 0, 0, 0, 0, 0], [0, 0, 0, 0, 0, 0, 0, 0, 0, 0, 0, 0, 0, 0, 0, 0, 0], [0, 0, 0, 0, 0, 0, 0, 0, 0, 0, 0, 0, 0, 0, 0, 0, 0], [0, 0, 0, 0, 0, 0, 0, 0, 0, 0, 0, 0, 0, 0, 0, 0, 0], [0, 0, 0, 0, 0, 0, 0, 0, 0, 0, 0, 0, 0, 0, 0, 0, 0], [0, 0, 0, 0, 0, 0, 0, 0, 0, 0, 0, 0, 0, 0, 0, 0, 0], [0, 0, 0, 0, 0, 0, 0, 0, 0, 0, 0, 3, -5, -5, -5, -5, -5], [0, 0, 0, 12, 0, 3, 3, 3, 7, 7, 6, 2, 3, 3, 3, 3, 3]]
def LP9 : List (List Int) := [[0, 100, 4, 6, 5, 2, 4, 0, 9, 3, 3, 7, 7, 6, 2, 3, 3], [3, 3, 3, 0, 0, 0, 0, 0, 0, 0, 0, 0, 0, 0, 0, 0, 0], [0, 0, 0, 0, 0, 0, 0, 0, 0, 0, 0, 0, 0, 0, 0, 0, 0], [0, 0, 0, 0, 0, 0, 0, 0, 0, 0, 0, 0, 0, 0, 0, 0, 0], [0, 0, 0, 0, 0, 0, 0, 0, 0, 0, 0, 0, 0, 0, 0, 0, 0], [0, 0, 0, 0, 0, 0, 0, 0, 0, 0, 0, 0, 0, 0, 0, 0, 0], [0, 0, 0, 0, 0, 0, 0, 0, 0, 0, 0, 0, 0, 0, 0, 0, 0], [0, 0, 0, 0, 0, 0, 0, 0, 0, 0, 0, 0, 0, 0, 0, 0, 0], [0, 0, 0, 0, 0, 0, 0, 0, 0, 0, 0, 0, 0, 0, 0, 0, 0], [0, 0, 0, 0, 0, 0, 0, 0, 0, 0, 0, 3, -5, -5, -5, -5, -5], [0, 0, 0, 12, 0, 3, 3, 3, 7, 7, 6, 2, 3, 3, 3, 3, 3], [0, 1, 0, 1, 0, 9, 0, 0, 0, 0, 0, 0, 0, 0, 0, 0, 0]]
def LP10 : List (List Int) := [[0, 100, 4, 5, 5, 2, 4, 1, 3, 3, 3, 7, 7, 6, 2, 3, 3], [3, 3, 3, 0, 0, 0, 0, 0, 0, 0, 0, 0, 0, 0, 0, 0, 0], [0, 0, 0, 0, 0, 0, 0, 0, 0, 0, 0, 0, 0, 0, 0, 0, 0], [0, 0, 0, 0, 0, 0, 0, 0, 0, 0, 0, 0, 0, 0, 0, 0, 0], [0, 0, 0, 0, 0, 0, 0, 0, 0, 0, 0, 0, 0, 0, 0, 0, 0], [0, 0, 0, 0, 0, 0, 0, 0, 0, 0, 0, 0, 0, 0, 0, 0, 0], [0, 0, 0, 0, 0, 0, 0, 0, 0, 0, 0, 0, 0, 0, 0, 0, 0], [0, 0, 0, 0, 0, 0, 0, 0, 0, 0, 0, 0, 0, 0, 0, 0, 0], [0, 0, 0, 0, 0, 0, 0, 0, 0, 0, 0, 0, 0, 0, 0, 0, 0], [0, 0, 0, 0, 0, 0, 0, 0, 0, 0, 0, 3, -5, -5, -5, -5, -5], [0, 0, 0, 12, 0, 3, 3, 3, 7, 7, 6, 2, 3, 3, 3, 3, 3]]
def LP11 : List (List Int) := [[0, 100, 4, 6, 5, 2, 5, 1, 3, 3, 3, 7, 7, 6, 2, 3, 3], [3, 3, 3, 0, 0, 0, 0, 0, 0, 0, 0, 0, 0, 0, 0, 0, 0], [0, 0, 0, 0, 0, 0, 0, 0, 0, 0, 0, 0, 0, 0, 0, 0, 0], [0, 0, 0, 0, 0, 0, 0, 0, 0, 0, 0, 0, 0, 0, 0, 0, 0], [0, 0, 0, 0, 0, 0, 0, 0, 0, 0, 0, 0, 0, 0, 0, 0, 0], [0, 0, 0, 0, 0, 0, 0, 0, 0, 0, 0, 0, 0, 0, 0, 0, 0], [0, 0, 0, 0, 0, 0, 0, 0, 0, 0, 0, 0, 0, 0, 0, 0, 0], [0, 0, 0, 0, 0, 0, 0, 0, 0, 0, 0, 0, 0, 0, 0, 0, 0], [0, 0, 0, 0, 0, 0, 0, 0, 0, 0, 0, 0, 0, 0, 0, 0, 0], [0, 0, 0, 0, 0, 0, 0, 0, 0, 0, 0, 3, -5, -5, -5, -5, -5], [0, 0, 0, 12, 0, 3, 3, 3, 7, 7, 6, 2, 3, 3, 3, 3, 3], [1, 3, 0, 12, 0, 1, 0, 0, 0, 0, 0, 0, 0, 0, 0, 0, 0]]
def LP12 : List (List Int) := [[0, 100, 4, 6, 5, 2, 5, 1, 3, 3, 3, 7, 7, 6, 2, 3, 3], [3, 3, 3, 0, 0, 0, 0, 0, 0, 0, 0, 0, 0, 0, 0, 0, 0], [0, 0, 0, 0, 0, 0, 0, 0, 0, 0, 0, 0, 0, 0, 0, 0, 0], [0, 0, 0, 0, 0, 0, 0, 0, 0, 0, 0, 0, 0, 0, 0, 0, 0], [0, 0, 0, 0, 0, 0, 0, 0, 0, 0, 0, 0, 3, 3, 3, 7, 7], [6, 2, 3, 3, 3, 3, 3, 0, 0, 0, 0, 0, 0, 0, 0, 0, 0], [0, 0, 0, 0, 0, 0, 0, 0, 0, 0, 0, 0, 0, 0, 0, 0, 0], [0, 0, 0, 0, 0, 0, 0, 0, 0, 0, 0, 0, 0, 0, 0, 0, 0], [0, 0, 0, 0, 0, 0, 0, 0, 0, 0, 0, 0, 0, 0, 0, 0, 5], [0, 0, 0, 0, 0, 0, 0, 0, 0, 0, 0, 3, -5, -5, -5, -5, -5], [0, 0, 0, 12, 0, 3, 3, 3, 7, 7, 6, 2, 3, 3, 3, 3, 3], [1, 3, 0, 12, 0, 1, 0, 0, 0, 0, 0, 0, 0, 0, 0, 0, 0]]
def LP13 : List (List Int) := [[0, 100, 4, 6, 5, 2, 5, 1, 3, 3, 3, 7, 7, 6, 2, 3, 3], [3, 3, 3, 0, 0, 0, 0, 0, 0, 0, 0, 0, 0, 0, 0, 0, 0], [0, 0, 0, 0, 0, 0, 0, 0, 0, 0, 0, 0, 0, 0, 0, 0, 0], [0, 0, 0, 0, 0, 0, 0, 0, 0, 0, 0, 0, 0, 0, 0, 0, 0], [0, 0, 0, 0, 0, 0, 0, 0, 0, 0, 0, 0, 3, 3, 3, 7, 7], [6, 2, 3, 3, 3, 3, 3, 0, 0, 0, 0, 0, 0, 0, 0, 0, 0], [0, 0, 0, 0, 0, 0, 0, 0, 0, 0, 0, 0, 0, 0, 0, 0, 0], [0, 0, 0, 0, 0, 0, 0, 0, 0, 0, 0, 0, 0, 0, 0, 0, 0], [0, 0, 0, 0, 0, 0, 0, 0, 0, 0, 0, 0, 0, 0, 0, 0, 5], [0, 0, 0, 0, 0, 0, 0, 0, 0, 0, 0, 3, -5, -5, -5, -5, -5], [0, 0, 0, 12, 0, 3, 3, 3, 7, 7, 6, 2, 3, 3, 3, 3, 3], [1, 3, 0, 12, 1, 1, 0, 0, 0, 0, 0, 0, 0, 0, 0, 0, 0]]
def LP14 : List (List Int) := [[0, 100, 4, 6, 5, 2, 5, 1, 3, 3, 3, 7, 7, 6, 2, 3, 3], [3, 3, 3, 0, 0, 0, 0, 0, 0, 0, 0, 0, 0, 0, 0, 0, 0], [0, 0, 0, 0, 0, 0, 0, 0, 0, 0, 0, 0, 0, 0, 0, 0, 0], [0, 0, 0, 0, 0, 0, 0, 0, 0, 0, 0, 0, 0, 0, 0, 0, 0], [0, 0, 0, 0, 0, 0, 0, 0, 0, 0, 0, 0, 3, 3, 3, 7, 7], [6, 2, 3, 3, 3, 3, 3, 0, 0, 0, 0, 0, 0, 0, 0, 0, 0], [0, 0, 0, 0, 0, 0, 0, 0, 0, 0, 0, 0, 0, 0, 0, 0, 0], [0, 0, 0, 0, 0, 0, 0, 0, 0, 0, 0, 0, 0, 0, 0, 0, 0], [0, 0, 0, 0, 0, 0, 0, 0, 0, 0, 0, 0, 0, 0, 0, 0, 5], [0, 0, 0, 0, 0, 0, 0, 0, 0, 0, 0, 3, -5, -5, -5, -5, -5], [0, 0, 0, 12, 1, 3, 3, 3, 7, 7, 6, 2, 3, 3, 3, 3, 3], [1, 3, 0, 12, 1, 1, 0, 0, 0, 0, 0, 0, 0, 0, 0, 0, 0]]
def LP15 : List (List Int) := [[0, 100, 4, 6, 6, 2, 5, 1, 3, 3, 3, 7, 7, 6, 2, 3, 3], [3, 3, 3, 0, 0, 0, 0, 0, 0, 0, 0, 0, 0, 0, 0, 0, 0], [0, 0, 0, 0, 0, 0, 0, 0, 0, 0, 0, 0, 0, 0, 0, 0, 0], [0, 0, 0, 0, 0, 0, 0, 0, 0, 0, 0, 0, 0, 0, 0, 0, 0], [0, 0, 0, 0, 0, 0, 0, 0, 0, 0, 0, 0, 3, 3, 3, 7, 7], [6, 2, 3, 3, 3, 3, 3, 0, 0, 0, 0, 0, 0, 0, 0, 0, 0], [0, 0, 0, 0, 0, 0, 0, 0, 0, 0, 0, 0, 0, 0, 0, 0, 0], [0, 0, 0, 0, 0, 0, 0, 0, 0, 0, 0, 0, 0, 0, 0, 0, 0], [0, 0, 0, 0, 0, 0, 0, 0, 0, 0, 0, 0, 0, 0, 0, 0, 5], [0, 0, 0, 0, 0, 0, 0, 0, 0, 0, 0, 3, -5, -5, -5, -5, -5], [0, 0, 0, 12, 1, 3, 3, 3, 7, 7, 6, 2, 3, 3, 3, 3, 3], [1, 3, 0, 12, 1, 1, 0, 0, 0, 0, 0, 0, 0, 0, 0, 0, 0]]
def LP16 : List (List Int) := [[0, 100, 4, 6, 6, 2, 5, 2, 3, 3, 3, 7, 7, 6, 2, 3, 3], [3, 3, 3, 0, 0, 0, 0, 0, 0, 0, 0, 0, 0, 0, 0, 0, 0], [0, 0, 0, 0, 0, 0, 0, 0, 0, 0, 0, 0, 0, 0, 0, 0, 0], [0, 0, 0, 0, 0, 0, 0, 0, 0, 0, 0, 0, 0, 0, 0, 0, 0], [0, 0, 0, 0, 0, 0, 0, 0, 0, 0, 0, 0, 3, 3, 3, 7, 7], [6, 2, 3, 3, 3, 3, 3, 0, 0, 0, 0, 0, 0, 0, 0, 0, 0], [0, 0, 0, 0, 0, 0, 0, 0, 0, 0, 0, 0, 0, 0, 0, 0, 0], [0, 0, 0, 0, 0, 0, 0, 0, 0, 0, 0, 0, 0, 0, 0, 0, 0], [0, 0, 0, 0, 0, 0, 0, 0, 0, 0, 0, 0, 0, 0, 0, 0, 5], [0, 0, 0, 0, 0, 0, 1, 0, 0, 0, 0, 3, -5, -5, -5, -5, -5], [0, 0, 0, 12, 1, 3, 3, 3, 7, 7, 6, 2, 3, 3, 3, 3, 3], [1, 3, 0, 12, 1, 1, 0, 0, 0, 0, 0, 0, 0, 0, 0, 0, 0]]
def LP17 : List (List Int) := [[0, 100, 4, 7, 6, 3, 5, 2, 3, 3, 3, 7, 7, 6, 2, 3, 3], [3, 3, 3, 0, 0, 0, 0, 0, 0, 0, 0, 0, 0, 0, 0, 0, 0], [0, 0, 0, 0, 0, 0, 0, 0, 0, 0, 0, 0, 0, 0, 0, 0, 0], [0, 0, 0, 0, 0, 0, 0, 0, 0, 0, 0, 0, 0, 0, 0, 0, 0], [0, 0, 0, 0, 0, 0, 0, 0, 0, 0, 0, 0, 3, 3, 3, 7, 7], [6, 2, 3, 3, 3, 3, 3, 0, 0, 0, 0, 0, 0, 0, 0, 0, 0], [0, 0, 0, 0, 0, 0, 0, 0, 0, 0, 0, 0, 0, 0, 0, 0, 0], [0, 0, 0, 0, 0, 0, 0, 0, 0, 0, 0, 0, 0, 0, 0, 0, 0], [0, 0, 0, 0, 0, 0, 0, 0, 0, 0, 0, 0, 0, 0, 0, 0, 5], [0, 0, 0, 0, 0, 0, 0, 0, 0, 0, 0, 3, -5, -5, -5, -5, -5], [0, 0, 0, 12, 1, 3, 3, 3, 7, 7, 6, 2, 3, 3, 3, 3, 3], [1, 3, 0, 12, 1, 1, 0, 0, 0, 0, 0, 0, 0, 0, 0, 0, 0], [1, 0, 0, 12, 0, 0, 0, 0, 0, 0, 0, 0, 0, 0, 0, 0, 0]]
def LP18 : List (List Int) := [[0, 30, 4, 7, 6, 3, 5, 2, 3, 3, 3, 7, 7, 6, 2, 3, 3], [3, 3, 3, 0, 0, 0, 0, 0, 0, 0, 0, 0, 0, 0, 0, 0, 0], [0, 0, 0, 0, 0, 0, 0, 0, 0, 0, 0, 0, 0, 0, 0, 0, 0], [0, 0, 0, 0, 0, 0, 0, 0, 0, 0, 0, 0, 0, 0, 0, 0, 0], [0, 0, 0, 0, 0, 0, 0, 0, 0, 0, 0, 0, 3, 3, 3, 7, 7], [6, 2, 3, 3, 3, 3, 3, 0, 0, 0, 0, 0, 0, 0, 0, 0, 0], [0, 0, 0, 0, 0, 0, 0, 0, 0, 0, 0, 0, 0, 0, 0, 0, 0], [0, 0, 0, 0, 0, 0, 0, 0, 0, 0, 0, 0, 0, 0, 0, 0, 0], [0, 0, 0, 0, 0, 0, 0, 0, 0, 0, 0, 0, 0, 0, 0, 0, 5], [0, 0, 0, 0, 0, 0, 0, 0, 0, 0, 0, 3, -5, -5, -5, -5, -5], [0, 0, 0, 12, 1, 3, 3, 3, 7, 7, 6, 2, 3, 3, 3, 3, 3], [1, 3, 0, 12, 1, 1, 0, 0, 0, 0, 0, 0, 0, 0, 0, 0, 0], [1, 0, 0, 12, 0, 0, 0, 0, 0, 0, 0, 0, 0, 0, 0, 0, 0]]
def LP19 : List (List Int) := [[0, 30, 4, 8, 6, 3, 6, 2, 3, 3, 3, 7, 7, 6, 2, 3, 3], [3, 3, 3, 0, 0, 0, 0, 0, 0, 0, 0, 0, 0, 0, 0, 0, 0], [0, 0, 0, 0, 0, 0, 0, 0, 0, 0, 0, 0, 0, 0, 0, 0, 0], [0, 0, 0, 0, 0, 0, 0, 0, 0, 0, 0, 0, 0, 0, 0, 0, 0], [0, 0, 0, 0, 0, 0, 0, 0, 0, 0, 0, 0, 3, 3, 3, 7, 7], [6, 2, 3, 3, 3, 3, 3, 0, 0, 0, 0, 0, 0, 0, 0, 0, 0], [0, 0, 0, 0, 0, 0, 0, 0, 0, 0, 0, 0, 0, 0, 0, 0, 0], [0, 0, 0, 0, 0, 0, 0, 0, 0, 0, 0, 0, 0, 0, 0, 0, 0], [0, 0, 0, 0, 0, 0, 0, 0, 0, 0, 0, 0, 0, 0, 0, 0, 5], [0, 0, 0, 0, 0, 0, 0, 0, 0, 0, 0, 3, -5, -5, -5, -5, -5], [0, 0, 0, 12, 1, 3, 3, 3, 7, 7, 6, 2, 3, 3, 3, 3, 3], [1, 3, 0, 12, 1, 1, 0, 0, 0, 0, 0, 0, 0, 0, 0, 0, 0], [1, 0, 0, 12, 0, 0, 0, 0, 0, 0, 0, 0, 0, 0, 0, 0, 0], [2, 3, 0, 12, 0, 1, 0, 0, 0, 0, 0, 0, 0, 0, 0, 0, 0]]
def LP20 : List (List Int) := [[0, 30, 4, 9, 6, 3, 7, 2, 3, 3, 3, 7, 7, 6, 2, 3, 3], [3, 3, 3, 0, 0, 0, 0, 0, 0, 0, 0, 0, 0, 0, 0, 0, 0], [0, 0, 0, 0, 0, 0, 0, 0, 0, 0, 0, 0, 0, 0, 0, 0, 0], [0, 0, 0, 0, 0, 0, 0, 0, 0, 0, 0, 0, 0, 0, 0, 0, 0], [0, 0, 0, 0, 0, 0, 0, 0, 0, 0, 0, 0, 3, 3, 3, 7, 7], [6, 2, 3, 3, 3, 3, 3, 0, 0, 0, 0, 0, 0, 0, 0, 0, 0], [0, 0, 0, 0, 0, 0, 0, 0, 0, 0, 0, 0, 0, 0, 0, 0, 0], [0, 0, 0, 0, 0, 0, 0, 0, 0, 0, 0, 0, 0, 0, 0, 0, 0], [0, 0, 0, 0, 0, 0, 0, 0, 0, 0, 0, 0, 0, 0, 0, 0, 5], [0, 0, 0, 0, 0, 0, 0, 0, 0, 0, 0, 3, -5, -5, -5, -5, -5], [0, 0, 0, 12, 1, 3, 3, 3, 7, 7, 6, 2, 3, 3, 3, 3, 3], [1, 3, 0, 12, 1, 1, 0, 0, 0, 0, 0, 0, 0, 0, 0, 0, 0], [1, 0, 0, 12, 0, 0, 0, 0, 0, 0, 0, 0, 0, 0, 0, 0, 0], [2, 3, 0, 12, 0, 1, 0, 0, 0, 0, 0, 0, 0, 0, 0, 0, 0], [2, 3, 0, 12, 0, 1, 0, 0, 0, 0, 0, 0, 0, 0, 0, 0, 0]]
def LP21 : List (List Int) := [[0, 30, 4, 10, 6, 3, 8, 2, 3, 3, 3, 7, 7, 6, 2, 3, 3], [3, 3, 3, 0, 0, 0, 0, 0, 0, 0, 0, 0, 0, 0, 0, 0, 0], [0, 0, 0, 0, 0, 0, 0, 0, 0, 0, 0, 0, 0, 0, 0, 0, 0], [0, 0, 0, 0, 0, 0, 0, 0, 0, 0, 0, 0, 0, 0, 0, 0, 0], [0, 0, 0, 0, 0, 0, 0, 0, 0, 0, 0, 0, 3, 3, 3, 7, 7], [6, 2, 3, 3, 3, 3, 3, 0, 0, 0, 0, 0, 0, 0, 0, 0, 0], [0, 0, 0, 0, 0, 0, 0, 0, 0, 0, 0, 0, 0, 0, 0, 0, 0], [0, 0, 0, 0, 0, 0, 0, 0, 0, 0, 0, 0, 0, 0, 0, 0, 0], [0, 0, 0, 0, 0, 0, 0, 0, 0, 0, 0, 0, 0, 0, 0, 0, 5], [0, 0, 0, 0, 0, 0, 0, 0, 0, 0, 0, 3, -5, -5, -5, -5, -5], [0, 0, 0, 12, 1, 3, 3, 3, 7, 7, 6, 2, 3, 3, 3, 3, 3], [1, 3, 0, 12, 1, 1, 0, 0, 0, 0, 0, 0, 0, 0, 0, 0, 0], [1, 0, 0, 12, 0, 0, 0, 0, 0, 0, 0, 0, 0, 0, 0, 0, 0], [2, 3, 0, 12, 0, 1, 0, 0, 0, 0, 0, 0, 0, 0, 0, 0, 0], [2, 3, 0, 12, 0, 1, 0, 0, 0, 0, 0, 0, 0, 0, 0, 0, 0], [2, 3, 0, 12, 0, 1, 0, 0, 0, 0, 0, 0, 0, 0, 0, 0, 0]]
def LP22 : List (List Int) := [[0, 30, 5, 11, 6, 3, 9, 2, 3, 3, 3, 7, 7, 6, 2, 3, 3], [3, 3, 3, 0, 0, 0, 0, 0, 0, 0, 0, 0, 0, 0, 0, 1, 0], [0, 0, 0, 0, 0, 0, 0, 0, 0, 0, 0, 0, 0, 0, 0, 0, 0], [0, 0, 0, 0, 0, 0, 0, 0, 0, 0, 0, 0, 0, 0, 0, 0, 0], [0, 0, 0, 0, 0, 0, 0, 0, 0, 0, 0, 0, 3, 3, 3, 7, 7], [6, 2, 3, 3, 3, 3, 3, 0, 0, 0, 0, 0, 0, 0, 0, 0, 0], [0, 0, 0, 0, 0, 0, 0, 0, 0, 0, 0, 0, 0, 0, 0, 0, 0], [0, 0, 0, 0, 0, 0, 0, 0, 0, 0, 0, 0, 0, 0, 0, 0, 0], [0, 0, 0, 0, 0, 0, 0, 0, 0, 0, 0, 0, 0, 0, 0, 0, 5], [0, 0, 0, 0, 0, 0, 0, 0, 0, 0, 0, 4, -5, -5, -5, -5, -5], [1, 3, 0, 12, 1, 1, 0, 0, 0, 0, 0, 0, 0, 0, 0, 0, 0], [1, 0, 0, 12, 0, 0, 0, 0, 0, 0, 0, 0, 0, 0, 0, 0, 0], [2, 3, 0, 12, 0, 1, 0, 0, 0, 0, 0, 0, 0, 0, 0, 0, 0], [2, 3, 0, 12, 0, 1, 0, 0, 0, 0, 0, 0, 0, 0, 0, 0, 0], [2, 3, 0, 12, 0, 1, 0, 0, 0, 0, 0, 0, 0, 0, 0, 0, 0], [2, 1, 0, 1, 0, 1, 0, 0, 0, 0, 0, 0, 0, 0, 0, 0, 0]]
def LP23 : List (List Int) := [[0, 30, 5, 12, 6, 3, 10, 2, 3, 3, 3, 7, 7, 6, 2, 3, 3], [3, 3, 3, 0, 0, 0, 0, 0, 0, 0, 0, 0, 0, 0, 0, 0, 1], [0, 0, 0, 0, 0, 0, 0, 0, 0, 0, 0, 0, 0, 0, 0, 0, 0], [0, 0, 0, 0, 0, 0, 0, 0, 0, 0, 0, 0, 0, 0, 0, 0, 0], [0, 0, 0, 0, 0, 0, 0, 0, 0, 0, 0, 0, 3, 3, 3, 7, 7], [6, 2, 3, 3, 3, 3, 3, 0, 0, 0, 0, 0, 0, 0, 0, 0, 0], [0, 0, 0, 0, 0, 0, 0, 0, 0, 0, 0, 0, 0, 0, 0, 0, 0], [0, 0, 0, 0, 0, 0, 0, 0, 0, 0, 0, 0, 0, 0, 0, 0, 0], [0, 0, 0, 0, 0, 0, 0, 0, 0, 0, 0, 0, 0, 0, 0, 0, 5], [0, 0, 0, 0, 0, 0, 0, 0, 0, 0, 0, 4, -5, -5, -5, -5, -5], [1, 3, 0, 12, 1, 1, 0, 0, 0, 0, 0, 0, 0, 0, 0, 0, 0], [1, 0, 0, 12, 0, 0, 0, 0, 0, 0, 0, 0, 0, 0, 0, 0, 0], [2, 3, 0, 12, 0, 1, 0, 0, 0, 0, 0, 0, 0, 0, 0, 0, 0], [2, 3, 0, 12, 0, 1, 0, 0, 0, 0, 0, 0, 0, 0, 0, 0, 0], [2, 3, 0, 12, 0, 1, 0, 0, 0, 0, 0, 0, 0, 0, 0, 0, 0], [2, 1, 0, 1, 0, 1, 0, 0, 0, 0, 0, 0, 0, 0, 0, 0, 0], [2, 3, 0, 12, 0, 1, 0, 0, 0, 0, 0, 0, 0, 0, 0, 0, 0]]
def LP24 : List (List Int) := [[0, 30, 5, 13, 6, 3, 11, 2, 3, 3, 3, 7, 7, 6, 2, 3, 3], [3, 3, 3, 0, 0, 0, 0, 0, 0, 0, 0, 0, 0, 0, 0, 0, 0], [1, 0, 0, 0, 0, 0, 0, 0, 0, 0, 0, 0, 0, 0, 0, 0, 0], [0, 0, 0, 0, 0, 0, 0, 0, 0, 0, 0, 0, 0, 0, 0, 0, 0], [0, 0, 0, 0, 0, 0, 0, 0, 0, 0, 0, 0, 3, 3, 3, 7, 7], [6, 2, 3, 3, 3, 3, 3, 0, 0, 0, 0, 0, 0, 0, 0, 0, 0], [0, 0, 0, 0, 0, 0, 0, 0, 0, 0, 0, 0, 0, 0, 0, 0, 0], [0, 0, 0, 0, 0, 0, 0, 0, 0, 0, 0, 0, 0, 0, 0, 0, 0], [0, 0, 0, 0, 0, 0, 0, 0, 0, 0, 0, 0, 0, 0, 0, 0, 5], [0, 0, 0, 0, 0, 0, 0, 0, 0, 0, 0, 4, -5, -5, -5, -5, -5], [1, 3, 0, 12, 1, 1, 0, 0, 0, 0, 0, 0, 0, 0, 0, 0, 0], [1, 0, 0, 12, 0, 0, 0, 0, 0, 0, 0, 0, 0, 0, 0, 0, 0], [2, 3, 0, 12, 0, 1, 0, 0, 0, 0, 0, 0, 0, 0, 0, 0, 0], [2, 3, 0, 12, 0, 1, 0, 0, 0, 0, 0, 0, 0, 0, 0, 0, 0], [2, 3, 0, 12, 0, 1, 0, 0, 0, 0, 0, 0, 0, 0, 0, 0, 0], [2, 1, 0, 1, 0, 1, 0, 0, 0, 0, 0, 0, 0, 0, 0, 0, 0], [2, 3, 0, 12, 0, 1, 0, 0, 0, 0, 0, 0, 0, 0, 0, 0, 0], [2, 3, 0, 12, 0, 1, 0, 0, 0, 0, 0, 0, 0, 0, 0, 0, 0]]
def LP25 : List (List Int) := [[0, 30, 5, 14, 6, 3, 12, 2, 3, 3, 3, 7, 7, 6, 2, 3, 3], [3, 3, 3, 0, 0, 0, 0, 0, 0, 0, 0, 0, 0, 0, 0, 0, 0], [0, 1, 0, 0, 0, 0, 0, 0, 0, 0, 0, 0, 0, 0, 0, 0, 0], [0, 0, 0, 0, 0, 0, 0, 0, 0, 0, 0, 0, 0, 0, 0, 0, 0], [0, 0, 0, 0, 0, 0, 0, 0, 0, 0, 0, 0, 3, 3, 3, 7, 7], [6, 2, 3, 3, 3, 3, 3, 0, 0, 0, 0, 0, 0, 0, 0, 0, 0], [0, 0, 0, 0, 0, 0, 0, 0, 0, 0, 0, 0, 0, 0, 0, 0, 0], [0, 0, 0, 0, 0, 0, 0, 0, 0, 0, 0, 0, 0, 0, 0, 0, 0], [0, 0, 0, 0, 0, 0, 0, 0, 0, 0, 0, 0, 0, 0, 0, 0, 5], [0, 0, 0, 0, 0, 0, 0, 0, 0, 0, 0, 4, -5, -5, -5, -5, -5], [1, 3, 0, 12, 1, 1, 0, 0, 0, 0, 0, 0, 0, 0, 0, 0, 0], [1, 0, 0, 12, 0, 0, 0, 0, 0, 0, 0, 0, 0, 0, 0, 0, 0], [2, 3, 0, 12, 0, 1, 0, 0, 0, 0, 0, 0, 0, 0, 0, 0, 0], [2, 3, 0, 12, 0, 1, 0, 0, 0, 0, 0, 0, 0, 0, 0, 0, 0], [2, 3, 0, 12, 0, 1, 0, 0, 0, 0, 0, 0, 0, 0, 0, 0, 0], [2, 1, 0, 1, 0, 1, 0, 0, 0, 0, 0, 0, 0, 0, 0, 0, 0], [2, 3, 0, 12, 0, 1, 0, 0, 0, 0, 0, 0, 0, 0, 0, 0, 0], [2, 3, 0, 12, 0, 1, 0, 0, 0, 0, 0, 0, 0, 0, 0, 0, 0], [2, 3, 0, 12, 0, 1, 0, 0, 0, 0, 0, 0, 0, 0, 0, 0, 0]]
def LP26 : List (List Int) := [[0, 300, 5, 14, 6, 3, 12, 2, 3, 3, 3, 7, 7, 6, 2, 3, 3], [3, 3, 3, 0, 0, 0, 0, 0, 0, 0, 0, 0, 0, 0, 0, 0, 0], [0, 1, 0, 0, 0, 0, 0, 0, 0, 0, 0, 0, 0, 0, 0, 0, 0], [0, 0, 0, 0, 0, 0, 0, 0, 0, 0, 0, 0, 0, 0, 0, 0, 0], [0, 0, 0, 0, 0, 0, 0, 0, 0, 0, 0, 0, 3, 3, 3, 7, 7], [6, 2, 3, 3, 3, 3, 3, 0, 0, 0, 0, 0, 0, 0, 0, 0, 0], [0, 0, 0, 0, 0, 0, 0, 0, 0, 0, 0, 0, 0, 0, 0, 0, 0], [0, 0, 0, 0, 0, 0, 0, 0, 0, 0, 0, 0, 0, 0, 0, 0, 0], [0, 0, 0, 0, 0, 0, 0, 0, 0, 0, 0, 0, 0, 0, 0, 0, 5], [0, 0, 0, 0, 0, 0, 0, 0, 0, 0, 0, 4, -5, -5, -5, -5, -5], [1, 3, 0, 12, 1, 1, 0, 0, 0, 0, 0, 0, 0, 0, 0, 0, 0], [1, 0, 0, 12, 0, 0, 0, 0, 0, 0, 0, 0, 0, 0, 0, 0, 0], [2, 3, 0, 12, 0, 1, 0, 0, 0, 0, 0, 0, 0, 0, 0, 0, 0], [2, 3, 0, 12, 0, 1, 0, 0, 0, 0, 0, 0, 0, 0, 0, 0, 0], [2, 3, 0, 12, 0, 1, 0, 0, 0, 0, 0, 0, 0, 0, 0, 0, 0], [2, 1, 0, 1, 0, 1, 0, 0, 0, 0, 0, 0, 0, 0, 0, 0, 0], [2, 3, 0, 12, 0, 1, 0, 0, 0, 0, 0, 0, 0, 0, 0, 0, 0], [2, 3, 0, 12, 0, 1, 0, 0, 0, 0, 0, 0, 0, 0, 0, 0, 0], [2, 3, 0, 12, 0, 1, 0, 0, 0, 0, 0, 0, 0, 0, 0, 0, 0]]
def LP27 : List (List Int) := [[0, 30, 5, 14, 14, 3, 12, 2, 3, 3, 3, 7, 7, 6, 2, 3, 3], [3, 3, 3, 0, 0, 0, 0, 0, 0, 0, 0, 0, 0, 0, 0, 0, 0], [0, 1, 0, 0, 0, 0, 0, 0, 0, 0, 0, 0, 0, 0, 0, 0, 0], [0, 0, 0, 0, 0, 0, 0, 0, 0, 0, 0, 0, 0, 0, 0, 0, 0], [0, 0, 0, 0, 0, 0, 0, 0, 0, 0, 0, 0, 3, 3, 3, 7, 7], [6, 2, 3, 3, 3, 3, 3, 0, 0, 0, 0, 0, 0, 0, 0, 0, 0], [0, 0, 0, 0, 0, 0, 0, 0, 0, 0, 0, 0, 0, 0, 0, 0, 0], [0, 0, 0, 0, 0, 0, 0, 0, 0, 0, 0, 0, 0, 0, 0, 0, 0], [0, 0, 0, 0, 0, 0, 0, 0, 0, 0, 0, 0, 0, 0, 0, 0, 5], [0, 0, 0, 0, 0, 0, 0, 0, 0, 0, 0, 4, -5, -5, -5, -5, -5], [1, 3, 0, 12, 1, 1, 0, 0, 0, 0, 0, 0, 0, 0, 0, 0, 0], [1, 0, 0, 12, 0, 0, 0, 0, 0, 0, 0, 0, 0, 0, 0, 0, 0], [2, 3, 0, 12, 0, 1, 0, 0, 0, 0, 0, 0, 0, 0, 0, 0, 0], [2, 3, 0, 12, 0, 1, 0, 0, 0, 0, 0, 0, 0, 0, 0, 0, 0], [2, 3, 0, 12, 0, 1, 0, 0, 0, 0, 0, 0, 0, 0, 0, 0, 0], [2, 1, 0, 1, 0, 1, 0, 0, 0, 0, 0, 0, 0, 0, 0, 0, 0], [2, 3, 0, 12, 0, 1, 0, 0, 0, 0, 0, 0, 0, 0, 0, 0, 0], [2, 3, 0, 12, 0, 1, 0, 0, 0, 0, 0, 0, 0, 0, 0, 0, 0], [2, 3, 0, 12, 0, 1, 0, 0, 0, 0, 0, 0, 0, 0, 0, 0, 0]]
def LP28 : List (List Int) := [[0, 30, 6, 15, 14, 3, 13, 2, 3, 3, 3, 7, 7, 6, 2, 3, 3], [3, 3, 3, 0, 0, 0, 0, 0, 0, 0, 0, 0, 0, 0, 0, 0, 0], [0, 0, 1, 0, 0, 0, 0, 0, 0, 0, 0, 0, 0, 0, 0, 0, 0], [0, 0, 0, 0, 0, 0, 0, 0, 0, 0, 0, 0, 0, 0, 0, 0, 0], [0, 0, 0, 0, 0, 0, 0, 0, 0, 0, 0, 0, 3, 3, 3, 7, 7], [6, 2, 3, 3, 3, 3, 3, 0, 0, 0, 0, 0, 0, 0, 0, 0, 0], [0, 0, 0, 0, 0, 0, 0, 0, 0, 0, 0, 0, 0, 0, 0, 0, 0], [0, 0, 0, 0, 0, 0, 0, 0, 0, 0, 0, 0, 0, 0, 0, 0, 0], [0, 0, 0, 0, 0, 0, 0, 0, 0, 0, 0, 0, 0, 0, 0, 0, 5], [0, 0, 0, 0, 0, 0, 0, 0, 0, 0, 0, 4, 5, -5, -5, -5, -5], [1, 0, 0, 12, 0, 0, 0, 0, 0, 0, 0, 0, 0, 0, 0, 0, 0], [2, 3, 0, 12, 0, 1, 0, 0, 0, 0, 0, 0, 0, 0, 0, 0, 0], [2, 3, 0, 12, 0, 1, 0, 0, 0, 0, 0, 0, 0, 0, 0, 0, 0], [2, 3, 0, 12, 0, 1, 0, 0, 0, 0, 0, 0, 0, 0, 0, 0, 0], [2, 1, 0, 1, 0, 1, 0, 0, 0, 0, 0, 0, 0, 0, 0, 0, 0], [2, 3, 0, 12, 0, 1, 0, 0, 0, 0, 0, 0, 0, 0, 0, 0, 0], [2, 3, 0, 12, 0, 1, 0, 0, 0, 0, 0, 0, 0, 0, 0, 0, 0], [2, 3, 0, 12, 0, 1, 0, 0, 0, 0, 0, 0, 0, 0, 0, 0, 0], [2, 3, 0, 12, 0, 1, 0, 0, 0, 0, 0, 0, 0, 0, 0, 0, 0]]
section
variable {G : GX} {Qf : QF} {X : Nat}
theorem lp_s0 {sz : Nat} {m : Mem} (kd : KD G m sz X 0 LP0 0 0 (fun _ => 0) 0) (K : ∀ (z : Nat) (m' : Mem), KD G m' z X 1 LP1 1 0 (fun _ => 0) 0 → Vw G kL_pages (rmM 9 600 6000) Qf 126 [some (wr (some X))] [] z m' 160 2179) : Vw G kL_pages (rmM 9 600 6000) Qf 8 [some (wr (some X))] [] sz m 157 2151 := by
  refine Vw.ald0 aL_pages_8 ?_
  refine cd_undoN kd aL_pages_9 gl_RL_77 (v := (-5)) rfl rfl (Nat.le_of_ble_eq_true rfl) (by decide) ?_
  refine Vw.bipush aL_pages_12 (by decide) (by decide) ?_
  refine Vw.icmp_ne aL_pages_14 (tgt := 103) (by decide) (fun c => absurd c (by decide)) (fun _ => ?_)
  refine Vw.ald0 aL_pages_17 ?_
  refine cd_restoreN kd aL_pages_18 gl_RL_81 (v := (-5)) rfl rfl (Nat.le_of_ble_eq_true rfl) (by decide) ?_
  refine Vw.bipush aL_pages_21 (by decide) (by decide) ?_
  refine Vw.icmp_ne aL_pages_23 (tgt := 103) (by decide) (fun c => absurd c (by decide)) (fun _ => ?_)
  refine Vw.ald0 aL_pages_26 ?_
  refine cd_flushN kd aL_pages_27 gl_RL_84 (v := (-5)) (by decide +kernel) rfl (Nat.le_of_ble_eq_true rfl) (by decide) (fun z m' kd => ?_)
  refine Vw.bipush aL_pages_30 (by decide) (by decide) ?_
  refine Vw.icmp_ne aL_pages_32 (tgt := 103) (by decide) (fun c => absurd c (by decide)) (fun _ => ?_)
  refine Vw.ald0 aL_pages_35 ?_
  refine cd_trimN kd aL_pages_36 gl_RL_87 (v := (-5)) (by decide +kernel) rfl (Nat.le_of_ble_eq_true rfl) (by decide) (fun z m' kd => ?_)
  refine Vw.bipush aL_pages_39 (by decide) (by decide) ?_
  refine Vw.icmp_ne aL_pages_41 (tgt := 103) (by decide) (fun c => absurd c (by decide)) (fun _ => ?_)
  refine Vw.ald0 aL_pages_44 ?_
  refine cd_best kd aL_pages_45 gl_RL_90 (v := 0) (by decide +kernel) (Nat.le_of_ble_eq_true rfl) (by decide) ?_
  refine Vw.if_ne aL_pages_48 (tgt := 103) (by decide) (fun c => absurd c (by decide)) (fun _ => ?_)
  refine Vw.ald0 aL_pages_51 ?_
  refine Vw.iconst aL_pages_52 (by decide) ?_
  refine Vw.iconst aL_pages_53 (by decide) ?_
  refine cd_page kd aL_pages_54 gl_RL_26 (v := 5) (by decide) (by decide +kernel) (Nat.le_of_ble_eq_true rfl) (by decide) ?_
  refine Vw.iconst aL_pages_57 (by decide) ?_
  refine Vw.icmp_ne aL_pages_58 (tgt := 103) (by decide) (fun c => absurd c (by decide)) (fun _ => ?_)
  refine Vw.ald0 aL_pages_61 ?_
  refine Vw.iconst aL_pages_62 (by decide) ?_
  refine Vw.iconst aL_pages_63 (by decide) ?_
  refine cd_page kd aL_pages_64 gl_RL_26 (v := 0) (by decide) (by decide +kernel) (Nat.le_of_ble_eq_true rfl) (by decide) ?_
  refine Vw.if_ne aL_pages_67 (tgt := 103) (by decide) (fun c => absurd c (by decide)) (fun _ => ?_)
  refine Vw.ald0 aL_pages_70 ?_
  refine Vw.iconst aL_pages_71 (by decide) ?_
  refine Vw.iconst aL_pages_72 (by decide) ?_
  refine cd_page kd aL_pages_73 gl_RL_26 (v := (-5)) (by decide) (by decide +kernel) (Nat.le_of_ble_eq_true rfl) (by decide) ?_
  refine Vw.bipush aL_pages_76 (by decide) (by decide) ?_
  refine Vw.icmp_ne aL_pages_78 (tgt := 103) (by decide) (fun c => absurd c (by decide)) (fun _ => ?_)
  refine Vw.ald0 aL_pages_81 ?_
  refine Vw.iconst aL_pages_82 (by decide) ?_
  refine Vw.bipush aL_pages_83 (by decide) (by decide) ?_
  refine cd_page kd aL_pages_85 gl_RL_26 (v := 4) (by decide) (by decide +kernel) (Nat.le_of_ble_eq_true rfl) (by decide) ?_
  refine Vw.iconst aL_pages_88 (by decide) ?_
  refine Vw.icmp_ne aL_pages_89 (tgt := 103) (by decide) (fun c => absurd c (by decide)) (fun _ => ?_)
  refine Vw.ald0 aL_pages_92 ?_
  refine Vw.bipush aL_pages_93 (by decide) (by decide) ?_
  refine cd_count kd aL_pages_95 gl_RL_13 (v := 30) (by decide +kernel) (Nat.le_of_ble_eq_true rfl) (by decide) ?_
  refine Vw.bipush aL_pages_98 (by decide) (by decide) ?_
  refine Vw.icmp_eq aL_pages_100 (tgt := 105) (by decide) (fun _ => ?_) (fun c => absurd c (by decide))
  refine Vw.ald0 aL_pages_105 ?_
  refine Vw.iconst aL_pages_106 (by decide) ?_
  refine Vw.iconst aL_pages_107 (by decide) ?_
  refine Vw.bipush aL_pages_108 (by decide) (by decide) ?_
  refine Vw.iconst aL_pages_110 (by decide) ?_
  refine cd_fill kd aL_pages_111 gl_RL_32 (v := 0) (LN := LP1) (sv2 := 1) (by decide) (by decide) (by decide) (by decide) (by decide +kernel) (by decide +kernel) (by decide +kernel) (Nat.le_of_ble_eq_true rfl) (by decide) (fun z m' kd => ?_)
  refine Vw.if_ne aL_pages_114 (tgt := 288) (by decide) (fun c => absurd c (by decide)) (fun _ => ?_)
  refine Vw.ald0 aL_pages_117 ?_
  refine Vw.iconst aL_pages_118 (by decide) ?_
  refine Vw.iconst aL_pages_119 (by decide) ?_
  refine cd_entry kd aL_pages_120 gl_RL_29 (v := 0) (by decide +kernel) (by decide +kernel) (Nat.le_of_ble_eq_true rfl) (by decide) ?_
  refine Vw.if_ne aL_pages_123 (tgt := 288) (by decide) (fun c => absurd c (by decide)) (fun _ => ?_)
  exact K _ _ kd
theorem lp_s1 {sz : Nat} {m : Mem} (kd : KD G m sz X 1 LP1 1 0 (fun _ => 0) 0) (K : ∀ (z : Nat) (m' : Mem), KD G m' z X 3 LP4 4 0 (fun _ => 0) 0 → Vw G kL_pages (rmM 9 600 6000) Qf 254 [some (wr (some X))] [] z m' 166 2235) : Vw G kL_pages (rmM 9 600 6000) Qf 126 [some (wr (some X))] [] sz m 160 2179 := by
  refine Vw.ald0 aL_pages_126 ?_
  refine Vw.iconst aL_pages_127 (by decide) ?_
  refine Vw.iconst aL_pages_128 (by decide) ?_
  refine cd_entry kd aL_pages_129 gl_RL_29 (v := 4) (by decide +kernel) (by decide +kernel) (Nat.le_of_ble_eq_true rfl) (by decide) ?_
  refine Vw.iconst aL_pages_132 (by decide) ?_
  refine Vw.icmp_ne aL_pages_133 (tgt := 288) (by decide) (fun c => absurd c (by decide)) (fun _ => ?_)
  refine Vw.ald0 aL_pages_136 ?_
  refine Vw.iconst aL_pages_137 (by decide) ?_
  refine Vw.iconst aL_pages_138 (by decide) ?_
  refine cd_entry kd aL_pages_139 gl_RL_29 (v := 4) (by decide +kernel) (by decide +kernel) (Nat.le_of_ble_eq_true rfl) (by decide) ?_
  refine Vw.iconst aL_pages_142 (by decide) ?_
  refine Vw.icmp_ne aL_pages_143 (tgt := 288) (by decide) (fun c => absurd c (by decide)) (fun _ => ?_)
  refine Vw.ald0 aL_pages_146 ?_
  refine Vw.iconst aL_pages_147 (by decide) ?_
  refine Vw.iconst aL_pages_148 (by decide) ?_
  refine cd_page kd aL_pages_149 gl_RL_26 (v := 4) (by decide) (by decide +kernel) (Nat.le_of_ble_eq_true rfl) (by decide) ?_
  refine Vw.iconst aL_pages_152 (by decide) ?_
  refine Vw.icmp_ne aL_pages_153 (tgt := 288) (by decide) (fun c => absurd c (by decide)) (fun _ => ?_)
  refine Vw.ald0 aL_pages_156 ?_
  refine Vw.iconst aL_pages_157 (by decide) ?_
  refine cd_setWay kd aL_pages_158 gl_RL_47 (v := 2) (LN := LP2) (sv2 := 2) (by decide) (by decide) (by decide +kernel) (by decide +kernel) (by decide +kernel) (Nat.le_of_ble_eq_true rfl) (by decide) (fun z m' kd => ?_)
  refine Vw.iconst aL_pages_161 (by decide) ?_
  refine Vw.icmp_ne aL_pages_162 (tgt := 288) (by decide) (fun c => absurd c (by decide)) (fun _ => ?_)
  refine Vw.ald0 aL_pages_165 ?_
  refine Vw.iconst aL_pages_166 (by decide) ?_
  refine Vw.iconst aL_pages_167 (by decide) ?_
  refine Vw.iconst aL_pages_168 (by decide) ?_
  refine Vw.bipush aL_pages_169 (by decide) (by decide) ?_
  refine cd_fill kd aL_pages_171 gl_RL_32 (v := 1) (LN := LP3) (sv2 := 3) (by decide) (by decide) (by decide) (by decide) (by decide +kernel) (by decide +kernel) (by decide +kernel) (Nat.le_of_ble_eq_true rfl) (by decide) (fun z m' kd => ?_)
  refine Vw.iconst aL_pages_174 (by decide) ?_
  refine Vw.icmp_ne aL_pages_175 (tgt := 288) (by decide) (fun c => absurd c (by decide)) (fun _ => ?_)
  refine Vw.ald0 aL_pages_178 ?_
  refine Vw.iconst aL_pages_179 (by decide) ?_
  refine Vw.iconst aL_pages_180 (by decide) ?_
  refine cd_entry kd aL_pages_181 gl_RL_29 (v := 4) (by decide +kernel) (by decide +kernel) (Nat.le_of_ble_eq_true rfl) (by decide) ?_
  refine Vw.iconst aL_pages_184 (by decide) ?_
  refine Vw.icmp_ne aL_pages_185 (tgt := 288) (by decide) (fun c => absurd c (by decide)) (fun _ => ?_)
  refine Vw.ald0 aL_pages_188 ?_
  refine Vw.iconst aL_pages_189 (by decide) ?_
  refine Vw.iconst aL_pages_190 (by decide) ?_
  refine cd_entry kd aL_pages_191 gl_RL_29 (v := 7) (by decide +kernel) (by decide +kernel) (Nat.le_of_ble_eq_true rfl) (by decide) ?_
  refine Vw.bipush aL_pages_194 (by decide) (by decide) ?_
  refine Vw.icmp_ne aL_pages_196 (tgt := 288) (by decide) (fun c => absurd c (by decide)) (fun _ => ?_)
  refine Vw.ald0 aL_pages_199 ?_
  refine Vw.iconst aL_pages_200 (by decide) ?_
  refine Vw.iconst aL_pages_201 (by decide) ?_
  refine cd_page kd aL_pages_202 gl_RL_26 (v := 11) (by decide) (by decide +kernel) (Nat.le_of_ble_eq_true rfl) (by decide) ?_
  refine Vw.bipush aL_pages_205 (by decide) (by decide) ?_
  refine Vw.icmp_ne aL_pages_207 (tgt := 288) (by decide) (fun c => absurd c (by decide)) (fun _ => ?_)
  refine Vw.ald0 aL_pages_210 ?_
  refine Vw.iconst aL_pages_211 (by decide) ?_
  refine Vw.iconst aL_pages_212 (by decide) ?_
  refine cd_page kd aL_pages_213 gl_RL_26 (v := 2) (by decide) (by decide +kernel) (Nat.le_of_ble_eq_true rfl) (by decide) ?_
  refine Vw.iconst aL_pages_216 (by decide) ?_
  refine Vw.icmp_ne aL_pages_217 (tgt := 288) (by decide) (fun c => absurd c (by decide)) (fun _ => ?_)
  refine Vw.ald0 aL_pages_220 ?_
  refine Vw.iconst aL_pages_221 (by decide) ?_
  refine Vw.iconst aL_pages_222 (by decide) ?_
  refine cd_page kd aL_pages_223 gl_RL_26 (v := 0) (by decide) (by decide +kernel) (Nat.le_of_ble_eq_true rfl) (by decide) ?_
  refine Vw.if_ne aL_pages_226 (tgt := 288) (by decide) (fun c => absurd c (by decide)) (fun _ => ?_)
  refine Vw.ald0 aL_pages_229 ?_
  refine Vw.iconst aL_pages_230 (by decide) ?_
  refine Vw.bipush aL_pages_231 (by decide) (by decide) ?_
  refine cd_page kd aL_pages_233 gl_RL_26 (v := 8) (by decide) (by decide +kernel) (Nat.le_of_ble_eq_true rfl) (by decide) ?_
  refine Vw.bipush aL_pages_236 (by decide) (by decide) ?_
  refine Vw.icmp_ne aL_pages_238 (tgt := 288) (by decide) (fun c => absurd c (by decide)) (fun _ => ?_)
  refine Vw.ald0 aL_pages_241 ?_
  refine Vw.iconst aL_pages_242 (by decide) ?_
  refine Vw.iconst aL_pages_243 (by decide) ?_
  refine Vw.iconst aL_pages_244 (by decide) ?_
  refine Vw.bipush aL_pages_245 (by decide) (by decide) ?_
  refine cd_add kd aL_pages_247 gl_RL_38 (v := 2) (LN := LP4) (sv2 := 4) (by decide) (by decide) (by decide) (by decide) (by decide +kernel) (by decide +kernel) (by decide +kernel) (Nat.le_of_ble_eq_true rfl) (by decide) (fun z m' kd => ?_)
  refine Vw.iconst aL_pages_250 (by decide) ?_
  refine Vw.icmp_ne aL_pages_251 (tgt := 288) (by decide) (fun c => absurd c (by decide)) (fun _ => ?_)
  exact K _ _ kd
theorem lp_s2 {sz : Nat} {m : Mem} (kd : KD G m sz X 3 LP4 4 0 (fun _ => 0) 0) (K : ∀ (z : Nat) (m' : Mem), KD G m' z X 5 LP6 4 0 (fun _ => 0) 0 → Vw G kL_pages (rmM 9 600 6000) Qf 378 [some (wr (some X))] [] z m' 172 2291) : Vw G kL_pages (rmM 9 600 6000) Qf 254 [some (wr (some X))] [] sz m 166 2235 := by
  refine Vw.ald0 aL_pages_254 ?_
  refine Vw.iconst aL_pages_255 (by decide) ?_
  refine Vw.ldc2 aL_pages_256 gq_RL_93 ?_
  refine cd_isPage kd aL_pages_259 gl_RL_95 (by decide) (by decide +kernel) (Nat.le_of_ble_eq_true rfl) (by decide) ?_
  refine Vw.if_eq aL_pages_262 (tgt := 288) (by decide) (fun c => absurd c (by decide)) (fun _ => ?_)
  refine Vw.ald0 aL_pages_265 ?_
  refine Vw.iconst aL_pages_266 (by decide) ?_
  refine Vw.bipush aL_pages_267 (by decide) (by decide) ?_
  refine cd_page kd aL_pages_269 gl_RL_26 (v := 12) (by decide) (by decide +kernel) (Nat.le_of_ble_eq_true rfl) (by decide) ?_
  refine Vw.bipush aL_pages_272 (by decide) (by decide) ?_
  refine Vw.icmp_ne aL_pages_274 (tgt := 288) (by decide) (fun c => absurd c (by decide)) (fun _ => ?_)
  refine Vw.ald0 aL_pages_277 ?_
  refine Vw.iconst aL_pages_278 (by decide) ?_
  refine Vw.iconst aL_pages_279 (by decide) ?_
  refine cd_page kd aL_pages_280 gl_RL_26 (v := 17) (by decide) (by decide +kernel) (Nat.le_of_ble_eq_true rfl) (by decide) ?_
  refine Vw.bipush aL_pages_283 (by decide) (by decide) ?_
  refine Vw.icmp_eq aL_pages_285 (tgt := 290) (by decide) (fun _ => ?_) (fun c => absurd c (by decide))
  refine Vw.ald0 aL_pages_290 ?_
  refine Vw.iconst aL_pages_291 (by decide) ?_
  refine Vw.iconst aL_pages_292 (by decide) ?_
  refine cd_turn kd aL_pages_293 gl_RL_41 (v := 3) (LN := LP5) (sv2 := 4) (by decide) (by decide) (by decide) (by decide) (by decide +kernel) (by decide +kernel) (by decide +kernel) (Nat.le_of_ble_eq_true rfl) (by decide) (fun z m' kd => ?_)
  refine Vw.iconst aL_pages_296 (by decide) ?_
  refine Vw.icmp_ne aL_pages_297 (tgt := 464) (by decide) (fun c => absurd c (by decide)) (fun _ => ?_)
  refine Vw.ald0 aL_pages_300 ?_
  refine Vw.iconst aL_pages_301 (by decide) ?_
  refine Vw.ldc2 aL_pages_302 gq_RL_99 ?_
  refine cd_isPage kd aL_pages_305 gl_RL_95 (by decide) (by decide +kernel) (Nat.le_of_ble_eq_true rfl) (by decide) ?_
  refine Vw.if_eq aL_pages_308 (tgt := 464) (by decide) (fun c => absurd c (by decide)) (fun _ => ?_)
  refine Vw.ald0 aL_pages_311 ?_
  refine Vw.iconst aL_pages_312 (by decide) ?_
  refine Vw.iconst aL_pages_313 (by decide) ?_
  refine cd_page kd aL_pages_314 gl_RL_26 (v := 32) (by decide) (by decide +kernel) (Nat.le_of_ble_eq_true rfl) (by decide) ?_
  refine Vw.bipush aL_pages_317 (by decide) (by decide) ?_
  refine Vw.icmp_ne aL_pages_319 (tgt := 464) (by decide) (fun c => absurd c (by decide)) (fun _ => ?_)
  refine Vw.ald0 aL_pages_322 ?_
  refine cd_best kd aL_pages_323 gl_RL_90 (v := 0) (by decide +kernel) (Nat.le_of_ble_eq_true rfl) (by decide) ?_
  refine Vw.if_ne aL_pages_326 (tgt := 464) (by decide) (fun c => absurd c (by decide)) (fun _ => ?_)
  refine Vw.ald0 aL_pages_329 ?_
  refine Vw.iconst aL_pages_330 (by decide) ?_
  refine cd_renew kd aL_pages_331 gl_RL_44 (v := 4) (LN := LP6) (sv2 := 4) (by decide) (by decide) (by decide) (by decide +kernel) (by decide +kernel) (by decide +kernel) (Nat.le_of_ble_eq_true rfl) (by decide) (fun z m' kd => ?_)
  refine Vw.iconst aL_pages_334 (by decide) ?_
  refine Vw.icmp_ne aL_pages_335 (tgt := 464) (by decide) (fun c => absurd c (by decide)) (fun _ => ?_)
  refine Vw.ald0 aL_pages_338 ?_
  refine Vw.iconst aL_pages_339 (by decide) ?_
  refine Vw.iconst aL_pages_340 (by decide) ?_
  refine cd_page kd aL_pages_341 gl_RL_26 (v := 12) (by decide) (by decide +kernel) (Nat.le_of_ble_eq_true rfl) (by decide) ?_
  refine Vw.bipush aL_pages_344 (by decide) (by decide) ?_
  refine Vw.icmp_ne aL_pages_346 (tgt := 464) (by decide) (fun c => absurd c (by decide)) (fun _ => ?_)
  refine Vw.ald0 aL_pages_349 ?_
  refine Vw.iconst aL_pages_350 (by decide) ?_
  refine Vw.iconst aL_pages_351 (by decide) ?_
  refine cd_page kd aL_pages_352 gl_RL_26 (v := 1) (by decide) (by decide +kernel) (Nat.le_of_ble_eq_true rfl) (by decide) ?_
  refine Vw.iconst aL_pages_355 (by decide) ?_
  refine Vw.icmp_ne aL_pages_356 (tgt := 464) (by decide) (fun c => absurd c (by decide)) (fun _ => ?_)
  refine Vw.ald0 aL_pages_359 ?_
  refine Vw.iconst aL_pages_360 (by decide) ?_
  refine Vw.iconst aL_pages_361 (by decide) ?_
  refine cd_page kd aL_pages_362 gl_RL_26 (v := 4) (by decide) (by decide +kernel) (Nat.le_of_ble_eq_true rfl) (by decide) ?_
  refine Vw.iconst aL_pages_365 (by decide) ?_
  refine Vw.icmp_ne aL_pages_366 (tgt := 464) (by decide) (fun c => absurd c (by decide)) (fun _ => ?_)
  refine Vw.ald0 aL_pages_369 ?_
  refine Vw.iconst aL_pages_370 (by decide) ?_
  refine cd_count kd aL_pages_371 gl_RL_13 (v := 1) (by decide +kernel) (Nat.le_of_ble_eq_true rfl) (by decide) ?_
  refine Vw.iconst aL_pages_374 (by decide) ?_
  refine Vw.icmp_ne aL_pages_375 (tgt := 464) (by decide) (fun c => absurd c (by decide)) (fun _ => ?_)
  exact K _ _ kd
theorem lp_s3 {sz : Nat} {m : Mem} (kd : KD G m sz X 5 LP6 4 0 (fun _ => 0) 0) (K : ∀ (z : Nat) (m' : Mem), KD G m' z X 6 LP9 4 0 (fun _ => 0) 0 → Vw G kL_pages (rmM 9 600 6000) Qf 502 [some (wr (some X))] [] z m' 178 2355) : Vw G kL_pages (rmM 9 600 6000) Qf 378 [some (wr (some X))] [] sz m 172 2291 := by
  refine Vw.ald0 aL_pages_378 ?_
  refine Vw.bipush aL_pages_379 (by decide) (by decide) ?_
  refine cd_count kd aL_pages_381 gl_RL_13 (v := 2) (by decide +kernel) (Nat.le_of_ble_eq_true rfl) (by decide) ?_
  refine Vw.iconst aL_pages_384 (by decide) ?_
  refine Vw.icmp_ne aL_pages_385 (tgt := 464) (by decide) (fun c => absurd c (by decide)) (fun _ => ?_)
  refine Vw.ald0 aL_pages_388 ?_
  refine Vw.bipush aL_pages_389 (by decide) (by decide) ?_
  refine cd_count kd aL_pages_391 gl_RL_13 (v := 3) (by decide +kernel) (Nat.le_of_ble_eq_true rfl) (by decide) ?_
  refine Vw.iconst aL_pages_394 (by decide) ?_
  refine Vw.icmp_ne aL_pages_395 (tgt := 464) (by decide) (fun c => absurd c (by decide)) (fun _ => ?_)
  refine Vw.ald0 aL_pages_398 ?_
  refine cd_flush kd aL_pages_399 gl_RL_84 (v := 5) (LN := LP7) (sv2 := 4) (by decide) (by decide +kernel) (by decide +kernel) (by decide +kernel) (Nat.le_of_ble_eq_true rfl) (by decide) (fun z m' kd => ?_)
  refine Vw.iconst aL_pages_402 (by decide) ?_
  refine Vw.icmp_ne aL_pages_403 (tgt := 464) (by decide) (fun c => absurd c (by decide)) (fun _ => ?_)
  refine Vw.ald0 aL_pages_406 ?_
  refine cd_flushN kd aL_pages_407 gl_RL_84 (v := (-5)) (by decide +kernel) rfl (Nat.le_of_ble_eq_true rfl) (by decide) (fun z m' kd => ?_)
  refine Vw.bipush aL_pages_410 (by decide) (by decide) ?_
  refine Vw.icmp_ne aL_pages_412 (tgt := 464) (by decide) (fun c => absurd c (by decide)) (fun _ => ?_)
  refine Vw.ald0 aL_pages_415 ?_
  refine cd_trim kd aL_pages_416 gl_RL_87 (v := 4) (LN := LP8) (sv2 := 4) (by decide) (by decide +kernel) (by decide +kernel) (by decide +kernel) (Nat.le_of_ble_eq_true rfl) (by decide) (fun z m' kd => ?_)
  refine Vw.iconst aL_pages_419 (by decide) ?_
  refine Vw.icmp_ne aL_pages_420 (tgt := 464) (by decide) (fun c => absurd c (by decide)) (fun _ => ?_)
  refine Vw.ald0 aL_pages_423 ?_
  refine Vw.iconst aL_pages_424 (by decide) ?_
  refine Vw.iconst aL_pages_425 (by decide) ?_
  refine cd_entryN kd aL_pages_426 gl_RL_29 (v := (-1)) (by decide +kernel) (by decide +kernel) (Nat.le_of_ble_eq_true rfl) (by decide) ?_
  refine Vw.iconst aL_pages_429 (by decide) ?_
  refine Vw.icmp_ne aL_pages_430 (tgt := 464) (by decide) (fun c => absurd c (by decide)) (fun _ => ?_)
  refine Vw.ald0 aL_pages_433 ?_
  refine Vw.iconst aL_pages_434 (by decide) ?_
  refine cd_count kd aL_pages_435 gl_RL_13 (v := 1) (by decide +kernel) (Nat.le_of_ble_eq_true rfl) (by decide) ?_
  refine Vw.iconst aL_pages_438 (by decide) ?_
  refine Vw.icmp_ne aL_pages_439 (tgt := 464) (by decide) (fun c => absurd c (by decide)) (fun _ => ?_)
  refine Vw.ald0 aL_pages_442 ?_
  refine Vw.iconst aL_pages_443 (by decide) ?_
  refine cd_count kd aL_pages_444 gl_RL_13 (v := 12) (by decide +kernel) (Nat.le_of_ble_eq_true rfl) (by decide) ?_
  refine Vw.bipush aL_pages_447 (by decide) (by decide) ?_
  refine Vw.icmp_ne aL_pages_449 (tgt := 464) (by decide) (fun c => absurd c (by decide)) (fun _ => ?_)
  refine Vw.ald0 aL_pages_452 ?_
  refine Vw.iconst aL_pages_453 (by decide) ?_
  refine Vw.iconst aL_pages_454 (by decide) ?_
  refine Vw.iconst aL_pages_455 (by decide) ?_
  refine cd_asOf kd aL_pages_456 gl_RL_59 (v := 7) (by decide +kernel) (by decide +kernel) (Nat.le_of_ble_eq_true rfl) (by decide) (fun z m' kd => ?_)
  refine Vw.bipush aL_pages_459 (by decide) (by decide) ?_
  refine Vw.icmp_eq aL_pages_461 (tgt := 466) (by decide) (fun _ => ?_) (fun c => absurd c (by decide))
  refine Vw.ald0 aL_pages_466 ?_
  refine Vw.iconst aL_pages_467 (by decide) ?_
  refine Vw.iconst aL_pages_468 (by decide) ?_
  refine Vw.iconst aL_pages_469 (by decide) ?_
  refine Vw.bipush aL_pages_470 (by decide) (by decide) ?_
  refine cd_fill kd aL_pages_472 gl_RL_32 (v := 1) (LN := LP9) (sv2 := 4) (by decide) (by decide) (by decide) (by decide) (by decide +kernel) (by decide +kernel) (by decide +kernel) (Nat.le_of_ble_eq_true rfl) (by decide) (fun z m' kd => ?_)
  refine Vw.iconst aL_pages_475 (by decide) ?_
  refine Vw.icmp_ne aL_pages_476 (tgt := 618) (by decide) (fun c => absurd c (by decide)) (fun _ => ?_)
  refine Vw.ald0 aL_pages_479 ?_
  refine Vw.iconst aL_pages_480 (by decide) ?_
  refine Vw.iconst aL_pages_481 (by decide) ?_
  refine Vw.iconst aL_pages_482 (by decide) ?_
  refine cd_asOf kd aL_pages_483 gl_RL_59 (v := 3) (by decide +kernel) (by decide +kernel) (Nat.le_of_ble_eq_true rfl) (by decide) (fun z m' kd => ?_)
  refine Vw.iconst aL_pages_486 (by decide) ?_
  refine Vw.icmp_ne aL_pages_487 (tgt := 618) (by decide) (fun c => absurd c (by decide)) (fun _ => ?_)
  refine Vw.ald0 aL_pages_490 ?_
  refine Vw.iconst aL_pages_491 (by decide) ?_
  refine Vw.iconst aL_pages_492 (by decide) ?_
  refine Vw.iconst aL_pages_493 (by decide) ?_
  refine cd_asOf kd aL_pages_494 gl_RL_59 (v := 9) (by decide +kernel) (by decide +kernel) (Nat.le_of_ble_eq_true rfl) (by decide) (fun z m' kd => ?_)
  refine Vw.bipush aL_pages_497 (by decide) (by decide) ?_
  refine Vw.icmp_ne aL_pages_499 (tgt := 618) (by decide) (fun c => absurd c (by decide)) (fun _ => ?_)
  exact K _ _ kd
theorem lp_s4 {sz : Nat} {m : Mem} (kd : KD G m sz X 6 LP9 4 0 (fun _ => 0) 0) (K : ∀ (z : Nat) (m' : Mem), KD G m' z X 9 LP16 4 0 (fun _ => 0) 0 → Vw G kL_pages (rmM 9 600 6000) Qf 738 [some (wr (some X))] [] z m' 187 2443) : Vw G kL_pages (rmM 9 600 6000) Qf 502 [some (wr (some X))] [] sz m 178 2355 := by
  refine Vw.ald0 aL_pages_502 ?_
  refine cd_crash kd aL_pages_503 gl_RL_101 (v := 1) (LN := LP10) (sv2 := 4) (by decide) (by decide) (by decide +kernel) (by decide +kernel) (Nat.le_of_ble_eq_true rfl) (by decide) (fun z m' kd => ?_)
  refine Vw.iconst aL_pages_506 (by decide) ?_
  refine Vw.icmp_ne aL_pages_507 (tgt := 618) (by decide) (fun c => absurd c (by decide)) (fun _ => ?_)
  refine Vw.ald0 aL_pages_510 ?_
  refine Vw.iconst aL_pages_511 (by decide) ?_
  refine cd_count kd aL_pages_512 gl_RL_13 (v := 5) (by decide +kernel) (Nat.le_of_ble_eq_true rfl) (by decide) ?_
  refine Vw.iconst aL_pages_515 (by decide) ?_
  refine Vw.icmp_ne aL_pages_516 (tgt := 618) (by decide) (fun c => absurd c (by decide)) (fun _ => ?_)
  refine Vw.ald0 aL_pages_519 ?_
  refine Vw.iconst aL_pages_520 (by decide) ?_
  refine Vw.iconst aL_pages_521 (by decide) ?_
  refine cd_cell kd aL_pages_522 gl_RL_19 (v := 3) (by decide) (by decide +kernel) (Nat.le_of_ble_eq_true rfl) (by decide) ?_
  refine Vw.iconst aL_pages_525 (by decide) ?_
  refine Vw.icmp_ne aL_pages_526 (tgt := 618) (by decide) (fun c => absurd c (by decide)) (fun _ => ?_)
  refine Vw.ald0 aL_pages_529 ?_
  refine Vw.bipush aL_pages_530 (by decide) (by decide) ?_
  refine cd_count kd aL_pages_532 gl_RL_13 (v := 1) (by decide +kernel) (Nat.le_of_ble_eq_true rfl) (by decide) ?_
  refine Vw.iconst aL_pages_535 (by decide) ?_
  refine Vw.icmp_ne aL_pages_536 (tgt := 618) (by decide) (fun c => absurd c (by decide)) (fun _ => ?_)
  refine Vw.ald0 aL_pages_539 ?_
  refine Vw.iconst aL_pages_540 (by decide) ?_
  refine Vw.iconst aL_pages_541 (by decide) ?_
  refine cd_turn kd aL_pages_542 gl_RL_41 (v := 3) (LN := LP11) (sv2 := 4) (by decide) (by decide) (by decide) (by decide) (by decide +kernel) (by decide +kernel) (by decide +kernel) (Nat.le_of_ble_eq_true rfl) (by decide) (fun z m' kd => ?_)
  refine Vw.iconst aL_pages_545 (by decide) ?_
  refine Vw.icmp_ne aL_pages_546 (tgt := 618) (by decide) (fun c => absurd c (by decide)) (fun _ => ?_)
  refine Vw.ald0 aL_pages_549 ?_
  refine Vw.iconst aL_pages_550 (by decide) ?_
  refine cd_count kd aL_pages_551 gl_RL_13 (v := 6) (by decide +kernel) (Nat.le_of_ble_eq_true rfl) (by decide) ?_
  refine Vw.bipush aL_pages_554 (by decide) (by decide) ?_
  refine Vw.icmp_ne aL_pages_556 (tgt := 618) (by decide) (fun c => absurd c (by decide)) (fun _ => ?_)
  refine Vw.ald0 aL_pages_559 ?_
  refine Vw.iconst aL_pages_560 (by decide) ?_
  refine cd_storeN kd aL_pages_561 gl_RL_53 (v := (-4)) 5 (by decide) (by decide +kernel) rfl (Nat.le_of_ble_eq_true rfl) (by decide) (fun z m' kd => ?_)
  refine Vw.bipush aL_pages_564 (by decide) (by decide) ?_
  refine Vw.icmp_ne aL_pages_566 (tgt := 618) (by decide) (fun c => absurd c (by decide)) (fun _ => ?_)
  refine Vw.ald0 aL_pages_569 ?_
  refine Vw.iconst aL_pages_570 (by decide) ?_
  refine cd_store kd aL_pages_571 gl_RL_53 (v := 1) (LN := LP12) (sv2 := 4) (by decide) (by decide) (by decide +kernel) (by decide +kernel) (by decide +kernel) (Nat.le_of_ble_eq_true rfl) (by decide) (fun z m' kd => ?_)
  refine Vw.iconst aL_pages_574 (by decide) ?_
  refine Vw.icmp_ne aL_pages_575 (tgt := 618) (by decide) (fun c => absurd c (by decide)) (fun _ => ?_)
  refine Vw.ald0 aL_pages_578 ?_
  refine Vw.iconst aL_pages_579 (by decide) ?_
  refine Vw.iconst aL_pages_580 (by decide) ?_
  refine cd_page kd aL_pages_581 gl_RL_26 (v := 5) (by decide) (by decide +kernel) (Nat.le_of_ble_eq_true rfl) (by decide) ?_
  refine Vw.iconst aL_pages_584 (by decide) ?_
  refine Vw.icmp_ne aL_pages_585 (tgt := 618) (by decide) (fun c => absurd c (by decide)) (fun _ => ?_)
  refine Vw.ald0 aL_pages_588 ?_
  refine Vw.iconst aL_pages_589 (by decide) ?_
  refine Vw.iconst aL_pages_590 (by decide) ?_
  refine cd_page kd aL_pages_591 gl_RL_26 (v := 5) (by decide) (by decide +kernel) (Nat.le_of_ble_eq_true rfl) (by decide) ?_
  refine Vw.iconst aL_pages_594 (by decide) ?_
  refine Vw.icmp_ne aL_pages_595 (tgt := 618) (by decide) (fun c => absurd c (by decide)) (fun _ => ?_)
  refine Vw.ald0 aL_pages_598 ?_
  refine Vw.iconst aL_pages_599 (by decide) ?_
  refine Vw.iconst aL_pages_600 (by decide) ?_
  refine cd_stored kd aL_pages_601 gl_RL_23 (v := 7) (by decide) (by decide +kernel) (Nat.le_of_ble_eq_true rfl) (by decide) ?_
  refine Vw.bipush aL_pages_604 (by decide) (by decide) ?_
  refine Vw.icmp_ne aL_pages_606 (tgt := 618) (by decide) (fun c => absurd c (by decide)) (fun _ => ?_)
  refine Vw.ald0 aL_pages_609 ?_
  refine Vw.iconst aL_pages_610 (by decide) ?_
  refine Vw.iconst aL_pages_611 (by decide) ?_
  refine cd_stored kd aL_pages_612 gl_RL_23 (v := 0) (by decide) (by decide +kernel) (Nat.le_of_ble_eq_true rfl) (by decide) ?_
  refine Vw.if_eq aL_pages_615 (tgt := 620) (by decide) (fun _ => ?_) (fun c => absurd c (by decide))
  refine Vw.ald0 aL_pages_620 ?_
  refine Vw.iconst aL_pages_621 (by decide) ?_
  refine cd_damage kd aL_pages_622 gl_RL_56 (v := 1) (LN := LP13) (sv2 := 4) (by decide) (by decide +kernel) (by decide +kernel) (by decide +kernel) (by decide +kernel) (Nat.le_of_ble_eq_true rfl) (by decide) (fun z m' kd => ?_)
  refine Vw.iconst aL_pages_625 (by decide) ?_
  refine Vw.icmp_ne aL_pages_626 (tgt := 783) (by decide) (fun c => absurd c (by decide)) (fun _ => ?_)
  refine Vw.ald0 aL_pages_629 ?_
  refine Vw.iconst aL_pages_630 (by decide) ?_
  refine cd_damageN kd aL_pages_631 gl_RL_56 (v := (-5)) (by decide +kernel) (by decide +kernel) rfl (Nat.le_of_ble_eq_true rfl) (by decide) (fun z m' kd => ?_)
  refine Vw.bipush aL_pages_634 (by decide) (by decide) ?_
  refine Vw.icmp_ne aL_pages_636 (tgt := 783) (by decide) (fun c => absurd c (by decide)) (fun _ => ?_)
  refine Vw.ald0 aL_pages_639 ?_
  refine Vw.iconst aL_pages_640 (by decide) ?_
  refine cd_damage kd aL_pages_641 gl_RL_56 (v := 1) (LN := LP14) (sv2 := 4) (by decide) (by decide +kernel) (by decide +kernel) (by decide +kernel) (by decide +kernel) (Nat.le_of_ble_eq_true rfl) (by decide) (fun z m' kd => ?_)
  refine Vw.iconst aL_pages_644 (by decide) ?_
  refine Vw.icmp_ne aL_pages_645 (tgt := 783) (by decide) (fun c => absurd c (by decide)) (fun _ => ?_)
  refine Vw.ald0 aL_pages_648 ?_
  refine cd_flush kd aL_pages_649 gl_RL_84 (v := 1) (LN := LP15) (sv2 := 4) (by decide) (by decide +kernel) (by decide +kernel) (by decide +kernel) (Nat.le_of_ble_eq_true rfl) (by decide) (fun z m' kd => ?_)
  refine Vw.iconst aL_pages_652 (by decide) ?_
  refine Vw.icmp_ne aL_pages_653 (tgt := 783) (by decide) (fun c => absurd c (by decide)) (fun _ => ?_)
  refine Vw.ald0 aL_pages_656 ?_
  refine cd_crash kd aL_pages_657 gl_RL_101 (v := 0) (LN := LP16) (sv2 := 4) (by decide) (by decide) (by decide +kernel) (by decide +kernel) (Nat.le_of_ble_eq_true rfl) (by decide) (fun z m' kd => ?_)
  refine Vw.if_ne aL_pages_660 (tgt := 783) (by decide) (fun c => absurd c (by decide)) (fun _ => ?_)
  refine Vw.ald0 aL_pages_663 ?_
  refine Vw.iconst aL_pages_664 (by decide) ?_
  refine Vw.iconst aL_pages_665 (by decide) ?_
  refine cd_page kd aL_pages_666 gl_RL_26 (v := 1) (by decide) (by decide +kernel) (Nat.le_of_ble_eq_true rfl) (by decide) ?_
  refine Vw.iconst aL_pages_669 (by decide) ?_
  refine Vw.icmp_ne aL_pages_670 (tgt := 783) (by decide) (fun c => absurd c (by decide)) (fun _ => ?_)
  refine Vw.ald0 aL_pages_673 ?_
  refine Vw.iconst aL_pages_674 (by decide) ?_
  refine Vw.iconst aL_pages_675 (by decide) ?_
  refine cd_page kd aL_pages_676 gl_RL_26 (v := 1) (by decide) (by decide +kernel) (Nat.le_of_ble_eq_true rfl) (by decide) ?_
  refine Vw.iconst aL_pages_679 (by decide) ?_
  refine Vw.icmp_ne aL_pages_680 (tgt := 783) (by decide) (fun c => absurd c (by decide)) (fun _ => ?_)
  refine Vw.ald0 aL_pages_683 ?_
  refine Vw.bipush aL_pages_684 (by decide) (by decide) ?_
  refine cd_count kd aL_pages_686 gl_RL_13 (v := 1) (by decide +kernel) (Nat.le_of_ble_eq_true rfl) (by decide) ?_
  refine Vw.iconst aL_pages_689 (by decide) ?_
  refine Vw.icmp_ne aL_pages_690 (tgt := 783) (by decide) (fun c => absurd c (by decide)) (fun _ => ?_)
  refine Vw.ald0 aL_pages_693 ?_
  refine Vw.iconst aL_pages_694 (by decide) ?_
  refine Vw.iconst aL_pages_695 (by decide) ?_
  refine cd_page kd aL_pages_696 gl_RL_26 (v := 0) (by decide) (by decide +kernel) (Nat.le_of_ble_eq_true rfl) (by decide) ?_
  refine Vw.if_ne aL_pages_699 (tgt := 783) (by decide) (fun c => absurd c (by decide)) (fun _ => ?_)
  refine Vw.ald0 aL_pages_702 ?_
  refine Vw.iconst aL_pages_703 (by decide) ?_
  refine Vw.iconst aL_pages_704 (by decide) ?_
  refine Vw.iconst aL_pages_705 (by decide) ?_
  refine cd_asOf kd aL_pages_706 gl_RL_59 (v := (-4)) (by decide +kernel) (by decide +kernel) (Nat.le_of_ble_eq_true rfl) (by decide) (fun z m' kd => ?_)
  refine Vw.bipush aL_pages_709 (by decide) (by decide) ?_
  refine Vw.icmp_ne aL_pages_711 (tgt := 783) (by decide) (fun c => absurd c (by decide)) (fun _ => ?_)
  refine Vw.ald0 aL_pages_714 ?_
  refine Vw.iconst aL_pages_715 (by decide) ?_
  refine Vw.iconst aL_pages_716 (by decide) ?_
  refine Vw.iconst aL_pages_717 (by decide) ?_
  refine cd_asOf kd aL_pages_718 gl_RL_59 (v := (-4)) (by decide +kernel) (by decide +kernel) (Nat.le_of_ble_eq_true rfl) (by decide) (fun z m' kd => ?_)
  refine Vw.bipush aL_pages_721 (by decide) (by decide) ?_
  refine Vw.icmp_ne aL_pages_723 (tgt := 783) (by decide) (fun c => absurd c (by decide)) (fun _ => ?_)
  refine Vw.ald0 aL_pages_726 ?_
  refine Vw.iconst aL_pages_727 (by decide) ?_
  refine Vw.iconst aL_pages_728 (by decide) ?_
  refine Vw.iconst aL_pages_729 (by decide) ?_
  refine cd_asOf kd aL_pages_730 gl_RL_59 (v := (-4)) (by decide +kernel) (by decide +kernel) (Nat.le_of_ble_eq_true rfl) (by decide) (fun z m' kd => ?_)
  refine Vw.bipush aL_pages_733 (by decide) (by decide) ?_
  refine Vw.icmp_ne aL_pages_735 (tgt := 783) (by decide) (fun c => absurd c (by decide)) (fun _ => ?_)
  exact K _ _ kd
theorem lp_s5 {sz : Nat} {m : Mem} (kd : KD G m sz X 9 LP16 4 0 (fun _ => 0) 0) (K : ∀ (z : Nat) (m' : Mem), KD G m' z X 14 LP22 4 0 (fun _ => 0) 0 → Vw G kL_pages (rmM 9 600 6000) Qf 858 [some (wr (some X))] [] z m' 323 3595) : Vw G kL_pages (rmM 9 600 6000) Qf 738 [some (wr (some X))] [] sz m 187 2443 := by
  refine Vw.ald0 aL_pages_738 ?_
  refine Vw.iconst aL_pages_739 (by decide) ?_
  refine Vw.iconst aL_pages_740 (by decide) ?_
  refine Vw.iconst aL_pages_741 (by decide) ?_
  refine cd_asOf kd aL_pages_742 gl_RL_59 (v := 0) (by decide +kernel) (by decide +kernel) (Nat.le_of_ble_eq_true rfl) (by decide) (fun z m' kd => ?_)
  refine Vw.if_ne aL_pages_745 (tgt := 783) (by decide) (fun c => absurd c (by decide)) (fun _ => ?_)
  refine Vw.ald0 aL_pages_748 ?_
  refine cd_refused kd aL_pages_749 gl_RL_104 (Nat.le_of_ble_eq_true rfl) (by decide) (fun z m' kd => ?_)
  refine Vw.if_eq aL_pages_752 (tgt := 783) (by decide) (fun c => absurd c (by decide)) (fun _ => ?_)
  refine Vw.ald0 aL_pages_755 ?_
  refine Vw.iconst aL_pages_756 (by decide) ?_
  refine cd_renew kd aL_pages_757 gl_RL_44 (v := 6) (LN := LP17) (sv2 := 4) (by decide) (by decide) (by decide) (by decide +kernel) (by decide +kernel) (by decide +kernel) (Nat.le_of_ble_eq_true rfl) (by decide) (fun z m' kd => ?_)
  refine Vw.bipush aL_pages_760 (by decide) (by decide) ?_
  refine Vw.icmp_ne aL_pages_762 (tgt := 783) (by decide) (fun c => absurd c (by decide)) (fun _ => ?_)
  refine Vw.ald0 aL_pages_765 ?_
  refine Vw.iconst aL_pages_766 (by decide) ?_
  refine Vw.iconst aL_pages_767 (by decide) ?_
  refine cd_page kd aL_pages_768 gl_RL_26 (v := 0) (by decide) (by decide +kernel) (Nat.le_of_ble_eq_true rfl) (by decide) ?_
  refine Vw.if_ne aL_pages_771 (tgt := 783) (by decide) (fun c => absurd c (by decide)) (fun _ => ?_)
  refine Vw.ald0 aL_pages_774 ?_
  refine Vw.iconst aL_pages_775 (by decide) ?_
  refine Vw.iconst aL_pages_776 (by decide) ?_
  refine cd_page kd aL_pages_777 gl_RL_26 (v := 0) (by decide) (by decide +kernel) (Nat.le_of_ble_eq_true rfl) (by decide) ?_
  refine Vw.if_eq aL_pages_780 (tgt := 785) (by decide) (fun _ => ?_) (fun c => absurd c (by decide))
  refine Vw.ald0 aL_pages_785 ?_
  refine Vw.bipush aL_pages_786 (by decide) (by decide) ?_
  refine cd_setRoom kd aL_pages_788 gl_RL_50 (v := 100) (LN := LP18) (sv2 := 4) (by decide) (by decide) (by decide +kernel) (by decide +kernel) (by decide +kernel) (by decide +kernel) (Nat.le_of_ble_eq_true rfl) (by decide) (fun z m' kd => ?_)
  refine Vw.bipush aL_pages_791 (by decide) (by decide) ?_
  refine Vw.icmp_ne aL_pages_793 (tgt := 990) (by decide) (fun c => absurd c (by decide)) (fun _ => ?_)
  refine Vw.ald0 aL_pages_796 ?_
  refine Vw.iconst aL_pages_797 (by decide) ?_
  refine cd_count kd aL_pages_798 gl_RL_13 (v := 19) (by decide +kernel) (Nat.le_of_ble_eq_true rfl) (by decide) ?_
  refine Vw.bipush aL_pages_801 (by decide) (by decide) ?_
  refine Vw.icmp_ne aL_pages_803 (tgt := 990) (by decide) (fun c => absurd c (by decide)) (fun _ => ?_)
  refine Vw.ald0 aL_pages_806 ?_
  refine Vw.iconst aL_pages_807 (by decide) ?_
  refine Vw.iconst aL_pages_808 (by decide) ?_
  refine cd_turn kd aL_pages_809 gl_RL_41 (v := 3) (LN := LP19) (sv2 := 4) (by decide) (by decide) (by decide) (by decide) (by decide +kernel) (by decide +kernel) (by decide +kernel) (Nat.le_of_ble_eq_true rfl) (by decide) (fun z m' kd => ?_)
  refine Vw.iconst aL_pages_812 (by decide) ?_
  refine Vw.icmp_ne aL_pages_813 (tgt := 990) (by decide) (fun c => absurd c (by decide)) (fun _ => ?_)
  refine Vw.ald0 aL_pages_816 ?_
  refine Vw.iconst aL_pages_817 (by decide) ?_
  refine Vw.iconst aL_pages_818 (by decide) ?_
  refine cd_turn kd aL_pages_819 gl_RL_41 (v := 3) (LN := LP20) (sv2 := 4) (by decide) (by decide) (by decide) (by decide) (by decide +kernel) (by decide +kernel) (by decide +kernel) (Nat.le_of_ble_eq_true rfl) (by decide) (fun z m' kd => ?_)
  refine Vw.iconst aL_pages_822 (by decide) ?_
  refine Vw.icmp_ne aL_pages_823 (tgt := 990) (by decide) (fun c => absurd c (by decide)) (fun _ => ?_)
  refine Vw.ald0 aL_pages_826 ?_
  refine Vw.iconst aL_pages_827 (by decide) ?_
  refine Vw.iconst aL_pages_828 (by decide) ?_
  refine cd_turn kd aL_pages_829 gl_RL_41 (v := 3) (LN := LP21) (sv2 := 4) (by decide) (by decide) (by decide) (by decide) (by decide +kernel) (by decide +kernel) (by decide +kernel) (Nat.le_of_ble_eq_true rfl) (by decide) (fun z m' kd => ?_)
  refine Vw.iconst aL_pages_832 (by decide) ?_
  refine Vw.icmp_ne aL_pages_833 (tgt := 990) (by decide) (fun c => absurd c (by decide)) (fun _ => ?_)
  refine Vw.ald0 aL_pages_836 ?_
  refine Vw.iconst aL_pages_837 (by decide) ?_
  refine cd_count kd aL_pages_838 gl_RL_13 (v := 6) (by decide +kernel) (Nat.le_of_ble_eq_true rfl) (by decide) ?_
  refine Vw.bipush aL_pages_841 (by decide) (by decide) ?_
  refine Vw.icmp_ne aL_pages_843 (tgt := 990) (by decide) (fun c => absurd c (by decide)) (fun _ => ?_)
  refine Vw.ald0 aL_pages_846 ?_
  refine Vw.iconst aL_pages_847 (by decide) ?_
  refine Vw.iconst aL_pages_848 (by decide) ?_
  refine Vw.iconst aL_pages_849 (by decide) ?_
  refine Vw.iconst aL_pages_850 (by decide) ?_
  refine cd_fill kd aL_pages_851 gl_RL_32 (v := 1) (LN := LP22) (sv2 := 4) (by decide) (by decide) (by decide) (by decide) (by decide +kernel) (by decide +kernel) (by decide +kernel) (Nat.le_of_ble_eq_true rfl) (by decide) (fun z m' kd => ?_)
  refine Vw.iconst aL_pages_854 (by decide) ?_
  refine Vw.icmp_ne aL_pages_855 (tgt := 990) (by decide) (fun c => absurd c (by decide)) (fun _ => ?_)
  exact K _ _ kd
theorem lp_s6 {sz : Nat} {m : Mem} (kd : KD G m sz X 14 LP22 4 0 (fun _ => 0) 0) (K : ∀ (z : Nat) (m' : Mem), KD G m' z X 17 LP25 4 0 (fun _ => 0) 0 → Vw G kL_pages (rmM 9 600 6000) Qf 983 [some (wr (some X))] [] z m' 338 3735) : Vw G kL_pages (rmM 9 600 6000) Qf 858 [some (wr (some X))] [] sz m 323 3595 := by
  refine Vw.ald0 aL_pages_858 ?_
  refine Vw.iconst aL_pages_859 (by decide) ?_
  refine cd_count kd aL_pages_860 gl_RL_13 (v := 6) (by decide +kernel) (Nat.le_of_ble_eq_true rfl) (by decide) ?_
  refine Vw.bipush aL_pages_863 (by decide) (by decide) ?_
  refine Vw.icmp_ne aL_pages_865 (tgt := 990) (by decide) (fun c => absurd c (by decide)) (fun _ => ?_)
  refine Vw.ald0 aL_pages_868 ?_
  refine Vw.iconst aL_pages_869 (by decide) ?_
  refine Vw.iconst aL_pages_870 (by decide) ?_
  refine cd_entryN kd aL_pages_871 gl_RL_29 (v := (-1)) (by decide +kernel) (by decide +kernel) (Nat.le_of_ble_eq_true rfl) (by decide) ?_
  refine Vw.iconst aL_pages_874 (by decide) ?_
  refine Vw.icmp_ne aL_pages_875 (tgt := 990) (by decide) (fun c => absurd c (by decide)) (fun _ => ?_)
  refine Vw.ald0 aL_pages_878 ?_
  refine Vw.iconst aL_pages_879 (by decide) ?_
  refine cd_count kd aL_pages_880 gl_RL_13 (v := 20) (by decide +kernel) (Nat.le_of_ble_eq_true rfl) (by decide) ?_
  refine Vw.bipush aL_pages_883 (by decide) (by decide) ?_
  refine Vw.icmp_ne aL_pages_885 (tgt := 990) (by decide) (fun c => absurd c (by decide)) (fun _ => ?_)
  refine Vw.ald0 aL_pages_888 ?_
  refine Vw.iconst aL_pages_889 (by decide) ?_
  refine Vw.iconst aL_pages_890 (by decide) ?_
  refine cd_turn kd aL_pages_891 gl_RL_41 (v := 3) (LN := LP23) (sv2 := 4) (by decide) (by decide) (by decide) (by decide) (by decide +kernel) (by decide +kernel) (by decide +kernel) (Nat.le_of_ble_eq_true rfl) (by decide) (fun z m' kd => ?_)
  refine Vw.iconst aL_pages_894 (by decide) ?_
  refine Vw.icmp_ne aL_pages_895 (tgt := 990) (by decide) (fun c => absurd c (by decide)) (fun _ => ?_)
  refine Vw.ald0 aL_pages_898 ?_
  refine Vw.iconst aL_pages_899 (by decide) ?_
  refine Vw.iconst aL_pages_900 (by decide) ?_
  refine cd_turn kd aL_pages_901 gl_RL_41 (v := 3) (LN := LP24) (sv2 := 4) (by decide) (by decide) (by decide) (by decide) (by decide +kernel) (by decide +kernel) (by decide +kernel) (Nat.le_of_ble_eq_true rfl) (by decide) (fun z m' kd => ?_)
  refine Vw.iconst aL_pages_904 (by decide) ?_
  refine Vw.icmp_ne aL_pages_905 (tgt := 990) (by decide) (fun c => absurd c (by decide)) (fun _ => ?_)
  refine Vw.ald0 aL_pages_908 ?_
  refine Vw.iconst aL_pages_909 (by decide) ?_
  refine Vw.iconst aL_pages_910 (by decide) ?_
  refine cd_turn kd aL_pages_911 gl_RL_41 (v := 3) (LN := LP25) (sv2 := 4) (by decide) (by decide) (by decide) (by decide) (by decide +kernel) (by decide +kernel) (by decide +kernel) (Nat.le_of_ble_eq_true rfl) (by decide) (fun z m' kd => ?_)
  refine Vw.iconst aL_pages_914 (by decide) ?_
  refine Vw.icmp_ne aL_pages_915 (tgt := 990) (by decide) (fun c => absurd c (by decide)) (fun _ => ?_)
  refine Vw.ald0 aL_pages_918 ?_
  refine Vw.iconst aL_pages_919 (by decide) ?_
  refine cd_count kd aL_pages_920 gl_RL_13 (v := 29) (by decide +kernel) (Nat.le_of_ble_eq_true rfl) (by decide) ?_
  refine Vw.bipush aL_pages_923 (by decide) (by decide) ?_
  refine Vw.icmp_ne aL_pages_925 (tgt := 990) (by decide) (fun c => absurd c (by decide)) (fun _ => ?_)
  refine Vw.ald0 aL_pages_928 ?_
  refine Vw.iconst aL_pages_929 (by decide) ?_
  refine Vw.iconst aL_pages_930 (by decide) ?_
  refine cd_entry kd aL_pages_931 gl_RL_29 (v := 1) (by decide +kernel) (by decide +kernel) (Nat.le_of_ble_eq_true rfl) (by decide) ?_
  refine Vw.iconst aL_pages_934 (by decide) ?_
  refine Vw.icmp_ne aL_pages_935 (tgt := 990) (by decide) (fun c => absurd c (by decide)) (fun _ => ?_)
  refine Vw.ald0 aL_pages_938 ?_
  refine Vw.iconst aL_pages_939 (by decide) ?_
  refine Vw.iconst aL_pages_940 (by decide) ?_
  refine cd_turnN kd aL_pages_941 gl_RL_41 (v := (-3)) (by decide) (by decide) (by decide) (by decide +kernel) rfl (Nat.le_of_ble_eq_true rfl) (by decide) (fun z m' kd => ?_)
  refine Vw.bipush aL_pages_944 (by decide) (by decide) ?_
  refine Vw.icmp_ne aL_pages_946 (tgt := 990) (by decide) (fun c => absurd c (by decide)) (fun _ => ?_)
  refine Vw.ald0 aL_pages_949 ?_
  refine Vw.iconst aL_pages_950 (by decide) ?_
  refine cd_renewN kd aL_pages_951 gl_RL_44 (v := (-3)) (by decide) (by decide) (by decide +kernel) rfl (Nat.le_of_ble_eq_true rfl) (by decide) (fun z m' kd => ?_)
  refine Vw.bipush aL_pages_954 (by decide) (by decide) ?_
  refine Vw.icmp_ne aL_pages_956 (tgt := 990) (by decide) (fun c => absurd c (by decide)) (fun _ => ?_)
  refine Vw.ald0 aL_pages_959 ?_
  refine Vw.sipush aL_pages_960 (by decide) (by decide) ?_
  refine cd_setRoom kd aL_pages_963 gl_RL_50 (v := 30) (LN := LP26) (sv2 := 4) (by decide) (by decide) (by decide +kernel) (by decide +kernel) (by decide +kernel) (by decide +kernel) (Nat.le_of_ble_eq_true rfl) (by decide) (fun z m' kd => ?_)
  refine Vw.bipush aL_pages_966 (by decide) (by decide) ?_
  refine Vw.icmp_ne aL_pages_968 (tgt := 990) (by decide) (fun c => absurd c (by decide)) (fun _ => ?_)
  refine Vw.ald0 aL_pages_971 ?_
  refine Vw.bipush aL_pages_972 (by decide) (by decide) ?_
  refine cd_setRoom kd aL_pages_974 gl_RL_50 (v := 300) (LN := LP25) (sv2 := 4) (by decide) (by decide) (by decide +kernel) (by decide +kernel) (by decide +kernel) (by decide +kernel) (Nat.le_of_ble_eq_true rfl) (by decide) (fun z m' kd => ?_)
  refine Vw.sipush aL_pages_977 (by decide) (by decide) ?_
  refine Vw.icmp_ne aL_pages_980 (tgt := 990) (by decide) (fun c => absurd c (by decide)) (fun _ => ?_)
  exact K _ _ kd
theorem lp_s7 {sz : Nat} {m : Mem} (kd : KD G m sz X 17 LP25 4 0 (fun _ => 0) 0) (K : ∀ (z : Nat) (m' : Mem), Vw G kL_pages (rmM 9 600 6000) Qf 1047 [some (wr (some X))] [wi 1] z m' 464 4791) : Vw G kL_pages (rmM 9 600 6000) Qf 983 [some (wr (some X))] [] sz m 338 3735 := by
  refine Vw.ald0 aL_pages_983 ?_
  refine cd_refused kd aL_pages_984 gl_RL_104 (Nat.le_of_ble_eq_true rfl) (by decide) (fun z m' kd => ?_)
  refine Vw.if_ne aL_pages_987 (tgt := 992) (by decide) (fun _ => ?_) (fun c => absurd c (by decide))
  refine Vw.ald0 aL_pages_992 ?_
  refine Vw.iconst aL_pages_993 (by decide) ?_
  refine Vw.iconst aL_pages_994 (by decide) ?_
  refine cd_turnN kd aL_pages_995 gl_RL_41 (v := (-3)) (by decide) (by decide) (by decide) (by decide +kernel) rfl (Nat.le_of_ble_eq_true rfl) (by decide) (fun z m' kd => ?_)
  refine Vw.bipush aL_pages_998 (by decide) (by decide) ?_
  refine Vw.icmp_ne aL_pages_1000 (tgt := 1046) (by decide) (fun c => absurd c (by decide)) (fun _ => ?_)
  refine Vw.ald0 aL_pages_1003 ?_
  refine cd_flush kd aL_pages_1004 gl_RL_84 (v := 8) (LN := LP27) (sv2 := 4) (by decide) (by decide +kernel) (by decide +kernel) (by decide +kernel) (Nat.le_of_ble_eq_true rfl) (by decide) (fun z m' kd => ?_)
  refine Vw.bipush aL_pages_1007 (by decide) (by decide) ?_
  refine Vw.icmp_ne aL_pages_1009 (tgt := 1046) (by decide) (fun c => absurd c (by decide)) (fun _ => ?_)
  refine Vw.ald0 aL_pages_1012 ?_
  refine Vw.iconst aL_pages_1013 (by decide) ?_
  refine Vw.iconst aL_pages_1014 (by decide) ?_
  refine cd_turn kd aL_pages_1015 gl_RL_41 (v := 3) (LN := LP28) (sv2 := 4) (by decide) (by decide) (by decide) (by decide) (by decide +kernel) (by decide +kernel) (by decide +kernel) (Nat.le_of_ble_eq_true rfl) (by decide) (fun z m' kd => ?_)
  refine Vw.iconst aL_pages_1018 (by decide) ?_
  refine Vw.icmp_ne aL_pages_1019 (tgt := 1046) (by decide) (fun c => absurd c (by decide)) (fun _ => ?_)
  refine Vw.ald0 aL_pages_1022 ?_
  refine Vw.iconst aL_pages_1023 (by decide) ?_
  refine Vw.iconst aL_pages_1024 (by decide) ?_
  refine cd_entryN kd aL_pages_1025 gl_RL_29 (v := (-1)) (by decide +kernel) (by decide +kernel) (Nat.le_of_ble_eq_true rfl) (by decide) ?_
  refine Vw.iconst aL_pages_1028 (by decide) ?_
  refine Vw.icmp_ne aL_pages_1029 (tgt := 1046) (by decide) (fun c => absurd c (by decide)) (fun _ => ?_)
  refine Vw.ald0 aL_pages_1032 ?_
  refine Vw.iconst aL_pages_1033 (by decide) ?_
  refine cd_count kd aL_pages_1034 gl_RL_13 (v := 29) (by decide +kernel) (Nat.le_of_ble_eq_true rfl) (by decide) ?_
  refine Vw.bipush aL_pages_1037 (by decide) (by decide) ?_
  refine Vw.icmp_ne aL_pages_1039 (tgt := 1046) (by decide) (fun c => absurd c (by decide)) (fun _ => ?_)
  refine Vw.iconst aL_pages_1042 (by decide) ?_
  refine Vw.goto aL_pages_1043 (tgt := 1047) (by decide) ?_
  exact K _ _
theorem okw_pages {sz : Nat} {m : Mem} {h0 : Int → Int} (ht : m G.2.2.2 = iar 0 h0) (hl : G.2.2.2 < G.2.2.1) : OkW G kL_pages 9 [] sz m 600 6000 (fun r _ _ => r = some (wi 1)) := by
  refine OkW.body [none] rfl (Nat.le_of_ble_eq_true rfl) (by decide) ?_
  refine Vw.knowS (fun _ hle => ?_)
  refine Vw.new aL_pages_0 nl_RL_14 (by decide) ?_
  refine Vw.dup aL_pages_3 ?_
  refine wall_X5_init aL_pages_4 gl_RL_76 (ok_init5 upM_s) (Nat.le_of_ble_eq_true rfl) (by decide) (gwN (fun z4 m4 h4 => ?_))
  obtain ⟨rfl, hN⟩ := h4
  refine Vw.ast0 aL_pages_7 rfl ?_
  have kh := khStart (Z := sz + 157) (hs := fun _ _ => 0) hN ((upM_n (by omega)).trans ht) (by omega) (fun _ _ => rfl) (Nat.le_refl _) (fun a a0 a1 => by omega)
  have kd : KD G m4 (sz + 157) sz 0 LP0 0 0 (fun _ => 0) 0 := KD.of (Nat.le_refl _) kh (by decide +kernel)
  exact lp_s0 kd (fun z m kd => lp_s1 kd (fun z m kd => lp_s2 kd (fun z m kd => lp_s3 kd (fun z m kd => lp_s4 kd (fun z m kd => lp_s5 kd (fun z m kd => lp_s6 kd (fun z m kd => lp_s7 kd (fun z m => Vw.zret aL_pages_1047 rfl (Or.inr rfl) (by decide) rfl))))))))
end
