/-! class: what its acts leave as it is -/
def aT12 : List aCe := [.inr (11, [(false, .inr (some [1])), (true, .inl (0, 1600)), (false, .inl (-2147483648, 2147483647)), (false, .inl (-2147483648, 2147483647)), (true, .inr (some [2, 14])), (true, .inr (some [2, 14])), (false, .inr (some [26])), (false, .inr (some [31])), (false, .inr (some [34])), (false, .inr (some [38])), (false, .inr (some [181])), (false, .inr (some [185])), (false, .inr (some [219])), (false, .inl (0, 33)), (false, .inr (some [220])), (false, .inl (-2147483648, 2147483647))]),
  .inl (true, 0, 1600, .inl (0, 255)),
  .inr (4, [(true, .inl (-2147483648, 2147483647)), (true, .inl (-2147483648, 2147483647)), (true, .inl (-2147483648, 2147483647)), (true, .inl (-2147483648, 2147483647)), (true, .inl (-2147483648, 2147483647)), (true, .inr none), (true, .inr none), (true, .inl (0, 9)), (true, .inr (some [3])), (true, .inr (some [4])), (true, .inr (some [5])), (true, .inr (some [6])), (true, .inl (0, 511)), (true, .inl (0, 6)), (true, .inr (some [7])), (true, .inr (some [8])), (true, .inr (some [9])), (true, .inr (some [10]))]),
  .inl (true, 0, 9, .inl (-2147483648, 2147483647)),
  .inl (true, 0, 9, .inl (-2147483648, 2147483647)),
  .inl (true, 0, 9, .inl (-2147483648, 2147483647)),
  .inl (true, 0, 9, .inl (-2147483648, 2147483647)),
  .inl (true, 0, 6, .inl (-2147483648, 2147483647)),
  .inl (true, 0, 6, .inl (-2147483648, 2147483647)),
  .inl (true, 0, 6, .inl (-2147483648, 2147483647)),
  .inr (7, [(true, .inr (some [11])), (true, .inr (some [12])), (true, .inr (some [13])), (true, .inl (0, 1600))]),
  .inl (true, 0, 1600, .inl (-2147483648, 2147483647)),
  .inl (true, 0, 3, .inl (0, 1600)),
  .inl (true, 0, 3, .inl (0, 1600)),
  .inr (4, [(true, .inl (-2147483648, 2147483647)), (true, .inl (-2147483648, 2147483647)), (true, .inl (-2147483648, 2147483647)), (true, .inl (-2147483648, 2147483647)), (true, .inl (-2147483648, 2147483647)), (true, .inr none), (true, .inr none), (true, .inl (0, 9)), (true, .inr (some [15])), (true, .inr (some [16])), (true, .inr (some [17])), (true, .inr (some [18])), (true, .inl (0, 511)), (true, .inl (0, 6)), (true, .inr (some [19])), (true, .inr (some [20])), (true, .inr (some [21])), (true, .inr (some [22]))]),
  .inl (true, 0, 9, .inl (-2147483648, 2147483647)),
  .inl (true, 0, 9, .inl (-2147483648, 2147483647)),
  .inl (true, 0, 9, .inl (-2147483648, 2147483647)),
  .inl (true, 0, 9, .inl (-2147483648, 2147483647)),
  .inl (true, 0, 6, .inl (-2147483648, 2147483647)),
  .inl (true, 0, 6, .inl (-2147483648, 2147483647)),
  .inl (true, 0, 6, .inl (-2147483648, 2147483647)),
  .inr (7, [(true, .inr (some [23])), (true, .inr (some [24])), (true, .inr (some [25])), (true, .inl (0, 1600))]),
  .inl (true, 0, 1600, .inl (-2147483648, 2147483647)),
  .inl (true, 0, 3, .inl (0, 1600)),
  .inl (true, 0, 3, .inl (0, 1600)),
  .inr (9, [(false, .inr (some [27])), (false, .inr (some [30])), (false, .inr (some [2, 14])), (false, .inl (-2147483648, 2147483647))]),
  .inr (5, [(false, .inr (some [28])), (false, .inr (some [1, 29])), (false, .inl (0, 1600)), (false, .inl (0, 1600)), (false, .inl (-2147483648, 2147483647)), (false, .inl (-2147483648, 2147483647)), (false, .inl (-2147483648, 2147483647)), (false, .inl (-2147483648, 2147483647)), (false, .inl (-2147483648, 2147483647)), (false, .inl (-2147483648, 2147483647)), (false, .inl (-2147483648, 2147483647)), (false, .inl (-2147483648, 2147483647))]),
  .inl (true, 0, 26, .inl (-2147483648, 2147483647)),
  .inl (false, 0, 0, .inl (-2147483648, 2147483647)),
  .inr (10, [(false, .inr (some [27])), (false, .inr (some [10, 22])), (false, .inl (-2147483648, 2147483647))]),
  .inr (8, [(false, .inl (-2147483648, 2147483647)), (false, .inl (0, 511)), (false, .inr (some [32])), (false, .inr (some [33])), (false, .inl (-1, -1)), (false, .inl (-2147483648, 2147483647))]),
  .inl (false, 0, 9, .inl (-2147483648, 2147483647)),
  .inl (false, 0, 6, .inl (-2147483648, 2147483647)),
  .inr (1, [(false, .inr (some [35])), (false, .inr (some [36])), (false, .inr (some [37])), (false, .inl (0, 40))]),
  .inl (false, 0, 40, .inl (-2147483648, 2147483647)),
  .inl (false, 0, 40, .inl (-2147483648, 2147483647)),
  .inl (false, 0, 40, .inl (-2147483648, 2147483647)),
  .inr (2, [(false, .inr (some [39])), (false, .inr (some [40])), (false, .inl (0, 19)), (false, .inl (0, 20))]),
  .inl (false, 3, 20, .inr (some [41, 48, 55, 62, 69, 76, 83, 90, 97, 104, 111, 118, 125, 132, 139, 146, 153, 160, 167, 174])),
  .inl (false, 4, 20, .inr (some [44, 51, 58, 65, 72, 79, 86, 93, 100, 107, 114, 121, 128, 135, 142, 149, 156, 163, 170, 177])),
  .inr (8, [(false, .inl (-2147483648, 2147483647)), (false, .inl (0, 511)), (false, .inr (some [42])), (false, .inr (some [43])), (false, .inl (-1, -1)), (false, .inl (-2147483648, 2147483647))]),
  .inl (false, 0, 9, .inl (-2147483648, 2147483647)),
  .inl (false, 0, 6, .inl (-2147483648, 2147483647)),
  .inr (1, [(false, .inr (some [45])), (false, .inr (some [46])), (false, .inr (some [47])), (false, .inl (0, 40))]),
  .inl (false, 0, 40, .inl (-2147483648, 2147483647)),
  .inl (false, 0, 40, .inl (-2147483648, 2147483647)),
  .inl (false, 0, 40, .inl (-2147483648, 2147483647)),
  .inr (8, [(false, .inl (-2147483648, 2147483647)), (false, .inl (0, 511)), (false, .inr (some [49])), (false, .inr (some [50])), (false, .inl (-1, -1)), (false, .inl (-2147483648, 2147483647))]),
  .inl (false, 0, 9, .inl (-2147483648, 2147483647)),
  .inl (false, 0, 6, .inl (-2147483648, 2147483647)),
  .inr (1, [(false, .inr (some [52])), (false, .inr (some [53])), (false, .inr (some [54])), (false, .inl (0, 40))]),
  .inl (false, 0, 40, .inl (-2147483648, 2147483647)),
  .inl (false, 0, 40, .inl (-2147483648, 2147483647)),
  .inl (false, 0, 40, .inl (-2147483648, 2147483647)),
  .inr (8, [(false, .inl (-2147483648, 2147483647)), (false, .inl (0, 511)), (false, .inr (some [56])), (false, .inr (some [57])), (false, .inl (-1, -1)), (false, .inl (-2147483648, 2147483647))]),
  .inl (false, 0, 9, .inl (-2147483648, 2147483647)),
  .inl (false, 0, 6, .inl (-2147483648, 2147483647)),
  .inr (1, [(false, .inr (some [59])), (false, .inr (some [60])), (false, .inr (some [61])), (false, .inl (0, 40))]),
  .inl (false, 0, 40, .inl (-2147483648, 2147483647)),
  .inl (false, 0, 40, .inl (-2147483648, 2147483647)),
  .inl (false, 0, 40, .inl (-2147483648, 2147483647)),
  .inr (8, [(false, .inl (-2147483648, 2147483647)), (false, .inl (0, 511)), (false, .inr (some [63])), (false, .inr (some [64])), (false, .inl (-1, -1)), (false, .inl (-2147483648, 2147483647))]),
  .inl (false, 0, 9, .inl (-2147483648, 2147483647)),
  .inl (false, 0, 6, .inl (-2147483648, 2147483647)),
  .inr (1, [(false, .inr (some [66])), (false, .inr (some [67])), (false, .inr (some [68])), (false, .inl (0, 40))]),
  .inl (false, 0, 40, .inl (-2147483648, 2147483647)),
  .inl (false, 0, 40, .inl (-2147483648, 2147483647)),
  .inl (false, 0, 40, .inl (-2147483648, 2147483647)),
  .inr (8, [(false, .inl (-2147483648, 2147483647)), (false, .inl (0, 511)), (false, .inr (some [70])), (false, .inr (some [71])), (false, .inl (-1, -1)), (false, .inl (-2147483648, 2147483647))]),
  .inl (false, 0, 9, .inl (-2147483648, 2147483647)),
  .inl (false, 0, 6, .inl (-2147483648, 2147483647)),
  .inr (1, [(false, .inr (some [73])), (false, .inr (some [74])), (false, .inr (some [75])), (false, .inl (0, 40))]),
  .inl (false, 0, 40, .inl (-2147483648, 2147483647)),
  .inl (false, 0, 40, .inl (-2147483648, 2147483647)),
  .inl (false, 0, 40, .inl (-2147483648, 2147483647)),
  .inr (8, [(false, .inl (-2147483648, 2147483647)), (false, .inl (0, 511)), (false, .inr (some [77])), (false, .inr (some [78])), (false, .inl (-1, -1)), (false, .inl (-2147483648, 2147483647))]),
  .inl (false, 0, 9, .inl (-2147483648, 2147483647)),
  .inl (false, 0, 6, .inl (-2147483648, 2147483647)),
  .inr (1, [(false, .inr (some [80])), (false, .inr (some [81])), (false, .inr (some [82])), (false, .inl (0, 40))]),
  .inl (false, 0, 40, .inl (-2147483648, 2147483647)),
  .inl (false, 0, 40, .inl (-2147483648, 2147483647)),
  .inl (false, 0, 40, .inl (-2147483648, 2147483647)),
  .inr (8, [(false, .inl (-2147483648, 2147483647)), (false, .inl (0, 511)), (false, .inr (some [84])), (false, .inr (some [85])), (false, .inl (-1, -1)), (false, .inl (-2147483648, 2147483647))]),
  .inl (false, 0, 9, .inl (-2147483648, 2147483647)),
  .inl (false, 0, 6, .inl (-2147483648, 2147483647)),
  .inr (1, [(false, .inr (some [87])), (false, .inr (some [88])), (false, .inr (some [89])), (false, .inl (0, 40))]),
  .inl (false, 0, 40, .inl (-2147483648, 2147483647)),
  .inl (false, 0, 40, .inl (-2147483648, 2147483647)),
  .inl (false, 0, 40, .inl (-2147483648, 2147483647)),
  .inr (8, [(false, .inl (-2147483648, 2147483647)), (false, .inl (0, 511)), (false, .inr (some [91])), (false, .inr (some [92])), (false, .inl (-1, -1)), (false, .inl (-2147483648, 2147483647))]),
  .inl (false, 0, 9, .inl (-2147483648, 2147483647)),
  .inl (false, 0, 6, .inl (-2147483648, 2147483647)),
  .inr (1, [(false, .inr (some [94])), (false, .inr (some [95])), (false, .inr (some [96])), (false, .inl (0, 40))]),
  .inl (false, 0, 40, .inl (-2147483648, 2147483647)),
  .inl (false, 0, 40, .inl (-2147483648, 2147483647)),
  .inl (false, 0, 40, .inl (-2147483648, 2147483647)),
  .inr (8, [(false, .inl (-2147483648, 2147483647)), (false, .inl (0, 511)), (false, .inr (some [98])), (false, .inr (some [99])), (false, .inl (-1, -1)), (false, .inl (-2147483648, 2147483647))]),
  .inl (false, 0, 9, .inl (-2147483648, 2147483647)),
  .inl (false, 0, 6, .inl (-2147483648, 2147483647)),
  .inr (1, [(false, .inr (some [101])), (false, .inr (some [102])), (false, .inr (some [103])), (false, .inl (0, 40))]),
  .inl (false, 0, 40, .inl (-2147483648, 2147483647)),
  .inl (false, 0, 40, .inl (-2147483648, 2147483647)),
  .inl (false, 0, 40, .inl (-2147483648, 2147483647)),
  .inr (8, [(false, .inl (-2147483648, 2147483647)), (false, .inl (0, 511)), (false, .inr (some [105])), (false, .inr (some [106])), (false, .inl (-1, -1)), (false, .inl (-2147483648, 2147483647))]),
  .inl (false, 0, 9, .inl (-2147483648, 2147483647)),
  .inl (false, 0, 6, .inl (-2147483648, 2147483647)),
  .inr (1, [(false, .inr (some [108])), (false, .inr (some [109])), (false, .inr (some [110])), (false, .inl (0, 40))]),
  .inl (false, 0, 40, .inl (-2147483648, 2147483647)),
  .inl (false, 0, 40, .inl (-2147483648, 2147483647)),
  .inl (false, 0, 40, .inl (-2147483648, 2147483647)),
  .inr (8, [(false, .inl (-2147483648, 2147483647)), (false, .inl (0, 511)), (false, .inr (some [112])), (false, .inr (some [113])), (false, .inl (-1, -1)), (false, .inl (-2147483648, 2147483647))]),
  .inl (false, 0, 9, .inl (-2147483648, 2147483647)),
  .inl (false, 0, 6, .inl (-2147483648, 2147483647)),
  .inr (1, [(false, .inr (some [115])), (false, .inr (some [116])), (false, .inr (some [117])), (false, .inl (0, 40))]),
  .inl (false, 0, 40, .inl (-2147483648, 2147483647)),
  .inl (false, 0, 40, .inl (-2147483648, 2147483647)),
  .inl (false, 0, 40, .inl (-2147483648, 2147483647)),
  .inr (8, [(false, .inl (-2147483648, 2147483647)), (false, .inl (0, 511)), (false, .inr (some [119])), (false, .inr (some [120])), (false, .inl (-1, -1)), (false, .inl (-2147483648, 2147483647))]),
  .inl (false, 0, 9, .inl (-2147483648, 2147483647)),
  .inl (false, 0, 6, .inl (-2147483648, 2147483647)),
  .inr (1, [(false, .inr (some [122])), (false, .inr (some [123])), (false, .inr (some [124])), (false, .inl (0, 40))]),
  .inl (false, 0, 40, .inl (-2147483648, 2147483647)),
  .inl (false, 0, 40, .inl (-2147483648, 2147483647)),
  .inl (false, 0, 40, .inl (-2147483648, 2147483647)),
  .inr (8, [(false, .inl (-2147483648, 2147483647)), (false, .inl (0, 511)), (false, .inr (some [126])), (false, .inr (some [127])), (false, .inl (-1, -1)), (false, .inl (-2147483648, 2147483647))]),
  .inl (false, 0, 9, .inl (-2147483648, 2147483647)),
  .inl (false, 0, 6, .inl (-2147483648, 2147483647)),
  .inr (1, [(false, .inr (some [129])), (false, .inr (some [130])), (false, .inr (some [131])), (false, .inl (0, 40))]),
  .inl (false, 0, 40, .inl (-2147483648, 2147483647)),
  .inl (false, 0, 40, .inl (-2147483648, 2147483647)),
  .inl (false, 0, 40, .inl (-2147483648, 2147483647)),
  .inr (8, [(false, .inl (-2147483648, 2147483647)), (false, .inl (0, 511)), (false, .inr (some [133])), (false, .inr (some [134])), (false, .inl (-1, -1)), (false, .inl (-2147483648, 2147483647))]),
  .inl (false, 0, 9, .inl (-2147483648, 2147483647)),
  .inl (false, 0, 6, .inl (-2147483648, 2147483647)),
  .inr (1, [(false, .inr (some [136])), (false, .inr (some [137])), (false, .inr (some [138])), (false, .inl (0, 40))]),
  .inl (false, 0, 40, .inl (-2147483648, 2147483647)),
  .inl (false, 0, 40, .inl (-2147483648, 2147483647)),
  .inl (false, 0, 40, .inl (-2147483648, 2147483647)),
  .inr (8, [(false, .inl (-2147483648, 2147483647)), (false, .inl (0, 511)), (false, .inr (some [140])), (false, .inr (some [141])), (false, .inl (-1, -1)), (false, .inl (-2147483648, 2147483647))]),
  .inl (false, 0, 9, .inl (-2147483648, 2147483647)),
  .inl (false, 0, 6, .inl (-2147483648, 2147483647)),
  .inr (1, [(false, .inr (some [143])), (false, .inr (some [144])), (false, .inr (some [145])), (false, .inl (0, 40))]),
  .inl (false, 0, 40, .inl (-2147483648, 2147483647)),
  .inl (false, 0, 40, .inl (-2147483648, 2147483647)),
  .inl (false, 0, 40, .inl (-2147483648, 2147483647)),
  .inr (8, [(false, .inl (-2147483648, 2147483647)), (false, .inl (0, 511)), (false, .inr (some [147])), (false, .inr (some [148])), (false, .inl (-1, -1)), (false, .inl (-2147483648, 2147483647))]),
  .inl (false, 0, 9, .inl (-2147483648, 2147483647)),
  .inl (false, 0, 6, .inl (-2147483648, 2147483647)),
  .inr (1, [(false, .inr (some [150])), (false, .inr (some [151])), (false, .inr (some [152])), (false, .inl (0, 40))]),
  .inl (false, 0, 40, .inl (-2147483648, 2147483647)),
  .inl (false, 0, 40, .inl (-2147483648, 2147483647)),
  .inl (false, 0, 40, .inl (-2147483648, 2147483647)),
  .inr (8, [(false, .inl (-2147483648, 2147483647)), (false, .inl (0, 511)), (false, .inr (some [154])), (false, .inr (some [155])), (false, .inl (-1, -1)), (false, .inl (-2147483648, 2147483647))]),
  .inl (false, 0, 9, .inl (-2147483648, 2147483647)),
  .inl (false, 0, 6, .inl (-2147483648, 2147483647)),
  .inr (1, [(false, .inr (some [157])), (false, .inr (some [158])), (false, .inr (some [159])), (false, .inl (0, 40))]),
  .inl (false, 0, 40, .inl (-2147483648, 2147483647)),
  .inl (false, 0, 40, .inl (-2147483648, 2147483647)),
  .inl (false, 0, 40, .inl (-2147483648, 2147483647)),
  .inr (8, [(false, .inl (-2147483648, 2147483647)), (false, .inl (0, 511)), (false, .inr (some [161])), (false, .inr (some [162])), (false, .inl (-1, -1)), (false, .inl (-2147483648, 2147483647))]),
  .inl (false, 0, 9, .inl (-2147483648, 2147483647)),
  .inl (false, 0, 6, .inl (-2147483648, 2147483647)),
  .inr (1, [(false, .inr (some [164])), (false, .inr (some [165])), (false, .inr (some [166])), (false, .inl (0, 40))]),
  .inl (false, 0, 40, .inl (-2147483648, 2147483647)),
  .inl (false, 0, 40, .inl (-2147483648, 2147483647)),
  .inl (false, 0, 40, .inl (-2147483648, 2147483647)),
  .inr (8, [(false, .inl (-2147483648, 2147483647)), (false, .inl (0, 511)), (false, .inr (some [168])), (false, .inr (some [169])), (false, .inl (-1, -1)), (false, .inl (-2147483648, 2147483647))]),
  .inl (false, 0, 9, .inl (-2147483648, 2147483647)),
  .inl (false, 0, 6, .inl (-2147483648, 2147483647)),
  .inr (1, [(false, .inr (some [171])), (false, .inr (some [172])), (false, .inr (some [173])), (false, .inl (0, 40))]),
  .inl (false, 0, 40, .inl (-2147483648, 2147483647)),
  .inl (false, 0, 40, .inl (-2147483648, 2147483647)),
  .inl (false, 0, 40, .inl (-2147483648, 2147483647)),
  .inr (8, [(false, .inl (-2147483648, 2147483647)), (false, .inl (0, 511)), (false, .inr (some [175])), (false, .inr (some [176])), (false, .inl (-1, -1)), (false, .inl (-2147483648, 2147483647))]),
  .inl (false, 0, 9, .inl (-2147483648, 2147483647)),
  .inl (false, 0, 6, .inl (-2147483648, 2147483647)),
  .inr (1, [(false, .inr (some [178])), (false, .inr (some [179])), (false, .inr (some [180])), (false, .inl (0, 40))]),
  .inl (false, 0, 40, .inl (-2147483648, 2147483647)),
  .inl (false, 0, 40, .inl (-2147483648, 2147483647)),
  .inl (false, 0, 40, .inl (-2147483648, 2147483647)),
  .inr (0, [(true, .inr (some [2, 14])), (false, .inr (some [182])), (false, .inr (some [184])), (false, .inl (0, 511)), (false, .inl (0, 511))]),
  .inr (6, [(false, .inr (some [183])), (false, .inl (-2147483648, 2147483647)), (false, .inl (-2147483648, 2147483647)), (false, .inl (-2147483648, 2147483647)), (false, .inl (-2147483648, 2147483647)), (false, .inl (-2147483648, 2147483647)), (false, .inl (-2147483648, 2147483647))]),
  .inl (false, 0, 128, .inl (-2147483648, 2147483647)),
  .inl (false, 1, 49, .inr none),
  .inr (3, [(false, .inr (some [181])), (false, .inr (some [186])), (false, .inr (some [187])), (false, .inr (some [188])), (false, .inr (some [189])), (false, .inr (some [190])), (false, .inl (-2147483648, 2147483647)), (false, .inl (-2147483648, 2147483647)), (false, .inr (some [191])), (true, .inl (0, 16)), (false, .inl (-2147483648, 2147483647)), (false, .inl (-2147483648, 2147483647)), (false, .inl (-2147483648, 2147483647))]),
  .inl (false, 3, 9, .inr (some [192, 195, 198, 201, 204, 207, 210, 213, 216])),
  .inl (false, 1, 9, .inr none),
  .inl (false, 0, 54, .inl (-2147483648, 2147483647)),
  .inl (false, 0, 3584, .inl (-2147483648, 2147483647)),
  .inl (false, 0, 6, .inl (-2147483648, 2147483647)),
  .inl (true, 0, 64, .inl (0, 255)),
  .inr (8, [(false, .inl (-2147483648, 2147483647)), (false, .inl (0, 511)), (false, .inr (some [193])), (false, .inr (some [194])), (false, .inl (-2147483648, 2147483647)), (false, .inl (-2147483648, 2147483647))]),
  .inl (false, 0, 9, .inl (-2147483648, 2147483647)),
  .inl (false, 0, 6, .inl (-2147483648, 2147483647)),
  .inr (8, [(false, .inl (-2147483648, 2147483647)), (false, .inl (0, 511)), (false, .inr (some [196])), (false, .inr (some [197])), (false, .inl (-2147483648, 2147483647)), (false, .inl (-2147483648, 2147483647))]),
  .inl (false, 0, 9, .inl (-2147483648, 2147483647)),
  .inl (false, 0, 6, .inl (-2147483648, 2147483647)),
  .inr (8, [(false, .inl (-2147483648, 2147483647)), (false, .inl (0, 511)), (false, .inr (some [199])), (false, .inr (some [200])), (false, .inl (-2147483648, 2147483647)), (false, .inl (-2147483648, 2147483647))]),
  .inl (false, 0, 9, .inl (-2147483648, 2147483647)),
  .inl (false, 0, 6, .inl (-2147483648, 2147483647)),
  .inr (8, [(false, .inl (-2147483648, 2147483647)), (false, .inl (0, 511)), (false, .inr (some [202])), (false, .inr (some [203])), (false, .inl (-2147483648, 2147483647)), (false, .inl (-2147483648, 2147483647))]),
  .inl (false, 0, 9, .inl (-2147483648, 2147483647)),
  .inl (false, 0, 6, .inl (-2147483648, 2147483647)),
  .inr (8, [(false, .inl (-2147483648, 2147483647)), (false, .inl (0, 511)), (false, .inr (some [205])), (false, .inr (some [206])), (false, .inl (-2147483648, 2147483647)), (false, .inl (-2147483648, 2147483647))]),
  .inl (false, 0, 9, .inl (-2147483648, 2147483647)),
  .inl (false, 0, 6, .inl (-2147483648, 2147483647)),
  .inr (8, [(false, .inl (-2147483648, 2147483647)), (false, .inl (0, 511)), (false, .inr (some [208])), (false, .inr (some [209])), (false, .inl (-2147483648, 2147483647)), (false, .inl (-2147483648, 2147483647))]),
  .inl (false, 0, 9, .inl (-2147483648, 2147483647)),
  .inl (false, 0, 6, .inl (-2147483648, 2147483647)),
  .inr (8, [(false, .inl (-2147483648, 2147483647)), (false, .inl (0, 511)), (false, .inr (some [211])), (false, .inr (some [212])), (false, .inl (-2147483648, 2147483647)), (false, .inl (-2147483648, 2147483647))]),
  .inl (false, 0, 9, .inl (-2147483648, 2147483647)),
  .inl (false, 0, 6, .inl (-2147483648, 2147483647)),
  .inr (8, [(false, .inl (-2147483648, 2147483647)), (false, .inl (0, 511)), (false, .inr (some [214])), (false, .inr (some [215])), (false, .inl (-2147483648, 2147483647)), (false, .inl (-2147483648, 2147483647))]),
  .inl (false, 0, 9, .inl (-2147483648, 2147483647)),
  .inl (false, 0, 6, .inl (-2147483648, 2147483647)),
  .inr (8, [(false, .inl (-2147483648, 2147483647)), (false, .inl (0, 511)), (false, .inr (some [217])), (false, .inr (some [218])), (false, .inl (-2147483648, 2147483647)), (false, .inl (-2147483648, 2147483647))]),
  .inl (false, 0, 9, .inl (-2147483648, 2147483647)),
  .inl (false, 0, 6, .inl (-2147483648, 2147483647)),
  .inl (false, 0, 33, .inl (-2147483648, 2147483647)),
  .inl (false, 0, 6, .inl (-2147483648, 2147483647)),
  .inr (12, [(true, .inr (some [222])), (true, .inl (0, 1600)), (true, .inl (0, 1600)), (true, .inl (-2147483648, 2147483647)), (true, .inl (0, 1600)), (true, .inl (0, 1600)), (true, .inl (-2147483648, 2147483647)), (true, .inr none), (true, .inl (-2147483648, 2147483647)), (true, .inl (-2147483648, 2147483647)), (true, .inl (-2147483648, 2147483647)), (true, .inl (-2147483648, 2147483647)), (true, .inl (-2147483648, 2147483647)), (true, .inl (0, 1)), (true, .inr (some [223])), (true, .inr (some [224])), (true, .inr (some [225])), (true, .inr (some [226])), (true, .inr (some [227])), (true, .inr (some [228])), (true, .inr (some [229])), (true, .inr (some [230])), (true, .inr (some [231])), (true, .inr (some [232])), (true, .inr (some [233])), (true, .inr (some [234])), (true, .inr (some [235])), (true, .inr (some [236])), (true, .inr (some [237])), (true, .inr (some [238])), (true, .inr (some [239])), (true, .inr (some [240])), (true, .inr (some [241])), (true, .inl (-2147483648, 2147483647)), (true, .inl (0, 1)), (true, .inl (-2147483648, 2147483647)), (true, .inr (some [242])), (true, .inr (some [243])), (true, .inr (some [244])), (true, .inr (some [245])), (true, .inr (some [246])), (true, .inl (-2147483648, 2147483647)), (true, .inl (-2147483648, 2147483647)), (true, .inr (some [247])), (true, .inl (-2147483648, 2147483647)), (true, .inl (0, 1)), (true, .inl (0, 1)), (true, .inr (some [248])), (true, .inr (some [249])), (true, .inr (some [250])), (true, .inr (some [251])), (true, .inr (some [252])), (true, .inr (some [253])), (true, .inr (some [254])), (true, .inl (0, 19)), (true, .inl (0, 20)), (true, .inr none), (true, .inr (some [255])), (true, .inr (some [256])), (true, .inr (some [257])), (true, .inr (some [258])), (true, .inr (some [259])), (true, .inr (some [260])), (true, .inr (some [261])), (true, .inr (some [262])), (true, .inr (some [263])), (true, .inl (0, 16)), (true, .inr (some [264])), (true, .inr (some [265])), (true, .inr (some [266])), (true, .inr (some [267])), (true, .inr (some [268])), (true, .inl (0, 33))]),
  .inl (true, 0, 1800, .inl (0, 255)),
  .inl (true, 0, 2, .inl (-2147483648, 2147483647)),
  .inl (true, 0, 2, .inl (-2147483648, 2147483647)),
  .inl (true, 0, 2, .inl (-2147483648, 2147483647)),
  .inl (true, 0, 2, .inl (-2147483648, 2147483647)),
  .inl (true, 0, 128, .inl (0, 1)),
  .inl (true, 0, 2, .inl (0, 9)),
  .inl (true, 0, 18, .inl (0, 63)),
  .inl (true, 0, 18, .inl (-2147483648, 2147483647)),
  .inl (true, 0, 18, .inl (-2147483648, 2147483647)),
  .inl (true, 0, 2, .inl (0, 511)),
  .inl (true, 0, 2, .inl (0, 6)),
  .inl (true, 0, 12, .inl (0, 63)),
  .inl (true, 0, 12, .inl (0, 63)),
  .inl (true, 0, 6, .inl (-2147483648, 2147483647)),
  .inl (true, 0, 6, .inl (-2147483648, 2147483647)),
  .inl (true, 0, 3200, .inl (-2147483648, 2147483647)),
  .inl (true, 0, 3200, .inl (-2147483648, 2147483647)),
  .inl (true, 1, 18, .inr none),
  .inl (true, 1, 12, .inr none),
  .inl (true, 0, 20, .inl (-2147483648, 2147483647)),
  .inl (true, 0, 20, .inl (-2147483648, 2147483647)),
  .inl (true, 2, 20, .inl (0, 1)),
  .inl (true, 0, 20, .inl (-2147483648, 2147483647)),
  .inl (true, 0, 20, .inl (-2147483648, 2147483647)),
  .inl (true, 0, 500, .inl (-2147483648, 2147483647)),
  .inl (true, 0, 6, .inl (-2147483648, 2147483647)),
  .inl (true, 0, 22, .inl (-2147483648, 2147483647)),
  .inl (true, 0, 22, .inl (0, 511)),
  .inl (true, 0, 198, .inl (-2147483648, 2147483647)),
  .inl (true, 0, 132, .inl (0, 63)),
  .inl (true, 0, 22, .inl (0, 40)),
  .inl (true, 0, 2640, .inl (-2147483648, 2147483647)),
  .inl (true, 0, 9, .inl (-2147483648, 2147483647)),
  .inl (true, 1, 500, .inr none),
  .inl (true, 0, 10, .inl (-2147483648, 2147483647)),
  .inl (true, 0, 64, .inl (-2147483648, 2147483647)),
  .inl (true, 0, 64, .inl (-2147483648, 2147483647)),
  .inl (true, 0, 64, .inl (0, 63)),
  .inl (true, 0, 64, .inl (0, 511)),
  .inl (true, 0, 54, .inl (-2147483648, 2147483647)),
  .inl (true, 0, 3584, .inl (-2147483648, 2147483647)),
  .inl (true, 0, 16, .inl (0, 255)),
  .inl (true, 0, 16, .inl (0, 5)),
  .inl (true, 0, 16, .inl (-2147483648, 2147483647)),
  .inl (true, 0, 1674, .inl (-2147483648, 2147483647)),
  .inl (true, 0, 50, .inl (-2147483648, 2147483647))]
noncomputable abbrev aΘ12 (E : zM → Prop) : aTh := (aT12, E, zpg)
def aH86 (E : zM → Prop) : Prop := aEs (aΘ12 E) ∧ True
abbrev c86_X11_refuse : aCt := (144, [.inr (some [0]), .inl (2, 2)], some (.inl (-1, -1)))
def a86_X11_refuse_0 : List (Nat × aF) := [(0, a_lda 0 1), (1, a_gf aT12 11 14 (.inr (some [220]))), (4, a_ldi 1 1), (5, a_d22), (6, a_al aT12 0 (-2147483648, 2147483647)), (7, a_pi (1) 1), (8, a_b2 g_add), (9, a_as aT12 0), (10, a_pi (-1) 1), (11, a_ri false)]
theorem p86_X11_refuse_0 {E : zM → Prop} (h : aH86 E) : aP0 (aΘ12 E) 0 tX11_refuse_0 a86_X11_refuse_0 := ⟨rfl, aok_lda, rfl, aok_gf, rfl, aok_ldi, rfl, aok_d22, rfl, aok_al, rfl, aok_pi rfl, rfl, aok_b2 sd_add, rfl, aok_as h.1, rfl, aok_pi rfl, rfl, aok_ri, trivial⟩
def b86_X11_refuse : aTb := [(100000, a86_X11_refuse_0)]
theorem q86_X11_refuse {E : zM → Prop} (h : aH86 E) : aP1 (aΘ12 E) 0 tX11_refuse b86_X11_refuse := ⟨rfl, p86_X11_refuse_0 h, trivial⟩
def n86_X11_refuse : List aNd := []
theorem k86_X11_refuse {E : zM → Prop} (h : aH86 E) : aCv (aΘ12 E) 1 c86_X11_refuse := aMeth (D := 0) (c := c86_X11_refuse) (tb := b86_X11_refuse) (ns := n86_X11_refuse) (fuel := 3000) rfl (q86_X11_refuse h) (by decide +kernel)
abbrev c86_X8_copyFrom_41n20_31n1 : aCt := (80, [.inr (some [41, 48, 55, 62, 69, 76, 83, 90, 97, 104, 111, 118, 125, 132, 139, 146, 153, 160, 167, 174]), .inr (some [31])], none)
def a86_X8_copyFrom_41n20_31n1_0 : List (Nat × aF) := [(0, a_lda 0 1), (1, a_lda 1 1), (2, a_gf aT12 8 0 (.inl (-2147483648, 2147483647))), (5, a_pf aT12 8 0 (.int)), (8, a_lda 0 1), (9, a_lda 1 1), (10, a_gf aT12 8 1 (.inl (0, 511))), (13, a_pf aT12 8 1 (.int)), (16, a_lda 1 1), (17, a_gf aT12 8 2 (.inr (some [32]))), (20, a_pi (0) 1), (21, a_lda 0 1)]
theorem p86_X8_copyFrom_41n20_31n1_0 {E : zM → Prop} (h : aH86 E) : aP0 (aΘ12 E) 0 tX8_copyFrom_0 a86_X8_copyFrom_41n20_31n1_0 := ⟨rfl, aok_lda, rfl, aok_lda, rfl, aok_gf, rfl, aok_pf h.1, rfl, aok_lda, rfl, aok_lda, rfl, aok_gf, rfl, aok_pf h.1, rfl, aok_lda, rfl, aok_gf, rfl, aok_pi rfl, rfl, aok_lda, trivial⟩
def a86_X8_copyFrom_41n20_31n1_1 : List (Nat × aF) := [(22, a_gf aT12 8 2 (.inr (some [42, 49, 56, 63, 70, 77, 84, 91, 98, 105, 112, 119, 126, 133, 140, 147, 154, 161, 168, 175]))), (25, a_pi (0) 1), (26, a_pi (9) 2), (28, a_cp aT12 0 (-2147483648, 2147483647)), (31, a_lda 1 1), (32, a_gf aT12 8 3 (.inr (some [33]))), (35, a_pi (0) 1), (36, a_lda 0 1), (37, a_gf aT12 8 3 (.inr (some [43, 50, 57, 64, 71, 78, 85, 92, 99, 106, 113, 120, 127, 134, 141, 148, 155, 162, 169, 176]))), (40, a_pi (0) 1), (41, a_pi (6) 2), (43, a_cp aT12 0 (-2147483648, 2147483647))]
theorem p86_X8_copyFrom_41n20_31n1_1 {E : zM → Prop} (h : aH86 E) : aP0 (aΘ12 E) 0 tX8_copyFrom_1 a86_X8_copyFrom_41n20_31n1_1 := ⟨rfl, aok_gf, rfl, aok_pi rfl, rfl, aok_pi rfl, rfl, aok_cp h.1, rfl, aok_lda, rfl, aok_gf, rfl, aok_pi rfl, rfl, aok_lda, rfl, aok_gf, rfl, aok_pi rfl, rfl, aok_pi rfl, rfl, aok_cp h.1, trivial⟩
def a86_X8_copyFrom_41n20_31n1_2 : List (Nat × aF) := [(46, a_lda 0 1), (47, a_lda 1 1), (48, a_gf aT12 8 4 (.inl (-1, -1))), (51, a_pf aT12 8 4 (.int)), (54, a_lda 0 1), (55, a_lda 1 1), (56, a_gf aT12 8 5 (.inl (-2147483648, 2147483647))), (59, a_pf aT12 8 5 (.int)), (62, a_rv)]
theorem p86_X8_copyFrom_41n20_31n1_2 {E : zM → Prop} (h : aH86 E) : aP0 (aΘ12 E) 0 tX8_copyFrom_2 a86_X8_copyFrom_41n20_31n1_2 := ⟨rfl, aok_lda, rfl, aok_lda, rfl, aok_gf, rfl, aok_pf h.1, rfl, aok_lda, rfl, aok_lda, rfl, aok_gf, rfl, aok_pf h.1, rfl, aok_rv, trivial⟩
def b86_X8_copyFrom_41n20_31n1 : aTb := [(22, a86_X8_copyFrom_41n20_31n1_0), (46, a86_X8_copyFrom_41n20_31n1_1), (100000, a86_X8_copyFrom_41n20_31n1_2)]
theorem q86_X8_copyFrom_41n20_31n1 {E : zM → Prop} (h : aH86 E) : aP1 (aΘ12 E) 0 tX8_copyFrom b86_X8_copyFrom_41n20_31n1 := ⟨rfl, p86_X8_copyFrom_41n20_31n1_0 h, rfl, p86_X8_copyFrom_41n20_31n1_1 h, rfl, p86_X8_copyFrom_41n20_31n1_2 h, trivial⟩
def n86_X8_copyFrom_41n20_31n1 : List aNd := []
theorem k86_X8_copyFrom_41n20_31n1 {E : zM → Prop} (h : aH86 E) : aCv (aΘ12 E) 1 c86_X8_copyFrom_41n20_31n1 := aMeth (D := 0) (c := c86_X8_copyFrom_41n20_31n1) (tb := b86_X8_copyFrom_41n20_31n1) (ns := n86_X8_copyFrom_41n20_31n1) (fuel := 3000) rfl (q86_X8_copyFrom_41n20_31n1 h) (by decide +kernel)
abbrev c86_X1_copyFrom : aCt := (21, [.inr (some [34, 44, 51, 58, 65, 72, 79, 86, 93, 100, 107, 114, 121, 128, 135, 142, 149, 156, 163, 170, 177]), .inr (some [34, 44, 51, 58, 65, 72, 79, 86, 93, 100, 107, 114, 121, 128, 135, 142, 149, 156, 163, 170, 177])], none)
def a86_X1_copyFrom_0 : List (Nat × aF) := [(0, a_lda 0 1), (1, a_lda 1 1), (2, a_gf aT12 1 3 (.inl (0, 40))), (5, a_pf aT12 1 3 (.int)), (8, a_lda 1 1), (9, a_gf aT12 1 0 (.inr (some [35, 45, 52, 59, 66, 73, 80, 87, 94, 101, 108, 115, 122, 129, 136, 143, 150, 157, 164, 171, 178]))), (12, a_pi (0) 1), (13, a_lda 0 1), (14, a_gf aT12 1 0 (.inr (some [35, 45, 52, 59, 66, 73, 80, 87, 94, 101, 108, 115, 122, 129, 136, 143, 150, 157, 164, 171, 178]))), (17, a_pi (0) 1), (18, a_lda 0 1), (19, a_gf aT12 1 3 (.inl (0, 40)))]
theorem p86_X1_copyFrom_0 {E : zM → Prop} (h : aH86 E) : aP0 (aΘ12 E) 0 tX1_copyFrom_0 a86_X1_copyFrom_0 := ⟨rfl, aok_lda, rfl, aok_lda, rfl, aok_gf, rfl, aok_pf h.1, rfl, aok_lda, rfl, aok_gf, rfl, aok_pi rfl, rfl, aok_lda, rfl, aok_gf, rfl, aok_pi rfl, rfl, aok_lda, rfl, aok_gf, trivial⟩
def a86_X1_copyFrom_1 : List (Nat × aF) := [(22, a_cp aT12 0 (-2147483648, 2147483647)), (25, a_lda 1 1), (26, a_gf aT12 1 1 (.inr (some [36, 46, 53, 60, 67, 74, 81, 88, 95, 102, 109, 116, 123, 130, 137, 144, 151, 158, 165, 172, 179]))), (29, a_pi (0) 1), (30, a_lda 0 1), (31, a_gf aT12 1 1 (.inr (some [36, 46, 53, 60, 67, 74, 81, 88, 95, 102, 109, 116, 123, 130, 137, 144, 151, 158, 165, 172, 179]))), (34, a_pi (0) 1), (35, a_lda 0 1), (36, a_gf aT12 1 3 (.inl (0, 40))), (39, a_cp aT12 0 (-2147483648, 2147483647)), (42, a_lda 1 1), (43, a_gf aT12 1 2 (.inr (some [37, 47, 54, 61, 68, 75, 82, 89, 96, 103, 110, 117, 124, 131, 138, 145, 152, 159, 166, 173, 180])))]
theorem p86_X1_copyFrom_1 {E : zM → Prop} (h : aH86 E) : aP0 (aΘ12 E) 0 tX1_copyFrom_1 a86_X1_copyFrom_1 := ⟨rfl, aok_cp h.1, rfl, aok_lda, rfl, aok_gf, rfl, aok_pi rfl, rfl, aok_lda, rfl, aok_gf, rfl, aok_pi rfl, rfl, aok_lda, rfl, aok_gf, rfl, aok_cp h.1, rfl, aok_lda, rfl, aok_gf, trivial⟩
def a86_X1_copyFrom_2 : List (Nat × aF) := [(46, a_pi (0) 1), (47, a_lda 0 1), (48, a_gf aT12 1 2 (.inr (some [37, 47, 54, 61, 68, 75, 82, 89, 96, 103, 110, 117, 124, 131, 138, 145, 152, 159, 166, 173, 180]))), (51, a_pi (0) 1), (52, a_lda 0 1), (53, a_gf aT12 1 3 (.inl (0, 40))), (56, a_cp aT12 0 (-2147483648, 2147483647)), (59, a_rv)]
theorem p86_X1_copyFrom_2 {E : zM → Prop} (h : aH86 E) : aP0 (aΘ12 E) 0 tX1_copyFrom_2 a86_X1_copyFrom_2 := ⟨rfl, aok_pi rfl, rfl, aok_lda, rfl, aok_gf, rfl, aok_pi rfl, rfl, aok_lda, rfl, aok_gf, rfl, aok_cp h.1, rfl, aok_rv, trivial⟩
def b86_X1_copyFrom : aTb := [(22, a86_X1_copyFrom_0), (46, a86_X1_copyFrom_1), (100000, a86_X1_copyFrom_2)]
theorem q86_X1_copyFrom {E : zM → Prop} (h : aH86 E) : aP1 (aΘ12 E) 0 tX1_copyFrom b86_X1_copyFrom := ⟨rfl, p86_X1_copyFrom_0 h, rfl, p86_X1_copyFrom_1 h, rfl, p86_X1_copyFrom_2 h, trivial⟩
def n86_X1_copyFrom : List aNd := []
theorem k86_X1_copyFrom {E : zM → Prop} (h : aH86 E) : aCv (aΘ12 E) 1 c86_X1_copyFrom := aMeth (D := 0) (c := c86_X1_copyFrom) (tb := b86_X1_copyFrom) (ns := n86_X1_copyFrom) (fuel := 3000) rfl (q86_X1_copyFrom h) (by decide +kernel)
abbrev c86_X2_push : aCt := (23, [.inr (some [38]), .inr (some [31]), .inr (some [34])], none)
def a86_X2_push_0 : List (Nat × aF) := [(0, a_lda 0 1), (1, a_gf aT12 2 0 (.inr (some [39]))), (4, a_lda 0 1), (5, a_gf aT12 2 2 (.inl (0, 19))), (8, a_aal aT12 3 [41, 48, 55, 62, 69, 76, 83, 90, 97, 104, 111, 118, 125, 132, 139, 146, 153, 160, 167, 174]), (9, a_lda 1 1), (10, a_cv aT12 c86_X8_copyFrom_41n20_31n1 1 8), (13, a_lda 0 1), (14, a_gf aT12 2 1 (.inr (some [40]))), (17, a_lda 0 1), (18, a_gf aT12 2 2 (.inl (0, 19))), (21, a_aal aT12 4 [44, 51, 58, 65, 72, 79, 86, 93, 100, 107, 114, 121, 128, 135, 142, 149, 156, 163, 170, 177])]
theorem p86_X2_push_0 {E : zM → Prop} (h : aH86 E) : aP0 (aΘ12 E) 1 tX2_push_0 a86_X2_push_0 := ⟨rfl, aok_lda, rfl, aok_gf, rfl, aok_lda, rfl, aok_gf, rfl, aok_aal, rfl, aok_lda, rfl, aok_cv (c := c86_X8_copyFrom_41n20_31n1) (D' := 1) (k86_X8_copyFrom_41n20_31n1 h) (by decide), rfl, aok_lda, rfl, aok_gf, rfl, aok_lda, rfl, aok_gf, rfl, aok_aal, trivial⟩
def a86_X2_push_1 : List (Nat × aF) := [(22, a_lda 2 1), (23, a_cv aT12 c86_X1_copyFrom 1 1), (26, a_lda 0 1), (27, a_lda 0 1), (28, a_gf aT12 2 2 (.inl (0, 19))), (31, a_pi (1) 1), (32, a_b2 g_add), (33, a_pi (20) 2), (35, a_d2 g_rem), (36, a_pf aT12 2 2 (.int)), (39, a_lda 0 1), (40, a_lda 0 1)]
theorem p86_X2_push_1 {E : zM → Prop} (h : aH86 E) : aP0 (aΘ12 E) 1 tX2_push_1 a86_X2_push_1 := ⟨rfl, aok_lda, rfl, aok_cv (c := c86_X1_copyFrom) (D' := 1) (k86_X1_copyFrom h) (by decide), rfl, aok_lda, rfl, aok_lda, rfl, aok_gf, rfl, aok_pi rfl, rfl, aok_b2 sd_add, rfl, aok_pi rfl, rfl, aok_d2 sp_rem, rfl, aok_pf h.1, rfl, aok_lda, rfl, aok_lda, trivial⟩
def a86_X2_push_2 : List (Nat × aF) := [(41, a_gf aT12 2 3 (.inl (0, 20))), (44, a_pi (1) 1), (45, a_b2 g_add), (46, a_pi (20) 2), (48, a_mm false), (51, a_pf aT12 2 3 (.int)), (54, a_rv)]
theorem p86_X2_push_2 {E : zM → Prop} (h : aH86 E) : aP0 (aΘ12 E) 1 tX2_push_2 a86_X2_push_2 := ⟨rfl, aok_gf, rfl, aok_pi rfl, rfl, aok_b2 sd_add, rfl, aok_pi rfl, rfl, aok_mmin, rfl, aok_pf h.1, rfl, aok_rv, trivial⟩
def b86_X2_push : aTb := [(22, a86_X2_push_0), (41, a86_X2_push_1), (100000, a86_X2_push_2)]
theorem q86_X2_push {E : zM → Prop} (h : aH86 E) : aP1 (aΘ12 E) 1 tX2_push b86_X2_push := ⟨rfl, p86_X2_push_0 h, rfl, p86_X2_push_1 h, rfl, p86_X2_push_2 h, trivial⟩
def n86_X2_push : List aNd := []
theorem k86_X2_push {E : zM → Prop} (h : aH86 E) : aCv (aΘ12 E) 2 c86_X2_push := aMeth (D := 1) (c := c86_X2_push) (tb := b86_X2_push) (ns := n86_X2_push) (fuel := 3000) rfl (q86_X2_push h) (by decide +kernel)
abbrev c86_X8_isMissing : aCt := (81, [.inr (some [31]), .inl (0, 8)], some (.inl (0, 1)))
def a86_X8_isMissing_0 : List (Nat × aF) := [(0, a_lda 0 1), (1, a_gf aT12 8 1 (.inl (0, 511))), (4, a_ldi 1 1), (5, a_b2 g_shr), (6, a_pi (1) 1), (7, a_b2 g_and), (8, a_if c_eq c_ne 3 15), (11, a_pi (1) 1), (12, a_gt 16), (15, a_pi (0) 1), (16, a_ri true)]
theorem p86_X8_isMissing_0 {E : zM → Prop} (h : aH86 E) : aP0 (aΘ12 E) 0 tX8_isMissing_0 a86_X8_isMissing_0 := ⟨rfl, aok_lda, rfl, aok_gf, rfl, aok_ldi, rfl, aok_b2 sd_shr, rfl, aok_pi rfl, rfl, aok_b2 sd_and, rfl, aok_if si_eq, rfl, aok_pi rfl, rfl, aok_gt, rfl, aok_pi rfl, rfl, aok_ri, trivial⟩
def b86_X8_isMissing : aTb := [(100000, a86_X8_isMissing_0)]
theorem q86_X8_isMissing {E : zM → Prop} (h : aH86 E) : aP1 (aΘ12 E) 0 tX8_isMissing b86_X8_isMissing := ⟨rfl, p86_X8_isMissing_0 h, trivial⟩
def n86_X8_isMissing : List aNd := []
theorem k86_X8_isMissing {E : zM → Prop} (h : aH86 E) : aCv (aΘ12 E) 1 c86_X8_isMissing := aMeth (D := 0) (c := c86_X8_isMissing) (tb := b86_X8_isMissing) (ns := n86_X8_isMissing) (fuel := 3000) rfl (q86_X8_isMissing h) (by decide +kernel)
abbrev c86_X7_isTold : aCt := (75, [.inr (some [10, 22]), .inl (0, 2)], some (.inl (0, 1)))
def a86_X7_isTold_0 : List (Nat × aF) := [(0, a_lda 0 1), (1, a_gf aT12 7 2 (.inr (some [13, 25]))), (4, a_ldi 1 1), (5, a_al aT12 0 (0, 1600)), (6, a_lda 0 1), (7, a_gf aT12 7 1 (.inr (some [12, 24]))), (10, a_ldi 1 1), (11, a_al aT12 0 (0, 1600)), (12, a_ic d_le d_gt 3 19), (15, a_pi (1) 1), (16, a_gt 20), (19, a_pi (0) 1)]
theorem p86_X7_isTold_0 {E : zM → Prop} (h : aH86 E) : aP0 (aΘ12 E) 0 tX7_isTold_0 a86_X7_isTold_0 := ⟨rfl, aok_lda, rfl, aok_gf, rfl, aok_ldi, rfl, aok_al, rfl, aok_lda, rfl, aok_gf, rfl, aok_ldi, rfl, aok_al, rfl, aok_ic sj_le, rfl, aok_pi rfl, rfl, aok_gt, rfl, aok_pi rfl, trivial⟩
def a86_X7_isTold_1 : List (Nat × aF) := [(20, a_ri true)]
theorem p86_X7_isTold_1 {E : zM → Prop} (h : aH86 E) : aP0 (aΘ12 E) 0 tX7_isTold_1 a86_X7_isTold_1 := ⟨rfl, aok_ri, trivial⟩
def b86_X7_isTold : aTb := [(20, a86_X7_isTold_0), (100000, a86_X7_isTold_1)]
theorem q86_X7_isTold {E : zM → Prop} (h : aH86 E) : aP1 (aΘ12 E) 0 tX7_isTold b86_X7_isTold := ⟨rfl, p86_X7_isTold_0 h, rfl, p86_X7_isTold_1 h, trivial⟩
def n86_X7_isTold : List aNd := []
theorem k86_X7_isTold {E : zM → Prop} (h : aH86 E) : aCv (aΘ12 E) 1 c86_X7_isTold := aMeth (D := 0) (c := c86_X7_isTold) (tb := b86_X7_isTold) (ns := n86_X7_isTold) (fuel := 3000) rfl (q86_X7_isTold h) (by decide +kernel)
abbrev c86_X0_hueOf : aCt := (15, [.inr (some [181]), .inr (some [31]), .inl (0, 8)], some (.inl (-2147483648, 2147483647)))
def a86_X0_hueOf_0 : List (Nat × aF) := [(0, a_ldi 2 1), (1, a_lda 1 1), (2, a_gf aT12 8 4 (.inl (-1, -1))), (5, a_ic d_ne d_eq 3 15), (8, a_lda 1 1), (9, a_no), (12, a_gt 24), (15, a_lda 0 1), (16, a_gf aT12 0 0 (.inr (some [2, 14]))), (19, a_gf aT12 4 10 (.inr (some [5, 17]))), (22, a_ldi 2 1), (23, a_al aT12 0 (-2147483648, 2147483647))]
theorem p86_X0_hueOf_0 {E : zM → Prop} (h : aH86 E) : aP0 (aΘ12 E) 0 tX0_hueOf_0 a86_X0_hueOf_0 := ⟨rfl, aok_ldi, rfl, aok_lda, rfl, aok_gf, rfl, aok_ic sj_ne, rfl, aok_lda, rfl, aok_no, rfl, aok_gt, rfl, aok_lda, rfl, aok_gf, rfl, aok_gf, rfl, aok_ldi, rfl, aok_al, trivial⟩
def a86_X0_hueOf_1 : List (Nat × aF) := [(24, a_ri false)]
theorem p86_X0_hueOf_1 {E : zM → Prop} (h : aH86 E) : aP0 (aΘ12 E) 0 tX0_hueOf_1 a86_X0_hueOf_1 := ⟨rfl, aok_ri, trivial⟩
def b86_X0_hueOf : aTb := [(24, a86_X0_hueOf_0), (100000, a86_X0_hueOf_1)]
theorem q86_X0_hueOf {E : zM → Prop} (h : aH86 E) : aP1 (aΘ12 E) 0 tX0_hueOf b86_X0_hueOf := ⟨rfl, p86_X0_hueOf_0 h, rfl, p86_X0_hueOf_1 h, trivial⟩
def n86_X0_hueOf : List aNd := []
theorem k86_X0_hueOf {E : zM → Prop} (h : aH86 E) : aCv (aΘ12 E) 1 c86_X0_hueOf := aMeth (D := 0) (c := c86_X0_hueOf) (tb := b86_X0_hueOf) (ns := n86_X0_hueOf) (fuel := 3000) rfl (q86_X0_hueOf h) (by decide +kernel)
abbrev c86_J6_bitCount_0f7a4 : aCt := (279, [.inl (0, 511)], some (.inl (0, 63)))
def a86_J6_bitCount_0f7a4_0 : List (Nat × aF) := [(0, a_ldi 0 1), (1, a_ldi 0 1), (2, a_pi (1) 1), (3, a_b2 g_top), (4, a_pi (1431655765) 3), (7, a_b2 g_and), (8, a_b2 g_sub), (9, a_sti 1 0 1), (10, a_ldi 0 1), (11, a_pi (858993459) 3), (14, a_b2 g_and), (15, a_ldi 0 1)]
theorem p86_J6_bitCount_0f7a4_0 {E : zM → Prop} (h : aH86 E) : aP0 (aΘ12 E) 0 tJ6_bitCount_0f7a4_0 a86_J6_bitCount_0f7a4_0 := ⟨rfl, aok_ldi, rfl, aok_ldi, rfl, aok_pi rfl, rfl, aok_b2 sd_top, rfl, aok_pi rfl, rfl, aok_b2 sd_and, rfl, aok_b2 sd_sub, rfl, aok_sti, rfl, aok_ldi, rfl, aok_pi rfl, rfl, aok_b2 sd_and, rfl, aok_ldi, trivial⟩
def a86_J6_bitCount_0f7a4_1 : List (Nat × aF) := [(16, a_pi (2) 1), (17, a_b2 g_top), (18, a_pi (858993459) 3), (21, a_b2 g_and), (22, a_b2 g_add), (23, a_sti 1 0 1), (24, a_ldi 0 1), (25, a_ldi 0 1), (26, a_pi (4) 1), (27, a_b2 g_top), (28, a_b2 g_add), (29, a_pi (252645135) 3)]
theorem p86_J6_bitCount_0f7a4_1 {E : zM → Prop} (h : aH86 E) : aP0 (aΘ12 E) 0 tJ6_bitCount_0f7a4_1 a86_J6_bitCount_0f7a4_1 := ⟨rfl, aok_pi rfl, rfl, aok_b2 sd_top, rfl, aok_pi rfl, rfl, aok_b2 sd_and, rfl, aok_b2 sd_add, rfl, aok_sti, rfl, aok_ldi, rfl, aok_ldi, rfl, aok_pi rfl, rfl, aok_b2 sd_top, rfl, aok_b2 sd_add, rfl, aok_pi rfl, trivial⟩
def a86_J6_bitCount_0f7a4_2 : List (Nat × aF) := [(32, a_b2 g_and), (33, a_sti 1 0 1), (34, a_ldi 0 1), (35, a_ldi 0 1), (36, a_pi (8) 2), (38, a_b2 g_top), (39, a_b2 g_add), (40, a_sti 1 0 1), (41, a_ldi 0 1), (42, a_ldi 0 1), (43, a_pi (16) 2), (45, a_b2 g_top)]
theorem p86_J6_bitCount_0f7a4_2 {E : zM → Prop} (h : aH86 E) : aP0 (aΘ12 E) 0 tJ6_bitCount_0f7a4_2 a86_J6_bitCount_0f7a4_2 := ⟨rfl, aok_b2 sd_and, rfl, aok_sti, rfl, aok_ldi, rfl, aok_ldi, rfl, aok_pi rfl, rfl, aok_b2 sd_top, rfl, aok_b2 sd_add, rfl, aok_sti, rfl, aok_ldi, rfl, aok_ldi, rfl, aok_pi rfl, rfl, aok_b2 sd_top, trivial⟩
def a86_J6_bitCount_0f7a4_3 : List (Nat × aF) := [(46, a_b2 g_add), (47, a_sti 1 0 1), (48, a_ldi 0 1), (49, a_pi (63) 2), (51, a_b2 g_and), (52, a_ri false)]
theorem p86_J6_bitCount_0f7a4_3 {E : zM → Prop} (h : aH86 E) : aP0 (aΘ12 E) 0 tJ6_bitCount_0f7a4_3 a86_J6_bitCount_0f7a4_3 := ⟨rfl, aok_b2 sd_add, rfl, aok_sti, rfl, aok_ldi, rfl, aok_pi rfl, rfl, aok_b2 sd_and, rfl, aok_ri, trivial⟩
def b86_J6_bitCount_0f7a4 : aTb := [(16, a86_J6_bitCount_0f7a4_0), (32, a86_J6_bitCount_0f7a4_1), (46, a86_J6_bitCount_0f7a4_2), (100000, a86_J6_bitCount_0f7a4_3)]
theorem q86_J6_bitCount_0f7a4 {E : zM → Prop} (h : aH86 E) : aP1 (aΘ12 E) 0 tJ6_bitCount_0f7a4 b86_J6_bitCount_0f7a4 := ⟨rfl, p86_J6_bitCount_0f7a4_0 h, rfl, p86_J6_bitCount_0f7a4_1 h, rfl, p86_J6_bitCount_0f7a4_2 h, rfl, p86_J6_bitCount_0f7a4_3 h, trivial⟩
def n86_J6_bitCount_0f7a4 : List aNd := []
theorem k86_J6_bitCount_0f7a4 {E : zM → Prop} (h : aH86 E) : aCv (aΘ12 E) 1 c86_J6_bitCount_0f7a4 := aMeth (D := 0) (c := c86_J6_bitCount_0f7a4) (tb := b86_J6_bitCount_0f7a4) (ns := n86_J6_bitCount_0f7a4) (fuel := 3000) rfl (q86_J6_bitCount_0f7a4 h) (by decide +kernel)
abbrev c86_X0_setOut : aCt := (14, [.inr (some [181]), .inr (some [31]), .inl (0, 8)], none)
def a86_X0_setOut_0 : List (Nat × aF) := [(0, a_lda 0 1), (1, a_gf aT12 0 1 (.inr (some [182]))), (4, a_lda 1 1), (5, a_gf aT12 8 0 (.inl (-2147483648, 2147483647))), (8, a_pf aT12 6 1 (.int)), (11, a_lda 0 1), (12, a_gf aT12 0 1 (.inr (some [182]))), (15, a_lda 0 1), (16, a_lda 1 1), (17, a_ldi 2 1), (18, a_cv aT12 c86_X0_hueOf 2 0), (21, a_pf aT12 6 2 (.int))]
theorem p86_X0_setOut_0 {E : zM → Prop} (h : aH86 E) : aP0 (aΘ12 E) 1 tX0_setOut_0 a86_X0_setOut_0 := ⟨rfl, aok_lda, rfl, aok_gf, rfl, aok_lda, rfl, aok_gf, rfl, aok_pf h.1, rfl, aok_lda, rfl, aok_gf, rfl, aok_lda, rfl, aok_lda, rfl, aok_ldi, rfl, aok_cv (c := c86_X0_hueOf) (D' := 1) (k86_X0_hueOf h) (by decide), rfl, aok_pf h.1, trivial⟩
def a86_X0_setOut_1 : List (Nat × aF) := [(24, a_lda 0 1), (25, a_gf aT12 0 1 (.inr (some [182]))), (28, a_lda 0 1), (29, a_gf aT12 0 0 (.inr (some [2, 14]))), (32, a_gf aT12 4 11 (.inr (some [6, 18]))), (35, a_ldi 2 1), (36, a_al aT12 0 (-2147483648, 2147483647)), (37, a_pf aT12 6 3 (.int)), (40, a_lda 0 1), (41, a_gf aT12 0 1 (.inr (some [182]))), (44, a_lda 1 1), (45, a_gf aT12 8 2 (.inr (some [32])))]
theorem p86_X0_setOut_1 {E : zM → Prop} (h : aH86 E) : aP0 (aΘ12 E) 1 tX0_setOut_1 a86_X0_setOut_1 := ⟨rfl, aok_lda, rfl, aok_gf, rfl, aok_lda, rfl, aok_gf, rfl, aok_gf, rfl, aok_ldi, rfl, aok_al, rfl, aok_pf h.1, rfl, aok_lda, rfl, aok_gf, rfl, aok_lda, rfl, aok_gf, trivial⟩
def a86_X0_setOut_2 : List (Nat × aF) := [(48, a_ldi 2 1), (49, a_al aT12 0 (-2147483648, 2147483647)), (50, a_pf aT12 6 4 (.int)), (53, a_lda 0 1), (54, a_gf aT12 0 1 (.inr (some [182]))), (57, a_lda 1 1), (58, a_gf aT12 8 1 (.inl (0, 511))), (61, a_cs c86_J6_bitCount_0f7a4 1), (64, a_pf aT12 6 5 (.int)), (67, a_rv)]
theorem p86_X0_setOut_2 {E : zM → Prop} (h : aH86 E) : aP0 (aΘ12 E) 1 tX0_setOut_2 a86_X0_setOut_2 := ⟨rfl, aok_ldi, rfl, aok_al, rfl, aok_pf h.1, rfl, aok_lda, rfl, aok_gf, rfl, aok_lda, rfl, aok_gf, rfl, aok_cs (c := c86_J6_bitCount_0f7a4) (D' := 1) (k86_J6_bitCount_0f7a4 h) (by decide), rfl, aok_pf h.1, rfl, aok_rv, trivial⟩
def b86_X0_setOut : aTb := [(24, a86_X0_setOut_0), (48, a86_X0_setOut_1), (100000, a86_X0_setOut_2)]
theorem q86_X0_setOut {E : zM → Prop} (h : aH86 E) : aP1 (aΘ12 E) 1 tX0_setOut b86_X0_setOut := ⟨rfl, p86_X0_setOut_0 h, rfl, p86_X0_setOut_1 h, rfl, p86_X0_setOut_2 h, trivial⟩
def n86_X0_setOut : List aNd := []
theorem k86_X0_setOut {E : zM → Prop} (h : aH86 E) : aCv (aΘ12 E) 2 c86_X0_setOut := aMeth (D := 1) (c := c86_X0_setOut) (tb := b86_X0_setOut) (ns := n86_X0_setOut) (fuel := 3000) rfl (q86_X0_setOut h) (by decide +kernel)
abbrev c86_X6_bounded : aCt := (72, [.inr none], some (.inl (-2147483648, 2147483647)))
def a86_X6_bounded_0 : List (Nat × aF) := [(0, a_ldl 0 1), (1, a_pl 3), (4, a_cm), (5, a_if c_le c_gt 3 11), (8, a_pi (1000000) 2), (10, a_ri false), (11, a_ldl 0 1), (12, a_pl 3), (15, a_cm), (16, a_if c_ge c_lt 3 24), (19, a_pi (-1000000) 2), (21, a_gt 26)]
theorem p86_X6_bounded_0 {E : zM → Prop} (h : aH86 E) : aP0 (aΘ12 E) 0 tX6_bounded_0 a86_X6_bounded_0 := ⟨rfl, aok_ldl, rfl, aok_pl, rfl, aok_cm, rfl, aok_if si_le, rfl, aok_pi rfl, rfl, aok_ri, rfl, aok_ldl, rfl, aok_pl, rfl, aok_cm, rfl, aok_if si_ge, rfl, aok_pi rfl, rfl, aok_gt, trivial⟩
def a86_X6_bounded_1 : List (Nat × aF) := [(24, a_ldl 0 1), (25, a_l2i), (26, a_ri false)]
theorem p86_X6_bounded_1 {E : zM → Prop} (h : aH86 E) : aP0 (aΘ12 E) 0 tX6_bounded_1 a86_X6_bounded_1 := ⟨rfl, aok_ldl, rfl, aok_l2i, rfl, aok_ri, trivial⟩
def b86_X6_bounded : aTb := [(24, a86_X6_bounded_0), (100000, a86_X6_bounded_1)]
theorem q86_X6_bounded {E : zM → Prop} (h : aH86 E) : aP1 (aΘ12 E) 0 tX6_bounded b86_X6_bounded := ⟨rfl, p86_X6_bounded_0 h, rfl, p86_X6_bounded_1 h, trivial⟩
def n86_X6_bounded : List aNd := []
theorem k86_X6_bounded {E : zM → Prop} (h : aH86 E) : aCv (aΘ12 E) 1 c86_X6_bounded := aMeth (D := 0) (c := c86_X6_bounded) (tb := b86_X6_bounded) (ns := n86_X6_bounded) (fuel := 3000) rfl (q86_X6_bounded h) (by decide +kernel)
def a86_J9_floorDiv_7cf53_0 : List (Nat × aF) := [(0, a_ldi 0 1), (1, a_ldi 1 1), (2, a_d3), (3, a_sti 3 2 1), (4, a_ldi 0 1), (5, a_ldi 1 1), (6, a_b2 g_or), (7, a_if c_ge c_lt 3 21), (10, a_ldi 2 1), (11, a_ldi 1 1), (12, a_b2 g_mul), (13, a_ldi 0 1)]
theorem p86_J9_floorDiv_7cf53_0 {E : zM → Prop} (h : aH86 E) : aP0 (aΘ12 E) 0 tJ9_floorDiv_7cf53_0 a86_J9_floorDiv_7cf53_0 := ⟨rfl, aok_ldi, rfl, aok_ldi, rfl, aok_d3, rfl, aok_sti, rfl, aok_ldi, rfl, aok_ldi, rfl, aok_b2 sd_xor, rfl, aok_if si_ge, rfl, aok_ldi, rfl, aok_ldi, rfl, aok_b2 sd_mul, rfl, aok_ldi, trivial⟩
def a86_J9_floorDiv_7cf53_1 : List (Nat × aF) := [(14, a_ic d_eq d_ne 3 21), (17, a_ldi 2 1), (18, a_pi (1) 1), (19, a_b2 g_sub), (20, a_ri false), (21, a_ldi 2 1), (22, a_ri false)]
theorem p86_J9_floorDiv_7cf53_1 {E : zM → Prop} (h : aH86 E) : aP0 (aΘ12 E) 0 tJ9_floorDiv_7cf53_1 a86_J9_floorDiv_7cf53_1 := ⟨rfl, aok_ic sj_eq, rfl, aok_ldi, rfl, aok_pi rfl, rfl, aok_b2 sd_sub, rfl, aok_ri, rfl, aok_ldi, rfl, aok_ri, trivial⟩
def b86_J9_floorDiv_7cf53 : aTb := [(14, a86_J9_floorDiv_7cf53_0), (100000, a86_J9_floorDiv_7cf53_1)]
theorem q86_J9_floorDiv_7cf53 {E : zM → Prop} (h : aH86 E) : aP1 (aΘ12 E) 0 tJ9_floorDiv_7cf53 b86_J9_floorDiv_7cf53 := ⟨rfl, p86_J9_floorDiv_7cf53_0 h, rfl, p86_J9_floorDiv_7cf53_1 h, trivial⟩
def a86_J9_floorMod_7cf53_0 : List (Nat × aF) := [(0, a_ldi 0 1), (1, a_ldi 1 1), (2, a_d3), (3, a_sti 3 2 1), (4, a_ldi 0 1), (5, a_ldi 1 1), (6, a_b2 g_or), (7, a_if c_ge c_lt 3 18), (10, a_ldi 2 1), (11, a_if c_eq c_ne 3 18), (14, a_ldi 2 1), (15, a_ldi 1 1)]
theorem p86_J9_floorMod_7cf53_0 {E : zM → Prop} (h : aH86 E) : aP0 (aΘ12 E) 0 tJ9_floorMod_7cf53_0 a86_J9_floorMod_7cf53_0 := ⟨rfl, aok_ldi, rfl, aok_ldi, rfl, aok_d3, rfl, aok_sti, rfl, aok_ldi, rfl, aok_ldi, rfl, aok_b2 sd_xor, rfl, aok_if si_ge, rfl, aok_ldi, rfl, aok_if si_eq, rfl, aok_ldi, rfl, aok_ldi, trivial⟩
def a86_J9_floorMod_7cf53_1 : List (Nat × aF) := [(16, a_b2 g_add), (17, a_ri false), (18, a_ldi 2 1), (19, a_ri false)]
theorem p86_J9_floorMod_7cf53_1 {E : zM → Prop} (h : aH86 E) : aP0 (aΘ12 E) 0 tJ9_floorMod_7cf53_1 a86_J9_floorMod_7cf53_1 := ⟨rfl, aok_b2 sd_add, rfl, aok_ri, rfl, aok_ldi, rfl, aok_ri, trivial⟩
def b86_J9_floorMod_7cf53 : aTb := [(16, a86_J9_floorMod_7cf53_0), (100000, a86_J9_floorMod_7cf53_1)]
theorem q86_J9_floorMod_7cf53 {E : zM → Prop} (h : aH86 E) : aP1 (aΘ12 E) 0 tJ9_floorMod_7cf53 b86_J9_floorMod_7cf53 := ⟨rfl, p86_J9_floorMod_7cf53_0 h, rfl, p86_J9_floorMod_7cf53_1 h, trivial⟩
abbrev c86_X6_joined : aCt := (71, [.inl (20, 2147483647), .inl (-2147483648, 2147483647), .inl (-2147483648, 2147483647)], some (.inl (-2147483648, 2147483647)))
def a86_X6_joined_0 : List (Nat × aF) := [(0, a_ldi 0 1), (1, a_ts [(21, 178), (24, 178), (37, 131), (42, 108), (43, 92), (45, 100), (47, 117), (60, 145), (61, 167), (62, 156)] 184), (92, a_ldi 1 1), (93, a_ldi 2 1), (94, a_b2 g_add), (95, a_il), (96, a_cs c86_X6_bounded 1), (99, a_ri false), (100, a_ldi 1 1), (101, a_ldi 2 1), (102, a_b2 g_sub), (103, a_il)]
theorem p86_X6_joined_0 {E : zM → Prop} (h : aH86 E) : aP0 (aΘ12 E) 1 tX6_joined_0 a86_X6_joined_0 := ⟨rfl, aok_ldi, rfl, aok_ts, rfl, aok_ldi, rfl, aok_ldi, rfl, aok_b2 sd_add, rfl, aok_il, rfl, aok_cs (c := c86_X6_bounded) (D' := 1) (k86_X6_bounded h) (by decide), rfl, aok_ri, rfl, aok_ldi, rfl, aok_ldi, rfl, aok_b2 sd_sub, rfl, aok_il, trivial⟩
def a86_X6_joined_1 : List (Nat × aF) := [(104, a_cs c86_X6_bounded 1), (107, a_ri false), (108, a_ldi 1 1), (109, a_il), (110, a_ldi 2 1), (111, a_il), (112, a_l2), (113, a_cs c86_X6_bounded 1), (116, a_ri false), (117, a_ldi 2 1), (118, a_ifs 3 125), (121, a_pi (0) 1)]
theorem p86_X6_joined_1 {E : zM → Prop} (h : aH86 E) : aP0 (aΘ12 E) 1 tX6_joined_1 a86_X6_joined_1 := ⟨rfl, aok_cs (c := c86_X6_bounded) (D' := 1) (k86_X6_bounded h) (by decide), rfl, aok_ri, rfl, aok_ldi, rfl, aok_il, rfl, aok_ldi, rfl, aok_il, rfl, aok_l2, rfl, aok_cs (c := c86_X6_bounded) (D' := 1) (k86_X6_bounded h) (by decide), rfl, aok_ri, rfl, aok_ldi, rfl, aok_ifs, rfl, aok_pi rfl, trivial⟩
def a86_X6_joined_2 : List (Nat × aF) := [(122, a_gt 130), (125, a_ldi 1 1), (126, a_ldi 2 1), (127, a_is b86_J9_floorDiv_7cf53 400 3 2), (130, a_ri false), (131, a_ldi 2 1), (132, a_ifs 3 139), (135, a_pi (0) 1), (136, a_gt 144), (139, a_ldi 1 1), (140, a_ldi 2 1), (141, a_is b86_J9_floorMod_7cf53 400 3 2)]
theorem p86_X6_joined_2 {E : zM → Prop} (h : aH86 E) : aP0 (aΘ12 E) 1 tX6_joined_2 a86_X6_joined_2 := ⟨rfl, aok_gt, rfl, aok_ldi, rfl, aok_ldi, rfl, aok_is (D' := 0) rfl (q86_J9_floorDiv_7cf53 h) (by decide), rfl, aok_ri, rfl, aok_ldi, rfl, aok_ifs, rfl, aok_pi rfl, rfl, aok_gt, rfl, aok_ldi, rfl, aok_ldi, rfl, aok_is (D' := 0) rfl (q86_J9_floorMod_7cf53 h) (by decide), trivial⟩
def a86_X6_joined_3 : List (Nat × aF) := [(144, a_ri false), (145, a_ldi 1 1), (146, a_ldi 2 1), (147, a_ic d_ge d_lt 3 154), (150, a_pi (1) 1), (151, a_gt 155), (154, a_pi (0) 1), (155, a_ri false), (156, a_ldi 1 1), (157, a_ldi 2 1), (158, a_ic d_le d_gt 3 165), (161, a_pi (1) 1)]
theorem p86_X6_joined_3 {E : zM → Prop} (h : aH86 E) : aP0 (aΘ12 E) 1 tX6_joined_3 a86_X6_joined_3 := ⟨rfl, aok_ri, rfl, aok_ldi, rfl, aok_ldi, rfl, aok_ic sj_ge, rfl, aok_pi rfl, rfl, aok_gt, rfl, aok_pi rfl, rfl, aok_ri, rfl, aok_ldi, rfl, aok_ldi, rfl, aok_ic sj_le, rfl, aok_pi rfl, trivial⟩
def a86_X6_joined_4 : List (Nat × aF) := [(162, a_gt 166), (165, a_pi (0) 1), (166, a_ri false), (167, a_ldi 1 1), (168, a_ldi 2 1), (169, a_ic d_ne d_eq 3 176), (172, a_pi (1) 1), (173, a_gt 177), (176, a_pi (0) 1), (177, a_ri false), (178, a_ldi 1 1), (179, a_ldi 2 1)]
theorem p86_X6_joined_4 {E : zM → Prop} (h : aH86 E) : aP0 (aΘ12 E) 1 tX6_joined_4 a86_X6_joined_4 := ⟨rfl, aok_gt, rfl, aok_pi rfl, rfl, aok_ri, rfl, aok_ldi, rfl, aok_ldi, rfl, aok_ic sj_ne, rfl, aok_pi rfl, rfl, aok_gt, rfl, aok_pi rfl, rfl, aok_ri, rfl, aok_ldi, rfl, aok_ldi, trivial⟩
def a86_X6_joined_5 : List (Nat × aF) := [(180, a_mm false), (183, a_ri false), (184, a_ldi 1 1), (185, a_ldi 2 1), (186, a_mm true), (189, a_ri false)]
theorem p86_X6_joined_5 {E : zM → Prop} (h : aH86 E) : aP0 (aΘ12 E) 1 tX6_joined_5 a86_X6_joined_5 := ⟨rfl, aok_mmin, rfl, aok_ri, rfl, aok_ldi, rfl, aok_ldi, rfl, aok_mmax, rfl, aok_ri, trivial⟩
def b86_X6_joined : aTb := [(104, a86_X6_joined_0), (122, a86_X6_joined_1), (144, a86_X6_joined_2), (162, a86_X6_joined_3), (180, a86_X6_joined_4), (100000, a86_X6_joined_5)]
theorem q86_X6_joined {E : zM → Prop} (h : aH86 E) : aP1 (aΘ12 E) 1 tX6_joined b86_X6_joined := ⟨rfl, p86_X6_joined_0 h, rfl, p86_X6_joined_1 h, rfl, p86_X6_joined_2 h, rfl, p86_X6_joined_3 h, rfl, p86_X6_joined_4 h, rfl, p86_X6_joined_5 h, trivial⟩
def n86_X6_joined : List aNd := []
theorem k86_X6_joined {E : zM → Prop} (h : aH86 E) : aCv (aΘ12 E) 2 c86_X6_joined := aMeth (D := 1) (c := c86_X6_joined) (tb := b86_X6_joined) (ns := n86_X6_joined) (fuel := 3000) rfl (q86_X6_joined h) (by decide +kernel)
abbrev c86_X6_named : aCt := (70, [.inr (some [182]), .inl (0, 23)], some (.inl (-2147483648, 2147483647)))
def a86_X6_named_0 : List (Nat × aF) := [(0, a_ldi 1 1), (1, a_ts [(7, 69), (8, 74), (9, 94), (10, 94), (11, 94), (12, 94), (13, 94), (14, 94), (15, 64), (16, 79), (17, 84), (18, 89)] 94), (64, a_lda 0 1), (65, a_gf aT12 6 1 (.inl (-2147483648, 2147483647))), (68, a_ri false), (69, a_lda 0 1), (70, a_gf aT12 6 2 (.inl (-2147483648, 2147483647))), (73, a_ri false), (74, a_lda 0 1), (75, a_gf aT12 6 3 (.inl (-2147483648, 2147483647))), (78, a_ri false), (79, a_lda 0 1)]
theorem p86_X6_named_0 {E : zM → Prop} (h : aH86 E) : aP0 (aΘ12 E) 0 tX6_named_0 a86_X6_named_0 := ⟨rfl, aok_ldi, rfl, aok_ts, rfl, aok_lda, rfl, aok_gf, rfl, aok_ri, rfl, aok_lda, rfl, aok_gf, rfl, aok_ri, rfl, aok_lda, rfl, aok_gf, rfl, aok_ri, rfl, aok_lda, trivial⟩
def a86_X6_named_1 : List (Nat × aF) := [(80, a_gf aT12 6 4 (.inl (-2147483648, 2147483647))), (83, a_ri false), (84, a_lda 0 1), (85, a_gf aT12 6 5 (.inl (-2147483648, 2147483647))), (88, a_ri false), (89, a_lda 0 1), (90, a_gf aT12 6 6 (.inl (-2147483648, 2147483647))), (93, a_ri false), (94, a_pi (1) 1), (95, a_ri false)]
theorem p86_X6_named_1 {E : zM → Prop} (h : aH86 E) : aP0 (aΘ12 E) 0 tX6_named_1 a86_X6_named_1 := ⟨rfl, aok_gf, rfl, aok_ri, rfl, aok_lda, rfl, aok_gf, rfl, aok_ri, rfl, aok_lda, rfl, aok_gf, rfl, aok_ri, rfl, aok_pi rfl, rfl, aok_ri, trivial⟩
def b86_X6_named : aTb := [(80, a86_X6_named_0), (100000, a86_X6_named_1)]
theorem q86_X6_named {E : zM → Prop} (h : aH86 E) : aP1 (aΘ12 E) 0 tX6_named b86_X6_named := ⟨rfl, p86_X6_named_0 h, rfl, p86_X6_named_1 h, trivial⟩
def n86_X6_named : List aNd := []
theorem k86_X6_named {E : zM → Prop} (h : aH86 E) : aCv (aΘ12 E) 1 c86_X6_named := aMeth (D := 0) (c := c86_X6_named) (tb := b86_X6_named) (ns := n86_X6_named) (fuel := 3000) rfl (q86_X6_named h) (by decide +kernel)
abbrev c86_X6_value : aCt := (69, [.inr (some [182]), .inr (some [10, 22]), .inl (0, 2)], some (.inl (-2147483648, 2147483647)))
def a86_X6_value_0 : List (Nat × aF) := [(0, a_pi (2) 1), (1, a_sti 7 3 1), (2, a_lda 1 1), (3, a_gf aT12 7 1 (.inr (some [12, 24]))), (6, a_ldi 2 1), (7, a_al aT12 0 (0, 1600)), (8, a_sti 7 4 2), (10, a_ldi 4 2), (12, a_lda 1 1), (13, a_gf aT12 7 2 (.inr (some [13, 25]))), (16, a_ldi 2 1), (17, a_al aT12 0 (0, 1600))]
theorem p86_X6_value_0 {E : zM → Prop} (h : aH86 E) : aP0 (aΘ12 E) 2 tX6_value_0 a86_X6_value_0 := ⟨rfl, aok_pi rfl, rfl, aok_sti, rfl, aok_lda, rfl, aok_gf, rfl, aok_ldi, rfl, aok_al, rfl, aok_sti, rfl, aok_ldi, rfl, aok_lda, rfl, aok_gf, rfl, aok_ldi, rfl, aok_al, trivial⟩
def a86_X6_value_1 : List (Nat × aF) := [(18, a_ic d_ge d_lt 3 210), (21, a_ldi 3 1), (22, a_pi (2) 1), (23, a_ic d_lt d_ge 3 35), (26, a_ldi 3 1), (27, a_pi (1) 1), (28, a_adc), (29, a_pi (128) 3), (32, a_icb d_lt d_ge 3 37), (35, a_pi (0) 1), (36, a_ri false), (37, a_lda 1 1)]
theorem p86_X6_value_1 {E : zM → Prop} (h : aH86 E) : aP0 (aΘ12 E) 2 tX6_value_1 a86_X6_value_1 := ⟨rfl, aok_ic sj_ge, rfl, aok_ldi, rfl, aok_pi rfl, rfl, aok_ic sj_lt, rfl, aok_ldi, rfl, aok_pi rfl, rfl, aok_adc, rfl, aok_pi rfl, rfl, aok_icb sj_lt, rfl, aok_pi rfl, rfl, aok_ri, rfl, aok_lda, trivial⟩
def a86_X6_value_2 : List (Nat × aF) := [(38, a_gf aT12 7 0 (.inr (some [11, 23]))), (41, a_ldi 4 2), (43, a_al aT12 0 (-2147483648, 2147483647)), (44, a_sti 7 5 2), (46, a_ldi 5 2), (48, a_pi (10000) 3), (51, a_b2 g_sub), (52, a_sti 7 6 2), (54, a_ldi 6 2), (56, a_if c_ge c_lt 3 73), (59, a_iw 7 3 (1)), (62, a_lda 0 1)]
theorem p86_X6_value_2 {E : zM → Prop} (h : aH86 E) : aP0 (aΘ12 E) 2 tX6_value_2 a86_X6_value_2 := ⟨rfl, aok_gf, rfl, aok_ldi, rfl, aok_al, rfl, aok_sti, rfl, aok_ldi, rfl, aok_pi rfl, rfl, aok_b2 sd_sub, rfl, aok_sti, rfl, aok_ldi, rfl, aok_if si_ge, rfl, aok_iw rfl, rfl, aok_lda, trivial⟩
def a86_X6_value_3 : List (Nat × aF) := [(63, a_gf aT12 6 0 (.inr (some [183]))), (66, a_ldi 3 1), (67, a_ldi 5 2), (69, a_as aT12 0), (70, a_gt 204), (73, a_ldi 6 2), (75, a_pi (22) 2), (77, a_ic d_ne d_eq 3 97), (80, a_lda 0 1), (81, a_gf aT12 6 0 (.inr (some [183]))), (84, a_ldi 3 1), (85, a_pi (1) 1)]
theorem p86_X6_value_3 {E : zM → Prop} (h : aH86 E) : aP0 (aΘ12 E) 2 tX6_value_3 a86_X6_value_3 := ⟨rfl, aok_gf, rfl, aok_ldi, rfl, aok_ldi, rfl, aok_as h.1, rfl, aok_gt, rfl, aok_ldi, rfl, aok_pi rfl, rfl, aok_ic sj_ne, rfl, aok_lda, rfl, aok_gf, rfl, aok_ldi, rfl, aok_pi rfl, trivial⟩
def a86_X6_value_4 : List (Nat × aF) := [(86, a_lda 0 1), (87, a_gf aT12 6 0 (.inr (some [183]))), (90, a_ldi 3 1), (91, a_al aT12 0 (-2147483648, 2147483647)), (92, a_b2 g_sub), (93, a_as aT12 0), (94, a_gt 204), (97, a_ldi 6 2), (99, a_pi (19) 2), (101, a_ic d_ne d_eq 3 144), (104, a_iw 7 3 (-2)), (107, a_lda 0 1)]
theorem p86_X6_value_4 {E : zM → Prop} (h : aH86 E) : aP0 (aΘ12 E) 2 tX6_value_4 a86_X6_value_4 := ⟨rfl, aok_lda, rfl, aok_gf, rfl, aok_ldi, rfl, aok_al, rfl, aok_b2 sd_sub, rfl, aok_as h.1, rfl, aok_gt, rfl, aok_ldi, rfl, aok_pi rfl, rfl, aok_ic sj_ne, rfl, aok_iw rfl, rfl, aok_lda, trivial⟩
def a86_X6_value_5 : List (Nat × aF) := [(108, a_gf aT12 6 0 (.inr (some [183]))), (111, a_ldi 3 1), (112, a_lda 0 1), (113, a_gf aT12 6 0 (.inr (some [183]))), (116, a_ldi 3 1), (117, a_al aT12 0 (-2147483648, 2147483647)), (118, a_if c_eq c_ne 3 132), (121, a_lda 0 1), (122, a_gf aT12 6 0 (.inr (some [183]))), (125, a_ldi 3 1), (126, a_pi (1) 1), (127, a_b2 g_add)]
theorem p86_X6_value_5 {E : zM → Prop} (h : aH86 E) : aP0 (aΘ12 E) 2 tX6_value_5 a86_X6_value_5 := ⟨rfl, aok_gf, rfl, aok_ldi, rfl, aok_lda, rfl, aok_gf, rfl, aok_ldi, rfl, aok_al, rfl, aok_if si_eq, rfl, aok_lda, rfl, aok_gf, rfl, aok_ldi, rfl, aok_pi rfl, rfl, aok_b2 sd_add, trivial⟩
def a86_X6_value_6 : List (Nat × aF) := [(128, a_al aT12 0 (-2147483648, 2147483647)), (129, a_gt 140), (132, a_lda 0 1), (133, a_gf aT12 6 0 (.inr (some [183]))), (136, a_ldi 3 1), (137, a_pi (2) 1), (138, a_b2 g_add), (139, a_al aT12 0 (-2147483648, 2147483647)), (140, a_as aT12 0), (141, a_gt 204), (144, a_ldi 6 2), (146, a_pi (20) 2)]
theorem p86_X6_value_6 {E : zM → Prop} (h : aH86 E) : aP0 (aΘ12 E) 2 tX6_value_6 a86_X6_value_6 := ⟨rfl, aok_al, rfl, aok_gt, rfl, aok_lda, rfl, aok_gf, rfl, aok_ldi, rfl, aok_pi rfl, rfl, aok_b2 sd_add, rfl, aok_al, rfl, aok_as h.1, rfl, aok_gt, rfl, aok_ldi, rfl, aok_pi rfl, trivial⟩
def a86_X6_value_7 : List (Nat × aF) := [(148, a_ic d_lt d_ge 3 189), (151, a_ldi 6 2), (153, a_pi (23) 2), (155, a_ic d_eq d_ne 3 189), (158, a_iw 7 3 (-1)), (161, a_lda 0 1), (162, a_gf aT12 6 0 (.inr (some [183]))), (165, a_ldi 3 1), (166, a_ldi 6 2), (168, a_lda 0 1), (169, a_gf aT12 6 0 (.inr (some [183]))), (172, a_ldi 3 1)]
theorem p86_X6_value_7 {E : zM → Prop} (h : aH86 E) : aP0 (aΘ12 E) 2 tX6_value_7 a86_X6_value_7 := ⟨rfl, aok_ic sj_lt, rfl, aok_ldi, rfl, aok_pi rfl, rfl, aok_ic sj_eq, rfl, aok_iw rfl, rfl, aok_lda, rfl, aok_gf, rfl, aok_ldi, rfl, aok_ldi, rfl, aok_lda, rfl, aok_gf, rfl, aok_ldi, trivial⟩
def a86_X6_value_8 : List (Nat × aF) := [(173, a_al aT12 0 (-2147483648, 2147483647)), (174, a_lda 0 1), (175, a_gf aT12 6 0 (.inr (some [183]))), (178, a_ldi 3 1), (179, a_pi (1) 1), (180, a_b2 g_add), (181, a_al aT12 0 (-2147483648, 2147483647)), (182, a_cs c86_X6_joined 3), (185, a_as aT12 0), (186, a_gt 204), (189, a_iw 7 3 (1)), (192, a_lda 0 1)]
theorem p86_X6_value_8 {E : zM → Prop} (h : aH86 E) : aP0 (aΘ12 E) 2 tX6_value_8 a86_X6_value_8 := ⟨rfl, aok_al, rfl, aok_lda, rfl, aok_gf, rfl, aok_ldi, rfl, aok_pi rfl, rfl, aok_b2 sd_add, rfl, aok_al, rfl, aok_cs (c := c86_X6_joined) (D' := 2) (k86_X6_joined h) (by decide), rfl, aok_as h.1, rfl, aok_gt, rfl, aok_iw rfl, rfl, aok_lda, trivial⟩
def a86_X6_value_9 : List (Nat × aF) := [(193, a_gf aT12 6 0 (.inr (some [183]))), (196, a_ldi 3 1), (197, a_lda 0 1), (198, a_ldi 6 2), (200, a_cv aT12 c86_X6_named 1 6), (203, a_as aT12 0), (204, a_iw 7 4 (1)), (207, a_gt 10), (210, a_lda 0 1), (211, a_gf aT12 6 0 (.inr (some [183]))), (214, a_ldi 3 1), (215, a_pi (0) 1)]
theorem p86_X6_value_9 {E : zM → Prop} (h : aH86 E) : aP0 (aΘ12 E) 2 tX6_value_9 a86_X6_value_9 := ⟨rfl, aok_gf, rfl, aok_ldi, rfl, aok_lda, rfl, aok_ldi, rfl, aok_cv (c := c86_X6_named) (D' := 1) (k86_X6_named h) (by decide), rfl, aok_as h.1, rfl, aok_iw rfl, rfl, aok_gt, rfl, aok_lda, rfl, aok_gf, rfl, aok_ldi, rfl, aok_pi rfl, trivial⟩
def a86_X6_value_10 : List (Nat × aF) := [(216, a_mm true), (219, a_al aT12 0 (-2147483648, 2147483647)), (220, a_ri false)]
theorem p86_X6_value_10 {E : zM → Prop} (h : aH86 E) : aP0 (aΘ12 E) 2 tX6_value_10 a86_X6_value_10 := ⟨rfl, aok_mmax, rfl, aok_al, rfl, aok_ri, trivial⟩
def b86_X6_value : aTb := [(18, a86_X6_value_0), (38, a86_X6_value_1), (63, a86_X6_value_2), (86, a86_X6_value_3), (108, a86_X6_value_4), (128, a86_X6_value_5), (148, a86_X6_value_6), (173, a86_X6_value_7), (193, a86_X6_value_8), (216, a86_X6_value_9), (100000, a86_X6_value_10)]
theorem q86_X6_value {E : zM → Prop} (h : aH86 E) : aP1 (aΘ12 E) 2 tX6_value b86_X6_value := ⟨rfl, p86_X6_value_0 h, rfl, p86_X6_value_1 h, rfl, p86_X6_value_2 h, rfl, p86_X6_value_3 h, rfl, p86_X6_value_4 h, rfl, p86_X6_value_5 h, rfl, p86_X6_value_6 h, rfl, p86_X6_value_7 h, rfl, p86_X6_value_8 h, rfl, p86_X6_value_9 h, rfl, p86_X6_value_10 h, trivial⟩
def n86_X6_value : List aNd := [(10, [(0, .inr (some [182])), (1, .inr (some [10, 22])), (2, .inl (0, 2)), (3, .inl (0, 127)), (4, .inl (0, 1600))], [(4, -1)], 1600)]
theorem k86_X6_value {E : zM → Prop} (h : aH86 E) : aCv (aΘ12 E) 3 c86_X6_value := aMeth (D := 2) (c := c86_X6_value) (tb := b86_X6_value) (ns := n86_X6_value) (fuel := 3000) rfl (q86_X6_value h) (by decide +kernel)
abbrev c86_X0_glow : aCt := (4, [.inr (some [181]), .inr (some [31]), .inl (0, 8)], some (.inl (-2147483648, 2147483647)))
def a86_X0_glow_0 : List (Nat × aF) := [(0, a_lda 0 1), (1, a_gf aT12 0 0 (.inr (some [2, 14]))), (4, a_gf aT12 4 17 (.inr (some [10, 22]))), (7, a_pi (0) 1), (8, a_cv aT12 c86_X7_isTold 1 7), (11, a_if c_ne c_eq 3 21), (14, a_lda 0 1), (15, a_lda 1 1), (16, a_ldi 2 1), (17, a_cv aT12 c86_X0_hueOf 2 0), (20, a_ri false), (21, a_lda 0 1)]
theorem p86_X0_glow_0 {E : zM → Prop} (h : aH86 E) : aP0 (aΘ12 E) 3 tX0_glow_0 a86_X0_glow_0 := ⟨rfl, aok_lda, rfl, aok_gf, rfl, aok_gf, rfl, aok_pi rfl, rfl, aok_cv (c := c86_X7_isTold) (D' := 1) (k86_X7_isTold h) (by decide), rfl, aok_if si_ne, rfl, aok_lda, rfl, aok_lda, rfl, aok_ldi, rfl, aok_cv (c := c86_X0_hueOf) (D' := 1) (k86_X0_hueOf h) (by decide), rfl, aok_ri, rfl, aok_lda, trivial⟩
def a86_X0_glow_1 : List (Nat × aF) := [(22, a_lda 1 1), (23, a_ldi 2 1), (24, a_cv aT12 c86_X0_setOut 2 0), (27, a_pi (0) 1), (28, a_pi (9) 2), (30, a_lda 0 1), (31, a_gf aT12 0 1 (.inr (some [182]))), (34, a_lda 0 1), (35, a_gf aT12 0 0 (.inr (some [2, 14]))), (38, a_gf aT12 4 17 (.inr (some [10, 22]))), (41, a_pi (0) 1), (42, a_cv aT12 c86_X6_value 2 6)]
theorem p86_X0_glow_1 {E : zM → Prop} (h : aH86 E) : aP0 (aΘ12 E) 3 tX0_glow_1 a86_X0_glow_1 := ⟨rfl, aok_lda, rfl, aok_ldi, rfl, aok_cv (c := c86_X0_setOut) (D' := 2) (k86_X0_setOut h) (by decide), rfl, aok_pi rfl, rfl, aok_pi rfl, rfl, aok_lda, rfl, aok_gf, rfl, aok_lda, rfl, aok_gf, rfl, aok_gf, rfl, aok_pi rfl, rfl, aok_cv (c := c86_X6_value) (D' := 3) (k86_X6_value h) (by decide), trivial⟩
def a86_X0_glow_2 : List (Nat × aF) := [(45, a_mm false), (48, a_mm true), (51, a_ri false)]
theorem p86_X0_glow_2 {E : zM → Prop} (h : aH86 E) : aP0 (aΘ12 E) 3 tX0_glow_2 a86_X0_glow_2 := ⟨rfl, aok_mmin, rfl, aok_mmax, rfl, aok_ri, trivial⟩
def b86_X0_glow : aTb := [(22, a86_X0_glow_0), (45, a86_X0_glow_1), (100000, a86_X0_glow_2)]
theorem q86_X0_glow {E : zM → Prop} (h : aH86 E) : aP1 (aΘ12 E) 3 tX0_glow b86_X0_glow := ⟨rfl, p86_X0_glow_0 h, rfl, p86_X0_glow_1 h, rfl, p86_X0_glow_2 h, trivial⟩
def n86_X0_glow : List aNd := []
theorem k86_X0_glow {E : zM → Prop} (h : aH86 E) : aCv (aΘ12 E) 4 c86_X0_glow := aMeth (D := 3) (c := c86_X0_glow) (tb := b86_X0_glow) (ns := n86_X0_glow) (fuel := 3000) rfl (q86_X0_glow h) (by decide +kernel)
abbrev c86_X11_bitOf : aCt := (163, [.inl (-2147483648, 2147483647)], some (.inr none))
def a86_X11_bitOf_0 : List (Nat × aF) := [(0, a_pl 1), (1, a_ldi 0 1), (2, a_ls), (3, a_rl)]
theorem p86_X11_bitOf_0 {E : zM → Prop} (h : aH86 E) : aP0 (aΘ12 E) 0 tX11_bitOf_0 a86_X11_bitOf_0 := ⟨rfl, aok_pl, rfl, aok_ldi, rfl, aok_ls, rfl, aok_rl, trivial⟩
def b86_X11_bitOf : aTb := [(100000, a86_X11_bitOf_0)]
theorem q86_X11_bitOf {E : zM → Prop} (h : aH86 E) : aP1 (aΘ12 E) 0 tX11_bitOf b86_X11_bitOf := ⟨rfl, p86_X11_bitOf_0 h, trivial⟩
def n86_X11_bitOf : List aNd := []
theorem k86_X11_bitOf {E : zM → Prop} (h : aH86 E) : aCv (aΘ12 E) 1 c86_X11_bitOf := aMeth (D := 0) (c := c86_X11_bitOf) (tb := b86_X11_bitOf) (ns := n86_X11_bitOf) (fuel := 3000) rfl (q86_X11_bitOf h) (by decide +kernel)
abbrev c86_X0_nextTo : aCt := (6, [.inr none], some (.inr none))
def a86_X0_nextTo_0 : List (Nat × aF) := [(0, a_ldl 0 1), (1, a_pi (1) 1), (2, a_ls), (3, a_ldl 0 1), (4, a_pi (1) 1), (5, a_ls), (6, a_l2), (7, a_ldl 0 1), (8, a_pi (8) 2), (10, a_ls), (11, a_l2), (12, a_ldl 0 1)]
theorem p86_X0_nextTo_0 {E : zM → Prop} (h : aH86 E) : aP0 (aΘ12 E) 0 tX0_nextTo_0 a86_X0_nextTo_0 := ⟨rfl, aok_ldl, rfl, aok_pi rfl, rfl, aok_ls, rfl, aok_ldl, rfl, aok_pi rfl, rfl, aok_ls, rfl, aok_l2, rfl, aok_ldl, rfl, aok_pi rfl, rfl, aok_ls, rfl, aok_l2, rfl, aok_ldl, trivial⟩
def a86_X0_nextTo_1 : List (Nat × aF) := [(13, a_pi (8) 2), (15, a_ls), (16, a_l2), (17, a_rl)]
theorem p86_X0_nextTo_1 {E : zM → Prop} (h : aH86 E) : aP0 (aΘ12 E) 0 tX0_nextTo_1 a86_X0_nextTo_1 := ⟨rfl, aok_pi rfl, rfl, aok_ls, rfl, aok_l2, rfl, aok_rl, trivial⟩
def b86_X0_nextTo : aTb := [(13, a86_X0_nextTo_0), (100000, a86_X0_nextTo_1)]
theorem q86_X0_nextTo {E : zM → Prop} (h : aH86 E) : aP1 (aΘ12 E) 0 tX0_nextTo b86_X0_nextTo := ⟨rfl, p86_X0_nextTo_0 h, rfl, p86_X0_nextTo_1 h, trivial⟩
def n86_X0_nextTo : List aNd := []
theorem k86_X0_nextTo {E : zM → Prop} (h : aH86 E) : aCv (aΘ12 E) 1 c86_X0_nextTo := aMeth (D := 0) (c := c86_X0_nextTo) (tb := b86_X0_nextTo) (ns := n86_X0_nextTo) (fuel := 3000) rfl (q86_X0_nextTo h) (by decide +kernel)
abbrev c86_X0_light : aCt := (5, [.inr (some [181]), .inl (-2147483648, 2147483647), .inl (-2147483648, 2147483647)], some (.inr none))
def a86_X0_light_0 : List (Nat × aF) := [(0, a_ldi 1 1), (1, a_cs c86_X11_bitOf 1), (4, a_stl 6 3 1), (5, a_pi (0) 1), (6, a_sti 6 5 2), (8, a_ldi 5 2), (10, a_ldi 2 1), (11, a_ic d_ge d_lt 3 35), (14, a_ldl 3 1), (15, a_ldl 3 1), (16, a_cs c86_X0_nextTo 1), (19, a_lda 0 1)]
theorem p86_X0_light_0 {E : zM → Prop} (h : aH86 E) : aP0 (aΘ12 E) 1 tX0_light_0 a86_X0_light_0 := ⟨rfl, aok_ldi, rfl, aok_cs (c := c86_X11_bitOf) (D' := 1) (k86_X11_bitOf h) (by decide), rfl, aok_stl, rfl, aok_pi rfl, rfl, aok_sti, rfl, aok_ldi, rfl, aok_ldi, rfl, aok_ic sj_ge, rfl, aok_ldl, rfl, aok_ldl, rfl, aok_cs (c := c86_X0_nextTo) (D' := 1) (k86_X0_nextTo h) (by decide), rfl, aok_lda, trivial⟩
def a86_X0_light_1 : List (Nat × aF) := [(20, a_gf aT12 0 0 (.inr (some [2, 14]))), (23, a_gf aT12 4 5 (.inr none)), (26, a_l2), (27, a_l2), (28, a_stl 6 3 1), (29, a_iw 6 5 (1)), (32, a_gt 8), (35, a_ldl 3 1), (36, a_lda 0 1), (37, a_gf aT12 0 0 (.inr (some [2, 14]))), (40, a_gf aT12 4 6 (.inr none)), (43, a_pl 3)]
theorem p86_X0_light_1 {E : zM → Prop} (h : aH86 E) : aP0 (aΘ12 E) 1 tX0_light_1 a86_X0_light_1 := ⟨rfl, aok_gf, rfl, aok_gf, rfl, aok_l2, rfl, aok_l2, rfl, aok_stl, rfl, aok_iw rfl, rfl, aok_gt, rfl, aok_ldl, rfl, aok_lda, rfl, aok_gf, rfl, aok_gf, rfl, aok_pl, trivial⟩
def a86_X0_light_2 : List (Nat × aF) := [(46, a_l2), (47, a_l2), (48, a_rl)]
theorem p86_X0_light_2 {E : zM → Prop} (h : aH86 E) : aP0 (aΘ12 E) 1 tX0_light_2 a86_X0_light_2 := ⟨rfl, aok_l2, rfl, aok_l2, rfl, aok_rl, trivial⟩
def b86_X0_light : aTb := [(20, a86_X0_light_0), (46, a86_X0_light_1), (100000, a86_X0_light_2)]
theorem q86_X0_light {E : zM → Prop} (h : aH86 E) : aP1 (aΘ12 E) 1 tX0_light b86_X0_light := ⟨rfl, p86_X0_light_0 h, rfl, p86_X0_light_1 h, rfl, p86_X0_light_2 h, trivial⟩
def n86_X0_light : List aNd := [(8, [(0, .inr (some [181])), (1, .inl (-2147483648, 2147483647)), (2, .inl (-2147483648, 2147483647)), (3, .inr none), (5, .inl (0, 2147483647))], [(5, -1)], 2147483647)]
theorem k86_X0_light {E : zM → Prop} (h : aH86 E) : aCv (aΘ12 E) 2 c86_X0_light := aMeth (D := 1) (c := c86_X0_light) (tb := b86_X0_light) (ns := n86_X0_light) (fuel := 3000) rfl (q86_X0_light h) (by decide +kernel)
abbrev c86_X0_lit : aCt := (3, [.inr (some [181]), .inr (some [31]), .inl (-99, 99)], some (.inr none))
def a86_X0_lit_0 : List (Nat × aF) := [(0, a_pl 1), (1, a_stl 6 3 1), (2, a_pi (0) 1), (3, a_sti 6 5 2), (5, a_ldi 5 2), (7, a_lda 0 1), (8, a_gf aT12 0 0 (.inr (some [2, 14]))), (11, a_gf aT12 4 7 (.inl (0, 9))), (14, a_ic d_ge d_lt 3 62), (17, a_ldi 5 2), (19, a_ldi 2 1), (20, a_ic d_eq d_ne 3 56)]
theorem p86_X0_lit_0 {E : zM → Prop} (h : aH86 E) : aP0 (aΘ12 E) 4 tX0_lit_0 a86_X0_lit_0 := ⟨rfl, aok_pl, rfl, aok_stl, rfl, aok_pi rfl, rfl, aok_sti, rfl, aok_ldi, rfl, aok_lda, rfl, aok_gf, rfl, aok_gf, rfl, aok_ic sj_ge, rfl, aok_ldi, rfl, aok_ldi, rfl, aok_ic sj_eq, trivial⟩
def a86_X0_lit_1 : List (Nat × aF) := [(23, a_lda 1 1), (24, a_ldi 5 2), (26, a_cv aT12 c86_X8_isMissing 1 8), (29, a_if c_eq c_ne 3 56), (32, a_ldl 3 1), (33, a_lda 0 1), (34, a_lda 0 1), (35, a_gf aT12 0 0 (.inr (some [2, 14]))), (38, a_gf aT12 4 9 (.inr (some [4, 16]))), (41, a_ldi 5 2), (43, a_al aT12 0 (-2147483648, 2147483647)), (44, a_lda 0 1)]
theorem p86_X0_lit_1 {E : zM → Prop} (h : aH86 E) : aP0 (aΘ12 E) 4 tX0_lit_1 a86_X0_lit_1 := ⟨rfl, aok_lda, rfl, aok_ldi, rfl, aok_cv (c := c86_X8_isMissing) (D' := 1) (k86_X8_isMissing h) (by decide), rfl, aok_if si_eq, rfl, aok_ldl, rfl, aok_lda, rfl, aok_lda, rfl, aok_gf, rfl, aok_gf, rfl, aok_ldi, rfl, aok_al, rfl, aok_lda, trivial⟩
def a86_X0_lit_2 : List (Nat × aF) := [(45, a_lda 1 1), (46, a_ldi 5 2), (48, a_cv aT12 c86_X0_glow 2 0), (51, a_cv aT12 c86_X0_light 2 0), (54, a_l2), (55, a_stl 6 3 1), (56, a_iw 6 5 (1)), (59, a_gt 5), (62, a_ldl 3 1), (63, a_rl)]
theorem p86_X0_lit_2 {E : zM → Prop} (h : aH86 E) : aP0 (aΘ12 E) 4 tX0_lit_2 a86_X0_lit_2 := ⟨rfl, aok_lda, rfl, aok_ldi, rfl, aok_cv (c := c86_X0_glow) (D' := 4) (k86_X0_glow h) (by decide), rfl, aok_cv (c := c86_X0_light) (D' := 2) (k86_X0_light h) (by decide), rfl, aok_l2, rfl, aok_stl, rfl, aok_iw rfl, rfl, aok_gt, rfl, aok_ldl, rfl, aok_rl, trivial⟩
def b86_X0_lit : aTb := [(23, a86_X0_lit_0), (45, a86_X0_lit_1), (100000, a86_X0_lit_2)]
theorem q86_X0_lit {E : zM → Prop} (h : aH86 E) : aP1 (aΘ12 E) 4 tX0_lit b86_X0_lit := ⟨rfl, p86_X0_lit_0 h, rfl, p86_X0_lit_1 h, rfl, p86_X0_lit_2 h, trivial⟩
def n86_X0_lit : List aNd := [(5, [(0, .inr (some [181])), (1, .inr (some [31])), (2, .inl (-99, 99)), (3, .inr none), (5, .inl (0, 9))], [(5, -1)], 9)]
theorem k86_X0_lit {E : zM → Prop} (h : aH86 E) : aCv (aΘ12 E) 5 c86_X0_lit := aMeth (D := 4) (c := c86_X0_lit) (tb := b86_X0_lit) (ns := n86_X0_lit) (fuel := 3000) rfl (q86_X0_lit h) (by decide +kernel)
abbrev c86_X0_road : aCt := (8, [.inr (some [181]), .inl (-2147483648, 2147483647), .inl (-2147483648, 2147483647), .inr none], some (.inl (-1, 48)))
def a86_X0_road_0 : List (Nat × aF) := [(0, a_ldi 1 1), (1, a_cs c86_X11_bitOf 1), (4, a_stl 12 5 2), (6, a_lda 0 1), (7, a_gf aT12 0 2 (.inr (some [184]))), (10, a_pi (0) 1), (11, a_ldi 2 1), (12, a_cs c86_X11_bitOf 1), (15, a_las aT12 1), (16, a_ldi 1 1), (17, a_ldi 2 1), (18, a_ic d_ne d_eq 3 23)]
theorem p86_X0_road_0 {E : zM → Prop} (h : aH86 E) : aP0 (aΘ12 E) 1 tX0_road_0 a86_X0_road_0 := ⟨rfl, aok_ldi, rfl, aok_cs (c := c86_X11_bitOf) (D' := 1) (k86_X11_bitOf h) (by decide), rfl, aok_stl, rfl, aok_lda, rfl, aok_gf, rfl, aok_pi rfl, rfl, aok_ldi, rfl, aok_cs (c := c86_X11_bitOf) (D' := 1) (k86_X11_bitOf h) (by decide), rfl, aok_las h.1, rfl, aok_ldi, rfl, aok_ldi, rfl, aok_ic sj_ne, trivial⟩
def a86_X0_road_1 : List (Nat × aF) := [(21, a_pi (0) 1), (22, a_ri false), (23, a_lda 0 1), (24, a_gf aT12 0 2 (.inr (some [184]))), (27, a_pi (0) 1), (28, a_lal aT12 1), (29, a_ldl 3 1), (30, a_l2), (31, a_pl 1), (32, a_cm), (33, a_if c_ne c_eq 3 38), (36, a_pi (-1) 1)]
theorem p86_X0_road_1 {E : zM → Prop} (h : aH86 E) : aP0 (aΘ12 E) 1 tX0_road_1 a86_X0_road_1 := ⟨rfl, aok_pi rfl, rfl, aok_ri, rfl, aok_lda, rfl, aok_gf, rfl, aok_pi rfl, rfl, aok_lal, rfl, aok_ldl, rfl, aok_l2, rfl, aok_pl, rfl, aok_cm, rfl, aok_if si_ne, rfl, aok_pi rfl, trivial⟩
def a86_X0_road_2 : List (Nat × aF) := [(37, a_ri false), (38, a_ldl 3 1), (39, a_ldl 5 2), (41, a_l2), (42, a_lda 0 1), (43, a_gf aT12 0 2 (.inr (some [184]))), (46, a_pi (0) 1), (47, a_lal aT12 1), (48, a_pl 3), (51, a_l2), (52, a_l2), (53, a_stl 12 7 2)]
theorem p86_X0_road_2 {E : zM → Prop} (h : aH86 E) : aP0 (aΘ12 E) 1 tX0_road_2 a86_X0_road_2 := ⟨rfl, aok_ri, rfl, aok_ldl, rfl, aok_ldl, rfl, aok_l2, rfl, aok_lda, rfl, aok_gf, rfl, aok_pi rfl, rfl, aok_lal, rfl, aok_pl, rfl, aok_l2, rfl, aok_l2, rfl, aok_stl, trivial⟩
def a86_X0_road_3 : List (Nat × aF) := [(55, a_pi (1) 1), (56, a_sti 12 9 2), (58, a_ldi 9 2), (60, a_pi (49) 2), (62, a_ic d_ge d_lt 3 130), (65, a_lda 0 1), (66, a_gf aT12 0 2 (.inr (some [184]))), (69, a_ldi 9 2), (71, a_pi (1) 1), (72, a_b2 g_sub), (73, a_lal aT12 1), (74, a_cs c86_X0_nextTo 1)]
theorem p86_X0_road_3 {E : zM → Prop} (h : aH86 E) : aP0 (aΘ12 E) 1 tX0_road_3 a86_X0_road_3 := ⟨rfl, aok_pi rfl, rfl, aok_sti, rfl, aok_ldi, rfl, aok_pi rfl, rfl, aok_ic sj_ge, rfl, aok_lda, rfl, aok_gf, rfl, aok_ldi, rfl, aok_pi rfl, rfl, aok_b2 sd_sub, rfl, aok_lal, rfl, aok_cs (c := c86_X0_nextTo) (D' := 1) (k86_X0_nextTo h) (by decide), trivial⟩
def a86_X0_road_4 : List (Nat × aF) := [(77, a_ldl 7 2), (79, a_l2), (80, a_stl 12 10 2), (82, a_ldl 10 2), (84, a_ldl 5 2), (86, a_l2), (87, a_pl 1), (88, a_cm), (89, a_if c_eq c_ne 3 95), (92, a_ldi 9 2), (94, a_ri false), (95, a_ldl 10 2)]
theorem p86_X0_road_4 {E : zM → Prop} (h : aH86 E) : aP0 (aΘ12 E) 1 tX0_road_4 a86_X0_road_4 := ⟨rfl, aok_ldl, rfl, aok_l2, rfl, aok_stl, rfl, aok_ldl, rfl, aok_ldl, rfl, aok_l2, rfl, aok_pl, rfl, aok_cm, rfl, aok_if si_eq, rfl, aok_ldi, rfl, aok_ri, rfl, aok_ldl, trivial⟩
def a86_X0_road_5 : List (Nat × aF) := [(97, a_pl 1), (98, a_cm), (99, a_if c_ne c_eq 3 104), (102, a_pi (-1) 1), (103, a_ri false), (104, a_lda 0 1), (105, a_gf aT12 0 2 (.inr (some [184]))), (108, a_ldi 9 2), (110, a_ldl 10 2), (112, a_las aT12 1), (113, a_ldl 7 2), (115, a_ldl 10 2)]
theorem p86_X0_road_5 {E : zM → Prop} (h : aH86 E) : aP0 (aΘ12 E) 1 tX0_road_5 a86_X0_road_5 := ⟨rfl, aok_pl, rfl, aok_cm, rfl, aok_if si_ne, rfl, aok_pi rfl, rfl, aok_ri, rfl, aok_lda, rfl, aok_gf, rfl, aok_ldi, rfl, aok_ldl, rfl, aok_las h.1, rfl, aok_ldl, rfl, aok_ldl, trivial⟩
def a86_X0_road_6 : List (Nat × aF) := [(117, a_pl 3), (120, a_l2), (121, a_l2), (122, a_stl 12 7 2), (124, a_iw 12 9 (1)), (127, a_gt 58), (130, a_pi (-1) 1), (131, a_ri false)]
theorem p86_X0_road_6 {E : zM → Prop} (h : aH86 E) : aP0 (aΘ12 E) 1 tX0_road_6 a86_X0_road_6 := ⟨rfl, aok_pl, rfl, aok_l2, rfl, aok_l2, rfl, aok_stl, rfl, aok_iw rfl, rfl, aok_gt, rfl, aok_pi rfl, rfl, aok_ri, trivial⟩
def b86_X0_road : aTb := [(21, a86_X0_road_0), (37, a86_X0_road_1), (55, a86_X0_road_2), (77, a86_X0_road_3), (97, a86_X0_road_4), (117, a86_X0_road_5), (100000, a86_X0_road_6)]
theorem q86_X0_road {E : zM → Prop} (h : aH86 E) : aP1 (aΘ12 E) 1 tX0_road b86_X0_road := ⟨rfl, p86_X0_road_0 h, rfl, p86_X0_road_1 h, rfl, p86_X0_road_2 h, rfl, p86_X0_road_3 h, rfl, p86_X0_road_4 h, rfl, p86_X0_road_5 h, rfl, p86_X0_road_6 h, trivial⟩
def n86_X0_road : List aNd := [(58, [(0, .inr (some [181])), (1, .inl (-2147483648, 2147483647)), (2, .inl (-2147483648, 2147483647)), (3, .inr none), (5, .inr none), (7, .inr none), (9, .inl (1, 49))], [(9, -1)], 49)]
theorem k86_X0_road {E : zM → Prop} (h : aH86 E) : aCv (aΘ12 E) 2 c86_X0_road := aMeth (D := 1) (c := c86_X0_road) (tb := b86_X0_road) (ns := n86_X0_road) (fuel := 3000) rfl (q86_X0_road h) (by decide +kernel)
abbrev c86_X0_stepped : aCt := (10, [.inl (-2147483648, 2147483647), .inr none], some (.inl (-2147483648, 2147483647)))
def a86_X0_stepped_0 : List (Nat × aF) := [(0, a_ldi 0 1), (1, a_cs c86_X11_bitOf 1), (4, a_stl 5 3 1), (5, a_ldl 3 1), (6, a_pi (8) 2), (8, a_ls), (9, a_ldl 1 1), (10, a_l2), (11, a_pl 1), (12, a_cm), (13, a_if c_eq c_ne 3 21), (16, a_ldi 0 1)]
theorem p86_X0_stepped_0 {E : zM → Prop} (h : aH86 E) : aP0 (aΘ12 E) 1 tX0_stepped_0 a86_X0_stepped_0 := ⟨rfl, aok_ldi, rfl, aok_cs (c := c86_X11_bitOf) (D' := 1) (k86_X11_bitOf h) (by decide), rfl, aok_stl, rfl, aok_ldl, rfl, aok_pi rfl, rfl, aok_ls, rfl, aok_ldl, rfl, aok_l2, rfl, aok_pl, rfl, aok_cm, rfl, aok_if si_eq, rfl, aok_ldi, trivial⟩
def a86_X0_stepped_1 : List (Nat × aF) := [(17, a_pi (8) 2), (19, a_b2 g_sub), (20, a_ri false), (21, a_ldl 3 1), (22, a_pi (1) 1), (23, a_ls), (24, a_ldl 1 1), (25, a_l2), (26, a_pl 1), (27, a_cm), (28, a_if c_eq c_ne 3 35), (31, a_ldi 0 1)]
theorem p86_X0_stepped_1 {E : zM → Prop} (h : aH86 E) : aP0 (aΘ12 E) 1 tX0_stepped_1 a86_X0_stepped_1 := ⟨rfl, aok_pi rfl, rfl, aok_b2 sd_sub, rfl, aok_ri, rfl, aok_ldl, rfl, aok_pi rfl, rfl, aok_ls, rfl, aok_ldl, rfl, aok_l2, rfl, aok_pl, rfl, aok_cm, rfl, aok_if si_eq, rfl, aok_ldi, trivial⟩
def a86_X0_stepped_2 : List (Nat × aF) := [(32, a_pi (1) 1), (33, a_b2 g_add), (34, a_ri false), (35, a_ldl 3 1), (36, a_pi (8) 2), (38, a_ls), (39, a_ldl 1 1), (40, a_l2), (41, a_pl 1), (42, a_cm), (43, a_if c_eq c_ne 3 51), (46, a_ldi 0 1)]
theorem p86_X0_stepped_2 {E : zM → Prop} (h : aH86 E) : aP0 (aΘ12 E) 1 tX0_stepped_2 a86_X0_stepped_2 := ⟨rfl, aok_pi rfl, rfl, aok_b2 sd_add, rfl, aok_ri, rfl, aok_ldl, rfl, aok_pi rfl, rfl, aok_ls, rfl, aok_ldl, rfl, aok_l2, rfl, aok_pl, rfl, aok_cm, rfl, aok_if si_eq, rfl, aok_ldi, trivial⟩
def a86_X0_stepped_3 : List (Nat × aF) := [(47, a_pi (8) 2), (49, a_b2 g_add), (50, a_ri false), (51, a_ldl 3 1), (52, a_pi (1) 1), (53, a_ls), (54, a_ldl 1 1), (55, a_l2), (56, a_pl 1), (57, a_cm), (58, a_if c_eq c_ne 3 67), (61, a_ldi 0 1)]
theorem p86_X0_stepped_3 {E : zM → Prop} (h : aH86 E) : aP0 (aΘ12 E) 1 tX0_stepped_3 a86_X0_stepped_3 := ⟨rfl, aok_pi rfl, rfl, aok_b2 sd_add, rfl, aok_ri, rfl, aok_ldl, rfl, aok_pi rfl, rfl, aok_ls, rfl, aok_ldl, rfl, aok_l2, rfl, aok_pl, rfl, aok_cm, rfl, aok_if si_eq, rfl, aok_ldi, trivial⟩
def a86_X0_stepped_4 : List (Nat × aF) := [(62, a_pi (1) 1), (63, a_b2 g_sub), (64, a_gt 68), (67, a_ldi 0 1), (68, a_ri false)]
theorem p86_X0_stepped_4 {E : zM → Prop} (h : aH86 E) : aP0 (aΘ12 E) 1 tX0_stepped_4 a86_X0_stepped_4 := ⟨rfl, aok_pi rfl, rfl, aok_b2 sd_sub, rfl, aok_gt, rfl, aok_ldi, rfl, aok_ri, trivial⟩
def b86_X0_stepped : aTb := [(17, a86_X0_stepped_0), (32, a86_X0_stepped_1), (47, a86_X0_stepped_2), (62, a86_X0_stepped_3), (100000, a86_X0_stepped_4)]
theorem q86_X0_stepped {E : zM → Prop} (h : aH86 E) : aP1 (aΘ12 E) 1 tX0_stepped b86_X0_stepped := ⟨rfl, p86_X0_stepped_0 h, rfl, p86_X0_stepped_1 h, rfl, p86_X0_stepped_2 h, rfl, p86_X0_stepped_3 h, rfl, p86_X0_stepped_4 h, trivial⟩
def n86_X0_stepped : List aNd := []
theorem k86_X0_stepped {E : zM → Prop} (h : aH86 E) : aCv (aΘ12 E) 2 c86_X0_stepped := aMeth (D := 1) (c := c86_X0_stepped) (tb := b86_X0_stepped) (ns := n86_X0_stepped) (fuel := 3000) rfl (q86_X0_stepped h) (by decide +kernel)
abbrev c86_X0_walked : aCt := (9, [.inr (some [181]), .inl (-2147483648, 2147483647), .inl (-2147483648, 2147483647), .inr none], some (.inl (-2147483648, 2147483647)))
def a86_X0_walked_0 : List (Nat × aF) := [(0, a_lda 0 1), (1, a_ldi 1 1), (2, a_ldi 2 1), (3, a_ldl 3 1), (4, a_cv aT12 c86_X0_road 3 0), (7, a_sti 8 5 2), (9, a_ldi 1 1), (10, a_sti 8 6 2), (12, a_pi (0) 1), (13, a_sti 8 7 2), (15, a_ldi 7 2), (17, a_lda 0 1)]
theorem p86_X0_walked_0 {E : zM → Prop} (h : aH86 E) : aP0 (aΘ12 E) 2 tX0_walked_0 a86_X0_walked_0 := ⟨rfl, aok_lda, rfl, aok_ldi, rfl, aok_ldi, rfl, aok_ldl, rfl, aok_cv (c := c86_X0_road) (D' := 2) (k86_X0_road h) (by decide), rfl, aok_sti, rfl, aok_ldi, rfl, aok_sti, rfl, aok_pi rfl, rfl, aok_sti, rfl, aok_ldi, rfl, aok_lda, trivial⟩
def a86_X0_walked_1 : List (Nat × aF) := [(18, a_gf aT12 0 0 (.inr (some [2, 14]))), (21, a_gf aT12 4 3 (.inl (-2147483648, 2147483647))), (24, a_ic d_ge d_lt 3 55), (27, a_ldi 5 2), (29, a_if c_le c_gt 3 55), (32, a_iw 8 5 (-1)), (35, a_ldi 6 2), (37, a_lda 0 1), (38, a_gf aT12 0 2 (.inr (some [184]))), (41, a_ldi 5 2), (43, a_lal aT12 1), (44, a_cs c86_X0_stepped 2)]
theorem p86_X0_walked_1 {E : zM → Prop} (h : aH86 E) : aP0 (aΘ12 E) 2 tX0_walked_1 a86_X0_walked_1 := ⟨rfl, aok_gf, rfl, aok_gf, rfl, aok_ic sj_ge, rfl, aok_ldi, rfl, aok_if si_le, rfl, aok_iw rfl, rfl, aok_ldi, rfl, aok_lda, rfl, aok_gf, rfl, aok_ldi, rfl, aok_lal, rfl, aok_cs (c := c86_X0_stepped) (D' := 2) (k86_X0_stepped h) (by decide), trivial⟩
def a86_X0_walked_2 : List (Nat × aF) := [(47, a_sti 8 6 2), (49, a_iw 8 7 (1)), (52, a_gt 15), (55, a_ldi 6 2), (57, a_ri false)]
theorem p86_X0_walked_2 {E : zM → Prop} (h : aH86 E) : aP0 (aΘ12 E) 2 tX0_walked_2 a86_X0_walked_2 := ⟨rfl, aok_sti, rfl, aok_iw rfl, rfl, aok_gt, rfl, aok_ldi, rfl, aok_ri, trivial⟩
def b86_X0_walked : aTb := [(18, a86_X0_walked_0), (47, a86_X0_walked_1), (100000, a86_X0_walked_2)]
theorem q86_X0_walked {E : zM → Prop} (h : aH86 E) : aP1 (aΘ12 E) 2 tX0_walked b86_X0_walked := ⟨rfl, p86_X0_walked_0 h, rfl, p86_X0_walked_1 h, rfl, p86_X0_walked_2 h, trivial⟩
def n86_X0_walked : List aNd := [(15, [(0, .inr (some [181])), (1, .inl (-2147483648, 2147483647)), (2, .inl (-2147483648, 2147483647)), (3, .inr none), (5, .inl (-1, 48)), (6, .inl (-2147483648, 2147483647)), (7, .inl (0, 2147483647))], [(5, 1)], 1)]
theorem k86_X0_walked {E : zM → Prop} (h : aH86 E) : aCv (aΘ12 E) 3 c86_X0_walked := aMeth (D := 2) (c := c86_X0_walked) (tb := b86_X0_walked) (ns := n86_X0_walked) (fuel := 3000) rfl (q86_X0_walked h) (by decide +kernel)
abbrev c86_X0_isLost : aCt := (13, [.inr (some [181]), .inr (some [31]), .inl (0, 8)], some (.inl (0, 1)))
def a86_X0_isLost_0 : List (Nat × aF) := [(0, a_lda 0 1), (1, a_gf aT12 0 0 (.inr (some [2, 14]))), (4, a_gf aT12 4 17 (.inr (some [10, 22]))), (7, a_pi (2) 1), (8, a_cv aT12 c86_X7_isTold 1 7), (11, a_if c_ne c_eq 3 16), (14, a_pi (0) 1), (15, a_ri true), (16, a_lda 0 1), (17, a_lda 1 1), (18, a_ldi 2 1), (19, a_cv aT12 c86_X0_setOut 2 0)]
theorem p86_X0_isLost_0 {E : zM → Prop} (h : aH86 E) : aP0 (aΘ12 E) 3 tX0_isLost_0 a86_X0_isLost_0 := ⟨rfl, aok_lda, rfl, aok_gf, rfl, aok_gf, rfl, aok_pi rfl, rfl, aok_cv (c := c86_X7_isTold) (D' := 1) (k86_X7_isTold h) (by decide), rfl, aok_if si_ne, rfl, aok_pi rfl, rfl, aok_ri, rfl, aok_lda, rfl, aok_lda, rfl, aok_ldi, rfl, aok_cv (c := c86_X0_setOut) (D' := 2) (k86_X0_setOut h) (by decide), trivial⟩
def a86_X0_isLost_1 : List (Nat × aF) := [(22, a_lda 0 1), (23, a_gf aT12 0 1 (.inr (some [182]))), (26, a_lda 0 1), (27, a_gf aT12 0 0 (.inr (some [2, 14]))), (30, a_gf aT12 4 17 (.inr (some [10, 22]))), (33, a_pi (2) 1), (34, a_cv aT12 c86_X6_value 2 6), (37, a_if c_eq c_ne 3 44), (40, a_pi (1) 1), (41, a_gt 45), (44, a_pi (0) 1), (45, a_ri true)]
theorem p86_X0_isLost_1 {E : zM → Prop} (h : aH86 E) : aP0 (aΘ12 E) 3 tX0_isLost_1 a86_X0_isLost_1 := ⟨rfl, aok_lda, rfl, aok_gf, rfl, aok_lda, rfl, aok_gf, rfl, aok_gf, rfl, aok_pi rfl, rfl, aok_cv (c := c86_X6_value) (D' := 3) (k86_X6_value h) (by decide), rfl, aok_if si_eq, rfl, aok_pi rfl, rfl, aok_gt, rfl, aok_pi rfl, rfl, aok_ri, trivial⟩
def b86_X0_isLost : aTb := [(22, a86_X0_isLost_0), (100000, a86_X0_isLost_1)]
theorem q86_X0_isLost {E : zM → Prop} (h : aH86 E) : aP1 (aΘ12 E) 3 tX0_isLost b86_X0_isLost := ⟨rfl, p86_X0_isLost_0 h, rfl, p86_X0_isLost_1 h, trivial⟩
def n86_X0_isLost : List aNd := []
theorem k86_X0_isLost {E : zM → Prop} (h : aH86 E) : aCv (aΘ12 E) 4 c86_X0_isLost := aMeth (D := 3) (c := c86_X0_isLost) (tb := b86_X0_isLost) (ns := n86_X0_isLost) (fuel := 3000) rfl (q86_X0_isLost h) (by decide +kernel)
abbrev c86_X0_near : aCt := (16, [.inr (some [181]), .inr (some [31]), .inl (0, 8)], some (.inl (-2147483648, 2147483647)))
def a86_X0_near_0 : List (Nat × aF) := [(0, a_pi (0) 1), (1, a_sti 5 3 1), (2, a_pi (0) 1), (3, a_sti 5 4 2), (5, a_ldi 4 2), (7, a_lda 0 1), (8, a_gf aT12 0 0 (.inr (some [2, 14]))), (11, a_gf aT12 4 13 (.inl (0, 6))), (14, a_ic d_ge d_lt 3 45), (17, a_lda 1 1), (18, a_gf aT12 8 3 (.inr (some [33]))), (21, a_ldi 4 2)]
theorem p86_X0_near_0 {E : zM → Prop} (h : aH86 E) : aP0 (aΘ12 E) 0 tX0_near_0 a86_X0_near_0 := ⟨rfl, aok_pi rfl, rfl, aok_sti, rfl, aok_pi rfl, rfl, aok_sti, rfl, aok_ldi, rfl, aok_lda, rfl, aok_gf, rfl, aok_gf, rfl, aok_ic sj_ge, rfl, aok_lda, rfl, aok_gf, rfl, aok_ldi, trivial⟩
def a86_X0_near_1 : List (Nat × aF) := [(23, a_al aT12 0 (-2147483648, 2147483647)), (24, a_lda 0 1), (25, a_gf aT12 0 0 (.inr (some [2, 14]))), (28, a_gf aT12 4 9 (.inr (some [4, 16]))), (31, a_ldi 2 1), (32, a_al aT12 0 (-2147483648, 2147483647)), (33, a_ic d_ne d_eq 3 39), (36, a_iw 5 3 (1)), (39, a_iw 5 4 (1)), (42, a_gt 5), (45, a_ldi 3 1), (46, a_ri false)]
theorem p86_X0_near_1 {E : zM → Prop} (h : aH86 E) : aP0 (aΘ12 E) 0 tX0_near_1 a86_X0_near_1 := ⟨rfl, aok_al, rfl, aok_lda, rfl, aok_gf, rfl, aok_gf, rfl, aok_ldi, rfl, aok_al, rfl, aok_ic sj_ne, rfl, aok_iw rfl, rfl, aok_iw rfl, rfl, aok_gt, rfl, aok_ldi, rfl, aok_ri, trivial⟩
def b86_X0_near : aTb := [(23, a86_X0_near_0), (100000, a86_X0_near_1)]
theorem q86_X0_near {E : zM → Prop} (h : aH86 E) : aP1 (aΘ12 E) 0 tX0_near b86_X0_near := ⟨rfl, p86_X0_near_0 h, rfl, p86_X0_near_1 h, trivial⟩
def n86_X0_near : List aNd := [(5, [(0, .inr (some [181])), (1, .inr (some [31])), (2, .inl (0, 8)), (3, .inl (-2147483648, 2147483647)), (4, .inl (0, 6))], [(4, -1)], 6)]
theorem k86_X0_near {E : zM → Prop} (h : aH86 E) : aCv (aΘ12 E) 1 c86_X0_near := aMeth (D := 0) (c := c86_X0_near) (tb := b86_X0_near) (ns := n86_X0_near) (fuel := 3000) rfl (q86_X0_near h) (by decide +kernel)
abbrev c86_X0_isFound : aCt := (12, [.inr (some [181]), .inr (some [31]), .inl (0, 8)], some (.inl (0, 1)))
def a86_X0_isFound_0 : List (Nat × aF) := [(0, a_lda 0 1), (1, a_gf aT12 0 0 (.inr (some [2, 14]))), (4, a_gf aT12 4 17 (.inr (some [10, 22]))), (7, a_pi (1) 1), (8, a_cv aT12 c86_X7_isTold 1 7), (11, a_if c_ne c_eq 3 29), (14, a_lda 0 1), (15, a_lda 1 1), (16, a_ldi 2 1), (17, a_cv aT12 c86_X0_near 2 0), (20, a_if c_le c_gt 3 27), (23, a_pi (1) 1)]
theorem p86_X0_isFound_0 {E : zM → Prop} (h : aH86 E) : aP0 (aΘ12 E) 3 tX0_isFound_0 a86_X0_isFound_0 := ⟨rfl, aok_lda, rfl, aok_gf, rfl, aok_gf, rfl, aok_pi rfl, rfl, aok_cv (c := c86_X7_isTold) (D' := 1) (k86_X7_isTold h) (by decide), rfl, aok_if si_ne, rfl, aok_lda, rfl, aok_lda, rfl, aok_ldi, rfl, aok_cv (c := c86_X0_near) (D' := 1) (k86_X0_near h) (by decide), rfl, aok_if si_le, rfl, aok_pi rfl, trivial⟩
def a86_X0_isFound_1 : List (Nat × aF) := [(24, a_gt 28), (27, a_pi (0) 1), (28, a_ri true), (29, a_lda 0 1), (30, a_lda 1 1), (31, a_ldi 2 1), (32, a_cv aT12 c86_X0_setOut 2 0), (35, a_lda 0 1), (36, a_gf aT12 0 1 (.inr (some [182]))), (39, a_lda 0 1), (40, a_lda 1 1), (41, a_ldi 2 1)]
theorem p86_X0_isFound_1 {E : zM → Prop} (h : aH86 E) : aP0 (aΘ12 E) 3 tX0_isFound_1 a86_X0_isFound_1 := ⟨rfl, aok_gt, rfl, aok_pi rfl, rfl, aok_ri, rfl, aok_lda, rfl, aok_lda, rfl, aok_ldi, rfl, aok_cv (c := c86_X0_setOut) (D' := 2) (k86_X0_setOut h) (by decide), rfl, aok_lda, rfl, aok_gf, rfl, aok_lda, rfl, aok_lda, rfl, aok_ldi, trivial⟩
def a86_X0_isFound_2 : List (Nat × aF) := [(42, a_cv aT12 c86_X0_near 2 0), (45, a_pf aT12 6 6 (.int)), (48, a_lda 0 1), (49, a_gf aT12 0 1 (.inr (some [182]))), (52, a_lda 0 1), (53, a_gf aT12 0 0 (.inr (some [2, 14]))), (56, a_gf aT12 4 17 (.inr (some [10, 22]))), (59, a_pi (1) 1), (60, a_cv aT12 c86_X6_value 2 6), (63, a_if c_eq c_ne 3 70), (66, a_pi (1) 1), (67, a_gt 71)]
theorem p86_X0_isFound_2 {E : zM → Prop} (h : aH86 E) : aP0 (aΘ12 E) 3 tX0_isFound_2 a86_X0_isFound_2 := ⟨rfl, aok_cv (c := c86_X0_near) (D' := 1) (k86_X0_near h) (by decide), rfl, aok_pf h.1, rfl, aok_lda, rfl, aok_gf, rfl, aok_lda, rfl, aok_gf, rfl, aok_gf, rfl, aok_pi rfl, rfl, aok_cv (c := c86_X6_value) (D' := 3) (k86_X6_value h) (by decide), rfl, aok_if si_eq, rfl, aok_pi rfl, rfl, aok_gt, trivial⟩
def a86_X0_isFound_3 : List (Nat × aF) := [(70, a_pi (0) 1), (71, a_ri true)]
theorem p86_X0_isFound_3 {E : zM → Prop} (h : aH86 E) : aP0 (aΘ12 E) 3 tX0_isFound_3 a86_X0_isFound_3 := ⟨rfl, aok_pi rfl, rfl, aok_ri, trivial⟩
def b86_X0_isFound : aTb := [(24, a86_X0_isFound_0), (42, a86_X0_isFound_1), (70, a86_X0_isFound_2), (100000, a86_X0_isFound_3)]
theorem q86_X0_isFound {E : zM → Prop} (h : aH86 E) : aP1 (aΘ12 E) 3 tX0_isFound b86_X0_isFound := ⟨rfl, p86_X0_isFound_0 h, rfl, p86_X0_isFound_1 h, rfl, p86_X0_isFound_2 h, rfl, p86_X0_isFound_3 h, trivial⟩
def n86_X0_isFound : List aNd := []
theorem k86_X0_isFound {E : zM → Prop} (h : aH86 E) : aCv (aΘ12 E) 4 c86_X0_isFound := aMeth (D := 3) (c := c86_X0_isFound) (tb := b86_X0_isFound) (ns := n86_X0_isFound) (fuel := 3000) rfl (q86_X0_isFound h) (by decide +kernel)
abbrev c86_X0_settle : aCt := (11, [.inr (some [181]), .inr (some [31])], none)
def a86_X0_settle_0 : List (Nat × aF) := [(0, a_lda 0 1), (1, a_pi (0) 1), (2, a_pf aT12 0 3 (.int)), (5, a_lda 0 1), (6, a_pi (0) 1), (7, a_pf aT12 0 4 (.int)), (10, a_pi (0) 1), (11, a_sti 4 2 1), (12, a_ldi 2 1), (13, a_lda 0 1), (14, a_gf aT12 0 0 (.inr (some [2, 14]))), (17, a_gf aT12 4 7 (.inl (0, 9)))]
theorem p86_X0_settle_0 {E : zM → Prop} (h : aH86 E) : aP0 (aΘ12 E) 4 tX0_settle_0 a86_X0_settle_0 := ⟨rfl, aok_lda, rfl, aok_pi rfl, rfl, aok_pf h.1, rfl, aok_lda, rfl, aok_pi rfl, rfl, aok_pf h.1, rfl, aok_pi rfl, rfl, aok_sti, rfl, aok_ldi, rfl, aok_lda, rfl, aok_gf, rfl, aok_gf, trivial⟩
def a86_X0_settle_1 : List (Nat × aF) := [(20, a_ic d_ge d_lt 3 86), (23, a_lda 1 1), (24, a_ldi 2 1), (25, a_cv aT12 c86_X8_isMissing 1 8), (28, a_if c_ne c_eq 3 59), (31, a_lda 0 1), (32, a_du), (33, a_gf aT12 0 4 (.inl (0, 511))), (36, a_lda 0 1), (37, a_lda 1 1), (38, a_ldi 2 1), (39, a_cv aT12 c86_X0_isLost 2 0)]
theorem p86_X0_settle_1 {E : zM → Prop} (h : aH86 E) : aP0 (aΘ12 E) 4 tX0_settle_1 a86_X0_settle_1 := ⟨rfl, aok_ic sj_ge, rfl, aok_lda, rfl, aok_ldi, rfl, aok_cv (c := c86_X8_isMissing) (D' := 1) (k86_X8_isMissing h) (by decide), rfl, aok_if si_ne, rfl, aok_lda, rfl, aok_du, rfl, aok_gf, rfl, aok_lda, rfl, aok_lda, rfl, aok_ldi, rfl, aok_cv (c := c86_X0_isLost) (D' := 4) (k86_X0_isLost h) (by decide), trivial⟩
def a86_X0_settle_2 : List (Nat × aF) := [(42, a_if c_eq c_ne 3 51), (45, a_pi (1) 1), (46, a_ldi 2 1), (47, a_b2 g_shm), (48, a_gt 52), (51, a_pi (0) 1), (52, a_b2 g_or), (53, a_pf aT12 0 4 (.int)), (56, a_gt 80), (59, a_lda 0 1), (60, a_lda 1 1), (61, a_ldi 2 1)]
theorem p86_X0_settle_2 {E : zM → Prop} (h : aH86 E) : aP0 (aΘ12 E) 4 tX0_settle_2 a86_X0_settle_2 := ⟨rfl, aok_if si_eq, rfl, aok_pi rfl, rfl, aok_ldi, rfl, aok_b2 sd_shm, rfl, aok_gt, rfl, aok_pi rfl, rfl, aok_b2 sd_or, rfl, aok_pf h.1, rfl, aok_gt, rfl, aok_lda, rfl, aok_lda, rfl, aok_ldi, trivial⟩
def a86_X0_settle_3 : List (Nat × aF) := [(62, a_cv aT12 c86_X0_isFound 2 0), (65, a_if c_eq c_ne 3 80), (68, a_lda 0 1), (69, a_du), (70, a_gf aT12 0 3 (.inl (0, 511))), (73, a_pi (1) 1), (74, a_ldi 2 1), (75, a_b2 g_shm), (76, a_b2 g_or), (77, a_pf aT12 0 3 (.int)), (80, a_iw 4 2 (1)), (83, a_gt 12)]
theorem p86_X0_settle_3 {E : zM → Prop} (h : aH86 E) : aP0 (aΘ12 E) 4 tX0_settle_3 a86_X0_settle_3 := ⟨rfl, aok_cv (c := c86_X0_isFound) (D' := 4) (k86_X0_isFound h) (by decide), rfl, aok_if si_eq, rfl, aok_lda, rfl, aok_du, rfl, aok_gf, rfl, aok_pi rfl, rfl, aok_ldi, rfl, aok_b2 sd_shm, rfl, aok_b2 sd_or, rfl, aok_pf h.1, rfl, aok_iw rfl, rfl, aok_gt, trivial⟩
def a86_X0_settle_4 : List (Nat × aF) := [(86, a_lda 0 1), (87, a_gf aT12 0 3 (.inl (0, 511))), (90, a_lda 0 1), (91, a_gf aT12 0 4 (.inl (0, 511))), (94, a_b2 g_or), (95, a_sti 4 2 1), (96, a_pi (0) 1), (97, a_sti 4 3 1), (98, a_ldi 3 1), (99, a_lda 0 1), (100, a_gf aT12 0 0 (.inr (some [2, 14]))), (103, a_gf aT12 4 7 (.inl (0, 9)))]
theorem p86_X0_settle_4 {E : zM → Prop} (h : aH86 E) : aP0 (aΘ12 E) 4 tX0_settle_4 a86_X0_settle_4 := ⟨rfl, aok_lda, rfl, aok_gf, rfl, aok_lda, rfl, aok_gf, rfl, aok_b2 sd_or, rfl, aok_sti, rfl, aok_pi rfl, rfl, aok_sti, rfl, aok_ldi, rfl, aok_lda, rfl, aok_gf, rfl, aok_gf, trivial⟩
def a86_X0_settle_5 : List (Nat × aF) := [(106, a_ic d_ge d_lt 3 146), (109, a_lda 1 1), (110, a_gf aT12 8 2 (.inr (some [32]))), (113, a_ldi 3 1), (114, a_ldi 2 1), (115, a_ldi 3 1), (116, a_b2 g_shr), (117, a_pi (1) 1), (118, a_b2 g_and), (119, a_if c_eq c_ne 3 126), (122, a_pi (0) 1), (123, a_gt 139)]
theorem p86_X0_settle_5 {E : zM → Prop} (h : aH86 E) : aP0 (aΘ12 E) 4 tX0_settle_5 a86_X0_settle_5 := ⟨rfl, aok_ic sj_ge, rfl, aok_lda, rfl, aok_gf, rfl, aok_ldi, rfl, aok_ldi, rfl, aok_ldi, rfl, aok_b2 sd_shr, rfl, aok_pi rfl, rfl, aok_b2 sd_and, rfl, aok_if si_eq, rfl, aok_pi rfl, rfl, aok_gt, trivial⟩
def a86_X0_settle_6 : List (Nat × aF) := [(126, a_pi (99) 2), (128, a_lda 1 1), (129, a_gf aT12 8 2 (.inr (some [32]))), (132, a_ldi 3 1), (133, a_al aT12 0 (-2147483648, 2147483647)), (134, a_pi (1) 1), (135, a_b2 g_add), (136, a_mm false), (139, a_as aT12 0), (140, a_iw 4 3 (1)), (143, a_gt 98), (146, a_lda 1 1)]
theorem p86_X0_settle_6 {E : zM → Prop} (h : aH86 E) : aP0 (aΘ12 E) 4 tX0_settle_6 a86_X0_settle_6 := ⟨rfl, aok_pi rfl, rfl, aok_lda, rfl, aok_gf, rfl, aok_ldi, rfl, aok_al, rfl, aok_pi rfl, rfl, aok_b2 sd_add, rfl, aok_mmin, rfl, aok_as h.1, rfl, aok_iw rfl, rfl, aok_gt, rfl, aok_lda, trivial⟩
def a86_X0_settle_7 : List (Nat × aF) := [(147, a_du), (148, a_gf aT12 8 1 (.inl (0, 511))), (151, a_ldi 2 1), (152, a_b2 g_or), (153, a_pf aT12 8 1 (.int)), (156, a_lda 1 1), (157, a_pi (999) 3), (160, a_lda 1 1), (161, a_gf aT12 8 0 (.inl (-2147483648, 2147483647))), (164, a_pi (1) 1), (165, a_b2 g_add), (166, a_mm false)]
theorem p86_X0_settle_7 {E : zM → Prop} (h : aH86 E) : aP0 (aΘ12 E) 4 tX0_settle_7 a86_X0_settle_7 := ⟨rfl, aok_du, rfl, aok_gf, rfl, aok_ldi, rfl, aok_b2 sd_xor, rfl, aok_pf h.1, rfl, aok_lda, rfl, aok_pi rfl, rfl, aok_lda, rfl, aok_gf, rfl, aok_pi rfl, rfl, aok_b2 sd_add, rfl, aok_mmin, trivial⟩
def a86_X0_settle_8 : List (Nat × aF) := [(169, a_pf aT12 8 0 (.int)), (172, a_rv)]
theorem p86_X0_settle_8 {E : zM → Prop} (h : aH86 E) : aP0 (aΘ12 E) 4 tX0_settle_8 a86_X0_settle_8 := ⟨rfl, aok_pf h.1, rfl, aok_rv, trivial⟩
def b86_X0_settle : aTb := [(20, a86_X0_settle_0), (42, a86_X0_settle_1), (62, a86_X0_settle_2), (86, a86_X0_settle_3), (106, a86_X0_settle_4), (126, a86_X0_settle_5), (147, a86_X0_settle_6), (169, a86_X0_settle_7), (100000, a86_X0_settle_8)]
theorem q86_X0_settle {E : zM → Prop} (h : aH86 E) : aP1 (aΘ12 E) 4 tX0_settle b86_X0_settle := ⟨rfl, p86_X0_settle_0 h, rfl, p86_X0_settle_1 h, rfl, p86_X0_settle_2 h, rfl, p86_X0_settle_3 h, rfl, p86_X0_settle_4 h, rfl, p86_X0_settle_5 h, rfl, p86_X0_settle_6 h, rfl, p86_X0_settle_7 h, rfl, p86_X0_settle_8 h, trivial⟩
def n86_X0_settle : List aNd := [(12, [(0, .inr (some [181])), (1, .inr (some [31])), (2, .inl (0, 9))], [(2, -1)], 20), (98, [(0, .inr (some [181])), (1, .inr (some [31])), (2, .inl (0, 511)), (3, .inl (0, 9))], [(3, -1)], 9)]
theorem k86_X0_settle {E : zM → Prop} (h : aH86 E) : aCv (aΘ12 E) 5 c86_X0_settle := aMeth (D := 4) (c := c86_X0_settle) (tb := b86_X0_settle) (ns := n86_X0_settle) (fuel := 3000) rfl (q86_X0_settle h) (by decide +kernel)
abbrev c86_X0_pass : aCt := (2, [.inr (some [181]), .inr (some [31]), .inl (1, 1), .inl (-99, 99)], none)
def a86_X0_pass_0 : List (Nat × aF) := [(0, a_pi (0) 1), (1, a_sti 8 4 2), (3, a_ldi 4 2), (5, a_ldi 2 1), (6, a_ic d_ge d_lt 3 79), (9, a_lda 0 1), (10, a_lda 1 1), (11, a_ldi 3 1), (12, a_cv aT12 c86_X0_lit 2 0), (15, a_stl 8 5 2), (17, a_pi (0) 1), (18, a_sti 8 7 2)]
theorem p86_X0_pass_0 {E : zM → Prop} (h : aH86 E) : aP0 (aΘ12 E) 5 tX0_pass_0 a86_X0_pass_0 := ⟨rfl, aok_pi rfl, rfl, aok_sti, rfl, aok_ldi, rfl, aok_ldi, rfl, aok_ic sj_ge, rfl, aok_lda, rfl, aok_lda, rfl, aok_ldi, rfl, aok_cv (c := c86_X0_lit) (D' := 5) (k86_X0_lit h) (by decide), rfl, aok_stl, rfl, aok_pi rfl, rfl, aok_sti, trivial⟩
def a86_X0_pass_1 : List (Nat × aF) := [(20, a_ldi 7 2), (22, a_lda 0 1), (23, a_gf aT12 0 0 (.inr (some [2, 14]))), (26, a_gf aT12 4 13 (.inl (0, 6))), (29, a_ic d_ge d_lt 3 68), (32, a_lda 1 1), (33, a_gf aT12 8 3 (.inr (some [33]))), (36, a_ldi 7 2), (38, a_lda 0 1), (39, a_lda 1 1), (40, a_gf aT12 8 3 (.inr (some [33]))), (43, a_ldi 7 2)]
theorem p86_X0_pass_1 {E : zM → Prop} (h : aH86 E) : aP0 (aΘ12 E) 5 tX0_pass_1 a86_X0_pass_1 := ⟨rfl, aok_ldi, rfl, aok_lda, rfl, aok_gf, rfl, aok_gf, rfl, aok_ic sj_ge, rfl, aok_lda, rfl, aok_gf, rfl, aok_ldi, rfl, aok_lda, rfl, aok_lda, rfl, aok_gf, rfl, aok_ldi, trivial⟩
def a86_X0_pass_2 : List (Nat × aF) := [(45, a_al aT12 0 (-2147483648, 2147483647)), (46, a_lda 0 1), (47, a_gf aT12 0 0 (.inr (some [2, 14]))), (50, a_gf aT12 4 16 (.inr (some [9, 21]))), (53, a_ldi 7 2), (55, a_al aT12 0 (-2147483648, 2147483647)), (56, a_ldl 5 2), (58, a_cv aT12 c86_X0_walked 3 0), (61, a_as aT12 0), (62, a_iw 8 7 (1)), (65, a_gt 20), (68, a_lda 0 1)]
theorem p86_X0_pass_2 {E : zM → Prop} (h : aH86 E) : aP0 (aΘ12 E) 5 tX0_pass_2 a86_X0_pass_2 := ⟨rfl, aok_al, rfl, aok_lda, rfl, aok_gf, rfl, aok_gf, rfl, aok_ldi, rfl, aok_al, rfl, aok_ldl, rfl, aok_cv (c := c86_X0_walked) (D' := 3) (k86_X0_walked h) (by decide), rfl, aok_as h.1, rfl, aok_iw rfl, rfl, aok_gt, rfl, aok_lda, trivial⟩
def a86_X0_pass_3 : List (Nat × aF) := [(69, a_lda 1 1), (70, a_cv aT12 c86_X0_settle 1 0), (73, a_iw 8 4 (1)), (76, a_gt 3), (79, a_rv)]
theorem p86_X0_pass_3 {E : zM → Prop} (h : aH86 E) : aP0 (aΘ12 E) 5 tX0_pass_3 a86_X0_pass_3 := ⟨rfl, aok_lda, rfl, aok_cv (c := c86_X0_settle) (D' := 5) (k86_X0_settle h) (by decide), rfl, aok_iw rfl, rfl, aok_gt, rfl, aok_rv, trivial⟩
def b86_X0_pass : aTb := [(20, a86_X0_pass_0), (45, a86_X0_pass_1), (69, a86_X0_pass_2), (100000, a86_X0_pass_3)]
theorem q86_X0_pass {E : zM → Prop} (h : aH86 E) : aP1 (aΘ12 E) 5 tX0_pass b86_X0_pass := ⟨rfl, p86_X0_pass_0 h, rfl, p86_X0_pass_1 h, rfl, p86_X0_pass_2 h, rfl, p86_X0_pass_3 h, trivial⟩
def n86_X0_pass : List aNd := [(3, [(0, .inr (some [181])), (1, .inr (some [31])), (2, .inl (1, 1)), (3, .inl (-99, 99)), (4, .inl (0, 1))], [(4, -9)], 17), (20, [(0, .inr (some [181])), (1, .inr (some [31])), (2, .inl (1, 1)), (3, .inl (-99, 99)), (4, .inl (0, 0)), (5, .inr none), (7, .inl (0, 6))], [(4, -9), (7, -1)], 15)]
theorem k86_X0_pass {E : zM → Prop} (h : aH86 E) : aCv (aΘ12 E) 6 c86_X0_pass := aMeth (D := 5) (c := c86_X0_pass) (tb := b86_X0_pass) (ns := n86_X0_pass) (fuel := 3000) rfl (q86_X0_pass h) (by decide +kernel)
abbrev c86_X1_add : aCt := (20, [.inr (some [34]), .inl (-2147483648, 2147483647), .inl (0, 8), .inl (0, 1)], none)
def a86_X1_add_0 : List (Nat × aF) := [(0, a_lda 0 1), (1, a_gf aT12 1 3 (.inl (0, 40))), (4, a_pi (40) 2), (6, a_ic d_lt d_ge 3 66), (9, a_lda 0 1), (10, a_pi (39) 2), (12, a_pf aT12 1 3 (.int)), (15, a_lda 0 1), (16, a_gf aT12 1 0 (.inr (some [35]))), (19, a_pi (1) 1), (20, a_lda 0 1), (21, a_gf aT12 1 0 (.inr (some [35])))]
theorem p86_X1_add_0 {E : zM → Prop} (h : aH86 E) : aP0 (aΘ12 E) 0 tX1_add_0 a86_X1_add_0 := ⟨rfl, aok_lda, rfl, aok_gf, rfl, aok_pi rfl, rfl, aok_ic sj_lt, rfl, aok_lda, rfl, aok_pi rfl, rfl, aok_pf h.1, rfl, aok_lda, rfl, aok_gf, rfl, aok_pi rfl, rfl, aok_lda, rfl, aok_gf, trivial⟩
def a86_X1_add_1 : List (Nat × aF) := [(24, a_pi (0) 1), (25, a_lda 0 1), (26, a_gf aT12 1 3 (.inl (0, 40))), (29, a_cp aT12 0 (-2147483648, 2147483647)), (32, a_lda 0 1), (33, a_gf aT12 1 1 (.inr (some [36]))), (36, a_pi (1) 1), (37, a_lda 0 1), (38, a_gf aT12 1 1 (.inr (some [36]))), (41, a_pi (0) 1), (42, a_lda 0 1), (43, a_gf aT12 1 3 (.inl (0, 40)))]
theorem p86_X1_add_1 {E : zM → Prop} (h : aH86 E) : aP0 (aΘ12 E) 0 tX1_add_1 a86_X1_add_1 := ⟨rfl, aok_pi rfl, rfl, aok_lda, rfl, aok_gf, rfl, aok_cp h.1, rfl, aok_lda, rfl, aok_gf, rfl, aok_pi rfl, rfl, aok_lda, rfl, aok_gf, rfl, aok_pi rfl, rfl, aok_lda, rfl, aok_gf, trivial⟩
def a86_X1_add_2 : List (Nat × aF) := [(46, a_cp aT12 0 (-2147483648, 2147483647)), (49, a_lda 0 1), (50, a_gf aT12 1 2 (.inr (some [37]))), (53, a_pi (1) 1), (54, a_lda 0 1), (55, a_gf aT12 1 2 (.inr (some [37]))), (58, a_pi (0) 1), (59, a_lda 0 1), (60, a_gf aT12 1 3 (.inl (0, 40))), (63, a_cp aT12 0 (-2147483648, 2147483647)), (66, a_lda 0 1), (67, a_gf aT12 1 0 (.inr (some [35])))]
theorem p86_X1_add_2 {E : zM → Prop} (h : aH86 E) : aP0 (aΘ12 E) 0 tX1_add_2 a86_X1_add_2 := ⟨rfl, aok_cp h.1, rfl, aok_lda, rfl, aok_gf, rfl, aok_pi rfl, rfl, aok_lda, rfl, aok_gf, rfl, aok_pi rfl, rfl, aok_lda, rfl, aok_gf, rfl, aok_cp h.1, rfl, aok_lda, rfl, aok_gf, trivial⟩
def a86_X1_add_3 : List (Nat × aF) := [(70, a_lda 0 1), (71, a_gf aT12 1 3 (.inl (0, 40))), (74, a_ldi 1 1), (75, a_as aT12 0), (76, a_lda 0 1), (77, a_gf aT12 1 1 (.inr (some [36]))), (80, a_lda 0 1), (81, a_gf aT12 1 3 (.inl (0, 40))), (84, a_ldi 2 1), (85, a_as aT12 0), (86, a_lda 0 1), (87, a_gf aT12 1 2 (.inr (some [37])))]
theorem p86_X1_add_3 {E : zM → Prop} (h : aH86 E) : aP0 (aΘ12 E) 0 tX1_add_3 a86_X1_add_3 := ⟨rfl, aok_lda, rfl, aok_gf, rfl, aok_ldi, rfl, aok_as h.1, rfl, aok_lda, rfl, aok_gf, rfl, aok_lda, rfl, aok_gf, rfl, aok_ldi, rfl, aok_as h.1, rfl, aok_lda, rfl, aok_gf, trivial⟩
def a86_X1_add_4 : List (Nat × aF) := [(90, a_lda 0 1), (91, a_gf aT12 1 3 (.inl (0, 40))), (94, a_ldi 3 1), (95, a_as aT12 0), (96, a_lda 0 1), (97, a_du), (98, a_gf aT12 1 3 (.inl (0, 40))), (101, a_pi (1) 1), (102, a_b2 g_add), (103, a_pf aT12 1 3 (.int)), (106, a_rv)]
theorem p86_X1_add_4 {E : zM → Prop} (h : aH86 E) : aP0 (aΘ12 E) 0 tX1_add_4 a86_X1_add_4 := ⟨rfl, aok_lda, rfl, aok_gf, rfl, aok_ldi, rfl, aok_as h.1, rfl, aok_lda, rfl, aok_du, rfl, aok_gf, rfl, aok_pi rfl, rfl, aok_b2 sd_add, rfl, aok_pf h.1, rfl, aok_rv, trivial⟩
def b86_X1_add : aTb := [(24, a86_X1_add_0), (46, a86_X1_add_1), (70, a86_X1_add_2), (90, a86_X1_add_3), (100000, a86_X1_add_4)]
theorem q86_X1_add {E : zM → Prop} (h : aH86 E) : aP1 (aΘ12 E) 0 tX1_add b86_X1_add := ⟨rfl, p86_X1_add_0 h, rfl, p86_X1_add_1 h, rfl, p86_X1_add_2 h, rfl, p86_X1_add_3 h, rfl, p86_X1_add_4 h, trivial⟩
def n86_X1_add : List aNd := []
theorem k86_X1_add {E : zM → Prop} (h : aH86 E) : aCv (aΘ12 E) 1 c86_X1_add := aMeth (D := 0) (c := c86_X1_add) (tb := b86_X1_add) (ns := n86_X1_add) (fuel := 3000) rfl (q86_X1_add h) (by decide +kernel)
abbrev c86_X11_passAndKeep : aCt := (153, [.inr (some [0]), .inl (-99, 99)], some (.inl (0, 63)))
def a86_X11_passAndKeep_0 : List (Nat × aF) := [(0, a_lda 0 1), (1, a_gf aT12 11 7 (.inr (some [31]))), (4, a_gf aT12 8 0 (.inl (-2147483648, 2147483647))), (7, a_sti 4 2 1), (8, a_lda 0 1), (9, a_gf aT12 11 10 (.inr (some [181]))), (12, a_lda 0 1), (13, a_gf aT12 11 7 (.inr (some [31]))), (16, a_pi (1) 1), (17, a_ldi 1 1), (18, a_cv aT12 c86_X0_pass 3 0), (21, a_pi (0) 1)]
theorem p86_X11_passAndKeep_0 {E : zM → Prop} (h : aH86 E) : aP0 (aΘ12 E) 6 tX11_passAndKeep_0 a86_X11_passAndKeep_0 := ⟨rfl, aok_lda, rfl, aok_gf, rfl, aok_gf, rfl, aok_sti, rfl, aok_lda, rfl, aok_gf, rfl, aok_lda, rfl, aok_gf, rfl, aok_pi rfl, rfl, aok_ldi, rfl, aok_cv (c := c86_X0_pass) (D' := 6) (k86_X0_pass h) (by decide), rfl, aok_pi rfl, trivial⟩
def a86_X11_passAndKeep_1 : List (Nat × aF) := [(22, a_sti 4 3 1), (23, a_ldi 3 1), (24, a_lda 0 1), (25, a_gf aT12 11 4 (.inr (some [2, 14]))), (28, a_gf aT12 4 7 (.inl (0, 9))), (31, a_ic d_ge d_lt 3 91), (34, a_lda 0 1), (35, a_gf aT12 11 10 (.inr (some [181]))), (38, a_gf aT12 0 3 (.inl (0, 511))), (41, a_ldi 3 1), (42, a_b2 g_shr), (43, a_pi (1) 1)]
theorem p86_X11_passAndKeep_1 {E : zM → Prop} (h : aH86 E) : aP0 (aΘ12 E) 6 tX11_passAndKeep_1 a86_X11_passAndKeep_1 := ⟨rfl, aok_sti, rfl, aok_ldi, rfl, aok_lda, rfl, aok_gf, rfl, aok_gf, rfl, aok_ic sj_ge, rfl, aok_lda, rfl, aok_gf, rfl, aok_gf, rfl, aok_ldi, rfl, aok_b2 sd_shr, rfl, aok_pi rfl, trivial⟩
def a86_X11_passAndKeep_2 : List (Nat × aF) := [(44, a_b2 g_and), (45, a_if c_eq c_ne 3 61), (48, a_lda 0 1), (49, a_gf aT12 11 8 (.inr (some [34]))), (52, a_ldi 2 1), (53, a_ldi 3 1), (54, a_pi (1) 1), (55, a_cv aT12 c86_X1_add 3 1), (58, a_gt 85), (61, a_lda 0 1), (62, a_gf aT12 11 10 (.inr (some [181]))), (65, a_gf aT12 0 4 (.inl (0, 511)))]
theorem p86_X11_passAndKeep_2 {E : zM → Prop} (h : aH86 E) : aP0 (aΘ12 E) 6 tX11_passAndKeep_2 a86_X11_passAndKeep_2 := ⟨rfl, aok_b2 sd_and, rfl, aok_if si_eq, rfl, aok_lda, rfl, aok_gf, rfl, aok_ldi, rfl, aok_ldi, rfl, aok_pi rfl, rfl, aok_cv (c := c86_X1_add) (D' := 1) (k86_X1_add h) (by decide), rfl, aok_gt, rfl, aok_lda, rfl, aok_gf, rfl, aok_gf, trivial⟩
def a86_X11_passAndKeep_3 : List (Nat × aF) := [(68, a_ldi 3 1), (69, a_b2 g_shr), (70, a_pi (1) 1), (71, a_b2 g_and), (72, a_if c_eq c_ne 3 85), (75, a_lda 0 1), (76, a_gf aT12 11 8 (.inr (some [34]))), (79, a_ldi 2 1), (80, a_ldi 3 1), (81, a_pi (0) 1), (82, a_cv aT12 c86_X1_add 3 1), (85, a_iw 4 3 (1))]
theorem p86_X11_passAndKeep_3 {E : zM → Prop} (h : aH86 E) : aP0 (aΘ12 E) 6 tX11_passAndKeep_3 a86_X11_passAndKeep_3 := ⟨rfl, aok_ldi, rfl, aok_b2 sd_shr, rfl, aok_pi rfl, rfl, aok_b2 sd_and, rfl, aok_if si_eq, rfl, aok_lda, rfl, aok_gf, rfl, aok_ldi, rfl, aok_ldi, rfl, aok_pi rfl, rfl, aok_cv (c := c86_X1_add) (D' := 1) (k86_X1_add h) (by decide), rfl, aok_iw rfl, trivial⟩
def a86_X11_passAndKeep_4 : List (Nat × aF) := [(88, a_gt 23), (91, a_lda 0 1), (92, a_gf aT12 11 10 (.inr (some [181]))), (95, a_gf aT12 0 3 (.inl (0, 511))), (98, a_cs c86_J6_bitCount_0f7a4 1), (101, a_ri false)]
theorem p86_X11_passAndKeep_4 {E : zM → Prop} (h : aH86 E) : aP0 (aΘ12 E) 6 tX11_passAndKeep_4 a86_X11_passAndKeep_4 := ⟨rfl, aok_gt, rfl, aok_lda, rfl, aok_gf, rfl, aok_gf, rfl, aok_cs (c := c86_J6_bitCount_0f7a4) (D' := 1) (k86_J6_bitCount_0f7a4 h) (by decide), rfl, aok_ri, trivial⟩
def b86_X11_passAndKeep : aTb := [(22, a86_X11_passAndKeep_0), (44, a86_X11_passAndKeep_1), (68, a86_X11_passAndKeep_2), (88, a86_X11_passAndKeep_3), (100000, a86_X11_passAndKeep_4)]
theorem q86_X11_passAndKeep {E : zM → Prop} (h : aH86 E) : aP1 (aΘ12 E) 6 tX11_passAndKeep b86_X11_passAndKeep := ⟨rfl, p86_X11_passAndKeep_0 h, rfl, p86_X11_passAndKeep_1 h, rfl, p86_X11_passAndKeep_2 h, rfl, p86_X11_passAndKeep_3 h, rfl, p86_X11_passAndKeep_4 h, trivial⟩
def n86_X11_passAndKeep : List aNd := [(23, [(0, .inr (some [0])), (1, .inl (-99, 99)), (2, .inl (-2147483648, 2147483647)), (3, .inl (0, 9))], [(3, -1)], 9)]
theorem k86_X11_passAndKeep {E : zM → Prop} (h : aH86 E) : aCv (aΘ12 E) 7 c86_X11_passAndKeep := aMeth (D := 6) (c := c86_X11_passAndKeep) (tb := b86_X11_passAndKeep) (ns := n86_X11_passAndKeep) (fuel := 3000) rfl (q86_X11_passAndKeep h) (by decide +kernel)
def a86_X11_comes_0 : List (Nat × aF) := [(0, a_lda 0 1), (1, a_gf aT12 11 4 (.inr (some [2, 14]))), (4, a_gf aT12 4 1 (.inl (-2147483648, 2147483647))), (7, a_if c_le c_gt 3 38), (10, a_ldi 1 1), (11, a_if c_lt c_ge 3 38), (14, a_ldi 1 1), (15, a_ldi 2 1), (16, a_ic d_gt d_le 3 38), (19, a_lda 0 1), (20, a_gf aT12 11 7 (.inr (some [31]))), (23, a_gf aT12 8 0 (.inl (-2147483648, 2147483647)))]
theorem p86_X11_comes_0 {E : zM → Prop} (h : aH86 E) : aP0 (aΘ12 E) 0 tX11_comes_0 a86_X11_comes_0 := ⟨rfl, aok_lda, rfl, aok_gf, rfl, aok_gf, rfl, aok_if si_le, rfl, aok_ldi, rfl, aok_if si_lt, rfl, aok_ldi, rfl, aok_ldi, rfl, aok_ic sj_gt, rfl, aok_lda, rfl, aok_gf, rfl, aok_gf, trivial⟩
def a86_X11_comes_1 : List (Nat × aF) := [(26, a_ldi 1 1), (27, a_b2 g_add), (28, a_pi (999) 3), (31, a_ic d_gt d_le 3 38), (34, a_pi (1) 1), (35, a_gt 39), (38, a_pi (0) 1), (39, a_ri true)]
theorem p86_X11_comes_1 {E : zM → Prop} (h : aH86 E) : aP0 (aΘ12 E) 0 tX11_comes_1 a86_X11_comes_1 := ⟨rfl, aok_ldi, rfl, aok_b2 sd_add, rfl, aok_pi rfl, rfl, aok_ic sj_gt, rfl, aok_pi rfl, rfl, aok_gt, rfl, aok_pi rfl, rfl, aok_ri, trivial⟩
def b86_X11_comes : aTb := [(26, a86_X11_comes_0), (100000, a86_X11_comes_1)]
theorem q86_X11_comes {E : zM → Prop} (h : aH86 E) : aP1 (aΘ12 E) 0 tX11_comes b86_X11_comes := ⟨rfl, p86_X11_comes_0 h, rfl, p86_X11_comes_1 h, trivial⟩
abbrev c86_X11_nights : aCt := (132, [.inr (some [0]), .inl (-2147483648, 2147483647)], some (.inl (-2147483648, 2147483647)))
def a86_X11_nights_0 : List (Nat × aF) := [(0, a_ldi 1 1), (1, a_pi (1) 1), (2, a_ic d_lt d_ge 3 15), (5, a_lda 0 1), (6, a_ldi 1 1), (7, a_pi (40) 2), (9, a_iv aT12 b86_X11_comes 400 3 2 11), (12, a_if c_ne c_eq 3 21), (15, a_lda 0 1), (16, a_pi (2) 1), (17, a_cv aT12 c86_X11_refuse 1 11), (20, a_ri false)]
theorem p86_X11_nights_0 {E : zM → Prop} (h : aH86 E) : aP0 (aΘ12 E) 7 tX11_nights_0 a86_X11_nights_0 := ⟨rfl, aok_ldi, rfl, aok_pi rfl, rfl, aok_ic sj_lt, rfl, aok_lda, rfl, aok_ldi, rfl, aok_pi rfl, rfl, aok_iv (D' := 0) rfl (q86_X11_comes h) (by decide), rfl, aok_if si_ne, rfl, aok_lda, rfl, aok_pi rfl, rfl, aok_cv (c := c86_X11_refuse) (D' := 1) (k86_X11_refuse h) (by decide), rfl, aok_ri, trivial⟩
def a86_X11_nights_1 : List (Nat × aF) := [(21, a_lda 0 1), (22, a_gf aT12 11 9 (.inr (some [38]))), (25, a_lda 0 1), (26, a_gf aT12 11 7 (.inr (some [31]))), (29, a_lda 0 1), (30, a_gf aT12 11 8 (.inr (some [34]))), (33, a_cv aT12 c86_X2_push 2 2), (36, a_pi (0) 1), (37, a_sti 4 2 1), (38, a_pi (0) 1), (39, a_sti 4 3 1), (40, a_ldi 3 1)]
theorem p86_X11_nights_1 {E : zM → Prop} (h : aH86 E) : aP0 (aΘ12 E) 7 tX11_nights_1 a86_X11_nights_1 := ⟨rfl, aok_lda, rfl, aok_gf, rfl, aok_lda, rfl, aok_gf, rfl, aok_lda, rfl, aok_gf, rfl, aok_cv (c := c86_X2_push) (D' := 2) (k86_X2_push h) (by decide), rfl, aok_pi rfl, rfl, aok_sti, rfl, aok_pi rfl, rfl, aok_sti, rfl, aok_ldi, trivial⟩
def a86_X11_nights_2 : List (Nat × aF) := [(41, a_ldi 1 1), (42, a_ic d_ge d_lt 3 59), (45, a_ldi 2 1), (46, a_lda 0 1), (47, a_pi (-1) 1), (48, a_cv aT12 c86_X11_passAndKeep 1 11), (51, a_b2 g_add), (52, a_sti 4 2 1), (53, a_iw 4 3 (1)), (56, a_gt 40), (59, a_ldi 2 1), (60, a_ri false)]
theorem p86_X11_nights_2 {E : zM → Prop} (h : aH86 E) : aP0 (aΘ12 E) 7 tX11_nights_2 a86_X11_nights_2 := ⟨rfl, aok_ldi, rfl, aok_ic sj_ge, rfl, aok_ldi, rfl, aok_lda, rfl, aok_pi rfl, rfl, aok_cv (c := c86_X11_passAndKeep) (D' := 7) (k86_X11_passAndKeep h) (by decide), rfl, aok_b2 sd_add, rfl, aok_sti, rfl, aok_iw rfl, rfl, aok_gt, rfl, aok_ldi, rfl, aok_ri, trivial⟩
def b86_X11_nights : aTb := [(21, a86_X11_nights_0), (41, a86_X11_nights_1), (100000, a86_X11_nights_2)]
theorem q86_X11_nights {E : zM → Prop} (h : aH86 E) : aP1 (aΘ12 E) 7 tX11_nights b86_X11_nights := ⟨rfl, p86_X11_nights_0 h, rfl, p86_X11_nights_1 h, rfl, p86_X11_nights_2 h, trivial⟩
def n86_X11_nights : List aNd := [(40, [(0, .inr (some [0])), (1, .inl (1, 40)), (2, .inl (-2147483648, 2147483647)), (3, .inl (0, 40))], [(3, -1)], 40)]
theorem k86_X11_nights {E : zM → Prop} (h : aH86 E) : aCv (aΘ12 E) 8 c86_X11_nights := aMeth (D := 7) (c := c86_X11_nights) (tb := b86_X11_nights) (ns := n86_X11_nights) (fuel := 3000) rfl (q86_X11_nights h) (by decide +kernel)
abbrev c86_X11_draw : aCt := (155, [.inr (some [0]), .inl (0, 100)], some (.inl (-99, 99)))
def a86_X11_draw_0 : List (Nat × aF) := [(0, a_lda 0 1), (1, a_pl 3), (4, a_lda 0 1), (5, a_gf aT12 11 15 (.inl (-2147483648, 2147483647))), (8, a_il), (9, a_l2), (10, a_pl 3), (13, a_l2), (14, a_pl 3), (17, a_l2), (18, a_l2i), (19, a_pf aT12 11 15 (.int))]
theorem p86_X11_draw_0 {E : zM → Prop} (h : aH86 E) : aP0 (aΘ12 E) 0 tX11_draw_0 a86_X11_draw_0 := ⟨rfl, aok_lda, rfl, aok_pl, rfl, aok_lda, rfl, aok_gf, rfl, aok_il, rfl, aok_l2, rfl, aok_pl, rfl, aok_l2, rfl, aok_pl, rfl, aok_l2, rfl, aok_l2i, rfl, aok_pf h.1, trivial⟩
def a86_X11_draw_1 : List (Nat × aF) := [(22, a_ldi 1 1), (23, a_if c_le c_gt 3 38), (26, a_lda 0 1), (27, a_gf aT12 11 15 (.inl (-2147483648, 2147483647))), (30, a_pi (6) 2), (32, a_b2 g_shr), (33, a_ldi 1 1), (34, a_d2 g_rem), (35, a_gt 39), (38, a_pi (0) 1), (39, a_ri false)]
theorem p86_X11_draw_1 {E : zM → Prop} (h : aH86 E) : aP0 (aΘ12 E) 0 tX11_draw_1 a86_X11_draw_1 := ⟨rfl, aok_ldi, rfl, aok_if si_le, rfl, aok_lda, rfl, aok_gf, rfl, aok_pi rfl, rfl, aok_b2 sd_shr, rfl, aok_ldi, rfl, aok_d2 sp_rem, rfl, aok_gt, rfl, aok_pi rfl, rfl, aok_ri, trivial⟩
def b86_X11_draw : aTb := [(22, a86_X11_draw_0), (100000, a86_X11_draw_1)]
theorem q86_X11_draw {E : zM → Prop} (h : aH86 E) : aP1 (aΘ12 E) 0 tX11_draw b86_X11_draw := ⟨rfl, p86_X11_draw_0 h, rfl, p86_X11_draw_1 h, trivial⟩
def n86_X11_draw : List aNd := []
theorem k86_X11_draw {E : zM → Prop} (h : aH86 E) : aCv (aΘ12 E) 1 c86_X11_draw := aMeth (D := 0) (c := c86_X11_draw) (tb := b86_X11_draw) (ns := n86_X11_draw) (fuel := 3000) rfl (q86_X11_draw h) (by decide +kernel)
abbrev c86_X11_drawDark : aCt := (154, [.inr (some [0])], some (.inl (-99, 99)))
def a86_X11_drawDark_0 : List (Nat × aF) := [(0, a_lda 0 1), (1, a_pi (100) 2), (3, a_cv aT12 c86_X11_draw 1 11), (6, a_lda 0 1), (7, a_gf aT12 11 4 (.inr (some [2, 14]))), (10, a_gf aT12 4 4 (.inl (-2147483648, 2147483647))), (13, a_ic d_ge d_lt 3 20), (16, a_pi (1) 1), (17, a_gt 21), (20, a_pi (0) 1), (21, a_sti 2 1 1), (22, a_ldi 1 1)]
theorem p86_X11_drawDark_0 {E : zM → Prop} (h : aH86 E) : aP0 (aΘ12 E) 1 tX11_drawDark_0 a86_X11_drawDark_0 := ⟨rfl, aok_lda, rfl, aok_pi rfl, rfl, aok_cv (c := c86_X11_draw) (D' := 1) (k86_X11_draw h) (by decide), rfl, aok_lda, rfl, aok_gf, rfl, aok_gf, rfl, aok_ic sj_ge, rfl, aok_pi rfl, rfl, aok_gt, rfl, aok_pi rfl, rfl, aok_sti, rfl, aok_ldi, trivial⟩
def a86_X11_drawDark_1 : List (Nat × aF) := [(23, a_if c_eq c_ne 3 50), (26, a_lda 0 1), (27, a_gf aT12 11 4 (.inr (some [2, 14]))), (30, a_gf aT12 4 7 (.inl (0, 9))), (33, a_if c_le c_gt 3 50), (36, a_lda 0 1), (37, a_lda 0 1), (38, a_gf aT12 11 4 (.inr (some [2, 14]))), (41, a_gf aT12 4 7 (.inl (0, 9))), (44, a_cv aT12 c86_X11_draw 1 11), (47, a_gt 51), (50, a_pi (-1) 1)]
theorem p86_X11_drawDark_1 {E : zM → Prop} (h : aH86 E) : aP0 (aΘ12 E) 1 tX11_drawDark_1 a86_X11_drawDark_1 := ⟨rfl, aok_if si_eq, rfl, aok_lda, rfl, aok_gf, rfl, aok_gf, rfl, aok_if si_le, rfl, aok_lda, rfl, aok_lda, rfl, aok_gf, rfl, aok_gf, rfl, aok_cv (c := c86_X11_draw) (D' := 1) (k86_X11_draw h) (by decide), rfl, aok_gt, rfl, aok_pi rfl, trivial⟩
def a86_X11_drawDark_2 : List (Nat × aF) := [(51, a_ri false)]
theorem p86_X11_drawDark_2 {E : zM → Prop} (h : aH86 E) : aP0 (aΘ12 E) 1 tX11_drawDark_2 a86_X11_drawDark_2 := ⟨rfl, aok_ri, trivial⟩
def b86_X11_drawDark : aTb := [(23, a86_X11_drawDark_0), (51, a86_X11_drawDark_1), (100000, a86_X11_drawDark_2)]
theorem q86_X11_drawDark {E : zM → Prop} (h : aH86 E) : aP1 (aΘ12 E) 1 tX11_drawDark b86_X11_drawDark := ⟨rfl, p86_X11_drawDark_0 h, rfl, p86_X11_drawDark_1 h, rfl, p86_X11_drawDark_2 h, trivial⟩
def n86_X11_drawDark : List aNd := []
theorem k86_X11_drawDark {E : zM → Prop} (h : aH86 E) : aCv (aΘ12 E) 2 c86_X11_drawDark := aMeth (D := 1) (c := c86_X11_drawDark) (tb := b86_X11_drawDark) (ns := n86_X11_drawDark) (fuel := 3000) rfl (q86_X11_drawDark h) (by decide +kernel)
abbrev c86_X11_chance : aCt := (133, [.inr (some [0]), .inl (-2147483648, 2147483647)], some (.inl (-2147483648, 2147483647)))
def a86_X11_chance_0 : List (Nat × aF) := [(0, a_ldi 1 1), (1, a_pi (1) 1), (2, a_ic d_lt d_ge 3 15), (5, a_lda 0 1), (6, a_ldi 1 1), (7, a_pi (40) 2), (9, a_iv aT12 b86_X11_comes 400 3 2 11), (12, a_if c_ne c_eq 3 21), (15, a_lda 0 1), (16, a_pi (2) 1), (17, a_cv aT12 c86_X11_refuse 1 11), (20, a_ri false)]
theorem p86_X11_chance_0 {E : zM → Prop} (h : aH86 E) : aP0 (aΘ12 E) 7 tX11_chance_0 a86_X11_chance_0 := ⟨rfl, aok_ldi, rfl, aok_pi rfl, rfl, aok_ic sj_lt, rfl, aok_lda, rfl, aok_ldi, rfl, aok_pi rfl, rfl, aok_iv (D' := 0) rfl (q86_X11_comes h) (by decide), rfl, aok_if si_ne, rfl, aok_lda, rfl, aok_pi rfl, rfl, aok_cv (c := c86_X11_refuse) (D' := 1) (k86_X11_refuse h) (by decide), rfl, aok_ri, trivial⟩
def a86_X11_chance_1 : List (Nat × aF) := [(21, a_lda 0 1), (22, a_gf aT12 11 9 (.inr (some [38]))), (25, a_lda 0 1), (26, a_gf aT12 11 7 (.inr (some [31]))), (29, a_lda 0 1), (30, a_gf aT12 11 8 (.inr (some [34]))), (33, a_cv aT12 c86_X2_push 2 2), (36, a_pi (0) 1), (37, a_sti 5 2 1), (38, a_pi (0) 1), (39, a_sti 5 3 1), (40, a_ldi 3 1)]
theorem p86_X11_chance_1 {E : zM → Prop} (h : aH86 E) : aP0 (aΘ12 E) 7 tX11_chance_1 a86_X11_chance_1 := ⟨rfl, aok_lda, rfl, aok_gf, rfl, aok_lda, rfl, aok_gf, rfl, aok_lda, rfl, aok_gf, rfl, aok_cv (c := c86_X2_push) (D' := 2) (k86_X2_push h) (by decide), rfl, aok_pi rfl, rfl, aok_sti, rfl, aok_pi rfl, rfl, aok_sti, rfl, aok_ldi, trivial⟩
def a86_X11_chance_2 : List (Nat × aF) := [(41, a_ldi 1 1), (42, a_ic d_ge d_lt 3 73), (45, a_lda 0 1), (46, a_cv aT12 c86_X11_drawDark 0 11), (49, a_sti 5 4 2), (51, a_ldi 4 2), (53, a_pi (-1) 1), (54, a_ic d_eq d_ne 3 60), (57, a_iw 5 2 (1)), (60, a_lda 0 1), (61, a_ldi 4 2), (63, a_cv aT12 c86_X11_passAndKeep 1 11)]
theorem p86_X11_chance_2 {E : zM → Prop} (h : aH86 E) : aP0 (aΘ12 E) 7 tX11_chance_2 a86_X11_chance_2 := ⟨rfl, aok_ldi, rfl, aok_ic sj_ge, rfl, aok_lda, rfl, aok_cv (c := c86_X11_drawDark) (D' := 2) (k86_X11_drawDark h) (by decide), rfl, aok_sti, rfl, aok_ldi, rfl, aok_pi rfl, rfl, aok_ic sj_eq, rfl, aok_iw rfl, rfl, aok_lda, rfl, aok_ldi, rfl, aok_cv (c := c86_X11_passAndKeep) (D' := 7) (k86_X11_passAndKeep h) (by decide), trivial⟩
def a86_X11_chance_3 : List (Nat × aF) := [(66, a_pop), (67, a_iw 5 3 (1)), (70, a_gt 40), (73, a_ldi 2 1), (74, a_ri false)]
theorem p86_X11_chance_3 {E : zM → Prop} (h : aH86 E) : aP0 (aΘ12 E) 7 tX11_chance_3 a86_X11_chance_3 := ⟨rfl, aok_pop, rfl, aok_iw rfl, rfl, aok_gt, rfl, aok_ldi, rfl, aok_ri, trivial⟩
def b86_X11_chance : aTb := [(21, a86_X11_chance_0), (41, a86_X11_chance_1), (66, a86_X11_chance_2), (100000, a86_X11_chance_3)]
theorem q86_X11_chance {E : zM → Prop} (h : aH86 E) : aP1 (aΘ12 E) 7 tX11_chance b86_X11_chance := ⟨rfl, p86_X11_chance_0 h, rfl, p86_X11_chance_1 h, rfl, p86_X11_chance_2 h, rfl, p86_X11_chance_3 h, trivial⟩
def n86_X11_chance : List aNd := [(40, [(0, .inr (some [0])), (1, .inl (1, 40)), (2, .inl (-2147483648, 2147483647)), (3, .inl (0, 40))], [(3, -1)], 40)]
theorem k86_X11_chance {E : zM → Prop} (h : aH86 E) : aCv (aΘ12 E) 8 c86_X11_chance := aMeth (D := 7) (c := c86_X11_chance) (tb := b86_X11_chance) (ns := n86_X11_chance) (fuel := 3000) rfl (q86_X11_chance h) (by decide +kernel)
abbrev c86_X11_refused : aCt := (145, [.inr (some [0]), .inl (3, 4)], some (.inl (0, 0)))
def a86_X11_refused_0 : List (Nat × aF) := [(0, a_lda 0 1), (1, a_gf aT12 11 14 (.inr (some [220]))), (4, a_ldi 1 1), (5, a_d22), (6, a_al aT12 0 (-2147483648, 2147483647)), (7, a_pi (1) 1), (8, a_b2 g_add), (9, a_as aT12 0), (10, a_pi (0) 1), (11, a_ri true)]
theorem p86_X11_refused_0 {E : zM → Prop} (h : aH86 E) : aP0 (aΘ12 E) 0 tX11_refused_0 a86_X11_refused_0 := ⟨rfl, aok_lda, rfl, aok_gf, rfl, aok_ldi, rfl, aok_d22, rfl, aok_al, rfl, aok_pi rfl, rfl, aok_b2 sd_add, rfl, aok_as h.1, rfl, aok_pi rfl, rfl, aok_ri, trivial⟩
def b86_X11_refused : aTb := [(100000, a86_X11_refused_0)]
theorem q86_X11_refused {E : zM → Prop} (h : aH86 E) : aP1 (aΘ12 E) 0 tX11_refused b86_X11_refused := ⟨rfl, p86_X11_refused_0 h, trivial⟩
def n86_X11_refused : List aNd := []
theorem k86_X11_refused {E : zM → Prop} (h : aH86 E) : aCv (aΘ12 E) 1 c86_X11_refused := aMeth (D := 0) (c := c86_X11_refused) (tb := b86_X11_refused) (ns := n86_X11_refused) (fuel := 3000) rfl (q86_X11_refused h) (by decide +kernel)
abbrev c86_X8_turn : aCt := (82, [.inr (some [31]), .inl (0, 8)], none)
def a86_X8_turn_0 : List (Nat × aF) := [(0, a_lda 0 1), (1, a_du), (2, a_gf aT12 8 1 (.inl (0, 511))), (5, a_pi (1) 1), (6, a_ldi 1 1), (7, a_b2 g_shm), (8, a_b2 g_or), (9, a_pf aT12 8 1 (.int)), (12, a_lda 0 1), (13, a_gf aT12 8 2 (.inr (some [32]))), (16, a_ldi 1 1), (17, a_pi (0) 1)]
theorem p86_X8_turn_0 {E : zM → Prop} (h : aH86 E) : aP0 (aΘ12 E) 0 tX8_turn_0 a86_X8_turn_0 := ⟨rfl, aok_lda, rfl, aok_du, rfl, aok_gf, rfl, aok_pi rfl, rfl, aok_ldi, rfl, aok_b2 sd_shm, rfl, aok_b2 sd_xor, rfl, aok_pf h.1, rfl, aok_lda, rfl, aok_gf, rfl, aok_ldi, rfl, aok_pi rfl, trivial⟩
def a86_X8_turn_1 : List (Nat × aF) := [(18, a_as aT12 0), (19, a_rv)]
theorem p86_X8_turn_1 {E : zM → Prop} (h : aH86 E) : aP0 (aΘ12 E) 0 tX8_turn_1 a86_X8_turn_1 := ⟨rfl, aok_as h.1, rfl, aok_rv, trivial⟩
def b86_X8_turn : aTb := [(18, a86_X8_turn_0), (100000, a86_X8_turn_1)]
theorem q86_X8_turn {E : zM → Prop} (h : aH86 E) : aP1 (aΘ12 E) 0 tX8_turn b86_X8_turn := ⟨rfl, p86_X8_turn_0 h, rfl, p86_X8_turn_1 h, trivial⟩
def n86_X8_turn : List aNd := []
theorem k86_X8_turn {E : zM → Prop} (h : aH86 E) : aCv (aΘ12 E) 1 c86_X8_turn := aMeth (D := 0) (c := c86_X8_turn) (tb := b86_X8_turn) (ns := n86_X8_turn) (fuel := 3000) rfl (q86_X8_turn h) (by decide +kernel)
abbrev c86_X11_turnByAct : aCt := (152, [.inr (some [0]), .inl (0, 8)], none)
def a86_X11_turnByAct_0 : List (Nat × aF) := [(0, a_lda 0 1), (1, a_gf aT12 11 9 (.inr (some [38]))), (4, a_lda 0 1), (5, a_gf aT12 11 7 (.inr (some [31]))), (8, a_lda 0 1), (9, a_gf aT12 11 8 (.inr (some [34]))), (12, a_cv aT12 c86_X2_push 2 2), (15, a_lda 0 1), (16, a_gf aT12 11 8 (.inr (some [34]))), (19, a_lda 0 1), (20, a_gf aT12 11 7 (.inr (some [31]))), (23, a_gf aT12 8 0 (.inl (-2147483648, 2147483647)))]
theorem p86_X11_turnByAct_0 {E : zM → Prop} (h : aH86 E) : aP0 (aΘ12 E) 2 tX11_turnByAct_0 a86_X11_turnByAct_0 := ⟨rfl, aok_lda, rfl, aok_gf, rfl, aok_lda, rfl, aok_gf, rfl, aok_lda, rfl, aok_gf, rfl, aok_cv (c := c86_X2_push) (D' := 2) (k86_X2_push h) (by decide), rfl, aok_lda, rfl, aok_gf, rfl, aok_lda, rfl, aok_gf, rfl, aok_gf, trivial⟩
def a86_X11_turnByAct_1 : List (Nat × aF) := [(26, a_ldi 1 1), (27, a_lda 0 1), (28, a_gf aT12 11 7 (.inr (some [31]))), (31, a_ldi 1 1), (32, a_cv aT12 c86_X8_isMissing 1 8), (35, a_if c_eq c_ne 3 42), (38, a_pi (1) 1), (39, a_gt 43), (42, a_pi (0) 1), (43, a_cv aT12 c86_X1_add 3 1), (46, a_lda 0 1), (47, a_gf aT12 11 7 (.inr (some [31])))]
theorem p86_X11_turnByAct_1 {E : zM → Prop} (h : aH86 E) : aP0 (aΘ12 E) 2 tX11_turnByAct_1 a86_X11_turnByAct_1 := ⟨rfl, aok_ldi, rfl, aok_lda, rfl, aok_gf, rfl, aok_ldi, rfl, aok_cv (c := c86_X8_isMissing) (D' := 1) (k86_X8_isMissing h) (by decide), rfl, aok_if si_eq, rfl, aok_pi rfl, rfl, aok_gt, rfl, aok_pi rfl, rfl, aok_cv (c := c86_X1_add) (D' := 1) (k86_X1_add h) (by decide), rfl, aok_lda, rfl, aok_gf, trivial⟩
def a86_X11_turnByAct_2 : List (Nat × aF) := [(50, a_ldi 1 1), (51, a_cv aT12 c86_X8_turn 1 8), (54, a_rv)]
theorem p86_X11_turnByAct_2 {E : zM → Prop} (h : aH86 E) : aP0 (aΘ12 E) 2 tX11_turnByAct_2 a86_X11_turnByAct_2 := ⟨rfl, aok_ldi, rfl, aok_cv (c := c86_X8_turn) (D' := 1) (k86_X8_turn h) (by decide), rfl, aok_rv, trivial⟩
def b86_X11_turnByAct : aTb := [(26, a86_X11_turnByAct_0), (50, a86_X11_turnByAct_1), (100000, a86_X11_turnByAct_2)]
theorem q86_X11_turnByAct {E : zM → Prop} (h : aH86 E) : aP1 (aΘ12 E) 2 tX11_turnByAct b86_X11_turnByAct := ⟨rfl, p86_X11_turnByAct_0 h, rfl, p86_X11_turnByAct_1 h, rfl, p86_X11_turnByAct_2 h, trivial⟩
def n86_X11_turnByAct : List aNd := []
theorem k86_X11_turnByAct {E : zM → Prop} (h : aH86 E) : aCv (aΘ12 E) 3 c86_X11_turnByAct := aMeth (D := 2) (c := c86_X11_turnByAct) (tb := b86_X11_turnByAct) (ns := n86_X11_turnByAct) (fuel := 3000) rfl (q86_X11_turnByAct h) (by decide +kernel)
def a86_X11_isThing_0 : List (Nat × aF) := [(0, a_ldi 1 1), (1, a_if c_lt c_ge 3 19), (4, a_ldi 1 1), (5, a_lda 0 1), (6, a_gf aT12 11 4 (.inr (some [2, 14]))), (9, a_gf aT12 4 7 (.inl (0, 9))), (12, a_ic d_ge d_lt 3 19), (15, a_pi (1) 1), (16, a_gt 20), (19, a_pi (0) 1), (20, a_ri true)]
theorem p86_X11_isThing_0 {E : zM → Prop} (h : aH86 E) : aP0 (aΘ12 E) 0 tX11_isThing_0 a86_X11_isThing_0 := ⟨rfl, aok_ldi, rfl, aok_if si_lt, rfl, aok_ldi, rfl, aok_lda, rfl, aok_gf, rfl, aok_gf, rfl, aok_ic sj_ge, rfl, aok_pi rfl, rfl, aok_gt, rfl, aok_pi rfl, rfl, aok_ri, trivial⟩
def b86_X11_isThing : aTb := [(100000, a86_X11_isThing_0)]
theorem q86_X11_isThing {E : zM → Prop} (h : aH86 E) : aP1 (aΘ12 E) 0 tX11_isThing b86_X11_isThing := ⟨rfl, p86_X11_isThing_0 h, trivial⟩
abbrev c86_X11_lose : aCt := (134, [.inr (some [0]), .inl (-2147483648, 2147483647)], some (.inl (0, 1)))
def a86_X11_lose_0 : List (Nat × aF) := [(0, a_lda 0 1), (1, a_ldi 1 1), (2, a_iv aT12 b86_X11_isThing 400 2 1 11), (5, a_if c_eq c_ne 3 19), (8, a_lda 0 1), (9, a_gf aT12 11 7 (.inr (some [31]))), (12, a_ldi 1 1), (13, a_cv aT12 c86_X8_isMissing 1 8), (16, a_if c_eq c_ne 3 25), (19, a_lda 0 1), (20, a_pi (3) 1), (21, a_cv aT12 c86_X11_refused 1 11)]
theorem p86_X11_lose_0 {E : zM → Prop} (h : aH86 E) : aP0 (aΘ12 E) 3 tX11_lose_0 a86_X11_lose_0 := ⟨rfl, aok_lda, rfl, aok_ldi, rfl, aok_iv (D' := 0) rfl (q86_X11_isThing h) (by decide), rfl, aok_if si_eq, rfl, aok_lda, rfl, aok_gf, rfl, aok_ldi, rfl, aok_cv (c := c86_X8_isMissing) (D' := 1) (k86_X8_isMissing h) (by decide), rfl, aok_if si_eq, rfl, aok_lda, rfl, aok_pi rfl, rfl, aok_cv (c := c86_X11_refused) (D' := 1) (k86_X11_refused h) (by decide), trivial⟩
def a86_X11_lose_1 : List (Nat × aF) := [(24, a_ri true), (25, a_lda 0 1), (26, a_ldi 1 1), (27, a_cv aT12 c86_X11_turnByAct 1 11), (30, a_pi (1) 1), (31, a_ri true)]
theorem p86_X11_lose_1 {E : zM → Prop} (h : aH86 E) : aP0 (aΘ12 E) 3 tX11_lose_1 a86_X11_lose_1 := ⟨rfl, aok_ri, rfl, aok_lda, rfl, aok_ldi, rfl, aok_cv (c := c86_X11_turnByAct) (D' := 3) (k86_X11_turnByAct h) (by decide), rfl, aok_pi rfl, rfl, aok_ri, trivial⟩
def b86_X11_lose : aTb := [(24, a86_X11_lose_0), (100000, a86_X11_lose_1)]
theorem q86_X11_lose {E : zM → Prop} (h : aH86 E) : aP1 (aΘ12 E) 3 tX11_lose b86_X11_lose := ⟨rfl, p86_X11_lose_0 h, rfl, p86_X11_lose_1 h, trivial⟩
def n86_X11_lose : List aNd := []
theorem k86_X11_lose {E : zM → Prop} (h : aH86 E) : aCv (aΘ12 E) 4 c86_X11_lose := aMeth (D := 3) (c := c86_X11_lose) (tb := b86_X11_lose) (ns := n86_X11_lose) (fuel := 3000) rfl (q86_X11_lose h) (by decide +kernel)
abbrev c86_X11_find : aCt := (135, [.inr (some [0]), .inl (-2147483648, 2147483647)], some (.inl (0, 1)))
def a86_X11_find_0 : List (Nat × aF) := [(0, a_lda 0 1), (1, a_ldi 1 1), (2, a_iv aT12 b86_X11_isThing 400 2 1 11), (5, a_if c_eq c_ne 3 19), (8, a_lda 0 1), (9, a_gf aT12 11 7 (.inr (some [31]))), (12, a_ldi 1 1), (13, a_cv aT12 c86_X8_isMissing 1 8), (16, a_if c_ne c_eq 3 25), (19, a_lda 0 1), (20, a_pi (3) 1), (21, a_cv aT12 c86_X11_refused 1 11)]
theorem p86_X11_find_0 {E : zM → Prop} (h : aH86 E) : aP0 (aΘ12 E) 3 tX11_find_0 a86_X11_find_0 := ⟨rfl, aok_lda, rfl, aok_ldi, rfl, aok_iv (D' := 0) rfl (q86_X11_isThing h) (by decide), rfl, aok_if si_eq, rfl, aok_lda, rfl, aok_gf, rfl, aok_ldi, rfl, aok_cv (c := c86_X8_isMissing) (D' := 1) (k86_X8_isMissing h) (by decide), rfl, aok_if si_ne, rfl, aok_lda, rfl, aok_pi rfl, rfl, aok_cv (c := c86_X11_refused) (D' := 1) (k86_X11_refused h) (by decide), trivial⟩
def a86_X11_find_1 : List (Nat × aF) := [(24, a_ri true), (25, a_lda 0 1), (26, a_ldi 1 1), (27, a_cv aT12 c86_X11_turnByAct 1 11), (30, a_pi (1) 1), (31, a_ri true)]
theorem p86_X11_find_1 {E : zM → Prop} (h : aH86 E) : aP0 (aΘ12 E) 3 tX11_find_1 a86_X11_find_1 := ⟨rfl, aok_ri, rfl, aok_lda, rfl, aok_ldi, rfl, aok_cv (c := c86_X11_turnByAct) (D' := 3) (k86_X11_turnByAct h) (by decide), rfl, aok_pi rfl, rfl, aok_ri, trivial⟩
def b86_X11_find : aTb := [(24, a86_X11_find_0), (100000, a86_X11_find_1)]
theorem q86_X11_find {E : zM → Prop} (h : aH86 E) : aP1 (aΘ12 E) 3 tX11_find b86_X11_find := ⟨rfl, p86_X11_find_0 h, rfl, p86_X11_find_1 h, trivial⟩
def n86_X11_find : List aNd := []
theorem k86_X11_find {E : zM → Prop} (h : aH86 E) : aCv (aΘ12 E) 4 c86_X11_find := aMeth (D := 3) (c := c86_X11_find) (tb := b86_X11_find) (ns := n86_X11_find) (fuel := 3000) rfl (q86_X11_find h) (by decide +kernel)
abbrev c86_X4_hasCell : aCt := (50, [.inr (some [2, 14]), .inl (-2147483648, 2147483647), .inl (-2147483648, 2147483647)], some (.inl (0, 1)))
def a86_X4_hasCell_0 : List (Nat × aF) := [(0, a_ldi 1 1), (1, a_if c_lt c_ge 3 28), (4, a_ldi 1 1), (5, a_lda 0 1), (6, a_gf aT12 4 1 (.inl (-2147483648, 2147483647))), (9, a_ic d_ge d_lt 3 28), (12, a_ldi 2 1), (13, a_if c_lt c_ge 3 28), (16, a_ldi 2 1), (17, a_lda 0 1), (18, a_gf aT12 4 2 (.inl (-2147483648, 2147483647))), (21, a_ic d_ge d_lt 3 28)]
theorem p86_X4_hasCell_0 {E : zM → Prop} (h : aH86 E) : aP0 (aΘ12 E) 0 tX4_hasCell_0 a86_X4_hasCell_0 := ⟨rfl, aok_ldi, rfl, aok_if si_lt, rfl, aok_ldi, rfl, aok_lda, rfl, aok_gf, rfl, aok_ic sj_ge, rfl, aok_ldi, rfl, aok_if si_lt, rfl, aok_ldi, rfl, aok_lda, rfl, aok_gf, rfl, aok_ic sj_ge, trivial⟩
def a86_X4_hasCell_1 : List (Nat × aF) := [(24, a_pi (1) 1), (25, a_gt 29), (28, a_pi (0) 1), (29, a_ri true)]
theorem p86_X4_hasCell_1 {E : zM → Prop} (h : aH86 E) : aP0 (aΘ12 E) 0 tX4_hasCell_1 a86_X4_hasCell_1 := ⟨rfl, aok_pi rfl, rfl, aok_gt, rfl, aok_pi rfl, rfl, aok_ri, trivial⟩
def b86_X4_hasCell : aTb := [(24, a86_X4_hasCell_0), (100000, a86_X4_hasCell_1)]
theorem q86_X4_hasCell {E : zM → Prop} (h : aH86 E) : aP1 (aΘ12 E) 0 tX4_hasCell b86_X4_hasCell := ⟨rfl, p86_X4_hasCell_0 h, rfl, p86_X4_hasCell_1 h, trivial⟩
def n86_X4_hasCell : List aNd := []
theorem k86_X4_hasCell {E : zM → Prop} (h : aH86 E) : aCv (aΘ12 E) 1 c86_X4_hasCell := aMeth (D := 0) (c := c86_X4_hasCell) (tb := b86_X4_hasCell) (ns := n86_X4_hasCell) (fuel := 3000) rfl (q86_X4_hasCell h) (by decide +kernel)
abbrev c86_X11_placeOf : aCt := (160, [.inl (-2147483648, 2147483647), .inl (-2147483648, 2147483647)], some (.inl (-2147483648, 2147483647)))
def a86_X11_placeOf_0 : List (Nat × aF) := [(0, a_ldi 1 1), (1, a_pi (8) 2), (3, a_b2 g_mul), (4, a_ldi 0 1), (5, a_b2 g_add), (6, a_ri false)]
theorem p86_X11_placeOf_0 {E : zM → Prop} (h : aH86 E) : aP0 (aΘ12 E) 0 tX11_placeOf_0 a86_X11_placeOf_0 := ⟨rfl, aok_ldi, rfl, aok_pi rfl, rfl, aok_b2 sd_mul, rfl, aok_ldi, rfl, aok_b2 sd_add, rfl, aok_ri, trivial⟩
def b86_X11_placeOf : aTb := [(100000, a86_X11_placeOf_0)]
theorem q86_X11_placeOf {E : zM → Prop} (h : aH86 E) : aP1 (aΘ12 E) 0 tX11_placeOf b86_X11_placeOf := ⟨rfl, p86_X11_placeOf_0 h, trivial⟩
def n86_X11_placeOf : List aNd := []
theorem k86_X11_placeOf {E : zM → Prop} (h : aH86 E) : aCv (aΘ12 E) 1 c86_X11_placeOf := aMeth (D := 0) (c := c86_X11_placeOf) (tb := b86_X11_placeOf) (ns := n86_X11_placeOf) (fuel := 3000) rfl (q86_X11_placeOf h) (by decide +kernel)
abbrev c86_X4_hasFreeCell : aCt := (51, [.inr (some [2, 14]), .inl (-2147483648, 2147483647), .inl (-2147483648, 2147483647)], some (.inl (0, 1)))
def a86_X4_hasFreeCell_0 : List (Nat × aF) := [(0, a_lda 0 1), (1, a_ldi 1 1), (2, a_ldi 2 1), (3, a_cv aT12 c86_X4_hasCell 2 4), (6, a_if c_eq c_ne 3 31), (9, a_lda 0 1), (10, a_gf aT12 4 6 (.inr none)), (13, a_ldi 1 1), (14, a_ldi 2 1), (15, a_cs c86_X11_placeOf 2), (18, a_cs c86_X11_bitOf 1), (21, a_l2)]
theorem p86_X4_hasFreeCell_0 {E : zM → Prop} (h : aH86 E) : aP0 (aΘ12 E) 1 tX4_hasFreeCell_0 a86_X4_hasFreeCell_0 := ⟨rfl, aok_lda, rfl, aok_ldi, rfl, aok_ldi, rfl, aok_cv (c := c86_X4_hasCell) (D' := 1) (k86_X4_hasCell h) (by decide), rfl, aok_if si_eq, rfl, aok_lda, rfl, aok_gf, rfl, aok_ldi, rfl, aok_ldi, rfl, aok_cs (c := c86_X11_placeOf) (D' := 1) (k86_X11_placeOf h) (by decide), rfl, aok_cs (c := c86_X11_bitOf) (D' := 1) (k86_X11_bitOf h) (by decide), rfl, aok_l2, trivial⟩
def a86_X4_hasFreeCell_1 : List (Nat × aF) := [(22, a_pl 1), (23, a_cm), (24, a_if c_ne c_eq 3 31), (27, a_pi (1) 1), (28, a_gt 32), (31, a_pi (0) 1), (32, a_ri true)]
theorem p86_X4_hasFreeCell_1 {E : zM → Prop} (h : aH86 E) : aP0 (aΘ12 E) 1 tX4_hasFreeCell_1 a86_X4_hasFreeCell_1 := ⟨rfl, aok_pl, rfl, aok_cm, rfl, aok_if si_ne, rfl, aok_pi rfl, rfl, aok_gt, rfl, aok_pi rfl, rfl, aok_ri, trivial⟩
def b86_X4_hasFreeCell : aTb := [(22, a86_X4_hasFreeCell_0), (100000, a86_X4_hasFreeCell_1)]
theorem q86_X4_hasFreeCell {E : zM → Prop} (h : aH86 E) : aP1 (aΘ12 E) 1 tX4_hasFreeCell b86_X4_hasFreeCell := ⟨rfl, p86_X4_hasFreeCell_0 h, rfl, p86_X4_hasFreeCell_1 h, trivial⟩
def n86_X4_hasFreeCell : List aNd := []
theorem k86_X4_hasFreeCell {E : zM → Prop} (h : aH86 E) : aCv (aΘ12 E) 2 c86_X4_hasFreeCell := aMeth (D := 1) (c := c86_X4_hasFreeCell) (tb := b86_X4_hasFreeCell) (ns := n86_X4_hasFreeCell) (fuel := 3000) rfl (q86_X4_hasFreeCell h) (by decide +kernel)
def a86_X11_isFolk_0 : List (Nat × aF) := [(0, a_ldi 1 1), (1, a_if c_lt c_ge 3 19), (4, a_ldi 1 1), (5, a_lda 0 1), (6, a_gf aT12 11 4 (.inr (some [2, 14]))), (9, a_gf aT12 4 13 (.inl (0, 6))), (12, a_ic d_ge d_lt 3 19), (15, a_pi (1) 1), (16, a_gt 20), (19, a_pi (0) 1), (20, a_ri true)]
theorem p86_X11_isFolk_0 {E : zM → Prop} (h : aH86 E) : aP0 (aΘ12 E) 0 tX11_isFolk_0 a86_X11_isFolk_0 := ⟨rfl, aok_ldi, rfl, aok_if si_lt, rfl, aok_ldi, rfl, aok_lda, rfl, aok_gf, rfl, aok_gf, rfl, aok_ic sj_ge, rfl, aok_pi rfl, rfl, aok_gt, rfl, aok_pi rfl, rfl, aok_ri, trivial⟩
def b86_X11_isFolk : aTb := [(100000, a86_X11_isFolk_0)]
theorem q86_X11_isFolk {E : zM → Prop} (h : aH86 E) : aP1 (aΘ12 E) 0 tX11_isFolk b86_X11_isFolk := ⟨rfl, p86_X11_isFolk_0 h, trivial⟩
abbrev c86_X11_lead : aCt := (136, [.inr (some [0]), .inl (-2147483648, 2147483647), .inl (-2147483648, 2147483647), .inl (-2147483648, 2147483647)], some (.inl (0, 1)))
def a86_X11_lead_0 : List (Nat × aF) := [(0, a_lda 0 1), (1, a_ldi 1 1), (2, a_iv aT12 b86_X11_isFolk 400 2 1 11), (5, a_if c_eq c_ne 3 37), (8, a_lda 0 1), (9, a_gf aT12 11 4 (.inr (some [2, 14]))), (12, a_ldi 2 1), (13, a_ldi 3 1), (14, a_cv aT12 c86_X4_hasFreeCell 2 4), (17, a_if c_eq c_ne 3 37), (20, a_lda 0 1), (21, a_gf aT12 11 7 (.inr (some [31])))]
theorem p86_X11_lead_0 {E : zM → Prop} (h : aH86 E) : aP0 (aΘ12 E) 2 tX11_lead_0 a86_X11_lead_0 := ⟨rfl, aok_lda, rfl, aok_ldi, rfl, aok_iv (D' := 0) rfl (q86_X11_isFolk h) (by decide), rfl, aok_if si_eq, rfl, aok_lda, rfl, aok_gf, rfl, aok_ldi, rfl, aok_ldi, rfl, aok_cv (c := c86_X4_hasFreeCell) (D' := 2) (k86_X4_hasFreeCell h) (by decide), rfl, aok_if si_eq, rfl, aok_lda, rfl, aok_gf, trivial⟩
def a86_X11_lead_1 : List (Nat × aF) := [(24, a_gf aT12 8 3 (.inr (some [33]))), (27, a_ldi 1 1), (28, a_al aT12 0 (-2147483648, 2147483647)), (29, a_ldi 2 1), (30, a_ldi 3 1), (31, a_cs c86_X11_placeOf 2), (34, a_ic d_ne d_eq 3 43), (37, a_lda 0 1), (38, a_pi (3) 1), (39, a_cv aT12 c86_X11_refused 1 11), (42, a_ri true), (43, a_lda 0 1)]
theorem p86_X11_lead_1 {E : zM → Prop} (h : aH86 E) : aP0 (aΘ12 E) 2 tX11_lead_1 a86_X11_lead_1 := ⟨rfl, aok_gf, rfl, aok_ldi, rfl, aok_al, rfl, aok_ldi, rfl, aok_ldi, rfl, aok_cs (c := c86_X11_placeOf) (D' := 1) (k86_X11_placeOf h) (by decide), rfl, aok_ic sj_ne, rfl, aok_lda, rfl, aok_pi rfl, rfl, aok_cv (c := c86_X11_refused) (D' := 1) (k86_X11_refused h) (by decide), rfl, aok_ri, rfl, aok_lda, trivial⟩
def a86_X11_lead_2 : List (Nat × aF) := [(44, a_gf aT12 11 9 (.inr (some [38]))), (47, a_lda 0 1), (48, a_gf aT12 11 7 (.inr (some [31]))), (51, a_lda 0 1), (52, a_gf aT12 11 8 (.inr (some [34]))), (55, a_cv aT12 c86_X2_push 2 2), (58, a_lda 0 1), (59, a_gf aT12 11 7 (.inr (some [31]))), (62, a_gf aT12 8 3 (.inr (some [33]))), (65, a_ldi 1 1), (66, a_ldi 2 1), (67, a_ldi 3 1)]
theorem p86_X11_lead_2 {E : zM → Prop} (h : aH86 E) : aP0 (aΘ12 E) 2 tX11_lead_2 a86_X11_lead_2 := ⟨rfl, aok_gf, rfl, aok_lda, rfl, aok_gf, rfl, aok_lda, rfl, aok_gf, rfl, aok_cv (c := c86_X2_push) (D' := 2) (k86_X2_push h) (by decide), rfl, aok_lda, rfl, aok_gf, rfl, aok_gf, rfl, aok_ldi, rfl, aok_ldi, rfl, aok_ldi, trivial⟩
def a86_X11_lead_3 : List (Nat × aF) := [(68, a_cs c86_X11_placeOf 2), (71, a_as aT12 0), (72, a_pi (1) 1), (73, a_ri true)]
theorem p86_X11_lead_3 {E : zM → Prop} (h : aH86 E) : aP0 (aΘ12 E) 2 tX11_lead_3 a86_X11_lead_3 := ⟨rfl, aok_cs (c := c86_X11_placeOf) (D' := 1) (k86_X11_placeOf h) (by decide), rfl, aok_as h.1, rfl, aok_pi rfl, rfl, aok_ri, trivial⟩
def b86_X11_lead : aTb := [(24, a86_X11_lead_0), (44, a86_X11_lead_1), (68, a86_X11_lead_2), (100000, a86_X11_lead_3)]
theorem q86_X11_lead {E : zM → Prop} (h : aH86 E) : aP1 (aΘ12 E) 2 tX11_lead b86_X11_lead := ⟨rfl, p86_X11_lead_0 h, rfl, p86_X11_lead_1 h, rfl, p86_X11_lead_2 h, rfl, p86_X11_lead_3 h, trivial⟩
def n86_X11_lead : List aNd := []
theorem k86_X11_lead {E : zM → Prop} (h : aH86 E) : aCv (aΘ12 E) 3 c86_X11_lead := aMeth (D := 2) (c := c86_X11_lead) (tb := b86_X11_lead) (ns := n86_X11_lead) (fuel := 3000) rfl (q86_X11_lead h) (by decide +kernel)
abbrev c86_X8_copyFrom_31n1_41n20 : aCt := (80, [.inr (some [31]), .inr (some [41, 48, 55, 62, 69, 76, 83, 90, 97, 104, 111, 118, 125, 132, 139, 146, 153, 160, 167, 174])], none)
def a86_X8_copyFrom_31n1_41n20_0 : List (Nat × aF) := [(0, a_lda 0 1), (1, a_lda 1 1), (2, a_gf aT12 8 0 (.inl (-2147483648, 2147483647))), (5, a_pf aT12 8 0 (.int)), (8, a_lda 0 1), (9, a_lda 1 1), (10, a_gf aT12 8 1 (.inl (0, 511))), (13, a_pf aT12 8 1 (.int)), (16, a_lda 1 1), (17, a_gf aT12 8 2 (.inr (some [42, 49, 56, 63, 70, 77, 84, 91, 98, 105, 112, 119, 126, 133, 140, 147, 154, 161, 168, 175]))), (20, a_pi (0) 1), (21, a_lda 0 1)]
theorem p86_X8_copyFrom_31n1_41n20_0 {E : zM → Prop} (h : aH86 E) : aP0 (aΘ12 E) 0 tX8_copyFrom_0 a86_X8_copyFrom_31n1_41n20_0 := ⟨rfl, aok_lda, rfl, aok_lda, rfl, aok_gf, rfl, aok_pf h.1, rfl, aok_lda, rfl, aok_lda, rfl, aok_gf, rfl, aok_pf h.1, rfl, aok_lda, rfl, aok_gf, rfl, aok_pi rfl, rfl, aok_lda, trivial⟩
def a86_X8_copyFrom_31n1_41n20_1 : List (Nat × aF) := [(22, a_gf aT12 8 2 (.inr (some [32]))), (25, a_pi (0) 1), (26, a_pi (9) 2), (28, a_cp aT12 0 (-2147483648, 2147483647)), (31, a_lda 1 1), (32, a_gf aT12 8 3 (.inr (some [43, 50, 57, 64, 71, 78, 85, 92, 99, 106, 113, 120, 127, 134, 141, 148, 155, 162, 169, 176]))), (35, a_pi (0) 1), (36, a_lda 0 1), (37, a_gf aT12 8 3 (.inr (some [33]))), (40, a_pi (0) 1), (41, a_pi (6) 2), (43, a_cp aT12 0 (-2147483648, 2147483647))]
theorem p86_X8_copyFrom_31n1_41n20_1 {E : zM → Prop} (h : aH86 E) : aP0 (aΘ12 E) 0 tX8_copyFrom_1 a86_X8_copyFrom_31n1_41n20_1 := ⟨rfl, aok_gf, rfl, aok_pi rfl, rfl, aok_pi rfl, rfl, aok_cp h.1, rfl, aok_lda, rfl, aok_gf, rfl, aok_pi rfl, rfl, aok_lda, rfl, aok_gf, rfl, aok_pi rfl, rfl, aok_pi rfl, rfl, aok_cp h.1, trivial⟩
def a86_X8_copyFrom_31n1_41n20_2 : List (Nat × aF) := [(46, a_lda 0 1), (47, a_lda 1 1), (48, a_gf aT12 8 4 (.inl (-1, -1))), (51, a_pf aT12 8 4 (.int)), (54, a_lda 0 1), (55, a_lda 1 1), (56, a_gf aT12 8 5 (.inl (-2147483648, 2147483647))), (59, a_pf aT12 8 5 (.int)), (62, a_rv)]
theorem p86_X8_copyFrom_31n1_41n20_2 {E : zM → Prop} (h : aH86 E) : aP0 (aΘ12 E) 0 tX8_copyFrom_2 a86_X8_copyFrom_31n1_41n20_2 := ⟨rfl, aok_lda, rfl, aok_lda, rfl, aok_gf, rfl, aok_pf h.1, rfl, aok_lda, rfl, aok_lda, rfl, aok_gf, rfl, aok_pf h.1, rfl, aok_rv, trivial⟩
def b86_X8_copyFrom_31n1_41n20 : aTb := [(22, a86_X8_copyFrom_31n1_41n20_0), (46, a86_X8_copyFrom_31n1_41n20_1), (100000, a86_X8_copyFrom_31n1_41n20_2)]
theorem q86_X8_copyFrom_31n1_41n20 {E : zM → Prop} (h : aH86 E) : aP1 (aΘ12 E) 0 tX8_copyFrom b86_X8_copyFrom_31n1_41n20 := ⟨rfl, p86_X8_copyFrom_31n1_41n20_0 h, rfl, p86_X8_copyFrom_31n1_41n20_1 h, rfl, p86_X8_copyFrom_31n1_41n20_2 h, trivial⟩
def n86_X8_copyFrom_31n1_41n20 : List aNd := []
theorem k86_X8_copyFrom_31n1_41n20 {E : zM → Prop} (h : aH86 E) : aCv (aΘ12 E) 1 c86_X8_copyFrom_31n1_41n20 := aMeth (D := 0) (c := c86_X8_copyFrom_31n1_41n20) (tb := b86_X8_copyFrom_31n1_41n20) (ns := n86_X8_copyFrom_31n1_41n20) (fuel := 3000) rfl (q86_X8_copyFrom_31n1_41n20 h) (by decide +kernel)
abbrev c86_X2_pop : aCt := (24, [.inr (some [38]), .inr (some [31]), .inr (some [34])], none)
def a86_X2_pop_0 : List (Nat × aF) := [(0, a_lda 0 1), (1, a_gf aT12 2 3 (.inl (0, 20))), (4, a_if c_le c_gt 3 59), (7, a_lda 0 1), (8, a_lda 0 1), (9, a_gf aT12 2 2 (.inl (0, 19))), (12, a_pi (20) 2), (14, a_b2 g_add), (15, a_pi (1) 1), (16, a_b2 g_sub), (17, a_pi (20) 2), (19, a_d2 g_rem)]
theorem p86_X2_pop_0 {E : zM → Prop} (h : aH86 E) : aP0 (aΘ12 E) 1 tX2_pop_0 a86_X2_pop_0 := ⟨rfl, aok_lda, rfl, aok_gf, rfl, aok_if si_le, rfl, aok_lda, rfl, aok_lda, rfl, aok_gf, rfl, aok_pi rfl, rfl, aok_b2 sd_add, rfl, aok_pi rfl, rfl, aok_b2 sd_sub, rfl, aok_pi rfl, rfl, aok_d2 sp_rem, trivial⟩
def a86_X2_pop_1 : List (Nat × aF) := [(20, a_pf aT12 2 2 (.int)), (23, a_lda 0 1), (24, a_du), (25, a_gf aT12 2 3 (.inl (0, 20))), (28, a_pi (1) 1), (29, a_b2 g_sub), (30, a_pf aT12 2 3 (.int)), (33, a_lda 1 1), (34, a_lda 0 1), (35, a_gf aT12 2 0 (.inr (some [39]))), (38, a_lda 0 1), (39, a_gf aT12 2 2 (.inl (0, 19)))]
theorem p86_X2_pop_1 {E : zM → Prop} (h : aH86 E) : aP0 (aΘ12 E) 1 tX2_pop_1 a86_X2_pop_1 := ⟨rfl, aok_pf h.1, rfl, aok_lda, rfl, aok_du, rfl, aok_gf, rfl, aok_pi rfl, rfl, aok_b2 sd_sub, rfl, aok_pf h.1, rfl, aok_lda, rfl, aok_lda, rfl, aok_gf, rfl, aok_lda, rfl, aok_gf, trivial⟩
def a86_X2_pop_2 : List (Nat × aF) := [(42, a_aal aT12 3 [41, 48, 55, 62, 69, 76, 83, 90, 97, 104, 111, 118, 125, 132, 139, 146, 153, 160, 167, 174]), (43, a_cv aT12 c86_X8_copyFrom_31n1_41n20 1 8), (46, a_lda 2 1), (47, a_lda 0 1), (48, a_gf aT12 2 1 (.inr (some [40]))), (51, a_lda 0 1), (52, a_gf aT12 2 2 (.inl (0, 19))), (55, a_aal aT12 4 [44, 51, 58, 65, 72, 79, 86, 93, 100, 107, 114, 121, 128, 135, 142, 149, 156, 163, 170, 177]), (56, a_cv aT12 c86_X1_copyFrom 1 1), (59, a_rv)]
theorem p86_X2_pop_2 {E : zM → Prop} (h : aH86 E) : aP0 (aΘ12 E) 1 tX2_pop_2 a86_X2_pop_2 := ⟨rfl, aok_aal, rfl, aok_cv (c := c86_X8_copyFrom_31n1_41n20) (D' := 1) (k86_X8_copyFrom_31n1_41n20 h) (by decide), rfl, aok_lda, rfl, aok_lda, rfl, aok_gf, rfl, aok_lda, rfl, aok_gf, rfl, aok_aal, rfl, aok_cv (c := c86_X1_copyFrom) (D' := 1) (k86_X1_copyFrom h) (by decide), rfl, aok_rv, trivial⟩
def b86_X2_pop : aTb := [(20, a86_X2_pop_0), (42, a86_X2_pop_1), (100000, a86_X2_pop_2)]
theorem q86_X2_pop {E : zM → Prop} (h : aH86 E) : aP1 (aΘ12 E) 1 tX2_pop b86_X2_pop := ⟨rfl, p86_X2_pop_0 h, rfl, p86_X2_pop_1 h, rfl, p86_X2_pop_2 h, trivial⟩
def n86_X2_pop : List aNd := []
theorem k86_X2_pop {E : zM → Prop} (h : aH86 E) : aCv (aΘ12 E) 2 c86_X2_pop := aMeth (D := 1) (c := c86_X2_pop) (tb := b86_X2_pop) (ns := n86_X2_pop) (fuel := 3000) rfl (q86_X2_pop h) (by decide +kernel)
abbrev c86_X11_undo : aCt := (137, [.inr (some [0])], some (.inl (0, 1)))
def a86_X11_undo_0 : List (Nat × aF) := [(0, a_lda 0 1), (1, a_gf aT12 11 9 (.inr (some [38]))), (4, a_gf aT12 2 3 (.inl (0, 20))), (7, a_if c_ne c_eq 3 16), (10, a_lda 0 1), (11, a_pi (4) 1), (12, a_cv aT12 c86_X11_refused 1 11), (15, a_ri true), (16, a_lda 0 1), (17, a_gf aT12 11 9 (.inr (some [38]))), (20, a_lda 0 1), (21, a_gf aT12 11 7 (.inr (some [31])))]
theorem p86_X11_undo_0 {E : zM → Prop} (h : aH86 E) : aP0 (aΘ12 E) 2 tX11_undo_0 a86_X11_undo_0 := ⟨rfl, aok_lda, rfl, aok_gf, rfl, aok_gf, rfl, aok_if si_ne, rfl, aok_lda, rfl, aok_pi rfl, rfl, aok_cv (c := c86_X11_refused) (D' := 1) (k86_X11_refused h) (by decide), rfl, aok_ri, rfl, aok_lda, rfl, aok_gf, rfl, aok_lda, rfl, aok_gf, trivial⟩
def a86_X11_undo_1 : List (Nat × aF) := [(24, a_lda 0 1), (25, a_gf aT12 11 8 (.inr (some [34]))), (28, a_cv aT12 c86_X2_pop 2 2), (31, a_pi (1) 1), (32, a_ri true)]
theorem p86_X11_undo_1 {E : zM → Prop} (h : aH86 E) : aP0 (aΘ12 E) 2 tX11_undo_1 a86_X11_undo_1 := ⟨rfl, aok_lda, rfl, aok_gf, rfl, aok_cv (c := c86_X2_pop) (D' := 2) (k86_X2_pop h) (by decide), rfl, aok_pi rfl, rfl, aok_ri, trivial⟩
def b86_X11_undo : aTb := [(24, a86_X11_undo_0), (100000, a86_X11_undo_1)]
theorem q86_X11_undo {E : zM → Prop} (h : aH86 E) : aP1 (aΘ12 E) 2 tX11_undo b86_X11_undo := ⟨rfl, p86_X11_undo_0 h, rfl, p86_X11_undo_1 h, trivial⟩
def n86_X11_undo : List aNd := []
theorem k86_X11_undo {E : zM → Prop} (h : aH86 E) : aCv (aΘ12 E) 3 c86_X11_undo := aMeth (D := 2) (c := c86_X11_undo) (tb := b86_X11_undo) (ns := n86_X11_undo) (fuel := 3000) rfl (q86_X11_undo h) (by decide +kernel)
