/-! class: what feed, end, meet leave as it is -/
def aT10 : List aCe := [.inr (11, [(false, .inr (some [1])), (false, .inl (0, 1600)), (false, .inl (-2147483648, 2147483647)), (false, .inl (-2147483648, 2147483647)), (true, .inr (some [2, 14])), (true, .inr (some [2, 14])), (false, .inr (some [26])), (false, .inr (some [31])), (false, .inr (some [34])), (false, .inr (some [38])), (false, .inr (some [181])), (false, .inr (some [185])), (false, .inr (some [219])), (false, .inl (0, 33)), (false, .inr (some [220])), (true, .inl (-2147483648, 2147483647))]),
  .inl (false, 0, 1600, .inl (0, 255)),
  .inr (4, [(true, .inl (-2147483648, 2147483647)), (true, .inl (-2147483648, 2147483647)), (true, .inl (-2147483648, 2147483647)), (true, .inl (-2147483648, 2147483647)), (true, .inl (-2147483648, 2147483647)), (true, .inr none), (true, .inr none), (true, .inl (0, 9)), (true, .inr (some [3])), (true, .inr (some [4])), (true, .inr (some [5])), (true, .inr (some [6])), (true, .inl (0, 511)), (true, .inl (0, 6)), (true, .inr (some [7])), (true, .inr (some [8])), (true, .inr (some [9])), (true, .inr (some [10]))]),
  .inl (true, 0, 9, .inl (-2147483648, 2147483647)),
  .inl (true, 0, 9, .inl (-2147483648, 2147483647)),
  .inl (true, 0, 9, .inl (-2147483648, 2147483647)),
  .inl (true, 0, 9, .inl (-2147483648, 2147483647)),
  .inl (true, 0, 6, .inl (-2147483648, 2147483647)),
  .inl (true, 0, 6, .inl (-2147483648, 2147483647)),
  .inl (true, 0, 6, .inl (-2147483648, 2147483647)),
  .inr (7, [(true, .inr (some [11])), (true, .inr (some [12])), (true, .inr (some [13])), (true, .inl (0, 1600))]),
  .inl (true, 0, 1600, .inl (-2147483648, 2147483647)),
  .inl (true, 0, 3, .inl (0, 1600)),
  .inl (true, 0, 3, .inl (0, 1600)),
  .inr (4, [(true, .inl (-2147483648, 2147483647)), (true, .inl (-2147483648, 2147483647)), (true, .inl (-2147483648, 2147483647)), (true, .inl (-2147483648, 2147483647)), (true, .inl (-2147483648, 2147483647)), (true, .inr none), (true, .inr none), (true, .inl (0, 9)), (true, .inr (some [15])), (true, .inr (some [16])), (true, .inr (some [17])), (true, .inr (some [18])), (true, .inl (0, 511)), (true, .inl (0, 6)), (true, .inr (some [19])), (true, .inr (some [20])), (true, .inr (some [21])), (true, .inr (some [22]))]),
  .inl (true, 0, 9, .inl (-2147483648, 2147483647)),
  .inl (true, 0, 9, .inl (-2147483648, 2147483647)),
  .inl (true, 0, 9, .inl (-2147483648, 2147483647)),
  .inl (true, 0, 9, .inl (-2147483648, 2147483647)),
  .inl (true, 0, 6, .inl (-2147483648, 2147483647)),
  .inl (true, 0, 6, .inl (-2147483648, 2147483647)),
  .inl (true, 0, 6, .inl (-2147483648, 2147483647)),
  .inr (7, [(true, .inr (some [23])), (true, .inr (some [24])), (true, .inr (some [25])), (true, .inl (0, 1600))]),
  .inl (true, 0, 1600, .inl (-2147483648, 2147483647)),
  .inl (true, 0, 3, .inl (0, 1600)),
  .inl (true, 0, 3, .inl (0, 1600)),
  .inr (9, [(false, .inr (some [27])), (false, .inr (some [30])), (false, .inr (some [2, 14])), (false, .inl (-2147483648, 2147483647))]),
  .inr (5, [(false, .inr (some [28])), (false, .inr (some [1, 29])), (false, .inl (0, 1600)), (false, .inl (0, 1600)), (false, .inl (-2147483648, 2147483647)), (false, .inl (-2147483648, 2147483647)), (false, .inl (-2147483648, 2147483647)), (false, .inl (-2147483648, 2147483647)), (false, .inl (-2147483648, 2147483647)), (false, .inl (-2147483648, 2147483647)), (false, .inl (-2147483648, 2147483647)), (false, .inl (-2147483648, 2147483647))]),
  .inl (true, 0, 26, .inl (-2147483648, 2147483647)),
  .inl (false, 0, 0, .inl (-2147483648, 2147483647)),
  .inr (10, [(false, .inr (some [27])), (false, .inr (some [10, 22])), (false, .inl (-2147483648, 2147483647))]),
  .inr (8, [(true, .inl (-2147483648, 2147483647)), (true, .inl (0, 511)), (true, .inr (some [32])), (true, .inr (some [33])), (true, .inl (-2147483648, 2147483647)), (true, .inl (-2147483648, 2147483647))]),
  .inl (true, 0, 9, .inl (-2147483648, 2147483647)),
  .inl (true, 0, 6, .inl (-2147483648, 2147483647)),
  .inr (1, [(true, .inr (some [35])), (true, .inr (some [36])), (true, .inr (some [37])), (true, .inl (0, 40))]),
  .inl (true, 0, 40, .inl (-2147483648, 2147483647)),
  .inl (true, 0, 40, .inl (-2147483648, 2147483647)),
  .inl (true, 0, 40, .inl (-2147483648, 2147483647)),
  .inr (2, [(true, .inr (some [39])), (true, .inr (some [40])), (true, .inl (0, 19)), (true, .inl (0, 20))]),
  .inl (true, 3, 20, .inr (some [41, 48, 55, 62, 69, 76, 83, 90, 97, 104, 111, 118, 125, 132, 139, 146, 153, 160, 167, 174])),
  .inl (true, 4, 20, .inr (some [44, 51, 58, 65, 72, 79, 86, 93, 100, 107, 114, 121, 128, 135, 142, 149, 156, 163, 170, 177])),
  .inr (8, [(true, .inl (-2147483648, 2147483647)), (true, .inl (0, 511)), (true, .inr (some [42])), (true, .inr (some [43])), (true, .inl (-2147483648, 2147483647)), (true, .inl (-2147483648, 2147483647))]),
  .inl (true, 0, 9, .inl (-2147483648, 2147483647)),
  .inl (true, 0, 6, .inl (-2147483648, 2147483647)),
  .inr (1, [(true, .inr (some [45])), (true, .inr (some [46])), (true, .inr (some [47])), (true, .inl (0, 40))]),
  .inl (true, 0, 40, .inl (-2147483648, 2147483647)),
  .inl (true, 0, 40, .inl (-2147483648, 2147483647)),
  .inl (true, 0, 40, .inl (-2147483648, 2147483647)),
  .inr (8, [(true, .inl (-2147483648, 2147483647)), (true, .inl (0, 511)), (true, .inr (some [49])), (true, .inr (some [50])), (true, .inl (-2147483648, 2147483647)), (true, .inl (-2147483648, 2147483647))]),
  .inl (true, 0, 9, .inl (-2147483648, 2147483647)),
  .inl (true, 0, 6, .inl (-2147483648, 2147483647)),
  .inr (1, [(true, .inr (some [52])), (true, .inr (some [53])), (true, .inr (some [54])), (true, .inl (0, 40))]),
  .inl (true, 0, 40, .inl (-2147483648, 2147483647)),
  .inl (true, 0, 40, .inl (-2147483648, 2147483647)),
  .inl (true, 0, 40, .inl (-2147483648, 2147483647)),
  .inr (8, [(true, .inl (-2147483648, 2147483647)), (true, .inl (0, 511)), (true, .inr (some [56])), (true, .inr (some [57])), (true, .inl (-2147483648, 2147483647)), (true, .inl (-2147483648, 2147483647))]),
  .inl (true, 0, 9, .inl (-2147483648, 2147483647)),
  .inl (true, 0, 6, .inl (-2147483648, 2147483647)),
  .inr (1, [(true, .inr (some [59])), (true, .inr (some [60])), (true, .inr (some [61])), (true, .inl (0, 40))]),
  .inl (true, 0, 40, .inl (-2147483648, 2147483647)),
  .inl (true, 0, 40, .inl (-2147483648, 2147483647)),
  .inl (true, 0, 40, .inl (-2147483648, 2147483647)),
  .inr (8, [(true, .inl (-2147483648, 2147483647)), (true, .inl (0, 511)), (true, .inr (some [63])), (true, .inr (some [64])), (true, .inl (-2147483648, 2147483647)), (true, .inl (-2147483648, 2147483647))]),
  .inl (true, 0, 9, .inl (-2147483648, 2147483647)),
  .inl (true, 0, 6, .inl (-2147483648, 2147483647)),
  .inr (1, [(true, .inr (some [66])), (true, .inr (some [67])), (true, .inr (some [68])), (true, .inl (0, 40))]),
  .inl (true, 0, 40, .inl (-2147483648, 2147483647)),
  .inl (true, 0, 40, .inl (-2147483648, 2147483647)),
  .inl (true, 0, 40, .inl (-2147483648, 2147483647)),
  .inr (8, [(true, .inl (-2147483648, 2147483647)), (true, .inl (0, 511)), (true, .inr (some [70])), (true, .inr (some [71])), (true, .inl (-2147483648, 2147483647)), (true, .inl (-2147483648, 2147483647))]),
  .inl (true, 0, 9, .inl (-2147483648, 2147483647)),
  .inl (true, 0, 6, .inl (-2147483648, 2147483647)),
  .inr (1, [(true, .inr (some [73])), (true, .inr (some [74])), (true, .inr (some [75])), (true, .inl (0, 40))]),
  .inl (true, 0, 40, .inl (-2147483648, 2147483647)),
  .inl (true, 0, 40, .inl (-2147483648, 2147483647)),
  .inl (true, 0, 40, .inl (-2147483648, 2147483647)),
  .inr (8, [(true, .inl (-2147483648, 2147483647)), (true, .inl (0, 511)), (true, .inr (some [77])), (true, .inr (some [78])), (true, .inl (-2147483648, 2147483647)), (true, .inl (-2147483648, 2147483647))]),
  .inl (true, 0, 9, .inl (-2147483648, 2147483647)),
  .inl (true, 0, 6, .inl (-2147483648, 2147483647)),
  .inr (1, [(true, .inr (some [80])), (true, .inr (some [81])), (true, .inr (some [82])), (true, .inl (0, 40))]),
  .inl (true, 0, 40, .inl (-2147483648, 2147483647)),
  .inl (true, 0, 40, .inl (-2147483648, 2147483647)),
  .inl (true, 0, 40, .inl (-2147483648, 2147483647)),
  .inr (8, [(true, .inl (-2147483648, 2147483647)), (true, .inl (0, 511)), (true, .inr (some [84])), (true, .inr (some [85])), (true, .inl (-2147483648, 2147483647)), (true, .inl (-2147483648, 2147483647))]),
  .inl (true, 0, 9, .inl (-2147483648, 2147483647)),
  .inl (true, 0, 6, .inl (-2147483648, 2147483647)),
  .inr (1, [(true, .inr (some [87])), (true, .inr (some [88])), (true, .inr (some [89])), (true, .inl (0, 40))]),
  .inl (true, 0, 40, .inl (-2147483648, 2147483647)),
  .inl (true, 0, 40, .inl (-2147483648, 2147483647)),
  .inl (true, 0, 40, .inl (-2147483648, 2147483647)),
  .inr (8, [(true, .inl (-2147483648, 2147483647)), (true, .inl (0, 511)), (true, .inr (some [91])), (true, .inr (some [92])), (true, .inl (-2147483648, 2147483647)), (true, .inl (-2147483648, 2147483647))]),
  .inl (true, 0, 9, .inl (-2147483648, 2147483647)),
  .inl (true, 0, 6, .inl (-2147483648, 2147483647)),
  .inr (1, [(true, .inr (some [94])), (true, .inr (some [95])), (true, .inr (some [96])), (true, .inl (0, 40))]),
  .inl (true, 0, 40, .inl (-2147483648, 2147483647)),
  .inl (true, 0, 40, .inl (-2147483648, 2147483647)),
  .inl (true, 0, 40, .inl (-2147483648, 2147483647)),
  .inr (8, [(true, .inl (-2147483648, 2147483647)), (true, .inl (0, 511)), (true, .inr (some [98])), (true, .inr (some [99])), (true, .inl (-2147483648, 2147483647)), (true, .inl (-2147483648, 2147483647))]),
  .inl (true, 0, 9, .inl (-2147483648, 2147483647)),
  .inl (true, 0, 6, .inl (-2147483648, 2147483647)),
  .inr (1, [(true, .inr (some [101])), (true, .inr (some [102])), (true, .inr (some [103])), (true, .inl (0, 40))]),
  .inl (true, 0, 40, .inl (-2147483648, 2147483647)),
  .inl (true, 0, 40, .inl (-2147483648, 2147483647)),
  .inl (true, 0, 40, .inl (-2147483648, 2147483647)),
  .inr (8, [(true, .inl (-2147483648, 2147483647)), (true, .inl (0, 511)), (true, .inr (some [105])), (true, .inr (some [106])), (true, .inl (-2147483648, 2147483647)), (true, .inl (-2147483648, 2147483647))]),
  .inl (true, 0, 9, .inl (-2147483648, 2147483647)),
  .inl (true, 0, 6, .inl (-2147483648, 2147483647)),
  .inr (1, [(true, .inr (some [108])), (true, .inr (some [109])), (true, .inr (some [110])), (true, .inl (0, 40))]),
  .inl (true, 0, 40, .inl (-2147483648, 2147483647)),
  .inl (true, 0, 40, .inl (-2147483648, 2147483647)),
  .inl (true, 0, 40, .inl (-2147483648, 2147483647)),
  .inr (8, [(true, .inl (-2147483648, 2147483647)), (true, .inl (0, 511)), (true, .inr (some [112])), (true, .inr (some [113])), (true, .inl (-2147483648, 2147483647)), (true, .inl (-2147483648, 2147483647))]),
  .inl (true, 0, 9, .inl (-2147483648, 2147483647)),
  .inl (true, 0, 6, .inl (-2147483648, 2147483647)),
  .inr (1, [(true, .inr (some [115])), (true, .inr (some [116])), (true, .inr (some [117])), (true, .inl (0, 40))]),
  .inl (true, 0, 40, .inl (-2147483648, 2147483647)),
  .inl (true, 0, 40, .inl (-2147483648, 2147483647)),
  .inl (true, 0, 40, .inl (-2147483648, 2147483647)),
  .inr (8, [(true, .inl (-2147483648, 2147483647)), (true, .inl (0, 511)), (true, .inr (some [119])), (true, .inr (some [120])), (true, .inl (-2147483648, 2147483647)), (true, .inl (-2147483648, 2147483647))]),
  .inl (true, 0, 9, .inl (-2147483648, 2147483647)),
  .inl (true, 0, 6, .inl (-2147483648, 2147483647)),
  .inr (1, [(true, .inr (some [122])), (true, .inr (some [123])), (true, .inr (some [124])), (true, .inl (0, 40))]),
  .inl (true, 0, 40, .inl (-2147483648, 2147483647)),
  .inl (true, 0, 40, .inl (-2147483648, 2147483647)),
  .inl (true, 0, 40, .inl (-2147483648, 2147483647)),
  .inr (8, [(true, .inl (-2147483648, 2147483647)), (true, .inl (0, 511)), (true, .inr (some [126])), (true, .inr (some [127])), (true, .inl (-2147483648, 2147483647)), (true, .inl (-2147483648, 2147483647))]),
  .inl (true, 0, 9, .inl (-2147483648, 2147483647)),
  .inl (true, 0, 6, .inl (-2147483648, 2147483647)),
  .inr (1, [(true, .inr (some [129])), (true, .inr (some [130])), (true, .inr (some [131])), (true, .inl (0, 40))]),
  .inl (true, 0, 40, .inl (-2147483648, 2147483647)),
  .inl (true, 0, 40, .inl (-2147483648, 2147483647)),
  .inl (true, 0, 40, .inl (-2147483648, 2147483647)),
  .inr (8, [(true, .inl (-2147483648, 2147483647)), (true, .inl (0, 511)), (true, .inr (some [133])), (true, .inr (some [134])), (true, .inl (-2147483648, 2147483647)), (true, .inl (-2147483648, 2147483647))]),
  .inl (true, 0, 9, .inl (-2147483648, 2147483647)),
  .inl (true, 0, 6, .inl (-2147483648, 2147483647)),
  .inr (1, [(true, .inr (some [136])), (true, .inr (some [137])), (true, .inr (some [138])), (true, .inl (0, 40))]),
  .inl (true, 0, 40, .inl (-2147483648, 2147483647)),
  .inl (true, 0, 40, .inl (-2147483648, 2147483647)),
  .inl (true, 0, 40, .inl (-2147483648, 2147483647)),
  .inr (8, [(true, .inl (-2147483648, 2147483647)), (true, .inl (0, 511)), (true, .inr (some [140])), (true, .inr (some [141])), (true, .inl (-2147483648, 2147483647)), (true, .inl (-2147483648, 2147483647))]),
  .inl (true, 0, 9, .inl (-2147483648, 2147483647)),
  .inl (true, 0, 6, .inl (-2147483648, 2147483647)),
  .inr (1, [(true, .inr (some [143])), (true, .inr (some [144])), (true, .inr (some [145])), (true, .inl (0, 40))]),
  .inl (true, 0, 40, .inl (-2147483648, 2147483647)),
  .inl (true, 0, 40, .inl (-2147483648, 2147483647)),
  .inl (true, 0, 40, .inl (-2147483648, 2147483647)),
  .inr (8, [(true, .inl (-2147483648, 2147483647)), (true, .inl (0, 511)), (true, .inr (some [147])), (true, .inr (some [148])), (true, .inl (-2147483648, 2147483647)), (true, .inl (-2147483648, 2147483647))]),
  .inl (true, 0, 9, .inl (-2147483648, 2147483647)),
  .inl (true, 0, 6, .inl (-2147483648, 2147483647)),
  .inr (1, [(true, .inr (some [150])), (true, .inr (some [151])), (true, .inr (some [152])), (true, .inl (0, 40))]),
  .inl (true, 0, 40, .inl (-2147483648, 2147483647)),
  .inl (true, 0, 40, .inl (-2147483648, 2147483647)),
  .inl (true, 0, 40, .inl (-2147483648, 2147483647)),
  .inr (8, [(true, .inl (-2147483648, 2147483647)), (true, .inl (0, 511)), (true, .inr (some [154])), (true, .inr (some [155])), (true, .inl (-2147483648, 2147483647)), (true, .inl (-2147483648, 2147483647))]),
  .inl (true, 0, 9, .inl (-2147483648, 2147483647)),
  .inl (true, 0, 6, .inl (-2147483648, 2147483647)),
  .inr (1, [(true, .inr (some [157])), (true, .inr (some [158])), (true, .inr (some [159])), (true, .inl (0, 40))]),
  .inl (true, 0, 40, .inl (-2147483648, 2147483647)),
  .inl (true, 0, 40, .inl (-2147483648, 2147483647)),
  .inl (true, 0, 40, .inl (-2147483648, 2147483647)),
  .inr (8, [(true, .inl (-2147483648, 2147483647)), (true, .inl (0, 511)), (true, .inr (some [161])), (true, .inr (some [162])), (true, .inl (-2147483648, 2147483647)), (true, .inl (-2147483648, 2147483647))]),
  .inl (true, 0, 9, .inl (-2147483648, 2147483647)),
  .inl (true, 0, 6, .inl (-2147483648, 2147483647)),
  .inr (1, [(true, .inr (some [164])), (true, .inr (some [165])), (true, .inr (some [166])), (true, .inl (0, 40))]),
  .inl (true, 0, 40, .inl (-2147483648, 2147483647)),
  .inl (true, 0, 40, .inl (-2147483648, 2147483647)),
  .inl (true, 0, 40, .inl (-2147483648, 2147483647)),
  .inr (8, [(true, .inl (-2147483648, 2147483647)), (true, .inl (0, 511)), (true, .inr (some [168])), (true, .inr (some [169])), (true, .inl (-2147483648, 2147483647)), (true, .inl (-2147483648, 2147483647))]),
  .inl (true, 0, 9, .inl (-2147483648, 2147483647)),
  .inl (true, 0, 6, .inl (-2147483648, 2147483647)),
  .inr (1, [(true, .inr (some [171])), (true, .inr (some [172])), (true, .inr (some [173])), (true, .inl (0, 40))]),
  .inl (true, 0, 40, .inl (-2147483648, 2147483647)),
  .inl (true, 0, 40, .inl (-2147483648, 2147483647)),
  .inl (true, 0, 40, .inl (-2147483648, 2147483647)),
  .inr (8, [(true, .inl (-2147483648, 2147483647)), (true, .inl (0, 511)), (true, .inr (some [175])), (true, .inr (some [176])), (true, .inl (-2147483648, 2147483647)), (true, .inl (-2147483648, 2147483647))]),
  .inl (true, 0, 9, .inl (-2147483648, 2147483647)),
  .inl (true, 0, 6, .inl (-2147483648, 2147483647)),
  .inr (1, [(true, .inr (some [178])), (true, .inr (some [179])), (true, .inr (some [180])), (true, .inl (0, 40))]),
  .inl (true, 0, 40, .inl (-2147483648, 2147483647)),
  .inl (true, 0, 40, .inl (-2147483648, 2147483647)),
  .inl (true, 0, 40, .inl (-2147483648, 2147483647)),
  .inr (0, [(true, .inr (some [2, 14])), (false, .inr (some [182])), (false, .inr (some [184])), (false, .inl (0, 511)), (false, .inl (0, 511))]),
  .inr (6, [(false, .inr (some [183])), (false, .inl (-2147483648, 2147483647)), (false, .inl (-2147483648, 2147483647)), (false, .inl (-2147483648, 2147483647)), (false, .inl (-2147483648, 2147483647)), (false, .inl (-2147483648, 2147483647)), (false, .inl (-2147483648, 2147483647))]),
  .inl (false, 0, 128, .inl (-2147483648, 2147483647)),
  .inl (false, 1, 49, .inr none),
  .inr (3, [(false, .inr (some [181])), (false, .inr (some [186])), (false, .inr (some [187])), (false, .inr (some [188])), (false, .inr (some [189])), (false, .inr (some [190])), (false, .inl (-2147483648, 2147483647)), (false, .inl (-2147483648, 2147483647)), (false, .inr (some [191])), (false, .inl (0, 400)), (false, .inl (-2147483648, 2147483647)), (false, .inl (-2147483648, 2147483647)), (false, .inl (-2147483648, 2147483647))]),
  .inl (false, 3, 9, .inr (some [192, 195, 198, 201, 204, 207, 210, 213, 216])),
  .inl (false, 1, 9, .inr none),
  .inl (false, 0, 54, .inl (-2147483648, 2147483647)),
  .inl (false, 0, 3584, .inl (-2147483648, 2147483647)),
  .inl (false, 0, 6, .inl (-2147483648, 2147483647)),
  .inl (false, 0, 64, .inl (0, 255)),
  .inr (8, [(false, .inl (-2147483648, 2147483647)), (false, .inl (0, 511)), (false, .inr (some [193])), (false, .inr (some [194])), (false, .inl (-2147483648, 2147483647)), (false, .inl (-2147483648, 2147483647))]),
  .inl (false, 0, 9, .inl (-2147483648, 2147483647)),
  .inl (false, 0, 6, .inl (-2147483648, 2147483647)),
  .inr (8, [(false, .inl (-2147483648, 2147483647)), (false, .inl (0, 511)), (false, .inr (some [196])), (false, .inr (some [197])), (false, .inl (-2147483648, 2147483647)), (false, .inl (-2147483648, 2147483647))]),
  .inl (false, 0, 9, .inl (-2147483648, 2147483647)),
  .inl (false, 0, 6, .inl (-2147483648, 2147483647)),
  .inr (8, [(false, .inl (-2147483648, 2147483647)), (false, .inl (0, 511)), (false, .inr (some [199])), (false, .inr (some [200])), (false, .inl (-2147483648, 2147483647)), (false, .inl (-2147483648, 2147483647))]),
  .inl (false, 0, 9, .inl (-2147483648, 2147483647)),
  .inl (false, 0, 6, .inl (-2147483648, 2147483647)),
  .inr (8, [(false, .inl (-2147483648, 2147483647)), (false, .inl (0, 511)), (false, .inr (some [202])), (false, .inr (some [203])), (false, .inl (-2147483648, 2147483647)), (false, .inl (-2147483648, 2147483647))]),
  .inl (false, 0, 9, .inl (-2147483648, 2147483647)),
  .inl (false, 0, 6, .inl (-2147483648, 2147483647)),
  .inr (8, [(false, .inl (-2147483648, 2147483647)), (false, .inl (0, 511)), (false, .inr (some [205])), (false, .inr (some [206])), (false, .inl (-2147483648, 2147483647)), (false, .inl (-2147483648, 2147483647))]),
  .inl (false, 0, 9, .inl (-2147483648, 2147483647)),
  .inl (false, 0, 6, .inl (-2147483648, 2147483647)),
  .inr (8, [(false, .inl (-2147483648, 2147483647)), (false, .inl (0, 511)), (false, .inr (some [208])), (false, .inr (some [209])), (false, .inl (-2147483648, 2147483647)), (false, .inl (-2147483648, 2147483647))]),
  .inl (false, 0, 9, .inl (-2147483648, 2147483647)),
  .inl (false, 0, 6, .inl (-2147483648, 2147483647)),
  .inr (8, [(false, .inl (-2147483648, 2147483647)), (false, .inl (0, 511)), (false, .inr (some [211])), (false, .inr (some [212])), (false, .inl (-2147483648, 2147483647)), (false, .inl (-2147483648, 2147483647))]),
  .inl (false, 0, 9, .inl (-2147483648, 2147483647)),
  .inl (false, 0, 6, .inl (-2147483648, 2147483647)),
  .inr (8, [(false, .inl (-2147483648, 2147483647)), (false, .inl (0, 511)), (false, .inr (some [214])), (false, .inr (some [215])), (false, .inl (-2147483648, 2147483647)), (false, .inl (-2147483648, 2147483647))]),
  .inl (false, 0, 9, .inl (-2147483648, 2147483647)),
  .inl (false, 0, 6, .inl (-2147483648, 2147483647)),
  .inr (8, [(false, .inl (-2147483648, 2147483647)), (false, .inl (0, 511)), (false, .inr (some [217])), (false, .inr (some [218])), (false, .inl (-2147483648, 2147483647)), (false, .inl (-2147483648, 2147483647))]),
  .inl (false, 0, 9, .inl (-2147483648, 2147483647)),
  .inl (false, 0, 6, .inl (-2147483648, 2147483647)),
  .inl (false, 0, 33, .inl (-2147483648, 2147483647)),
  .inl (false, 0, 6, .inl (-2147483648, 2147483647)),
  .inr (12, [(true, .inr (some [222])), (true, .inl (0, 1600)), (true, .inl (0, 1600)), (true, .inl (-2147483648, 2147483647)), (true, .inl (0, 1600)), (true, .inl (0, 1600)), (true, .inl (-2147483648, 2147483647)), (true, .inr none), (true, .inl (-2147483648, 2147483647)), (true, .inl (-2147483648, 2147483647)), (true, .inl (-2147483648, 2147483647)), (true, .inl (-2147483648, 2147483647)), (true, .inl (-2147483648, 2147483647)), (true, .inl (0, 1)), (true, .inr (some [223])), (true, .inr (some [224])), (true, .inr (some [225])), (true, .inr (some [226])), (true, .inr (some [227])), (true, .inr (some [228])), (true, .inr (some [229])), (true, .inr (some [230])), (true, .inr (some [231])), (true, .inr (some [232])), (true, .inr (some [233])), (true, .inr (some [234])), (true, .inr (some [235])), (true, .inr (some [236])), (true, .inr (some [237])), (true, .inr (some [238])), (true, .inr (some [239])), (true, .inr (some [240])), (true, .inr (some [241])), (true, .inl (-2147483648, 2147483647)), (true, .inl (0, 1)), (true, .inl (-2147483648, 2147483647)), (true, .inr (some [242])), (true, .inr (some [243])), (true, .inr (some [244])), (true, .inr (some [245])), (true, .inr (some [246])), (true, .inl (-2147483648, 2147483647)), (true, .inl (-2147483648, 2147483647)), (true, .inr (some [247])), (true, .inl (-2147483648, 2147483647)), (true, .inl (0, 1)), (true, .inl (0, 1)), (true, .inr (some [248])), (true, .inr (some [249])), (true, .inr (some [250])), (true, .inr (some [251])), (true, .inr (some [252])), (true, .inr (some [253])), (true, .inr (some [254])), (true, .inl (0, 19)), (true, .inl (0, 20)), (true, .inr none), (true, .inr (some [255])), (true, .inr (some [256])), (true, .inr (some [257])), (true, .inr (some [258])), (true, .inr (some [259])), (true, .inr (some [260])), (true, .inr (some [261])), (true, .inr (some [262])), (true, .inr (some [263])), (true, .inl (0, 16)), (true, .inr (some [264])), (true, .inr (some [265])), (true, .inr (some [266])), (true, .inr (some [267])), (true, .inr (some [268])), (true, .inl (0, 33))]),
  .inl (true, 0, 1800, .inl (0, 255)),
  .inl (true, 0, 2, .inl (-2147483648, 2147483647)),
  .inl (true, 0, 2, .inl (-2147483648, 2147483647)),
  .inl (true, 0, 2, .inl (-2147483648, 2147483647)),
  .inl (true, 0, 2, .inl (-2147483648, 2147483647)),
  .inl (true, 0, 128, .inl (0, 1)),
  .inl (true, 0, 2, .inl (0, 9)),
  .inl (true, 0, 18, .inl (0, 63)),
  .inl (true, 0, 18, .inl (-2147483648, 2147483647)),
  .inl (true, 0, 18, .inl (-2147483648, 2147483647)),
  .inl (true, 0, 2, .inl (0, 511)),
  .inl (true, 0, 2, .inl (0, 6)),
  .inl (true, 0, 12, .inl (0, 63)),
  .inl (true, 0, 12, .inl (0, 63)),
  .inl (true, 0, 6, .inl (-2147483648, 2147483647)),
  .inl (true, 0, 6, .inl (-2147483648, 2147483647)),
  .inl (true, 0, 3200, .inl (-2147483648, 2147483647)),
  .inl (true, 0, 3200, .inl (-2147483648, 2147483647)),
  .inl (true, 1, 18, .inr none),
  .inl (true, 1, 12, .inr none),
  .inl (true, 0, 20, .inl (-2147483648, 2147483647)),
  .inl (true, 0, 20, .inl (-2147483648, 2147483647)),
  .inl (true, 2, 20, .inl (0, 1)),
  .inl (true, 0, 20, .inl (-2147483648, 2147483647)),
  .inl (true, 0, 20, .inl (-2147483648, 2147483647)),
  .inl (true, 0, 500, .inl (-2147483648, 2147483647)),
  .inl (true, 0, 6, .inl (-2147483648, 2147483647)),
  .inl (true, 0, 22, .inl (-2147483648, 2147483647)),
  .inl (true, 0, 22, .inl (0, 511)),
  .inl (true, 0, 198, .inl (-2147483648, 2147483647)),
  .inl (true, 0, 132, .inl (0, 63)),
  .inl (true, 0, 22, .inl (0, 40)),
  .inl (true, 0, 2640, .inl (-2147483648, 2147483647)),
  .inl (true, 0, 9, .inl (-2147483648, 2147483647)),
  .inl (true, 1, 500, .inr none),
  .inl (true, 0, 10, .inl (-2147483648, 2147483647)),
  .inl (true, 0, 64, .inl (-2147483648, 2147483647)),
  .inl (true, 0, 64, .inl (-2147483648, 2147483647)),
  .inl (true, 0, 64, .inl (0, 63)),
  .inl (true, 0, 64, .inl (0, 511)),
  .inl (true, 0, 54, .inl (-2147483648, 2147483647)),
  .inl (true, 0, 3584, .inl (-2147483648, 2147483647)),
  .inl (true, 0, 16, .inl (0, 255)),
  .inl (true, 0, 16, .inl (0, 5)),
  .inl (true, 0, 16, .inl (-2147483648, 2147483647)),
  .inl (true, 0, 1674, .inl (-2147483648, 2147483647)),
  .inl (true, 0, 50, .inl (-2147483648, 2147483647))]
noncomputable abbrev aΘ10 (E : zM → Prop) : aTh := (aT10, E, zpg)
def aH84 (E : zM → Prop) : Prop := aEs (aΘ10 E) ∧ True
abbrev c84_X11_refused : aCt := (145, [.inr (some [0]), .inl (0, 0)], some (.inl (0, 0)))
def a84_X11_refused_0 : List (Nat × aF) := [(0, a_lda 0 1), (1, a_gf aT10 11 14 (.inr (some [220]))), (4, a_ldi 1 1), (5, a_d22), (6, a_al aT10 0 (-2147483648, 2147483647)), (7, a_pi (1) 1), (8, a_b2 g_add), (9, a_as aT10 0), (10, a_pi (0) 1), (11, a_ri true)]
theorem p84_X11_refused_0 {E : zM → Prop} (h : aH84 E) : aP0 (aΘ10 E) 0 tX11_refused_0 a84_X11_refused_0 := ⟨rfl, aok_lda, rfl, aok_gf, rfl, aok_ldi, rfl, aok_d22, rfl, aok_al, rfl, aok_pi rfl, rfl, aok_b2 sd_add, rfl, aok_as h.1, rfl, aok_pi rfl, rfl, aok_ri, trivial⟩
def b84_X11_refused : aTb := [(100000, a84_X11_refused_0)]
theorem q84_X11_refused {E : zM → Prop} (h : aH84 E) : aP1 (aΘ10 E) 0 tX11_refused b84_X11_refused := ⟨rfl, p84_X11_refused_0 h, trivial⟩
def n84_X11_refused : List aNd := []
theorem k84_X11_refused {E : zM → Prop} (h : aH84 E) : aCv (aΘ10 E) 1 c84_X11_refused := aMeth (D := 0) (c := c84_X11_refused) (tb := b84_X11_refused) (ns := n84_X11_refused) (fuel := 3000) rfl (q84_X11_refused h) (by decide +kernel)
abbrev c84_X11_end : aCt := (113, [.inr (some [0]), .inl (-2147483648, 2147483647)], some (.inl (0, 1)))
def a84_X11_end_0 : List (Nat × aF) := [(0, a_ldi 1 1), (1, a_if c_lt c_ge 3 12), (4, a_ldi 1 1), (5, a_lda 0 1), (6, a_gf aT10 11 1 (.inl (0, 1600))), (9, a_ic d_le d_gt 3 18), (12, a_lda 0 1), (13, a_pi (0) 1), (14, a_cv aT10 c84_X11_refused 1 11), (17, a_ri true), (18, a_lda 0 1), (19, a_ldi 1 1)]
theorem p84_X11_end_0 {E : zM → Prop} (h : aH84 E) : aP0 (aΘ10 E) 1 tX11_end_0 a84_X11_end_0 := ⟨rfl, aok_ldi, rfl, aok_if si_lt, rfl, aok_ldi, rfl, aok_lda, rfl, aok_gf, rfl, aok_ic sj_le, rfl, aok_lda, rfl, aok_pi rfl, rfl, aok_cv (c := c84_X11_refused) (D' := 1) (k84_X11_refused h) (by decide), rfl, aok_ri, rfl, aok_lda, rfl, aok_ldi, trivial⟩
def a84_X11_end_1 : List (Nat × aF) := [(20, a_pf aT10 11 1 (.int)), (23, a_pi (1) 1), (24, a_ri true)]
theorem p84_X11_end_1 {E : zM → Prop} (h : aH84 E) : aP0 (aΘ10 E) 1 tX11_end_1 a84_X11_end_1 := ⟨rfl, aok_pf h.1, rfl, aok_pi rfl, rfl, aok_ri, trivial⟩
def b84_X11_end : aTb := [(20, a84_X11_end_0), (100000, a84_X11_end_1)]
theorem q84_X11_end {E : zM → Prop} (h : aH84 E) : aP1 (aΘ10 E) 1 tX11_end b84_X11_end := ⟨rfl, p84_X11_end_0 h, rfl, p84_X11_end_1 h, trivial⟩
def n84_X11_end : List aNd := []
theorem k84_X11_end {E : zM → Prop} (h : aH84 E) : aCv (aΘ10 E) 2 c84_X11_end := aMeth (D := 1) (c := c84_X11_end) (tb := b84_X11_end) (ns := n84_X11_end) (fuel := 3000) rfl (q84_X11_end h) (by decide +kernel)
abbrev c84_X11_takeTape : aCt := (147, [.inr (some [0])], some (.inl (0, 1600)))
def a84_X11_takeTape_0 : List (Nat × aF) := [(0, a_lda 0 1), (1, a_gf aT10 11 1 (.inl (0, 1600))), (4, a_sti 2 1 1), (5, a_lda 0 1), (6, a_pi (0) 1), (7, a_pf aT10 11 1 (.int)), (10, a_ldi 1 1), (11, a_ri false)]
theorem p84_X11_takeTape_0 {E : zM → Prop} (h : aH84 E) : aP0 (aΘ10 E) 0 tX11_takeTape_0 a84_X11_takeTape_0 := ⟨rfl, aok_lda, rfl, aok_gf, rfl, aok_sti, rfl, aok_lda, rfl, aok_pi rfl, rfl, aok_pf h.1, rfl, aok_ldi, rfl, aok_ri, trivial⟩
def b84_X11_takeTape : aTb := [(100000, a84_X11_takeTape_0)]
theorem q84_X11_takeTape {E : zM → Prop} (h : aH84 E) : aP1 (aΘ10 E) 0 tX11_takeTape b84_X11_takeTape := ⟨rfl, p84_X11_takeTape_0 h, trivial⟩
def n84_X11_takeTape : List aNd := []
theorem k84_X11_takeTape {E : zM → Prop} (h : aH84 E) : aCv (aΘ10 E) 1 c84_X11_takeTape := aMeth (D := 0) (c := c84_X11_takeTape) (tb := b84_X11_takeTape) (ns := n84_X11_takeTape) (fuel := 3000) rfl (q84_X11_takeTape h) (by decide +kernel)
abbrev c84_X4_hasCell : aCt := (50, [.inr (some [2, 14]), .inl (0, 255), .inl (0, 255)], some (.inl (0, 1)))
def a84_X4_hasCell_0 : List (Nat × aF) := [(0, a_ldi 1 1), (1, a_if c_lt c_ge 3 28), (4, a_ldi 1 1), (5, a_lda 0 1), (6, a_gf aT10 4 1 (.inl (-2147483648, 2147483647))), (9, a_ic d_ge d_lt 3 28), (12, a_ldi 2 1), (13, a_if c_lt c_ge 3 28), (16, a_ldi 2 1), (17, a_lda 0 1), (18, a_gf aT10 4 2 (.inl (-2147483648, 2147483647))), (21, a_ic d_ge d_lt 3 28)]
theorem p84_X4_hasCell_0 {E : zM → Prop} (h : aH84 E) : aP0 (aΘ10 E) 0 tX4_hasCell_0 a84_X4_hasCell_0 := ⟨rfl, aok_ldi, rfl, aok_if si_lt, rfl, aok_ldi, rfl, aok_lda, rfl, aok_gf, rfl, aok_ic sj_ge, rfl, aok_ldi, rfl, aok_if si_lt, rfl, aok_ldi, rfl, aok_lda, rfl, aok_gf, rfl, aok_ic sj_ge, trivial⟩
def a84_X4_hasCell_1 : List (Nat × aF) := [(24, a_pi (1) 1), (25, a_gt 29), (28, a_pi (0) 1), (29, a_ri true)]
theorem p84_X4_hasCell_1 {E : zM → Prop} (h : aH84 E) : aP0 (aΘ10 E) 0 tX4_hasCell_1 a84_X4_hasCell_1 := ⟨rfl, aok_pi rfl, rfl, aok_gt, rfl, aok_pi rfl, rfl, aok_ri, trivial⟩
def b84_X4_hasCell : aTb := [(24, a84_X4_hasCell_0), (100000, a84_X4_hasCell_1)]
theorem q84_X4_hasCell {E : zM → Prop} (h : aH84 E) : aP1 (aΘ10 E) 0 tX4_hasCell b84_X4_hasCell := ⟨rfl, p84_X4_hasCell_0 h, rfl, p84_X4_hasCell_1 h, trivial⟩
def n84_X4_hasCell : List aNd := []
theorem k84_X4_hasCell {E : zM → Prop} (h : aH84 E) : aCv (aΘ10 E) 1 c84_X4_hasCell := aMeth (D := 0) (c := c84_X4_hasCell) (tb := b84_X4_hasCell) (ns := n84_X4_hasCell) (fuel := 3000) rfl (q84_X4_hasCell h) (by decide +kernel)
abbrev c84_X3_takesMet : aCt := (40, [.inr (some [185]), .inr (some [1]), .inl (0, 1600)], some (.inl (0, 1)))
def a84_X3_takesMet_0 : List (Nat × aF) := [(0, a_ldi 2 1), (1, a_pi (4) 1), (2, a_ic d_lt d_ge 3 20), (5, a_ldi 2 1), (6, a_lda 0 1), (7, a_gf aT10 3 8 (.inr (some [191]))), (10, a_len aT10 0 64), (11, a_ic d_gt d_le 3 20), (14, a_ldi 2 1), (15, a_pi (4) 1), (16, a_d2 g_rem), (17, a_if c_eq c_ne 3 22)]
theorem p84_X3_takesMet_0 {E : zM → Prop} (h : aH84 E) : aP0 (aΘ10 E) 1 tX3_takesMet_0 a84_X3_takesMet_0 := ⟨rfl, aok_ldi, rfl, aok_pi rfl, rfl, aok_ic sj_lt, rfl, aok_ldi, rfl, aok_lda, rfl, aok_gf, rfl, aok_len, rfl, aok_ic sj_gt, rfl, aok_ldi, rfl, aok_pi rfl, rfl, aok_d2 sp_rem, rfl, aok_if si_eq, trivial⟩
def a84_X3_takesMet_1 : List (Nat × aF) := [(20, a_pi (0) 1), (21, a_ri true), (22, a_pi (0) 1), (23, a_sti 4 3 1), (24, a_ldi 3 1), (25, a_ldi 2 1), (26, a_ic d_ge d_lt 3 86), (29, a_lda 1 1), (30, a_ldi 3 1), (31, a_al aT10 0 (0, 255)), (32, a_pi (30) 2), (34, a_ic d_gt d_le 3 78)]
theorem p84_X3_takesMet_1 {E : zM → Prop} (h : aH84 E) : aP0 (aΘ10 E) 1 tX3_takesMet_1 a84_X3_takesMet_1 := ⟨rfl, aok_pi rfl, rfl, aok_ri, rfl, aok_pi rfl, rfl, aok_sti, rfl, aok_ldi, rfl, aok_ldi, rfl, aok_ic sj_ge, rfl, aok_lda, rfl, aok_ldi, rfl, aok_al, rfl, aok_pi rfl, rfl, aok_ic sj_gt, trivial⟩
def a84_X3_takesMet_2 : List (Nat × aF) := [(37, a_lda 1 1), (38, a_ldi 3 1), (39, a_pi (1) 1), (40, a_b2 g_add), (41, a_al aT10 0 (0, 255)), (42, a_lda 0 1), (43, a_gf aT10 3 0 (.inr (some [181]))), (46, a_gf aT10 0 0 (.inr (some [2, 14]))), (49, a_gf aT10 4 13 (.inl (0, 6))), (52, a_ic d_ge d_lt 3 78), (55, a_lda 0 1), (56, a_gf aT10 3 0 (.inr (some [181])))]
theorem p84_X3_takesMet_2 {E : zM → Prop} (h : aH84 E) : aP0 (aΘ10 E) 1 tX3_takesMet_2 a84_X3_takesMet_2 := ⟨rfl, aok_lda, rfl, aok_ldi, rfl, aok_pi rfl, rfl, aok_b2 sd_add, rfl, aok_al, rfl, aok_lda, rfl, aok_gf, rfl, aok_gf, rfl, aok_gf, rfl, aok_ic sj_ge, rfl, aok_lda, rfl, aok_gf, trivial⟩
def a84_X3_takesMet_3 : List (Nat × aF) := [(59, a_gf aT10 0 0 (.inr (some [2, 14]))), (62, a_lda 1 1), (63, a_ldi 3 1), (64, a_pi (2) 1), (65, a_b2 g_add), (66, a_al aT10 0 (0, 255)), (67, a_lda 1 1), (68, a_ldi 3 1), (69, a_pi (3) 1), (70, a_b2 g_add), (71, a_al aT10 0 (0, 255)), (72, a_cv aT10 c84_X4_hasCell 2 4)]
theorem p84_X3_takesMet_3 {E : zM → Prop} (h : aH84 E) : aP0 (aΘ10 E) 1 tX3_takesMet_3 a84_X3_takesMet_3 := ⟨rfl, aok_gf, rfl, aok_lda, rfl, aok_ldi, rfl, aok_pi rfl, rfl, aok_b2 sd_add, rfl, aok_al, rfl, aok_lda, rfl, aok_ldi, rfl, aok_pi rfl, rfl, aok_b2 sd_add, rfl, aok_al, rfl, aok_cv (c := c84_X4_hasCell) (D' := 1) (k84_X4_hasCell h) (by decide), trivial⟩
def a84_X3_takesMet_4 : List (Nat × aF) := [(75, a_if c_ne c_eq 3 80), (78, a_pi (0) 1), (79, a_ri true), (80, a_iw 4 3 (4)), (83, a_gt 24), (86, a_lda 1 1), (87, a_pi (0) 1), (88, a_lda 0 1), (89, a_gf aT10 3 8 (.inr (some [191]))), (92, a_pi (0) 1), (93, a_ldi 2 1), (94, a_cp aT10 0 (0, 255))]
theorem p84_X3_takesMet_4 {E : zM → Prop} (h : aH84 E) : aP0 (aΘ10 E) 1 tX3_takesMet_4 a84_X3_takesMet_4 := ⟨rfl, aok_if si_ne, rfl, aok_pi rfl, rfl, aok_ri, rfl, aok_iw rfl, rfl, aok_gt, rfl, aok_lda, rfl, aok_pi rfl, rfl, aok_lda, rfl, aok_gf, rfl, aok_pi rfl, rfl, aok_ldi, rfl, aok_cp h.1, trivial⟩
def a84_X3_takesMet_5 : List (Nat × aF) := [(97, a_lda 0 1), (98, a_ldi 2 1), (99, a_pi (4) 1), (100, a_d2 g_div), (101, a_pf aT10 3 9 (.int)), (104, a_pi (1) 1), (105, a_ri true)]
theorem p84_X3_takesMet_5 {E : zM → Prop} (h : aH84 E) : aP0 (aΘ10 E) 1 tX3_takesMet_5 a84_X3_takesMet_5 := ⟨rfl, aok_lda, rfl, aok_ldi, rfl, aok_pi rfl, rfl, aok_d2 sp_div, rfl, aok_pf h.1, rfl, aok_pi rfl, rfl, aok_ri, trivial⟩
def b84_X3_takesMet : aTb := [(20, a84_X3_takesMet_0), (37, a84_X3_takesMet_1), (59, a84_X3_takesMet_2), (75, a84_X3_takesMet_3), (97, a84_X3_takesMet_4), (100000, a84_X3_takesMet_5)]
theorem q84_X3_takesMet {E : zM → Prop} (h : aH84 E) : aP1 (aΘ10 E) 1 tX3_takesMet b84_X3_takesMet := ⟨rfl, p84_X3_takesMet_0 h, rfl, p84_X3_takesMet_1 h, rfl, p84_X3_takesMet_2 h, rfl, p84_X3_takesMet_3 h, rfl, p84_X3_takesMet_4 h, rfl, p84_X3_takesMet_5 h, trivial⟩
def n84_X3_takesMet : List aNd := [(24, [(0, .inr (some [185])), (1, .inr (some [1])), (2, .inl (4, 64)), (3, .inl (0, 67))], [(3, -1)], 67)]
theorem k84_X3_takesMet {E : zM → Prop} (h : aH84 E) : aCv (aΘ10 E) 2 c84_X3_takesMet := aMeth (D := 1) (c := c84_X3_takesMet) (tb := b84_X3_takesMet) (ns := n84_X3_takesMet) (fuel := 3000) rfl (q84_X3_takesMet h) (by decide +kernel)
abbrev c84_X11_refuse : aCt := (144, [.inr (some [0]), .inl (5, 5)], some (.inl (-1, -1)))
def a84_X11_refuse_0 : List (Nat × aF) := [(0, a_lda 0 1), (1, a_gf aT10 11 14 (.inr (some [220]))), (4, a_ldi 1 1), (5, a_d22), (6, a_al aT10 0 (-2147483648, 2147483647)), (7, a_pi (1) 1), (8, a_b2 g_add), (9, a_as aT10 0), (10, a_pi (-1) 1), (11, a_ri false)]
theorem p84_X11_refuse_0 {E : zM → Prop} (h : aH84 E) : aP0 (aΘ10 E) 0 tX11_refuse_0 a84_X11_refuse_0 := ⟨rfl, aok_lda, rfl, aok_gf, rfl, aok_ldi, rfl, aok_d22, rfl, aok_al, rfl, aok_pi rfl, rfl, aok_b2 sd_add, rfl, aok_as h.1, rfl, aok_pi rfl, rfl, aok_ri, trivial⟩
def b84_X11_refuse : aTb := [(100000, a84_X11_refuse_0)]
theorem q84_X11_refuse {E : zM → Prop} (h : aH84 E) : aP1 (aΘ10 E) 0 tX11_refuse b84_X11_refuse := ⟨rfl, p84_X11_refuse_0 h, trivial⟩
def n84_X11_refuse : List aNd := []
theorem k84_X11_refuse {E : zM → Prop} (h : aH84 E) : aCv (aΘ10 E) 1 c84_X11_refuse := aMeth (D := 0) (c := c84_X11_refuse) (tb := b84_X11_refuse) (ns := n84_X11_refuse) (fuel := 3000) rfl (q84_X11_refuse h) (by decide +kernel)
abbrev c84_X11_meet : aCt := (129, [.inr (some [0])], some (.inl (-1, 400)))
def a84_X11_meet_0 : List (Nat × aF) := [(0, a_lda 0 1), (1, a_cv aT10 c84_X11_takeTape 0 11), (4, a_sti 2 1 1), (5, a_lda 0 1), (6, a_gf aT10 11 11 (.inr (some [185]))), (9, a_lda 0 1), (10, a_gf aT10 11 0 (.inr (some [1]))), (13, a_ldi 1 1), (14, a_cv aT10 c84_X3_takesMet 2 3), (17, a_if c_eq c_ne 3 30), (20, a_lda 0 1), (21, a_gf aT10 11 11 (.inr (some [185])))]
theorem p84_X11_meet_0 {E : zM → Prop} (h : aH84 E) : aP0 (aΘ10 E) 2 tX11_meet_0 a84_X11_meet_0 := ⟨rfl, aok_lda, rfl, aok_cv (c := c84_X11_takeTape) (D' := 1) (k84_X11_takeTape h) (by decide), rfl, aok_sti, rfl, aok_lda, rfl, aok_gf, rfl, aok_lda, rfl, aok_gf, rfl, aok_ldi, rfl, aok_cv (c := c84_X3_takesMet) (D' := 2) (k84_X3_takesMet h) (by decide), rfl, aok_if si_eq, rfl, aok_lda, rfl, aok_gf, trivial⟩
def a84_X11_meet_1 : List (Nat × aF) := [(24, a_gf aT10 3 9 (.inl (0, 400))), (27, a_gt 35), (30, a_lda 0 1), (31, a_pi (5) 1), (32, a_cv aT10 c84_X11_refuse 1 11), (35, a_ri false)]
theorem p84_X11_meet_1 {E : zM → Prop} (h : aH84 E) : aP0 (aΘ10 E) 2 tX11_meet_1 a84_X11_meet_1 := ⟨rfl, aok_gf, rfl, aok_gt, rfl, aok_lda, rfl, aok_pi rfl, rfl, aok_cv (c := c84_X11_refuse) (D' := 1) (k84_X11_refuse h) (by decide), rfl, aok_ri, trivial⟩
def b84_X11_meet : aTb := [(24, a84_X11_meet_0), (100000, a84_X11_meet_1)]
theorem q84_X11_meet {E : zM → Prop} (h : aH84 E) : aP1 (aΘ10 E) 2 tX11_meet b84_X11_meet := ⟨rfl, p84_X11_meet_0 h, rfl, p84_X11_meet_1 h, trivial⟩
def n84_X11_meet : List aNd := []
theorem k84_X11_meet {E : zM → Prop} (h : aH84 E) : aCv (aΘ10 E) 3 c84_X11_meet := aMeth (D := 2) (c := c84_X11_meet) (tb := b84_X11_meet) (ns := n84_X11_meet) (fuel := 3000) rfl (q84_X11_meet h) (by decide +kernel)
theorem aLw_010 : aLw aT0 aT10 = true := by decide +kernel
